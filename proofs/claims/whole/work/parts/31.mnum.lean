/-! ===== the model's reader: numbers, words ===== -/
def ws (w : Int64) (i : Nat) : Int64 := (w.toUInt64 >>> ((nI 8 * nI i).toInt64.toUInt64 &&& Int64.toUInt64 63)).toInt64
/-- the long holds literal j -/
def wOk (w : Int64) (j : Nat) : Prop := p_slen j < 8 ∧ (∀ i, i < p_slen j → ¬ ws w i = 0) ∧ ws w (p_slen j) = 0 ∧ ∀ k, k < p_slen j → (ws w (p_slen j - 1 - k) &&& 255).toInt32 = p_schr j k
theorem wOk_0 : wOk 1718773093 0 := by unfold wOk; decide +kernel
theorem wOk_1 : wOk 7170414 1 := by unfold wOk; decide +kernel
theorem wOk_2 : wOk 7168376 2 := by unfold wOk; decide +kernel
theorem wOk_3 : wOk 1937007984 3 := by unfold wOk; decide +kernel
def MKA (a a' : Nat → Nat → Int32) : Prop := ∀ j, j < 15 ∨ 26 < j → a' j = a j
def MKZ (z z' : Nat → Int32) : Prop := ∀ k, k < 8 ∨ k = 10 ∨ k = 13 ∨ k = 14 ∨ 16 < k → z' k = z k
def mv (a : Nat → Nat → Int32) (x : Nat) (v : pN) : Prop := a 15 x = nI v.1 ∧ a 16 x = nI v.2.1 ∧ a 17 x = nI v.2.2.1 - nI 1 ∧ a 20 x = nI v.2.2.2.2.length ∧ ∀ k q, v.2.2.2.2[k]? = some q → a 21 (6 * x + k) = nI q.1 ∧ a 22 (6 * x + k) = nI q.2
def LKA (a a' : Nat → Nat → Int32) (b : Nat) : Prop := (∀ j, j < 15 ∨ 22 < j → a' j = a j) ∧ (∀ j, j ≠ b → mnv a' j = mnv a j) ∧ ∀ i, i < 6 * b → a' 21 i = a 21 i ∧ a' 22 i = a 22 i
theorem MKA.rf (a : Nat → Nat → Int32) : MKA a a := fun _ _ => rfl
theorem MKA.tr {a b c : Nat → Nat → Int32} (h : MKA a b) (h2 : MKA b c) : MKA a c := fun j hj => (h2 j hj).trans (h j hj)
theorem MKZ.rf (z : Nat → Int32) : MKZ z z := fun _ _ => rfl
theorem MKZ.tr {a b c : Nat → Int32} (h : MKZ a b) (h2 : MKZ b c) : MKZ a c := fun j hj => (h2 j hj).trans (h j hj)
theorem MKZ.u {z z1 : Nat → Int32} (h : MKZ z z1) {k : Nat} {v : Int32} (hk : k = 8 ∨ k = 9 ∨ k = 11 ∨ k = 12 ∨ k = 15 ∨ k = 16) : MKZ z (u_ z1 k v) := fun j hj => (u_n _ _ (by omega)).trans (h j hj)
theorem LKA.mka {a a' : Nat → Nat → Int32} {b : Nat} (h : LKA a a' b) : MKA a a' := fun j hj => h.1 j (by omega)
/-- the part failed -/
def FP (w : Nat → Nat → Int64) (y : Nat → Int64) (g : List pE) (z : Nat → Int32) (a : Nat → Nat → Int32) (bd : Nat) (q : pR) : Prop := ∃ x z' a', q = (.inl (some (.int x)), hp z' a' w y g) ∧ (x = -1 ∨ (z' 16 = z 16 ∧ ∃ b', z' 11 = nI b' ∧ b' < 120)) ∧ z' 9 = nI bd ∧ MKZ z z' ∧ MKA a a'
/-- a leaf came -/
def LfP (w : Nat → Nat → Int64) (y : Nat → Int64) (g : List pE) (z : Nat → Int32) (a : Nat → Nat → Int32) (b : Nat) (res : pS) (q : pR) : Prop := match res with
  | .inl bd => FP w y g z a bd q
  | .inr (p', ns, _) => ∃ z' a' v, q = (.inl (some (.int (nI b))), hp z' a' w y g) ∧ ns = [v] ∧ z' 8 = nI p' ∧ z' 11 = nI (b + 1) ∧ (∀ k, k ≠ 8 → k ≠ 11 → z' k = z k) ∧ LKA a a' b ∧ mv a' b v ∧ a' 18 b = -1 ∧ a' 19 b = -1
theorem LP_make {w : Nat → Nat → Int64} {y : Nat → Int64} {g : List pE} {z z1 : Nat → Int32} {a a' : Nat → Nat → Int32} {b p' mx k num un : Nat} (h8 : z1 8 = nI p') (hz : ∀ k, k ≠ 8 → z1 k = z k) (e1 : ∀ j, j < 15 ∨ 20 < j → a' j = a j) (e2 : ∀ j, j ≠ b → mnv a' j = mnv a j) (e3 : mnv a' b = (nI k, nI num, nI un - nI 1, -1, -1, nI 0)) :
    LfP w y g z a b (.inr (p', [(k, num, un, 0, [])], mx)) (.inl (some (.int (nI b))), hp (u_ z1 11 (nI (b + 1))) a' w y g) := by
  unfold mnv at e3
  simp only [Prod.mk.injEq] at e3
  obtain ⟨f0, f1, f2, f3, f4, f5⟩ := e3
  refine ⟨_, a', _, rfl, rfl, h8, rfl, fun k h1 h2 => (u_n _ _ h2).trans (hz k h1), ⟨fun j hj => e1 j (by omega), e2, fun i _ => ⟨by rw [e1 21 (by omega)], by rw [e1 22 (by omega)]⟩⟩, ⟨f0, f1, f2, f5, fun k q hq => by simp at hq⟩, f3, f4⟩
section MNUM
variable {X : pX} {d n p : Nat} {z : Nat → Int32} {a : Nat → Nat → Int32} {w : Nat → Nat → Int64} {y : Nat → Int64} {g : List pE}
theorem M_thous_n (h9 : z 9 = -1) (h7 : z 7 = nI n) (h8 : z 8 = nI p) (hn : n ≤ 300) (hq : p ≤ n) (hd : cD (sg (a 14) n p) = true) (hw : ¬ tG (a 14) n p) : p_M X 2 114 [.ref 22] (hp z a w y g) (fun q => ∃ z', q = (.inl (some (.int (nI 0))), hp z' a w y g) ∧ z' 9 = nI p ∧ ∀ k, k ≠ 8 → k ≠ 9 → z' k = z k) := by
  have hb := tE_le (T := a 14) hq
  have h1 : 1 ≤ tE (a 14) n p - p := by
    have hlt : p < n := by
      refine Nat.lt_of_not_le (fun h => ?_)
      unfold sg at hd
      rw [if_neg (by omega)] at hd
      exact absurd hd (by decide)
    unfold sg at hd
    rw [if_pos hlt] at hd
    have : tE (a 14) n p = sk cD (a 14) (n - p) p := rfl
    obtain ⟨k, hk⟩ : ∃ k, n - p = k + 1 := ⟨n - p - 1, by omega⟩
    rw [hk, sk_t hd] at this
    have h2 := sk_ge cD (a 14) k (p + 1)
    omega
  refine (r_in xin_114 (r_aln xc_114_0 rfl (r_get xc_114_1 xf_114_80 g_6_2 (r_isn [_, _, _, _, _, _] xc_114_4 rfl rfl (r_aln xc_114_5 rfl (r_iln xc_114_6 rfl ?_))))))
  rw [h8]
  refine (r_cv xc_114_7 xm_114_7 rfl xrc_109 rfl (M_digits (p := p) h7 hn hq) (r_isn [_, _, _, _, _, _] xc_114_10 rfl rfl (r_iln xc_114_11 rfl (r_ic xc_114_12 kc_5 (r_cle xc_114_13 xj_114_13 (fun hc13 => (r_aln xc_114_16 rfl (r_iln xc_114_17 rfl ?_))) (fun hc13 => (r_aln xc_114_23 rfl (r_iln xc_114_24 rfl (r_iln xc_114_25 rfl (r_iadd xc_114_26 (r_put xc_114_27 xf_114_80 rfl s_6_2 (r_si xc_114_30 ks_1000 (r_aln xc_114_33 rfl (r_iln xc_114_34 rfl (r_iln xc_114_35 rfl ?_)))))))))))))))
  · refine (r_c0 xc_114_18 xm_114_18 rfl xrc_97 rfl (p_M.up (M_fail h9) (by omega)) (r_ic xc_114_21 kc_0 (r_ri xc_114_22 xrt_114 ?_)))
    exact ⟨_, rfl, rfl, fun k _ h => u_n _ _ h⟩
  · have hc13 : ¬ nI 5 < nI (tE (a 14) n p - p) := hc13
    rw [kI_lt (by omega) (by omega)] at hc13
    have e : p + (skn cD (a 14) n p - p) = tE (a 14) n p := by show p + (tE (a 14) n p - p) = _; omega
    rw [kI_add, e]
    refine (r_cv xc_114_36 xm_114_36 rfl xrc_111 rfl (p_M.up (M_worth (skD_all (a 14)) (by rw [e]; omega)) (by omega)) (r_imul xc_114_39 (r_isn [_, _, _, _, _, _] xc_114_40 rfl rfl (r_aln xc_114_41 rfl (r_get xc_114_42 xf_114_80 g_6_2 (r_aln xc_114_45 rfl (r_get xc_114_46 xf_114_77 g_6_1 (r_ceq xc_114_49 xj_114_49 (fun hc49 => (r_iln xc_114_66 rfl (r_ri xc_114_67 xrt_114 ?_))) (fun hc49 => (r_aln xc_114_52 rfl (r_get xc_114_53 xf_114_7 g_6_0 (r_aln xc_114_56 rfl (r_get xc_114_57 xf_114_80 g_6_2 (r_ia xc_114_60 b_23 ?_ (r_bi xc_114_61 kb_46 (r_ceq xc_114_63 xj_114_63 (fun hc63 => (r_aln xc_114_68 rfl (r_aln xc_114_69 rfl (r_get xc_114_70 xf_114_80 g_6_2 (r_ic xc_114_73 kc_1 (r_iadd xc_114_74 ?_)))))) (fun hc63 => (r_iln xc_114_66 rfl (r_ri xc_114_67 xrt_114 ?_)))))))))))))))))))
    · have hc49 : nI (tE (a 14) n p) = z 7 := hc49
      rw [h7, kI_inj (by omega) (by omega)] at hc49
      refine absurd ⟨⟨h1, by omega⟩, fun hP => ?_⟩ hw
      have := (tF_le hP).1
      omega
    · have hc49 : ¬ nI (tE (a 14) n p) = z 7 := hc49
      rw [h7, kI_inj (by omega) (by omega)] at hc49
      exact kI_in (by omega) (by omega)
    · have hc49 : ¬ nI (tE (a 14) n p) = z 7 := hc49
      rw [h7, kI_inj (by omega) (by omega)] at hc49
      have hc63 : a 14 (nI (tE (a 14) n p)).toNatClampNeg = nI 46 := hc63
      rw [kI_cl (by omega)] at hc63
      have hP : tP (a 14) n p := by unfold tP sg; rw [if_pos (by omega)]; exact hc63
      have hf := tF_le hP
      have e4 : u_ z 8 (nI (tE (a 14) n p)) 8 + nI 1 = nI (tE (a 14) n p + 1) := kI_add _ 1
      rw [e4]
      refine (r_cv xc_114_75 xm_114_75 rfl xrc_109 rfl (M_digits (p := tE (a 14) n p + 1) h7 hn (by omega)) (r_is [_, _, _, _, _, _] xc_114_78 rfl rfl (r_il xc_114_80 rfl (r_ic xc_114_82 kc_1 (r_clt xc_114_83 xj_114_83 (fun hc83 => (r_aln xc_114_92 rfl (r_iln xc_114_93 rfl ?_))) (fun hc83 => (r_il xc_114_86 rfl (r_ic xc_114_88 kc_3 (r_cle xc_114_89 xj_114_89 (fun hc89 => (r_aln xc_114_92 rfl (r_iln xc_114_93 rfl ?_))) (fun hc89 => (r_aln xc_114_99 rfl (r_aln xc_114_100 rfl (r_get xc_114_101 xf_114_80 g_6_2 (r_ic xc_114_104 kc_1 (r_iadd xc_114_105 (r_il xc_114_106 rfl ?_))))))))))))))))
      · refine (r_c0 xc_114_94 xm_114_94 rfl xrc_97 rfl (p_M.up (M_fail h9) (by omega)) (r_ic xc_114_97 kc_0 (r_ri xc_114_98 xrt_114 ?_)))
        exact ⟨_, rfl, rfl, fun k h1 h2 => by rw [u_n _ _ h2, u_n _ _ h1]⟩
      · refine (r_c0 xc_114_94 xm_114_94 rfl xrc_97 rfl (p_M.up (M_fail h9) (by omega)) (r_ic xc_114_97 kc_0 (r_ri xc_114_98 xrt_114 ?_)))
        exact ⟨_, rfl, rfl, fun k h1 h2 => by rw [u_n _ _ h2, u_n _ _ h1]⟩
      · have hc83 : ¬ nI (tK (a 14) n p) < nI 1 := hc83
        have hc89 : ¬ nI 3 < nI (tK (a 14) n p) := hc89
        have hk3 : tK (a 14) n p < 400 := by unfold tK; omega
        rw [kI_lt (by omega) (by omega)] at hc83 hc89
        exact absurd ⟨⟨h1, by omega⟩, fun _ => ⟨by omega, by omega⟩⟩ hw
    · have hc49 : ¬ nI (tE (a 14) n p) = z 7 := hc49
      rw [h7, kI_inj (by omega) (by omega)] at hc49
      have hc63 : ¬ a 14 (nI (tE (a 14) n p)).toNatClampNeg = nI 46 := hc63
      rw [kI_cl (by omega)] at hc63
      refine absurd ⟨⟨h1, by omega⟩, fun hP => ?_⟩ hw
      have := (sg_lt (by decide) hP).2
      exact absurd this hc63
theorem M_thous_y (h7 : z 7 = nI n) (h8 : z 8 = nI p) (hn : n ≤ 300) (hq : p ≤ n) (hw : tG (a 14) n p) : p_M X 2 114 [.ref 22] (hp z a w y g) (fun q => q = (.inl (some (.int (nI (tV (a 14) n p)))), hp (u_ z 8 (nI (tN (a 14) n p))) a w y g)) := by
  have hb := tE_le (T := a 14) hq
  refine (r_in xin_114 (r_aln xc_114_0 rfl (r_get xc_114_1 xf_114_80 g_6_2 (r_isn [_, _, _, _, _, _] xc_114_4 rfl rfl (r_aln xc_114_5 rfl (r_iln xc_114_6 rfl ?_))))))
  rw [h8]
  refine (r_cv xc_114_7 xm_114_7 rfl xrc_109 rfl (M_digits (p := p) h7 hn hq) (r_isn [_, _, _, _, _, _] xc_114_10 rfl rfl (r_iln xc_114_11 rfl (r_ic xc_114_12 kc_5 (r_cle xc_114_13 xj_114_13 (fun hc13 => (r_aln xc_114_16 rfl (r_iln xc_114_17 rfl ?_))) (fun hc13 => (r_aln xc_114_23 rfl (r_iln xc_114_24 rfl (r_iln xc_114_25 rfl (r_iadd xc_114_26 (r_put xc_114_27 xf_114_80 rfl s_6_2 (r_si xc_114_30 ks_1000 (r_aln xc_114_33 rfl (r_iln xc_114_34 rfl (r_iln xc_114_35 rfl ?_)))))))))))))))
  · have hc13 : nI 5 < nI (tE (a 14) n p - p) := hc13
    rw [kI_lt (by omega) (by omega)] at hc13
    exact absurd hw.1.2 (by omega)
  · have e : p + (skn cD (a 14) n p - p) = tE (a 14) n p := by show p + (tE (a 14) n p - p) = _; omega
    rw [kI_add, e]
    have eV : skn cD (a 14) n p - p = tE (a 14) n p - p := rfl
    refine (r_cv xc_114_36 xm_114_36 rfl xrc_111 rfl (p_M.up (M_worth (skD_all (a 14)) (by rw [e]; omega)) (by omega)) (r_imul xc_114_39 (r_isn [_, _, _, _, _, _] xc_114_40 rfl rfl (r_aln xc_114_41 rfl (r_get xc_114_42 xf_114_80 g_6_2 (r_aln xc_114_45 rfl (r_get xc_114_46 xf_114_77 g_6_1 (r_ceq xc_114_49 xj_114_49 (fun hc49 => (r_iln xc_114_66 rfl (r_ri xc_114_67 xrt_114 ?_))) (fun hc49 => (r_aln xc_114_52 rfl (r_get xc_114_53 xf_114_7 g_6_0 (r_aln xc_114_56 rfl (r_get xc_114_57 xf_114_80 g_6_2 (r_ia xc_114_60 b_23 ?_ (r_bi xc_114_61 kb_46 (r_ceq xc_114_63 xj_114_63 (fun hc63 => (r_aln xc_114_68 rfl (r_aln xc_114_69 rfl (r_get xc_114_70 xf_114_80 g_6_2 (r_ic xc_114_73 kc_1 (r_iadd xc_114_74 ?_)))))) (fun hc63 => (r_iln xc_114_66 rfl (r_ri xc_114_67 xrt_114 ?_)))))))))))))))))))
    · have hc49 : nI (tE (a 14) n p) = z 7 := hc49
      rw [h7, kI_inj (by omega) (by omega)] at hc49
      have hP : ¬ tP (a 14) n p := fun hP => by have := (tF_le hP).1; omega
      rw [kI_mul, eV, Nat.mul_comm]
      unfold tV tN
      rw [p_if_f hP, p_if_f hP, Nat.add_zero]
    · have hc49 : ¬ nI (tE (a 14) n p) = z 7 := hc49
      rw [h7, kI_inj (by omega) (by omega)] at hc49
      exact kI_in (by omega) (by omega)
    · have hc49 : ¬ nI (tE (a 14) n p) = z 7 := hc49
      rw [h7, kI_inj (by omega) (by omega)] at hc49
      have hc63 : a 14 (nI (tE (a 14) n p)).toNatClampNeg = nI 46 := hc63
      rw [kI_cl (by omega)] at hc63
      have hP : tP (a 14) n p := by unfold tP sg; rw [if_pos (by omega)]; exact hc63
      have hf := tF_le hP
      have hk := hw.2 hP
      have e4 : u_ z 8 (nI (tE (a 14) n p)) 8 + nI 1 = nI (tE (a 14) n p + 1) := kI_add _ 1
      have eK : skn cD (a 14) n (tE (a 14) n p + 1) - (tE (a 14) n p + 1) = tK (a 14) n p := rfl
      have eF : tE (a 14) n p + 1 + tK (a 14) n p = tF (a 14) n p := by unfold tK; omega
      have eV2 : ∀ v, tK (a 14) n p = v → tV (a 14) n p = 1000 * vN (a 14) (tE (a 14) n p - p) p 0 + (if v = 1 then 100 * vN (a 14) (tK (a 14) n p) (tE (a 14) n p + 1) 0 else if v = 2 then 10 * vN (a 14) (tK (a 14) n p) (tE (a 14) n p + 1) 0 else vN (a 14) (tK (a 14) n p) (tE (a 14) n p + 1) 0) := by
        rintro v rfl
        unfold tV
        rw [p_if_t hP, Nat.mul_comm]
        congr 1
        split
        · rw [Nat.mul_comm]
        · split
          · rw [Nat.mul_comm]
          · rw [Nat.mul_one]
      have eN : tN (a 14) n p = tF (a 14) n p := p_if_t hP
      rw [e4]
      refine (r_cv xc_114_75 xm_114_75 rfl xrc_109 rfl (M_digits (p := tE (a 14) n p + 1) h7 hn (by omega)) (r_is [_, _, _, _, _, _] xc_114_78 rfl rfl (r_il xc_114_80 rfl (r_ic xc_114_82 kc_1 (r_clt xc_114_83 xj_114_83 (fun hc83 => (r_aln xc_114_92 rfl (r_iln xc_114_93 rfl ?_))) (fun hc83 => (r_il xc_114_86 rfl (r_ic xc_114_88 kc_3 (r_cle xc_114_89 xj_114_89 (fun hc89 => (r_aln xc_114_92 rfl (r_iln xc_114_93 rfl ?_))) (fun hc89 => (r_aln xc_114_99 rfl (r_aln xc_114_100 rfl (r_get xc_114_101 xf_114_80 g_6_2 (r_ic xc_114_104 kc_1 (r_iadd xc_114_105 (r_il xc_114_106 rfl ?_))))))))))))))))
      · have hc83 : nI (tK (a 14) n p) < nI 1 := hc83
        rw [kI_lt (by omega) (by omega)] at hc83
        omega
      · have hc89 : nI 3 < nI (tK (a 14) n p) := hc89
        rw [kI_lt (by omega) (by omega)] at hc89
        omega
      · rw [e4, eK, eV, kI_mul]
        refine (r_cv xc_114_108 xm_114_108 rfl xrc_111 rfl (p_M.up (M_worth (p := tE (a 14) n p + 1) (m := tK (a 14) n p) (skD_all (a 14)) (by omega)) (by omega)) (r_is [_, _, _, _, _, _] xc_114_111 rfl rfl (r_aln xc_114_113 rfl (r_dup xc_114_114 rfl (r_get xc_114_115 xf_114_80 g_6_2 (r_ic xc_114_118 kc_1 (r_il xc_114_119 rfl (r_iadd xc_114_121 (r_iadd xc_114_122 (r_put xc_114_123 xf_114_80 rfl s_6_2 (r_iln xc_114_126 rfl (r_il xc_114_127 rfl (r_ic xc_114_129 kc_1 (r_cne xc_114_130 xj_114_130 (fun hc130 => (r_bi xc_114_133 kb_100 (r_il xc_114_135 rfl (r_imul xc_114_137 (r_go xc_114_138 xj_114_138 (r_iadd xc_114_157 (r_ri xc_114_158 xrt_114 ?_))))))) (fun hc130 => (r_il xc_114_141 rfl (r_ic xc_114_143 kc_2 (r_cne xc_114_144 xj_114_144 (fun hc144 => (r_bi xc_114_147 kb_10 (r_il xc_114_149 rfl (r_imul xc_114_151 (r_go xc_114_152 xj_114_152 (r_iadd xc_114_157 (r_ri xc_114_158 xrt_114 ?_))))))) (fun hc144 => (r_il xc_114_155 rfl (r_iadd xc_114_157 (r_ri xc_114_158 xrt_114 ?_))))))))))))))))))))))
        · rw [kI_inj (by omega) (by omega)] at hc130
          have e5 : u_ z 8 (nI (tE (a 14) n p)) 8 + (nI 1 + nI (tK (a 14) n p)) = nI (tF (a 14) n p) := by
            show nI (tE (a 14) n p) + _ = _
            rw [kI_add, kI_add, ← eF]; congr 1; omega
          rw [u_u, e5, kI_mul, kI_add, eV2 1 hc130, eN]; rfl
        · rw [kI_inj (by omega) (by omega)] at hc144
          have e5 : u_ z 8 (nI (tE (a 14) n p)) 8 + (nI 1 + nI (tK (a 14) n p)) = nI (tF (a 14) n p) := by
            show nI (tE (a 14) n p) + _ = _
            rw [kI_add, kI_add, ← eF]; congr 1; omega
          rw [u_u, e5, kI_mul, kI_add, eV2 2 hc144, eN]; rfl
        · rw [kI_inj (by omega) (by omega)] at hc130 hc144
          have e5 : u_ z 8 (nI (tE (a 14) n p)) 8 + (nI 1 + nI (tK (a 14) n p)) = nI (tF (a 14) n p) := by
            show nI (tE (a 14) n p) + _ = _
            rw [kI_add, kI_add, ← eF]; congr 1; omega
          rw [u_u, e5, kI_add, eV2 3 (by omega), eN]; rfl
    · have hc49 : ¬ nI (tE (a 14) n p) = z 7 := hc49
      rw [h7, kI_inj (by omega) (by omega)] at hc49
      have hc63 : ¬ a 14 (nI (tE (a 14) n p)).toNatClampNeg = nI 46 := hc63
      rw [kI_cl (by omega)] at hc63
      have hP : ¬ tP (a 14) n p := fun hP => hc63 (sg_lt (by decide) hP).2
      rw [kI_mul, eV, Nat.mul_comm]
      unfold tV tN
      rw [p_if_f hP, p_if_f hP, Nat.add_zero]
theorem M_takeNumber {cnt mx b : Nat} (h9 : z 9 = -1) (h7 : z 7 = nI n) (h8 : z 8 = nI p) (hn : n ≤ 300) (hq : p ≤ n) (hd : cD (sg (a 14) n p) = true) (hc : cnt < 60) (h11 : z 11 = nI b) (hb : b < 60) : p_M X 3 113 [.ref 22] (hp z a w y g) (LfP w y g z a b (sNum (a 14) n cnt p mx)) := by
  have hz : ∀ {v : Int32}, ∀ k, k ≠ 8 → u_ z 8 v k = z k := fun k hk => u_n _ _ hk
  refine (r_in xin_113 (r_aln xc_113_0 rfl ?_))
  by_cases hG : tG (a 14) n p
  · have hV := tV_lt hG
    have hN := tN_le (T := a 14) hq
    have hE := tE_le (T := a 14) hq
    have hnb : ¬ (¬ tG (a 14) n p ∨ 60 ≤ cnt) := by rintro (h | h); exact h hG; omega
    have hq1 := skn_ge cB (a 14) hN.2
    have hid := skn_idem cB (a 14) hN.2
    refine (r_cv xc_113_1 xm_113_1 rfl xrc_114 rfl ((M_thous_y h7 h8 hn hq hG)) (r_isn [_, _, _, _] xc_113_4 rfl rfl (r_aln xc_113_5 rfl ?_)))
    refine (r_cv xc_113_6 xm_113_6 rfl xrc_98 rfl (p_M.up (M_fine_y h9) (by omega)) (r_zne xc_113_9 xj_113_9 (fun hc9 => (r_ic xc_113_12 kc_m1 (r_ri xc_113_13 xrt_113 ?_))) (fun hc9 => (r_aln xc_113_14 rfl ?_))))
    · exact absurd hc9 (by decide)
    · refine (r_cv xc_113_15 xm_113_15 rfl xrc_100 rfl (p_M.up (M_look (p := tN (a 14) n p) h7 rfl hn hN.2) (by omega)) (r_isn [_, _, _, _] xc_113_18 rfl rfl (r_iln xc_113_19 rfl (r_bi xc_113_20 kb_37 (r_cne xc_113_22 xj_113_22 (fun hc22 => (r_aln xc_113_25 rfl (r_dup xc_113_26 rfl (r_get xc_113_27 xf_113_80 g_6_2 (r_ic xc_113_30 kc_1 (r_iadd xc_113_31 (r_put xc_113_32 xf_113_80 rfl s_6_2 (r_aln xc_113_35 rfl (r_ic xc_113_36 kc_1 (r_iln xc_113_37 rfl (r_ic xc_113_38 kc_m1 (r_ic xc_113_39 kc_m1 (r_ic xc_113_40 kc_m1 ?_))))))))))))) (fun hc22 => (r_aln xc_113_45 rfl (r_bi xc_113_46 kb_47 ?_))))))))
      · have hlt := (sg_lt (by decide) hc22).1
        have e4 : u_ (u_ z 8 (nI (tN (a 14) n p))) 8 (nI (skn cB (a 14) n (tN (a 14) n p))) 8 + nI 1 = nI (skn cB (a 14) n (tN (a 14) n p) + 1) := kI_add _ 1
        rw [e4, u_u, u_u]
        refine (r_cq xc_113_41 xm_113_41 rfl xrc_105 rfl (p_M.up (M_make (b := b) h11 (by omega)) (by omega)) (fun v h1 hP => ?_) (fun _ _ h => by first | (obtain ⟨_, he, _⟩ := h; cases he; done) | (obtain ⟨_, he⟩ := h; cases he; done) | (obtain ⟨_, _, he, _⟩ := h; cases he; done) | (obtain ⟨_, _, _, he, _⟩ := h; cases he; done) | (simp only [Prod.mk.injEq, reduceCtorEq, false_and, exists_false] at h)))
        obtain ⟨a', he, e1, e2, e3⟩ := hP
        cases he
        refine (r_ri xc_113_44 xrt_113 ?_)
        unfold sNum
        rw [p_if_f hnb, p_if_t hc22]
        exact LP_make rfl hz e1 e2 (by rw [e3, ← m1_eq])
      · rw [u_u]
        by_cases hsl : sg (a 14) n (skn cB (a 14) n (tN (a 14) n p)) = nI 47
        · have hlt := (sg_lt (by decide) hsl).1
          refine (r_c0 xc_113_48 xm_113_48 rfl xrc_107 rfl (p_M.up (M_take_y (p := skn cB (a 14) n (tN (a 14) n p)) (c := nI 47) h9 h7 rfl hn hq1.2 (by rw [hid]; exact hsl)) (by omega)) (r_aln xc_113_51 rfl ?_))
          rw [u_u, hid]
          have hq2 := skn_ge cB (a 14) (p := skn cB (a 14) n (tN (a 14) n p) + 1) (n := n) (by omega)
          refine (r_cv xc_113_52 xm_113_52 rfl xrc_98 rfl (p_M.up (M_fine_y h9) (by omega)) (r_zne xc_113_55 xj_113_55 (fun hc55 => (r_ic xc_113_58 kc_m1 (r_ri xc_113_59 xrt_113 ?_))) (fun hc55 => (r_aln xc_113_60 rfl ?_))))
          · exact absurd hc55 (by decide)
          · refine (r_cv xc_113_61 xm_113_61 rfl xrc_100 rfl (p_M.up (M_look (p := skn cB (a 14) n (tN (a 14) n p) + 1) h7 rfl hn (by omega)) (by omega)) (r_isn [_, _, _, _] xc_113_64 rfl rfl (r_iln xc_113_65 rfl (r_bi xc_113_66 kb_65 (r_clt xc_113_68 xj_113_68 (fun hc68 => (r_aln xc_113_77 rfl (r_aln xc_113_78 rfl (r_get xc_113_79 xf_113_80 g_6_2 ?_)))) (fun hc68 => (r_iln xc_113_71 rfl (r_bi xc_113_72 kb_72 (r_cle xc_113_74 xj_113_74 (fun hc74 => (r_aln xc_113_77 rfl (r_aln xc_113_78 rfl (r_get xc_113_79 xf_113_80 g_6_2 ?_)))) (fun hc74 => (r_aln xc_113_87 rfl (r_dup xc_113_88 rfl (r_get xc_113_89 xf_113_80 g_6_2 (r_ic xc_113_92 kc_1 (r_iadd xc_113_93 (r_put xc_113_94 xf_113_80 rfl s_6_2 (r_aln xc_113_97 rfl (r_ic xc_113_98 kc_2 (r_iln xc_113_99 rfl (r_iln xc_113_100 rfl (r_bi xc_113_101 kb_65 (r_isub xc_113_103 (r_ic xc_113_104 kc_m1 (r_ic xc_113_105 kc_m1 ?_))))))))))))))))))))))))
            · refine (r_c0 xc_113_82 xm_113_82 rfl xrc_97 rfl (p_M.up (M_fail h9) (by omega)) (r_ic xc_113_85 kc_m1 (r_ri xc_113_86 xrt_113 ?_)))
              unfold sNum
              rw [p_if_f hnb, p_if_f hc22, p_if_f (fun h => h hsl), p_if_f (fun h => by
                have := h.1
                rw [Int32.lt_iff_toInt_lt, nI_toInt (by omega)] at hc68
                omega)]
              exact ⟨_, _, a, rfl, Or.inl rfl, rfl, (((MKZ.rf z).u (by omega)).u (by omega)).u (by omega), MKA.rf a⟩
            · refine (r_c0 xc_113_82 xm_113_82 rfl xrc_97 rfl (p_M.up (M_fail h9) (by omega)) (r_ic xc_113_85 kc_m1 (r_ri xc_113_86 xrt_113 ?_)))
              unfold sNum
              rw [p_if_f hnb, p_if_f hc22, p_if_f (fun h => h hsl), p_if_f (fun h => by
                have := h.2
                rw [Int32.lt_iff_toInt_lt, nI_toInt (by omega)] at hc74
                omega)]
              exact ⟨_, _, a, rfl, Or.inl rfl, rfl, (((MKZ.rf z).u (by omega)).u (by omega)).u (by omega), MKA.rf a⟩
            · have hu : uOk (sg (a 14) n (skn cB (a 14) n (skn cB (a 14) n (tN (a 14) n p) + 1))) := by
                rw [Int32.lt_iff_toInt_lt, nI_toInt (by omega)] at hc68 hc74
                exact ⟨by omega, by omega⟩
              have e4 : u_ (u_ z 8 (nI (skn cB (a 14) n (tN (a 14) n p) + 1))) 8 (nI (skn cB (a 14) n (skn cB (a 14) n (tN (a 14) n p) + 1))) 8 + nI 1 = nI (skn cB (a 14) n (skn cB (a 14) n (tN (a 14) n p) + 1) + 1) := kI_add _ 1
              rw [e4, u_u, u_u]
              refine (r_cq xc_113_106 xm_113_106 rfl xrc_105 rfl (p_M.up (M_make (b := b) h11 (by omega)) (by omega)) (fun v h1 hP => ?_) (fun _ _ h => by first | (obtain ⟨_, he, _⟩ := h; cases he; done) | (obtain ⟨_, he⟩ := h; cases he; done) | (obtain ⟨_, _, he, _⟩ := h; cases he; done) | (obtain ⟨_, _, _, he, _⟩ := h; cases he; done) | (simp only [Prod.mk.injEq, reduceCtorEq, false_and, exists_false] at h)))
              obtain ⟨a', he, e1, e2, e3⟩ := hP
              cases he
              refine (r_ri xc_113_109 xrt_113 ?_)
              unfold sNum
              rw [p_if_f hnb, p_if_f hc22, p_if_f (fun h => h hsl), p_if_t hu]
              exact LP_make rfl hz e1 e2 (by rw [e3, uN_sub hu])
        · refine (r_c0 xc_113_48 xm_113_48 rfl xrc_107 rfl (p_M.up (M_take_n (p := skn cB (a 14) n (tN (a 14) n p)) (c := nI 47) h9 h7 rfl hn hq1.2 (by rw [hid]; exact hsl)) (by omega)) (r_aln xc_113_51 rfl ?_))
          rw [u_u, hid]
          refine (r_cv xc_113_52 xm_113_52 rfl xrc_98 rfl (p_M.up (M_fine_n (b := skn cB (a 14) n (tN (a 14) n p)) rfl (by omega)) (by omega)) (r_zne xc_113_55 xj_113_55 (fun hc55 => (r_ic xc_113_58 kc_m1 (r_ri xc_113_59 xrt_113 ?_))) (fun hc55 => (r_aln xc_113_60 rfl ?_))))
          · unfold sNum
            rw [p_if_f hnb, p_if_f hc22, p_if_t hsl]
            exact ⟨_, _, a, rfl, Or.inl rfl, rfl, ((MKZ.rf z).u (by omega)).u (by omega), MKA.rf a⟩
          · exact absurd rfl hc55
  · refine (r_cq xc_113_1 xm_113_1 rfl xrc_114 rfl ((M_thous_n h9 h7 h8 hn hq hd hG)) (fun v h1 hP => ?_) (fun _ _ h => by first | (obtain ⟨_, he, _⟩ := h; cases he; done) | (obtain ⟨_, he⟩ := h; cases he; done) | (obtain ⟨_, _, he, _⟩ := h; cases he; done) | (obtain ⟨_, _, _, he, _⟩ := h; cases he; done) | (simp only [Prod.mk.injEq, reduceCtorEq, false_and, exists_false] at h)))
    obtain ⟨z', he, e9, ez⟩ := hP
    cases he
    refine (r_isn [_, _, _, _] xc_113_4 rfl rfl (r_aln xc_113_5 rfl ?_))
    refine (r_cv xc_113_6 xm_113_6 rfl xrc_98 rfl (p_M.up (M_fine_n (b := p) e9 (by omega)) (by omega)) (r_zne xc_113_9 xj_113_9 (fun hc9 => (r_ic xc_113_12 kc_m1 (r_ri xc_113_13 xrt_113 ?_))) (fun hc9 => (r_aln xc_113_14 rfl ?_))))
    · unfold sNum
      rw [p_if_t (Or.inl hG)]
      exact ⟨_, z', a, rfl, Or.inl rfl, e9, fun k hk => ez k (by omega) (by omega), MKA.rf a⟩
    · exact absurd rfl hc9
/-! the model's words -/
theorem L_wn {Q : pR → Prop} {j D : Nat} {f e : Int32} {ww : Int64} (hw : wOk ww j) (k : p_E X D 103 28 [some (.ref 22), some (.int f), some (.int e), some (.long ww), none, some (.int (nI (p_slen j))), none] [] (hp z a w y g) Q) : ∀ m i, i + m = p_slen j → p_E X D 103 3 [some (.ref 22), some (.int f), some (.int e), some (.long ww), none, some (.int (nI i)), none] [] (hp z a w y g) Q := by
  have h8 := hw.1
  intro m
  induction m with
  | zero =>
    intro i hi
    have hi : i = p_slen j := by omega
    subst hi
    refine (r_il xc_103_3 rfl (r_bi xc_103_5 kb_8 (r_cge xc_103_7 xj_103_7 (fun hc7 => (r_lln xc_103_10 rfl (r_bi xc_103_11 kb_8 (r_il xc_103_13 rfl (r_imul xc_103_15 (r_lushr xc_103_16 (r_lc xc_103_17 kl_0 (r_leq xc_103_18 xc_103_19 xj_103_19 (fun hc19 => ?_) (fun hc19 => (r_inc [_, _, _, _, _, _, _] xc_103_22 rfl rfl (ki_1 _) rfl (r_go xc_103_25 xj_103_25 ?_))))))))))) (fun hc7 => ?_))))
    · exact k
    · exact absurd hw.2.2.1 hc19
    · exact k
  | succ m ih =>
    intro i hi
    refine (r_il xc_103_3 rfl (r_bi xc_103_5 kb_8 (r_cge xc_103_7 xj_103_7 (fun hc7 => (r_lln xc_103_10 rfl (r_bi xc_103_11 kb_8 (r_il xc_103_13 rfl (r_imul xc_103_15 (r_lushr xc_103_16 (r_lc xc_103_17 kl_0 (r_leq xc_103_18 xc_103_19 xj_103_19 (fun hc19 => ?_) (fun hc19 => (r_inc [_, _, _, _, _, _, _] xc_103_22 rfl rfl (ki_1 _) rfl (r_go xc_103_25 xj_103_25 ?_))))))))))) (fun hc7 => ?_))))
    · exact absurd hc19 (hw.2.1 i (by omega))
    · rw [kI_add]
      exact ih (i + 1) (by omega)
    · rw [kI_lt (by omega) (by omega)] at hc7; omega
theorem L_wk {j f e : Nat} {ww : Int64} (hw : wOk ww j) (hl : f + p_slen j ≤ 300) : ∀ m i, i + m = p_slen j → p_E X 0 103 41 [some (.ref 22), some (.int (nI f)), some (.int (nI e)), some (.long ww), none, some (.int (nI (p_slen j))), some (.int (nI i))] [] (hp z a w y g) (fun q => ((∀ k, i ≤ k → k < p_slen j → a 14 (f + k) = p_schr j k) → q = (.inl (some (.int (nI 1))), hp z a w y g)) ∧ (¬ (∀ k, i ≤ k → k < p_slen j → a 14 (f + k) = p_schr j k) → q = (.inl (some (.int (nI 0))), hp z a w y g))) := by
  have h8 := hw.1
  intro m
  induction m with
  | zero =>
    intro i hi
    refine (r_il xc_103_41 rfl (r_il xc_103_43 rfl (r_cge xc_103_45 xj_103_45 (fun hc45 => (r_aln xc_103_48 rfl (r_get xc_103_49 xf_103_7 g_6_0 (r_iln xc_103_52 rfl (r_il xc_103_53 rfl (r_iadd xc_103_55 (r_ia xc_103_56 b_23 ?_ (r_lln xc_103_57 rfl (r_bi xc_103_58 kb_8 (r_il xc_103_60 rfl (r_ic xc_103_62 kc_1 (r_isub xc_103_63 (r_il xc_103_64 rfl (r_isub xc_103_66 (r_imul xc_103_67 (r_lushr xc_103_68 (r_ldl xc_103_69 xl_103_138 (r_land xc_103_72 (r_l2i xc_103_73 (r_ceq xc_103_74 xj_103_74 (fun hc74 => (r_inc [_, _, _, _, _, _, _] xc_103_79 rfl rfl (ki_1 _) rfl (r_go xc_103_82 xj_103_82 ?_))) (fun hc74 => (r_ic xc_103_77 kc_0 (r_rz xc_103_78 xrt_103 ?_ ?_))))))))))))))))))))))) (fun hc45 => (r_ic xc_103_85 kc_1 (r_rz xc_103_86 xrt_103 ?_ ?_))))))
    · rw [kI_lt (by omega) (by omega)] at hc45; omega
    · rw [kI_lt (by omega) (by omega)] at hc45; omega
    · rw [kI_lt (by omega) (by omega)] at hc45; omega
    · rw [kI_lt (by omega) (by omega)] at hc45; omega
    · exact Or.inr rfl
    · exact ⟨fun _ => rfl, fun h => absurd (fun k h3 h4 => by omega) h⟩
  | succ m ih =>
    intro i hi
    have e0 : nI (p_slen j) - nI 1 - nI i = nI (p_slen j - 1 - i) := by rw [kI_sub (by omega), kI_sub (by omega)]
    have e1 : ((ww.toUInt64 >>> ((nI 8 * (nI (p_slen j) - nI 1 - nI i)).toInt64.toUInt64 &&& Int64.toUInt64 63)).toInt64 &&& 255).toInt32 = p_schr j i := by
      rw [e0]; exact hw.2.2.2 i (by omega)
    refine (r_il xc_103_41 rfl (r_il xc_103_43 rfl (r_cge xc_103_45 xj_103_45 (fun hc45 => (r_aln xc_103_48 rfl (r_get xc_103_49 xf_103_7 g_6_0 (r_iln xc_103_52 rfl (r_il xc_103_53 rfl (r_iadd xc_103_55 (r_ia xc_103_56 b_23 ?_ (r_lln xc_103_57 rfl (r_bi xc_103_58 kb_8 (r_il xc_103_60 rfl (r_ic xc_103_62 kc_1 (r_isub xc_103_63 (r_il xc_103_64 rfl (r_isub xc_103_66 (r_imul xc_103_67 (r_lushr xc_103_68 (r_ldl xc_103_69 xl_103_138 (r_land xc_103_72 (r_l2i xc_103_73 (r_ceq xc_103_74 xj_103_74 (fun hc74 => (r_inc [_, _, _, _, _, _, _] xc_103_79 rfl rfl (ki_1 _) rfl (r_go xc_103_82 xj_103_82 ?_))) (fun hc74 => (r_ic xc_103_77 kc_0 (r_rz xc_103_78 xrt_103 ?_ ?_))))))))))))))))))))))) (fun hc45 => (r_ic xc_103_85 kc_1 (r_rz xc_103_86 xrt_103 ?_ ?_))))))
    · rw [kI_add]; exact kI_in (by omega) (by omega)
    · rw [e1, kI_add, kI_cl (by omega)] at hc74
      rw [kI_add]
      refine (ih (i + 1) (by omega)).mono (fun q hq => ⟨fun h => hq.1 (fun k h3 h4 => h k (by omega) h4), fun h => hq.2 (fun h5 => h (fun k h3 h4 => ?_))⟩)
      by_cases hk : k = i
      · subst hk; exact hc74
      · exact h5 k (by omega) h4
    · exact Or.inl rfl
    · rw [e1, kI_add, kI_cl (by omega)] at hc74
      exact ⟨fun h => absurd (h i (Nat.le_refl _) (by omega)) hc74, fun _ => rfl⟩
    · rw [kI_lt (by omega) (by omega)] at hc45; omega
    · rw [kI_lt (by omega) (by omega)] at hc45; omega
theorem M_isW {j f e : Nat} {ww : Int64} (hw : wOk ww j) (hf : f ≤ e) (he : e ≤ 300) : p_M X 0 103 [.ref 22, .int (nI f), .int (nI e), .long ww] (hp z a w y g) (fun q => (isW (a 14) f e j → q = (.inl (some (.int (nI 1))), hp z a w y g)) ∧ (¬ isW (a 14) f e j → q = (.inl (some (.int (nI 0))), hp z a w y g))) := by
  have h8 := hw.1
  refine (r_in xin_103 (r_ic xc_103_0 kc_0 (r_is [_, _, _, _, _, _, _] xc_103_1 rfl rfl ?_)))
  refine L_wn hw ?_ (p_slen j) 0 (by omega)
  refine (r_iln xc_103_28 rfl (r_iln xc_103_29 rfl (r_isub xc_103_30 (r_il xc_103_31 rfl (r_ceq xc_103_33 xj_103_33 (fun hc33 => (r_ic xc_103_38 kc_0 (r_is [_, _, _, _, _, _, _] xc_103_39 rfl rfl ?_))) (fun hc33 => (r_ic xc_103_36 kc_0 (r_rz xc_103_37 xrt_103 ?_ ?_))))))))
  · rw [kI_sub hf, kI_inj (by omega) (by omega)] at hc33
    refine (L_wk hw (by omega) (p_slen j) 0 (by omega)).mono (fun q hq => ⟨fun h => hq.1 (fun k _ h3 => h.2 k h3), fun h => hq.2 (fun h5 => h ⟨hc33, fun k h3 => h5 k (by omega) h3⟩)⟩)
  · exact Or.inl rfl
  · rw [kI_sub hf, kI_inj (by omega) (by omega)] at hc33
    exact ⟨fun h => absurd h.1 hc33, fun _ => rfl⟩
theorem M_isW_q {j f e : Nat} {ww : Int64} (hw : wOk ww j) (hf : f ≤ e) (he : e ≤ 300) : p_M X 0 103 [.ref 22, .int (nI f), .int (nI e), .long ww] (hp z a w y g) (fun q => q = (.inl (some (.int (p_if (isW (a 14) f e j) (nI 1) (nI 0)))), hp z a w y g)) := by
  refine (M_isW hw hf he).mono (fun q hq => ?_)
  by_cases h : isW (a 14) f e j
  · rw [p_if_t h]; exact hq.1 h
  · rw [p_if_f h]; exact hq.2 h
end MNUM
