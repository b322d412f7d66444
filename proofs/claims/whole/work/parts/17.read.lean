/-! ===== the class's reader: signs, numbers, words ===== -/
section READ
variable {X : pX} {d n p : Nat} {z : Nat → Int32} {a : Nat → Nat → Int32} {w : Nat → Nat → Int64} {y : Nat → Int64} {g : List pE}
theorem sg_lt {T : Nat → Int32} {c : Int32} (hc : ¬ c = -1) (h : sg T n p = c) : p < n ∧ T p = c := by
  unfold sg at h
  split at h
  · next h1 => exact ⟨h1, h⟩
  · exact absurd h.symm hc
theorem M_readSign_y {c : Int32} (h3 : z 3 = nI n) (h4 : z 4 = nI p) (hn : n ≤ 300) (hq : p ≤ n) (hs : sg (a 9) n (skn cB (a 9) n p) = c) : p_M X 1 20 [.ref 11, .int c] (hp z a w y g) (fun q => q = (.inl (some (.int (nI 1))), hp (u_ z 4 (nI (skn cB (a 9) n p + 1))) a w y g)) := by
  have hq2 := (skn_ge cB (a 9) hq).2
  refine (r_in xin_20 (r_aln xc_20_0 rfl ?_))
  refine (r_c0 xc_20_1 xm_20_1 rfl xrc_14 rfl (M_skipB h3 h4 hn hq) (r_aln xc_20_4 rfl ?_))
  refine (r_cv xc_20_5 xm_20_5 rfl xrc_15 rfl (M_signHere (p := skn cB (a 9) n p) h3 rfl hn hq2) (r_iln xc_20_8 rfl (r_ceq xc_20_9 xj_20_9 (fun hc9 => (r_aln xc_20_21 rfl (r_dup xc_20_22 rfl (r_get xc_20_23 xf_20_28 g_1_3 (r_ic xc_20_26 kc_1 (r_iadd xc_20_27 (r_put xc_20_28 xf_20_28 rfl s_1_3 (r_ic xc_20_31 kc_1 (r_rz xc_20_32 xrt_20 ?_ ?_))))))))) (fun hc9 => (r_aln xc_20_12 rfl (r_aln xc_20_13 rfl (r_get xc_20_14 xf_20_28 g_1_3 ?_)))))))
  · exact Or.inr rfl
  · rw [u_u]
    have e : u_ z 4 (nI (skn cB (a 9) n p)) 4 + nI 1 = nI (skn cB (a 9) n p + 1) := kI_add _ 1
    rw [e]
  · exact absurd hs hc9
theorem M_readSign_n {c : Int32} (h3 : z 3 = nI n) (h4 : z 4 = nI p) (hn : n ≤ 300) (hq : p ≤ n) (hs : ¬ sg (a 9) n (skn cB (a 9) n p) = c) : p_M X 1 20 [.ref 11, .int c] (hp z a w y g) (fun q => q = (.inl (some (.int (nI 0))), hp (u_ (u_ z 4 (nI (skn cB (a 9) n p))) 5 (nI (skn cB (a 9) n p))) a w y g)) := by
  have hq2 := (skn_ge cB (a 9) hq).2
  refine (r_in xin_20 (r_aln xc_20_0 rfl ?_))
  refine (r_c0 xc_20_1 xm_20_1 rfl xrc_14 rfl (M_skipB h3 h4 hn hq) (r_aln xc_20_4 rfl ?_))
  refine (r_cv xc_20_5 xm_20_5 rfl xrc_15 rfl (M_signHere (p := skn cB (a 9) n p) h3 rfl hn hq2) (r_iln xc_20_8 rfl (r_ceq xc_20_9 xj_20_9 (fun hc9 => (r_aln xc_20_21 rfl (r_dup xc_20_22 rfl (r_get xc_20_23 xf_20_28 g_1_3 (r_ic xc_20_26 kc_1 (r_iadd xc_20_27 (r_put xc_20_28 xf_20_28 rfl s_1_3 (r_ic xc_20_31 kc_1 (r_rz xc_20_32 xrt_20 ?_ ?_))))))))) (fun hc9 => (r_aln xc_20_12 rfl (r_aln xc_20_13 rfl (r_get xc_20_14 xf_20_28 g_1_3 ?_)))))))
  · exact Or.inr rfl
  · exact absurd hc9 hs
  · refine (r_cv xc_20_17 xm_20_17 rfl xrc_17 rfl (M_refuse) (r_rz xc_20_20 xrt_20 ?_ ?_))
    · exact Or.inl rfl
    · rfl
/-- a WHOLE at a place: where it begins, where its digits end -/
def wB (T : Nat → Int32) (n p : Nat) : Nat := skn cB T n p
def wE (T : Nat → Int32) (n p : Nat) : Nat := skn cD T n (wB T n p)
def wG (T : Nat → Int32) (n p : Nat) : Prop := 1 ≤ wE T n p - wB T n p ∧ wE T n p - wB T n p ≤ 6
def wV (T : Nat → Int32) (n p : Nat) : Nat := vN T (wE T n p - wB T n p) (wB T n p) 0
theorem wB_le {T : Nat → Int32} (hq : p ≤ n) : p ≤ wB T n p ∧ wB T n p ≤ wE T n p ∧ wE T n p ≤ n := by
  have h1 := skn_ge cB T hq
  have h2 := skn_ge cD T h1.2
  exact ⟨h1.1, h2.1, h2.2⟩
theorem wV_lt {T : Nat → Int32} (h : wG T n p) : wV T n p < 1000000 := by
  have := vN_lt T (wE T n p - wB T n p) (wB T n p) 0 (skD_all T)
  have h2 : 10 ^ (wE T n p - wB T n p) ≤ 10 ^ 6 := Nat.pow_le_pow_right (by omega) h.2
  unfold wV; omega
theorem M_readWhole_y (h3 : z 3 = nI n) (h4 : z 4 = nI p) (hn : n ≤ 300) (hq : p ≤ n) (hw : wG (a 9) n p) : p_M X 1 41 [.ref 11] (hp z a w y g) (fun q => q = (.inl (some (.int (nI (wV (a 9) n p)))), hp (u_ z 4 (nI (wE (a 9) n p))) a w y g)) := by
  have hb := wB_le (T := a 9) hq
  have e0 : nI (wE (a 9) n p) - nI (wB (a 9) n p) = nI (wE (a 9) n p - wB (a 9) n p) := kI_sub hb.2.1
  refine (r_in xin_41 (r_aln xc_41_0 rfl ?_))
  refine (r_c0 xc_41_1 xm_41_1 rfl xrc_14 rfl (M_skipB h3 h4 hn hq) (r_aln xc_41_4 rfl (r_get xc_41_5 xf_41_28 g_1_3 (r_isn [_, _, _] xc_41_8 rfl rfl (r_aln xc_41_9 rfl ?_)))))
  refine (r_c0 xc_41_10 xm_41_10 rfl xrc_23 rfl (M_skipD (p := wB (a 9) n p) h3 rfl hn (by omega)) (r_aln xc_41_13 rfl (r_get xc_41_14 xf_41_28 g_1_3 (r_iln xc_41_17 rfl (r_isub xc_41_18 (r_isn [_, _, _] xc_41_19 rfl rfl (r_iln xc_41_20 rfl (r_ic xc_41_21 kc_1 (r_clt xc_41_22 xj_41_22 (fun hc22 => (r_aln xc_41_31 rfl (r_iln xc_41_32 rfl ?_))) (fun hc22 => (r_iln xc_41_25 rfl (r_bi xc_41_26 kb_6 (r_cle xc_41_28 xj_41_28 (fun hc28 => (r_aln xc_41_31 rfl (r_iln xc_41_32 rfl ?_))) (fun hc28 => (r_aln xc_41_39 rfl (r_iln xc_41_40 rfl ?_))))))))))))))))
  · have hc22 : nI (wE (a 9) n p) - nI (wB (a 9) n p) < nI 1 := hc22
    rw [e0, kI_lt (by omega) (by omega)] at hc22
    exact absurd hw.1 (by omega)
  · have hc28 : nI 6 < nI (wE (a 9) n p) - nI (wB (a 9) n p) := hc28
    rw [e0, kI_lt (by omega) (by omega)] at hc28
    exact absurd hw.2 (by omega)
  · rw [u_u]
    refine (r_cv xc_41_41 xm_41_41 rfl xrc_24 rfl (M_digitsFrom (p := wE (a 9) n p) (i := wB (a 9) n p) rfl (by omega) hb.2.1) (r_ri xc_41_44 xrt_41 ?_))
    rw [show dv (a 9) (wE (a 9) n p - wB (a 9) n p) (wB (a 9) n p) (nI 0) = nI (wV (a 9) n p) from dv_vN (a 9) _ _ 0 (skD_all (a 9))]
    rfl
theorem M_readWhole_n (h3 : z 3 = nI n) (h4 : z 4 = nI p) (hn : n ≤ 300) (hq : p ≤ n) (hw : ¬ wG (a 9) n p) : p_M X 1 41 [.ref 11] (hp z a w y g) (fun q => q = (.inl (some (.int (-1))), hp (u_ (u_ z 4 (nI (wE (a 9) n p))) 5 (nI (wB (a 9) n p))) a w y g)) := by
  have hb := wB_le (T := a 9) hq
  have e0 : nI (wE (a 9) n p) - nI (wB (a 9) n p) = nI (wE (a 9) n p - wB (a 9) n p) := kI_sub hb.2.1
  refine (r_in xin_41 (r_aln xc_41_0 rfl ?_))
  refine (r_c0 xc_41_1 xm_41_1 rfl xrc_14 rfl (M_skipB h3 h4 hn hq) (r_aln xc_41_4 rfl (r_get xc_41_5 xf_41_28 g_1_3 (r_isn [_, _, _] xc_41_8 rfl rfl (r_aln xc_41_9 rfl ?_)))))
  refine (r_c0 xc_41_10 xm_41_10 rfl xrc_23 rfl (M_skipD (p := wB (a 9) n p) h3 rfl hn (by omega)) (r_aln xc_41_13 rfl (r_get xc_41_14 xf_41_28 g_1_3 (r_iln xc_41_17 rfl (r_isub xc_41_18 (r_isn [_, _, _] xc_41_19 rfl rfl (r_iln xc_41_20 rfl (r_ic xc_41_21 kc_1 (r_clt xc_41_22 xj_41_22 (fun hc22 => (r_aln xc_41_31 rfl (r_iln xc_41_32 rfl ?_))) (fun hc22 => (r_iln xc_41_25 rfl (r_bi xc_41_26 kb_6 (r_cle xc_41_28 xj_41_28 (fun hc28 => (r_aln xc_41_31 rfl (r_iln xc_41_32 rfl ?_))) (fun hc28 => (r_aln xc_41_39 rfl (r_iln xc_41_40 rfl ?_))))))))))))))))
  · rw [u_u]
    refine (r_cv xc_41_33 xm_41_33 rfl xrc_17 rfl (M_refuse) (r_pop xc_41_36 rfl (r_ic xc_41_37 kc_m1 (r_ri xc_41_38 xrt_41 ?_))))
    rfl
  · rw [u_u]
    refine (r_cv xc_41_33 xm_41_33 rfl xrc_17 rfl (M_refuse) (r_pop xc_41_36 rfl (r_ic xc_41_37 kc_m1 (r_ri xc_41_38 xrt_41 ?_))))
    rfl
  · have hc28 : ¬ nI 6 < nI (wE (a 9) n p) - nI (wB (a 9) n p) := hc28
    have hc22 : ¬ nI (wE (a 9) n p) - nI (wB (a 9) n p) < nI 1 := hc22
    rw [e0, kI_lt (by omega) (by omega)] at hc28 hc22
    exact absurd ⟨by omega, by omega⟩ hw
/-- a NUMBER at a place: where its digits end, whether a . follows, where it ends -/
def tE (T : Nat → Int32) (n p : Nat) : Nat := skn cD T n p
def tP (T : Nat → Int32) (n p : Nat) : Prop := sg T n (tE T n p) = nI 46
def tF (T : Nat → Int32) (n p : Nat) : Nat := skn cD T n (tE T n p + 1)
def tK (T : Nat → Int32) (n p : Nat) : Nat := tF T n p - (tE T n p + 1)
def tG (T : Nat → Int32) (n p : Nat) : Prop := (1 ≤ tE T n p - p ∧ tE T n p - p ≤ 5) ∧ (tP T n p → 1 ≤ tK T n p ∧ tK T n p ≤ 3)
noncomputable def tV (T : Nat → Int32) (n p : Nat) : Nat := vN T (tE T n p - p) p 0 * 1000 + p_if (tP T n p) (vN T (tK T n p) (tE T n p + 1) 0 * (if tK T n p = 1 then 100 else if tK T n p = 2 then 10 else 1)) 0
noncomputable def tN (T : Nat → Int32) (n p : Nat) : Nat := p_if (tP T n p) (tF T n p) (tE T n p)
theorem tE_le {T : Nat → Int32} (hq : p ≤ n) : p ≤ tE T n p ∧ tE T n p ≤ n := skn_ge cD T hq
theorem tF_le {T : Nat → Int32} (h : tP T n p) : tE T n p < n ∧ tE T n p + 1 ≤ tF T n p ∧ tF T n p ≤ n := by
  have h1 := (sg_lt (by decide) h).1
  exact ⟨h1, skn_ge cD T h1⟩
theorem tN_le {T : Nat → Int32} (hq : p ≤ n) : tE T n p ≤ tN T n p ∧ tN T n p ≤ n := by
  unfold tN
  by_cases h : tP T n p
  · rw [p_if_t h]; have := tF_le h; omega
  · rw [p_if_f h]; have := tE_le (T := T) hq; omega
theorem tV_lt {T : Nat → Int32} (h : tG T n p) : tV T n p < 100000000 := by
  have h1 := vN_lt T (tE T n p - p) p 0 (skD_all T)
  have h2 : 10 ^ (tE T n p - p) ≤ 10 ^ 5 := Nat.pow_le_pow_right (by omega) h.1.2
  unfold tV
  by_cases hP : tP T n p
  · rw [p_if_t hP]
    have h3 := vN_lt T (tK T n p) (tE T n p + 1) 0 (skD_all T)
    obtain ⟨k1, k2⟩ := h.2 hP
    have h4 : tK T n p = 1 ∨ tK T n p = 2 ∨ tK T n p = 3 := by omega
    rcases h4 with h4 | h4 | h4 <;> rw [h4] at h3 ⊢ <;> simp at h3 ⊢ <;> omega
  · rw [p_if_f hP]; omega
theorem M_readNumber_y (h3 : z 3 = nI n) (h4 : z 4 = nI p) (hn : n ≤ 300) (hq : p ≤ n) (hw : tG (a 9) n p) : p_M X 1 22 [.ref 11] (hp z a w y g) (fun q => q = (.inl (some (.int (nI (tV (a 9) n p)))), hp (u_ z 4 (nI (tN (a 9) n p))) a w y g)) := by
  have hb := tE_le (T := a 9) hq
  have e0 : nI (tE (a 9) n p) - nI p = nI (tE (a 9) n p - p) := kI_sub hb.1
  have e1 : dv (a 9) (tE (a 9) n p - p) p (nI 0) = nI (vN (a 9) (tE (a 9) n p - p) p 0) := dv_vN (a 9) _ _ 0 (skD_all (a 9))
  refine (r_in xin_22 (r_aln xc_22_0 rfl (r_get xc_22_1 xf_22_28 g_1_3 (r_isn [_, _, _, _, _] xc_22_4 rfl rfl (r_aln xc_22_5 rfl ?_)))))
  rw [h4]
  refine (r_c0 xc_22_6 xm_22_6 rfl xrc_23 rfl (M_skipD (p := p) h3 h4 hn hq) (r_aln xc_22_9 rfl (r_get xc_22_10 xf_22_28 g_1_3 (r_iln xc_22_13 rfl (r_isub xc_22_14 (r_isn [_, _, _, _, _] xc_22_15 rfl rfl (r_iln xc_22_16 rfl (r_ic xc_22_17 kc_1 (r_clt xc_22_18 xj_22_18 (fun hc18 => (r_ic xc_22_26 kc_m1 (r_ri xc_22_27 xrt_22 ?_))) (fun hc18 => (r_iln xc_22_21 rfl (r_ic xc_22_22 kc_5 (r_cle xc_22_23 xj_22_23 (fun hc23 => (r_ic xc_22_26 kc_m1 (r_ri xc_22_27 xrt_22 ?_))) (fun hc23 => (r_aln xc_22_28 rfl (r_iln xc_22_29 rfl ?_))))))))))))))))
  · have hc18 : nI (tE (a 9) n p) - nI p < nI 1 := hc18
    rw [e0, kI_lt (by omega) (by omega)] at hc18
    exact absurd hw.1.1 (by omega)
  · have hc23 : nI 5 < nI (tE (a 9) n p) - nI p := hc23
    rw [e0, kI_lt (by omega) (by omega)] at hc23
    exact absurd hw.1.2 (by omega)
  · refine (r_cv xc_22_30 xm_22_30 rfl xrc_24 rfl (M_digitsFrom (p := tE (a 9) n p) (i := p) rfl (by omega) hb.1) (r_si xc_22_33 ks_1000 (r_imul xc_22_36 (r_isn [_, _, _, _, _] xc_22_37 rfl rfl (r_aln xc_22_38 rfl ?_)))))
    rw [e1, kI_mul]
    refine (r_cv xc_22_39 xm_22_39 rfl xrc_15 rfl (M_signHere (p := tE (a 9) n p) h3 rfl hn hb.2) (r_bi xc_22_42 kb_46 (r_ceq xc_22_44 xj_22_44 (fun hc44 => (r_aln xc_22_49 rfl (r_dup xc_22_50 rfl (r_get xc_22_51 xf_22_28 g_1_3 (r_ic xc_22_54 kc_1 (r_iadd xc_22_55 (r_put xc_22_56 xf_22_28 rfl s_1_3 (r_aln xc_22_59 rfl (r_get xc_22_60 xf_22_28 g_1_3 (r_is [_, _, _, _, _] xc_22_63 rfl rfl (r_aln xc_22_65 rfl ?_))))))))))) (fun hc44 => (r_iln xc_22_47 rfl (r_ri xc_22_48 xrt_22 ?_))))))
    · have hP : tP (a 9) n p := hc44
      have hf := tF_le hP
      have e4 : u_ z 4 (nI (skn cD (a 9) n p)) 4 + nI 1 = nI (tE (a 9) n p + 1) := kI_add _ 1
      rw [u_u, e4]
      refine (r_c0 xc_22_66 xm_22_66 rfl xrc_23 rfl (M_skipD (p := tE (a 9) n p + 1) h3 rfl hn (by omega)) (r_aln xc_22_69 rfl (r_get xc_22_70 xf_22_28 g_1_3 (r_il xc_22_73 rfl (r_isub xc_22_75 (r_ts xc_22_76 (by decide) (by decide) (fun j hj hx => ?_) (fun hx => ?_)))))))
      · have hk := hw.2 hP
        have e5 : nI (tF (a 9) n p) - nI (tE (a 9) n p + 1) = nI (tK (a 9) n p) := kI_sub hf.2.1
        have hx : (nI (tF (a 9) n p) - nI (tE (a 9) n p + 1)).toInt = 1 + (j : Int) := hx
        have hk3 : tK (a 9) n p < 400 := by omega
        rw [e5, nI_toInt (by omega)] at hx
        have e6 : ∀ k, tK (a 9) n p = k → dv (a 9) (skn cD (a 9) n (tE (a 9) n p + 1) - (tE (a 9) n p + 1)) (tE (a 9) n p + 1) (nI 0) = nI (vN (a 9) k (tE (a 9) n p + 1) 0) := by
          intro k hk
          subst hk
          exact dv_vN (a 9) _ _ 0 (skD_all (a 9))
        have e7 : tN (a 9) n p = skn cD (a 9) n (tE (a 9) n p + 1) := p_if_t hP
        rw [u_u]
        match j, hj, hx with
        | 0, _, hx =>
          have hk1 : tK (a 9) n p = 1 := by omega
          refine (r_iln (pc := 104) xc_22_104 rfl (r_aln xc_22_105 rfl (r_il xc_22_106 rfl ?_)))
          refine (r_cv xc_22_108 xm_22_108 rfl xrc_24 rfl (M_digitsFrom (p := skn cD (a 9) n (tE (a 9) n p + 1)) (i := tE (a 9) n p + 1) rfl (by have := hf.2.2; exact Nat.le_trans this hn) hf.2.1) (r_bi xc_22_111 kb_100 (r_imul xc_22_113 (r_iadd xc_22_114 (r_ri xc_22_115 xrt_22 ?_)))))
          rw [e6 1 hk1, kI_mul, kI_add, e7]
          unfold tV
          rw [p_if_t hP, hk1]
          rfl
        | 1, _, hx =>
          have hk1 : tK (a 9) n p = 2 := by omega
          refine (r_iln (pc := 116) xc_22_116 rfl (r_aln xc_22_117 rfl (r_il xc_22_118 rfl ?_)))
          refine (r_cv xc_22_120 xm_22_120 rfl xrc_24 rfl (M_digitsFrom (p := skn cD (a 9) n (tE (a 9) n p + 1)) (i := tE (a 9) n p + 1) rfl (by have := hf.2.2; exact Nat.le_trans this hn) hf.2.1) (r_bi xc_22_123 kb_10 (r_imul xc_22_125 (r_iadd xc_22_126 (r_ri xc_22_127 xrt_22 ?_)))))
          rw [e6 2 hk1, kI_mul, kI_add, e7]
          unfold tV
          rw [p_if_t hP, hk1]
          rfl
        | 2, _, hx =>
          have hk1 : tK (a 9) n p = 3 := by omega
          refine (r_iln (pc := 128) xc_22_128 rfl (r_aln xc_22_129 rfl (r_il xc_22_130 rfl ?_)))
          refine (r_cv xc_22_132 xm_22_132 rfl xrc_24 rfl (M_digitsFrom (p := skn cD (a 9) n (tE (a 9) n p + 1)) (i := tE (a 9) n p + 1) rfl (by have := hf.2.2; exact Nat.le_trans this hn) hf.2.1) (r_iadd xc_22_135 (r_ri xc_22_136 xrt_22 ?_)))
          rw [e6 3 hk1, kI_add, e7]
          unfold tV
          rw [p_if_t hP, hk1]
          rw [show (if 3 = 1 then 100 else if 3 = 2 then 10 else 1) = 1 from rfl, Nat.mul_one]
        | j + 3, hj, _ => exact absurd hj (by show ¬ j + 3 < 3; omega)
      · have hk := hw.2 hP
        have e5 : nI (tF (a 9) n p) - nI (tE (a 9) n p + 1) = nI (tK (a 9) n p) := kI_sub hf.2.1
        have hx : (nI (tF (a 9) n p) - nI (tE (a 9) n p + 1)).toInt < 1 ∨ 3 < (nI (tF (a 9) n p) - nI (tE (a 9) n p + 1)).toInt := hx
        rw [e5, nI_toInt (by omega)] at hx
        omega
    · have hP : ¬ tP (a 9) n p := hc44
      have e7 : tN (a 9) n p = skn cD (a 9) n p := p_if_f hP
      rw [e7]
      unfold tV
      rw [p_if_f hP, Nat.add_zero]
theorem M_readNumber_n (h3 : z 3 = nI n) (h4 : z 4 = nI p) (hn : n ≤ 300) (hq : p ≤ n) (hw : ¬ tG (a 9) n p) : p_M X 1 22 [.ref 11] (hp z a w y g) (fun q => ∃ x, q = (.inl (some (.int (-1))), hp (u_ z 4 x) a w y g)) := by
  have hb := tE_le (T := a 9) hq
  have e0 : nI (tE (a 9) n p) - nI p = nI (tE (a 9) n p - p) := kI_sub hb.1
  refine (r_in xin_22 (r_aln xc_22_0 rfl (r_get xc_22_1 xf_22_28 g_1_3 (r_isn [_, _, _, _, _] xc_22_4 rfl rfl (r_aln xc_22_5 rfl ?_)))))
  rw [h4]
  refine (r_c0 xc_22_6 xm_22_6 rfl xrc_23 rfl (M_skipD (p := p) h3 h4 hn hq) (r_aln xc_22_9 rfl (r_get xc_22_10 xf_22_28 g_1_3 (r_iln xc_22_13 rfl (r_isub xc_22_14 (r_isn [_, _, _, _, _] xc_22_15 rfl rfl (r_iln xc_22_16 rfl (r_ic xc_22_17 kc_1 (r_clt xc_22_18 xj_22_18 (fun hc18 => (r_ic xc_22_26 kc_m1 (r_ri xc_22_27 xrt_22 ?_))) (fun hc18 => (r_iln xc_22_21 rfl (r_ic xc_22_22 kc_5 (r_cle xc_22_23 xj_22_23 (fun hc23 => (r_ic xc_22_26 kc_m1 (r_ri xc_22_27 xrt_22 ?_))) (fun hc23 => (r_aln xc_22_28 rfl (r_iln xc_22_29 rfl ?_))))))))))))))))
  · exact ⟨_, rfl⟩
  · exact ⟨_, rfl⟩
  · have hc23 : ¬ nI 5 < nI (tE (a 9) n p) - nI p := hc23
    have hc18 : ¬ nI (tE (a 9) n p) - nI p < nI 1 := hc18
    rw [e0, kI_lt (by omega) (by omega)] at hc23 hc18
    refine (r_cv xc_22_30 xm_22_30 rfl xrc_24 rfl (M_digitsFrom (p := tE (a 9) n p) (i := p) rfl (by omega) hb.1) (r_si xc_22_33 ks_1000 (r_imul xc_22_36 (r_isn [_, _, _, _, _] xc_22_37 rfl rfl (r_aln xc_22_38 rfl ?_)))))
    refine (r_cv xc_22_39 xm_22_39 rfl xrc_15 rfl (M_signHere (p := tE (a 9) n p) h3 rfl hn hb.2) (r_bi xc_22_42 kb_46 (r_ceq xc_22_44 xj_22_44 (fun hc44 => (r_aln xc_22_49 rfl (r_dup xc_22_50 rfl (r_get xc_22_51 xf_22_28 g_1_3 (r_ic xc_22_54 kc_1 (r_iadd xc_22_55 (r_put xc_22_56 xf_22_28 rfl s_1_3 (r_aln xc_22_59 rfl (r_get xc_22_60 xf_22_28 g_1_3 (r_is [_, _, _, _, _] xc_22_63 rfl rfl (r_aln xc_22_65 rfl ?_))))))))))) (fun hc44 => (r_iln xc_22_47 rfl (r_ri xc_22_48 xrt_22 ?_))))))
    · have hP : tP (a 9) n p := hc44
      have hf := tF_le hP
      have e4 : u_ z 4 (nI (skn cD (a 9) n p)) 4 + nI 1 = nI (tE (a 9) n p + 1) := kI_add _ 1
      rw [u_u, e4]
      refine (r_c0 xc_22_66 xm_22_66 rfl xrc_23 rfl (M_skipD (p := tE (a 9) n p + 1) h3 rfl hn (by omega)) (r_aln xc_22_69 rfl (r_get xc_22_70 xf_22_28 g_1_3 (r_il xc_22_73 rfl (r_isub xc_22_75 (r_ts xc_22_76 (by decide) (by decide) (fun j hj hx => ?_) (fun hx => ?_)))))))
      · exfalso
        refine hw ⟨⟨by omega, by omega⟩, fun _ => ?_⟩
        have e5 : nI (tF (a 9) n p) - nI (tE (a 9) n p + 1) = nI (tK (a 9) n p) := kI_sub hf.2.1
        have hx : (nI (tF (a 9) n p) - nI (tE (a 9) n p + 1)).toInt = 1 + (j : Int) := hx
        have hk3 : tK (a 9) n p < 400 := by unfold tK; omega
        rw [e5, nI_toInt (by omega)] at hx
        have hj : j < 3 := hj
        omega
      · rw [u_u]
        refine (r_ic (pc := 137) xc_22_137 kc_m1 (r_ri xc_22_138 xrt_22 ⟨_, rfl⟩))
    · have hP : ¬ tP (a 9) n p := hc44
      exact absurd ⟨⟨by omega, by omega⟩, fun h => absurd h hP⟩ hw
theorem M_kindOfSign {c : Int32} : p_M X 0 45 [.int c] (hp z a w y g) (fun q => q = (.inl (some (.int (if c = nI 43 then nI 3 else if c = nI 45 then nI 4 else -1))), hp z a w y g)) := by
  refine (r_in xin_45 (r_iln xc_45_0 rfl (r_bi xc_45_1 kb_43 (r_cne xc_45_3 xj_45_3 (fun hc3 => (r_ic xc_45_6 kc_3 (r_ri xc_45_7 xrt_45 ?_))) (fun hc3 => (r_iln xc_45_8 rfl (r_bi xc_45_9 kb_45 (r_cne xc_45_11 xj_45_11 (fun hc11 => (r_ic xc_45_14 kc_4 (r_go xc_45_15 xj_45_15 (r_ri xc_45_19 xrt_45 ?_)))) (fun hc11 => (r_ic xc_45_18 kc_m1 (r_ri xc_45_19 xrt_45 ?_)))))))))))
  · rw [if_pos hc3]
  · rw [if_neg hc3, if_pos hc11]
  · rw [if_neg hc3, if_neg hc11]
theorem M_readEnd_y (h3 : z 3 = nI n) (h4 : z 4 = nI p) (hn : n ≤ 300) (hq : p ≤ n) (hs : skn cB (a 9) n p = n) : p_M X 1 48 [.ref 11] (hp z a w y g) (fun q => q = (.inl (some (.int (nI 1))), hp (u_ z 4 (nI n)) a w y g)) := by
  refine (r_in xin_48 (r_aln xc_48_0 rfl ?_))
  refine (r_c0 xc_48_1 xm_48_1 rfl xrc_14 rfl (M_skipB h3 h4 hn hq) (r_aln xc_48_4 rfl (r_get xc_48_5 xf_48_28 g_1_3 (r_aln xc_48_8 rfl (r_get xc_48_9 xf_48_19 g_1_2 (r_cge xc_48_12 xj_48_12 (fun hc12 => (r_aln xc_48_15 rfl (r_aln xc_48_16 rfl (r_get xc_48_17 xf_48_28 g_1_3 ?_)))) (fun hc12 => (r_ic xc_48_26 kc_1 (r_go xc_48_27 xj_48_27 (r_rz xc_48_31 xrt_48 ?_ ?_))))))))))
  · have hc12 : nI (skn cB (a 9) n p) < z 3 := hc12
    rw [h3, hs, kI_lt (by omega) (by omega)] at hc12
    omega
  · exact Or.inr rfl
  · rw [hs]
theorem M_readEnd_n (h3 : z 3 = nI n) (h4 : z 4 = nI p) (hn : n ≤ 300) (hq : p ≤ n) (hs : ¬ skn cB (a 9) n p = n) : p_M X 1 48 [.ref 11] (hp z a w y g) (fun q => q = (.inl (some (.int (nI 0))), hp (u_ (u_ z 4 (nI (skn cB (a 9) n p))) 5 (nI (skn cB (a 9) n p))) a w y g)) := by
  have hb := skn_ge cB (a 9) hq
  refine (r_in xin_48 (r_aln xc_48_0 rfl ?_))
  refine (r_c0 xc_48_1 xm_48_1 rfl xrc_14 rfl (M_skipB h3 h4 hn hq) (r_aln xc_48_4 rfl (r_get xc_48_5 xf_48_28 g_1_3 (r_aln xc_48_8 rfl (r_get xc_48_9 xf_48_19 g_1_2 (r_cge xc_48_12 xj_48_12 (fun hc12 => (r_aln xc_48_15 rfl (r_aln xc_48_16 rfl (r_get xc_48_17 xf_48_28 g_1_3 ?_)))) (fun hc12 => (r_ic xc_48_26 kc_1 (r_go xc_48_27 xj_48_27 (r_rz xc_48_31 xrt_48 ?_ ?_))))))))))
  · refine (r_cv xc_48_20 xm_48_20 rfl xrc_17 rfl (M_refuse) (r_zeq xc_48_23 xj_48_23 (fun hc23 => (r_ic xc_48_30 kc_0 (r_rz xc_48_31 xrt_48 ?_ ?_))) (fun hc23 => (r_ic xc_48_26 kc_1 (r_go xc_48_27 xj_48_27 (r_rz xc_48_31 xrt_48 ?_ ?_))))))
    · exact Or.inl rfl
    · rfl
    · exact absurd rfl hc23
    · exact absurd rfl hc23
  · have hc12 : ¬ nI (skn cB (a 9) n p) < z 3 := hc12
    rw [h3, kI_lt (by omega) (by omega)] at hc12
    omega
  · have hc12 : ¬ nI (skn cB (a 9) n p) < z 3 := hc12
    rw [h3, kI_lt (by omega) (by omega)] at hc12
    omega
end READ
