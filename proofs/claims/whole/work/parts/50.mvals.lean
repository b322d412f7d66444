/-! ===== the model's values ===== -/
/-- the model holds tree t from node b on -/
def MpT (a : Nat → Nat → Int32) (b : Nat) (t : List pN) : Prop := ∀ i v, t[i]? = some v → mv a (60 + (b + i)) v ∧ a 18 (60 + (b + i)) = (if v.2.2.2.1 = 0 then -1 else nI (b + i + 1)) ∧ a 19 (60 + (b + i)) = (if v.2.2.2.1 = 0 then -1 else nI (b + i + v.2.2.2.1))
theorem Mp.at {a : Nat → Nat → Int32} {ns t u : List pN} {b : Nat} (h : Mp a ns) (hd : ns.drop b = t ++ u) : MpT a b t := by
  intro i v hi
  have hl := getElem?_lt hi
  have : ns[b + i]? = some v := by
    have h2 : (ns.drop b)[i]? = some v := by rw [hd, List.getElem?_append_left hl]; exact hi
    rw [List.getElem?_drop] at h2
    exact h2
  exact h (b + i) v this
theorem MpT.right {a : Nat → Nat → Int32} {b : Nat} {v : pN} {l r : List pN} (h : MpT a b (v :: (l ++ r))) : MpT a (b + 1 + l.length) r := by
  intro i x hi
  have := h (1 + l.length + i) x (by
    rw [show 1 + l.length + i = (l.length + i) + 1 by omega, List.getElem?_cons_succ, List.getElem?_append_right (by omega), Nat.add_sub_cancel_left]
    exact hi)
  rw [show b + (1 + l.length + i) = b + 1 + l.length + i by omega] at this
  exact this
section MVALS
variable {X : pX} {z : Nat → Int32} {a : Nat → Nat → Int32} {w : Nat → Nat → Int64} {y : Nat → Int64} {g : List pE} {A : Nat → Option Nat} {M G : Nat → Nat} {pc : Nat}
theorem L_behind2 {x1 : Int32} {t : List pN} (hT : TW t) : ∀ b, b + t.length ≤ 60 → MpT a b t → p_E X 0 125 2 [some (.ref 22), some (.int x1), some (.int (nI b))] [] (hp z a w y g) (fun q => q = (.inl (some (.int (nI (b + t.length)))), hp z a w y g)) := by
  refine TW_ind (C := fun t => ∀ b, b + t.length ≤ 60 → MpT a b t → p_E X 0 125 2 [some (.ref 22), some (.int x1), some (.int (nI b))] [] (hp z a w y g) (fun q => q = (.inl (some (.int (nI (b + t.length)))), hp z a w y g))) ?_ ?_ hT
  · intro v hv b hb hM
    have h19 := (hM 0 v rfl).2.2
    rw [if_pos hv.1, Nat.add_zero] at h19
    have c19 : a 19 (nI 60 + nI b).toNatClampNeg = -1 := by rw [kI_add, kI_cl (by simp at hb; omega)]; exact h19
    simp only [List.length_singleton] at hb
    refine (r_aln xc_125_2 rfl (r_get xc_125_3 xf_125_25 g_6_9 (r_bi xc_125_6 kb_60 (r_iln xc_125_8 rfl (r_iadd xc_125_9 (r_ia xc_125_10 b_28 ?_ (r_ic xc_125_11 kc_m1 (r_ceq xc_125_12 xj_125_12 (fun hc12 => (r_iln xc_125_28 rfl (r_ic xc_125_29 kc_1 (r_iadd xc_125_30 (r_ri xc_125_31 xrt_125 ?_))))) (fun hc12 => (r_aln xc_125_15 rfl (r_get xc_125_16 xf_125_25 g_6_9 (r_bi xc_125_19 kb_60 (r_iln xc_125_21 rfl (r_iadd xc_125_22 (r_ia xc_125_23 b_28 ?_ (r_isn [_, _, _] xc_125_24 rfl rfl (r_go xc_125_25 xj_125_25 ?_)))))))))))))))))
    · rw [kI_add]; exact kI_in (by omega) (by omega)
    · rw [kI_add]; rfl
    · rw [kI_add]; exact kI_in (by omega) (by omega)
    · exact absurd c19 hc12
  · intro v l r hv hl hr il ir b hb hM
    simp only [List.length_cons, List.length_append] at hb
    have hl1 := TW_ne hl
    have h19 := (hM 0 v rfl).2.2
    have hR := hv.2.2.2.1
    rw [if_neg (by omega), Nat.add_zero, hR] at h19
    have c19 : a 19 (nI 60 + nI b).toNatClampNeg = nI (b + (1 + l.length)) := by rw [kI_add, kI_cl (by omega)]; exact h19
    refine (r_aln xc_125_2 rfl (r_get xc_125_3 xf_125_25 g_6_9 (r_bi xc_125_6 kb_60 (r_iln xc_125_8 rfl (r_iadd xc_125_9 (r_ia xc_125_10 b_28 ?_ (r_ic xc_125_11 kc_m1 (r_ceq xc_125_12 xj_125_12 (fun hc12 => (r_iln xc_125_28 rfl (r_ic xc_125_29 kc_1 (r_iadd xc_125_30 (r_ri xc_125_31 xrt_125 ?_))))) (fun hc12 => (r_aln xc_125_15 rfl (r_get xc_125_16 xf_125_25 g_6_9 (r_bi xc_125_19 kb_60 (r_iln xc_125_21 rfl (r_iadd xc_125_22 (r_ia xc_125_23 b_28 ?_ (r_isn [_, _, _] xc_125_24 rfl rfl (r_go xc_125_25 xj_125_25 ?_)))))))))))))))))
    · rw [kI_add]; exact kI_in (by omega) (by omega)
    · rw [c19] at hc12; exact absurd hc12 (kI_m1 (by omega))
    · rw [kI_add]; exact kI_in (by omega) (by omega)
    · rw [c19]
      have := ir (b + 1 + l.length) (by omega) hM.right
      rw [show b + (1 + l.length) = b + 1 + l.length by omega]
      rw [show b + (v :: (l ++ r)).length = b + 1 + l.length + r.length by simp only [List.length_cons, List.length_append]; omega]
      exact this
theorem M_behind2 {t : List pN} {b : Nat} (hT : TW t) (hb : b + t.length ≤ 60) (hM : MpT a b t) : p_M X 0 125 [.ref 22, .int (nI b)] (hp z a w y g) (fun q => q = (.inl (some (.int (nI (b + t.length)))), hp z a w y g)) := by
  refine (r_in xin_125 (r_iln xc_125_0 rfl (r_isn [_, _, _] xc_125_1 rfl rfl ?_)))
  exact L_behind2 hT b hb hM
theorem L_stepM {n en : Nat} {rs : List (Nat × Nat)} {qq : Int64} (hn : n < 120) (h6 : rs.length ≤ 6) (h20 : a 20 n = nI rs.length) (hpc : pc ≤ 100000000) (hy : y 1 = nL pc) (hen : en < 100000000) (hrs : ∀ q ∈ rs, q.1 < 1000000 ∧ q.2 < 1000000) (hr : ∀ k q, rs[k]? = some q → a 21 (6 * n + k) = nI q.1 ∧ a 22 (6 * n + k) = nI q.2) (hqq : ¬ pc = 0 → qq = nL (en * 100 / pc)) : ∀ r j c, j + r = rs.length →
    p_E X 0 127 36 [some (.ref 22), some (.int (nI n)), some (.long qq), none, some (.long (nL c)), none, some (.int (nI j))] [] (hp z a w y g) (fun q => q = (.inl (some (.long (nL (stC pc en (rs.drop j) c) * nL 1000000))), hp z a w y g)) := by
  have e6 : (1000000 : Int64) = nL 1000000 := by decide
  have c20 : a 20 (nI n).toNatClampNeg = nI rs.length := by rw [kI_cl (by omega)]; exact h20
  intro r
  induction r with
  | zero =>
    intro j c hj
    have hd : rs.drop j = [] := List.drop_eq_nil_of_le (by omega)
    rw [hd]
    refine (r_il xc_127_36 rfl (r_aln xc_127_38 rfl (r_get xc_127_39 xf_127_28 g_6_10 (r_iln xc_127_42 rfl (r_ia xc_127_43 b_29 ?_ (r_cge xc_127_44 xj_127_44 (fun hc44 => (r_aln xc_127_47 rfl (r_get xc_127_48 xf_127_191 g_6_25 (r_lc xc_127_51 kl_0 (r_leq xc_127_52 xc_127_53 xj_127_53 (fun hc53 => (r_aln xc_127_74 rfl (r_get xc_127_75 xf_127_34 g_6_12 (r_bi xc_127_78 kb_6 (r_iln xc_127_80 rfl (r_imul xc_127_81 (r_il xc_127_82 rfl (r_iadd xc_127_84 (r_ia xc_127_85 b_31 ?_ (r_i2l xc_127_86 (r_ls [_, _, _, _, _, _, _] xc_127_87 rfl rfl (r_inc [_, _, _, _, _, _, _] xc_127_89 rfl rfl (ki_1 _) rfl (r_go xc_127_92 xj_127_92 ?_))))))))))))) (fun hc53 => (r_aln xc_127_56 rfl (r_get xc_127_57 xf_127_31 g_6_11 (r_bi xc_127_60 kb_6 (r_iln xc_127_62 rfl (r_imul xc_127_63 (r_il xc_127_64 rfl (r_iadd xc_127_66 (r_ia xc_127_67 b_30 ?_ (r_i2l xc_127_68 (r_lln xc_127_69 rfl (r_lgt xc_127_70 xc_127_71 xj_127_71 (fun hc71 => (r_inc [_, _, _, _, _, _, _] xc_127_89 rfl rfl (ki_1 _) rfl (r_go xc_127_92 xj_127_92 ?_))) (fun hc71 => (r_aln xc_127_74 rfl (r_get xc_127_75 xf_127_34 g_6_12 (r_bi xc_127_78 kb_6 (r_iln xc_127_80 rfl (r_imul xc_127_81 (r_il xc_127_82 rfl (r_iadd xc_127_84 (r_ia xc_127_85 b_31 ?_ (r_i2l xc_127_86 (r_ls [_, _, _, _, _, _, _] xc_127_87 rfl rfl (r_inc [_, _, _, _, _, _, _] xc_127_89 rfl rfl (ki_1 _) rfl (r_go xc_127_92 xj_127_92 ?_)))))))))))))))))))))))))))))) (fun hc44 => (r_ll xc_127_95 rfl (r_ldl xc_127_97 xl_127_202 (r_lmul xc_127_100 (r_rl xc_127_101 xrt_127 ?_)))))))))))
    · exact kI_in (by omega) (by omega)
    all_goals try (rw [c20, kI_lt (by omega) (by omega)] at hc44; omega)
    rw [e6]; rfl
  | succ r ih =>
    intro j c hj
    have hjl : j < rs.length := by omega
    obtain ⟨q, hq⟩ : ∃ q, rs[j]? = some q := ⟨_, List.getElem?_eq_getElem hjl⟩
    obtain ⟨h7, h8⟩ := hr j q hq
    obtain ⟨q1, q2⟩ := hrs q (List.mem_of_getElem? hq)
    have hd : rs.drop j = q :: rs.drop (j + 1) := by
      rw [List.drop_eq_getElem_cons hjl]
      congr 1
      rw [List.getElem?_eq_getElem hjl] at hq
      exact Option.some.inj hq
    have ei : nI 6 * nI n + nI j = nI (6 * n + j) := by rw [kI_mul, kI_add]
    have c8 : (a 22 (nI 6 * nI n + nI j).toNatClampNeg).toInt64 = nL q.2 := by rw [ei, kI_cl (by omega), h8, kI_i2l (by omega)]
    have c7 : (a 21 (nI 6 * nI n + nI j).toNatClampNeg).toInt64 = nL q.1 := by rw [ei, kI_cl (by omega), h7, kI_i2l (by omega)]
    have hdv : en * 100 / pc < 9223372036854775808 := Nat.lt_of_le_of_lt (Nat.div_le_self _ _) (by omega)
    have go : ∀ (c' : Nat), c' = (if pc = 0 ∨ q.1 ≤ en * 100 / pc then q.2 else c) → p_E X 0 127 36 [some (.ref 22), some (.int (nI n)), some (.long qq), none, some (.long (nL c')), none, some (.int (nI j + nI 1))] [] (hp z a w y g) (fun q' => q' = (.inl (some (.long (nL (stC pc en (q :: rs.drop (j + 1)) c) * nL 1000000))), hp z a w y g)) := by
      intro c' hc'
      rw [kI_add]
      have := ih (j + 1) c' (by omega)
      show p_E X 0 127 36 _ [] _ (fun q' => q' = (.inl (some (.long (nL (stC pc en (rs.drop (j + 1)) (if pc = 0 ∨ q.1 ≤ en * 100 / pc then q.2 else c)) * nL 1000000))), hp z a w y g))
      rw [← hc']
      exact this
    rw [hd]
    refine (r_il xc_127_36 rfl (r_aln xc_127_38 rfl (r_get xc_127_39 xf_127_28 g_6_10 (r_iln xc_127_42 rfl (r_ia xc_127_43 b_29 ?_ (r_cge xc_127_44 xj_127_44 (fun hc44 => (r_aln xc_127_47 rfl (r_get xc_127_48 xf_127_191 g_6_25 (r_lc xc_127_51 kl_0 (r_leq xc_127_52 xc_127_53 xj_127_53 (fun hc53 => (r_aln xc_127_74 rfl (r_get xc_127_75 xf_127_34 g_6_12 (r_bi xc_127_78 kb_6 (r_iln xc_127_80 rfl (r_imul xc_127_81 (r_il xc_127_82 rfl (r_iadd xc_127_84 (r_ia xc_127_85 b_31 ?_ (r_i2l xc_127_86 (r_ls [_, _, _, _, _, _, _] xc_127_87 rfl rfl (r_inc [_, _, _, _, _, _, _] xc_127_89 rfl rfl (ki_1 _) rfl (r_go xc_127_92 xj_127_92 ?_))))))))))))) (fun hc53 => (r_aln xc_127_56 rfl (r_get xc_127_57 xf_127_31 g_6_11 (r_bi xc_127_60 kb_6 (r_iln xc_127_62 rfl (r_imul xc_127_63 (r_il xc_127_64 rfl (r_iadd xc_127_66 (r_ia xc_127_67 b_30 ?_ (r_i2l xc_127_68 (r_lln xc_127_69 rfl (r_lgt xc_127_70 xc_127_71 xj_127_71 (fun hc71 => (r_inc [_, _, _, _, _, _, _] xc_127_89 rfl rfl (ki_1 _) rfl (r_go xc_127_92 xj_127_92 ?_))) (fun hc71 => (r_aln xc_127_74 rfl (r_get xc_127_75 xf_127_34 g_6_12 (r_bi xc_127_78 kb_6 (r_iln xc_127_80 rfl (r_imul xc_127_81 (r_il xc_127_82 rfl (r_iadd xc_127_84 (r_ia xc_127_85 b_31 ?_ (r_i2l xc_127_86 (r_ls [_, _, _, _, _, _, _] xc_127_87 rfl rfl (r_inc [_, _, _, _, _, _, _] xc_127_89 rfl rfl (ki_1 _) rfl (r_go xc_127_92 xj_127_92 ?_)))))))))))))))))))))))))))))) (fun hc44 => (r_ll xc_127_95 rfl (r_ldl xc_127_97 xl_127_202 (r_lmul xc_127_100 (r_rl xc_127_101 xrt_127 ?_)))))))))))
    · exact kI_in (by omega) (by omega)
    · rw [ei]; exact kI_in (by omega) (by omega)
    · rw [hy, nL_0, kL_inj (by omega) (by omega)] at hc53
      rw [c8]
      exact go _ (if_pos (Or.inl hc53)).symm
    · rw [ei]; exact kI_in (by omega) (by omega)
    · rw [hy, nL_0, kL_inj (by omega) (by omega)] at hc53
      rw [c7, hqq hc53, kL_lt hdv (by omega)] at hc71
      exact go _ (if_neg (by rintro (h | h); exact hc53 h; omega)).symm
    · rw [ei]; exact kI_in (by omega) (by omega)
    · rw [hy, nL_0, kL_inj (by omega) (by omega)] at hc53
      rw [c7, hqq hc53, kL_lt hdv (by omega)] at hc71
      rw [c8]
      exact go _ (if_pos (Or.inr (by omega))).symm
    · rw [c20, kI_lt (by omega) (by omega)] at hc44; omega
theorem M_stepOf {n : Nat} {v : pN} (hn : n < 120) (hmv : mv a n v) (hv : lfOk v) (h7 : v.1 = 7) (hpc : pc ≤ 100000000) (hy : y 1 = nL pc) : p_M X 0 127 [.ref 22, .int (nI n)] (hp z a w y g) (fun q => q = (.inl (some (.long (nL (stC pc v.2.1 v.2.2.2.2 0) * nL 1000000))), hp z a w y g)) := by
  obtain ⟨m0, m1, m2, m3, m4⟩ := hmv
  have hv7 : v.2.1 < 1000000 ∧ v.2.2.1 = 0 ∧ v.2.2.2.2 ≠ [] ∧ v.2.2.2.2.length ≤ 6 ∧ ∀ q ∈ v.2.2.2.2, q.1 < 1000000 ∧ q.2 < 1000000 := by
    rcases hv.2.2 with h | h | h | h
    · omega
    · omega
    · omega
    · exact h.2
  have c1 : (a 16 (nI n).toNatClampNeg).toInt64 = nL v.2.1 := by rw [kI_cl (by omega), m1, kI_i2l (by omega)]
  refine (r_in xin_127 (r_aln xc_127_0 rfl (r_get xc_127_1 xf_127_191 g_6_25 (r_lc xc_127_4 kl_0 (r_lne xc_127_5 xc_127_6 xj_127_6 (fun hc6 => (r_lc xc_127_9 kl_0 (r_go xc_127_10 xj_127_10 (r_lsn [_, _, _, _, _, _, _] xc_127_29 rfl rfl (r_lc xc_127_30 kl_0 (r_ls [_, _, _, _, _, _, _] xc_127_31 rfl rfl (r_ic xc_127_33 kc_0 (r_is [_, _, _, _, _, _, _] xc_127_34 rfl rfl ?_)))))))) (fun hc6 => (r_aln xc_127_13 rfl (r_get xc_127_14 xf_127_16 g_6_6 (r_iln xc_127_17 rfl (r_ia xc_127_18 b_25 ?_ (r_i2l xc_127_19 (r_ldl xc_127_20 xl_127_200 (r_lmul xc_127_23 (r_aln xc_127_24 rfl (r_get xc_127_25 xf_127_191 g_6_25 (r_ldiv xc_127_28 ?_ (r_lsn [_, _, _, _, _, _, _] xc_127_29 rfl rfl (r_lc xc_127_30 kl_0 (r_ls [_, _, _, _, _, _, _] xc_127_31 rfl rfl (r_ic xc_127_33 kc_0 (r_is [_, _, _, _, _, _, _] xc_127_34 rfl rfl ?_)))))))))))))))))))))
  · rw [hy, nL_0, kL_inj (by omega) (by omega)] at hc6
    have := L_stepM (X := X) (z := z) (a := a) (w := w) (g := g) (qq := 0) hn hv7.2.2.2.1 m3 hpc hy (show v.2.1 < 100000000 by omega) hv7.2.2.2.2 m4 (fun h => absurd hc6 h) v.2.2.2.2.length 0 0 (by omega)
    rw [← nL_0] at this
    exact this
  · exact kI_in (by omega) (by omega)
  · exact hc6
  · have e1 : (100 : Int64) = nL 100 := by decide
    rw [c1, hy, e1, kL_mul, kL_div (by omega) (by omega)]
    have := L_stepM (X := X) (z := z) (a := a) (w := w) (g := g) (qq := nL (v.2.1 * 100 / pc)) hn hv7.2.2.2.1 m3 hpc hy (show v.2.1 < 100000000 by omega) hv7.2.2.2.2 m4 (fun _ => rfl) v.2.2.2.2.length 0 0 (by omega)
    rw [← nL_0] at this
    exact this
end MVALS
