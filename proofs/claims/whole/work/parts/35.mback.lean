/-! ===== the model behind a part ===== -/
section MBACK
variable {X : pX} {n p deep : Nat} {z : Nat → Int32} {a : Nat → Nat → Int32} {w : Nat → Nat → Int64} {y : Nat → Int64} {g : List pE}
theorem top_e (h16 : z 16 = nI (deep + 1)) : z 16 - nI 1 = nI deep := by rw [h16, kI_sub (by omega)]; rfl
theorem MB_sign {cnt : Nat} (h7 : z 7 = nI n) (h8 : z 8 = nI p) (hn : n ≤ 300) (hq : p ≤ n) (h16 : z 16 = nI (deep + 1)) (hd : deep ≤ 12) (h12 : z 12 = nI cnt) (hc : cnt < 60) (hk : ¬ sKind (sg (a 14) n (skn cB (a 14) n p)) = 0) : p_M X 2 116 [.ref 22] (hp z a w y g) (fun q => q = (.inl (some (.int (nI 1))), hp (u_ (u_ z 12 (nI (cnt + 1))) 8 (nI (skn cB (a 14) n p + 1))) (u_ a 26 (upd (a 26) deep (nI (sKind (sg (a 14) n (skn cB (a 14) n p)))))) w y g)) := by
  have et : u_ z 8 (nI (skn cB (a 14) n p)) 16 - nI 1 = nI deep := top_e h16
  have e8 : u_ (u_ z 8 (nI (skn cB (a 14) n p))) 12 (nI (cnt + 1)) 8 + nI 1 = nI (skn cB (a 14) n p + 1) := kI_add _ 1
  have e9 : ∀ v v2 v3 : Int32, u_ (u_ (u_ z 8 v) 12 v2) 8 v3 = u_ (u_ z 12 v2) 8 v3 := fun v v2 v3 => by rw [u_c z v v2 (by omega), u_u]
  refine (r_in xin_116 (r_aln xc_116_0 rfl ?_))
  refine (r_cv xc_116_1 xm_116_1 rfl xrc_100 rfl (p_M.up (M_look h7 h8 hn hq) (by omega)) (r_isn [_, _, _, _] xc_116_4 rfl rfl (r_aln xc_116_5 rfl (r_get xc_116_6 xf_116_132 g_6_22 (r_ic xc_116_9 kc_1 (r_isub xc_116_10 (r_isn [_, _, _, _] xc_116_11 rfl rfl (r_iln xc_116_12 rfl (r_bi xc_116_13 kb_43 (r_ceq xc_116_15 xj_116_15 (fun hc15 => ?_) (fun hc15 => (r_iln xc_116_18 rfl (r_bi xc_116_19 kb_45 (r_cne xc_116_21 xj_116_21 (fun hc21 => ?_) (fun hc21 => ?_)))))))))))))))
  · rw [et]
    refine (r_aln xc_116_24 rfl (r_aln xc_116_25 rfl (r_get xc_116_26 xf_116_80 g_6_2 ?_)))
    refine (r_cv xc_116_29 xm_116_29 rfl xrc_104 rfl (M_counts_y (c := cnt) h12 hc) (r_zne xc_116_32 xj_116_32 (fun hc32 => (r_ic xc_116_35 kc_0 (r_rz xc_116_36 xrt_116 ?_ ?_))) (fun hc32 => (r_aln xc_116_37 rfl (r_get xc_116_38 xf_116_46 g_6_21 (r_iln xc_116_41 rfl (r_iln xc_116_42 rfl (r_bi xc_116_43 kb_43 (r_cne xc_116_45 xj_116_45 (fun hc45 => (r_ic xc_116_48 kc_3 (r_go xc_116_49 xj_116_49 (r_ias xc_116_53 b_35 t_35 ?_ (r_aln xc_116_54 rfl (r_dup xc_116_55 rfl (r_get xc_116_56 xf_116_80 g_6_2 (r_ic xc_116_59 kc_1 (r_iadd xc_116_60 (r_put xc_116_61 xf_116_80 rfl s_6_2 (r_ic xc_116_64 kc_1 (r_rz xc_116_65 xrt_116 ?_ ?_)))))))))))) (fun hc45 => (r_ic xc_116_52 kc_4 (r_ias xc_116_53 b_35 t_35 ?_ (r_aln xc_116_54 rfl (r_dup xc_116_55 rfl (r_get xc_116_56 xf_116_80 g_6_2 (r_ic xc_116_59 kc_1 (r_iadd xc_116_60 (r_put xc_116_61 xf_116_80 rfl s_6_2 (r_ic xc_116_64 kc_1 (r_rz xc_116_65 xrt_116 ?_ ?_))))))))))))))))))))
    · exact Or.inl rfl
    · exact absurd hc32 (by decide)
    · exact kI_in (by omega) (by omega)
    · exact Or.inr rfl
    · rw [kI_cl (by omega), e8, e9, hc15]; rfl
    · exact absurd hc15 hc45
    · exact absurd hc15 hc45
    · exact absurd hc15 hc45
  · rw [et]
    refine (r_aln xc_116_24 rfl (r_aln xc_116_25 rfl (r_get xc_116_26 xf_116_80 g_6_2 ?_)))
    refine (r_cv xc_116_29 xm_116_29 rfl xrc_104 rfl (M_counts_y (c := cnt) h12 hc) (r_zne xc_116_32 xj_116_32 (fun hc32 => (r_ic xc_116_35 kc_0 (r_rz xc_116_36 xrt_116 ?_ ?_))) (fun hc32 => (r_aln xc_116_37 rfl (r_get xc_116_38 xf_116_46 g_6_21 (r_iln xc_116_41 rfl (r_iln xc_116_42 rfl (r_bi xc_116_43 kb_43 (r_cne xc_116_45 xj_116_45 (fun hc45 => (r_ic xc_116_48 kc_3 (r_go xc_116_49 xj_116_49 (r_ias xc_116_53 b_35 t_35 ?_ (r_aln xc_116_54 rfl (r_dup xc_116_55 rfl (r_get xc_116_56 xf_116_80 g_6_2 (r_ic xc_116_59 kc_1 (r_iadd xc_116_60 (r_put xc_116_61 xf_116_80 rfl s_6_2 (r_ic xc_116_64 kc_1 (r_rz xc_116_65 xrt_116 ?_ ?_)))))))))))) (fun hc45 => (r_ic xc_116_52 kc_4 (r_ias xc_116_53 b_35 t_35 ?_ (r_aln xc_116_54 rfl (r_dup xc_116_55 rfl (r_get xc_116_56 xf_116_80 g_6_2 (r_ic xc_116_59 kc_1 (r_iadd xc_116_60 (r_put xc_116_61 xf_116_80 rfl s_6_2 (r_ic xc_116_64 kc_1 (r_rz xc_116_65 xrt_116 ?_ ?_))))))))))))))))))))
    · exact Or.inl rfl
    · exact absurd hc32 (by decide)
    · exact absurd hc45 hc15
    · exact absurd hc45 hc15
    · exact absurd hc45 hc15
    · exact kI_in (by omega) (by omega)
    · exact Or.inr rfl
    · rw [kI_cl (by omega), e8, e9, hc21]; rfl
  · exfalso
    refine hk ?_
    unfold sKind
    rw [if_neg hc15, if_neg hc21]
theorem MB_full (h9 : z 9 = -1) (h7 : z 7 = nI n) (h8 : z 8 = nI p) (hn : n ≤ 300) (hq : p ≤ n) (h12 : z 12 = nI 60) (hk : ¬ sKind (sg (a 14) n (skn cB (a 14) n p)) = 0) : p_M X 2 116 [.ref 22] (hp z a w y g) (fun q => q = (.inl (some (.int (nI 0))), hp (u_ (u_ z 8 (nI (skn cB (a 14) n p))) 9 (nI (skn cB (a 14) n p))) a w y g)) := by
  have e8 : u_ z 8 (nI (skn cB (a 14) n p)) 8 = nI (skn cB (a 14) n p) := rfl
  refine (r_in xin_116 (r_aln xc_116_0 rfl ?_))
  refine (r_cv xc_116_1 xm_116_1 rfl xrc_100 rfl (p_M.up (M_look h7 h8 hn hq) (by omega)) (r_isn [_, _, _, _] xc_116_4 rfl rfl (r_aln xc_116_5 rfl (r_get xc_116_6 xf_116_132 g_6_22 (r_ic xc_116_9 kc_1 (r_isub xc_116_10 (r_isn [_, _, _, _] xc_116_11 rfl rfl (r_iln xc_116_12 rfl (r_bi xc_116_13 kb_43 (r_ceq xc_116_15 xj_116_15 (fun hc15 => ?_) (fun hc15 => (r_iln xc_116_18 rfl (r_bi xc_116_19 kb_45 (r_cne xc_116_21 xj_116_21 (fun hc21 => ?_) (fun hc21 => ?_)))))))))))))))
  · refine (r_aln xc_116_24 rfl (r_aln xc_116_25 rfl (r_get xc_116_26 xf_116_80 g_6_2 ?_)))
    rw [e8]
    refine (r_cv xc_116_29 xm_116_29 rfl xrc_104 rfl (M_counts_n h12 h9) (r_zne xc_116_32 xj_116_32 (fun hc32 => (r_ic xc_116_35 kc_0 (r_rz xc_116_36 xrt_116 ?_ ?_))) (fun hc32 => (r_aln xc_116_37 rfl (r_get xc_116_38 xf_116_46 g_6_21 (r_iln xc_116_41 rfl (r_iln xc_116_42 rfl (r_bi xc_116_43 kb_43 (r_cne xc_116_45 xj_116_45 (fun hc45 => (r_ic xc_116_48 kc_3 (r_go xc_116_49 xj_116_49 (r_ias xc_116_53 b_35 t_35 ?_ (r_aln xc_116_54 rfl (r_dup xc_116_55 rfl (r_get xc_116_56 xf_116_80 g_6_2 (r_ic xc_116_59 kc_1 (r_iadd xc_116_60 (r_put xc_116_61 xf_116_80 rfl s_6_2 (r_ic xc_116_64 kc_1 (r_rz xc_116_65 xrt_116 ?_ ?_)))))))))))) (fun hc45 => (r_ic xc_116_52 kc_4 (r_ias xc_116_53 b_35 t_35 ?_ (r_aln xc_116_54 rfl (r_dup xc_116_55 rfl (r_get xc_116_56 xf_116_80 g_6_2 (r_ic xc_116_59 kc_1 (r_iadd xc_116_60 (r_put xc_116_61 xf_116_80 rfl s_6_2 (r_ic xc_116_64 kc_1 (r_rz xc_116_65 xrt_116 ?_ ?_))))))))))))))))))))
    · exact Or.inl rfl
    · rfl
    all_goals exact absurd rfl hc32
  · refine (r_aln xc_116_24 rfl (r_aln xc_116_25 rfl (r_get xc_116_26 xf_116_80 g_6_2 ?_)))
    rw [e8]
    refine (r_cv xc_116_29 xm_116_29 rfl xrc_104 rfl (M_counts_n h12 h9) (r_zne xc_116_32 xj_116_32 (fun hc32 => (r_ic xc_116_35 kc_0 (r_rz xc_116_36 xrt_116 ?_ ?_))) (fun hc32 => (r_aln xc_116_37 rfl (r_get xc_116_38 xf_116_46 g_6_21 (r_iln xc_116_41 rfl (r_iln xc_116_42 rfl (r_bi xc_116_43 kb_43 (r_cne xc_116_45 xj_116_45 (fun hc45 => (r_ic xc_116_48 kc_3 (r_go xc_116_49 xj_116_49 (r_ias xc_116_53 b_35 t_35 ?_ (r_aln xc_116_54 rfl (r_dup xc_116_55 rfl (r_get xc_116_56 xf_116_80 g_6_2 (r_ic xc_116_59 kc_1 (r_iadd xc_116_60 (r_put xc_116_61 xf_116_80 rfl s_6_2 (r_ic xc_116_64 kc_1 (r_rz xc_116_65 xrt_116 ?_ ?_)))))))))))) (fun hc45 => (r_ic xc_116_52 kc_4 (r_ias xc_116_53 b_35 t_35 ?_ (r_aln xc_116_54 rfl (r_dup xc_116_55 rfl (r_get xc_116_56 xf_116_80 g_6_2 (r_ic xc_116_59 kc_1 (r_iadd xc_116_60 (r_put xc_116_61 xf_116_80 rfl s_6_2 (r_ic xc_116_64 kc_1 (r_rz xc_116_65 xrt_116 ?_ ?_))))))))))))))))))))
    · exact Or.inl rfl
    · rfl
    all_goals exact absurd rfl hc32
  · exfalso
    refine hk ?_
    unfold sKind
    rw [if_neg hc15, if_neg hc21]
/-- to pc 93: neither + nor - -/
theorem L_b93 {k : Nat} {Q : pR → Prop} (h7 : z 7 = nI n) (h8 : z 8 = nI p) (hn : n ≤ 300) (hq : p ≤ n) (h16 : z 16 = nI (deep + 1)) (hd : deep ≤ 12) (hk : sKind (sg (a 14) n (skn cB (a 14) n p)) = 0) (ho : a 23 deep = nI k) (hk9 : k < 9)
    (h : p_E X 2 116 93 [some (.ref 22), some (.int (sg (a 14) n (skn cB (a 14) n p))), some (.int (nI deep)), some (.int (nI (if k = 5 ∨ k = 6 then 1 else 0)))] [] (hp (u_ z 8 (nI (skn cB (a 14) n p))) a w y g) Q) : p_M X 2 116 [.ref 22] (hp z a w y g) Q := by
  have et : u_ z 8 (nI (skn cB (a 14) n p)) 16 - nI 1 = nI deep := top_e h16
  have eo : a 23 (nI deep).toNatClampNeg = nI k := by rw [kI_cl (by omega)]; exact ho
  refine (r_in xin_116 (r_aln xc_116_0 rfl ?_))
  refine (r_cv xc_116_1 xm_116_1 rfl xrc_100 rfl (p_M.up (M_look h7 h8 hn hq) (by omega)) (r_isn [_, _, _, _] xc_116_4 rfl rfl (r_aln xc_116_5 rfl (r_get xc_116_6 xf_116_132 g_6_22 (r_ic xc_116_9 kc_1 (r_isub xc_116_10 (r_isn [_, _, _, _] xc_116_11 rfl rfl (r_iln xc_116_12 rfl (r_bi xc_116_13 kb_43 (r_ceq xc_116_15 xj_116_15 (fun hc15 => ?_) (fun hc15 => (r_iln xc_116_18 rfl (r_bi xc_116_19 kb_45 (r_cne xc_116_21 xj_116_21 (fun hc21 => ?_) (fun hc21 => ?_)))))))))))))))
  · rw [hc15] at hk; exact absurd hk (by decide)
  · rw [hc21] at hk; exact absurd hk (by decide)
  · rw [et]
    refine (r_aln xc_116_66 rfl (r_get xc_116_67 xf_116_37 g_6_18 (r_iln xc_116_70 rfl (r_ia xc_116_71 b_32 ?_ (r_ic xc_116_72 kc_5 (r_ceq xc_116_73 xj_116_73 (fun hc73 => (r_ic xc_116_87 kc_1 (r_go xc_116_88 xj_116_88 (r_isn [_, _, _, _] xc_116_92 rfl rfl ?_)))) (fun hc73 => (r_aln xc_116_76 rfl (r_get xc_116_77 xf_116_37 g_6_18 (r_iln xc_116_80 rfl (r_ia xc_116_81 b_32 ?_ (r_bi xc_116_82 kb_6 (r_cne xc_116_84 xj_116_84 (fun hc84 => (r_ic xc_116_87 kc_1 (r_go xc_116_88 xj_116_88 (r_isn [_, _, _, _] xc_116_92 rfl rfl ?_)))) (fun hc84 => (r_ic xc_116_91 kc_0 (r_isn [_, _, _, _] xc_116_92 rfl rfl ?_))))))))))))))))
    · exact kI_in (by omega) (by omega)
    · rw [eo, kI_inj (by omega) (by omega)] at hc73
      rw [if_pos (Or.inl hc73)] at h
      exact h
    · exact kI_in (by omega) (by omega)
    · rw [eo, kI_inj (by omega) (by omega)] at hc84
      rw [if_pos (Or.inr hc84)] at h
      exact h
    · rw [eo, kI_inj (by omega) (by omega)] at hc84 hc73
      rw [if_neg (by omega)] at h
      exact h
theorem MB_comma {k : Nat} (h7 : z 7 = nI n) (h8 : z 8 = nI p) (hn : n ≤ 300) (hq : p ≤ n) (h16 : z 16 = nI (deep + 1)) (hd : deep ≤ 12) (ho : a 23 deep = nI k) (hk : k = 5 ∨ k = 6) (hs : a 24 deep = -1) (hc : sg (a 14) n (skn cB (a 14) n p) = nI 44) : p_M X 2 116 [.ref 22] (hp z a w y g) (fun q => q = (.inl (some (.int (nI 1))), hp (u_ z 8 (nI (skn cB (a 14) n p + 1))) (u_ (u_ a 24 (upd (a 24) deep (a 25 deep))) 25 (upd (a 25) deep (-1))) w y g)) := by
  have es : a 24 (nI deep).toNatClampNeg = -1 := by rw [kI_cl (by omega)]; exact hs
  refine L_b93 h7 h8 hn hq h16 hd (by rw [hc]; rfl) ho (by omega) ?_
  rw [if_pos hk]
  refine (r_iln xc_116_93 rfl (r_bi xc_116_94 kb_44 (r_cne xc_116_96 xj_116_96 (fun hc96 => (r_iln xc_116_99 rfl (r_zeq xc_116_100 xj_116_100 (fun hc100 => ?_) (fun hc100 => (r_aln xc_116_103 rfl (r_get xc_116_104 xf_116_40 g_6_19 (r_iln xc_116_107 rfl (r_ia xc_116_108 b_33 ?_ (r_ic xc_116_109 kc_m1 (r_cne xc_116_110 xj_116_110 (fun hc110 => ?_) (fun hc110 => ?_))))))))))) (fun hc96 => ?_))))
  · exact absurd hc100 (by decide)
  · exact kI_in (by omega) (by omega)
  · refine (r_aln xc_116_113 rfl (r_get xc_116_114 xf_116_40 g_6_19 (r_iln xc_116_117 rfl (r_aln xc_116_118 rfl (r_get xc_116_119 xf_116_43 g_6_20 (r_iln xc_116_122 rfl (r_ia xc_116_123 b_34 ?_ (r_ias xc_116_124 b_33 t_33 ?_ (r_aln xc_116_125 rfl (r_get xc_116_126 xf_116_43 g_6_20 (r_iln xc_116_129 rfl (r_ic xc_116_130 kc_m1 (r_ias xc_116_131 b_34 t_34 ?_ (r_aln xc_116_132 rfl (r_dup xc_116_133 rfl (r_get xc_116_134 xf_116_80 g_6_2 (r_ic xc_116_137 kc_1 (r_iadd xc_116_138 (r_put xc_116_139 xf_116_80 rfl s_6_2 (r_ic xc_116_142 kc_1 (r_rz xc_116_143 xrt_116 ?_ ?_)))))))))))))))))))))
    · exact kI_in (by omega) (by omega)
    · exact kI_in (by omega) (by omega)
    · exact kI_in (by omega) (by omega)
    · exact Or.inr rfl
    · have e8 : u_ z 8 (nI (skn cB (a 14) n p)) 8 + nI 1 = nI (skn cB (a 14) n p + 1) := kI_add _ 1
      rw [e8, u_u, kI_cl (by omega)]; rfl
  · exact absurd es hc110
  · exact absurd hc hc96
/-- what is none of the answers -/
theorem MB_fail {k : Nat} (ht : TX (a 14) n) (h9 : z 9 = -1) (h7 : z 7 = nI n) (h8 : z 8 = nI p) (hn : n ≤ 300) (hq : p ≤ n) (h16 : z 16 = nI (deep + 1)) (hd : deep ≤ 12) (ho : a 23 deep = nI k) (hk9 : k < 9) (hk : sKind (sg (a 14) n (skn cB (a 14) n p)) = 0) (hl : skn cB (a 14) n p < n ∨ 0 < deep)
    (h1 : ¬ (sg (a 14) n (skn cB (a 14) n p) = nI 44 ∧ (k = 5 ∨ k = 6) ∧ a 24 deep = -1)) (h2 : ¬ (sg (a 14) n (skn cB (a 14) n p) = nI 41 ∧ (k = 8 ∨ ((k = 5 ∨ k = 6) ∧ ¬ a 24 deep = -1)))) : p_M X 2 116 [.ref 22] (hp z a w y g) (fun q => q = (.inl (some (.int (nI 0))), hp (u_ (u_ z 8 (nI (skn cB (a 14) n p))) 9 (nI (skn cB (a 14) n p))) a w y g)) := by
  have b0 := skn_ge cB (a 14) hq
  have es : a 24 (nI deep).toNatClampNeg = a 24 deep := by rw [kI_cl (by omega)]
  have eo : a 23 (nI deep).toNatClampNeg = nI k := by rw [kI_cl (by omega)]; exact ho
  have e8 : u_ z 8 (nI (skn cB (a 14) n p)) 8 = nI (skn cB (a 14) n p) := rfl
  have go238 : ∀ v, p_E X 2 116 238 [some (.ref 22), some (.int (sg (a 14) n (skn cB (a 14) n p))), some (.int (nI deep)), v] [] (hp (u_ z 8 (nI (skn cB (a 14) n p))) a w y g) (fun q => q = (.inl (some (.int (nI 0))), hp (u_ (u_ z 8 (nI (skn cB (a 14) n p))) 9 (nI (skn cB (a 14) n p))) a w y g)) := by
    intro v
    refine (r_iln xc_116_238 rfl (r_ic xc_116_239 kc_m1 (r_cne xc_116_240 xj_116_240 (fun hc240 => (r_iln xc_116_243 rfl (r_zle xc_116_244 xj_116_244 (fun hc244 => (r_aln xc_116_247 rfl (r_iln xc_116_248 rfl (r_ic xc_116_249 kc_m1 (r_cne xc_116_250 xj_116_250 (fun hc250 => (r_aln xc_116_253 rfl (r_get xc_116_254 xf_116_77 g_6_1 (r_go xc_116_257 xj_116_257 ?_)))) (fun hc250 => (r_aln xc_116_260 rfl (r_get xc_116_261 xf_116_80 g_6_2 ?_)))))))) (fun hc244 => (r_ic xc_116_267 kc_0 (r_rz xc_116_268 xrt_116 ?_ ?_)))))) (fun hc240 => (r_aln xc_116_247 rfl (r_iln xc_116_248 rfl (r_ic xc_116_249 kc_m1 (r_cne xc_116_250 xj_116_250 (fun hc250 => (r_aln xc_116_253 rfl (r_get xc_116_254 xf_116_77 g_6_1 (r_go xc_116_257 xj_116_257 ?_)))) (fun hc250 => (r_aln xc_116_260 rfl (r_get xc_116_261 xf_116_80 g_6_2 ?_)))))))))))
    · have e := (sg_m1 ht b0.2).mp hc240
      have e7 : u_ z 8 (nI (skn cB (a 14) n p)) 7 = nI (skn cB (a 14) n p) := by show z 7 = _; rw [e]; exact h7
      rw [e7]
      refine (r_c0 xc_116_264 xm_116_264 rfl xrc_97 rfl (p_M.up (M_fail h9) (by omega)) (r_ic xc_116_267 kc_0 (r_rz xc_116_268 xrt_116 ?_ ?_)))
      · exact Or.inl rfl
      · rfl
    · exact absurd hc240 hc250
    · exact Or.inl rfl
    · exfalso
      have e := (sg_m1 ht b0.2).mp hc240
      rw [kI_lt (by omega) (by omega)] at hc244
      omega
    · exact absurd hc250 hc240
    · rw [e8]
      refine (r_c0 xc_116_264 xm_116_264 rfl xrc_97 rfl (p_M.up (M_fail h9) (by omega)) (r_ic xc_116_267 kc_0 (r_rz xc_116_268 xrt_116 ?_ ?_)))
      · exact Or.inl rfl
      · rfl
  have go144 : p_E X 2 116 144 [some (.ref 22), some (.int (sg (a 14) n (skn cB (a 14) n p))), some (.int (nI deep)), some (.int (nI (if k = 5 ∨ k = 6 then 1 else 0)))] [] (hp (u_ z 8 (nI (skn cB (a 14) n p))) a w y g) (fun q => q = (.inl (some (.int (nI 0))), hp (u_ (u_ z 8 (nI (skn cB (a 14) n p))) 9 (nI (skn cB (a 14) n p))) a w y g)) := by
    refine (r_iln xc_116_144 rfl (r_bi xc_116_145 kb_41 (r_cne xc_116_147 xj_116_147 (fun hc147 => (r_aln xc_116_150 rfl (r_get xc_116_151 xf_116_37 g_6_18 (r_iln xc_116_154 rfl (r_ia xc_116_155 b_32 ?_ (r_bi xc_116_156 kb_8 (r_ceq xc_116_158 xj_116_158 (fun hc158 => ?_) (fun hc158 => (r_iln xc_116_161 rfl (r_zeq xc_116_162 xj_116_162 (fun hc162 => ?_) (fun hc162 => (r_aln xc_116_165 rfl (r_get xc_116_166 xf_116_40 g_6_19 (r_iln xc_116_169 rfl (r_ia xc_116_170 b_33 ?_ (r_ic xc_116_171 kc_m1 (r_ceq xc_116_172 xj_116_172 (fun hc172 => ?_) (fun hc172 => ?_)))))))))))))))))) (fun hc147 => ?_))))
    · exact kI_in (by omega) (by omega)
    · rw [eo, kI_inj (by omega) (by omega)] at hc158
      exact absurd ⟨hc147, Or.inl hc158⟩ h2
    · exact go238 _
    · exact kI_in (by omega) (by omega)
    · exact go238 _
    · rw [es] at hc172
      exfalso
      refine h2 ⟨hc147, Or.inr ⟨?_, hc172⟩⟩
      refine Classical.byContradiction (fun h => hc162 ?_)
      rw [if_neg h]
    · exact go238 _
  refine L_b93 h7 h8 hn hq h16 hd hk ho hk9 ?_
  refine (r_iln xc_116_93 rfl (r_bi xc_116_94 kb_44 (r_cne xc_116_96 xj_116_96 (fun hc96 => (r_iln xc_116_99 rfl (r_zeq xc_116_100 xj_116_100 (fun hc100 => ?_) (fun hc100 => (r_aln xc_116_103 rfl (r_get xc_116_104 xf_116_40 g_6_19 (r_iln xc_116_107 rfl (r_ia xc_116_108 b_33 ?_ (r_ic xc_116_109 kc_m1 (r_cne xc_116_110 xj_116_110 (fun hc110 => ?_) (fun hc110 => ?_))))))))))) (fun hc96 => ?_))))
  · exact go144
  · exact kI_in (by omega) (by omega)
  · exfalso
    rw [es] at hc110
    refine h1 ⟨hc96, ?_, hc110⟩
    refine Classical.byContradiction (fun h => hc100 ?_)
    rw [if_neg h]
  · exact go144
  · exact go144
/-- a bracket closes -/
theorem MB_close8 {R : (Nat → Int32) → (Nat → Nat → Int32) → Prop} (h7 : z 7 = nI n) (h8 : z 8 = nI p) (hn : n ≤ 300) (hq : p ≤ n) (h16 : z 16 = nI (deep + 1)) (hd : deep ≤ 12) (ho : a 23 deep = nI 8) (hc : sg (a 14) n (skn cB (a 14) n p) = nI 41)
    (hj : p_M X 1 115 [.ref 22, .int (a 25 deep)] (hp (u_ (u_ z 8 (nI (skn cB (a 14) n p + 1))) 16 (nI deep)) a w y g) (fun q => ∃ z' a', q = (.inl none, hp z' a' w y g) ∧ R z' a')) : p_M X 2 116 [.ref 22] (hp z a w y g) (fun q => ∃ z' a', q = (.inl (some (.int (nI 0))), hp z' a' w y g) ∧ R z' a') := by
  have eo : a 23 (nI deep).toNatClampNeg = nI 8 := by rw [kI_cl (by omega)]; exact ho
  have go144 : p_E X 2 116 144 [some (.ref 22), some (.int (sg (a 14) n (skn cB (a 14) n p))), some (.int (nI deep)), some (.int (nI 0))] [] (hp (u_ z 8 (nI (skn cB (a 14) n p))) a w y g) (fun q => ∃ z' a', q = (.inl (some (.int (nI 0))), hp z' a' w y g) ∧ R z' a') := by
    refine (r_iln xc_116_144 rfl (r_bi xc_116_145 kb_41 (r_cne xc_116_147 xj_116_147 (fun hc147 => (r_aln xc_116_150 rfl (r_get xc_116_151 xf_116_37 g_6_18 (r_iln xc_116_154 rfl (r_ia xc_116_155 b_32 ?_ (r_bi xc_116_156 kb_8 (r_ceq xc_116_158 xj_116_158 (fun hc158 => ?_) (fun hc158 => (r_iln xc_116_161 rfl (r_zeq xc_116_162 xj_116_162 (fun hc162 => ?_) (fun hc162 => (r_aln xc_116_165 rfl (r_get xc_116_166 xf_116_40 g_6_19 (r_iln xc_116_169 rfl (r_ia xc_116_170 b_33 ?_ (r_ic xc_116_171 kc_m1 (r_ceq xc_116_172 xj_116_172 (fun hc172 => ?_) (fun hc172 => ?_)))))))))))))))))) (fun hc147 => ?_))))
    · exact kI_in (by omega) (by omega)
    · refine (r_aln xc_116_175 rfl (r_dup xc_116_176 rfl (r_get xc_116_177 xf_116_80 g_6_2 (r_ic xc_116_180 kc_1 (r_iadd xc_116_181 (r_put xc_116_182 xf_116_80 rfl s_6_2 (r_aln xc_116_185 rfl (r_dup xc_116_186 rfl (r_get xc_116_187 xf_116_132 g_6_22 (r_ic xc_116_190 kc_1 (r_isub xc_116_191 (r_put xc_116_192 xf_116_132 rfl s_6_22 (r_aln xc_116_195 rfl (r_iln xc_116_196 rfl (r_zeq xc_116_197 xj_116_197 (fun hc197 => (r_aln xc_116_227 rfl (r_get xc_116_228 xf_116_43 g_6_20 (r_iln xc_116_231 rfl (r_ia xc_116_232 b_34 ?_ ?_))))) (fun hc197 => (r_aln xc_116_200 rfl (r_aln xc_116_201 rfl (r_get xc_116_202 xf_116_37 g_6_18 (r_iln xc_116_205 rfl (r_ia xc_116_206 b_32 ?_ (r_ic xc_116_207 kc_0 (r_ic xc_116_208 kc_m1 (r_aln xc_116_209 rfl (r_get xc_116_210 xf_116_40 g_6_19 (r_iln xc_116_213 rfl (r_ia xc_116_214 b_33 ?_ (r_aln xc_116_215 rfl (r_get xc_116_216 xf_116_43 g_6_20 (r_iln xc_116_219 rfl (r_ia xc_116_220 b_34 ?_ ?_)))))))))))))))))))))))))))))))
      · exact kI_in (by omega) (by omega)
      · have e8 : u_ z 8 (nI (skn cB (a 14) n p)) 8 + nI 1 = nI (skn cB (a 14) n p + 1) := kI_add _ 1
        have e16 : u_ (u_ z 8 (nI (skn cB (a 14) n p))) 8 (nI (skn cB (a 14) n p + 1)) 16 - nI 1 = nI deep := top_e h16
        rw [e8, e16, u_u, kI_cl (by omega)]
        refine (r_cq xc_116_233 xm_116_233 rfl xrc_115 rfl (hj) (fun v h1 hP => ?_) (fun _ _ h => by first | (obtain ⟨_, he, _⟩ := h; cases he; done) | (obtain ⟨_, he⟩ := h; cases he; done) | (obtain ⟨_, _, he, _⟩ := h; cases he; done) | (obtain ⟨_, _, _, he, _⟩ := h; cases he; done) | (simp only [Prod.mk.injEq, reduceCtorEq, false_and, exists_false] at h)))
        obtain ⟨z', a', he, hR⟩ := hP
        cases he
        refine (r_ic xc_116_236 kc_0 (r_rz xc_116_237 xrt_116 ?_ ?_))
        · exact Or.inl rfl
        · exact ⟨z', a', rfl, hR⟩
      · exact absurd rfl hc197
      · exact absurd rfl hc197
      · exact absurd rfl hc197
      · exact absurd rfl hc197
    all_goals first
      | exact absurd eo hc158
      | exact absurd hc hc147
  refine L_b93 h7 h8 hn hq h16 hd (by rw [hc]; rfl) ho (by omega) ?_
  rw [if_neg (by omega)]
  refine (r_iln xc_116_93 rfl (r_bi xc_116_94 kb_44 (r_cne xc_116_96 xj_116_96 (fun hc96 => (r_iln xc_116_99 rfl (r_zeq xc_116_100 xj_116_100 (fun hc100 => ?_) (fun hc100 => (r_aln xc_116_103 rfl (r_get xc_116_104 xf_116_40 g_6_19 (r_iln xc_116_107 rfl (r_ia xc_116_108 b_33 ?_ (r_ic xc_116_109 kc_m1 (r_cne xc_116_110 xj_116_110 (fun hc110 => ?_) (fun hc110 => ?_))))))))))) (fun hc96 => ?_))))
  · exact go144
  · exact absurd rfl hc100
  · exact absurd rfl hc100
  · exact absurd rfl hc100
  · exact go144
/-- min or max closes -/
theorem MB_close2 {k b : Nat} {R : (Nat → Int32) → (Nat → Nat → Int32) → Prop} (h7 : z 7 = nI n) (h8 : z 8 = nI p) (hn : n ≤ 300) (hq : p ≤ n) (h16 : z 16 = nI (deep + 1)) (hd : deep ≤ 12) (ho : a 23 deep = nI k) (hk : k = 5 ∨ k = 6) (hs : ¬ a 24 deep = -1) (h11 : z 11 = nI b) (hb : b < 120) (hc : sg (a 14) n (skn cB (a 14) n p) = nI 41)
    (hj : ∀ a', (∀ j, j < 15 ∨ 20 < j → a' j = a j) → (∀ j, j ≠ b → mnv a' j = mnv a j) → mnv a' b = (nI k, nI 0, -1, a 24 deep, a 25 deep, nI 0) → p_M X 1 115 [.ref 22, .int (nI b)] (hp (u_ (u_ (u_ z 8 (nI (skn cB (a 14) n p + 1))) 16 (nI deep)) 11 (nI (b + 1))) a' w y g) (fun q => ∃ z' a', q = (.inl none, hp z' a' w y g) ∧ R z' a')) : p_M X 2 116 [.ref 22] (hp z a w y g) (fun q => ∃ z' a', q = (.inl (some (.int (nI 0))), hp z' a' w y g) ∧ R z' a') := by
  have eo : a 23 (nI deep).toNatClampNeg = nI k := by rw [kI_cl (by omega)]; exact ho
  have es : a 24 (nI deep).toNatClampNeg = a 24 deep := by rw [kI_cl (by omega)]
  have go175 : p_E X 2 116 175 [some (.ref 22), some (.int (sg (a 14) n (skn cB (a 14) n p))), some (.int (nI deep)), some (.int (nI 1))] [] (hp (u_ z 8 (nI (skn cB (a 14) n p))) a w y g) (fun q => ∃ z' a', q = (.inl (some (.int (nI 0))), hp z' a' w y g) ∧ R z' a') := by
    refine (r_aln xc_116_175 rfl (r_dup xc_116_176 rfl (r_get xc_116_177 xf_116_80 g_6_2 (r_ic xc_116_180 kc_1 (r_iadd xc_116_181 (r_put xc_116_182 xf_116_80 rfl s_6_2 (r_aln xc_116_185 rfl (r_dup xc_116_186 rfl (r_get xc_116_187 xf_116_132 g_6_22 (r_ic xc_116_190 kc_1 (r_isub xc_116_191 (r_put xc_116_192 xf_116_132 rfl s_6_22 (r_aln xc_116_195 rfl (r_iln xc_116_196 rfl (r_zeq xc_116_197 xj_116_197 (fun hc197 => (r_aln xc_116_227 rfl (r_get xc_116_228 xf_116_43 g_6_20 (r_iln xc_116_231 rfl (r_ia xc_116_232 b_34 ?_ ?_))))) (fun hc197 => (r_aln xc_116_200 rfl (r_aln xc_116_201 rfl (r_get xc_116_202 xf_116_37 g_6_18 (r_iln xc_116_205 rfl (r_ia xc_116_206 b_32 ?_ (r_ic xc_116_207 kc_0 (r_ic xc_116_208 kc_m1 (r_aln xc_116_209 rfl (r_get xc_116_210 xf_116_40 g_6_19 (r_iln xc_116_213 rfl (r_ia xc_116_214 b_33 ?_ (r_aln xc_116_215 rfl (r_get xc_116_216 xf_116_43 g_6_20 (r_iln xc_116_219 rfl (r_ia xc_116_220 b_34 ?_ ?_)))))))))))))))))))))))))))))))
    · exact absurd hc197 (by decide)
    · exact absurd hc197 (by decide)
    · exact kI_in (by omega) (by omega)
    · exact kI_in (by omega) (by omega)
    · exact kI_in (by omega) (by omega)
    · have e8 : u_ z 8 (nI (skn cB (a 14) n p)) 8 + nI 1 = nI (skn cB (a 14) n p + 1) := kI_add _ 1
      have e16 : u_ (u_ z 8 (nI (skn cB (a 14) n p))) 8 (nI (skn cB (a 14) n p + 1)) 16 - nI 1 = nI deep := top_e h16
      rw [e8, e16, u_u, eo, es, kI_cl (by omega)]
      refine (r_cq xc_116_221 xm_116_221 rfl xrc_105 rfl (p_M.up (M_make (b := b) h11 hb) (by omega)) (fun v h1 hP => ?_) (fun _ _ h => by first | (obtain ⟨_, he, _⟩ := h; cases he; done) | (obtain ⟨_, he⟩ := h; cases he; done) | (obtain ⟨_, _, he, _⟩ := h; cases he; done) | (obtain ⟨_, _, _, he, _⟩ := h; cases he; done) | (simp only [Prod.mk.injEq, reduceCtorEq, false_and, exists_false] at h)))
      obtain ⟨a', he, e1, e2, e3⟩ := hP
      cases he
      refine (r_go xc_116_224 xj_116_224 ?_)
      refine (r_cq xc_116_233 xm_116_233 rfl xrc_115 rfl ((hj a' e1 e2 e3)) (fun v h1 hP => ?_) (fun _ _ h => by first | (obtain ⟨_, he, _⟩ := h; cases he; done) | (obtain ⟨_, he⟩ := h; cases he; done) | (obtain ⟨_, _, he, _⟩ := h; cases he; done) | (obtain ⟨_, _, _, he, _⟩ := h; cases he; done) | (simp only [Prod.mk.injEq, reduceCtorEq, false_and, exists_false] at h)))
      obtain ⟨z', a2, he, hR⟩ := hP
      cases he
      refine (r_ic xc_116_236 kc_0 (r_rz xc_116_237 xrt_116 ?_ ?_))
      · exact Or.inl rfl
      · exact ⟨z', a2, rfl, hR⟩
  have go144 : p_E X 2 116 144 [some (.ref 22), some (.int (sg (a 14) n (skn cB (a 14) n p))), some (.int (nI deep)), some (.int (nI 1))] [] (hp (u_ z 8 (nI (skn cB (a 14) n p))) a w y g) (fun q => ∃ z' a', q = (.inl (some (.int (nI 0))), hp z' a' w y g) ∧ R z' a') := by
    refine (r_iln xc_116_144 rfl (r_bi xc_116_145 kb_41 (r_cne xc_116_147 xj_116_147 (fun hc147 => (r_aln xc_116_150 rfl (r_get xc_116_151 xf_116_37 g_6_18 (r_iln xc_116_154 rfl (r_ia xc_116_155 b_32 ?_ (r_bi xc_116_156 kb_8 (r_ceq xc_116_158 xj_116_158 (fun hc158 => ?_) (fun hc158 => (r_iln xc_116_161 rfl (r_zeq xc_116_162 xj_116_162 (fun hc162 => ?_) (fun hc162 => (r_aln xc_116_165 rfl (r_get xc_116_166 xf_116_40 g_6_19 (r_iln xc_116_169 rfl (r_ia xc_116_170 b_33 ?_ (r_ic xc_116_171 kc_m1 (r_ceq xc_116_172 xj_116_172 (fun hc172 => ?_) (fun hc172 => ?_)))))))))))))))))) (fun hc147 => ?_))))
    · exact kI_in (by omega) (by omega)
    · exact go175
    · exact absurd hc162 (by decide)
    · exact kI_in (by omega) (by omega)
    · rw [es] at hc172; exact absurd hc172 hs
    · exact go175
    · exact absurd hc hc147
  refine L_b93 h7 h8 hn hq h16 hd (by rw [hc]; rfl) ho (by omega) ?_
  rw [if_pos hk]
  refine (r_iln xc_116_93 rfl (r_bi xc_116_94 kb_44 (r_cne xc_116_96 xj_116_96 (fun hc96 => (r_iln xc_116_99 rfl (r_zeq xc_116_100 xj_116_100 (fun hc100 => ?_) (fun hc100 => (r_aln xc_116_103 rfl (r_get xc_116_104 xf_116_40 g_6_19 (r_iln xc_116_107 rfl (r_ia xc_116_108 b_33 ?_ (r_ic xc_116_109 kc_m1 (r_cne xc_116_110 xj_116_110 (fun hc110 => ?_) (fun hc110 => ?_))))))))))) (fun hc96 => ?_))))
  · exact go144
  · exact kI_in (by omega) (by omega)
  · rw [es] at hc110; exact absurd hc110 hs
  · exact go144
  · exact go144
end MBACK
