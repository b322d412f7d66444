/-! ===== the model's reader: leaves ===== -/
/-- all signs of the text are such as may be taken -/
def TX (T : Nat → Int32) (n : Nat) : Prop := ∀ i, i < n → okS (T i)
theorem okS_m1 {c : Int32} (h : okS c) : ¬ c = -1 := by
  rintro rfl
  exact h.1 (by decide)
theorem sg_m1 {T : Nat → Int32} {n p : Nat} (ht : TX T n) (hq : p ≤ n) : sg T n p = -1 ↔ p = n := by
  unfold sg
  by_cases h : p < n
  · rw [if_pos h]
    exact ⟨fun h1 => absurd h1 (okS_m1 (ht p h)), fun h1 => by omega⟩
  · rw [if_neg h]
    exact ⟨fun _ => by omega, fun _ => rfl⟩
section MLEAF
variable {X : pX} {d n p : Nat} {z : Nat → Int32} {a : Nat → Nat → Int32} {w : Nat → Nat → Int64} {y : Nat → Int64} {g : List pE}
theorem M_fail {x : Int32} (h9 : z 9 = -1) : p_M X 0 97 [.ref 22, .int x] (hp z a w y g) (fun q => q = (.inl none, hp (u_ z 9 x) a w y g)) := by
  refine (r_in xin_97 (r_aln xc_97_0 rfl (r_get xc_97_1 xf_97_83 g_6_3 (r_zge xc_97_4 xj_97_4 (fun hc4 => (r_aln xc_97_7 rfl (r_iln xc_97_8 rfl (r_put xc_97_9 xf_97_83 rfl s_6_3 (r_r0 xc_97_12 xrt_97 ?_))))) (fun hc4 => (r_r0 xc_97_12 xrt_97 ?_))))))
  · rfl
  · rw [h9] at hc4; exact absurd (by decide) hc4
theorem M_fine_y (h9 : z 9 = -1) : p_M X 0 98 [.ref 22] (hp z a w y g) (fun q => q = (.inl (some (.int (nI 1))), hp z a w y g)) := by
  refine (r_in xin_98 (r_aln xc_98_0 rfl (r_get xc_98_1 xf_98_83 g_6_3 (r_zge xc_98_4 xj_98_4 (fun hc4 => (r_ic xc_98_7 kc_1 (r_go xc_98_8 xj_98_8 (r_rz xc_98_12 xrt_98 ?_ ?_)))) (fun hc4 => (r_ic xc_98_11 kc_0 (r_rz xc_98_12 xrt_98 ?_ ?_)))))))
  · exact Or.inr rfl
  · rfl
  · exact Or.inl rfl
  · rw [h9] at hc4; exact absurd (by decide) hc4
theorem M_fine_n {b : Nat} (h9 : z 9 = nI b) (hb : b < 1000) : p_M X 0 98 [.ref 22] (hp z a w y g) (fun q => q = (.inl (some (.int (nI 0))), hp z a w y g)) := by
  refine (r_in xin_98 (r_aln xc_98_0 rfl (r_get xc_98_1 xf_98_83 g_6_3 (r_zge xc_98_4 xj_98_4 (fun hc4 => (r_ic xc_98_7 kc_1 (r_go xc_98_8 xj_98_8 (r_rz xc_98_12 xrt_98 ?_ ?_)))) (fun hc4 => (r_ic xc_98_11 kc_0 (r_rz xc_98_12 xrt_98 ?_ ?_)))))))
  · exact Or.inr rfl
  · rw [h9] at hc4; exact absurd hc4 (kI_neg (by omega))
  · exact Or.inl rfl
  · rfl
theorem M_isDigit {c : Int32} : p_M X 0 110 [.int c] (hp z a w y g) (fun q => q = (.inl (some (.int (if cD c = true then nI 1 else nI 0))), hp z a w y g)) := by
  refine (r_in xin_110 (r_iln xc_110_0 rfl (r_bi xc_110_1 kb_48 (r_clt xc_110_3 xj_110_3 (fun hc3 => (r_ic xc_110_16 kc_0 (r_rz xc_110_17 xrt_110 ?_ ?_))) (fun hc3 => (r_iln xc_110_6 rfl (r_bi xc_110_7 kb_57 (r_cgt xc_110_9 xj_110_9 (fun hc9 => (r_ic xc_110_16 kc_0 (r_rz xc_110_17 xrt_110 ?_ ?_))) (fun hc9 => (r_ic xc_110_12 kc_1 (r_go xc_110_13 xj_110_13 (r_rz xc_110_17 xrt_110 ?_ ?_))))))))))))
  · exact Or.inl rfl
  · rw [show cD c = false from by unfold cD; exact decide_eq_false (fun h => h.1 hc3)]; rfl
  · exact Or.inl rfl
  · rw [show cD c = false from by unfold cD; exact decide_eq_false (fun h => h.2 hc9)]; rfl
  · exact Or.inr rfl
  · rw [show cD c = true from by unfold cD; exact decide_eq_true ⟨hc3, hc9⟩]; rfl
theorem M_isSmall {c : Int32} : p_M X 0 101 [.int c] (hp z a w y g) (fun q => q = (.inl (some (.int (if cS c = true then nI 1 else nI 0))), hp z a w y g)) := by
  refine (r_in xin_101 (r_iln xc_101_0 rfl (r_bi xc_101_1 kb_97 (r_clt xc_101_3 xj_101_3 (fun hc3 => (r_ic xc_101_16 kc_0 (r_rz xc_101_17 xrt_101 ?_ ?_))) (fun hc3 => (r_iln xc_101_6 rfl (r_bi xc_101_7 kb_122 (r_cgt xc_101_9 xj_101_9 (fun hc9 => (r_ic xc_101_16 kc_0 (r_rz xc_101_17 xrt_101 ?_ ?_))) (fun hc9 => (r_ic xc_101_12 kc_1 (r_go xc_101_13 xj_101_13 (r_rz xc_101_17 xrt_101 ?_ ?_))))))))))))
  · exact Or.inl rfl
  · rw [show cS c = false from by unfold cS; exact decide_eq_false (fun h => h.1 hc3)]; rfl
  · exact Or.inl rfl
  · rw [show cS c = false from by unfold cS; exact decide_eq_false (fun h => h.2 hc9)]; rfl
  · exact Or.inr rfl
  · rw [show cS c = true from by unfold cS; exact decide_eq_true ⟨hc3, hc9⟩]; rfl
theorem L_look (h7 : z 7 = nI n) (hn : n ≤ 300) : ∀ k p, n - p = k → p ≤ n → p_E X 0 100 0 [some (.ref 22)] [] (hp (u_ z 8 (nI p)) a w y g) (fun q => q = (.inl (some (.int (sg (a 14) n (sk cB (a 14) k p)))), hp (u_ z 8 (nI (sk cB (a 14) k p))) a w y g)) := by
  intro k
  induction k with
  | zero =>
    intro p hk hq
    have hc : ∀ {C : Prop}, nI p < z 7 → C := fun h => by rw [h7, kI_lt (by omega) (by omega)] at h; omega
    refine (r_aln xc_100_0 rfl (r_get xc_100_1 xf_100_80 g_6_2 (r_aln xc_100_4 rfl (r_get xc_100_5 xf_100_77 g_6_1 (r_cge xc_100_8 xj_100_8 (fun hc8 => (r_aln xc_100_11 rfl (r_get xc_100_12 xf_100_7 g_6_0 (r_aln xc_100_15 rfl (r_get xc_100_16 xf_100_80 g_6_2 (r_ia xc_100_19 b_23 ?_ (r_bi xc_100_20 kb_32 (r_cne xc_100_22 xj_100_22 (fun hc22 => (r_aln xc_100_25 rfl (r_dup xc_100_26 rfl (r_get xc_100_27 xf_100_80 g_6_2 (r_ic xc_100_30 kc_1 (r_iadd xc_100_31 (r_put xc_100_32 xf_100_80 rfl s_6_2 (r_go xc_100_35 xj_100_35 ?_)))))))) (fun hc22 => (r_aln xc_100_38 rfl (r_get xc_100_39 xf_100_80 g_6_2 (r_aln xc_100_42 rfl (r_get xc_100_43 xf_100_77 g_6_1 (r_cge xc_100_46 xj_100_46 (fun hc46 => (r_aln xc_100_49 rfl (r_get xc_100_50 xf_100_7 g_6_0 (r_aln xc_100_53 rfl (r_get xc_100_54 xf_100_80 g_6_2 (r_ia xc_100_57 b_23 ?_ (r_go xc_100_58 xj_100_58 (r_ri xc_100_62 xrt_100 ?_)))))))) (fun hc46 => (r_ic xc_100_61 kc_m1 (r_ri xc_100_62 xrt_100 ?_))))))))))))))))) (fun hc8 => (r_aln xc_100_38 rfl (r_get xc_100_39 xf_100_80 g_6_2 (r_aln xc_100_42 rfl (r_get xc_100_43 xf_100_77 g_6_1 (r_cge xc_100_46 xj_100_46 (fun hc46 => (r_aln xc_100_49 rfl (r_get xc_100_50 xf_100_7 g_6_0 (r_aln xc_100_53 rfl (r_get xc_100_54 xf_100_80 g_6_2 (r_ia xc_100_57 b_23 ?_ (r_go xc_100_58 xj_100_58 (r_ri xc_100_62 xrt_100 ?_)))))))) (fun hc46 => (r_ic xc_100_61 kc_m1 (r_ri xc_100_62 xrt_100 ?_))))))))))))))
    · exact hc hc8
    · exact hc hc8
    · exact hc hc8
    · exact hc hc8
    · exact hc hc8
    · exact hc hc46
    · exact hc hc46
    · rw [show sk cB (a 14) 0 p = p from rfl, show sg (a 14) n p = -1 from by unfold sg; rw [if_neg (by omega)]]
  | succ k ih =>
    intro p hk hq
    have hc : nI p < z 7 := by rw [h7, kI_lt (by omega) (by omega)]; omega
    refine (r_aln xc_100_0 rfl (r_get xc_100_1 xf_100_80 g_6_2 (r_aln xc_100_4 rfl (r_get xc_100_5 xf_100_77 g_6_1 (r_cge xc_100_8 xj_100_8 (fun hc8 => (r_aln xc_100_11 rfl (r_get xc_100_12 xf_100_7 g_6_0 (r_aln xc_100_15 rfl (r_get xc_100_16 xf_100_80 g_6_2 (r_ia xc_100_19 b_23 ?_ (r_bi xc_100_20 kb_32 (r_cne xc_100_22 xj_100_22 (fun hc22 => (r_aln xc_100_25 rfl (r_dup xc_100_26 rfl (r_get xc_100_27 xf_100_80 g_6_2 (r_ic xc_100_30 kc_1 (r_iadd xc_100_31 (r_put xc_100_32 xf_100_80 rfl s_6_2 (r_go xc_100_35 xj_100_35 ?_)))))))) (fun hc22 => (r_aln xc_100_38 rfl (r_get xc_100_39 xf_100_80 g_6_2 (r_aln xc_100_42 rfl (r_get xc_100_43 xf_100_77 g_6_1 (r_cge xc_100_46 xj_100_46 (fun hc46 => (r_aln xc_100_49 rfl (r_get xc_100_50 xf_100_7 g_6_0 (r_aln xc_100_53 rfl (r_get xc_100_54 xf_100_80 g_6_2 (r_ia xc_100_57 b_23 ?_ (r_go xc_100_58 xj_100_58 (r_ri xc_100_62 xrt_100 ?_)))))))) (fun hc46 => (r_ic xc_100_61 kc_m1 (r_ri xc_100_62 xrt_100 ?_))))))))))))))))) (fun hc8 => (r_aln xc_100_38 rfl (r_get xc_100_39 xf_100_80 g_6_2 (r_aln xc_100_42 rfl (r_get xc_100_43 xf_100_77 g_6_1 (r_cge xc_100_46 xj_100_46 (fun hc46 => (r_aln xc_100_49 rfl (r_get xc_100_50 xf_100_7 g_6_0 (r_aln xc_100_53 rfl (r_get xc_100_54 xf_100_80 g_6_2 (r_ia xc_100_57 b_23 ?_ (r_go xc_100_58 xj_100_58 (r_ri xc_100_62 xrt_100 ?_)))))))) (fun hc46 => (r_ic xc_100_61 kc_m1 (r_ri xc_100_62 xrt_100 ?_))))))))))))))
    · exact kI_in (by omega) (by omega)
    · have hc22 : a 14 (nI p).toNatClampNeg = nI 32 := hc22
      rw [kI_cl (by omega)] at hc22
      rw [u_u, sk_t (by unfold cB; rw [hc22]; rfl)]
      have e : u_ z 8 (nI p) 8 + nI 1 = nI (p + 1) := kI_add p 1
      rw [e]
      exact ih (p + 1) (by omega) (by omega)
    · exact kI_in (by omega) (by omega)
    · have hc22 : ¬ a 14 (nI p).toNatClampNeg = nI 32 := hc22
      rw [kI_cl (by omega)] at hc22
      rw [sk_f (by unfold cB; exact decide_eq_false hc22)]
      have e : a 14 (u_ z 8 (nI p) 8).toNatClampNeg = sg (a 14) n p := by
        show a 14 (nI p).toNatClampNeg = _
        rw [kI_cl (by omega)]; unfold sg; rw [if_pos (by omega)]
      rw [e]
    · exact absurd hc hc46
    · exact absurd hc hc8
    · exact absurd hc hc8
    · exact absurd hc hc8
theorem M_look (h7 : z 7 = nI n) (h8 : z 8 = nI p) (hn : n ≤ 300) (hq : p ≤ n) : p_M X 0 100 [.ref 22] (hp z a w y g) (fun q => q = (.inl (some (.int (sg (a 14) n (skn cB (a 14) n p)))), hp (u_ z 8 (nI (skn cB (a 14) n p))) a w y g)) := by
  refine r_in xin_100 ?_
  have := L_look (X := X) (a := a) (w := w) (y := y) (g := g) h7 hn (n - p) p rfl hq
  rw [u_idv h8] at this
  exact this
theorem M_take_y {c : Int32} (h9 : z 9 = -1) (h7 : z 7 = nI n) (h8 : z 8 = nI p) (hn : n ≤ 300) (hq : p ≤ n) (hs : sg (a 14) n (skn cB (a 14) n p) = c) : p_M X 1 107 [.ref 22, .int c] (hp z a w y g) (fun q => q = (.inl none, hp (u_ z 8 (nI (skn cB (a 14) n p + 1))) a w y g)) := by
  refine (r_in xin_107 (r_aln xc_107_0 rfl ?_))
  refine (r_cv xc_107_1 xm_107_1 rfl xrc_98 rfl (M_fine_y h9) (r_zne xc_107_4 xj_107_4 (fun hc4 => (r_r0 xc_107_7 xrt_107 ?_)) (fun hc4 => (r_aln xc_107_8 rfl ?_))))
  · exact absurd hc4 (by decide)
  · refine (r_cv xc_107_9 xm_107_9 rfl xrc_100 rfl (M_look h7 h8 hn hq) (r_iln xc_107_12 rfl (r_cne xc_107_13 xj_107_13 (fun hc13 => (r_aln xc_107_16 rfl (r_dup xc_107_17 rfl (r_get xc_107_18 xf_107_80 g_6_2 (r_ic xc_107_21 kc_1 (r_iadd xc_107_22 (r_put xc_107_23 xf_107_80 rfl s_6_2 (r_go xc_107_26 xj_107_26 (r_r0 xc_107_37 xrt_107 ?_))))))))) (fun hc13 => (r_aln xc_107_29 rfl (r_aln xc_107_30 rfl (r_get xc_107_31 xf_107_80 g_6_2 ?_)))))))
    · rw [u_u]
      have e : u_ z 8 (nI (skn cB (a 14) n p)) 8 + nI 1 = nI (skn cB (a 14) n p + 1) := kI_add _ 1
      rw [e]
    · exact absurd hs hc13
theorem M_take_n {c : Int32} (h9 : z 9 = -1) (h7 : z 7 = nI n) (h8 : z 8 = nI p) (hn : n ≤ 300) (hq : p ≤ n) (hs : ¬ sg (a 14) n (skn cB (a 14) n p) = c) : p_M X 1 107 [.ref 22, .int c] (hp z a w y g) (fun q => q = (.inl none, hp (u_ (u_ z 8 (nI (skn cB (a 14) n p))) 9 (nI (skn cB (a 14) n p))) a w y g)) := by
  refine (r_in xin_107 (r_aln xc_107_0 rfl ?_))
  refine (r_cv xc_107_1 xm_107_1 rfl xrc_98 rfl (M_fine_y h9) (r_zne xc_107_4 xj_107_4 (fun hc4 => (r_r0 xc_107_7 xrt_107 ?_)) (fun hc4 => (r_aln xc_107_8 rfl ?_))))
  · exact absurd hc4 (by decide)
  · refine (r_cv xc_107_9 xm_107_9 rfl xrc_100 rfl (M_look h7 h8 hn hq) (r_iln xc_107_12 rfl (r_cne xc_107_13 xj_107_13 (fun hc13 => (r_aln xc_107_16 rfl (r_dup xc_107_17 rfl (r_get xc_107_18 xf_107_80 g_6_2 (r_ic xc_107_21 kc_1 (r_iadd xc_107_22 (r_put xc_107_23 xf_107_80 rfl s_6_2 (r_go xc_107_26 xj_107_26 (r_r0 xc_107_37 xrt_107 ?_))))))))) (fun hc13 => (r_aln xc_107_29 rfl (r_aln xc_107_30 rfl (r_get xc_107_31 xf_107_80 g_6_2 ?_)))))))
    · exact absurd hc13 hs
    · refine (r_c0 xc_107_34 xm_107_34 rfl xrc_97 rfl (M_fail h9) (r_r0 xc_107_37 xrt_107 ?_))
      rfl
theorem M_take_b {c : Int32} {b : Nat} (h9 : z 9 = nI b) (hb : b < 1000) : p_M X 1 107 [.ref 22, .int c] (hp z a w y g) (fun q => q = (.inl none, hp z a w y g)) := by
  refine (r_in xin_107 (r_aln xc_107_0 rfl ?_))
  refine (r_cv xc_107_1 xm_107_1 rfl xrc_98 rfl (M_fine_n h9 hb) (r_zne xc_107_4 xj_107_4 (fun hc4 => (r_r0 xc_107_7 xrt_107 ?_)) (fun hc4 => (r_aln xc_107_8 rfl ?_))))
  · rfl
  · exact absurd rfl hc4
theorem L_dig2 (h7 : z 7 = nI n) (hn : n ≤ 300) : ∀ k i, n - (p + i) = k → p + i ≤ n → p_E X 1 109 2 [some (.ref 22), some (.int (nI p)), some (.int (nI i))] [] (hp z a w y g) (fun q => q = (.inl (some (.int (nI (sk cD (a 14) k (p + i) - p)))), hp z a w y g)) := by
  intro k
  induction k with
  | zero =>
    intro i hk hq
    have hc : ∀ {C : Prop}, nI p + nI i < z 7 → C := fun h => by rw [h7, kI_add, kI_lt (by omega) (by omega)] at h; omega
    refine (r_iln xc_109_2 rfl (r_iln xc_109_3 rfl (r_iadd xc_109_4 (r_aln xc_109_5 rfl (r_get xc_109_6 xf_109_77 g_6_1 (r_cge xc_109_9 xj_109_9 (fun hc9 => (r_aln xc_109_12 rfl (r_get xc_109_13 xf_109_7 g_6_0 (r_iln xc_109_16 rfl (r_iln xc_109_17 rfl (r_iadd xc_109_18 (r_ia xc_109_19 b_23 ?_ ?_))))))) (fun hc9 => (r_iln xc_109_32 rfl (r_ri xc_109_33 xrt_109 ?_)))))))))
    · exact hc hc9
    · exact hc hc9
    · rw [show sk cD (a 14) 0 (p + i) - p = i by show p + i - p = i; omega]
  | succ k ih =>
    intro i hk hq
    have hc : nI p + nI i < z 7 := by rw [h7, kI_add, kI_lt (by omega) (by omega)]; omega
    refine (r_iln xc_109_2 rfl (r_iln xc_109_3 rfl (r_iadd xc_109_4 (r_aln xc_109_5 rfl (r_get xc_109_6 xf_109_77 g_6_1 (r_cge xc_109_9 xj_109_9 (fun hc9 => (r_aln xc_109_12 rfl (r_get xc_109_13 xf_109_7 g_6_0 (r_iln xc_109_16 rfl (r_iln xc_109_17 rfl (r_iadd xc_109_18 (r_ia xc_109_19 b_23 ?_ ?_))))))) (fun hc9 => (r_iln xc_109_32 rfl (r_ri xc_109_33 xrt_109 ?_)))))))))
    · rw [kI_add]; exact kI_in (by omega) (by omega)
    · rw [kI_add, kI_cl (by omega)]
      cases hd : cD (a 14 (p + i)) with
      | true =>
        refine (r_cv xc_109_20 xm_109_20 rfl xrc_110 rfl (M_isDigit) (r_zeq xc_109_23 xj_109_23 (fun hc23 => (r_iln xc_109_32 rfl (r_ri xc_109_33 xrt_109 ?_))) (fun hc23 => (r_inc [_, _, _] xc_109_26 rfl rfl (ki_1 _) rfl (r_go xc_109_29 xj_109_29 ?_)))))
        · rw [hd] at hc23; exact absurd hc23 (by decide)
        · rw [kI_add, sk_t hd]
          exact ih (i + 1) (by omega) (by omega)
      | false =>
        refine (r_cv xc_109_20 xm_109_20 rfl xrc_110 rfl (M_isDigit) (r_zeq xc_109_23 xj_109_23 (fun hc23 => (r_iln xc_109_32 rfl (r_ri xc_109_33 xrt_109 ?_))) (fun hc23 => (r_inc [_, _, _] xc_109_26 rfl rfl (ki_1 _) rfl (r_go xc_109_29 xj_109_29 ?_)))))
        · rw [sk_f hd, show p + i - p = i by omega]
        · rw [hd] at hc23; exact absurd rfl hc23
    · exact absurd hc hc9
theorem M_digits (h7 : z 7 = nI n) (hn : n ≤ 300) (hq : p ≤ n) : p_M X 1 109 [.ref 22, .int (nI p)] (hp z a w y g) (fun q => q = (.inl (some (.int (nI (skn cD (a 14) n p - p)))), hp z a w y g)) := by
  refine (r_in xin_109 (r_ic xc_109_0 kc_0 (r_isn [_, _, _] xc_109_1 rfl rfl ?_)))
  exact L_dig2 h7 hn (n - p) 0 rfl hq
theorem L_worth {m : Nat} (hd : ∀ j, p ≤ j → j < p + m → cD (a 14 j) = true) (hm : p + m ≤ 300) : ∀ k i x, i + k = m → p_E X 0 111 5 [some (.ref 22), some (.int (nI p)), some (.int (nI m)), some (.int (nI x)), some (.int (nI i))] [] (hp z a w y g) (fun q => q = (.inl (some (.int (nI (vN (a 14) k (p + i) x)))), hp z a w y g)) := by
  intro k
  induction k with
  | zero =>
    intro i x hk
    refine (r_il xc_111_5 rfl (r_iln xc_111_7 rfl (r_cge xc_111_8 xj_111_8 (fun hc8 => (r_bi xc_111_11 kb_10 (r_iln xc_111_13 rfl (r_imul xc_111_14 (r_aln xc_111_15 rfl (r_get xc_111_16 xf_111_7 g_6_0 (r_iln xc_111_19 rfl (r_il xc_111_20 rfl (r_iadd xc_111_22 (r_ia xc_111_23 b_23 ?_ (r_iadd xc_111_24 (r_bi xc_111_25 kb_48 (r_isub xc_111_27 (r_isn [_, _, _, _, _] xc_111_28 rfl rfl (r_inc [_, _, _, _, _] xc_111_29 rfl rfl (ki_1 _) rfl (r_go xc_111_32 xj_111_32 ?_)))))))))))))))) (fun hc8 => (r_iln xc_111_35 rfl (r_ri xc_111_36 xrt_111 ?_))))))
    · rw [kI_lt (by omega) (by omega)] at hc8; omega
    · rw [kI_lt (by omega) (by omega)] at hc8; omega
    · rfl
  | succ k ih =>
    intro i x hk
    refine (r_il xc_111_5 rfl (r_iln xc_111_7 rfl (r_cge xc_111_8 xj_111_8 (fun hc8 => (r_bi xc_111_11 kb_10 (r_iln xc_111_13 rfl (r_imul xc_111_14 (r_aln xc_111_15 rfl (r_get xc_111_16 xf_111_7 g_6_0 (r_iln xc_111_19 rfl (r_il xc_111_20 rfl (r_iadd xc_111_22 (r_ia xc_111_23 b_23 ?_ (r_iadd xc_111_24 (r_bi xc_111_25 kb_48 (r_isub xc_111_27 (r_isn [_, _, _, _, _] xc_111_28 rfl rfl (r_inc [_, _, _, _, _] xc_111_29 rfl rfl (ki_1 _) rfl (r_go xc_111_32 xj_111_32 ?_)))))))))))))))) (fun hc8 => (r_iln xc_111_35 rfl (r_ri xc_111_36 xrt_111 ?_))))))
    · rw [kI_add]; exact kI_in (by omega) (by omega)
    · rw [kI_add, kI_cl (by omega)]
      have h1 := hd (p + i) (by omega) (by omega)
      have e : nI 10 * nI x + a 14 (p + i) - nI 48 = nI (x * 10 + dg (a 14 (p + i))) := by
        conv => lhs; rw [(cD_dg h1).1]
        rw [kI_mul, kI_add, kI_sub (by omega)]
        congr 1; omega
      rw [e, kI_add]
      exact ih (i + 1) _ (by omega)
    · rw [kI_lt (by omega) (by omega)] at hc8; omega
theorem M_worth {m : Nat} (hd : ∀ j, p ≤ j → j < p + m → cD (a 14 j) = true) (hm : p + m ≤ 300) : p_M X 0 111 [.ref 22, .int (nI p), .int (nI m)] (hp z a w y g) (fun q => q = (.inl (some (.int (nI (vN (a 14) m p 0)))), hp z a w y g)) := by
  refine (r_in xin_111 (r_ic xc_111_0 kc_0 (r_isn [_, _, _, _, _] xc_111_1 rfl rfl (r_ic xc_111_2 kc_0 (r_is [_, _, _, _, _] xc_111_3 rfl rfl ?_)))))
  exact L_worth hd hm m 0 0 (by omega)
theorem L_w28_y (h9 : z 9 = -1) (h7 : z 7 = nI n) (hn : n ≤ 300) (hq : p ≤ n) (hw : wG (a 14) n p) : p_E X 2 108 28 [some (.ref 22), none, none] [.int (nI (wB (a 14) n p))] (hp (u_ z 8 (nI (wB (a 14) n p))) a w y g) (fun q => q = (.inl (some (.int (nI (wV (a 14) n p)))), hp (u_ z 8 (nI (wE (a 14) n p))) a w y g)) := by
  have hb := wB_le (T := a 14) hq
  refine (r_isn [_, _, _] xc_108_28 rfl rfl (r_aln xc_108_29 rfl (r_iln xc_108_30 rfl ?_)))
  refine (r_cv xc_108_31 xm_108_31 rfl xrc_109 rfl (M_digits (p := wB (a 14) n p) h7 hn (by omega)) (r_isn [_, _, _] xc_108_34 rfl rfl (r_iln xc_108_35 rfl (r_ic xc_108_36 kc_1 (r_clt xc_108_37 xj_108_37 (fun hc37 => (r_aln xc_108_46 rfl (r_iln xc_108_47 rfl ?_))) (fun hc37 => (r_iln xc_108_40 rfl (r_bi xc_108_41 kb_6 (r_cle xc_108_43 xj_108_43 (fun hc43 => (r_aln xc_108_46 rfl (r_iln xc_108_47 rfl ?_))) (fun hc43 => (r_aln xc_108_53 rfl (r_iln xc_108_54 rfl (r_iln xc_108_55 rfl (r_iadd xc_108_56 (r_put xc_108_57 xf_108_80 rfl s_6_2 (r_aln xc_108_60 rfl (r_iln xc_108_61 rfl (r_iln xc_108_62 rfl ?_))))))))))))))))))
  · have hc37 : nI (wE (a 14) n p - wB (a 14) n p) < nI 1 := hc37
    rw [kI_lt (by omega) (by omega)] at hc37
    exact absurd hw.1 (by omega)
  · have hc43 : nI 6 < nI (wE (a 14) n p - wB (a 14) n p) := hc43
    rw [kI_lt (by omega) (by omega)] at hc43
    exact absurd hw.2 (by omega)
  · rw [u_u, kI_add]
    have e : wB (a 14) n p + (skn cD (a 14) n (wB (a 14) n p) - wB (a 14) n p) = wE (a 14) n p := by
      show wB (a 14) n p + (wE (a 14) n p - wB (a 14) n p) = _; omega
    rw [e]
    refine (r_cv xc_108_63 xm_108_63 rfl xrc_111 rfl (p_M.up (M_worth (skD_all (a 14)) (by rw [e]; omega)) (by omega)) (r_ri xc_108_66 xrt_108 ?_))
    rfl
theorem L_w28_n (h9 : z 9 = -1) (h7 : z 7 = nI n) (hn : n ≤ 300) (hq : p ≤ n) (hw : ¬ wG (a 14) n p) : p_E X 2 108 28 [some (.ref 22), none, none] [.int (nI (wB (a 14) n p))] (hp (u_ z 8 (nI (wB (a 14) n p))) a w y g) (fun q => q = (.inl (some (.int (nI 0))), hp (u_ (u_ z 8 (nI (wB (a 14) n p))) 9 (nI (wB (a 14) n p))) a w y g)) := by
  have hb := wB_le (T := a 14) hq
  refine (r_isn [_, _, _] xc_108_28 rfl rfl (r_aln xc_108_29 rfl (r_iln xc_108_30 rfl ?_)))
  refine (r_cv xc_108_31 xm_108_31 rfl xrc_109 rfl (M_digits (p := wB (a 14) n p) h7 hn (by omega)) (r_isn [_, _, _] xc_108_34 rfl rfl (r_iln xc_108_35 rfl (r_ic xc_108_36 kc_1 (r_clt xc_108_37 xj_108_37 (fun hc37 => (r_aln xc_108_46 rfl (r_iln xc_108_47 rfl ?_))) (fun hc37 => (r_iln xc_108_40 rfl (r_bi xc_108_41 kb_6 (r_cle xc_108_43 xj_108_43 (fun hc43 => (r_aln xc_108_46 rfl (r_iln xc_108_47 rfl ?_))) (fun hc43 => (r_aln xc_108_53 rfl (r_iln xc_108_54 rfl (r_iln xc_108_55 rfl (r_iadd xc_108_56 (r_put xc_108_57 xf_108_80 rfl s_6_2 (r_aln xc_108_60 rfl (r_iln xc_108_61 rfl (r_iln xc_108_62 rfl ?_))))))))))))))))))
  · refine (r_c0 xc_108_48 xm_108_48 rfl xrc_97 rfl (p_M.up (M_fail h9) (by omega)) (r_ic xc_108_51 kc_0 (r_ri xc_108_52 xrt_108 ?_)))
    rfl
  · refine (r_c0 xc_108_48 xm_108_48 rfl xrc_97 rfl (p_M.up (M_fail h9) (by omega)) (r_ic xc_108_51 kc_0 (r_ri xc_108_52 xrt_108 ?_)))
    rfl
  · have hc43 : ¬ nI 6 < nI (wE (a 14) n p - wB (a 14) n p) := hc43
    have hc37 : ¬ nI (wE (a 14) n p - wB (a 14) n p) < nI 1 := hc37
    rw [kI_lt (by omega) (by omega)] at hc43 hc37
    exact absurd ⟨by omega, by omega⟩ hw
theorem M_whole_y (ht : TX (a 14) n) (h9 : z 9 = -1) (h7 : z 7 = nI n) (h8 : z 8 = nI p) (hn : n ≤ 300) (hq : p ≤ n) (hw : wG (a 14) n p) : p_M X 2 108 [.ref 22] (hp z a w y g) (fun q => q = (.inl (some (.int (nI (wV (a 14) n p)))), hp (u_ z 8 (nI (wE (a 14) n p))) a w y g)) := by
  have hb := wB_le (T := a 14) hq
  refine (r_in xin_108 (r_aln xc_108_0 rfl ?_))
  refine (r_cv xc_108_1 xm_108_1 rfl xrc_98 rfl (p_M.up (M_fine_y h9) (by omega)) (r_zne xc_108_4 xj_108_4 (fun hc4 => (r_ic xc_108_7 kc_0 (r_ri xc_108_8 xrt_108 ?_))) (fun hc4 => (r_aln xc_108_9 rfl ?_))))
  · exact absurd hc4 (by decide)
  · refine (r_cv xc_108_10 xm_108_10 rfl xrc_100 rfl (p_M.up (M_look h7 h8 hn hq) (by omega)) (r_ic xc_108_13 kc_m1 (r_cne xc_108_14 xj_108_14 (fun hc14 => (r_aln xc_108_17 rfl (r_get xc_108_18 xf_108_77 g_6_1 (r_go xc_108_21 xj_108_21 ?_)))) (fun hc14 => (r_aln xc_108_24 rfl (r_get xc_108_25 xf_108_80 g_6_2 ?_))))))
    · have e := (sg_m1 ht (show skn cB (a 14) n p ≤ n from by have := hb.2; unfold wB at this; omega)).mp hc14
      have e2 : (u_ z 8 (nI (skn cB (a 14) n p))) 7 = nI (wB (a 14) n p) := by
        show z 7 = nI (skn cB (a 14) n p)
        rw [e]; exact h7
      rw [e2]
      exact L_w28_y h9 h7 hn hq hw
    · exact L_w28_y h9 h7 hn hq hw
theorem M_whole_n (ht : TX (a 14) n) (h9 : z 9 = -1) (h7 : z 7 = nI n) (h8 : z 8 = nI p) (hn : n ≤ 300) (hq : p ≤ n) (hw : ¬ wG (a 14) n p) : p_M X 2 108 [.ref 22] (hp z a w y g) (fun q => q = (.inl (some (.int (nI 0))), hp (u_ (u_ z 8 (nI (wB (a 14) n p))) 9 (nI (wB (a 14) n p))) a w y g)) := by
  have hb := wB_le (T := a 14) hq
  refine (r_in xin_108 (r_aln xc_108_0 rfl ?_))
  refine (r_cv xc_108_1 xm_108_1 rfl xrc_98 rfl (p_M.up (M_fine_y h9) (by omega)) (r_zne xc_108_4 xj_108_4 (fun hc4 => (r_ic xc_108_7 kc_0 (r_ri xc_108_8 xrt_108 ?_))) (fun hc4 => (r_aln xc_108_9 rfl ?_))))
  · exact absurd hc4 (by decide)
  · refine (r_cv xc_108_10 xm_108_10 rfl xrc_100 rfl (p_M.up (M_look h7 h8 hn hq) (by omega)) (r_ic xc_108_13 kc_m1 (r_cne xc_108_14 xj_108_14 (fun hc14 => (r_aln xc_108_17 rfl (r_get xc_108_18 xf_108_77 g_6_1 (r_go xc_108_21 xj_108_21 ?_)))) (fun hc14 => (r_aln xc_108_24 rfl (r_get xc_108_25 xf_108_80 g_6_2 ?_))))))
    · have e := (sg_m1 ht (show skn cB (a 14) n p ≤ n from by have := hb.2; unfold wB at this; omega)).mp hc14
      have e2 : (u_ z 8 (nI (skn cB (a 14) n p))) 7 = nI (wB (a 14) n p) := by
        show z 7 = nI (skn cB (a 14) n p)
        rw [e]; exact h7
      rw [e2]
      exact L_w28_n h9 h7 hn hq hw
    · exact L_w28_n h9 h7 hn hq hw
theorem M_whole_b {b : Nat} (h9 : z 9 = nI b) (hb : b < 1000) : p_M X 2 108 [.ref 22] (hp z a w y g) (fun q => q = (.inl (some (.int (nI 0))), hp z a w y g)) := by
  refine (r_in xin_108 (r_aln xc_108_0 rfl ?_))
  refine (r_cv xc_108_1 xm_108_1 rfl xrc_98 rfl (p_M.up (M_fine_n h9 hb) (by omega)) (r_zne xc_108_4 xj_108_4 (fun hc4 => (r_ic xc_108_7 kc_0 (r_ri xc_108_8 xrt_108 ?_))) (fun hc4 => (r_aln xc_108_9 rfl ?_))))
  · rfl
  · exact absurd rfl hc4
theorem M_counts_y {c : Nat} {x : Int32} (h : z 12 = nI c) (hc : c < 60) : p_M X 1 104 [.ref 22, .int x] (hp z a w y g) (fun q => q = (.inl (some (.int (nI 1))), hp (u_ z 12 (nI (c + 1))) a w y g)) := by
  refine (r_in xin_104 (r_aln xc_104_0 rfl (r_get xc_104_1 xf_104_110 g_6_14 (r_bi xc_104_4 kb_60 (r_cne xc_104_6 xj_104_6 (fun hc6 => (r_aln xc_104_9 rfl (r_iln xc_104_10 rfl ?_))) (fun hc6 => (r_aln xc_104_16 rfl (r_dup xc_104_17 rfl (r_get xc_104_18 xf_104_110 g_6_14 (r_ic xc_104_21 kc_1 (r_iadd xc_104_22 (r_put xc_104_23 xf_104_110 rfl s_6_14 (r_ic xc_104_26 kc_1 (r_rz xc_104_27 xrt_104 ?_ ?_))))))))))))))
  · rw [h, kI_inj (by omega) (by omega)] at hc6; omega
  · exact Or.inr rfl
  · rw [h, kI_add]
theorem M_counts_n {x : Int32} (h : z 12 = nI 60) (h9 : z 9 = -1) : p_M X 1 104 [.ref 22, .int x] (hp z a w y g) (fun q => q = (.inl (some (.int (nI 0))), hp (u_ z 9 x) a w y g)) := by
  refine (r_in xin_104 (r_aln xc_104_0 rfl (r_get xc_104_1 xf_104_110 g_6_14 (r_bi xc_104_4 kb_60 (r_cne xc_104_6 xj_104_6 (fun hc6 => (r_aln xc_104_9 rfl (r_iln xc_104_10 rfl ?_))) (fun hc6 => (r_aln xc_104_16 rfl (r_dup xc_104_17 rfl (r_get xc_104_18 xf_104_110 g_6_14 (r_ic xc_104_21 kc_1 (r_iadd xc_104_22 (r_put xc_104_23 xf_104_110 rfl s_6_14 (r_ic xc_104_26 kc_1 (r_rz xc_104_27 xrt_104 ?_ ?_))))))))))))))
  · refine (r_c0 xc_104_11 xm_104_11 rfl xrc_97 rfl (M_fail h9) (r_ic xc_104_14 kc_0 (r_rz xc_104_15 xrt_104 ?_ ?_)))
    · exact Or.inl rfl
    · rfl
  · exact absurd h hc6
  · exact absurd h hc6
/-- a node of the model -/
abbrev pW : Type := Int32 × Int32 × Int32 × Int32 × Int32 × Int32
def mnv (a : Nat → Nat → Int32) (i : Nat) : pW := (a 15 i, a 16 i, a 17 i, a 18 i, a 19 i, a 20 i)
theorem M_make {k x u l r : Int32} {b : Nat} (h : z 11 = nI b) (hb : b < 120) : p_M X 0 105 [.ref 22, .int k, .int x, .int u, .int l, .int r] (hp z a w y g) (fun q => ∃ a', q = (.inl (some (.int (nI b))), hp (u_ z 11 (nI (b + 1))) a' w y g) ∧ (∀ j, j < 15 ∨ 20 < j → a' j = a j) ∧ (∀ j, j ≠ b → mnv a' j = mnv a j) ∧ mnv a' b = (k, x, u, l, r, nI 0)) := by
  refine (r_in xin_105 (r_aln xc_105_0 rfl (r_get xc_105_1 xf_105_113 g_6_13 (r_is [_, _, _, _, _, _, _] xc_105_4 rfl rfl (r_aln xc_105_6 rfl (r_dup xc_105_7 rfl (r_get xc_105_8 xf_105_113 g_6_13 (r_ic xc_105_11 kc_1 (r_iadd xc_105_12 (r_put xc_105_13 xf_105_113 rfl s_6_13 (r_aln xc_105_16 rfl (r_get xc_105_17 xf_105_13 g_6_5 (r_il xc_105_20 rfl (r_iln xc_105_22 rfl (r_ias xc_105_23 b_24 t_24 ?_ (r_aln xc_105_24 rfl (r_get xc_105_25 xf_105_16 g_6_6 (r_il xc_105_28 rfl (r_iln xc_105_30 rfl (r_ias xc_105_31 b_25 t_25 ?_ (r_aln xc_105_32 rfl (r_get xc_105_33 xf_105_19 g_6_7 (r_il xc_105_36 rfl (r_iln xc_105_38 rfl (r_ias xc_105_39 b_26 t_26 ?_ (r_aln xc_105_40 rfl (r_get xc_105_41 xf_105_22 g_6_8 (r_il xc_105_44 rfl (r_il xc_105_46 rfl (r_ias xc_105_48 b_27 t_27 ?_ (r_aln xc_105_49 rfl (r_get xc_105_50 xf_105_25 g_6_9 (r_il xc_105_53 rfl (r_il xc_105_55 rfl (r_ias xc_105_57 b_28 t_28 ?_ (r_aln xc_105_58 rfl (r_get xc_105_59 xf_105_28 g_6_10 (r_il xc_105_62 rfl (r_ic xc_105_64 kc_0 (r_ias xc_105_65 b_29 t_29 ?_ (r_il xc_105_66 rfl (r_ri xc_105_68 xrt_105 ?_))))))))))))))))))))))))))))))))))))))))))
  · rw [h]; exact kI_in (by omega) (by omega)
  · rw [h]; exact kI_in (by omega) (by omega)
  · rw [h]; exact kI_in (by omega) (by omega)
  · rw [h]; exact kI_in (by omega) (by omega)
  · rw [h]; exact kI_in (by omega) (by omega)
  · rw [h]; exact kI_in (by omega) (by omega)
  · rw [h, kI_cl (by omega), kI_add]
    refine ⟨_, rfl, fun j hj => ?_, fun j hj => ?_, ?_⟩
    · rw [u_n _ _ (by omega), u_n _ _ (by omega), u_n _ _ (by omega), u_n _ _ (by omega), u_n _ _ (by omega), u_n _ _ (by omega)]
    · show (upd (a 15) b k j, upd (a 16) b x j, upd (a 17) b u j, upd (a 18) b l j, upd (a 19) b r j, upd (a 20) b (nI 0) j) = _
      rw [up_n _ _ hj, up_n _ _ hj, up_n _ _ hj, up_n _ _ hj, up_n _ _ hj, up_n _ _ hj]
      rfl
    · show (upd (a 15) b k b, upd (a 16) b x b, upd (a 17) b u b, upd (a 18) b l b, upd (a 19) b r b, upd (a 20) b (nI 0) b) = _
      rw [up_s, up_s, up_s, up_s, up_s, up_s]
end MLEAF
