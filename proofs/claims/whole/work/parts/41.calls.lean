/-! ===== price, amount, convert, sign, count ===== -/
theorem UNI.amount {a : Nat → Nat → Int32} {w : Nat → Nat → Int64} {A : Nat → Option Nat} {M G : Nat → Nat} (h : UNI a w A M G) {u : Nat} {o : Option Nat} (ho : ∀ x, o = some x → x ≤ 100000000) : UNI a (u_ (u_ w 0 (vp_updL (w 0) u (aL o))) 2 (vp_updL (w 2) u (aL o))) (fun j => if j = u then o else A j) M G := by
  intro j hj
  obtain ⟨h0, h1, h2, h3, h4, h5, h6, h7, h8, h9⟩ := h j hj
  refine ⟨?_, ?_, h2, h3, h4, h5, ?_, h7, h8, h9⟩
  · show vp_updL (w 0) u (aL o) j = aL (if j = u then o else A j)
    by_cases hju : j = u
    · subst hju; rw [ul_s, if_pos rfl]
    · rw [ul_n _ _ hju, if_neg hju]; exact h0
  · show vp_updL (w 2) u (aL o) j = aL (if j = u then o else A j)
    by_cases hju : j = u
    · subst hju; rw [ul_s, if_pos rfl]
    · rw [ul_n _ _ hju, if_neg hju]; exact h1
  · intro x hx
    have hx : (if j = u then o else A j) = some x := hx
    by_cases hju : j = u
    · rw [if_pos hju] at hx; exact ho x hx
    · rw [if_neg hju] at hx; exact h6 x hx
theorem UNI.conv {a : Nat → Nat → Int32} {w : Nat → Nat → Int64} {A : Nat → Option Nat} {M G : Nat → Nat} (h : UNI a w A M G) {u t c : Nat} (ht : t < 8) (hc : c ≤ 1000) (hr : c = 0 ∨ ¬ rl M G u 8 t) : UNI (u_ (u_ (u_ (u_ a 10 (upd (a 10) u (nI t))) 11 (upd (a 11) u (nI c))) 29 (upd (a 29) u (nI t))) 30 (upd (a 30) u (nI c))) w A (un M u c) (un G u t) := by
  have hcl := cl_set (M := M) (G := G) (m := 8) (u := u) (t := t) (c := c) (fun v hv => (h v hv).2.2.2.2.2.2.2.1) (fun v hv => (h v hv).2.2.2.2.2.2.2.2.2) ht hr
  intro j hj
  obtain ⟨h0, h1, h2, h3, h4, h5, h6, h7, h8, h9⟩ := h j hj
  refine ⟨h0, h1, ?_, ?_, ?_, ?_, h6, ?_, ?_, hcl j hj⟩
  · show upd (a 10) u (nI t) j = _
    by_cases hju : j = u
    · subst hju; rw [up_s, un_s]
    · rw [up_n _ _ hju, un_n _ _ hju]; exact h2
  · show upd (a 29) u (nI t) j = _
    by_cases hju : j = u
    · subst hju; rw [up_s, un_s]
    · rw [up_n _ _ hju, un_n _ _ hju]; exact h3
  · show upd (a 11) u (nI c) j = _
    by_cases hju : j = u
    · subst hju; rw [up_s, un_s]
    · rw [up_n _ _ hju, un_n _ _ hju]; exact h4
  · show upd (a 30) u (nI c) j = _
    by_cases hju : j = u
    · subst hju; rw [up_s, un_s]
    · rw [up_n _ _ hju, un_n _ _ hju]; exact h5
  · unfold un; split
    · exact ht
    · exact h7
  · unfold un; split
    · exact hc
    · exact h8
section CALLS
variable {X : pX} {z : Nat → Int32} {a : Nat → Nat → Int32} {w : Nat → Nat → Int64} {y : Nat → Int64} {g : List pE} {A : Nat → Option Nat} {M G : Nat → Nat}
theorem M_priceC {x : Int64} : p_M X 0 49 [.ref 0, .long x] (hp z a w y g) (fun q => ((x < 0 ∨ 100000000 < x) → q = (.inl (some (.int (nI 0))), hp z a w y g)) ∧ (¬ (x < 0 ∨ 100000000 < x) → q = (.inl (some (.int (nI 1))), hp z a w (u_ y 0 x) g))) := by
  refine (r_in xin_49 (r_lln xc_49_0 rfl (r_lc xc_49_1 kl_0 (r_llt xc_49_2 xc_49_3 xj_49_3 (fun hc3 => (r_ic xc_49_14 kc_0 (r_rz xc_49_15 xrt_49 ?_ ?_))) (fun hc3 => (r_lln xc_49_6 rfl (r_ldl xc_49_7 xl_49_58 (r_lle xc_49_10 xc_49_11 xj_49_11 (fun hc11 => (r_ic xc_49_14 kc_0 (r_rz xc_49_15 xrt_49 ?_ ?_))) (fun hc11 => (r_aln xc_49_16 rfl (r_lln xc_49_17 rfl (r_put xc_49_18 xf_49_46 rfl s_5_5 (r_ic xc_49_21 kc_1 (r_rz xc_49_22 xrt_49 ?_ ?_))))))))))))))
  · exact Or.inl rfl
  · exact ⟨fun _ => rfl, fun h => absurd (Or.inl hc3) h⟩
  · exact Or.inl rfl
  · exact ⟨fun _ => rfl, fun h => absurd (Or.inr hc11) h⟩
  · exact Or.inr rfl
  · exact ⟨fun h => absurd h (by rintro (h | h); exact hc3 h; exact hc11 h), fun _ => rfl⟩
theorem M_priceM {x : Int64} : p_M X 0 118 [.ref 22, .long x] (hp z a w y g) (fun q => ((x < 0 ∨ 100000000 < x) → q = (.inl (some (.int (nI 0))), hp (u_ z 10 (nI 0)) a w y g)) ∧ (¬ (x < 0 ∨ 100000000 < x) → q = (.inl (some (.int (nI 1))), hp (u_ z 10 (nI 0)) a w (u_ y 1 x) g))) := by
  refine (r_in xin_118 (r_aln xc_118_0 rfl (r_ic xc_118_1 kc_0 (r_put xc_118_2 xf_118_73 rfl s_6_4 (r_lln xc_118_5 rfl (r_lc xc_118_6 kl_0 (r_llt xc_118_7 xc_118_8 xj_118_8 (fun hc8 => (r_ic xc_118_19 kc_0 (r_rz xc_118_20 xrt_118 ?_ ?_))) (fun hc8 => (r_lln xc_118_11 rfl (r_ldl xc_118_12 xl_118_189 (r_lle xc_118_15 xc_118_16 xj_118_16 (fun hc16 => (r_ic xc_118_19 kc_0 (r_rz xc_118_20 xrt_118 ?_ ?_))) (fun hc16 => (r_aln xc_118_21 rfl (r_lln xc_118_22 rfl (r_put xc_118_23 xf_118_191 rfl s_6_25 (r_ic xc_118_26 kc_1 (r_rz xc_118_27 xrt_118 ?_ ?_)))))))))))))))))
  · exact Or.inl rfl
  · exact ⟨fun _ => rfl, fun h => absurd (Or.inl hc8) h⟩
  · exact Or.inl rfl
  · exact ⟨fun _ => rfl, fun h => absurd (Or.inr hc16) h⟩
  · exact Or.inr rfl
  · exact ⟨fun h => absurd h (by rintro (h | h); exact hc8 h; exact hc16 h), fun _ => rfl⟩
/-- what may be an amount -/
theorem amt_ok (x : Int64) : ((x < -1 ∨ 100000000 < x) ∧ (x < 0 ∨ 100000000 < x) ∧ ¬ x = -1) ∨ ∃ o : Option Nat, x = aL o ∧ (∀ v, o = some v → v ≤ 100000000) ∧ ¬ x < -1 ∧ ¬ 100000000 < x ∧ ((¬ x < 0 ∧ ¬ 100000000 < x) ∨ x = -1) := by
  have em : (-1 : Int64).toInt = -1 := by decide
  have e0 : (0 : Int64).toInt = 0 := by decide
  have eM : (100000000 : Int64).toInt = 100000000 := by decide
  by_cases h1 : x = -1
  · subst h1
    exact Or.inr ⟨none, rfl, fun v hv => (by cases hv), by decide, by decide, Or.inr rfl⟩
  · by_cases h2 : x < 0 ∨ 100000000 < x
    · refine Or.inl ⟨?_, h2, h1⟩
      rcases h2 with h | h
      · left
        rw [Int64.lt_iff_toInt_lt] at h ⊢
        have : x.toInt ≠ -1 := fun he => h1 (Int64.toInt_inj.mp (he.trans em.symm))
        omega
      · exact Or.inr h
    · have h3 : ¬ x < 0 := fun h => h2 (Or.inl h)
      have h4 : ¬ 100000000 < x := fun h => h2 (Or.inr h)
      refine Or.inr ⟨some x.toInt.toNat, ?_, ?_, ?_, h4, Or.inl ⟨h3, h4⟩⟩
      · rw [Int64.lt_iff_toInt_lt] at h3
        exact kL_of (by omega)
      · intro v hv
        cases hv
        rw [Int64.lt_iff_toInt_lt] at h4
        omega
      · rw [Int64.lt_iff_toInt_lt] at h3 ⊢
        omega
theorem M_amountC_n {x : Int32} {v : Int64} (h : (x < nI 0 ∨ ¬ x < nI 8) ∨ ((v < 0 ∨ 100000000 < v) ∧ ¬ v = -1)) : p_M X 2 50 [.ref 0, .int x, .long v] (hp z a w y g) (fun q => q = (.inl (some (.int (nI 0))), hp z a w y g)) := by
  have key : p_M X 1 51 [.ref 13, .int x, .long v] (hp z a w y g) (fun q => q = (.inl (some (.int (nI 0))), hp z a w y g)) := by
    have fin : ∀ b : Int32, (b = nI 0 ∨ ¬ ((v < 0 ∨ 100000000 < v))) → p_E X 1 51 22 [some (.ref 13), some (.int x), some (.long v), none, some (.int b)] [.int x] (hp z a w y g) (fun q => q = (.inl (some (.int (nI 0))), hp z a w y g)) := by
      intro b hb
      rcases isU x with hx | ⟨u, hu, rfl⟩
      · refine (r_cv xc_51_22 xm_51_22 rfl xrc_52 rfl (M_unitC_n hx) (r_zeq xc_51_25 xj_51_25 (fun hc25 => (r_ic xc_51_41 kc_0 (r_rz xc_51_42 xrt_51 ?_ ?_))) (fun hc25 => (r_il xc_51_28 rfl (r_zne xc_51_30 xj_51_30 (fun hc30 => (r_lln xc_51_33 rfl (r_ldl xc_51_34 xl_51_22 (r_leq xc_51_37 xc_51_38 xj_51_38 (fun hc38 => (r_aln xc_51_43 rfl (r_get xc_51_44 xf_51_9 g_3_0 (r_iln xc_51_47 rfl (r_lln xc_51_48 rfl (r_las xc_51_49 b_14 t_14 ?_ (r_ic xc_51_50 kc_1 (r_rz xc_51_51 xrt_51 ?_ ?_)))))))) (fun hc38 => (r_ic xc_51_41 kc_0 (r_rz xc_51_42 xrt_51 ?_ ?_))))))) (fun hc30 => (r_aln xc_51_43 rfl (r_get xc_51_44 xf_51_9 g_3_0 (r_iln xc_51_47 rfl (r_lln xc_51_48 rfl (r_las xc_51_49 b_14 t_14 ?_ (r_ic xc_51_50 kc_1 (r_rz xc_51_51 xrt_51 ?_ ?_)))))))))))))
        · exact Or.inl rfl
        · rfl
        all_goals exact absurd rfl hc25
      · have h2 : (v < 0 ∨ 100000000 < v) ∧ ¬ v = -1 := by
          rcases h with h | h
          · rcases h with h | h
            · exact absurd h (kI_neg (by omega))
            · exact absurd ((kI_lt (by omega) (by omega)).mpr hu) h
          · exact h
        refine (r_cv xc_51_22 xm_51_22 rfl xrc_52 rfl (M_unitC hu) (r_zeq xc_51_25 xj_51_25 (fun hc25 => (r_ic xc_51_41 kc_0 (r_rz xc_51_42 xrt_51 ?_ ?_))) (fun hc25 => (r_il xc_51_28 rfl (r_zne xc_51_30 xj_51_30 (fun hc30 => (r_lln xc_51_33 rfl (r_ldl xc_51_34 xl_51_22 (r_leq xc_51_37 xc_51_38 xj_51_38 (fun hc38 => (r_aln xc_51_43 rfl (r_get xc_51_44 xf_51_9 g_3_0 (r_iln xc_51_47 rfl (r_lln xc_51_48 rfl (r_las xc_51_49 b_14 t_14 ?_ (r_ic xc_51_50 kc_1 (r_rz xc_51_51 xrt_51 ?_ ?_)))))))) (fun hc38 => (r_ic xc_51_41 kc_0 (r_rz xc_51_42 xrt_51 ?_ ?_))))))) (fun hc30 => (r_aln xc_51_43 rfl (r_get xc_51_44 xf_51_9 g_3_0 (r_iln xc_51_47 rfl (r_lln xc_51_48 rfl (r_las xc_51_49 b_14 t_14 ?_ (r_ic xc_51_50 kc_1 (r_rz xc_51_51 xrt_51 ?_ ?_)))))))))))))
        · exact Or.inl rfl
        · rfl
        · exact kI_in (by omega) (by omega)
        · exact Or.inr rfl
        · exact absurd hc38 h2.2
        · exact Or.inl rfl
        · rfl
        all_goals
          rcases hb with hb | hb
          · exact absurd hb hc30
          · exact absurd h2.1 hb
    refine (r_in xin_51 (r_lln xc_51_0 rfl (r_lc xc_51_1 kl_0 (r_llt xc_51_2 xc_51_3 xj_51_3 (fun hc3 => (r_ic xc_51_18 kc_0 (r_is [_, _, _, _, _] xc_51_19 rfl rfl (r_iln xc_51_21 rfl ?_)))) (fun hc3 => (r_lln xc_51_6 rfl (r_ldl xc_51_7 xl_51_30 (r_lgt xc_51_10 xc_51_11 xj_51_11 (fun hc11 => (r_ic xc_51_18 kc_0 (r_is [_, _, _, _, _] xc_51_19 rfl rfl (r_iln xc_51_21 rfl ?_)))) (fun hc11 => (r_ic xc_51_14 kc_1 (r_go xc_51_15 xj_51_15 (r_is [_, _, _, _, _] xc_51_19 rfl rfl (r_iln xc_51_21 rfl ?_)))))))))))))
    · exact fin _ (Or.inl rfl)
    · exact fin _ (Or.inl rfl)
    · exact fin _ (Or.inr (by rintro (h | h); exact hc3 h; exact hc11 h))
  refine (r_in xin_50 (r_aln xc_50_0 rfl (r_get xc_50_1 xf_50_28 g_5_2 (r_iln xc_50_4 rfl (r_lln xc_50_5 rfl ?_)))))
  refine (r_cv xc_50_6 xm_50_6 rfl xrc_51 rfl (key) (r_rz xc_50_9 xrt_50 ?_ ?_))
  · exact Or.inl rfl
  · rfl
theorem M_amountC_y {u : Nat} {v : Int64} (hu : u < 8) (h : (¬ v < 0 ∧ ¬ 100000000 < v) ∨ v = -1) : p_M X 2 50 [.ref 0, .int (nI u), .long v] (hp z a w y g) (fun q => q = (.inl (some (.int (nI 1))), hp z a (u_ w 0 (vp_updL (w 0) u v)) y g)) := by
  have key : p_M X 1 51 [.ref 13, .int (nI u), .long v] (hp z a w y g) (fun q => q = (.inl (some (.int (nI 1))), hp z a (u_ w 0 (vp_updL (w 0) u v)) y g)) := by
    have fin : ∀ b : Int32, (¬ b = nI 0 ∨ v = -1) → p_E X 1 51 22 [some (.ref 13), some (.int (nI u)), some (.long v), none, some (.int b)] [.int (nI u)] (hp z a w y g) (fun q => q = (.inl (some (.int (nI 1))), hp z a (u_ w 0 (vp_updL (w 0) u v)) y g)) := by
      intro b hb
      refine (r_cv xc_51_22 xm_51_22 rfl xrc_52 rfl (M_unitC hu) (r_zeq xc_51_25 xj_51_25 (fun hc25 => (r_ic xc_51_41 kc_0 (r_rz xc_51_42 xrt_51 ?_ ?_))) (fun hc25 => (r_il xc_51_28 rfl (r_zne xc_51_30 xj_51_30 (fun hc30 => (r_lln xc_51_33 rfl (r_ldl xc_51_34 xl_51_22 (r_leq xc_51_37 xc_51_38 xj_51_38 (fun hc38 => (r_aln xc_51_43 rfl (r_get xc_51_44 xf_51_9 g_3_0 (r_iln xc_51_47 rfl (r_lln xc_51_48 rfl (r_las xc_51_49 b_14 t_14 ?_ (r_ic xc_51_50 kc_1 (r_rz xc_51_51 xrt_51 ?_ ?_)))))))) (fun hc38 => (r_ic xc_51_41 kc_0 (r_rz xc_51_42 xrt_51 ?_ ?_))))))) (fun hc30 => (r_aln xc_51_43 rfl (r_get xc_51_44 xf_51_9 g_3_0 (r_iln xc_51_47 rfl (r_lln xc_51_48 rfl (r_las xc_51_49 b_14 t_14 ?_ (r_ic xc_51_50 kc_1 (r_rz xc_51_51 xrt_51 ?_ ?_)))))))))))))
      · exact Or.inl rfl
      · exact absurd hc25 (by decide)
      · exact kI_in (by omega) (by omega)
      · exact Or.inr rfl
      · rw [kI_cl (by omega)]
      · exact Or.inl rfl
      · rcases hb with hb | hb
        · exact absurd hc30 hb
        · exact absurd hb hc38
      · exact kI_in (by omega) (by omega)
      · exact Or.inr rfl
      · rw [kI_cl (by omega)]
    refine (r_in xin_51 (r_lln xc_51_0 rfl (r_lc xc_51_1 kl_0 (r_llt xc_51_2 xc_51_3 xj_51_3 (fun hc3 => (r_ic xc_51_18 kc_0 (r_is [_, _, _, _, _] xc_51_19 rfl rfl (r_iln xc_51_21 rfl ?_)))) (fun hc3 => (r_lln xc_51_6 rfl (r_ldl xc_51_7 xl_51_30 (r_lgt xc_51_10 xc_51_11 xj_51_11 (fun hc11 => (r_ic xc_51_18 kc_0 (r_is [_, _, _, _, _] xc_51_19 rfl rfl (r_iln xc_51_21 rfl ?_)))) (fun hc11 => (r_ic xc_51_14 kc_1 (r_go xc_51_15 xj_51_15 (r_is [_, _, _, _, _] xc_51_19 rfl rfl (r_iln xc_51_21 rfl ?_)))))))))))))
    · refine fin _ (Or.inr ?_)
      rcases h with h | h
      · exact absurd hc3 h.1
      · exact h
    · refine fin _ (Or.inr ?_)
      rcases h with h | h
      · exact absurd hc11 h.2
      · exact h
    · exact fin _ (Or.inl (by decide))
  refine (r_in xin_50 (r_aln xc_50_0 rfl (r_get xc_50_1 xf_50_28 g_5_2 (r_iln xc_50_4 rfl (r_lln xc_50_5 rfl ?_)))))
  refine (r_cv xc_50_6 xm_50_6 rfl xrc_51 rfl (key) (r_rz xc_50_9 xrt_50 ?_ ?_))
  · exact Or.inr rfl
  · rfl
theorem M_amountM_n {x : Int32} {v : Int64} (h : (x < nI 0 ∨ ¬ x < nI 8) ∨ (v < -1 ∨ 100000000 < v)) : p_M X 1 119 [.ref 22, .int x, .long v] (hp z a w y g) (fun q => q = (.inl (some (.int (nI 0))), hp (u_ z 10 (nI 0)) a w y g)) := by
  refine (r_in xin_119 (r_aln xc_119_0 rfl (r_ic xc_119_1 kc_0 (r_put xc_119_2 xf_119_73 rfl s_6_4 (r_iln xc_119_5 rfl ?_)))))
  rcases isU x with hx | ⟨u, hu, rfl⟩
  · refine (r_cv xc_119_6 xm_119_6 rfl xrc_120 rfl (M_unitM_n hx) (r_zeq xc_119_9 xj_119_9 (fun hc9 => (r_ic xc_119_28 kc_0 (r_rz xc_119_29 xrt_119 ?_ ?_))) (fun hc9 => (r_lln xc_119_12 rfl (r_ldl xc_119_13 xl_119_71 (r_llt xc_119_16 xc_119_17 xj_119_17 (fun hc17 => (r_ic xc_119_28 kc_0 (r_rz xc_119_29 xrt_119 ?_ ?_))) (fun hc17 => (r_lln xc_119_20 rfl (r_ldl xc_119_21 xl_119_189 (r_lle xc_119_24 xc_119_25 xj_119_25 (fun hc25 => (r_ic xc_119_28 kc_0 (r_rz xc_119_29 xrt_119 ?_ ?_))) (fun hc25 => (r_aln xc_119_30 rfl (r_get xc_119_31 xf_119_55 g_6_26 (r_iln xc_119_34 rfl (r_lln xc_119_35 rfl (r_las xc_119_36 b_38 t_38 ?_ (r_ic xc_119_37 kc_1 (r_rz xc_119_38 xrt_119 ?_ ?_))))))))))))))))))
    · exact Or.inl rfl
    · rfl
    all_goals exact absurd rfl hc9
  · have h2 : v < -1 ∨ 100000000 < v := by
      rcases h with h | h
      · rcases h with h | h
        · exact absurd h (kI_neg (by omega))
        · exact absurd ((kI_lt (by omega) (by omega)).mpr hu) h
      · exact h
    refine (r_cv xc_119_6 xm_119_6 rfl xrc_120 rfl (M_unitM hu) (r_zeq xc_119_9 xj_119_9 (fun hc9 => (r_ic xc_119_28 kc_0 (r_rz xc_119_29 xrt_119 ?_ ?_))) (fun hc9 => (r_lln xc_119_12 rfl (r_ldl xc_119_13 xl_119_71 (r_llt xc_119_16 xc_119_17 xj_119_17 (fun hc17 => (r_ic xc_119_28 kc_0 (r_rz xc_119_29 xrt_119 ?_ ?_))) (fun hc17 => (r_lln xc_119_20 rfl (r_ldl xc_119_21 xl_119_189 (r_lle xc_119_24 xc_119_25 xj_119_25 (fun hc25 => (r_ic xc_119_28 kc_0 (r_rz xc_119_29 xrt_119 ?_ ?_))) (fun hc25 => (r_aln xc_119_30 rfl (r_get xc_119_31 xf_119_55 g_6_26 (r_iln xc_119_34 rfl (r_lln xc_119_35 rfl (r_las xc_119_36 b_38 t_38 ?_ (r_ic xc_119_37 kc_1 (r_rz xc_119_38 xrt_119 ?_ ?_))))))))))))))))))
    · exact Or.inl rfl
    · exact absurd hc9 (by decide)
    · exact Or.inl rfl
    · rfl
    · exact Or.inl rfl
    · rfl
    all_goals
      rcases h2 with h | h
      · exact absurd h hc17
      · exact absurd h hc25
theorem M_amountM_y {u : Nat} {v : Int64} (hu : u < 8) (h1 : ¬ v < -1) (h2 : ¬ 100000000 < v) : p_M X 1 119 [.ref 22, .int (nI u), .long v] (hp z a w y g) (fun q => q = (.inl (some (.int (nI 1))), hp (u_ z 10 (nI 0)) a (u_ w 2 (vp_updL (w 2) u v)) y g)) := by
  refine (r_in xin_119 (r_aln xc_119_0 rfl (r_ic xc_119_1 kc_0 (r_put xc_119_2 xf_119_73 rfl s_6_4 (r_iln xc_119_5 rfl ?_)))))
  refine (r_cv xc_119_6 xm_119_6 rfl xrc_120 rfl (M_unitM hu) (r_zeq xc_119_9 xj_119_9 (fun hc9 => (r_ic xc_119_28 kc_0 (r_rz xc_119_29 xrt_119 ?_ ?_))) (fun hc9 => (r_lln xc_119_12 rfl (r_ldl xc_119_13 xl_119_71 (r_llt xc_119_16 xc_119_17 xj_119_17 (fun hc17 => (r_ic xc_119_28 kc_0 (r_rz xc_119_29 xrt_119 ?_ ?_))) (fun hc17 => (r_lln xc_119_20 rfl (r_ldl xc_119_21 xl_119_189 (r_lle xc_119_24 xc_119_25 xj_119_25 (fun hc25 => (r_ic xc_119_28 kc_0 (r_rz xc_119_29 xrt_119 ?_ ?_))) (fun hc25 => (r_aln xc_119_30 rfl (r_get xc_119_31 xf_119_55 g_6_26 (r_iln xc_119_34 rfl (r_lln xc_119_35 rfl (r_las xc_119_36 b_38 t_38 ?_ (r_ic xc_119_37 kc_1 (r_rz xc_119_38 xrt_119 ?_ ?_))))))))))))))))))
  · exact Or.inl rfl
  · exact absurd hc9 (by decide)
  · exact Or.inl rfl
  · exact absurd hc17 h1
  · exact Or.inl rfl
  · exact absurd hc25 h2
  · exact kI_in (by omega) (by omega)
  · exact Or.inr rfl
  · rw [kI_cl (by omega)]
/-! convert -/
theorem L_leads (hU : UNI a w A M G) {u : Nat} (hu : u < 8) {x1 : Int32} : ∀ k t v, t + k = 8 → v < 8 → cl M G k v ∨ k = 0 → p_E X 0 55 5 [some (.ref 13), some (.int x1), some (.int (nI u)), some (.int (nI v)), some (.int (nI t))] [] (hp z a w y g) (fun q => q = (.inl (some (.int (p_if (rl M G u k v) (nI 1) (nI 0)))), hp z a w y g)) := by
  intro k
  induction k with
  | zero =>
    intro t v ht hv _
    refine (r_il xc_55_5 rfl (r_bi xc_55_7 kb_8 (r_cge xc_55_9 xj_55_9 (fun hc9 => (r_iln xc_55_12 rfl (r_iln xc_55_13 rfl (r_ceq xc_55_14 xj_55_14 (fun hc14 => (r_iln xc_55_41 rfl (r_iln xc_55_42 rfl (r_cne xc_55_43 xj_55_43 (fun hc43 => (r_ic xc_55_46 kc_1 (r_go xc_55_47 xj_55_47 (r_rz xc_55_51 xrt_55 ?_ ?_)))) (fun hc43 => (r_ic xc_55_50 kc_0 (r_rz xc_55_51 xrt_55 ?_ ?_))))))) (fun hc14 => (r_aln xc_55_17 rfl (r_get xc_55_18 xf_55_19 g_3_2 (r_iln xc_55_21 rfl (r_ia xc_55_22 b_16 ?_ (r_zne xc_55_23 xj_55_23 (fun hc23 => (r_ic xc_55_26 kc_0 (r_rz xc_55_27 xrt_55 ?_ ?_))) (fun hc23 => (r_aln xc_55_28 rfl (r_get xc_55_29 xf_55_15 g_3_1 (r_iln xc_55_32 rfl (r_ia xc_55_33 b_15 ?_ (r_isn [_, _, _, _, _] xc_55_34 rfl rfl (r_inc [_, _, _, _, _] xc_55_35 rfl rfl (ki_1 _) rfl (r_go xc_55_38 xj_55_38 ?_)))))))))))))))))) (fun hc9 => (r_iln xc_55_41 rfl (r_iln xc_55_42 rfl (r_cne xc_55_43 xj_55_43 (fun hc43 => (r_ic xc_55_46 kc_1 (r_go xc_55_47 xj_55_47 (r_rz xc_55_51 xrt_55 ?_ ?_)))) (fun hc43 => (r_ic xc_55_50 kc_0 (r_rz xc_55_51 xrt_55 ?_ ?_))))))))))
    all_goals try (rw [kI_lt (by omega) (by omega)] at hc9; omega)
    · exact Or.inr rfl
    · rw [kI_inj (by omega) (by omega)] at hc43
      rw [p_if_t (show rl M G u 0 v from hc43)]
    · exact Or.inl rfl
    · rw [kI_inj (by omega) (by omega)] at hc43
      rw [p_if_f (show ¬ rl M G u 0 v from hc43)]
  | succ k ih =>
    intro t v ht hv hcl
    obtain ⟨u0, _, u10, _, u11, _, uA, uG, uM, _⟩ := hU v hv
    have c11 : a 11 (nI v).toNatClampNeg = nI (M v) := by rw [kI_cl (by omega)]; exact u11
    have c10 : a 10 (nI v).toNatClampNeg = nI (G v) := by rw [kI_cl (by omega)]; exact u10
    refine (r_il xc_55_5 rfl (r_bi xc_55_7 kb_8 (r_cge xc_55_9 xj_55_9 (fun hc9 => (r_iln xc_55_12 rfl (r_iln xc_55_13 rfl (r_ceq xc_55_14 xj_55_14 (fun hc14 => (r_iln xc_55_41 rfl (r_iln xc_55_42 rfl (r_cne xc_55_43 xj_55_43 (fun hc43 => (r_ic xc_55_46 kc_1 (r_go xc_55_47 xj_55_47 (r_rz xc_55_51 xrt_55 ?_ ?_)))) (fun hc43 => (r_ic xc_55_50 kc_0 (r_rz xc_55_51 xrt_55 ?_ ?_))))))) (fun hc14 => (r_aln xc_55_17 rfl (r_get xc_55_18 xf_55_19 g_3_2 (r_iln xc_55_21 rfl (r_ia xc_55_22 b_16 ?_ (r_zne xc_55_23 xj_55_23 (fun hc23 => (r_ic xc_55_26 kc_0 (r_rz xc_55_27 xrt_55 ?_ ?_))) (fun hc23 => (r_aln xc_55_28 rfl (r_get xc_55_29 xf_55_15 g_3_1 (r_iln xc_55_32 rfl (r_ia xc_55_33 b_15 ?_ (r_isn [_, _, _, _, _] xc_55_34 rfl rfl (r_inc [_, _, _, _, _] xc_55_35 rfl rfl (ki_1 _) rfl (r_go xc_55_38 xj_55_38 ?_)))))))))))))))))) (fun hc9 => (r_iln xc_55_41 rfl (r_iln xc_55_42 rfl (r_cne xc_55_43 xj_55_43 (fun hc43 => (r_ic xc_55_46 kc_1 (r_go xc_55_47 xj_55_47 (r_rz xc_55_51 xrt_55 ?_ ?_)))) (fun hc43 => (r_ic xc_55_50 kc_0 (r_rz xc_55_51 xrt_55 ?_ ?_))))))))))
    · exact Or.inr rfl
    · rw [kI_inj (by omega) (by omega)] at hc43
      rw [p_if_t (show rl M G u (k + 1) v from Or.inl hc43)]
    · exact Or.inl rfl
    · exact absurd hc14 hc43
    · exact kI_in (by omega) (by omega)
    · exact Or.inl rfl
    · rw [kI_inj (by omega) (by omega)] at hc14
      rw [c11, kI_inj (by omega) (by omega)] at hc23
      rw [p_if_f (show ¬ rl M G u (k + 1) v from by rintro (h | h); exact hc14 h; exact h.1 hc23)]
    · exact kI_in (by omega) (by omega)
    · rw [kI_inj (by omega) (by omega)] at hc14
      rw [c11, kI_inj (by omega) (by omega)] at hc23
      rw [c10, kI_add]
      have := ih (t + 1) (G v) (by omega) uG (by
        rcases hcl with h | h
        · rcases h with h | h
          · exact absurd h hc23
          · exact Or.inl h
        · omega)
      have e : rl M G u (k + 1) v ↔ rl M G u k (G v) := ⟨fun h => h.elim (fun h => absurd h hc14) (fun h => h.2), fun h => Or.inr ⟨hc23, h⟩⟩
      by_cases hr : rl M G u k (G v)
      · rw [p_if_t (e.mpr hr)]; rw [p_if_t hr] at this; exact this
      · rw [p_if_f (fun h => hr (e.mp h))]; rw [p_if_f hr] at this; exact this
    all_goals (rw [kI_lt (by omega) (by omega)] at hc9; omega)
theorem M_leads (hU : UNI a w A M G) {u v : Nat} (hu : u < 8) (hv : v < 8) : p_M X 0 55 [.ref 13, .int (nI v), .int (nI u)] (hp z a w y g) (fun q => q = (.inl (some (.int (p_if (rl M G u 8 v) (nI 1) (nI 0)))), hp z a w y g)) := by
  refine (r_in xin_55 (r_iln xc_55_0 rfl (r_isn [_, _, _, _, _] xc_55_1 rfl rfl (r_ic xc_55_2 kc_0 (r_is [_, _, _, _, _] xc_55_3 rfl rfl ?_)))))
  exact L_leads hU hu 8 0 v (by omega) hv (Or.inl (hU v hv).2.2.2.2.2.2.2.2.2)
end CALLS
