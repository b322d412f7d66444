/-! ===== the class's tree ===== -/
theorem up_s (f : Nat → Int32) (k : Nat) (x : Int32) : upd f k x k = x := if_pos rfl
theorem up_n (f : Nat → Int32) {k j : Nat} (x : Int32) (h : j ≠ k) : upd f k x j = f j := if_neg h
abbrev pV : Type := Int32 × Int32 × Int32 × Int32 × Int32 × Int32 × Int32
/-- a node of the class's tree -/
def nv (a : Nat → Nat → Int32) (i : Nat) : pV := (a 0 i, a 1 i, a 2 i, a 3 i, a 4 i, a 5 i, a 6 i)
def mv1 (x : Int32) : Int32 := if x = -1 then -1 else x + nI 1
def mvd (v : pV) : pV := (v.1, v.2.1, v.2.2.1, mv1 v.2.2.2.1, mv1 v.2.2.2.2.1, v.2.2.2.2.2.1, v.2.2.2.2.2.2)
section TREE
variable {X : pX} {d n p s i : Nat} {z : Nat → Int32} {a : Nat → Nat → Int32} {w : Nat → Nat → Int64} {y : Nat → Int64} {g : List pE}
theorem M_full_n (h1 : z 1 = nI s) (hs : s < 60) : p_M X 0 25 [.ref 1] (hp z a w y g) (fun q => q = (.inl (some (.int (nI 0))), hp z a w y g)) := by
  have := M_isFull (X := X) (z := z) (a := a) (w := w) (y := y) (g := g)
  rw [h1, if_pos ((kI_lt (by omega) (by omega)).mpr hs)] at this
  exact this
theorem M_full_y (h1 : z 1 = nI s) (hs : ¬ s < 60) (hs2 : s ≤ 60) : p_M X 0 25 [.ref 1] (hp z a w y g) (fun q => q = (.inl (some (.int (nI 1))), hp z a w y g)) := by
  have := M_isFull (X := X) (z := z) (a := a) (w := w) (y := y) (g := g)
  rw [h1, if_neg (fun h => hs ((kI_lt (by omega) (by omega)).mp h))] at this
  exact this
theorem M_has_y (h1 : z 1 = nI s) (hs : s ≤ 60) (hi : i < s) : p_M X 0 39 [.ref 1, .int (nI i)] (hp z a w y g) (fun q => q = (.inl (some (.int (nI 1))), hp z a w y g)) := by
  refine (r_in xin_39 (r_iln xc_39_0 rfl (r_zlt xc_39_1 xj_39_1 (fun hc1 => (r_ic xc_39_16 kc_0 (r_rz xc_39_17 xrt_39 ?_ ?_))) (fun hc1 => (r_iln xc_39_4 rfl (r_aln xc_39_5 rfl (r_get xc_39_6 xf_39_43 g_2_10 (r_cge xc_39_9 xj_39_9 (fun hc9 => (r_ic xc_39_12 kc_1 (r_go xc_39_13 xj_39_13 (r_rz xc_39_17 xrt_39 ?_ ?_)))) (fun hc9 => (r_ic xc_39_16 kc_0 (r_rz xc_39_17 xrt_39 ?_ ?_)))))))))))
  · exact Or.inl rfl
  · exact absurd hc1 (kI_neg (by omega))
  · exact Or.inr rfl
  · rfl
  · exact Or.inl rfl
  · rw [h1, kI_lt (by omega) (by omega)] at hc9; exact absurd hi hc9
theorem M_has_n {x : Int32} (h : x < nI 0 ∨ ¬ x < z 1) : p_M X 0 39 [.ref 1, .int x] (hp z a w y g) (fun q => q = (.inl (some (.int (nI 0))), hp z a w y g)) := by
  refine (r_in xin_39 (r_iln xc_39_0 rfl (r_zlt xc_39_1 xj_39_1 (fun hc1 => (r_ic xc_39_16 kc_0 (r_rz xc_39_17 xrt_39 ?_ ?_))) (fun hc1 => (r_iln xc_39_4 rfl (r_aln xc_39_5 rfl (r_get xc_39_6 xf_39_43 g_2_10 (r_cge xc_39_9 xj_39_9 (fun hc9 => (r_ic xc_39_12 kc_1 (r_go xc_39_13 xj_39_13 (r_rz xc_39_17 xrt_39 ?_ ?_)))) (fun hc9 => (r_ic xc_39_16 kc_0 (r_rz xc_39_17 xrt_39 ?_ ?_)))))))))))
  · exact Or.inl rfl
  · rfl
  · exact Or.inr rfl
  · rcases h with h | h
    · exact absurd h hc1
    · exact absurd hc9 h
  · exact Or.inl rfl
  · rfl
theorem M_setNumber {x : Int32} (h1 : z 1 = nI s) (hs : s ≤ 60) (hi : i < s) : p_M X 1 42 [.ref 1, .int (nI i), .int x] (hp z a w y g) (fun q => q = (.inl none, hp z (u_ a 1 (upd (a 1) i x)) w y g)) := by
  refine (r_in xin_42 (r_aln xc_42_0 rfl (r_iln xc_42_1 rfl ?_)))
  refine (r_cv xc_42_2 xm_42_2 rfl xrc_39 rfl (M_has_y h1 hs hi) (r_zeq xc_42_5 xj_42_5 (fun hc5 => (r_r0 xc_42_15 xrt_42 ?_)) (fun hc5 => (r_aln xc_42_8 rfl (r_get xc_42_9 xf_42_15 g_2_1 (r_iln xc_42_12 rfl (r_iln xc_42_13 rfl (r_ias xc_42_14 b_3 t_3 ?_ (r_r0 xc_42_15 xrt_42 ?_)))))))))
  · exact absurd hc5 (by decide)
  · exact kI_in (by omega) (by omega)
  · rw [kI_cl (by omega)]
theorem M_setSides {x x2 : Int32} (h1 : z 1 = nI s) (hs : s ≤ 60) (hi : i < s) : p_M X 1 38 [.ref 1, .int (nI i), .int x, .int x2] (hp z a w y g) (fun q => q = (.inl none, hp z (u_ (u_ a 3 (upd (a 3) i x)) 4 (upd (a 4) i x2)) w y g)) := by
  refine (r_in xin_38 (r_aln xc_38_0 rfl (r_iln xc_38_1 rfl ?_)))
  refine (r_cv xc_38_2 xm_38_2 rfl xrc_39 rfl (M_has_y h1 hs hi) (r_zeq xc_38_5 xj_38_5 (fun hc5 => (r_r0 xc_38_22 xrt_38 ?_)) (fun hc5 => (r_aln xc_38_8 rfl (r_get xc_38_9 xf_38_21 g_2_3 (r_iln xc_38_12 rfl (r_iln xc_38_13 rfl (r_ias xc_38_14 b_5 t_5 ?_ (r_aln xc_38_15 rfl (r_get xc_38_16 xf_38_24 g_2_4 (r_iln xc_38_19 rfl (r_iln xc_38_20 rfl (r_ias xc_38_21 b_6 t_6 ?_ (r_r0 xc_38_22 xrt_38 ?_))))))))))))))
  · exact absurd hc5 (by decide)
  · exact kI_in (by omega) (by omega)
  · exact kI_in (by omega) (by omega)
  · rw [kI_cl (by omega)]; rfl
theorem M_max {x x2 : Int32} : p_M X 0 19 [.int x, .int x2] (hp z a w y g) (fun q => q = (.inl (some (.int (if x < x2 then x2 else x))), hp z a w y g)) := by
  refine (r_in xin_19 (r_iln xc_19_0 rfl (r_iln xc_19_1 rfl (r_clt xc_19_2 xj_19_2 (fun hc2 => (r_iln xc_19_9 rfl (r_ri xc_19_10 xrt_19 ?_))) (fun hc2 => (r_iln xc_19_5 rfl (r_go xc_19_6 xj_19_6 (r_ri xc_19_10 xrt_19 ?_))))))))
  · rw [if_pos hc2]
  · rw [if_neg hc2]
theorem M_reachDeep {x : Int32} : p_M X 1 18 [.ref 1, .int x] (hp z a w y g) (fun q => q = (.inl none, hp (u_ z 2 (if z 2 < x then x else z 2)) a w y g)) := by
  refine (r_in xin_18 (r_aln xc_18_0 rfl (r_aln xc_18_1 rfl (r_get xc_18_2 xf_18_46 g_2_11 (r_iln xc_18_5 rfl ?_)))))
  refine (r_cv xc_18_6 xm_18_6 rfl xrc_19 rfl (M_max) (r_put xc_18_9 xf_18_46 rfl s_2_11 (r_r0 xc_18_12 xrt_18 ?_)))
  rfl
theorem M_setNode {k x u : Int32} (hi : i < 60) : p_M X 0 27 [.ref 1, .int (nI i), .int k, .int x, .int u] (hp z a w y g) (fun q => ∃ a', q = (.inl none, hp z a' w y g) ∧ (∀ j, 7 ≤ j → a' j = a j) ∧ (∀ j, j ≠ i → nv a' j = nv a j) ∧ nv a' i = (k, x, u, -1, -1, nI 0, nI 0)) := by
  refine (r_in xin_27 (r_aln xc_27_0 rfl (r_get xc_27_1 xf_27_9 g_2_0 (r_iln xc_27_4 rfl (r_iln xc_27_5 rfl (r_ias xc_27_6 b_2 t_2 ?_ (r_aln xc_27_7 rfl (r_get xc_27_8 xf_27_15 g_2_1 (r_iln xc_27_11 rfl (r_iln xc_27_12 rfl (r_ias xc_27_13 b_3 t_3 ?_ (r_aln xc_27_14 rfl (r_get xc_27_15 xf_27_18 g_2_2 (r_iln xc_27_18 rfl (r_il xc_27_19 rfl (r_ias xc_27_21 b_4 t_4 ?_ (r_aln xc_27_22 rfl (r_get xc_27_23 xf_27_21 g_2_3 (r_iln xc_27_26 rfl (r_ic xc_27_27 kc_m1 (r_ias xc_27_28 b_5 t_5 ?_ (r_aln xc_27_29 rfl (r_get xc_27_30 xf_27_24 g_2_4 (r_iln xc_27_33 rfl (r_ic xc_27_34 kc_m1 (r_ias xc_27_35 b_6 t_6 ?_ (r_aln xc_27_36 rfl (r_get xc_27_37 xf_27_27 g_2_5 (r_iln xc_27_40 rfl (r_ic xc_27_41 kc_0 (r_ias xc_27_42 b_7 t_7 ?_ (r_aln xc_27_43 rfl (r_get xc_27_44 xf_27_30 g_2_6 (r_iln xc_27_47 rfl (r_ic xc_27_48 kc_0 (r_ias xc_27_49 b_8 t_8 ?_ (r_r0 xc_27_50 xrt_27 ?_)))))))))))))))))))))))))))))))))))))
  · exact kI_in (by omega) (by omega)
  · exact kI_in (by omega) (by omega)
  · exact kI_in (by omega) (by omega)
  · exact kI_in (by omega) (by omega)
  · exact kI_in (by omega) (by omega)
  · exact kI_in (by omega) (by omega)
  · exact kI_in (by omega) (by omega)
  · rw [kI_cl (by omega)]
    refine ⟨_, rfl, fun j hj => ?_, fun j hj => ?_, ?_⟩
    · rw [u_n _ _ (by omega), u_n _ _ (by omega), u_n _ _ (by omega), u_n _ _ (by omega), u_n _ _ (by omega), u_n _ _ (by omega), u_n _ _ (by omega)]
    · show (upd (a 0) i k j, upd (a 1) i x j, upd (a 2) i u j, upd (a 3) i (-1) j, upd (a 4) i (-1) j, upd (a 5) i (nI 0) j, upd (a 6) i (nI 0) j) = _
      rw [up_n _ _ hj, up_n _ _ hj, up_n _ _ hj, up_n _ _ hj, up_n _ _ hj, up_n _ _ hj, up_n _ _ hj]
      rfl
    · show (upd (a 0) i k i, upd (a 1) i x i, upd (a 2) i u i, upd (a 3) i (-1) i, upd (a 4) i (-1) i, upd (a 5) i (nI 0) i, upd (a 6) i (nI 0) i) = _
      rw [up_s, up_s, up_s, up_s, up_s, up_s, up_s]
theorem M_addNode {k x u : Int32} (h1 : z 1 = nI s) (hs : s < 60) : p_M X 1 26 [.ref 1, .int k, .int x, .int u] (hp z a w y g) (fun q => ∃ a', q = (.inl (some (.int (nI s))), hp (u_ z 1 (nI (s + 1))) a' w y g) ∧ (∀ j, 7 ≤ j → a' j = a j) ∧ (∀ j, j ≠ s → nv a' j = nv a j) ∧ nv a' s = (k, x, u, -1, -1, nI 0, nI 0)) := by
  refine (r_in xin_26 (r_aln xc_26_0 rfl ?_))
  refine (r_cv xc_26_1 xm_26_1 rfl xrc_25 rfl (M_full_n h1 hs) (r_zeq xc_26_4 xj_26_4 (fun hc4 => (r_aln xc_26_9 rfl (r_get xc_26_10 xf_26_43 g_2_10 (r_is [_, _, _, _, _] xc_26_13 rfl rfl (r_aln xc_26_15 rfl (r_dup xc_26_16 rfl (r_get xc_26_17 xf_26_43 g_2_10 (r_ic xc_26_20 kc_1 (r_iadd xc_26_21 (r_put xc_26_22 xf_26_43 rfl s_2_10 (r_aln xc_26_25 rfl (r_il xc_26_26 rfl (r_iln xc_26_28 rfl (r_iln xc_26_29 rfl (r_iln xc_26_30 rfl ?_))))))))))))))) (fun hc4 => (r_ic xc_26_7 kc_m1 (r_ri xc_26_8 xrt_26 ?_)))))
  · rw [h1, kI_add]
    refine (r_cq xc_26_31 xm_26_31 rfl xrc_27 rfl (M_setNode hs) (fun v h1 hP => ?_) (fun _ _ h => by first | (obtain ⟨_, he, _⟩ := h; cases he; done) | (obtain ⟨_, he⟩ := h; cases he; done) | (obtain ⟨_, _, he, _⟩ := h; cases he; done) | (obtain ⟨_, _, _, he, _⟩ := h; cases he; done) | (simp only [Prod.mk.injEq, reduceCtorEq, false_and, exists_false] at h)))
    obtain ⟨a', he, e1, e2, e3⟩ := hP
    cases he
    refine (r_il xc_26_34 rfl (r_ri xc_26_36 xrt_26 ?_))
    exact ⟨a', rfl, e1, e2, e3⟩
  · exact absurd hc4 (by decide)
/-- moveBack -/
theorem L_mb95 {x : Int32} (hi : i < 59) : p_E X 0 47 95 [some (.ref 1), some (.int (nI (i + 1))), some (.int (nI i))] [.int x, .int (nI (i + 1)), .ref 6] (hp z a w y g) (fun q => q = (.inl none, hp z (u_ (u_ (u_ a 4 (upd (a 4) (i + 1) x)) 5 (upd (a 5) (i + 1) (a 5 i))) 6 (upd (a 6) (i + 1) (a 6 i))) w y g)) := by
  refine (r_ias xc_47_95 b_6 t_6 ?_ (r_aln xc_47_96 rfl (r_get xc_47_97 xf_47_27 g_2_5 (r_iln xc_47_100 rfl (r_aln xc_47_101 rfl (r_get xc_47_102 xf_47_27 g_2_5 (r_iln xc_47_105 rfl (r_ia xc_47_106 b_7 ?_ (r_ias xc_47_107 b_7 t_7 ?_ (r_aln xc_47_108 rfl (r_get xc_47_109 xf_47_30 g_2_6 (r_iln xc_47_112 rfl (r_aln xc_47_113 rfl (r_get xc_47_114 xf_47_30 g_2_6 (r_iln xc_47_117 rfl (r_ia xc_47_118 b_8 ?_ (r_ias xc_47_119 b_8 t_8 ?_ (r_r0 xc_47_120 xrt_47 ?_))))))))))))))))))
  · exact kI_in (by omega) (by omega)
  · exact kI_in (by omega) (by omega)
  · exact kI_in (by omega) (by omega)
  · exact kI_in (by omega) (by omega)
  · exact kI_in (by omega) (by omega)
  · rw [kI_cl (by omega), kI_cl (by omega)]; rfl
theorem L_mb67 {x : Int32} (hi : i < 59) : p_E X 0 47 67 [some (.ref 1), some (.int (nI (i + 1))), some (.int (nI i))] [.int x, .int (nI (i + 1)), .ref 5] (hp z a w y g) (fun q => q = (.inl none, hp z (u_ (u_ (u_ (u_ a 3 (upd (a 3) (i + 1) x)) 4 (upd (a 4) (i + 1) (mv1 (a 4 i)))) 5 (upd (a 5) (i + 1) (a 5 i))) 6 (upd (a 6) (i + 1) (a 6 i))) w y g)) := by
  refine (r_ias xc_47_67 b_5 t_5 ?_ (r_aln xc_47_68 rfl (r_get xc_47_69 xf_47_24 g_2_4 (r_iln xc_47_72 rfl (r_aln xc_47_73 rfl (r_get xc_47_74 xf_47_24 g_2_4 (r_iln xc_47_77 rfl (r_ia xc_47_78 b_6 ?_ (r_ic xc_47_79 kc_m1 (r_cne xc_47_80 xj_47_80 (fun hc80 => (r_ic xc_47_83 kc_m1 (r_go xc_47_84 xj_47_84 ?_))) (fun hc80 => (r_aln xc_47_87 rfl (r_get xc_47_88 xf_47_24 g_2_4 (r_iln xc_47_91 rfl (r_ia xc_47_92 b_6 ?_ (r_ic xc_47_93 kc_1 (r_iadd xc_47_94 ?_)))))))))))))))))
  · exact kI_in (by omega) (by omega)
  · exact kI_in (by omega) (by omega)
  · refine (L_mb95 hi).mono (fun q hq => ?_)
    rw [hq, kI_cl (by omega)]
    have e : mv1 (a 4 i) = -1 := by have hc80 : a 4 (nI i).toNatClampNeg = -1 := hc80; rw [kI_cl (by omega)] at hc80; exact if_pos hc80
    rw [e]; rfl
  · exact kI_in (by omega) (by omega)
  · refine (L_mb95 hi).mono (fun q hq => ?_)
    rw [hq, kI_cl (by omega), kI_cl (by omega)]
    have e : mv1 (a 4 i) = a 4 i + nI 1 := by have hc80 : ¬ a 4 (nI i).toNatClampNeg = -1 := hc80; rw [kI_cl (by omega)] at hc80; exact if_neg hc80
    rw [e]; rfl
theorem M_moveBack (hi : i < 59) : p_M X 0 47 [.ref 1, .int (nI (i + 1))] (hp z a w y g) (fun q => ∃ a', q = (.inl none, hp z a' w y g) ∧ (∀ j, 7 ≤ j → a' j = a j) ∧ (∀ j, j ≠ i + 1 → nv a' j = nv a j) ∧ nv a' (i + 1) = mvd (nv a i)) := by
  have key : ∀ x, x = mv1 (a 3 i) → p_E X 0 47 67 [some (.ref 1), some (.int (nI (i + 1))), some (.int (nI i))] [.int x, .int (nI (i + 1)), .ref 5] (hp z (u_ (u_ (u_ a 0 (upd (a 0) (i + 1) (a 0 i))) 1 (upd (a 1) (i + 1) (a 1 i))) 2 (upd (a 2) (i + 1) (a 2 i))) w y g) (fun q => ∃ a', q = (.inl none, hp z a' w y g) ∧ (∀ j, 7 ≤ j → a' j = a j) ∧ (∀ j, j ≠ i + 1 → nv a' j = nv a j) ∧ nv a' (i + 1) = mvd (nv a i)) := by
    intro x hx
    refine (L_mb67 hi).mono (fun q hq => ⟨_, hq, fun j hj => ?_, fun j hj => ?_, ?_⟩)
    · rw [u_n _ _ (by omega), u_n _ _ (by omega), u_n _ _ (by omega), u_n _ _ (by omega), u_n _ _ (by omega), u_n _ _ (by omega), u_n _ _ (by omega)]
    · show (upd (a 0) (i + 1) (a 0 i) j, upd (a 1) (i + 1) (a 1 i) j, upd (a 2) (i + 1) (a 2 i) j, upd (a 3) (i + 1) x j, upd (a 4) (i + 1) (mv1 (a 4 i)) j, upd (a 5) (i + 1) (a 5 i) j, upd (a 6) (i + 1) (a 6 i) j) = _
      rw [up_n _ _ hj, up_n _ _ hj, up_n _ _ hj, up_n _ _ hj, up_n _ _ hj, up_n _ _ hj, up_n _ _ hj]
      rfl
    · show (upd (a 0) (i + 1) (a 0 i) (i + 1), upd (a 1) (i + 1) (a 1 i) (i + 1), upd (a 2) (i + 1) (a 2 i) (i + 1), upd (a 3) (i + 1) x (i + 1), upd (a 4) (i + 1) (mv1 (a 4 i)) (i + 1), upd (a 5) (i + 1) (a 5 i) (i + 1), upd (a 6) (i + 1) (a 6 i) (i + 1)) = _
      rw [up_s, up_s, up_s, up_s, up_s, up_s, up_s, hx]
      rfl
  have e0 : nI (i + 1) - nI 1 = nI i := by rw [kI_sub (by omega)]; rfl
  refine (r_in xin_47 (r_iln xc_47_0 rfl (r_ic xc_47_1 kc_1 (r_isub xc_47_2 (r_isn [_, _, _] xc_47_3 rfl rfl (r_aln xc_47_4 rfl (r_get xc_47_5 xf_47_9 g_2_0 (r_iln xc_47_8 rfl (r_aln xc_47_9 rfl (r_get xc_47_10 xf_47_9 g_2_0 (r_iln xc_47_13 rfl (r_ia xc_47_14 b_2 ?_ (r_ias xc_47_15 b_2 t_2 ?_ (r_aln xc_47_16 rfl (r_get xc_47_17 xf_47_15 g_2_1 (r_iln xc_47_20 rfl (r_aln xc_47_21 rfl (r_get xc_47_22 xf_47_15 g_2_1 (r_iln xc_47_25 rfl (r_ia xc_47_26 b_3 ?_ (r_ias xc_47_27 b_3 t_3 ?_ (r_aln xc_47_28 rfl (r_get xc_47_29 xf_47_18 g_2_2 (r_iln xc_47_32 rfl (r_aln xc_47_33 rfl (r_get xc_47_34 xf_47_18 g_2_2 (r_iln xc_47_37 rfl (r_ia xc_47_38 b_4 ?_ (r_ias xc_47_39 b_4 t_4 ?_ (r_aln xc_47_40 rfl (r_get xc_47_41 xf_47_21 g_2_3 (r_iln xc_47_44 rfl (r_aln xc_47_45 rfl (r_get xc_47_46 xf_47_21 g_2_3 (r_iln xc_47_49 rfl (r_ia xc_47_50 b_5 ?_ (r_ic xc_47_51 kc_m1 (r_cne xc_47_52 xj_47_52 (fun hc52 => (r_ic xc_47_55 kc_m1 (r_go xc_47_56 xj_47_56 ?_))) (fun hc52 => (r_aln xc_47_59 rfl (r_get xc_47_60 xf_47_21 g_2_3 (r_iln xc_47_63 rfl (r_ia xc_47_64 b_5 ?_ (r_ic xc_47_65 kc_1 (r_iadd xc_47_66 ?_)))))))))))))))))))))))))))))))))))))))))))))
  · rw [e0]; exact kI_in (by omega) (by omega)
  · exact kI_in (by omega) (by omega)
  · rw [e0]; exact kI_in (by omega) (by omega)
  · exact kI_in (by omega) (by omega)
  · rw [e0]; exact kI_in (by omega) (by omega)
  · exact kI_in (by omega) (by omega)
  · rw [e0]; exact kI_in (by omega) (by omega)
  · have hc52 : a 3 (nI (i + 1) - nI 1).toNatClampNeg = -1 := hc52
    rw [e0, kI_cl (by omega)] at hc52
    rw [e0, kI_cl (by omega), kI_cl (by omega)]
    exact key _ (if_pos hc52).symm
  · rw [e0]; exact kI_in (by omega) (by omega)
  · have hc52 : ¬ a 3 (nI (i + 1) - nI 1).toNatClampNeg = -1 := hc52
    rw [e0, kI_cl (by omega)] at hc52
    rw [e0, kI_cl (by omega), kI_cl (by omega)]
    exact key (a 3 i + nI 1) (if_neg hc52).symm
/-- the shift of all nodes from first on -/
theorem L_pa {k : Int32} {f : Nat} (h1 : z 1 = nI s) (hs : s < 60) (hf : f ≤ s) : ∀ m b, f + m ≤ s → (∀ j, 7 ≤ j → b j = a j) → (∀ j, j ≤ f + m → nv b j = nv a j) → (∀ j, f + m ≤ j → j < s → nv b (j + 1) = mvd (nv a j)) →
    p_E X 1 46 21 [some (.ref 1), some (.int (nI f)), some (.int k), some (.int (nI (f + m)))] [] (hp z b w y g) (fun q => ∃ a', q = (.inl none, hp (u_ z 1 (nI (s + 1))) a' w y g) ∧ (∀ j, 7 ≤ j → a' j = a j) ∧ (∀ j, j < f → nv a' j = nv a j) ∧ nv a' f = (k, nI 0, -1, -1, -1, nI 0, nI 0) ∧ (∀ j, f ≤ j → j < s → nv a' (j + 1) = mvd (nv a j))) := by
  intro m
  induction m with
  | zero =>
    intro b hm q1 q2 q3
    have hc : ¬ nI f < nI (f + 0) := by rw [kI_lt (by omega) (by omega)]; omega
    refine (r_iln xc_46_21 rfl (r_iln xc_46_22 rfl (r_cle xc_46_23 xj_46_23 (fun hc23 => (r_aln xc_46_26 rfl (r_iln xc_46_27 rfl ?_))) (fun hc23 => (r_aln xc_46_37 rfl (r_dup xc_46_38 rfl (r_get xc_46_39 xf_46_43 g_2_10 (r_ic xc_46_42 kc_1 (r_iadd xc_46_43 (r_put xc_46_44 xf_46_43 rfl s_2_10 (r_aln xc_46_47 rfl (r_iln xc_46_48 rfl (r_iln xc_46_49 rfl (r_ic xc_46_50 kc_0 (r_ic xc_46_51 kc_m1 ?_)))))))))))))))
    · exact absurd hc23 hc
    · rw [h1, kI_add]
      refine (r_cq xc_46_52 xm_46_52 rfl xrc_27 rfl ((M_setNode (by omega)).up (by omega)) (fun v h1 hP => ?_) (fun _ _ h => by first | (obtain ⟨_, he, _⟩ := h; cases he; done) | (obtain ⟨_, he⟩ := h; cases he; done) | (obtain ⟨_, _, he, _⟩ := h; cases he; done) | (obtain ⟨_, _, _, he, _⟩ := h; cases he; done) | (simp only [Prod.mk.injEq, reduceCtorEq, false_and, exists_false] at h)))
      obtain ⟨a', he, e1, e2, e3⟩ := hP
      cases he
      refine (r_r0 xc_46_55 xrt_46 ?_)
      refine ⟨a', rfl, fun j hj => by rw [e1 j hj, q1 j hj], fun j hj => by rw [e2 j (by omega), q2 j (by omega)], e3, fun j hj1 hj2 => ?_⟩
      rw [e2 (j + 1) (by omega), q3 j (by omega) hj2]
  | succ m ih =>
    intro b hm q1 q2 q3
    have hc : nI f < nI (f + (m + 1)) := by rw [kI_lt (by omega) (by omega)]; omega
    refine (r_iln xc_46_21 rfl (r_iln xc_46_22 rfl (r_cle xc_46_23 xj_46_23 (fun hc23 => (r_aln xc_46_26 rfl (r_iln xc_46_27 rfl ?_))) (fun hc23 => (r_aln xc_46_37 rfl (r_dup xc_46_38 rfl (r_get xc_46_39 xf_46_43 g_2_10 (r_ic xc_46_42 kc_1 (r_iadd xc_46_43 (r_put xc_46_44 xf_46_43 rfl s_2_10 (r_aln xc_46_47 rfl (r_iln xc_46_48 rfl (r_iln xc_46_49 rfl (r_ic xc_46_50 kc_0 (r_ic xc_46_51 kc_m1 ?_)))))))))))))))
    · refine (r_cq xc_46_28 xm_46_28 rfl xrc_47 rfl ((M_moveBack (i := f + m) (by omega)).up (by omega)) (fun v h1 hP => ?_) (fun _ _ h => by first | (obtain ⟨_, he, _⟩ := h; cases he; done) | (obtain ⟨_, he⟩ := h; cases he; done) | (obtain ⟨_, _, he, _⟩ := h; cases he; done) | (obtain ⟨_, _, _, he, _⟩ := h; cases he; done) | (simp only [Prod.mk.injEq, reduceCtorEq, false_and, exists_false] at h)))
      obtain ⟨a', he, e1, e2, e3⟩ := hP
      cases he
      refine (r_inc [_, _, _, _] xc_46_31 rfl rfl (ki_m1 _) rfl (r_go xc_46_34 xj_46_34 ?_))
      have e0 : nI (f + (m + 1)) - nI 1 = nI (f + m) := by rw [kI_sub (by omega)]; rfl
      rw [e0]
      refine ih a' (by omega) (fun j hj => by rw [e1 j hj, q1 j hj]) (fun j hj => by rw [e2 j (by omega), q2 j (by omega)]) (fun j hj1 hj2 => ?_)
      by_cases hj : j = f + m
      · subst hj; rw [e3, q2 _ (by omega)]
      · rw [e2 (j + 1) (by omega), q3 j (by omega) hj2]
    · exact absurd hc hc23
theorem M_putAhead {k : Int32} {f : Nat} (h1 : z 1 = nI s) (hs : s < 60) (hf : f < s) : p_M X 1 46 [.ref 1, .int (nI f), .int k] (hp z a w y g) (fun q => ∃ a', q = (.inl none, hp (u_ z 1 (nI (s + 1))) a' w y g) ∧ (∀ j, 7 ≤ j → a' j = a j) ∧ (∀ j, j < f → nv a' j = nv a j) ∧ nv a' f = (k, nI 0, -1, -1, -1, nI 0, nI 0) ∧ (∀ j, f ≤ j → j < s → nv a' (j + 1) = mvd (nv a j))) := by
  refine (r_in xin_46 (r_aln xc_46_0 rfl ?_))
  refine (r_cv xc_46_1 xm_46_1 rfl xrc_25 rfl (M_full_n h1 hs) (r_zne xc_46_4 xj_46_4 (fun hc4 => (r_aln xc_46_7 rfl (r_iln xc_46_8 rfl ?_))) (fun hc4 => (r_r0 xc_46_15 xrt_46 ?_))))
  · refine (r_cv xc_46_9 xm_46_9 rfl xrc_39 rfl (M_has_y h1 (by omega) hf) (r_zne xc_46_12 xj_46_12 (fun hc12 => (r_r0 xc_46_15 xrt_46 ?_)) (fun hc12 => (r_aln xc_46_16 rfl (r_get xc_46_17 xf_46_43 g_2_10 (r_isn [_, _, _, _] xc_46_20 rfl rfl ?_))))))
    · exact absurd hc12 (by decide)
    · rw [h1]
      have := L_pa (X := X) (a := a) (w := w) (y := y) (g := g) (k := k) h1 hs (Nat.le_of_lt hf) (s - f) a (by omega) (fun _ _ => rfl) (fun _ _ => rfl) (fun j _ _ => by omega)
      rw [show f + (s - f) = s by omega] at this
      exact this
  · exact absurd hc4 (by decide)
/-- addRow -/
theorem M_addRow {x x2 : Int32} {r : Nat} (h0 : z 0 = nI r) (hr : r < 300) (h1 : z 1 = nI s) (hs : s ≤ 60) (hi : i < s) : p_M X 1 44 [.ref 1, .int (nI i), .int x, .int x2] (hp z a w y g) (fun q => q = (.inl none, hp (u_ z 0 (nI (r + 1))) (u_ (u_ (u_ (if a 6 i = nI 0 then u_ a 5 (upd (a 5) i (nI r)) else a) 7 (upd (a 7) r x)) 8 (upd (a 8) r x2)) 6 (upd (a 6) i (a 6 i + nI 1))) w y g)) := by
  refine (r_in xin_44 (r_aln xc_44_0 rfl (r_iln xc_44_1 rfl ?_)))
  refine (r_cv xc_44_2 xm_44_2 rfl xrc_39 rfl (M_has_y h1 hs hi) (r_zeq xc_44_5 xj_44_5 (fun hc5 => (r_r0 xc_44_18 xrt_44 ?_)) (fun hc5 => (r_aln xc_44_8 rfl (r_get xc_44_9 xf_44_39 g_2_9 (r_si xc_44_12 ks_300 (r_clt xc_44_15 xj_44_15 (fun hc15 => (r_aln xc_44_19 rfl (r_get xc_44_20 xf_44_30 g_2_6 (r_iln xc_44_23 rfl (r_ia xc_44_24 b_8 ?_ (r_zne xc_44_25 xj_44_25 (fun hc25 => (r_aln xc_44_28 rfl (r_get xc_44_29 xf_44_27 g_2_5 (r_iln xc_44_32 rfl (r_aln xc_44_33 rfl (r_get xc_44_34 xf_44_39 g_2_9 (r_ias xc_44_37 b_7 t_7 ?_ (r_aln xc_44_38 rfl (r_get xc_44_39 xf_44_33 g_2_7 (r_aln xc_44_42 rfl (r_get xc_44_43 xf_44_39 g_2_9 (r_iln xc_44_46 rfl (r_ias xc_44_47 b_9 t_9 ?_ (r_aln xc_44_48 rfl (r_get xc_44_49 xf_44_36 g_2_8 (r_aln xc_44_52 rfl (r_get xc_44_53 xf_44_39 g_2_9 (r_iln xc_44_56 rfl (r_ias xc_44_57 b_10 t_10 ?_ (r_aln xc_44_58 rfl (r_dup xc_44_59 rfl (r_get xc_44_60 xf_44_39 g_2_9 (r_ic xc_44_63 kc_1 (r_iadd xc_44_64 (r_put xc_44_65 xf_44_39 rfl s_2_9 (r_aln xc_44_68 rfl (r_get xc_44_69 xf_44_30 g_2_6 (r_iln xc_44_72 rfl (r_dup2 xc_44_73 rfl ⟨rfl, rfl⟩ (r_ia xc_44_74 b_8 ?_ (r_ic xc_44_75 kc_1 (r_iadd xc_44_76 (r_ias xc_44_77 b_8 t_8 ?_ (r_r0 xc_44_78 xrt_44 ?_)))))))))))))))))))))))))))))))))) (fun hc25 => (r_aln xc_44_38 rfl (r_get xc_44_39 xf_44_33 g_2_7 (r_aln xc_44_42 rfl (r_get xc_44_43 xf_44_39 g_2_9 (r_iln xc_44_46 rfl (r_ias xc_44_47 b_9 t_9 ?_ (r_aln xc_44_48 rfl (r_get xc_44_49 xf_44_36 g_2_8 (r_aln xc_44_52 rfl (r_get xc_44_53 xf_44_39 g_2_9 (r_iln xc_44_56 rfl (r_ias xc_44_57 b_10 t_10 ?_ (r_aln xc_44_58 rfl (r_dup xc_44_59 rfl (r_get xc_44_60 xf_44_39 g_2_9 (r_ic xc_44_63 kc_1 (r_iadd xc_44_64 (r_put xc_44_65 xf_44_39 rfl s_2_9 (r_aln xc_44_68 rfl (r_get xc_44_69 xf_44_30 g_2_6 (r_iln xc_44_72 rfl (r_dup2 xc_44_73 rfl ⟨rfl, rfl⟩ (r_ia xc_44_74 b_8 ?_ (r_ic xc_44_75 kc_1 (r_iadd xc_44_76 (r_ias xc_44_77 b_8 t_8 ?_ (r_r0 xc_44_78 xrt_44 ?_)))))))))))))))))))))))))))))))))) (fun hc15 => (r_r0 xc_44_18 xrt_44 ?_)))))))))
  · exact absurd hc5 (by decide)
  · exact kI_in (by omega) (by omega)
  · exact kI_in (by omega) (by omega)
  · rw [h0]; exact kI_in (by omega) (by omega)
  · rw [h0]; exact kI_in (by omega) (by omega)
  · exact kI_in (by omega) (by omega)
  · exact kI_in (by omega) (by omega)
  · rw [kI_cl (by omega)] at hc25
    rw [if_pos hc25, kI_cl (by omega), h0, kI_cl (by omega), kI_add]
    rfl
  · rw [h0]; exact kI_in (by omega) (by omega)
  · rw [h0]; exact kI_in (by omega) (by omega)
  · exact kI_in (by omega) (by omega)
  · exact kI_in (by omega) (by omega)
  · rw [kI_cl (by omega)] at hc25
    rw [if_neg hc25, kI_cl (by omega), h0, kI_cl (by omega), kI_add]
    rfl
  · rw [h0] at hc15; exact absurd ((kI_lt (by omega) (by omega)).mpr hr) hc15
end TREE
