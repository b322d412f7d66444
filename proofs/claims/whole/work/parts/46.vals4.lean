/-! ===== the class: all values; what throws ===== -/
theorem UNI.congr {a a0 : Nat → Nat → Int32} {w w0 : Nat → Nat → Int64} {A : Nat → Option Nat} {M G : Nat → Nat} (h : UNI a0 w0 A M G) (ha : ∀ j, j = 10 ∨ j = 11 ∨ j = 29 ∨ j = 30 → a j = a0 j) (hw : ∀ j, j = 0 ∨ j = 2 → w j = w0 j) : UNI a w A M G := by
  intro u hu
  rw [ha 10 (by omega), ha 11 (by omega), ha 29 (by omega), ha 30 (by omega), hw 0 (by omega), hw 2 (by omega)]
  exact h u hu
theorem rp.congr {a a0 : Nat → Nat → Int32} {r i : Nat} {v : pN} (h : rp a0 r i v) (ha : ∀ j, j < 9 → a j = a0 j) : rp a r i v := by
  unfold rp
  rw [ha 0 (by omega), ha 1 (by omega), ha 2 (by omega), ha 3 (by omega), ha 4 (by omega), ha 5 (by omega), ha 6 (by omega), ha 7 (by omega), ha 8 (by omega)]
  exact h
section VALS4
variable {X : pX} {z : Nat → Int32} {y : Nat → Int64} {g : List pE} {A : Nat → Option Nat} {M G : Nat → Nat} {ns : List pN} {pc : Nat}
def uV (num : Nat) (o : Option Nat) : Option Int64 := (match o with
  | some x => if x ≤ 100000000 then some x else none
  | none => none).map (fun x => nL num * nL x)
theorem M_wUnits2 {a : Nat → Nat → Int32} {w : Nat → Nat → Int64} {i num : Nat} {o : Option Nat} (hi : i < 60) (ho : ∀ x, o = some x → x < 9223372036854775808) : p_M X 0 66 [.ref 17, .int (nI i), .long (nL num), .long (aL o)] (hp z a w y g) (fun q => ∃ a' w', q = (.inl none, hp z a' w' y g) ∧ (∀ j, j ≠ 12 → a' j = a j) ∧ (∀ j, j ≠ 1 → w' j = w j) ∧ (∀ j, j ≠ i → a' 12 j = a 12 j ∧ w' 1 j = w 1 j) ∧ kv a' w' (uV num o) i) := by
  cases o with
  | none => exact M_wUnits hi ho
  | some x =>
    refine p_mono (M_wUnits hi ho) (fun q hq => ?_)
    obtain ⟨a2, w2, he, e1, e2, e3, e4⟩ := hq
    refine ⟨a2, w2, he, e1, e2, e3, ?_⟩
    have e4 : if x ≤ 100000000 then a2 12 i = nI 1 ∧ w2 1 i = nL num * nL x else a2 12 i = nI 0 := e4
    unfold uV
    dsimp only
    by_cases hx : x ≤ 100000000
    · rw [if_pos hx] at e4 ⊢; exact e4
    · rw [if_neg hx] at e4 ⊢; exact e4
theorem L_work {a0 : Nat → Nat → Int32} {w0 : Nat → Nat → Int64} {r : Nat} (hT : TW ns) (hl : ns.length ≤ 60) (hU : UNI a0 w0 A M G) (hR : Rp a0 r 0 ns) (hr : r ≤ 300) (hpc : pc ≤ 100000000) : ∀ k a w, k ≤ ns.length → (∀ j, j ≠ 12 → a j = a0 j) → (∀ j, j ≠ 1 → w j = w0 j) → (∀ j, k ≤ j → j < ns.length → kv a w (vj (umF A M G) pc ns j) j) →
    p_E X 2 65 8 [some (.ref 17), some (.ref 1), some (.ref 13), some (.long (nL pc)), none, some (.int (nI k - nI 1))] [] (hp z a w y g) (fun q => ∃ a' w', q = (.inl none, hp z a' w' y g) ∧ (∀ j, j ≠ 12 → a' j = a0 j) ∧ (∀ j, j ≠ 1 → w' j = w0 j) ∧ ∀ j, j < ns.length → kv a' w' (vj (umF A M G) pc ns j) j) := by
  intro k
  induction k with
  | zero =>
    intro a w hk ha hw hkv
    have e : nI 0 - nI 1 = -1 := by decide
    rw [e]
    refine (r_il xc_65_8 rfl (r_zlt xc_65_10 xj_65_10 (fun hc10 => (r_r0 xc_65_193 xrt_65 ?_)) (fun hc10 => (r_aln xc_65_13 rfl (r_get xc_65_14 xf_65_15 g_4_1 (r_il xc_65_17 rfl (r_ic xc_65_19 kc_1 (r_bas xc_65_20 b_19 t_19 ?_ (r_aln xc_65_21 rfl (r_get xc_65_22 xf_65_25 g_2_0 (r_il xc_65_25 rfl (r_ia xc_65_27 b_2 ?_ (r_ts xc_65_28 (by decide) (by decide) (fun j hj hx => ?_) (fun hx => ?_))))))))))))))
    · exact ⟨a, w, rfl, ha, hw, fun j hj => hkv j (by omega) hj⟩
    all_goals exact absurd (by decide) hc10
  | succ m ih =>
    intro a w hk ha hw hkv
    have e : nI (m + 1) - nI 1 = nI m := by rw [kI_sub (by omega)]; rfl
    rw [e]
    obtain ⟨v, hv⟩ : ∃ v, ns[m]? = some v := ⟨_, List.getElem?_eq_getElem (by omega)⟩
    have hrp0 : rp a0 r m v := by have := hR m v hv; rw [Nat.zero_add] at this; exact this
    have hk8 := (TW_unit hT v (List.mem_of_getElem? hv)).2
    have hsub := vj_cases (um := umF A M G) (pc := pc) hT hl hv
    -- after a node
    have nx : ∀ a' w', (∀ j, j ≠ 12 → a' j = a j) → (∀ j, j ≠ 1 → w' j = w j) → (∀ j, j ≠ m → a' 12 j = a 12 j ∧ w' 1 j = w 1 j) → kv a' w' (vj (umF A M G) pc ns m) m → p_E X 2 65 8 [some (.ref 17), some (.ref 1), some (.ref 13), some (.long (nL pc)), none, some (.int (nI m - nI 1))] [] (hp z a' w' y g) (fun q => ∃ a' w', q = (.inl none, hp z a' w' y g) ∧ (∀ j, j ≠ 12 → a' j = a0 j) ∧ (∀ j, j ≠ 1 → w' j = w0 j) ∧ ∀ j, j < ns.length → kv a' w' (vj (umF A M G) pc ns j) j) := by
      intro a' w' h1 h2 h3 h4
      refine ih a' w' (by omega) (fun j hj => (h1 j hj).trans (ha j hj)) (fun j hj => (h2 j hj).trans (hw j hj)) (fun j hj1 hj2 => ?_)
      by_cases hjm : j = m
      · subst hjm; exact h4
      · have h5 := hkv j (by omega) hj2
        obtain ⟨e1, e2⟩ := h3 j hjm
        unfold kv at h5 ⊢
        rw [e1, e2]
        exact h5
    refine (r_il xc_65_8 rfl (r_zlt xc_65_10 xj_65_10 (fun hc10 => (r_r0 xc_65_193 xrt_65 ?_)) (fun hc10 => (r_aln xc_65_13 rfl (r_get xc_65_14 xf_65_15 g_4_1 (r_il xc_65_17 rfl (r_ic xc_65_19 kc_1 (r_bas xc_65_20 b_19 t_19 ?_ (r_aln xc_65_21 rfl (r_get xc_65_22 xf_65_25 g_2_0 (r_il xc_65_25 rfl (r_ia xc_65_27 b_2 ?_ (r_ts xc_65_28 (by decide) (by decide) (fun j hj hx => ?_) (fun hx => ?_))))))))))))))
    · exact absurd hc10 (kI_neg (by omega))
    · exact kI_in (by omega) (by omega)
    · exact kI_in (by omega) (by omega)
    all_goals
      rw [kI_cl (by omega), nar_1]
      have a12 : ∀ j, j ≠ 12 → u_ a 12 (upd (a 12) m (nI 1)) j = a j := fun j hj => u_n _ _ hj
      have b12 : u_ a 12 (upd (a 12) m (nI 1)) 12 m = nI 1 := up_s _ _ _
      have d12 : ∀ j, j ≠ m → u_ a 12 (upd (a 12) m (nI 1)) 12 j = a 12 j := fun j hj => up_n _ _ hj
      have hx0 : u_ a 12 (upd (a 12) m (nI 1)) 0 (nI m).toNatClampNeg = nI v.1 := by rw [kI_cl (by omega), a12 0 (by omega), ha 0 (by omega)]; exact hrp0.1
      have hxa : a 0 (nI m).toNatClampNeg = nI v.1 := by rw [kI_cl (by omega), ha 0 (by omega)]; exact hrp0.1
      generalize u_ a 12 (upd (a 12) m (nI 1)) = a1 at a12 b12 d12 hx0
      have a1f : ∀ j, j ≠ 12 → a1 j = a0 j := fun j hj => (a12 j hj).trans (ha j hj)
      have hU1 : UNI a1 w A M G := hU.congr (fun j hj => a1f j (by omega)) (fun j hj => hw j (by omega))
      have hrp : rp a1 r m v := hrp0.congr (fun j hj => a1f j (by omega))
      have c1 : a1 1 (nI m).toNatClampNeg = nI v.2.1 := by rw [kI_cl (by omega)]; exact hrp.2.1
      have c2 : a1 2 (nI m).toNatClampNeg = nI v.2.2.1 - nI 1 := by rw [kI_cl (by omega)]; exact hrp.2.2.1
      have leafset : ∀ x, vj (umF A M G) pc ns m = some x → p_E X 2 65 8 [some (.ref 17), some (.ref 1), some (.ref 13), some (.long (nL pc)), none, some (.int (nI m - nI 1))] [] (hp z a1 (u_ w 1 (vp_updL (w 1) m x)) y g) (fun q => ∃ a' w', q = (.inl none, hp z a' w' y g) ∧ (∀ j, j ≠ 12 → a' j = a0 j) ∧ (∀ j, j ≠ 1 → w' j = w0 j) ∧ ∀ j, j < ns.length → kv a' w' (vj (umF A M G) pc ns j) j) := by
        intro x hx
        refine nx a1 _ a12 (fun j hj => u_n _ _ hj) (fun j hj => ⟨d12 j hj, ?_⟩) ?_
        · show vp_updL (w 1) m x j = _; rw [ul_n _ _ hj]
        · rw [hx]
          refine ⟨b12, ?_⟩
          show vp_updL (w 1) m x m = _; rw [ul_s]
      have inner : (v.1 = 3 ∨ v.1 = 4 ∨ v.1 = 5 ∨ v.1 = 6) → p_E X 2 65 160 [some (.ref 17), some (.ref 1), some (.ref 13), some (.long (nL pc)), none, some (.int (nI m))] [] (hp z a1 w y g) (fun q => ∃ a' w', q = (.inl none, hp z a' w' y g) ∧ (∀ j, j ≠ 12 → a' j = a0 j) ∧ (∀ j, j ≠ 1 → w' j = w0 j) ∧ ∀ j, j < ns.length → kv a' w' (vj (umF A M G) pc ns j) j) := by
        intro hk4
        rcases hsub with ⟨hlf, _⟩ | ⟨m', hin, hs1, hs2, hs3⟩
        · exfalso
          rcases hlf.2.2 with h | h | h | h <;> omega
        · have hR0 : ¬ v.2.2.2.1 = 0 := by rw [hin.2.2.2.1]; omega
          have c3 : a1 3 (nI m).toNatClampNeg = nI (m + 1) := by rw [kI_cl (by omega), hrp.2.2.2.1, if_neg hR0]
          have c4 : a1 4 (nI m).toNatClampNeg = nI (m + v.2.2.2.1) := by rw [kI_cl (by omega), hrp.2.2.2.2.1, if_neg hR0]
          refine (r_aln xc_65_160 rfl (r_il xc_65_161 rfl (r_aln xc_65_163 rfl (r_get xc_65_164 xf_65_25 g_2_0 (r_il xc_65_167 rfl (r_ia xc_65_169 b_2 ?_ (r_aln xc_65_170 rfl (r_get xc_65_171 xf_65_53 g_2_3 (r_il xc_65_174 rfl (r_ia xc_65_176 b_5 ?_ (r_aln xc_65_177 rfl (r_get xc_65_178 xf_65_56 g_2_4 (r_il xc_65_181 rfl (r_ia xc_65_183 b_6 ?_ ?_))))))))))))))
          · exact kI_in (by omega) (by omega)
          · exact kI_in (by omega) (by omega)
          · exact kI_in (by omega) (by omega)
          · rw [hx0, c3, c4]
            have k1 : kv a1 w (vj (umF A M G) pc ns (m + 1)) (m + 1) := by
              have := hkv (m + 1) (by omega) hs1
              unfold kv at this ⊢
              rw [d12 _ (by omega)]
              exact this
            have k2 : kv a1 w (vj (umF A M G) pc ns (m + v.2.2.2.1)) (m + v.2.2.2.1) := by
              have := hkv (m + v.2.2.2.1) (by omega) hs2
              unfold kv at this ⊢
              rw [d12 _ (by omega)]
              exact this
            refine (r_cq xc_65_184 xm_65_184 rfl xrc_68 rfl ((M_wSides (X := X) (by omega) (by omega) (by omega) (by omega) hk4 k1 k2)) (fun v h1 hP => ?_) (fun _ _ h => by first | (obtain ⟨_, he, _⟩ := h; cases he; done) | (obtain ⟨_, he⟩ := h; cases he; done) | (obtain ⟨_, _, he, _⟩ := h; cases he; done) | (obtain ⟨_, _, _, he, _⟩ := h; cases he; done) | (simp only [Prod.mk.injEq, reduceCtorEq, false_and, exists_false] at h)))
            obtain ⟨a2, w2, he, e1, e2, e3, e4⟩ := hP
            cases he
            refine (r_inc [_, _, _, _, _, _] xc_65_187 rfl rfl (ki_m1 _) rfl (r_go xc_65_190 xj_65_190 ?_))
            refine nx a2 w2 (fun j hj => (e1 j hj).trans (a12 j hj)) e2 (fun j hj => ⟨(e3 j hj).1.trans (d12 j hj), (e3 j hj).2⟩) ?_
            rw [hs3]; exact e4
    · have hj : j < 8 := hj
      have hx : (a 0 (nI m).toNatClampNeg).toInt = 0 + (j : Int) := hx
      rw [hxa, nI_toInt (by omega)] at hx
      have leaf : v.1 = 0 ∨ v.1 = 1 ∨ v.1 = 2 ∨ v.1 = 7 → lfOk v ∧ vj (umF A M G) pc ns m = vL (umF A M G) pc v := by
        intro hh
        rcases hsub with h | ⟨m', hin, _⟩
        · exact h
        · exfalso; rcases hin.1 with h | h | h | h <;> omega
      match j, hj, hx with
      | 0, _, hx =>
        have hk0 : v.1 = 0 := by omega
        obtain ⟨_, h2⟩ := leaf (by omega)
        unfold vL at h2
        rw [if_pos hk0] at h2
        change p_E _ _ _ 76 _ _ _ _
        refine (r_aln xc_65_76 rfl (r_get xc_65_77 xf_65_9 g_4_0 (r_il xc_65_80 rfl (r_lc xc_65_82 kl_0 (r_las xc_65_83 b_18 t_18 ?_ (r_go xc_65_84 xj_65_84 (r_inc [_, _, _, _, _, _] xc_65_187 rfl rfl (ki_m1 _) rfl (r_go xc_65_190 xj_65_190 ?_))))))))
        · exact kI_in (by omega) (by omega)
        · rw [kI_cl (by omega)]; exact leafset 0 h2
      | 1, _, hx =>
        have hk0 : v.1 = 1 := by omega
        obtain ⟨h1, h2⟩ := leaf (by omega)
        unfold vL at h2
        rw [if_neg (by omega), if_pos hk0] at h2
        change p_E _ _ _ 87 _ _ _ _
        refine (r_aln xc_65_87 rfl (r_get xc_65_88 xf_65_9 g_4_0 (r_il xc_65_91 rfl (r_lln xc_65_93 rfl (r_aln xc_65_94 rfl (r_get xc_65_95 xf_65_29 g_2_1 (r_il xc_65_98 rfl (r_ia xc_65_100 b_3 ?_ (r_i2l xc_65_101 (r_lmul xc_65_102 (r_ldl xc_65_103 xl_65_32 (r_lmul xc_65_106 (r_las xc_65_107 b_18 t_18 ?_ (r_go xc_65_108 xj_65_108 (r_inc [_, _, _, _, _, _] xc_65_187 rfl rfl (ki_m1 _) rfl (r_go xc_65_190 xj_65_190 ?_))))))))))))))))
        · exact kI_in (by omega) (by omega)
        · exact kI_in (by omega) (by omega)
        · rw [c1, kI_i2l (by have := h1.2.1; omega), kI_cl (by omega)]; exact leafset _ h2
      | 2, _, hx =>
        have hk0 : v.1 = 2 := by omega
        obtain ⟨h1, h2⟩ := leaf (by omega)
        unfold vL at h2
        rw [if_neg (by omega), if_neg (by omega), if_pos hk0] at h2
        have hu8 : 1 ≤ v.2.2.1 ∧ v.2.2.1 ≤ 8 := by rcases h1.2.2 with h | h | h | h <;> omega
        have c2' : a1 2 (nI m).toNatClampNeg = nI (v.2.2.1 - 1) := by rw [c2, kI_sub (by omega)]
        change p_E _ _ _ 111 _ _ _ _
        refine (r_aln xc_65_111 rfl (r_il xc_65_112 rfl (r_aln xc_65_114 rfl (r_get xc_65_115 xf_65_29 g_2_1 (r_il xc_65_118 rfl (r_ia xc_65_120 b_3 ?_ (r_i2l xc_65_121 (r_aln xc_65_122 rfl (r_aln xc_65_123 rfl (r_get xc_65_124 xf_65_34 g_2_2 (r_il xc_65_127 rfl (r_ia xc_65_129 b_4 ?_ ?_))))))))))))
        · exact kI_in (by omega) (by omega)
        · exact kI_in (by omega) (by omega)
        · rw [c1, kI_i2l (by have := h1.2.1; omega), c2']
          refine (r_cv xc_65_130 xm_65_130 rfl xrc_58 rfl (M_amtC hU1 (by omega)) ?_)
          refine (r_cq xc_65_133 xm_65_133 rfl xrc_66 rfl (p_M.up (M_wUnits2 (i := m) (num := v.2.1) (by omega) (amt_big hU1 (by omega))) (by omega)) (fun v h1 hP => ?_) (fun _ _ h => by first | (obtain ⟨_, he, _⟩ := h; cases he; done) | (obtain ⟨_, he⟩ := h; cases he; done) | (obtain ⟨_, _, he, _⟩ := h; cases he; done) | (obtain ⟨_, _, _, he, _⟩ := h; cases he; done) | (simp only [Prod.mk.injEq, reduceCtorEq, false_and, exists_false] at h)))
          obtain ⟨a2, w2, he, e1, e2, e3, e4⟩ := hP
          cases he
          refine (r_go xc_65_136 xj_65_136 (r_inc [_, _, _, _, _, _] xc_65_187 rfl rfl (ki_m1 _) rfl (r_go xc_65_190 xj_65_190 ?_)))
          refine nx a2 w2 (fun j hj => (e1 j hj).trans (a12 j hj)) e2 (fun j hj => ⟨(e3 j hj).1.trans (d12 j hj), (e3 j hj).2⟩) ?_
          rw [h2]
          exact e4
      | 3, _, hx => exact inner (by omega)
      | 4, _, hx => exact inner (by omega)
      | 5, _, hx => exact inner (by omega)
      | 6, _, hx => exact inner (by omega)
      | 7, _, hx =>
        have hk0 : v.1 = 7 := by omega
        obtain ⟨h1, h2⟩ := leaf (by omega)
        unfold vL at h2
        rw [if_neg (by omega), if_neg (by omega), if_neg (by omega)] at h2
        change p_E _ _ _ 139 _ _ _ _
        refine (r_aln xc_65_139 rfl (r_get xc_65_140 xf_65_9 g_4_0 (r_il xc_65_143 rfl (r_aln xc_65_145 rfl (r_il xc_65_146 rfl (r_lln xc_65_148 rfl ?_))))))
        refine (r_cv xc_65_149 xm_65_149 rfl xrc_67 rfl (p_M.up (M_steps67 hpc (by omega) hr hrp h1 hk0) (by omega)) (r_ldl xc_65_152 xl_65_51 (r_lmul xc_65_155 (r_las xc_65_156 b_18 t_18 ?_ (r_go xc_65_157 xj_65_157 (r_inc [_, _, _, _, _, _] xc_65_187 rfl rfl (ki_m1 _) rfl (r_go xc_65_190 xj_65_190 ?_)))))))
        · exact kI_in (by omega) (by omega)
        · rw [kI_cl (by omega)]
          have e6 : (1000000 : Int64) = nL 1000000 := by decide
          rw [e6]
          exact leafset _ h2
    · have hx : (a 0 (nI m).toNatClampNeg).toInt < 0 ∨ 7 < (a 0 (nI m).toNatClampNeg).toInt := hx
      rw [hxa, nI_toInt (by omega)] at hx
      omega
end VALS4
