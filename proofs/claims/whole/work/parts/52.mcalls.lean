/-! ===== the model's value, cents, part, node, at, step; count ===== -/
section MCALLS
variable {X : pX} {z : Nat → Int32} {a : Nat → Nat → Int32} {w : Nat → Nat → Int64} {y : Nat → Int64} {g : List pE} {A : Nat → Option Nat} {M G : Nat → Nat} {ns : List pN} {pc : Nat}
theorem M_reckon {t : List pN} {b : Nat} (hT : TW t) (hb : b + t.length ≤ 60) (hM : MpT a b t) (hU : UNI a w A M G) (hpc : pc ≤ 100000000) (hy : y 1 = nL pc) : p_M X 1 124 [.ref 22, .int (nI b)] (hp z a w y g) (RkP z a w y g b (VAL (umF A M G) pc t)) := by
  refine (r_in xin_124 (r_aln xc_124_0 rfl (r_iln xc_124_1 rfl ?_)))
  refine (r_cv xc_124_2 xm_124_2 rfl xrc_125 rfl (M_behind2 hT hb hM) (r_isn [_, _, _, _, _, _, _, _, _] xc_124_5 rfl rfl (r_iln xc_124_6 rfl (r_ic xc_124_7 kc_1 (r_isub xc_124_8 (r_isn [_, _, _, _, _, _, _, _, _] xc_124_9 rfl rfl ?_))))))
  rw [← vj_0 hT (by omega)]
  exact L_reck hT hb hM hU hpc hy t.length w (Nat.le_refl _) (fun _ _ => rfl) (fun i h1 h2 => by omega)
theorem RkP.ex {t : List pN} {b : Nat} (h : p_M X 1 124 [.ref 22, .int (nI b)] (hp z a w y g) (RkP z a w y g b (VAL (umF A M G) pc t))) : p_M X 1 124 [.ref 22, .int (nI b)] (hp z a w y g) (fun q => ∃ x w', q = (.inl (some (.int x)), hp z a w' y g) ∧ (∀ j, j ≠ 3 → w' j = w j) ∧ (x = nI 0 ∧ VAL (umF A M G) pc t = none ∨ x = nI 1 ∧ VAL (umF A M G) pc t = some (w' 3 b))) := by
  refine p_mono h (fun q hq => ?_)
  cases hV : VAL (umF A M G) pc t with
  | none =>
    rw [hV] at hq
    obtain ⟨w', e, hw⟩ := hq
    exact ⟨_, w', e, hw, Or.inl ⟨rfl, rfl⟩⟩
  | some x =>
    rw [hV] at hq
    obtain ⟨w', e, hx, hw⟩ := hq
    exact ⟨_, w', e, hw, Or.inr ⟨rfl, by rw [hx]⟩⟩
/-- valued: 0 where it is, else after or after + 1 -/
theorem M_valued (hT : ns = [] ∨ TW ns) (hl : ns.length ≤ 60) (h13 : z 13 = nI ns.length) (hM : Mp a ns) (hU : UNI a w A M G) (hpc : pc ≤ 100000000) (hy : y 1 = nL pc) : p_M X 2 123 [.ref 22, .int (nI 2)] (hp z a w y g) (fun q => ∃ x c w', q = (.inl (some (.int x)), hp (u_ z 10 (nI c)) a w' y g) ∧ (∀ j, j ≠ 3 → w' j = w j) ∧ ((x = nI 0 ∧ ∃ ci, rtS (umF A M G) pc ns = .inl ci ∧ c = ci - 6) ∨ (x = nI 1 ∧ c = 0 ∧ ∃ u, VAL (umF A M G) pc ns = some u ∧ w' 3 0 = u ∧ rtS (umF A M G) pc ns = .inr (if 0 < u then u.toInt.toNat else 0)))) := by
  refine (r_in xin_123 (r_aln xc_123_0 rfl (r_aln xc_123_1 rfl (r_get xc_123_2 xf_123_174 g_6_15 (r_zne xc_123_5 xj_123_5 (fun hc5 => (r_iln xc_123_8 rfl (r_go xc_123_9 xj_123_9 (r_put xc_123_27 xf_123_73 rfl s_6_4 (r_aln xc_123_30 rfl (r_get xc_123_31 xf_123_73 g_6_4 (r_zne xc_123_34 xj_123_34 (fun hc34 => (r_ic xc_123_37 kc_1 (r_go xc_123_38 xj_123_38 (r_rz xc_123_42 xrt_123 ?_ ?_)))) (fun hc34 => (r_ic xc_123_41 kc_0 (r_rz xc_123_42 xrt_123 ?_ ?_)))))))))) (fun hc5 => (r_aln xc_123_12 rfl (r_ic xc_123_13 kc_0 ?_))))))))
  · have hc34 : nI 2 = nI 0 := hc34
    exact absurd hc34 (by decide)
  · have hc34 : nI 2 = nI 0 := hc34
    exact absurd hc34 (by decide)
  · exact Or.inl rfl
  · rw [h13, kI_inj (by omega) (by omega)] at hc5
    have hn : ns = [] := List.length_eq_zero_iff.mp hc5
    refine ⟨_, 2, w, rfl, fun _ _ => rfl, Or.inl ⟨rfl, 8, ?_, rfl⟩⟩
    unfold rtS; rw [if_pos hn]
  · rw [h13, kI_inj (by omega) (by omega)] at hc5
    have hn : ¬ ns = [] := fun h => hc5 (by rw [h]; rfl)
    have hT : TW ns := hT.elim (fun h => absurd h hn) id
    have hM0 : MpT a 0 ns := hM.at (u := []) (by simp)
    refine (r_cq xc_123_14 xm_123_14 rfl xrc_124 rfl (RkP.ex (M_reckon hT (by omega) hM0 hU hpc hy)) (fun v h1 hP => ?_) (fun _ _ h => by first | (obtain ⟨_, he, _⟩ := h; cases he; done) | (obtain ⟨_, he⟩ := h; cases he; done) | (obtain ⟨_, _, he, _⟩ := h; cases he; done) | (obtain ⟨_, _, _, he, _⟩ := h; cases he; done) | (simp only [Prod.mk.injEq, reduceCtorEq, false_and, exists_false] at h)))
    obtain ⟨x, w', he, hw, hx⟩ := hP
    cases he
    rcases hx with ⟨rfl, hV⟩ | ⟨rfl, hV⟩
    · refine (r_zne xc_123_17 xj_123_17 (fun hc17 => (r_iln xc_123_20 rfl (r_ic xc_123_21 kc_1 (r_iadd xc_123_22 (r_go xc_123_23 xj_123_23 (r_put xc_123_27 xf_123_73 rfl s_6_4 (r_aln xc_123_30 rfl (r_get xc_123_31 xf_123_73 g_6_4 (r_zne xc_123_34 xj_123_34 (fun hc34 => (r_ic xc_123_37 kc_1 (r_go xc_123_38 xj_123_38 (r_rz xc_123_42 xrt_123 ?_ ?_)))) (fun hc34 => (r_ic xc_123_41 kc_0 (r_rz xc_123_42 xrt_123 ?_ ?_)))))))))))) (fun hc17 => (r_ic xc_123_26 kc_0 (r_put xc_123_27 xf_123_73 rfl s_6_4 (r_aln xc_123_30 rfl (r_get xc_123_31 xf_123_73 g_6_4 (r_zne xc_123_34 xj_123_34 (fun hc34 => (r_ic xc_123_37 kc_1 (r_go xc_123_38 xj_123_38 (r_rz xc_123_42 xrt_123 ?_ ?_)))) (fun hc34 => (r_ic xc_123_41 kc_0 (r_rz xc_123_42 xrt_123 ?_ ?_))))))))))
      · have hc34 : nI 2 + nI 1 = nI 0 := hc34
        exact absurd hc34 (by decide)
      · have hc34 : nI 2 + nI 1 = nI 0 := hc34
        exact absurd hc34 (by decide)
      · exact Or.inl rfl
      · refine ⟨_, 3, w', rfl, hw, Or.inl ⟨rfl, 9, ?_, rfl⟩⟩
        unfold rtS; rw [if_neg hn, hV]
      all_goals exact absurd rfl hc17
    · refine (r_zne xc_123_17 xj_123_17 (fun hc17 => (r_iln xc_123_20 rfl (r_ic xc_123_21 kc_1 (r_iadd xc_123_22 (r_go xc_123_23 xj_123_23 (r_put xc_123_27 xf_123_73 rfl s_6_4 (r_aln xc_123_30 rfl (r_get xc_123_31 xf_123_73 g_6_4 (r_zne xc_123_34 xj_123_34 (fun hc34 => (r_ic xc_123_37 kc_1 (r_go xc_123_38 xj_123_38 (r_rz xc_123_42 xrt_123 ?_ ?_)))) (fun hc34 => (r_ic xc_123_41 kc_0 (r_rz xc_123_42 xrt_123 ?_ ?_)))))))))))) (fun hc17 => (r_ic xc_123_26 kc_0 (r_put xc_123_27 xf_123_73 rfl s_6_4 (r_aln xc_123_30 rfl (r_get xc_123_31 xf_123_73 g_6_4 (r_zne xc_123_34 xj_123_34 (fun hc34 => (r_ic xc_123_37 kc_1 (r_go xc_123_38 xj_123_38 (r_rz xc_123_42 xrt_123 ?_ ?_)))) (fun hc34 => (r_ic xc_123_41 kc_0 (r_rz xc_123_42 xrt_123 ?_ ?_))))))))))
      all_goals try exact absurd hc17 (by decide)
      · exact Or.inr rfl
      · refine ⟨_, 0, w', rfl, hw, Or.inr ⟨rfl, rfl, w' 3 0, hV, rfl, ?_⟩⟩
        unfold rtS; rw [if_neg hn, hV]
      · exact Or.inl rfl
      · have hc34 : ¬ nI 0 = nI 0 := hc34
        exact absurd rfl hc34
theorem M_rateM {u : Int64} (h : w 3 0 = u) : p_M X 0 128 [.ref 22] (hp z a w y g) (fun q => q = (.inl (some (.long (nL (if 0 < u then u.toInt.toNat else 0)))), hp z a w y g)) := by
  have e0 : (nI 0).toNatClampNeg = 0 := by decide
  have ez : (0 : Int64).toInt = 0 := by decide
  refine (r_in xin_128 (r_aln xc_128_0 rfl (r_get xc_128_1 xf_128_65 g_6_29 (r_ic xc_128_4 kc_0 (r_la xc_128_5 b_41 ?_ (r_lc xc_128_6 kl_0 (r_lge xc_128_7 xc_128_8 xj_128_8 (fun hc8 => (r_lc xc_128_11 kl_0 (r_go xc_128_12 xj_128_12 (r_rl xc_128_21 xrt_128 ?_)))) (fun hc8 => (r_aln xc_128_15 rfl (r_get xc_128_16 xf_128_65 g_6_29 (r_ic xc_128_19 kc_0 (r_la xc_128_20 b_41 ?_ (r_rl xc_128_21 xrt_128 ?_)))))))))))))
  · exact kI_in (by omega) (by omega)
  · rw [e0, h] at hc8
    rw [if_neg (by rw [Int64.lt_iff_toInt_lt] at hc8 ⊢; omega), nL_0]
  · exact kI_in (by omega) (by omega)
  · rw [e0, h] at hc8
    rw [e0, h]
    by_cases hu : (0 : Int64) < u
    · rw [if_pos hu, ← kL_of (by rw [Int64.lt_iff_toInt_lt] at hc8; omega)]
    · rw [if_neg hu, ← nL_0]
      have : u = 0 := Int64.toInt_inj.mp (by rw [Int64.lt_iff_toInt_lt] at hc8 hu; omega)
      rw [this]
theorem L_gcdM {side : Int32} {Q : pR → Prop} : ∀ n m l, l ≤ n → m < 9223372036854775808 → l < 9223372036854775808 → (∀ v6, p_E X 3 122 68 [some (.ref 22), some (.int side), some (.long (nL (Nat.gcd m l))), none, some (.long (nL 0)), none, v6, none] [] (hp z a w y g) Q) → ∀ v6, p_E X 3 122 45 [some (.ref 22), some (.int side), some (.long (nL m)), none, some (.long (nL l)), none, v6, none] [] (hp z a w y g) Q := by
  intro n
  induction n with
  | zero =>
    intro m l hl hm hl2 k v6
    have : l = 0 := Nat.le_zero.mp hl
    subst this
    refine (r_ll xc_122_45 rfl (r_lc xc_122_47 kl_0 (r_leq xc_122_48 xc_122_49 xj_122_49 (fun hc49 => ?_) (fun hc49 => (r_lln xc_122_52 rfl (r_ll xc_122_53 rfl (r_lrem xc_122_55 ?_ (r_ls [_, _, _, _, _, _, _, _] xc_122_56 rfl rfl (r_ll xc_122_58 rfl (r_lsn [_, _, _, _, _, _, _, _] xc_122_60 rfl rfl (r_ll xc_122_61 rfl (r_ls [_, _, _, _, _, _, _, _] xc_122_63 rfl rfl (r_go xc_122_65 xj_122_65 ?_)))))))))))))
    · have := k v6
      rw [Nat.gcd_zero_right] at this
      exact this
    · exact absurd nL_0.symm hc49
    · exact absurd nL_0.symm hc49
  | succ n ih =>
    intro m l hl hm hl2 k v6
    refine (r_ll xc_122_45 rfl (r_lc xc_122_47 kl_0 (r_leq xc_122_48 xc_122_49 xj_122_49 (fun hc49 => ?_) (fun hc49 => (r_lln xc_122_52 rfl (r_ll xc_122_53 rfl (r_lrem xc_122_55 ?_ (r_ls [_, _, _, _, _, _, _, _] xc_122_56 rfl rfl (r_ll xc_122_58 rfl (r_lsn [_, _, _, _, _, _, _, _] xc_122_60 rfl rfl (r_ll xc_122_61 rfl (r_ls [_, _, _, _, _, _, _, _] xc_122_63 rfl rfl (r_go xc_122_65 xj_122_65 ?_)))))))))))))
    · rw [nL_0, kL_inj hl2 (by omega)] at hc49
      subst hc49
      have := k v6
      rw [Nat.gcd_zero_right] at this
      exact this
    · exact hc49
    · rw [nL_ne0 hl2] at hc49
      rw [kL_rem hm hl2]
      have hlt := Nat.mod_lt m (show 0 < l by omega)
      refine ih l (m % l) (by omega) hl2 (by omega) (fun v6 => ?_) _
      have := k v6
      rw [Nat.gcd_comm, Nat.gcd_rec, Nat.gcd_comm] at this
      exact this
/-- the model's answer: code and value -/
def MA (z : Nat → Int32) (a : Nat → Nat → Int32) (w : Nat → Nat → Int64) (y : Nat → Int64) (g : List pE) (res : Nat ⊕ Value) (z0 : Value) (q : pR) : Prop := match res with
  | .inl c => ∃ w', q = (.inl (some z0), hp (u_ z 10 (nI c)) a w' y g) ∧ ∀ j, j ≠ 3 → w' j = w j
  | .inr v => ∃ w', q = (.inl (some v), hp (u_ z 10 (nI 0)) a w' y g) ∧ ∀ j, j ≠ 3 → w' j = w j
theorem M_valueM {side : Int32} (hT : ns = [] ∨ TW ns) (hl : ns.length ≤ 60) (h13 : z 13 = nI ns.length) (hM : Mp a ns) (hU : UNI a w A M G) (hpc : pc ≤ 100000000) (hy : y 1 = nL pc) : p_M X 3 122 [.ref 22, .int side] (hp z a w y g) (MA z a w y g (match vlS (umF A M G) pc ns side with
    | .inl ci => .inl (ci - 6)
    | .inr m => .inr (.long (nL m))) (.long 0)) := by
  have e6 : (1000000 : Int64) = nL 1000000 := by decide
  have go : side = nI 0 ∨ side = nI 1 → p_E X 3 122 25 [some (.ref 22), some (.int side), none, none, none, none, none, none] [] (hp (u_ z 10 (nI 0)) a w y g) (MA z a w y g (match vlS (umF A M G) pc ns side with
      | .inl ci => .inl (ci - 6)
      | .inr m => .inr (.long (nL m))) (.long 0)) := by
    intro hs
    unfold vlS
    rw [if_pos hs]
    refine (r_aln xc_122_25 rfl (r_ic xc_122_26 kc_2 ?_))
    refine (r_cq xc_122_27 xm_122_27 rfl xrc_123 rfl ((M_valued (z := u_ z 10 (nI 0)) hT hl h13 hM hU hpc hy)) (fun v h1 hP => ?_) (fun _ _ h => by first | (obtain ⟨_, he, _⟩ := h; cases he; done) | (obtain ⟨_, he⟩ := h; cases he; done) | (obtain ⟨_, _, he, _⟩ := h; cases he; done) | (obtain ⟨_, _, _, he, _⟩ := h; cases he; done) | (simp only [Prod.mk.injEq, reduceCtorEq, false_and, exists_false] at h)))
    obtain ⟨x, c, w', he, hw, hx⟩ := hP
    cases he
    rcases hx with ⟨rfl, ci, hr, hc⟩ | ⟨rfl, hc, u, hV, hu, hr⟩
    · refine (r_zne xc_122_30 xj_122_30 (fun hc30 => (r_lc xc_122_33 kl_0 (r_rl xc_122_34 xrt_122 ?_))) (fun hc30 => (r_aln xc_122_35 rfl ?_)))
      · rw [hr, u_u, hc]
        exact ⟨w', rfl, hw⟩
      · exact absurd rfl hc30
    · subst hc
      refine (r_zne xc_122_30 xj_122_30 (fun hc30 => (r_lc xc_122_33 kl_0 (r_rl xc_122_34 xrt_122 ?_))) (fun hc30 => (r_aln xc_122_35 rfl ?_)))
      · exact absurd hc30 (by decide)
      · refine (r_cv xc_122_36 xm_122_36 rfl xrc_128 rfl (p_M.up (M_rateM hu) (by omega)) (r_lsn [_, _, _, _, _, _, _, _] xc_122_39 rfl rfl (r_ldl xc_122_40 xl_122_202 (r_ls [_, _, _, _, _, _, _, _] xc_122_43 rfl rfl ?_))))
        rw [hr, e6]
        have hm : (if 0 < u then u.toInt.toNat else 0) < 9223372036854775808 := by
          have := Int64.toInt_lt u
          split <;> omega
        refine L_gcdM 1000000 _ 1000000 (by omega) hm (by omega) (fun v6 => ?_) _
        have hg := gcd_le (if 0 < u then u.toInt.toNat else 0)
        have hgp := gcd_pos (if 0 < u then u.toInt.toNat else 0)
        refine (r_iln xc_122_68 rfl (r_zne xc_122_69 xj_122_69 (fun hc69 => (r_aln xc_122_72 rfl ?_)) (fun hc69 => (r_ldl xc_122_81 xl_122_202 (r_lln xc_122_84 rfl (r_ldiv xc_122_85 ?_ (r_rl xc_122_86 xrt_122 ?_)))))))
        · refine (r_cv xc_122_73 xm_122_73 rfl xrc_128 rfl (p_M.up (M_rateM hu) (by omega)) (r_lln xc_122_76 rfl (r_ldiv xc_122_77 ?_ (r_go xc_122_78 xj_122_78 (r_rl xc_122_86 xrt_122 ?_)))))
          · rw [nL_ne0 (by omega)]; omega
          · rw [kL_div hm (by omega), u_u]
            dsimp only
            rw [if_pos hc69]
            exact ⟨w', rfl, hw⟩
        · rw [nL_ne0 (by omega)]; omega
        · rw [e6, kL_div (by omega) (by omega), u_u]
          dsimp only
          rw [if_neg hc69]
          exact ⟨w', rfl, hw⟩
  refine (r_in xin_122 (r_aln xc_122_0 rfl (r_iln xc_122_1 rfl (r_zeq xc_122_2 xj_122_2 (fun hc2 => (r_ic xc_122_10 kc_0 (r_go xc_122_11 xj_122_11 (r_put xc_122_15 xf_122_73 rfl s_6_4 (r_aln xc_122_18 rfl (r_get xc_122_19 xf_122_73 g_6_4 (r_zne xc_122_22 xj_122_22 (fun hc22 => ?_) (fun hc22 => (r_lc xc_122_33 kl_0 (r_rl xc_122_34 xrt_122 ?_)))))))))) (fun hc2 => (r_iln xc_122_5 rfl (r_ic xc_122_6 kc_1 (r_cne xc_122_7 xj_122_7 (fun hc7 => (r_ic xc_122_10 kc_0 (r_go xc_122_11 xj_122_11 (r_put xc_122_15 xf_122_73 rfl s_6_4 (r_aln xc_122_18 rfl (r_get xc_122_19 xf_122_73 g_6_4 (r_zne xc_122_22 xj_122_22 (fun hc22 => ?_) (fun hc22 => (r_lc xc_122_33 kl_0 (r_rl xc_122_34 xrt_122 ?_)))))))))) (fun hc7 => (r_ic xc_122_14 kc_1 (r_put xc_122_15 xf_122_73 rfl s_6_4 (r_aln xc_122_18 rfl (r_get xc_122_19 xf_122_73 g_6_4 (r_zne xc_122_22 xj_122_22 (fun hc22 => ?_) (fun hc22 => (r_lc xc_122_33 kl_0 (r_rl xc_122_34 xrt_122 ?_)))))))))))))))))
  · exact go (Or.inl hc2)
  · have hc22 : ¬ nI 0 = nI 0 := hc22
    exact absurd rfl hc22
  · exact go (Or.inr hc7)
  · have hc22 : ¬ nI 0 = nI 0 := hc22
    exact absurd rfl hc22
  · have hc22 : nI 1 = nI 0 := hc22
    exact absurd hc22 (by decide)
  · unfold vlS
    rw [if_neg (by rintro (h | h); exact hc2 h; exact hc7 h)]
    exact ⟨w, rfl, fun _ _ => rfl⟩
theorem M_centsM {rule : Int32} (hT : ns = [] ∨ TW ns) (hl : ns.length ≤ 60) (h13 : z 13 = nI ns.length) (hM : Mp a ns) (hU : UNI a w A M G) (hpc : pc ≤ 100000000) (hy : y 1 = nL pc) : p_M X 3 129 [.ref 22, .int rule] (hp z a w y g) (MA z a w y g (match ceS (umF A M G) pc ns rule with
    | .inl ci => .inl (ci - 6)
    | .inr m => .inr (.long m)) (.long 0)) := by
  refine (r_in xin_129 (r_aln xc_129_0 rfl (r_iln xc_129_1 rfl (r_zlt xc_129_2 xj_129_2 (fun hc2 => (r_ic xc_129_14 kc_1 (r_put xc_129_15 xf_129_73 rfl s_6_4 (r_aln xc_129_18 rfl (r_get xc_129_19 xf_129_73 g_6_4 (r_zne xc_129_22 xj_129_22 (fun hc22 => ?_) (fun hc22 => (r_lc xc_129_33 kl_0 (r_rl xc_129_34 xrt_129 ?_))))))))) (fun hc2 => (r_iln xc_129_5 rfl (r_ic xc_129_6 kc_3 (r_cgt xc_129_7 xj_129_7 (fun hc7 => (r_ic xc_129_14 kc_1 (r_put xc_129_15 xf_129_73 rfl s_6_4 (r_aln xc_129_18 rfl (r_get xc_129_19 xf_129_73 g_6_4 (r_zne xc_129_22 xj_129_22 (fun hc22 => ?_) (fun hc22 => (r_lc xc_129_33 kl_0 (r_rl xc_129_34 xrt_129 ?_))))))))) (fun hc7 => (r_ic xc_129_10 kc_0 (r_go xc_129_11 xj_129_11 (r_put xc_129_15 xf_129_73 rfl s_6_4 (r_aln xc_129_18 rfl (r_get xc_129_19 xf_129_73 g_6_4 (r_zne xc_129_22 xj_129_22 (fun hc22 => ?_) (fun hc22 => (r_lc xc_129_33 kl_0 (r_rl xc_129_34 xrt_129 ?_))))))))))))))))))
  · have hc22 : nI 1 = nI 0 := hc22
    exact absurd hc22 (by decide)
  · unfold ceS
    rw [if_pos (Or.inl hc2)]
    exact ⟨w, rfl, fun _ _ => rfl⟩
  · have hc22 : nI 1 = nI 0 := hc22
    exact absurd hc22 (by decide)
  · unfold ceS
    rw [if_pos (Or.inr hc7)]
    exact ⟨w, rfl, fun _ _ => rfl⟩
  · unfold ceS
    rw [if_neg (by rintro (h | h); exact hc2 h; exact hc7 h)]
    refine (r_aln xc_129_25 rfl (r_ic xc_129_26 kc_2 ?_))
    refine (r_cq xc_129_27 xm_129_27 rfl xrc_123 rfl ((M_valued (z := u_ z 10 (nI 0)) hT hl h13 hM hU hpc hy)) (fun v h1 hP => ?_) (fun _ _ h => by first | (obtain ⟨_, he, _⟩ := h; cases he; done) | (obtain ⟨_, he⟩ := h; cases he; done) | (obtain ⟨_, _, he, _⟩ := h; cases he; done) | (obtain ⟨_, _, _, he, _⟩ := h; cases he; done) | (simp only [Prod.mk.injEq, reduceCtorEq, false_and, exists_false] at h)))
    obtain ⟨x, c, w', he, hw, hx⟩ := hP
    cases he
    rcases hx with ⟨rfl, ci, hr, hc⟩ | ⟨rfl, hc, u, hV, hu, hr⟩
    · refine (r_zne xc_129_30 xj_129_30 (fun hc30 => (r_lc xc_129_33 kl_0 (r_rl xc_129_34 xrt_129 ?_))) (fun hc30 => (r_aln xc_129_35 rfl ?_)))
      · rw [hr, u_u, hc]
        exact ⟨w', rfl, hw⟩
      · exact absurd rfl hc30
    · subst hc
      refine (r_zne xc_129_30 xj_129_30 (fun hc30 => (r_lc xc_129_33 kl_0 (r_rl xc_129_34 xrt_129 ?_))) (fun hc30 => (r_aln xc_129_35 rfl ?_)))
      · exact absurd hc30 (by decide)
      · refine (r_cv xc_129_36 xm_129_36 rfl xrc_128 rfl (p_M.up (M_rateM hu) (by omega)) (r_lsn [_, _, _, _] xc_129_39 rfl rfl (r_iln xc_129_40 rfl (r_zne xc_129_41 xj_129_41 (fun hc41 => (r_lln xc_129_44 rfl (r_ldl xc_129_45 xl_129_202 (r_ldiv xc_129_48 (by decide) (r_rl xc_129_49 xrt_129 ?_))))) (fun hc41 => (r_iln xc_129_50 rfl (r_ic xc_129_51 kc_1 (r_cne xc_129_52 xj_129_52 (fun hc52 => (r_lln xc_129_55 rfl (r_ldl xc_129_56 xl_129_226 (r_ladd xc_129_59 (r_ldl xc_129_60 xl_129_202 (r_ldiv xc_129_63 (by decide) (r_rl xc_129_64 xrt_129 ?_))))))) (fun hc52 => (r_iln xc_129_65 rfl (r_ic xc_129_66 kc_2 (r_cne xc_129_67 xj_129_67 (fun hc67 => (r_lln xc_129_70 rfl (r_ldl xc_129_71 xl_129_228 (r_ladd xc_129_74 (r_ldl xc_129_75 xl_129_202 (r_ldiv xc_129_78 (by decide) (r_go xc_129_79 xj_129_79 (r_rl xc_129_91 xrt_129 ?_)))))))) (fun hc67 => (r_lln xc_129_82 rfl (r_ldl xc_129_83 xl_129_230 (r_ldiv xc_129_86 (by decide) (r_ldl xc_129_87 xl_129_211 (r_lmul xc_129_90 (r_rl xc_129_91 xrt_129 ?_)))))))))))))))))))
        · rw [hr, u_u]; dsimp only; rw [if_pos hc41]; exact ⟨w', rfl, hw⟩
        · rw [hr, u_u]; dsimp only; rw [if_neg hc41, if_pos hc52]; exact ⟨w', rfl, hw⟩
        · rw [hr, u_u]; dsimp only; rw [if_neg hc41, if_neg hc52, if_pos hc67]; exact ⟨w', rfl, hw⟩
        · rw [hr, u_u]; dsimp only; rw [if_neg hc41, if_neg hc52, if_neg hc67]; exact ⟨w', rfl, hw⟩
  · have hc22 : ¬ nI 0 = nI 0 := hc22
    exact absurd rfl hc22
theorem L_part30 {c : Nat} {i : Int32} (hc : c = 1 ∨ c = 2) : p_E X 2 131 30 [some (.ref 22), some (.int i)] [.int (nI c), .ref 22] (hp z a w y g) (MA z a w y g (.inl c) (.long 0)) := by
  refine (r_put xc_131_30 xf_131_73 rfl s_6_4 (r_aln xc_131_33 rfl (r_get xc_131_34 xf_131_73 g_6_4 (r_zeq xc_131_37 xj_131_37 (fun hc37 => (r_aln xc_131_44 rfl (r_get xc_131_45 xf_131_65 g_6_29 (r_iln xc_131_48 rfl (r_la xc_131_49 b_41 ?_ (r_rl xc_131_50 xrt_131 ?_)))))) (fun hc37 => (r_lc xc_131_40 kl_0 (r_go xc_131_41 xj_131_41 (r_rl xc_131_50 xrt_131 ?_))))))))
  · have hc37 : nI c = nI 0 := hc37
    rw [kI_inj (by omega) (by omega)] at hc37; omega
  · have hc37 : nI c = nI 0 := hc37
    rw [kI_inj (by omega) (by omega)] at hc37; omega
  · exact ⟨w, rfl, fun _ _ => rfl⟩
theorem M_partM_b {i : Int32} (h13 : z 13 = nI ns.length) (hb : i < nI 0 ∨ ¬ i < nI ns.length) : p_M X 2 131 [.ref 22, .int i] (hp z a w y g) (MA z a w y g (.inl 1) (.long 0)) := by
  refine (r_in xin_131 (r_aln xc_131_0 rfl (r_iln xc_131_1 rfl (r_zlt xc_131_2 xj_131_2 (fun hc2 => (r_ic xc_131_13 kc_1 (r_go xc_131_14 xj_131_14 ?_))) (fun hc2 => (r_iln xc_131_5 rfl (r_aln xc_131_6 rfl (r_get xc_131_7 xf_131_174 g_6_15 (r_clt xc_131_10 xj_131_10 (fun hc10 => (r_aln xc_131_17 rfl (r_iln xc_131_18 rfl ?_))) (fun hc10 => (r_ic xc_131_13 kc_1 (r_go xc_131_14 xj_131_14 ?_))))))))))))
  · exact L_part30 (Or.inl rfl)
  · rw [h13] at hc10
    rcases hb with h | h
    · exact absurd h hc2
    · exact absurd hc10 h
  · exact L_part30 (Or.inl rfl)
theorem M_partM {i : Nat} (hT : TW ns) (hl : ns.length ≤ 60) (h13 : z 13 = nI ns.length) (hM : Mp a ns) (hU : UNI a w A M G) (hpc : pc ≤ 100000000) (hy : y 1 = nL pc) (hi : i < ns.length) : p_M X 2 131 [.ref 22, .int (nI i)] (hp z a w y g) (MA z a w y g (match vj (umF A M G) pc ns i with
    | none => .inl 2
    | some x => .inr (.long x)) (.long 0)) := by
  obtain ⟨t, u, hd, ht, v, t', e2, e3⟩ := TW_at hT i [] hi
  rw [List.append_nil] at hd
  have hlen : t.length + u.length = ns.length - i := by rw [← List.length_append, ← hd, List.length_drop]
  have hvj : vj (umF A M G) pc ns i = VAL (umF A M G) pc t := by
    unfold vj
    rw [hd]
    exact ev_app ht 60 u (by omega)
  rw [hvj]
  refine (r_in xin_131 (r_aln xc_131_0 rfl (r_iln xc_131_1 rfl (r_zlt xc_131_2 xj_131_2 (fun hc2 => (r_ic xc_131_13 kc_1 (r_go xc_131_14 xj_131_14 ?_))) (fun hc2 => (r_iln xc_131_5 rfl (r_aln xc_131_6 rfl (r_get xc_131_7 xf_131_174 g_6_15 (r_clt xc_131_10 xj_131_10 (fun hc10 => (r_aln xc_131_17 rfl (r_iln xc_131_18 rfl ?_))) (fun hc10 => (r_ic xc_131_13 kc_1 (r_go xc_131_14 xj_131_14 ?_))))))))))))
  · exact absurd hc2 (kI_neg (by omega))
  · refine (r_cq xc_131_19 xm_131_19 rfl xrc_124 rfl (RkP.ex (M_reckon ht (by omega) (hM.at hd) hU hpc hy)) (fun v h1 hP => ?_) (fun _ _ h => by first | (obtain ⟨_, he, _⟩ := h; cases he; done) | (obtain ⟨_, he⟩ := h; cases he; done) | (obtain ⟨_, _, he, _⟩ := h; cases he; done) | (obtain ⟨_, _, _, he, _⟩ := h; cases he; done) | (simp only [Prod.mk.injEq, reduceCtorEq, false_and, exists_false] at h)))
    obtain ⟨x, w', he, hw, hx⟩ := hP
    cases he
    rcases hx with ⟨rfl, hV⟩ | ⟨rfl, hV⟩
    · rw [hV]
      refine (r_zne xc_131_22 xj_131_22 (fun hc22 => (r_ic xc_131_25 kc_2 (r_go xc_131_26 xj_131_26 ?_))) (fun hc22 => (r_ic xc_131_29 kc_0 ?_)))
      · have := L_part30 (X := X) (z := z) (a := a) (w := w') (y := y) (g := g) (i := nI i) (c := 2) (Or.inr rfl)
        refine this.mono (fun q hq => ?_)
        obtain ⟨w2, e, h2⟩ := hq
        exact ⟨w2, e, fun j hj => (h2 j hj).trans (hw j hj)⟩
      · exact absurd rfl hc22
    · rw [hV]
      refine (r_zne xc_131_22 xj_131_22 (fun hc22 => (r_ic xc_131_25 kc_2 (r_go xc_131_26 xj_131_26 (r_put xc_131_30 xf_131_73 rfl s_6_4 (r_aln xc_131_33 rfl (r_get xc_131_34 xf_131_73 g_6_4 (r_zeq xc_131_37 xj_131_37 (fun hc37 => (r_aln xc_131_44 rfl (r_get xc_131_45 xf_131_65 g_6_29 (r_iln xc_131_48 rfl (r_la xc_131_49 b_41 ?_ (r_rl xc_131_50 xrt_131 ?_)))))) (fun hc37 => (r_lc xc_131_40 kl_0 (r_go xc_131_41 xj_131_41 (r_rl xc_131_50 xrt_131 ?_))))))))))) (fun hc22 => (r_ic xc_131_29 kc_0 (r_put xc_131_30 xf_131_73 rfl s_6_4 (r_aln xc_131_33 rfl (r_get xc_131_34 xf_131_73 g_6_4 (r_zeq xc_131_37 xj_131_37 (fun hc37 => (r_aln xc_131_44 rfl (r_get xc_131_45 xf_131_65 g_6_29 (r_iln xc_131_48 rfl (r_la xc_131_49 b_41 ?_ (r_rl xc_131_50 xrt_131 ?_)))))) (fun hc37 => (r_lc xc_131_40 kl_0 (r_go xc_131_41 xj_131_41 (r_rl xc_131_50 xrt_131 ?_)))))))))))
      all_goals try exact absurd hc22 (by decide)
      · exact kI_in (by omega) (by omega)
      · rw [kI_cl (by omega)]; exact ⟨w', rfl, hw⟩
      · have hc37 : ¬ nI 0 = nI 0 := hc37
        exact absurd rfl hc37
  · rw [h13, kI_lt (by omega) (by omega)] at hc10; omega
theorem L_node27 {i jj : Int32} : p_E X 0 130 27 [some (.ref 22), some (.int i), some (.int jj), none] [.int (nI 1), .ref 22] (hp z a w y g) (MA z a w y g (.inl 1) (.int (nI 0))) := by
  refine (r_put xc_130_27 xf_130_73 rfl s_6_4 (r_aln xc_130_30 rfl (r_get xc_130_31 xf_130_73 g_6_4 (r_zeq xc_130_34 xj_130_34 (fun hc34 => ?_) (fun hc34 => (r_ic xc_130_37 kc_0 (r_ri xc_130_38 xrt_130 ?_)))))))
  · have hc34 : nI 1 = nI 0 := hc34
    exact absurd hc34 (by decide)
  · exact ⟨w, rfl, fun _ _ => rfl⟩
theorem M_nodeM_b {i jj : Int32} (h13 : z 13 = nI ns.length) (hb : (i < nI 0 ∨ ¬ i < nI ns.length) ∨ (jj < nI 0 ∨ ¬ jj < nI 6)) : p_M X 0 130 [.ref 22, .int i, .int jj] (hp z a w y g) (MA z a w y g (.inl 1) (.int (nI 0))) := by
  refine (r_in xin_130 (r_aln xc_130_0 rfl (r_iln xc_130_1 rfl (r_zlt xc_130_2 xj_130_2 (fun hc2 => (r_ic xc_130_22 kc_1 (r_go xc_130_23 xj_130_23 ?_))) (fun hc2 => (r_iln xc_130_5 rfl (r_aln xc_130_6 rfl (r_get xc_130_7 xf_130_174 g_6_15 (r_cge xc_130_10 xj_130_10 (fun hc10 => (r_iln xc_130_13 rfl (r_zlt xc_130_14 xj_130_14 (fun hc14 => (r_ic xc_130_22 kc_1 (r_go xc_130_23 xj_130_23 ?_))) (fun hc14 => (r_iln xc_130_17 rfl (r_ic xc_130_18 kc_5 (r_cle xc_130_19 xj_130_19 (fun hc19 => (r_ic xc_130_22 kc_1 (r_go xc_130_23 xj_130_23 ?_))) (fun hc19 => (r_ic xc_130_26 kc_0 ?_))))))))) (fun hc10 => (r_ic xc_130_22 kc_1 (r_go xc_130_23 xj_130_23 ?_))))))))))))
  · exact L_node27
  · exact L_node27
  · exact L_node27
  · exfalso
    rw [h13] at hc10
    rcases hb with (h | h) | (h | h)
    · exact hc2 h
    · exact h hc10
    · exact hc14 h
    · rw [Int32.lt_iff_toInt_lt, nI_toInt (by omega)] at h hc19
      omega
  · exact L_node27
theorem M_nodeM {k m : Nat} {v : pN} (hl : ns.length ≤ 60) (h13 : z 13 = nI ns.length) (hM : Mp a ns) (hv : ns[k]? = some v) (hm : m < 6) : p_M X 0 130 [.ref 22, .int (nI k), .int (nI m)] (hp z a w y g) (MA z a w y g (.inr (.int (nV k v m))) (.int (nI 0))) := by
  have hk := getElem?_lt hv
  obtain ⟨⟨m0, m1, m2, m3, _⟩, h18, h19⟩ := hM k v hv
  refine (r_in xin_130 (r_aln xc_130_0 rfl (r_iln xc_130_1 rfl (r_zlt xc_130_2 xj_130_2 (fun hc2 => (r_ic xc_130_22 kc_1 (r_go xc_130_23 xj_130_23 ?_))) (fun hc2 => (r_iln xc_130_5 rfl (r_aln xc_130_6 rfl (r_get xc_130_7 xf_130_174 g_6_15 (r_cge xc_130_10 xj_130_10 (fun hc10 => (r_iln xc_130_13 rfl (r_zlt xc_130_14 xj_130_14 (fun hc14 => (r_ic xc_130_22 kc_1 (r_go xc_130_23 xj_130_23 ?_))) (fun hc14 => (r_iln xc_130_17 rfl (r_ic xc_130_18 kc_5 (r_cle xc_130_19 xj_130_19 (fun hc19 => (r_ic xc_130_22 kc_1 (r_go xc_130_23 xj_130_23 ?_))) (fun hc19 => (r_ic xc_130_26 kc_0 ?_))))))))) (fun hc10 => (r_ic xc_130_22 kc_1 (r_go xc_130_23 xj_130_23 ?_))))))))))))
  · exact absurd hc2 (kI_neg (by omega))
  · exact absurd hc14 (kI_neg (by omega))
  · rw [kI_lt (by omega) (by omega)] at hc19; omega
  · refine (r_put xc_130_27 xf_130_73 rfl s_6_4 (r_aln xc_130_30 rfl (r_get xc_130_31 xf_130_73 g_6_4 (r_zeq xc_130_34 xj_130_34 (fun hc34 => (r_bi xc_130_39 kb_60 (r_iln xc_130_41 rfl (r_iadd xc_130_42 (r_isn [_, _, _, _] xc_130_43 rfl rfl (r_iln xc_130_44 rfl (r_ts xc_130_45 (by decide) (by decide) (fun j hj hx => ?_) (fun hx => ?_)))))))) (fun hc34 => (r_ic xc_130_37 kc_0 (r_ri xc_130_38 xrt_130 ?_)))))))
    · have hj : j < 5 := hj
      have hx : (nI m).toInt = 0 + (j : Int) := hx
      rw [nI_toInt (by omega)] at hx
      have hjm : m = j := by omega
      subst hjm
      rw [kI_add]
      match m, hj with
      | 0, _ =>
        change p_E _ _ _ 80 _ _ _ _
        refine (r_aln xc_130_80 rfl (r_get xc_130_81 xf_130_13 g_6_5 (r_iln xc_130_84 rfl (r_ia xc_130_85 b_24 ?_ (r_ri xc_130_86 xrt_130 ?_)))))
        · exact kI_in (by omega) (by omega)
        · rw [kI_cl (by omega), m0]; exact ⟨w, rfl, fun _ _ => rfl⟩
      | 1, _ =>
        change p_E _ _ _ 87 _ _ _ _
        refine (r_aln xc_130_87 rfl (r_get xc_130_88 xf_130_16 g_6_6 (r_iln xc_130_91 rfl (r_ia xc_130_92 b_25 ?_ (r_ri xc_130_93 xrt_130 ?_)))))
        · exact kI_in (by omega) (by omega)
        · rw [kI_cl (by omega), m1]; exact ⟨w, rfl, fun _ _ => rfl⟩
      | 2, _ =>
        change p_E _ _ _ 94 _ _ _ _
        refine (r_aln xc_130_94 rfl (r_get xc_130_95 xf_130_19 g_6_7 (r_iln xc_130_98 rfl (r_ia xc_130_99 b_26 ?_ (r_ri xc_130_100 xrt_130 ?_)))))
        · exact kI_in (by omega) (by omega)
        · rw [kI_cl (by omega), m2]; exact ⟨w, rfl, fun _ _ => rfl⟩
      | 3, _ =>
        change p_E _ _ _ 101 _ _ _ _
        refine (r_aln xc_130_101 rfl (r_get xc_130_102 xf_130_22 g_6_8 (r_iln xc_130_105 rfl (r_ia xc_130_106 b_27 ?_ (r_ri xc_130_107 xrt_130 ?_)))))
        · exact kI_in (by omega) (by omega)
        · rw [kI_cl (by omega), h18]; exact ⟨w, rfl, fun _ _ => rfl⟩
      | 4, _ =>
        change p_E _ _ _ 108 _ _ _ _
        refine (r_aln xc_130_108 rfl (r_get xc_130_109 xf_130_25 g_6_9 (r_iln xc_130_112 rfl (r_ia xc_130_113 b_28 ?_ (r_ri xc_130_114 xrt_130 ?_)))))
        · exact kI_in (by omega) (by omega)
        · rw [kI_cl (by omega), h19]; exact ⟨w, rfl, fun _ _ => rfl⟩
    · have hx : (nI m).toInt < 0 ∨ 4 < (nI m).toInt := hx
      rw [nI_toInt (by omega)] at hx
      have h5 : m = 5 := by omega
      subst h5
      rw [kI_add]
      change p_E _ _ _ 115 _ _ _ _
      refine (r_aln xc_130_115 rfl (r_get xc_130_116 xf_130_28 g_6_10 (r_iln xc_130_119 rfl (r_ia xc_130_120 b_29 ?_ (r_ri xc_130_121 xrt_130 ?_)))))
      · exact kI_in (by omega) (by omega)
      · rw [kI_cl (by omega), m3]; exact ⟨w, rfl, fun _ _ => rfl⟩
    · have hc34 : ¬ nI 0 = nI 0 := hc34
      exact absurd rfl hc34
  · rw [h13, kI_lt (by omega) (by omega)] at hc10; omega
theorem M_atM_b {i : Int32} {L : Nat} (h17 : z 17 = nI L) (hb : i < nI 0 ∨ ¬ i < nI L) : p_M X 0 141 [.ref 22, .int i] (hp z a w y g) (MA z a w y g (.inl 1) (.int (nI 0))) := by
  have go : p_E X 0 141 18 [some (.ref 22), some (.int i)] [.int (nI 1), .ref 22] (hp z a w y g) (MA z a w y g (.inl 1) (.int (nI 0))) := by
    refine (r_put xc_141_18 xf_141_73 rfl s_6_4 (r_aln xc_141_21 rfl (r_get xc_141_22 xf_141_73 g_6_4 (r_zeq xc_141_25 xj_141_25 (fun hc25 => (r_aln xc_141_32 rfl (r_get xc_141_33 xf_141_68 g_6_30 (r_iln xc_141_36 rfl (r_ia xc_141_37 b_42 ?_ (r_ri xc_141_38 xrt_141 ?_)))))) (fun hc25 => (r_ic xc_141_28 kc_0 (r_go xc_141_29 xj_141_29 (r_ri xc_141_38 xrt_141 ?_))))))))
    · have hc25 : nI 1 = nI 0 := hc25
      exact absurd hc25 (by decide)
    · have hc25 : nI 1 = nI 0 := hc25
      exact absurd hc25 (by decide)
    · exact ⟨w, rfl, fun _ _ => rfl⟩
  refine (r_in xin_141 (r_aln xc_141_0 rfl (r_iln xc_141_1 rfl (r_zlt xc_141_2 xj_141_2 (fun hc2 => (r_ic xc_141_13 kc_1 (r_go xc_141_14 xj_141_14 ?_))) (fun hc2 => (r_iln xc_141_5 rfl (r_aln xc_141_6 rfl (r_get xc_141_7 xf_141_232 g_6_31 (r_clt xc_141_10 xj_141_10 (fun hc10 => (r_ic xc_141_17 kc_0 ?_)) (fun hc10 => (r_ic xc_141_13 kc_1 (r_go xc_141_14 xj_141_14 ?_))))))))))))
  · exact go
  · exfalso
    rw [h17] at hc10
    rcases hb with h | h
    · exact hc2 h
    · exact h hc10
  · exact go
theorem M_atM {k L : Nat} (h17 : z 17 = nI L) (hL : L ≤ 900) (hk : k < L) : p_M X 0 141 [.ref 22, .int (nI k)] (hp z a w y g) (MA z a w y g (.inr (.int (a 31 k))) (.int (nI 0))) := by
  refine (r_in xin_141 (r_aln xc_141_0 rfl (r_iln xc_141_1 rfl (r_zlt xc_141_2 xj_141_2 (fun hc2 => (r_ic xc_141_13 kc_1 (r_go xc_141_14 xj_141_14 ?_))) (fun hc2 => (r_iln xc_141_5 rfl (r_aln xc_141_6 rfl (r_get xc_141_7 xf_141_232 g_6_31 (r_clt xc_141_10 xj_141_10 (fun hc10 => (r_ic xc_141_17 kc_0 ?_)) (fun hc10 => (r_ic xc_141_13 kc_1 (r_go xc_141_14 xj_141_14 ?_))))))))))))
  · exact absurd hc2 (kI_neg (by omega))
  · refine (r_put xc_141_18 xf_141_73 rfl s_6_4 (r_aln xc_141_21 rfl (r_get xc_141_22 xf_141_73 g_6_4 (r_zeq xc_141_25 xj_141_25 (fun hc25 => (r_aln xc_141_32 rfl (r_get xc_141_33 xf_141_68 g_6_30 (r_iln xc_141_36 rfl (r_ia xc_141_37 b_42 ?_ (r_ri xc_141_38 xrt_141 ?_)))))) (fun hc25 => (r_ic xc_141_28 kc_0 (r_go xc_141_29 xj_141_29 (r_ri xc_141_38 xrt_141 ?_))))))))
    · exact kI_in (by omega) (by omega)
    · rw [kI_cl (by omega)]; exact ⟨w, rfl, fun _ _ => rfl⟩
    · have hc25 : ¬ nI 0 = nI 0 := hc25
      exact absurd rfl hc25
  · rw [h17, kI_lt (by omega) (by omega)] at hc10; omega
theorem M_stepM {e p : Int64} : p_M X 0 142 [.ref 22, .long e, .long p] (hp z a w y g) (MA z a w y g (match stS e p with
    | .inl ci => .inl (if ci = 7 then 1 else 2)
    | .inr x => .inr (.long x)) (.long 0)) := by
  have bad : (e < 0 ∨ 1000000000 < e) ∨ (p < 0 ∨ 1000000000 < p) → p_E X 0 142 33 [some (.ref 22), some (.long e), none, some (.long p), none, none] [.int (nI 0)] (hp z a w y g) (MA z a w y g (match stS e p with
      | .inl ci => .inl (if ci = 7 then 1 else 2)
      | .inr x => .inr (.long x)) (.long 0)) := by
    intro hb
    unfold stS
    rw [if_pos hb]
    refine (r_is [_, _, _, _, _, _] xc_142_33 rfl rfl (r_aln xc_142_35 rfl (r_il xc_142_36 rfl (r_zne xc_142_38 xj_142_38 (fun hc38 => (r_ic xc_142_41 kc_1 (r_go xc_142_42 xj_142_42 ?_))) (fun hc38 => (r_lln xc_142_45 rfl (r_lc xc_142_46 kl_0 (r_lne xc_142_47 xc_142_48 xj_142_48 (fun hc48 => (r_ic xc_142_51 kc_2 (r_go xc_142_52 xj_142_52 ?_))) (fun hc48 => (r_ic xc_142_55 kc_0 ?_))))))))))
    · refine (r_put xc_142_56 xf_142_73 rfl s_6_4 (r_aln xc_142_59 rfl (r_get xc_142_60 xf_142_73 g_6_4 (r_zeq xc_142_63 xj_142_63 (fun hc63 => (r_lln xc_142_70 rfl (r_ldl xc_142_71 xl_142_200 (r_lmul xc_142_74 (r_lln xc_142_75 rfl (r_ldiv xc_142_76 ?_ (r_rl xc_142_77 xrt_142 ?_))))))) (fun hc63 => (r_lc xc_142_66 kl_0 (r_go xc_142_67 xj_142_67 (r_rl xc_142_77 xrt_142 ?_))))))))
      · have hc63 : nI 1 = nI 0 := hc63
        exact absurd hc63 (by decide)
      · have hc63 : nI 1 = nI 0 := hc63
        exact absurd hc63 (by decide)
      · exact ⟨w, rfl, fun _ _ => rfl⟩
    · exact absurd rfl hc38
    · exact absurd rfl hc38
  refine (r_in xin_142 (r_lln xc_142_0 rfl (r_lc xc_142_1 kl_0 (r_llt xc_142_2 xc_142_3 xj_142_3 (fun hc3 => (r_ic xc_142_32 kc_0 ?_)) (fun hc3 => (r_lln xc_142_6 rfl (r_ldl xc_142_7 xl_142_263 (r_lgt xc_142_10 xc_142_11 xj_142_11 (fun hc11 => (r_ic xc_142_32 kc_0 ?_)) (fun hc11 => (r_lln xc_142_14 rfl (r_lc xc_142_15 kl_0 (r_llt xc_142_16 xc_142_17 xj_142_17 (fun hc17 => (r_ic xc_142_32 kc_0 ?_)) (fun hc17 => (r_lln xc_142_20 rfl (r_ldl xc_142_21 xl_142_263 (r_lgt xc_142_24 xc_142_25 xj_142_25 (fun hc25 => (r_ic xc_142_32 kc_0 ?_)) (fun hc25 => (r_ic xc_142_28 kc_1 (r_go xc_142_29 xj_142_29 ?_)))))))))))))))))))
  · exact bad (Or.inl (Or.inl hc3))
  · exact bad (Or.inl (Or.inr hc11))
  · exact bad (Or.inr (Or.inl hc17))
  · exact bad (Or.inr (Or.inr hc25))
  · unfold stS
    rw [if_neg (by rintro ((h | h) | (h | h)); exact hc3 h; exact hc11 h; exact hc17 h; exact hc25 h)]
    refine (r_is [_, _, _, _, _, _] xc_142_33 rfl rfl (r_aln xc_142_35 rfl (r_il xc_142_36 rfl (r_zne xc_142_38 xj_142_38 (fun hc38 => (r_ic xc_142_41 kc_1 (r_go xc_142_42 xj_142_42 ?_))) (fun hc38 => (r_lln xc_142_45 rfl (r_lc xc_142_46 kl_0 (r_lne xc_142_47 xc_142_48 xj_142_48 (fun hc48 => (r_ic xc_142_51 kc_2 (r_go xc_142_52 xj_142_52 ?_))) (fun hc48 => (r_ic xc_142_55 kc_0 ?_))))))))))
    · exact absurd hc38 (by decide)
    · rw [if_pos hc48]
      refine (r_put xc_142_56 xf_142_73 rfl s_6_4 (r_aln xc_142_59 rfl (r_get xc_142_60 xf_142_73 g_6_4 (r_zeq xc_142_63 xj_142_63 (fun hc63 => (r_lln xc_142_70 rfl (r_ldl xc_142_71 xl_142_200 (r_lmul xc_142_74 (r_lln xc_142_75 rfl (r_ldiv xc_142_76 ?_ (r_rl xc_142_77 xrt_142 ?_))))))) (fun hc63 => (r_lc xc_142_66 kl_0 (r_go xc_142_67 xj_142_67 (r_rl xc_142_77 xrt_142 ?_))))))))
      · have hc63 : nI 2 = nI 0 := hc63
        exact absurd hc63 (by decide)
      · have hc63 : nI 2 = nI 0 := hc63
        exact absurd hc63 (by decide)
      · exact ⟨w, rfl, fun _ _ => rfl⟩
    · rw [if_neg hc48]
      refine (r_put xc_142_56 xf_142_73 rfl s_6_4 (r_aln xc_142_59 rfl (r_get xc_142_60 xf_142_73 g_6_4 (r_zeq xc_142_63 xj_142_63 (fun hc63 => (r_lln xc_142_70 rfl (r_ldl xc_142_71 xl_142_200 (r_lmul xc_142_74 (r_lln xc_142_75 rfl (r_ldiv xc_142_76 ?_ (r_rl xc_142_77 xrt_142 ?_))))))) (fun hc63 => (r_lc xc_142_66 kl_0 (r_go xc_142_67 xj_142_67 (r_rl xc_142_77 xrt_142 ?_))))))))
      · exact hc48
      · exact ⟨w, rfl, fun _ _ => rfl⟩
      · have hc63 : ¬ nI 0 = nI 0 := hc63
        exact absurd rfl hc63
end MCALLS
