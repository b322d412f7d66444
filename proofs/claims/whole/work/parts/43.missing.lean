/-! ===== missing ===== -/
theorem msF_neg {B : Nat → Prop} {i : Int32} (hi : i < nI 0) : ∀ k u n, n + k ≤ 100 → msF B i k u n = -1 := by
  intro k
  induction k with
  | zero => intro u n _; rfl
  | succ k ih =>
    intro u n hn
    show p_if (B u) (if nI n = i then nI u else msF B i k (u + 1) (n + 1)) (msF B i k (u + 1) n) = -1
    refine p_if_d (fun _ => ?_) (fun _ => ih _ _ (by omega))
    rw [if_neg (fun h => by rw [← h] at hi; exact kI_neg (by omega) hi)]
    exact ih _ _ (by omega)
theorem ah_0 {i : Int32} {n : Nat} : i - nI n = nI 0 ↔ nI n = i := by
  constructor
  · intro h
    have : i = i - nI n + nI n := (Int32.sub_add_cancel _ _).symm
    rw [this, h]
    exact (Int32.zero_add _).symm
  · intro h
    rw [h]
    exact Int32.sub_self _
theorem ah_1 {i : Int32} {n : Nat} : i - nI n - nI 1 = i - nI (n + 1) := by
  rw [← kI_add]
  exact Int32.sub_sub ..
section MISS
variable {X : pX} {z : Nat → Int32} {a : Nat → Nat → Int32} {w : Nat → Nat → Int64} {y : Nat → Int64} {g : List pE} {A : Nat → Option Nat} {M G : Nat → Nat} {ns : List pN}
theorem amt_big (hU : UNI a w A M G) {u : Nat} (hu : u < 8) : ∀ x, amt A M G 8 1 u = some x → x < 9223372036854775808 := by
  intro x hx
  have key : ∀ (B : Nat → Option Nat), (∀ v, v < 8 → B v = A v) → ∀ k f v, v < 8 → amt B M G k f v = amt A M G k f v := by
    intro B hB k
    induction k with
    | zero => intro f v _; rfl
    | succ k ih =>
      intro f v hv
      rw [amt_s, amt_s, hB v hv]
      cases A v with
      | some x => rfl
      | none =>
        dsimp only
        split
        · rfl
        · exact ih _ _ (hU v hv).2.2.2.2.2.2.2.1
  have e := key (fun v => if v < 8 then A v else none) (fun v hv => if_pos hv) 8 1 u hu
  rw [← e] at hx
  have := amt_le (A := fun v => if v < 8 then A v else none) (M := M) (G := G) (fun v x hv => by
    split at hv
    · next h => exact (hU v h).2.2.2.2.2.2.1 x hv
    · cases hv) 8 1 u x (by omega) hx
  omega
/-- a unit is wanting -/
def wanting (A : Nat → Option Nat) (M G : Nat → Nat) (ns : List pN) (u : Nat) : Prop := nm ns u ∧ amt A M G 8 1 u = none
theorem msF_s {B : Nat → Prop} {i : Int32} {k u n : Nat} : msF B i (k + 1) u n = p_if (B u) (if nI n = i then nI u else msF B i k (u + 1) (n + 1)) (msF B i k (u + 1) n) := rfl
theorem L_missC {r : Nat} {i : Int32} (hU : UNI a w A M G) (hR : Rp a r 0 ns) (hv : ∀ v ∈ ns, v.2.2.1 ≤ 8 ∧ v.1 < 8) (h1 : z 1 = nI ns.length) (hl : ns.length ≤ 60) : ∀ k u n, u + k = 8 → n ≤ u → p_E X 2 56 10 [some (.ref 0), some (.int i), some (.int (i - nI n)), some (.int (nI u))] [] (hp z a w y g) (fun q => q = (.inl (some (.int (msF (wanting A M G ns) i k u n))), hp z a w y g)) := by
  intro k
  induction k with
  | zero =>
    intro u n hu hn
    refine (r_iln xc_56_10 rfl (r_bi xc_56_11 kb_8 (r_cge xc_56_13 xj_56_13 (fun hc13 => (r_aln xc_56_16 rfl (r_get xc_56_17 xf_56_12 g_5_0 (r_iln xc_56_20 rfl ?_)))) (fun hc13 => (r_ic xc_56_57 kc_m1 (r_ri xc_56_58 xrt_56 ?_))))))
    · rw [kI_lt (by omega) (by omega)] at hc13; omega
    · rfl
  | succ k ih =>
    intro u n hu hn
    have hu8 : u < 8 := by omega
    refine (r_iln xc_56_10 rfl (r_bi xc_56_11 kb_8 (r_cge xc_56_13 xj_56_13 (fun hc13 => (r_aln xc_56_16 rfl (r_get xc_56_17 xf_56_12 g_5_0 (r_iln xc_56_20 rfl ?_)))) (fun hc13 => (r_ic xc_56_57 kc_m1 (r_ri xc_56_58 xrt_56 ?_))))))
    · by_cases hnm : nm ns u
      · refine (r_cv xc_56_21 xm_56_21 rfl xrc_57 rfl (p_M.up (p_mono (M_names hR hv h1 hl hu8) (fun q hq => by rw [p_if_t hnm] at hq; exact hq)) (by omega)) (r_zeq xc_56_24 xj_56_24 (fun hc24 => (r_inc [_, _, _, _] xc_56_51 rfl rfl (ki_1 _) rfl (r_go xc_56_54 xj_56_54 ?_))) (fun hc24 => (r_aln xc_56_27 rfl (r_get xc_56_28 xf_56_28 g_5_2 (r_iln xc_56_31 rfl ?_))))))
        · exact absurd hc24 (by decide)
        · refine (r_cv xc_56_32 xm_56_32 rfl xrc_58 rfl ((M_amtC hU hu8)) (r_ldl xc_56_35 xl_56_132 (r_lne xc_56_38 xc_56_39 xj_56_39 (fun hc39 => (r_iln xc_56_42 rfl (r_zne xc_56_43 xj_56_43 (fun hc43 => (r_iln xc_56_46 rfl (r_ri xc_56_47 xrt_56 ?_))) (fun hc43 => (r_inc [_, _, _, _] xc_56_48 rfl rfl (ki_m1 _) rfl (r_inc [_, _, _, _] xc_56_51 rfl rfl (ki_1 _) rfl (r_go xc_56_54 xj_56_54 ?_))))))) (fun hc39 => (r_inc [_, _, _, _] xc_56_51 rfl rfl (ki_1 _) rfl (r_go xc_56_54 xj_56_54 ?_))))))
          · rw [aL_m1 (amt_big hU hu8)] at hc39
            rw [ah_0] at hc43
            rw [msF_s, p_if_t ⟨hnm, hc39⟩, if_pos hc43]
          · rw [aL_m1 (amt_big hU hu8)] at hc39
            rw [ah_0] at hc43
            rw [msF_s, p_if_t ⟨hnm, hc39⟩, if_neg hc43, kI_add, ah_1]
            exact ih (u + 1) (n + 1) (by omega) (by omega)
          · rw [aL_m1 (amt_big hU hu8)] at hc39
            rw [msF_s, p_if_f (fun h => hc39 h.2), kI_add]
            exact ih (u + 1) n (by omega) (by omega)
      · refine (r_cv xc_56_21 xm_56_21 rfl xrc_57 rfl (p_M.up (p_mono (M_names hR hv h1 hl hu8) (fun q hq => by rw [p_if_f hnm] at hq; exact hq)) (by omega)) (r_zeq xc_56_24 xj_56_24 (fun hc24 => (r_inc [_, _, _, _] xc_56_51 rfl rfl (ki_1 _) rfl (r_go xc_56_54 xj_56_54 ?_))) (fun hc24 => (r_aln xc_56_27 rfl (r_get xc_56_28 xf_56_28 g_5_2 (r_iln xc_56_31 rfl ?_))))))
        · rw [msF_s, p_if_f (fun h => hnm h.1), kI_add]
          exact ih (u + 1) n (by omega) (by omega)
        · exact absurd rfl hc24
    · rw [kI_lt (by omega) (by omega)] at hc13; omega
theorem M_missC {r : Nat} {i : Int32} (hU : UNI a w A M G) (hR : Rp a r 0 ns) (hv : ∀ v ∈ ns, v.2.2.1 ≤ 8 ∧ v.1 < 8) (h1 : z 1 = nI ns.length) (hl : ns.length ≤ 60) : p_M X 2 56 [.ref 0, .int i] (hp z a w y g) (fun q => q = (.inl (some (.int (msF (wanting A M G ns) i 8 0 0))), hp z a w y g)) := by
  refine (r_in xin_56 (r_iln xc_56_0 rfl (r_zge xc_56_1 xj_56_1 (fun hc1 => (r_ic xc_56_4 kc_m1 (r_ri xc_56_5 xrt_56 ?_))) (fun hc1 => (r_iln xc_56_6 rfl (r_isn [_, _, _, _] xc_56_7 rfl rfl (r_ic xc_56_8 kc_0 (r_isn [_, _, _, _] xc_56_9 rfl rfl ?_))))))))
  · rw [msF_neg hc1 8 0 0 (by omega)]
  · have := L_missC (X := X) (y := y) (g := g) (i := i) hU hR hv h1 hl 8 0 0 (by omega) (by omega)
    have e : i - nI 0 = i := Int32.sub_zero _
    rw [e] at this
    exact this
theorem L_mn {u : Nat} {i nn : Int32} {Q : pR → Prop} (hM : Mp a ns) (hv : ∀ v ∈ ns, v.2.2.1 ≤ 8 ∧ v.1 < 8) (h13 : z 13 = nI ns.length) (hl : ns.length ≤ 60) (hu : u < 8)
    (k : ∀ v5, p_E X 1 132 65 [some (.ref 22), some (.int i), some (.int nn), some (.int (nI u)), some (.int (p_if (nm ns u) (nI 1) (nI 0))), v5] [] (hp z a w y g) Q) : ∀ r j, j + r = ns.length → p_E X 1 132 22 [some (.ref 22), some (.int i), some (.int nn), some (.int (nI u)), some (.int (p_if (nm (ns.take j) u) (nI 1) (nI 0))), some (.int (nI (60 + j)))] [] (hp z a w y g) Q := by
  intro r
  induction r with
  | zero =>
    intro j hj
    have hjl : j = ns.length := by omega
    subst hjl
    rw [List.take_length]
    refine (r_il xc_132_22 rfl (r_bi xc_132_24 kb_60 (r_aln xc_132_26 rfl (r_get xc_132_27 xf_132_174 g_6_15 (r_iadd xc_132_30 (r_cge xc_132_31 xj_132_31 (fun hc31 => (r_aln xc_132_34 rfl (r_get xc_132_35 xf_132_13 g_6_5 (r_il xc_132_38 rfl (r_ia xc_132_40 b_24 ?_ (r_ic xc_132_41 kc_2 (r_cne xc_132_42 xj_132_42 (fun hc42 => (r_aln xc_132_45 rfl (r_get xc_132_46 xf_132_19 g_6_7 (r_il xc_132_49 rfl (r_ia xc_132_51 b_26 ?_ (r_iln xc_132_52 rfl (r_cne xc_132_53 xj_132_53 (fun hc53 => (r_ic xc_132_56 kc_1 (r_is [_, _, _, _, _, _] xc_132_57 rfl rfl (r_inc [_, _, _, _, _, _] xc_132_59 rfl rfl (ki_1 _) rfl (r_go xc_132_62 xj_132_62 ?_))))) (fun hc53 => (r_inc [_, _, _, _, _, _] xc_132_59 rfl rfl (ki_1 _) rfl (r_go xc_132_62 xj_132_62 ?_)))))))))) (fun hc42 => (r_inc [_, _, _, _, _, _] xc_132_59 rfl rfl (ki_1 _) rfl (r_go xc_132_62 xj_132_62 ?_)))))))))) (fun hc31 => ?_)))))))
    all_goals try (rw [h13, kI_add, kI_lt (by omega) (by omega)] at hc31; omega)
    exact k _
  | succ r ih =>
    intro j hj
    have hjl : j < ns.length := by omega
    obtain ⟨v, hvj⟩ : ∃ v, ns[j]? = some v := ⟨_, List.getElem?_eq_getElem hjl⟩
    have hmem := List.mem_of_getElem? hvj
    obtain ⟨v8, v1⟩ := hv v hmem
    have hmv := (hM j v hvj).1
    have c15 : a 15 (nI (60 + j)).toNatClampNeg = nI v.1 := by rw [kI_cl (by omega)]; exact hmv.1
    have c17 : a 17 (nI (60 + j)).toNatClampNeg = nI v.2.2.1 - nI 1 := by rw [kI_cl (by omega)]; exact hmv.2.2.1
    have et : ns.take (j + 1) = ns.take j ++ [v] := by rw [List.take_succ, hvj]; rfl
    have nmt : nm (ns.take (j + 1)) u ↔ nm (ns.take j) u ∨ (v.1 = 2 ∧ v.2.2.1 = u + 1) := by
      rw [et]
      constructor
      · rintro ⟨x, hx, hc⟩
        rcases List.mem_append.mp hx with h | h
        · exact Or.inl ⟨x, h, hc⟩
        · rw [List.mem_singleton.mp h] at hc; exact Or.inr hc
      · rintro (⟨x, hx, hc⟩ | h)
        · exact ⟨x, List.mem_append.mpr (Or.inl hx), hc⟩
        · exact ⟨v, List.mem_append.mpr (Or.inr List.mem_cons_self), h⟩
    have nx : ¬ (v.1 = 2 ∧ v.2.2.1 = u + 1) → p_E X 1 132 22 [some (.ref 22), some (.int i), some (.int nn), some (.int (nI u)), some (.int (p_if (nm (ns.take j) u) (nI 1) (nI 0))), some (.int (nI (60 + j) + nI 1))] [] (hp z a w y g) Q := by
      intro hne
      have := ih (j + 1) (by omega)
      have e : (p_if (nm (ns.take (j + 1)) u) (nI 1) (nI 0)) = p_if (nm (ns.take j) u) (nI 1) (nI 0) := by
        by_cases h : nm (ns.take j) u
        · rw [p_if_t h, p_if_t (nmt.mpr (Or.inl h))]
        · rw [p_if_f h, p_if_f (fun h' => (nmt.mp h').elim h hne)]
      rw [e] at this
      rw [kI_add]
      exact this
    refine (r_il xc_132_22 rfl (r_bi xc_132_24 kb_60 (r_aln xc_132_26 rfl (r_get xc_132_27 xf_132_174 g_6_15 (r_iadd xc_132_30 (r_cge xc_132_31 xj_132_31 (fun hc31 => (r_aln xc_132_34 rfl (r_get xc_132_35 xf_132_13 g_6_5 (r_il xc_132_38 rfl (r_ia xc_132_40 b_24 ?_ (r_ic xc_132_41 kc_2 (r_cne xc_132_42 xj_132_42 (fun hc42 => (r_aln xc_132_45 rfl (r_get xc_132_46 xf_132_19 g_6_7 (r_il xc_132_49 rfl (r_ia xc_132_51 b_26 ?_ (r_iln xc_132_52 rfl (r_cne xc_132_53 xj_132_53 (fun hc53 => (r_ic xc_132_56 kc_1 (r_is [_, _, _, _, _, _] xc_132_57 rfl rfl (r_inc [_, _, _, _, _, _] xc_132_59 rfl rfl (ki_1 _) rfl (r_go xc_132_62 xj_132_62 ?_))))) (fun hc53 => (r_inc [_, _, _, _, _, _] xc_132_59 rfl rfl (ki_1 _) rfl (r_go xc_132_62 xj_132_62 ?_)))))))))) (fun hc42 => (r_inc [_, _, _, _, _, _] xc_132_59 rfl rfl (ki_1 _) rfl (r_go xc_132_62 xj_132_62 ?_)))))))))) (fun hc31 => ?_)))))))
    · exact kI_in (by omega) (by omega)
    · exact kI_in (by omega) (by omega)
    · rw [c15, kI_inj (by omega) (by omega)] at hc42
      rw [c17, un_e v8 hu] at hc53
      have := ih (j + 1) (by omega)
      rw [p_if_t (nmt.mpr (Or.inr ⟨hc42, hc53⟩))] at this
      rw [kI_add]
      exact this
    · refine nx (fun h => ?_)
      rw [c17, un_e v8 hu] at hc53
      exact hc53 h.2
    · refine nx (fun h => ?_)
      rw [c15, kI_inj (by omega) (by omega)] at hc42
      exact hc42 h.1
    · rw [h13, kI_add, kI_lt (by omega) (by omega)] at hc31; omega
theorem L_missM {i : Int32} (hU : UNI a w A M G) (hM : Mp a ns) (hv : ∀ v ∈ ns, v.2.2.1 ≤ 8 ∧ v.1 < 8) (h13 : z 13 = nI ns.length) (hl : ns.length ≤ 60) : ∀ k u n, u + k = 8 → n ≤ u → p_E X 1 132 9 [some (.ref 22), some (.int i), some (.int (nI n)), some (.int (nI u)), none, none] [] (hp z a w y g) (fun q => q = (.inl (some (.int (msF (wanting A M G ns) i k u n))), hp z a w y g)) := by
  intro k
  induction k with
  | zero =>
    intro u n hu hn
    refine (r_iln xc_132_9 rfl (r_bi xc_132_10 kb_8 (r_cge xc_132_12 xj_132_12 (fun hc12 => (r_ic xc_132_15 kc_0 (r_is [_, _, _, _, _, _] xc_132_16 rfl rfl (r_bi xc_132_18 kb_60 (r_is [_, _, _, _, _, _] xc_132_20 rfl rfl ?_))))) (fun hc12 => (r_ic xc_132_98 kc_m1 (r_ri xc_132_99 xrt_132 ?_))))))
    · rw [kI_lt (by omega) (by omega)] at hc12; omega
    · rfl
  | succ k ih =>
    intro u n hu hn
    have hu8 : u < 8 := by omega
    have fg : ∀ {x y2 : Option Value} {n' u' : Nat} {Q : pR → Prop}, p_E X 1 132 9 [some (.ref 22), some (.int i), some (.int (nI n')), some (.int (nI u')), none, none] [] (hp z a w y g) Q → p_E X 1 132 9 [some (.ref 22), some (.int i), some (.int (nI n')), some (.int (nI u')), x, y2] [] (hp z a w y g) Q := fun h => R_fg [_, _, _, _, none, none] (p_lle_eq (p_lle_eq (p_lle_eq (p_lle_eq (p_lle_no (p_lle_no p_lle_nil)))))) h
    refine (r_iln xc_132_9 rfl (r_bi xc_132_10 kb_8 (r_cge xc_132_12 xj_132_12 (fun hc12 => (r_ic xc_132_15 kc_0 (r_is [_, _, _, _, _, _] xc_132_16 rfl rfl (r_bi xc_132_18 kb_60 (r_is [_, _, _, _, _, _] xc_132_20 rfl rfl ?_))))) (fun hc12 => (r_ic xc_132_98 kc_m1 (r_ri xc_132_99 xrt_132 ?_))))))
    · have e0 : nI 0 = p_if (nm (ns.take 0) u) (nI 1) (nI 0) := by
        rw [p_if_f]
        rintro ⟨x, hx, _⟩
        simp at hx
      have := L_mn (X := X) (w := w) (y := y) (g := g) (i := i) (nn := nI n) (u := u) (Q := fun q => q = (.inl (some (.int (msF (wanting A M G ns) i (k + 1) u n))), hp z a w y g)) hM hv h13 hl hu8 (fun v5 => ?_) ns.length 0 (by omega)
      · rw [← e0] at this
        exact this
      · refine (r_il xc_132_65 rfl (r_zeq xc_132_67 xj_132_67 (fun hc67 => (r_inc [_, _, _, _, _, _] xc_132_92 rfl rfl (ki_1 _) rfl (r_go xc_132_95 xj_132_95 ?_))) (fun hc67 => (r_aln xc_132_70 rfl (r_iln xc_132_71 rfl ?_)))))
        · rw [pif01] at hc67
          rw [msF_s, p_if_f (show ¬ wanting A M G ns u from fun h => hc67 h.1), kI_add]
          exact fg (ih (u + 1) n (by omega) (by omega))
        · have hnm : nm ns u := Classical.byContradiction (fun h => hc67 (pif01.mpr h))
          refine (r_cv xc_132_72 xm_132_72 rfl xrc_126 rfl ((p_M.up (M_amtM hU hu8) (by omega))) (r_ldl xc_132_75 xl_132_71 (r_lne xc_132_78 xc_132_79 xj_132_79 (fun hc79 => (r_iln xc_132_82 rfl (r_iln xc_132_83 rfl (r_cne xc_132_84 xj_132_84 (fun hc84 => (r_iln xc_132_87 rfl (r_ri xc_132_88 xrt_132 ?_))) (fun hc84 => (r_inc [_, _, _, _, _, _] xc_132_89 rfl rfl (ki_1 _) rfl (r_inc [_, _, _, _, _, _] xc_132_92 rfl rfl (ki_1 _) rfl (r_go xc_132_95 xj_132_95 ?_)))))))) (fun hc79 => (r_inc [_, _, _, _, _, _] xc_132_92 rfl rfl (ki_1 _) rfl (r_go xc_132_95 xj_132_95 ?_))))))
          · rw [aM_m1] at hc79
            rw [msF_s, p_if_t (show wanting A M G ns u from ⟨hnm, hc79⟩), if_pos hc84]
          · rw [aM_m1] at hc79
            rw [msF_s, p_if_t (show wanting A M G ns u from ⟨hnm, hc79⟩), if_neg hc84, kI_add, kI_add]
            exact fg (ih (u + 1) (n + 1) (by omega) (by omega))
          · rw [aM_m1] at hc79
            rw [msF_s, p_if_f (show ¬ wanting A M G ns u from fun h => hc79 h.2), kI_add]
            exact fg (ih (u + 1) n (by omega) (by omega))
    · rw [kI_lt (by omega) (by omega)] at hc12; omega
theorem M_missM {i : Int32} (hU : UNI a w A M G) (hM : Mp a ns) (hv : ∀ v ∈ ns, v.2.2.1 ≤ 8 ∧ v.1 < 8) (h13 : z 13 = nI ns.length) (hl : ns.length ≤ 60) : p_M X 1 132 [.ref 22, .int i] (hp z a w y g) (fun q => q = (.inl (some (.int (msF (wanting A M G ns) i 8 0 0))), hp (u_ z 10 (nI 0)) a w y g)) := by
  refine (r_in xin_132 (r_aln xc_132_0 rfl (r_ic xc_132_1 kc_0 (r_put xc_132_2 xf_132_73 rfl s_6_4 (r_ic xc_132_5 kc_0 (r_isn [_, _, _, _, _, _] xc_132_6 rfl rfl (r_ic xc_132_7 kc_0 (r_isn [_, _, _, _, _, _] xc_132_8 rfl rfl ?_))))))))
  exact L_missM (z := u_ z 10 (nI 0)) hU hM hv h13 hl 8 0 0 (by omega) (by omega)
end MISS
