/-! ===== convert, sign, count, missing ===== -/
def badC (x x2 c : Int32) : Prop := ((x < nI 0 ∨ ¬ x < nI 8) ∨ (x2 < nI 0 ∨ ¬ x2 < nI 8)) ∨ (c < nI 0 ∨ nI 1000 < c)
theorem badC_or (x x2 c : Int32) : badC x x2 c ∨ ∃ u t k, u < 8 ∧ t < 8 ∧ k ≤ 1000 ∧ x = nI u ∧ x2 = nI t ∧ c = nI k := by
  rcases isU x with h | ⟨u, hu, e⟩
  · exact Or.inl (Or.inl (Or.inl h))
  · rcases isU x2 with h | ⟨t, ht, e2⟩
    · exact Or.inl (Or.inl (Or.inr h))
    · by_cases h : c < nI 0 ∨ nI 1000 < c
      · exact Or.inl (Or.inr h)
      · have e3 := kI_of2 (x := c) (fun h' => h (Or.inl h'))
        have h4 : ¬ nI 1000 < c := fun h' => h (Or.inr h')
        rw [e3, kI_lt (by omega) (by have := Int32.toInt_lt c; omega)] at h4
        exact Or.inr ⟨u, t, _, hu, ht, by omega, e, e2, e3⟩
theorem nU {u : Nat} (hu : u < 8) : ¬ (nI u < nI 0 ∨ ¬ nI u < nI 8) := by
  rintro (h | h)
  · exact kI_neg (by omega) h
  · exact h ((kI_lt (by omega) (by omega)).mpr hu)
section CALLS2
variable {X : pX} {z : Nat → Int32} {a : Nat → Nat → Int32} {w : Nat → Nat → Int64} {y : Nat → Int64} {g : List pE} {A : Nat → Option Nat} {M G : Nat → Nat}
theorem M_convC_b {x x2 c : Int32} (hb : badC x x2 c) : p_M X 2 53 [.ref 0, .int x, .int x2, .int c] (hp z a w y g) (fun q => q = (.inl (some (.int (nI 0))), hp z a w y g)) := by
  have key : p_M X 1 54 [.ref 13, .int x, .int x2, .int c] (hp z a w y g) (fun q => q = (.inl (some (.int (nI 0))), hp z a w y g)) := by
    refine (r_in xin_54 (r_iln xc_54_0 rfl ?_))
    rcases isU x with hx | ⟨u, hu, rfl⟩
    · refine (r_cv xc_54_1 xm_54_1 rfl xrc_52 rfl (M_unitC_n hx) (r_zeq xc_54_4 xj_54_4 (fun hc4 => (r_ic xc_54_25 kc_0 (r_rz xc_54_26 xrt_54 ?_ ?_))) (fun hc4 => (r_iln xc_54_7 rfl ?_))))
      · exact Or.inl rfl
      · rfl
      · exact absurd rfl hc4
    · refine (r_cv xc_54_1 xm_54_1 rfl xrc_52 rfl (M_unitC hu) (r_zeq xc_54_4 xj_54_4 (fun hc4 => (r_ic xc_54_25 kc_0 (r_rz xc_54_26 xrt_54 ?_ ?_))) (fun hc4 => (r_iln xc_54_7 rfl ?_))))
      · exact Or.inl rfl
      · exact absurd hc4 (by decide)
      · rcases isU x2 with hx | ⟨t, ht, rfl⟩
        · refine (r_cv xc_54_8 xm_54_8 rfl xrc_52 rfl (M_unitC_n hx) (r_zeq xc_54_11 xj_54_11 (fun hc11 => (r_ic xc_54_25 kc_0 (r_rz xc_54_26 xrt_54 ?_ ?_))) (fun hc11 => (r_iln xc_54_14 rfl (r_zlt xc_54_15 xj_54_15 (fun hc15 => (r_ic xc_54_25 kc_0 (r_rz xc_54_26 xrt_54 ?_ ?_))) (fun hc15 => (r_iln xc_54_18 rfl (r_si xc_54_19 ks_1000 (r_cle xc_54_22 xj_54_22 (fun hc22 => (r_ic xc_54_25 kc_0 (r_rz xc_54_26 xrt_54 ?_ ?_))) (fun hc22 => (r_iln xc_54_27 rfl (r_zle xc_54_28 xj_54_28 (fun hc28 => (r_aln xc_54_31 rfl (r_iln xc_54_32 rfl (r_iln xc_54_33 rfl ?_)))) (fun hc28 => (r_aln xc_54_42 rfl (r_get xc_54_43 xf_54_15 g_3_1 (r_iln xc_54_46 rfl (r_iln xc_54_47 rfl (r_ias xc_54_48 b_15 t_15 ?_ (r_aln xc_54_49 rfl (r_get xc_54_50 xf_54_19 g_3_2 (r_iln xc_54_53 rfl (r_iln xc_54_54 rfl (r_ias xc_54_55 b_16 t_16 ?_ (r_ic xc_54_56 kc_1 (r_rz xc_54_57 xrt_54 ?_ ?_)))))))))))))))))))))))))
          · exact Or.inl rfl
          · rfl
          all_goals exact absurd rfl hc11
        · have h2 : c < nI 0 ∨ nI 1000 < c := by
            rcases hb with (h | h) | h
            · exact absurd h (nU hu)
            · exact absurd h (nU ht)
            · exact h
          refine (r_cv xc_54_8 xm_54_8 rfl xrc_52 rfl (M_unitC ht) (r_zeq xc_54_11 xj_54_11 (fun hc11 => (r_ic xc_54_25 kc_0 (r_rz xc_54_26 xrt_54 ?_ ?_))) (fun hc11 => (r_iln xc_54_14 rfl (r_zlt xc_54_15 xj_54_15 (fun hc15 => (r_ic xc_54_25 kc_0 (r_rz xc_54_26 xrt_54 ?_ ?_))) (fun hc15 => (r_iln xc_54_18 rfl (r_si xc_54_19 ks_1000 (r_cle xc_54_22 xj_54_22 (fun hc22 => (r_ic xc_54_25 kc_0 (r_rz xc_54_26 xrt_54 ?_ ?_))) (fun hc22 => (r_iln xc_54_27 rfl (r_zle xc_54_28 xj_54_28 (fun hc28 => (r_aln xc_54_31 rfl (r_iln xc_54_32 rfl (r_iln xc_54_33 rfl ?_)))) (fun hc28 => (r_aln xc_54_42 rfl (r_get xc_54_43 xf_54_15 g_3_1 (r_iln xc_54_46 rfl (r_iln xc_54_47 rfl (r_ias xc_54_48 b_15 t_15 ?_ (r_aln xc_54_49 rfl (r_get xc_54_50 xf_54_19 g_3_2 (r_iln xc_54_53 rfl (r_iln xc_54_54 rfl (r_ias xc_54_55 b_16 t_16 ?_ (r_ic xc_54_56 kc_1 (r_rz xc_54_57 xrt_54 ?_ ?_)))))))))))))))))))))))))
          · exact Or.inl rfl
          · rfl
          · exact Or.inl rfl
          · rfl
          · exact Or.inl rfl
          · rfl
          all_goals
            rcases h2 with h | h
            · exact absurd h hc15
            · exact absurd h hc22
  refine (r_in xin_53 (r_aln xc_53_0 rfl (r_get xc_53_1 xf_53_28 g_5_2 (r_iln xc_53_4 rfl (r_iln xc_53_5 rfl (r_iln xc_53_6 rfl ?_))))))
  refine (r_cv xc_53_7 xm_53_7 rfl xrc_54 rfl (key) (r_rz xc_53_10 xrt_53 ?_ ?_))
  · exact Or.inl rfl
  · rfl
theorem M_convC {u t k : Nat} (hU : UNI a w A M G) (hu : u < 8) (ht : t < 8) (hk : k ≤ 1000) : p_M X 2 53 [.ref 0, .int (nI u), .int (nI t), .int (nI k)] (hp z a w y g) (fun q => ((k = 0 ∨ ¬ rl M G u 8 t) → q = (.inl (some (.int (nI 1))), hp z (u_ (u_ a 10 (upd (a 10) u (nI t))) 11 (upd (a 11) u (nI k))) w y g)) ∧ (¬ (k = 0 ∨ ¬ rl M G u 8 t) → q = (.inl (some (.int (nI 0))), hp z a w y g))) := by
  have key : p_M X 1 54 [.ref 13, .int (nI u), .int (nI t), .int (nI k)] (hp z a w y g) (fun q => ((k = 0 ∨ ¬ rl M G u 8 t) → q = (.inl (some (.int (nI 1))), hp z (u_ (u_ a 10 (upd (a 10) u (nI t))) 11 (upd (a 11) u (nI k))) w y g)) ∧ (¬ (k = 0 ∨ ¬ rl M G u 8 t) → q = (.inl (some (.int (nI 0))), hp z a w y g))) := by
    refine (r_in xin_54 (r_iln xc_54_0 rfl ?_))
    refine (r_cv xc_54_1 xm_54_1 rfl xrc_52 rfl (M_unitC hu) (r_zeq xc_54_4 xj_54_4 (fun hc4 => (r_ic xc_54_25 kc_0 (r_rz xc_54_26 xrt_54 ?_ ?_))) (fun hc4 => (r_iln xc_54_7 rfl ?_))))
    · exact Or.inl rfl
    · exact absurd hc4 (by decide)
    · refine (r_cv xc_54_8 xm_54_8 rfl xrc_52 rfl (M_unitC ht) (r_zeq xc_54_11 xj_54_11 (fun hc11 => (r_ic xc_54_25 kc_0 (r_rz xc_54_26 xrt_54 ?_ ?_))) (fun hc11 => (r_iln xc_54_14 rfl (r_zlt xc_54_15 xj_54_15 (fun hc15 => (r_ic xc_54_25 kc_0 (r_rz xc_54_26 xrt_54 ?_ ?_))) (fun hc15 => (r_iln xc_54_18 rfl (r_si xc_54_19 ks_1000 (r_cle xc_54_22 xj_54_22 (fun hc22 => (r_ic xc_54_25 kc_0 (r_rz xc_54_26 xrt_54 ?_ ?_))) (fun hc22 => (r_iln xc_54_27 rfl (r_zle xc_54_28 xj_54_28 (fun hc28 => (r_aln xc_54_31 rfl (r_iln xc_54_32 rfl (r_iln xc_54_33 rfl ?_)))) (fun hc28 => (r_aln xc_54_42 rfl (r_get xc_54_43 xf_54_15 g_3_1 (r_iln xc_54_46 rfl (r_iln xc_54_47 rfl (r_ias xc_54_48 b_15 t_15 ?_ (r_aln xc_54_49 rfl (r_get xc_54_50 xf_54_19 g_3_2 (r_iln xc_54_53 rfl (r_iln xc_54_54 rfl (r_ias xc_54_55 b_16 t_16 ?_ (r_ic xc_54_56 kc_1 (r_rz xc_54_57 xrt_54 ?_ ?_)))))))))))))))))))))))))
      · exact Or.inl rfl
      · exact absurd hc11 (by decide)
      · exact Or.inl rfl
      · exact absurd hc15 (kI_neg (by omega))
      · exact Or.inl rfl
      · rw [kI_lt (by omega) (by omega)] at hc22; omega
      · rw [kI_lt (by omega) (by omega)] at hc28
        by_cases hr : rl M G u 8 t
        · refine (r_cv xc_54_34 xm_54_34 rfl xrc_55 rfl ((p_mono (M_leads hU hu ht) (fun q hq => by rw [p_if_t hr] at hq; exact hq))) (r_zeq xc_54_37 xj_54_37 (fun hc37 => (r_aln xc_54_42 rfl (r_get xc_54_43 xf_54_15 g_3_1 (r_iln xc_54_46 rfl (r_iln xc_54_47 rfl (r_ias xc_54_48 b_15 t_15 ?_ (r_aln xc_54_49 rfl (r_get xc_54_50 xf_54_19 g_3_2 (r_iln xc_54_53 rfl (r_iln xc_54_54 rfl (r_ias xc_54_55 b_16 t_16 ?_ (r_ic xc_54_56 kc_1 (r_rz xc_54_57 xrt_54 ?_ ?_))))))))))))) (fun hc37 => (r_ic xc_54_40 kc_0 (r_rz xc_54_41 xrt_54 ?_ ?_)))))
          · exact absurd hc37 (by decide)
          · exact absurd hc37 (by decide)
          · exact absurd hc37 (by decide)
          · exact absurd hc37 (by decide)
          · exact Or.inl rfl
          · exact ⟨fun h => h.elim (fun h => by omega) (fun h => absurd hr h), fun _ => rfl⟩
        · refine (r_cv xc_54_34 xm_54_34 rfl xrc_55 rfl ((p_mono (M_leads hU hu ht) (fun q hq => by rw [p_if_f hr] at hq; exact hq))) (r_zeq xc_54_37 xj_54_37 (fun hc37 => (r_aln xc_54_42 rfl (r_get xc_54_43 xf_54_15 g_3_1 (r_iln xc_54_46 rfl (r_iln xc_54_47 rfl (r_ias xc_54_48 b_15 t_15 ?_ (r_aln xc_54_49 rfl (r_get xc_54_50 xf_54_19 g_3_2 (r_iln xc_54_53 rfl (r_iln xc_54_54 rfl (r_ias xc_54_55 b_16 t_16 ?_ (r_ic xc_54_56 kc_1 (r_rz xc_54_57 xrt_54 ?_ ?_))))))))))))) (fun hc37 => (r_ic xc_54_40 kc_0 (r_rz xc_54_41 xrt_54 ?_ ?_)))))
          · exact kI_in (by omega) (by omega)
          · exact kI_in (by omega) (by omega)
          · exact Or.inr rfl
          · rw [kI_cl (by omega)]
            exact ⟨fun _ => rfl, fun h => absurd (Or.inr hr) h⟩
          · exact absurd rfl hc37
          · exact absurd rfl hc37
      · exact kI_in (by omega) (by omega)
      · exact kI_in (by omega) (by omega)
      · exact Or.inr rfl
      · rw [kI_lt (by omega) (by omega)] at hc28
        rw [kI_cl (by omega)]
        exact ⟨fun _ => rfl, fun h => absurd (Or.inl (by omega)) h⟩
  refine (r_in xin_53 (r_aln xc_53_0 rfl (r_get xc_53_1 xf_53_28 g_5_2 (r_iln xc_53_4 rfl (r_iln xc_53_5 rfl (r_iln xc_53_6 rfl ?_))))))
  refine (r_cq xc_53_7 xm_53_7 rfl xrc_54 rfl ((p_mono key (fun q hq => by
    by_cases h : k = 0 ∨ ¬ rl M G u 8 t
    · exact (⟨_, _, hq.1 h, Or.inr rfl, hq⟩ : ∃ x h', q = (.inl (some (.int x)), h') ∧ (x = nI 0 ∨ x = nI 1) ∧ _)
    · exact ⟨_, _, hq.2 h, Or.inl rfl, hq⟩))) (fun v h1 hP => ?_) (fun _ _ h => by first | (obtain ⟨_, he, _⟩ := h; cases he; done) | (obtain ⟨_, he⟩ := h; cases he; done) | (obtain ⟨_, _, he, _⟩ := h; cases he; done) | (obtain ⟨_, _, _, he, _⟩ := h; cases he; done) | (simp only [Prod.mk.injEq, reduceCtorEq, false_and, exists_false] at h)))
  obtain ⟨x, h', he, hx, hq⟩ := hP
  cases he
  refine (r_rz xc_53_10 xrt_53 ?_ ?_)
  · exact hx
  · exact hq
theorem M_convM_b {x x2 c : Int32} (hb : badC x x2 c) : p_M X 1 121 [.ref 22, .int x, .int x2, .int c] (hp z a w y g) (fun q => q = (.inl (some (.int (nI 0))), hp (u_ z 10 (nI 0)) a w y g)) := by
  refine (r_in xin_121 (r_aln xc_121_0 rfl (r_ic xc_121_1 kc_0 (r_put xc_121_2 xf_121_73 rfl s_6_4 (r_iln xc_121_5 rfl ?_)))))
  rcases isU x with hx | ⟨u, hu, rfl⟩
  · refine (r_cv xc_121_6 xm_121_6 rfl xrc_120 rfl (M_unitM_n hx) (r_zeq xc_121_9 xj_121_9 (fun hc9 => (r_ic xc_121_30 kc_0 (r_rz xc_121_31 xrt_121 ?_ ?_))) (fun hc9 => (r_iln xc_121_12 rfl ?_))))
    · exact Or.inl rfl
    · rfl
    · exact absurd rfl hc9
  · refine (r_cv xc_121_6 xm_121_6 rfl xrc_120 rfl (M_unitM hu) (r_zeq xc_121_9 xj_121_9 (fun hc9 => (r_ic xc_121_30 kc_0 (r_rz xc_121_31 xrt_121 ?_ ?_))) (fun hc9 => (r_iln xc_121_12 rfl ?_))))
    · exact Or.inl rfl
    · exact absurd hc9 (by decide)
    · rcases isU x2 with hx | ⟨t, ht, rfl⟩
      · refine (r_cv xc_121_13 xm_121_13 rfl xrc_120 rfl (M_unitM_n hx) (r_zeq xc_121_16 xj_121_16 (fun hc16 => (r_ic xc_121_30 kc_0 (r_rz xc_121_31 xrt_121 ?_ ?_))) (fun hc16 => (r_iln xc_121_19 rfl (r_zlt xc_121_20 xj_121_20 (fun hc20 => (r_ic xc_121_30 kc_0 (r_rz xc_121_31 xrt_121 ?_ ?_))) (fun hc20 => (r_iln xc_121_23 rfl (r_si xc_121_24 ks_1000 (r_cle xc_121_27 xj_121_27 (fun hc27 => (r_ic xc_121_30 kc_0 (r_rz xc_121_31 xrt_121 ?_ ?_))) (fun hc27 => (r_iln xc_121_32 rfl (r_is [_, _, _, _, _, _] xc_121_33 rfl rfl (r_ic xc_121_35 kc_0 (r_is [_, _, _, _, _, _] xc_121_36 rfl rfl ?_))))))))))))))
        · exact Or.inl rfl
        · rfl
        all_goals exact absurd rfl hc16
      · have h2 : c < nI 0 ∨ nI 1000 < c := by
          rcases hb with (h | h) | h
          · exact absurd h (nU hu)
          · exact absurd h (nU ht)
          · exact h
        refine (r_cv xc_121_13 xm_121_13 rfl xrc_120 rfl (M_unitM ht) (r_zeq xc_121_16 xj_121_16 (fun hc16 => (r_ic xc_121_30 kc_0 (r_rz xc_121_31 xrt_121 ?_ ?_))) (fun hc16 => (r_iln xc_121_19 rfl (r_zlt xc_121_20 xj_121_20 (fun hc20 => (r_ic xc_121_30 kc_0 (r_rz xc_121_31 xrt_121 ?_ ?_))) (fun hc20 => (r_iln xc_121_23 rfl (r_si xc_121_24 ks_1000 (r_cle xc_121_27 xj_121_27 (fun hc27 => (r_ic xc_121_30 kc_0 (r_rz xc_121_31 xrt_121 ?_ ?_))) (fun hc27 => (r_iln xc_121_32 rfl (r_is [_, _, _, _, _, _] xc_121_33 rfl rfl (r_ic xc_121_35 kc_0 (r_is [_, _, _, _, _, _] xc_121_36 rfl rfl ?_))))))))))))))
        · exact Or.inl rfl
        · rfl
        · exact Or.inl rfl
        · rfl
        · exact Or.inl rfl
        · rfl
        · rcases h2 with h | h
          · exact absurd h hc20
          · exact absurd h hc27
/-- the model's half -/
def UNM (a : Nat → Nat → Int32) (M G : Nat → Nat) : Prop := ∀ u, u < 8 → a 29 u = nI (G u) ∧ a 30 u = nI (M u) ∧ G u < 8 ∧ M u ≤ 1000 ∧ cl M G 8 u
theorem UNI.m (h : UNI a w A M G) : UNM a M G := fun u hu => ⟨(h u hu).2.2.2.1, (h u hu).2.2.2.2.2.1, (h u hu).2.2.2.2.2.2.2⟩
theorem L_convM {u t k : Nat} (hU : UNM a M G) (hu : u < 8) (ht : t < 8) (hk : k ≤ 1000) : ∀ r i v, (i + r = 8 ∧ cl M G r v ∧ v < 8) → p_E X 1 121 38 [some (.ref 22), some (.int (nI u)), some (.int (nI t)), some (.int (nI k)), some (.int (nI v)), some (.int (nI i))] [] (hp z a w y g) (fun q => ((k = 0 ∨ ¬ rl M G u r v) → q = (.inl (some (.int (nI 1))), hp z (u_ (u_ a 29 (upd (a 29) u (nI t))) 30 (upd (a 30) u (nI k))) w y g)) ∧ (¬ (k = 0 ∨ ¬ rl M G u r v) → q = (.inl (some (.int (nI 0))), hp z a w y g))) := by
  intro r
  induction r with
  | zero => intro i v h; exact h.2.1.elim
  | succ r ih =>
    intro i v ⟨hi, hcl, hv⟩
    obtain ⟨u10, u11, uG, uM, _⟩ := hU v hv
    have c11 : a 30 (nI v).toNatClampNeg = nI (M v) := by rw [kI_cl (by omega)]; exact u11
    have c10 : a 29 (nI v).toNatClampNeg = nI (G v) := by rw [kI_cl (by omega)]; exact u10
    refine (r_il xc_121_38 rfl (r_bi xc_121_40 kb_8 (r_cge xc_121_42 xj_121_42 (fun hc42 => (r_iln xc_121_45 rfl (r_zle xc_121_46 xj_121_46 (fun hc46 => (r_il xc_121_49 rfl (r_iln xc_121_51 rfl (r_cne xc_121_52 xj_121_52 (fun hc52 => (r_ic xc_121_55 kc_0 (r_rz xc_121_56 xrt_121 ?_ ?_))) (fun hc52 => (r_aln xc_121_57 rfl (r_get xc_121_58 xf_121_62 g_6_28 (r_il xc_121_61 rfl (r_ia xc_121_63 b_40 ?_ (r_zne xc_121_64 xj_121_64 (fun hc64 => (r_bi xc_121_67 kb_8 (r_is [_, _, _, _, _, _] xc_121_69 rfl rfl (r_go xc_121_71 xj_121_71 (r_inc [_, _, _, _, _, _] xc_121_83 rfl rfl (ki_1 _) rfl (r_go xc_121_86 xj_121_86 ?_)))))) (fun hc64 => (r_aln xc_121_74 rfl (r_get xc_121_75 xf_121_59 g_6_27 (r_il xc_121_78 rfl (r_ia xc_121_80 b_39 ?_ (r_is [_, _, _, _, _, _] xc_121_81 rfl rfl (r_inc [_, _, _, _, _, _] xc_121_83 rfl rfl (ki_1 _) rfl (r_go xc_121_86 xj_121_86 ?_)))))))))))))))))) (fun hc46 => (r_aln xc_121_89 rfl (r_get xc_121_90 xf_121_59 g_6_27 (r_iln xc_121_93 rfl (r_iln xc_121_94 rfl (r_ias xc_121_95 b_39 t_39 ?_ (r_aln xc_121_96 rfl (r_get xc_121_97 xf_121_62 g_6_28 (r_iln xc_121_100 rfl (r_iln xc_121_101 rfl (r_ias xc_121_102 b_40 t_40 ?_ (r_ic xc_121_103 kc_1 (r_rz xc_121_104 xrt_121 ?_ ?_)))))))))))))))) (fun hc42 => (r_aln xc_121_89 rfl (r_get xc_121_90 xf_121_59 g_6_27 (r_iln xc_121_93 rfl (r_iln xc_121_94 rfl (r_ias xc_121_95 b_39 t_39 ?_ (r_aln xc_121_96 rfl (r_get xc_121_97 xf_121_62 g_6_28 (r_iln xc_121_100 rfl (r_iln xc_121_101 rfl (r_ias xc_121_102 b_40 t_40 ?_ (r_ic xc_121_103 kc_1 (r_rz xc_121_104 xrt_121 ?_ ?_))))))))))))))))
    · exact Or.inl rfl
    · rw [kI_lt (by omega) (by omega)] at hc46
      rw [kI_inj (by omega) (by omega)] at hc52
      exact ⟨fun h => h.elim (fun h => by omega) (fun h => absurd (Or.inl hc52) h), fun _ => rfl⟩
    · exact kI_in (by omega) (by omega)
    · rw [kI_lt (by omega) (by omega)] at hc46
      rw [kI_inj (by omega) (by omega)] at hc52
      rw [c11, kI_inj (by omega) (by omega)] at hc64
      rw [kI_add]
      have nr : ¬ rl M G u (r + 1) v := by rintro (h | h); exact hc52 h; exact h.1 hc64
      refine (r_il xc_121_38 rfl (r_bi xc_121_40 kb_8 (r_cge xc_121_42 xj_121_42 (fun hc42 => (r_iln xc_121_45 rfl (r_zle xc_121_46 xj_121_46 (fun hc46 => (r_il xc_121_49 rfl (r_iln xc_121_51 rfl (r_cne xc_121_52 xj_121_52 (fun hc52 => (r_ic xc_121_55 kc_0 (r_rz xc_121_56 xrt_121 ?_ ?_))) (fun hc52 => (r_aln xc_121_57 rfl (r_get xc_121_58 xf_121_62 g_6_28 (r_il xc_121_61 rfl (r_ia xc_121_63 b_40 ?_ (r_zne xc_121_64 xj_121_64 (fun hc64 => (r_bi xc_121_67 kb_8 (r_is [_, _, _, _, _, _] xc_121_69 rfl rfl (r_go xc_121_71 xj_121_71 (r_inc [_, _, _, _, _, _] xc_121_83 rfl rfl (ki_1 _) rfl (r_go xc_121_86 xj_121_86 ?_)))))) (fun hc64 => (r_aln xc_121_74 rfl (r_get xc_121_75 xf_121_59 g_6_27 (r_il xc_121_78 rfl (r_ia xc_121_80 b_39 ?_ (r_is [_, _, _, _, _, _] xc_121_81 rfl rfl (r_inc [_, _, _, _, _, _] xc_121_83 rfl rfl (ki_1 _) rfl (r_go xc_121_86 xj_121_86 ?_)))))))))))))))))) (fun hc46 => (r_aln xc_121_89 rfl (r_get xc_121_90 xf_121_59 g_6_27 (r_iln xc_121_93 rfl (r_iln xc_121_94 rfl (r_ias xc_121_95 b_39 t_39 ?_ (r_aln xc_121_96 rfl (r_get xc_121_97 xf_121_62 g_6_28 (r_iln xc_121_100 rfl (r_iln xc_121_101 rfl (r_ias xc_121_102 b_40 t_40 ?_ (r_ic xc_121_103 kc_1 (r_rz xc_121_104 xrt_121 ?_ ?_)))))))))))))))) (fun hc42 => (r_aln xc_121_89 rfl (r_get xc_121_90 xf_121_59 g_6_27 (r_iln xc_121_93 rfl (r_iln xc_121_94 rfl (r_ias xc_121_95 b_39 t_39 ?_ (r_aln xc_121_96 rfl (r_get xc_121_97 xf_121_62 g_6_28 (r_iln xc_121_100 rfl (r_iln xc_121_101 rfl (r_ias xc_121_102 b_40 t_40 ?_ (r_ic xc_121_103 kc_1 (r_rz xc_121_104 xrt_121 ?_ ?_))))))))))))))))
      all_goals try (rw [kI_lt (by omega) (by omega)] at hc42; omega)
      · exact kI_in (by omega) (by omega)
      · exact kI_in (by omega) (by omega)
      · exact Or.inr rfl
      · rw [kI_cl (by omega)]
        exact ⟨fun _ => rfl, fun h => absurd (Or.inr nr) h⟩
    · exact kI_in (by omega) (by omega)
    · rw [kI_inj (by omega) (by omega)] at hc52
      rw [c11, kI_inj (by omega) (by omega)] at hc64
      rw [c10, kI_add]
      have hcl2 : cl M G r (G v) := by
        rcases hcl with h | h
        · exact absurd h hc64
        · exact h
      have e : rl M G u (r + 1) v ↔ rl M G u r (G v) := ⟨fun h => h.elim (fun h => absurd h hc52) (fun h => h.2), fun h => Or.inr ⟨hc64, h⟩⟩
      refine (ih (i + 1) (G v) ⟨by omega, hcl2, uG⟩).mono (fun q hq => ?_)
      rw [e]
      exact hq
    · exact kI_in (by omega) (by omega)
    · exact kI_in (by omega) (by omega)
    · exact Or.inr rfl
    · rw [kI_lt (by omega) (by omega)] at hc46
      rw [kI_cl (by omega)]
      exact ⟨fun _ => rfl, fun h => absurd (Or.inl (by omega)) h⟩
    all_goals (rw [kI_lt (by omega) (by omega)] at hc42; omega)
theorem M_convM {u t k : Nat} (hU : UNM a M G) (hu : u < 8) (ht : t < 8) (hk : k ≤ 1000) : p_M X 1 121 [.ref 22, .int (nI u), .int (nI t), .int (nI k)] (hp z a w y g) (fun q => ((k = 0 ∨ ¬ rl M G u 8 t) → q = (.inl (some (.int (nI 1))), hp (u_ z 10 (nI 0)) (u_ (u_ a 29 (upd (a 29) u (nI t))) 30 (upd (a 30) u (nI k))) w y g)) ∧ (¬ (k = 0 ∨ ¬ rl M G u 8 t) → q = (.inl (some (.int (nI 0))), hp (u_ z 10 (nI 0)) a w y g))) := by
  refine (r_in xin_121 (r_aln xc_121_0 rfl (r_ic xc_121_1 kc_0 (r_put xc_121_2 xf_121_73 rfl s_6_4 (r_iln xc_121_5 rfl ?_)))))
  refine (r_cv xc_121_6 xm_121_6 rfl xrc_120 rfl (M_unitM hu) (r_zeq xc_121_9 xj_121_9 (fun hc9 => (r_ic xc_121_30 kc_0 (r_rz xc_121_31 xrt_121 ?_ ?_))) (fun hc9 => (r_iln xc_121_12 rfl ?_))))
  · exact Or.inl rfl
  · exact absurd hc9 (by decide)
  · refine (r_cv xc_121_13 xm_121_13 rfl xrc_120 rfl (M_unitM ht) (r_zeq xc_121_16 xj_121_16 (fun hc16 => (r_ic xc_121_30 kc_0 (r_rz xc_121_31 xrt_121 ?_ ?_))) (fun hc16 => (r_iln xc_121_19 rfl (r_zlt xc_121_20 xj_121_20 (fun hc20 => (r_ic xc_121_30 kc_0 (r_rz xc_121_31 xrt_121 ?_ ?_))) (fun hc20 => (r_iln xc_121_23 rfl (r_si xc_121_24 ks_1000 (r_cle xc_121_27 xj_121_27 (fun hc27 => (r_ic xc_121_30 kc_0 (r_rz xc_121_31 xrt_121 ?_ ?_))) (fun hc27 => (r_iln xc_121_32 rfl (r_is [_, _, _, _, _, _] xc_121_33 rfl rfl (r_ic xc_121_35 kc_0 (r_is [_, _, _, _, _, _] xc_121_36 rfl rfl ?_))))))))))))))
    · exact Or.inl rfl
    · exact absurd hc16 (by decide)
    · exact Or.inl rfl
    · exact absurd hc20 (kI_neg (by omega))
    · exact Or.inl rfl
    · rw [kI_lt (by omega) (by omega)] at hc27; omega
    · exact L_convM hU hu ht hk 8 0 t ⟨by omega, (hU t ht).2.2.2.2, ht⟩
/-! sign -/
theorem M_signM_y {n : Nat} {c : Int32} (h7 : z 7 = nI n) (hn : n < 300) (hc : okS c) : p_M X 0 94 [.ref 22, .int c] (hp z a w y g) (fun q => q = (.inl (some (.int (nI 1))), hp (u_ (u_ z 10 (nI 0)) 7 (nI (n + 1))) (u_ a 14 (upd (a 14) n c)) w y g)) := by
  refine (r_in xin_94 (r_aln xc_94_0 rfl (r_ic xc_94_1 kc_0 (r_put xc_94_2 xf_94_73 rfl s_6_4 (r_iln xc_94_5 rfl (r_bi xc_94_6 kb_32 (r_clt xc_94_8 xj_94_8 (fun hc8 => (r_ic xc_94_27 kc_0 (r_rz xc_94_28 xrt_94 ?_ ?_))) (fun hc8 => (r_iln xc_94_11 rfl (r_bi xc_94_12 kb_126 (r_cgt xc_94_14 xj_94_14 (fun hc14 => (r_ic xc_94_27 kc_0 (r_rz xc_94_28 xrt_94 ?_ ?_))) (fun hc14 => (r_aln xc_94_17 rfl (r_get xc_94_18 xf_94_77 g_6_1 (r_si xc_94_21 ks_300 (r_cne xc_94_24 xj_94_24 (fun hc24 => (r_ic xc_94_27 kc_0 (r_rz xc_94_28 xrt_94 ?_ ?_))) (fun hc24 => (r_aln xc_94_29 rfl (r_get xc_94_30 xf_94_7 g_6_0 (r_aln xc_94_33 rfl (r_get xc_94_34 xf_94_77 g_6_1 (r_iln xc_94_37 rfl (r_ias xc_94_38 b_23 t_23 ?_ (r_aln xc_94_39 rfl (r_dup xc_94_40 rfl (r_get xc_94_41 xf_94_77 g_6_1 (r_ic xc_94_44 kc_1 (r_iadd xc_94_45 (r_put xc_94_46 xf_94_77 rfl s_6_1 (r_ic xc_94_49 kc_1 (r_rz xc_94_50 xrt_94 ?_ ?_)))))))))))))))))))))))))))))))
  · exact Or.inl rfl
  · exact absurd hc8 hc.1
  · exact Or.inl rfl
  · exact absurd hc14 hc.2
  · exact Or.inl rfl
  · have hc24 : z 7 = nI 300 := hc24
    rw [h7, kI_inj (by omega) (by omega)] at hc24; omega
  · show p_inI (z 7) _
    rw [h7]; exact kI_in (by omega) (by omega)
  · exact Or.inr rfl
  · have e : u_ z 10 (nI 0) 7 = nI n := h7
    rw [e, kI_cl (by omega), kI_add]
theorem M_signM_n {n : Nat} {c : Int32} (h7 : z 7 = nI n) (hn : n ≤ 300) (hc : ¬ (okS c ∧ n < 300)) : p_M X 0 94 [.ref 22, .int c] (hp z a w y g) (fun q => q = (.inl (some (.int (nI 0))), hp (u_ z 10 (nI 0)) a w y g)) := by
  have no : ¬ c < nI 32 → ¬ nI 126 < c → ¬ z 7 = nI 300 → False := fun h1 h2 h3 => hc ⟨⟨h1, h2⟩, by rw [h7, kI_inj (by omega) (by omega)] at h3; omega⟩
  refine (r_in xin_94 (r_aln xc_94_0 rfl (r_ic xc_94_1 kc_0 (r_put xc_94_2 xf_94_73 rfl s_6_4 (r_iln xc_94_5 rfl (r_bi xc_94_6 kb_32 (r_clt xc_94_8 xj_94_8 (fun hc8 => (r_ic xc_94_27 kc_0 (r_rz xc_94_28 xrt_94 ?_ ?_))) (fun hc8 => (r_iln xc_94_11 rfl (r_bi xc_94_12 kb_126 (r_cgt xc_94_14 xj_94_14 (fun hc14 => (r_ic xc_94_27 kc_0 (r_rz xc_94_28 xrt_94 ?_ ?_))) (fun hc14 => (r_aln xc_94_17 rfl (r_get xc_94_18 xf_94_77 g_6_1 (r_si xc_94_21 ks_300 (r_cne xc_94_24 xj_94_24 (fun hc24 => (r_ic xc_94_27 kc_0 (r_rz xc_94_28 xrt_94 ?_ ?_))) (fun hc24 => (r_aln xc_94_29 rfl (r_get xc_94_30 xf_94_7 g_6_0 (r_aln xc_94_33 rfl (r_get xc_94_34 xf_94_77 g_6_1 (r_iln xc_94_37 rfl (r_ias xc_94_38 b_23 t_23 ?_ (r_aln xc_94_39 rfl (r_dup xc_94_40 rfl (r_get xc_94_41 xf_94_77 g_6_1 (r_ic xc_94_44 kc_1 (r_iadd xc_94_45 (r_put xc_94_46 xf_94_77 rfl s_6_1 (r_ic xc_94_49 kc_1 (r_rz xc_94_50 xrt_94 ?_ ?_)))))))))))))))))))))))))))))))
  · exact Or.inl rfl
  · rfl
  · exact Or.inl rfl
  · rfl
  · exact Or.inl rfl
  · rfl
  · exact (no hc8 hc14 hc24).elim
  · exact Or.inr rfl
  · exact (no hc8 hc14 hc24).elim
theorem M_thrown : p_M X 0 93 [.ref 22] (hp z a w y g) (fun q => q = (.inl (some (.int (z 10))), hp z a w y g)) := by
  refine (r_in xin_93 (r_aln xc_93_0 rfl (r_get xc_93_1 xf_93_73 g_6_4 (r_ri xc_93_4 xrt_93 ?_))))
  rfl
/-! missing -/
/-- a unit is named -/
def nm (ns : List pN) (u : Nat) : Prop := ∃ v ∈ ns, v.1 = 2 ∧ v.2.2.1 = u + 1
noncomputable def msF (B : Nat → Prop) (i : Int32) : Nat → Nat → Nat → Int32
  | 0, _, _ => -1
  | k + 1, u, n => p_if (B u) (if nI n = i then nI u else msF B i k (u + 1) (n + 1)) (msF B i k (u + 1) n)
theorem un_e {c u : Nat} (hc : c ≤ 8) (hu : u < 8) : nI c - nI 1 = nI u ↔ c = u + 1 := by
  constructor
  · intro h
    by_cases h0 : c = 0
    · subst h0
      exfalso
      have e : nI 0 - nI 1 = -1 := by decide
      rw [e] at h
      exact kI_m1 (by omega) h.symm
    · rw [kI_sub (by omega), kI_inj (by omega) (by omega)] at h
      omega
  · intro h
    rw [h, kI_sub (by omega)]
    rfl
theorem TW_unit {ns : List pN} (h : TW ns) : ∀ v ∈ ns, v.2.2.1 ≤ 8 ∧ v.1 < 8 := by
  refine TW_ind (C := fun ns => ∀ v ∈ ns, v.2.2.1 ≤ 8 ∧ v.1 < 8) ?_ ?_ h
  · intro v hv x hx
    rw [List.mem_singleton.mp hx]
    rcases hv.2.2 with h | h | h | h <;> omega
  · intro v l r hv _ _ il ir x hx
    rcases List.mem_cons.mp hx with h | h
    · rw [h]; have := hv.1; have := hv.2.2.1; omega
    · rcases List.mem_append.mp h with h | h
      · exact il x h
      · exact ir x h
theorem L_names {ns : List pN} {r u : Nat} (hR : Rp a r 0 ns) (hv : ∀ v ∈ ns, v.2.2.1 ≤ 8 ∧ v.1 < 8) (h1 : z 1 = nI ns.length) (hl : ns.length ≤ 60) (hu : u < 8) : ∀ k i, i + k = ns.length → (∀ j v, j < i → ns[j]? = some v → ¬ (v.1 = 2 ∧ v.2.2.1 = u + 1)) → p_E X 0 57 2 [some (.ref 1), some (.int (nI u)), some (.int (nI i))] [] (hp z a w y g) (fun q => (nm ns u → q = (.inl (some (.int (nI 1))), hp z a w y g)) ∧ (¬ nm ns u → q = (.inl (some (.int (nI 0))), hp z a w y g))) := by
  intro k
  induction k with
  | zero =>
    intro i hi hno
    refine (r_iln xc_57_2 rfl (r_aln xc_57_3 rfl (r_get xc_57_4 xf_57_43 g_2_10 (r_cge xc_57_7 xj_57_7 (fun hc7 => (r_aln xc_57_10 rfl (r_get xc_57_11 xf_57_9 g_2_0 (r_iln xc_57_14 rfl (r_ia xc_57_15 b_2 ?_ (r_ic xc_57_16 kc_2 (r_cne xc_57_17 xj_57_17 (fun hc17 => (r_aln xc_57_20 rfl (r_get xc_57_21 xf_57_18 g_2_2 (r_iln xc_57_24 rfl (r_ia xc_57_25 b_4 ?_ (r_iln xc_57_26 rfl (r_cne xc_57_27 xj_57_27 (fun hc27 => (r_ic xc_57_30 kc_1 (r_rz xc_57_31 xrt_57 ?_ ?_))) (fun hc27 => (r_inc [_, _, _] xc_57_32 rfl rfl (ki_1 _) rfl (r_go xc_57_35 xj_57_35 ?_)))))))))) (fun hc17 => (r_inc [_, _, _] xc_57_32 rfl rfl (ki_1 _) rfl (r_go xc_57_35 xj_57_35 ?_)))))))))) (fun hc7 => (r_ic xc_57_38 kc_0 (r_rz xc_57_39 xrt_57 ?_ ?_)))))))
    all_goals try (rw [h1, kI_lt (by omega) (by omega)] at hc7; omega)
    · exact Or.inl rfl
    · refine ⟨fun h => ?_, fun _ => rfl⟩
      obtain ⟨v, hv, hc⟩ := h
      obtain ⟨j, hj⟩ := List.getElem?_of_mem hv
      have := getElem?_lt hj
      exact absurd hc (hno j v (by omega) hj)
  | succ k ih =>
    intro i hi hno
    have hil : i < ns.length := by omega
    obtain ⟨v, hvi⟩ : ∃ v, ns[i]? = some v := ⟨_, List.getElem?_eq_getElem hil⟩
    have hmem := List.mem_of_getElem? hvi
    obtain ⟨v8, v1⟩ := hv v hmem
    have hrp := hR i v hvi
    rw [Nat.zero_add] at hrp
    have c0 : a 0 (nI i).toNatClampNeg = nI v.1 := by rw [kI_cl (by omega)]; exact hrp.1
    have c2 : a 2 (nI i).toNatClampNeg = nI v.2.2.1 - nI 1 := by rw [kI_cl (by omega)]; exact hrp.2.2.1
    have nx : ¬ (v.1 = 2 ∧ v.2.2.1 = u + 1) → p_E X 0 57 2 [some (.ref 1), some (.int (nI u)), some (.int (nI i + nI 1))] [] (hp z a w y g) (fun q => (nm ns u → q = (.inl (some (.int (nI 1))), hp z a w y g)) ∧ (¬ nm ns u → q = (.inl (some (.int (nI 0))), hp z a w y g))) := by
      intro hne
      rw [kI_add]
      refine ih (i + 1) (by omega) (fun j x hj hx => ?_)
      by_cases hji : j = i
      · subst hji; rw [hvi] at hx; cases hx; exact hne
      · exact hno j x (by omega) hx
    refine (r_iln xc_57_2 rfl (r_aln xc_57_3 rfl (r_get xc_57_4 xf_57_43 g_2_10 (r_cge xc_57_7 xj_57_7 (fun hc7 => (r_aln xc_57_10 rfl (r_get xc_57_11 xf_57_9 g_2_0 (r_iln xc_57_14 rfl (r_ia xc_57_15 b_2 ?_ (r_ic xc_57_16 kc_2 (r_cne xc_57_17 xj_57_17 (fun hc17 => (r_aln xc_57_20 rfl (r_get xc_57_21 xf_57_18 g_2_2 (r_iln xc_57_24 rfl (r_ia xc_57_25 b_4 ?_ (r_iln xc_57_26 rfl (r_cne xc_57_27 xj_57_27 (fun hc27 => (r_ic xc_57_30 kc_1 (r_rz xc_57_31 xrt_57 ?_ ?_))) (fun hc27 => (r_inc [_, _, _] xc_57_32 rfl rfl (ki_1 _) rfl (r_go xc_57_35 xj_57_35 ?_)))))))))) (fun hc17 => (r_inc [_, _, _] xc_57_32 rfl rfl (ki_1 _) rfl (r_go xc_57_35 xj_57_35 ?_)))))))))) (fun hc7 => (r_ic xc_57_38 kc_0 (r_rz xc_57_39 xrt_57 ?_ ?_)))))))
    · exact kI_in (by omega) (by omega)
    · exact kI_in (by omega) (by omega)
    · exact Or.inr rfl
    · rw [c0, kI_inj (by omega) (by omega)] at hc17
      rw [c2, un_e v8 hu] at hc27
      exact ⟨fun _ => rfl, fun h => absurd ⟨v, hmem, hc17, hc27⟩ h⟩
    · refine nx (fun h => ?_)
      rw [c2, un_e v8 hu] at hc27
      exact hc27 h.2
    · refine nx (fun h => ?_)
      rw [c0, kI_inj (by omega) (by omega)] at hc17
      exact hc17 h.1
    all_goals (rw [h1, kI_lt (by omega) (by omega)] at hc7; omega)
theorem M_names {ns : List pN} {r u : Nat} (hR : Rp a r 0 ns) (hv : ∀ v ∈ ns, v.2.2.1 ≤ 8 ∧ v.1 < 8) (h1 : z 1 = nI ns.length) (hl : ns.length ≤ 60) (hu : u < 8) : p_M X 0 57 [.ref 1, .int (nI u)] (hp z a w y g) (fun q => q = (.inl (some (.int (p_if (nm ns u) (nI 1) (nI 0)))), hp z a w y g)) := by
  refine (r_in xin_57 (r_ic xc_57_0 kc_0 (r_isn [_, _, _] xc_57_1 rfl rfl ?_)))
  refine (L_names hR hv h1 hl hu ns.length 0 (by omega) (fun j v hj => by omega)).mono (fun q hq => ?_)
  by_cases h : nm ns u
  · rw [p_if_t h]; exact hq.1 h
  · rw [p_if_f h]; exact hq.2 h
end CALLS2
