/-! ===== units, price, counts ===== -/
theorem ul_s (f : Nat → Int64) (k : Nat) (x : Int64) : vp_updL f k x k = x := if_pos rfl
theorem ul_n (f : Nat → Int64) {k j : Nat} (x : Int64) (h : j ≠ k) : vp_updL f k x j = f j := if_neg h
theorem nL_0 : (0 : Int64) = nL 0 := by decide
theorem nL_1 : (1 : Int64) = nL 1 := by decide
theorem nL_m : (100000000 : Int64) = nL 100000000 := by decide
theorem nL_m1 : (100000001 : Int64) = nL 100000001 := by decide
def aL (o : Option Nat) : Int64 := match o with
  | none => -1
  | some x => nL x
def aM (o : Option Nat) : Int64 := match o with
  | none => -1
  | some x => if 100000000 < x then nL 100000001 else nL x
def UNI (a : Nat → Nat → Int32) (w : Nat → Nat → Int64) (A : Nat → Option Nat) (M G : Nat → Nat) : Prop := ∀ u, u < 8 → w 0 u = aL (A u) ∧ w 2 u = aL (A u) ∧ a 10 u = nI (G u) ∧ a 29 u = nI (G u) ∧ a 11 u = nI (M u) ∧ a 30 u = nI (M u) ∧ (∀ x, A u = some x → x ≤ 100000000) ∧ G u < 8 ∧ M u ≤ 1000 ∧ cl M G 8 u
theorem rl_cl {M G : Nat → Nat} {u : Nat} : ∀ k x, cl M G (k + 1) x → rl M G u (k + 1) x → rl M G u k x := by
  intro k
  induction k with
  | zero =>
    intro x hc hr
    rcases hc with hc | hc
    · rcases hr with hr | hr
      · exact hr
      · exact absurd hc hr.1
    · exact hc.elim
  | succ k ih =>
    intro x hc hr
    rcases hr with hr | hr
    · exact Or.inl hr
    · rcases hc with hc | hc
      · exact absurd hc hr.1
      · exact Or.inr ⟨hr.1, ih _ hc hr.2⟩
theorem rl_mono {M G : Nat → Nat} {u : Nat} : ∀ k x, rl M G u k x → rl M G u (k + 1) x := by
  intro k
  induction k with
  | zero => intro x h; exact Or.inl h
  | succ k ih =>
    intro x h
    rcases h with h | h
    · exact Or.inl h
    · exact Or.inr ⟨h.1, ih _ h.2⟩
section UNITS
variable {X : pX} {z : Nat → Int32} {a : Nat → Nat → Int32} {w : Nat → Nat → Int64} {y : Nat → Int64} {g : List pE} {A : Nat → Option Nat} {M G : Nat → Nat}
theorem M_unitC {u : Nat} (hu : u < 8) : p_M X 0 52 [.int (nI u)] (hp z a w y g) (fun q => q = (.inl (some (.int (nI 1))), hp z a w y g)) := by
  refine (r_in xin_52 (r_iln xc_52_0 rfl (r_zlt xc_52_1 xj_52_1 (fun hc1 => (r_ic xc_52_14 kc_0 (r_rz xc_52_15 xrt_52 ?_ ?_))) (fun hc1 => (r_iln xc_52_4 rfl (r_bi xc_52_5 kb_8 (r_cge xc_52_7 xj_52_7 (fun hc7 => (r_ic xc_52_10 kc_1 (r_go xc_52_11 xj_52_11 (r_rz xc_52_15 xrt_52 ?_ ?_)))) (fun hc7 => (r_ic xc_52_14 kc_0 (r_rz xc_52_15 xrt_52 ?_ ?_))))))))))
  · exact Or.inl rfl
  · exact absurd hc1 (kI_neg (by omega))
  · exact Or.inr rfl
  · rfl
  · exact Or.inl rfl
  · rw [kI_lt (by omega) (by omega)] at hc7; omega
theorem M_unitC_n {x : Int32} (hu : x < nI 0 ∨ ¬ x < nI 8) : p_M X 0 52 [.int x] (hp z a w y g) (fun q => q = (.inl (some (.int (nI 0))), hp z a w y g)) := by
  refine (r_in xin_52 (r_iln xc_52_0 rfl (r_zlt xc_52_1 xj_52_1 (fun hc1 => (r_ic xc_52_14 kc_0 (r_rz xc_52_15 xrt_52 ?_ ?_))) (fun hc1 => (r_iln xc_52_4 rfl (r_bi xc_52_5 kb_8 (r_cge xc_52_7 xj_52_7 (fun hc7 => (r_ic xc_52_10 kc_1 (r_go xc_52_11 xj_52_11 (r_rz xc_52_15 xrt_52 ?_ ?_)))) (fun hc7 => (r_ic xc_52_14 kc_0 (r_rz xc_52_15 xrt_52 ?_ ?_))))))))))
  · exact Or.inl rfl
  · rfl
  · exact Or.inr rfl
  · rcases hu with h | h
    · exact absurd h hc1
    · exact absurd hc7 h
  · exact Or.inl rfl
  · rfl
theorem M_unitM {u : Nat} (hu : u < 8) : p_M X 0 120 [.int (nI u)] (hp z a w y g) (fun q => q = (.inl (some (.int (nI 1))), hp z a w y g)) := by
  refine (r_in xin_120 (r_iln xc_120_0 rfl (r_zlt xc_120_1 xj_120_1 (fun hc1 => (r_ic xc_120_14 kc_0 (r_rz xc_120_15 xrt_120 ?_ ?_))) (fun hc1 => (r_iln xc_120_4 rfl (r_bi xc_120_5 kb_8 (r_cge xc_120_7 xj_120_7 (fun hc7 => (r_ic xc_120_10 kc_1 (r_go xc_120_11 xj_120_11 (r_rz xc_120_15 xrt_120 ?_ ?_)))) (fun hc7 => (r_ic xc_120_14 kc_0 (r_rz xc_120_15 xrt_120 ?_ ?_))))))))))
  · exact Or.inl rfl
  · exact absurd hc1 (kI_neg (by omega))
  · exact Or.inr rfl
  · rfl
  · exact Or.inl rfl
  · rw [kI_lt (by omega) (by omega)] at hc7; omega
theorem M_unitM_n {x : Int32} (hu : x < nI 0 ∨ ¬ x < nI 8) : p_M X 0 120 [.int x] (hp z a w y g) (fun q => q = (.inl (some (.int (nI 0))), hp z a w y g)) := by
  refine (r_in xin_120 (r_iln xc_120_0 rfl (r_zlt xc_120_1 xj_120_1 (fun hc1 => (r_ic xc_120_14 kc_0 (r_rz xc_120_15 xrt_120 ?_ ?_))) (fun hc1 => (r_iln xc_120_4 rfl (r_bi xc_120_5 kb_8 (r_cge xc_120_7 xj_120_7 (fun hc7 => (r_ic xc_120_10 kc_1 (r_go xc_120_11 xj_120_11 (r_rz xc_120_15 xrt_120 ?_ ?_)))) (fun hc7 => (r_ic xc_120_14 kc_0 (r_rz xc_120_15 xrt_120 ?_ ?_))))))))))
  · exact Or.inl rfl
  · rfl
  · exact Or.inr rfl
  · rcases hu with h | h
    · exact absurd h hc1
    · exact absurd hc7 h
  · exact Or.inl rfl
  · rfl
theorem isU (x : Int32) : (x < nI 0 ∨ ¬ x < nI 8) ∨ ∃ u, u < 8 ∧ x = nI u := by
  by_cases h : x < nI 0
  · exact Or.inl (Or.inl h)
  · by_cases h2 : x < nI 8
    · have e := kI_of2 h
      rw [e, kI_lt (by have := Int32.toInt_lt x; omega) (by omega)] at h2
      exact Or.inr ⟨_, h2, e⟩
    · exact Or.inl (Or.inr h2)
theorem M_minL {x x2 : Int64} : p_M X 0 59 [.long x, .long x2] (hp z a w y g) (fun q => q = (.inl (some (.long (if x2 < x then x2 else x))), hp z a w y g)) := by
  refine (r_in xin_59 (r_lln xc_59_0 rfl (r_lln xc_59_1 rfl (r_lgt xc_59_2 xc_59_3 xj_59_3 (fun hc3 => (r_lln xc_59_10 rfl (r_rl xc_59_11 xrt_59 ?_))) (fun hc3 => (r_lln xc_59_6 rfl (r_go xc_59_7 xj_59_7 (r_rl xc_59_11 xrt_59 ?_))))))))
  · rw [if_pos hc3]
  · rw [if_neg hc3]
theorem aL_m1 {o : Option Nat} (h : ∀ x, o = some x → x < 9223372036854775808) : aL o = -1 ↔ o = none := by
  cases o with
  | none => exact ⟨fun _ => rfl, fun _ => rfl⟩
  | some x => exact ⟨fun he => absurd he (kL_m1 (h x rfl)), fun he => by cases he⟩
theorem aM_m1 {o : Option Nat} : aM o = -1 ↔ o = none := by
  cases o with
  | none => exact ⟨fun _ => rfl, fun _ => rfl⟩
  | some x =>
    refine ⟨fun he => ?_, fun he => by cases he⟩
    unfold aM at he
    dsimp only at he
    split at he
    · exact absurd he (kL_m1 (by omega))
    · exact absurd he (kL_m1 (by omega))
theorem amt_s {k f v : Nat} : amt A M G (k + 1) f v = match A v with
    | some x => some (x * f)
    | none => if M v = 0 then none else amt A M G k (min (f * M v) 100000001) (G v) := rfl
theorem fm_e {f m : Nat} (hf : f ≤ 100000001) (hm : m ≤ 1000) : nL f * (nI m).toInt64 = nL (f * m) ∧ f * m ≤ 100000001000 := by
  refine ⟨by rw [kI_i2l (by omega), kL_mul], ?_⟩
  have := Nat.mul_le_mul hf hm
  omega
theorem L_amtC (hU : UNI a w A M G) {x1 : Int32} : ∀ k t f v, t + k = 8 → v < 8 → f ≤ 100000001 → cl M G k v → p_E X 1 58 8 [some (.ref 13), some (.int x1), some (.long (nL f)), none, some (.int (nI v)), some (.int (nI t))] [] (hp z a w y g) (fun q => q = (.inl (some (.long (aL (amt A M G k f v)))), hp z a w y g)) := by
  intro k
  induction k with
  | zero => intro t f v _ _ _ h; exact h.elim
  | succ k ih =>
    intro t f v ht hv hf hcl
    obtain ⟨u0, _, u10, _, u11, _, uA, uG, uM, _⟩ := hU v hv
    have c0 : w 0 (nI v).toNatClampNeg = aL (A v) := by rw [kI_cl (by omega)]; exact u0
    have c11 : a 11 (nI v).toNatClampNeg = nI (M v) := by rw [kI_cl (by omega)]; exact u11
    have c10 : a 10 (nI v).toNatClampNeg = nI (G v) := by rw [kI_cl (by omega)]; exact u10
    have m1 := aL_m1 (o := A v) (fun x hx => by have := uA x hx; omega)
    refine (r_il xc_58_8 rfl (r_bi xc_58_10 kb_8 (r_cge xc_58_12 xj_58_12 (fun hc12 => (r_il xc_58_15 rfl ?_)) (fun hc12 => (r_ldl xc_58_97 xl_58_22 (r_rl xc_58_100 xrt_58 ?_))))))
    · refine (r_cv xc_58_17 xm_58_17 rfl xrc_52 rfl (M_unitC hv) (r_zne xc_58_20 xj_58_20 (fun hc20 => (r_ldl xc_58_23 xl_58_22 (r_rl xc_58_26 xrt_58 ?_))) (fun hc20 => (r_aln xc_58_27 rfl (r_get xc_58_28 xf_58_9 g_3_0 (r_il xc_58_31 rfl (r_la xc_58_33 b_14 ?_ (r_ldl xc_58_34 xl_58_22 (r_leq xc_58_37 xc_58_38 xj_58_38 (fun hc38 => (r_aln xc_58_51 rfl (r_get xc_58_52 xf_58_19 g_3_2 (r_il xc_58_55 rfl (r_ia xc_58_57 b_16 ?_ (r_zne xc_58_58 xj_58_58 (fun hc58 => (r_ldl xc_58_61 xl_58_22 (r_rl xc_58_64 xrt_58 ?_))) (fun hc58 => (r_lln xc_58_65 rfl (r_aln xc_58_66 rfl (r_get xc_58_67 xf_58_19 g_3_2 (r_il xc_58_70 rfl (r_ia xc_58_72 b_16 ?_ (r_i2l xc_58_73 (r_lmul xc_58_74 (r_ldl xc_58_75 xl_58_40 ?_))))))))))))))) (fun hc38 => (r_aln xc_58_41 rfl (r_get xc_58_42 xf_58_9 g_3_0 (r_il xc_58_45 rfl (r_la xc_58_47 b_14 ?_ (r_lln xc_58_48 rfl (r_lmul xc_58_49 (r_rl xc_58_50 xrt_58 ?_)))))))))))))))))
      · exact absurd hc20 (by decide)
      · exact kI_in (by omega) (by omega)
      · exact kI_in (by omega) (by omega)
      · rw [c0, m1] at hc38
        rw [c11, kI_inj (by omega) (by omega)] at hc58
        rw [amt_s, hc38]
        dsimp only
        rw [if_pos hc58]
        rfl
      · exact kI_in (by omega) (by omega)
      · rw [c0, m1] at hc38
        rw [c11, kI_inj (by omega) (by omega)] at hc58
        obtain ⟨e1, e2⟩ := fm_e hf uM
        rw [c11, e1]
        refine (r_cv xc_58_78 xm_58_78 rfl xrc_59 rfl (M_minL) (r_lsn [_, _, _, _, _, _] xc_58_81 rfl rfl (r_aln xc_58_82 rfl (r_get xc_58_83 xf_58_15 g_3_1 (r_il xc_58_86 rfl (r_ia xc_58_88 b_15 ?_ (r_is [_, _, _, _, _, _] xc_58_89 rfl rfl (r_inc [_, _, _, _, _, _] xc_58_91 rfl rfl (ki_1 _) rfl (r_go xc_58_94 xj_58_94 ?_)))))))))
        · exact kI_in (by omega) (by omega)
        · rw [c10, kI_add]
          have e3 : (if (100000001 : Int64) < nL (f * M v) then 100000001 else nL (f * M v)) = nL (min (f * M v) 100000001) := by
            rw [nL_m1]
            by_cases h : 100000001 < f * M v
            · rw [if_pos ((kL_lt (by omega) (by omega)).mpr h), Nat.min_eq_right (by omega)]
            · rw [if_neg (fun h' => h ((kL_lt (by omega) (by omega)).mp h')), Nat.min_eq_left (by omega)]
          rw [e3]
          rcases hcl with hcl | hcl
          · exact absurd hcl hc58
          · have := ih (t + 1) (min (f * M v) 100000001) (G v) (by omega) uG (by omega) hcl
            rw [amt_s, hc38]
            dsimp only
            rw [if_neg hc58]
            exact this
      · exact kI_in (by omega) (by omega)
      · rw [c0, m1] at hc38
        rw [c0, amt_s]
        cases hA : A v with
        | none => exact absurd hA hc38
        | some x =>
          have e : aL (some x) * nL f = nL (x * f) := kL_mul x f
          rw [e]; rfl
    · rw [kI_lt (by omega) (by omega)] at hc12; omega
theorem M_amtC {u : Nat} (hU : UNI a w A M G) (hu : u < 8) : p_M X 1 58 [.ref 13, .int (nI u)] (hp z a w y g) (fun q => q = (.inl (some (.long (aL (amt A M G 8 1 u)))), hp z a w y g)) := by
  refine (r_in xin_58 (r_lc xc_58_0 kl_1 (r_lsn [_, _, _, _, _, _] xc_58_1 rfl rfl (r_iln xc_58_2 rfl (r_is [_, _, _, _, _, _] xc_58_3 rfl rfl (r_ic xc_58_5 kc_0 (r_is [_, _, _, _, _, _] xc_58_6 rfl rfl ?_)))))))
  exact L_amtC hU 8 0 1 u (by omega) hu (by omega) (hU u hu).2.2.2.2.2.2.2.2.2
theorem L_amtM (hU : UNI a w A M G) {x1 : Int32} : ∀ k f v, v < 8 → 1 ≤ f → f ≤ 100000001 → cl M G k v → p_E X 0 126 5 [some (.ref 22), some (.int x1), some (.long (nL f)), none, some (.int (nI v))] [] (hp z a w y g) (fun q => q = (.inl (some (.long (aM (amt A M G k f v)))), hp z a w y g)) := by
  intro k
  induction k with
  | zero => intro f v _ _ _ h; exact h.elim
  | succ k ih =>
    intro f v hv hf1 hf hcl
    obtain ⟨_, u0, _, u10, _, u11, uA, uG, uM, _⟩ := hU v hv
    have c0 : w 2 (nI v).toNatClampNeg = aL (A v) := by rw [kI_cl (by omega)]; exact u0
    have c11 : a 30 (nI v).toNatClampNeg = nI (M v) := by rw [kI_cl (by omega)]; exact u11
    have c10 : a 29 (nI v).toNatClampNeg = nI (G v) := by rw [kI_cl (by omega)]; exact u10
    have m1 := aL_m1 (o := A v) (fun x hx => by have := uA x hx; omega)
    obtain ⟨e1, e2⟩ := fm_e hf uM
    have some_ : ¬ A v = none → ∃ x, A v = some x ∧ x ≤ 100000000 := by
      intro h
      cases hA : A v with
      | none => exact absurd hA h
      | some x => exact ⟨x, rfl, uA x hA⟩
    refine (r_aln xc_126_5 rfl (r_get xc_126_6 xf_126_55 g_6_26 (r_il xc_126_9 rfl (r_la xc_126_11 b_38 ?_ (r_ldl xc_126_12 xl_126_71 (r_lne xc_126_15 xc_126_16 xj_126_16 (fun hc16 => (r_aln xc_126_19 rfl (r_get xc_126_20 xf_126_62 g_6_28 (r_il xc_126_23 rfl (r_ia xc_126_25 b_40 ?_ (r_zne xc_126_26 xj_126_26 (fun hc26 => (r_ldl xc_126_29 xl_126_71 (r_rl xc_126_32 xrt_126 ?_))) (fun hc26 => (r_lln xc_126_33 rfl (r_aln xc_126_34 rfl (r_get xc_126_35 xf_126_62 g_6_28 (r_il xc_126_38 rfl (r_ia xc_126_40 b_40 ?_ (r_i2l xc_126_41 (r_lmul xc_126_42 (r_ldl xc_126_43 xl_126_189 (r_lle xc_126_46 xc_126_47 xj_126_47 (fun hc47 => (r_ldl xc_126_50 xl_126_198 (r_go xc_126_53 xj_126_53 (r_lsn [_, _, _, _, _] xc_126_66 rfl rfl (r_aln xc_126_67 rfl (r_get xc_126_68 xf_126_59 g_6_27 (r_il xc_126_71 rfl (r_ia xc_126_73 b_39 ?_ (r_is [_, _, _, _, _] xc_126_74 rfl rfl (r_go xc_126_76 xj_126_76 ?_)))))))))) (fun hc47 => (r_lln xc_126_56 rfl (r_aln xc_126_57 rfl (r_get xc_126_58 xf_126_62 g_6_28 (r_il xc_126_61 rfl (r_ia xc_126_63 b_40 ?_ (r_i2l xc_126_64 (r_lmul xc_126_65 (r_lsn [_, _, _, _, _] xc_126_66 rfl rfl (r_aln xc_126_67 rfl (r_get xc_126_68 xf_126_59 g_6_27 (r_il xc_126_71 rfl (r_ia xc_126_73 b_39 ?_ (r_is [_, _, _, _, _] xc_126_74 rfl rfl (r_go xc_126_76 xj_126_76 ?_))))))))))))))))))))))))))))))) (fun hc16 => (r_aln xc_126_79 rfl (r_get xc_126_80 xf_126_55 g_6_26 (r_il xc_126_83 rfl (r_la xc_126_85 b_38 ?_ (r_lc xc_126_86 kl_0 (r_lne xc_126_87 xc_126_88 xj_126_88 (fun hc88 => (r_lc xc_126_91 kl_0 (r_rl xc_126_92 xrt_126 ?_))) (fun hc88 => (r_lln xc_126_93 rfl (r_ldl xc_126_94 xl_126_189 (r_lgt xc_126_97 xc_126_98 xj_126_98 (fun hc98 => (r_ldl xc_126_117 xl_126_198 (r_go xc_126_120 xj_126_120 (r_rl xc_126_132 xrt_126 ?_)))) (fun hc98 => (r_aln xc_126_101 rfl (r_get xc_126_102 xf_126_55 g_6_26 (r_il xc_126_105 rfl (r_la xc_126_107 b_38 ?_ (r_lln xc_126_108 rfl (r_lmul xc_126_109 (r_ldl xc_126_110 xl_126_189 (r_lle xc_126_113 xc_126_114 xj_126_114 (fun hc114 => (r_ldl xc_126_117 xl_126_198 (r_go xc_126_120 xj_126_120 (r_rl xc_126_132 xrt_126 ?_)))) (fun hc114 => (r_aln xc_126_123 rfl (r_get xc_126_124 xf_126_55 g_6_26 (r_il xc_126_127 rfl (r_la xc_126_129 b_38 ?_ (r_lln xc_126_130 rfl (r_lmul xc_126_131 (r_rl xc_126_132 xrt_126 ?_))))))))))))))))))))))))))))))))))
    · exact kI_in (by omega) (by omega)
    · exact kI_in (by omega) (by omega)
    · rw [c0, m1] at hc16
      rw [c11, kI_inj (by omega) (by omega)] at hc26
      rw [amt_s, hc16]
      dsimp only
      rw [if_pos hc26]
      rfl
    · exact kI_in (by omega) (by omega)
    · exact kI_in (by omega) (by omega)
    · rw [c0, m1] at hc16
      rw [c11, kI_inj (by omega) (by omega)] at hc26
      rw [c11, e1, nL_m, kL_lt (by omega) (by omega)] at hc47
      rw [c10, nL_m1]
      rcases hcl with hcl | hcl
      · exact absurd hcl hc26
      · have := ih (min (f * M v) 100000001) (G v) uG (by omega) (by omega) hcl
        rw [Nat.min_eq_right (by omega)] at this
        rw [amt_s, hc16]
        dsimp only
        rw [if_neg hc26, Nat.min_eq_right (by omega)]
        exact this
    · exact kI_in (by omega) (by omega)
    · exact kI_in (by omega) (by omega)
    · rw [c0, m1] at hc16
      rw [c11, kI_inj (by omega) (by omega)] at hc26
      rw [c11, e1, nL_m, kL_lt (by omega) (by omega)] at hc47
      rw [c10, c11, e1]
      have hM1 : 1 * 1 ≤ f * M v := Nat.mul_le_mul hf1 (by omega)
      rcases hcl with hcl | hcl
      · exact absurd hcl hc26
      · have := ih (min (f * M v) 100000001) (G v) uG (by omega) (by omega) hcl
        rw [Nat.min_eq_left (by omega)] at this
        rw [amt_s, hc16]
        dsimp only
        rw [if_neg hc26, Nat.min_eq_left (by omega)]
        exact this
    · exact kI_in (by omega) (by omega)
    · rw [c0, m1] at hc16
      obtain ⟨x, hx, hx2⟩ := some_ hc16
      rw [c0, hx] at hc88
      have hc88 : nL x = 0 := hc88
      rw [nL_0, kL_inj (by omega) (by omega)] at hc88
      subst hc88
      rw [amt_s, hx]
      dsimp only
      rw [Nat.zero_mul]; rfl
    all_goals
      first
        | exact kI_in (by omega) (by omega)
        | (rw [c0, m1] at hc16
           obtain ⟨x, hx, hx2⟩ := some_ hc16
           rw [c0, hx] at hc88
           have hc88 : ¬ nL x = 0 := hc88
           rw [nL_0, kL_inj (by omega) (by omega)] at hc88
           have hxf : x * f ≤ 10000000100000000 := by have := Nat.mul_le_mul hx2 hf; omega
           have hfx : 1 * f ≤ x * f := Nat.mul_le_mul_right _ (by omega)
           rw [nL_m, kL_lt (by omega) (by omega)] at hc98
           rw [amt_s, hx]
           dsimp only
           unfold aM
           dsimp only
           first
             | (rw [if_pos (by omega), nL_m1]; done)
             | (rw [c0, hx] at hc114
                have hc114 : nL 100000000 < nL x * nL f := hc114
                rw [kL_mul, kL_lt (by omega) (by omega)] at hc114
                rw [if_pos hc114, nL_m1]; done)
             | (rw [c0, hx] at hc114
                have hc114 : ¬ nL 100000000 < nL x * nL f := hc114
                rw [kL_mul, kL_lt (by omega) (by omega)] at hc114
                rw [if_neg hc114, c0, hx, ← kL_mul]; rfl))
theorem M_amtM {u : Nat} (hU : UNI a w A M G) (hu : u < 8) : p_M X 0 126 [.ref 22, .int (nI u)] (hp z a w y g) (fun q => q = (.inl (some (.long (aM (amt A M G 8 1 u)))), hp z a w y g)) := by
  refine (r_in xin_126 (r_lc xc_126_0 kl_1 (r_lsn [_, _, _, _, _] xc_126_1 rfl rfl (r_iln xc_126_2 rfl (r_is [_, _, _, _, _] xc_126_3 rfl rfl ?_)))))
  exact L_amtM hU 8 1 u hu (by omega) (by omega) (hU u hu).2.2.2.2.2.2.2.2.2
end UNITS
