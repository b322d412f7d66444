def p_ML_0 : List pMeth := [pm_0, pm_1, pm_2, pm_3, pm_4, pm_5, pm_6, pm_7, pm_8, pm_9, pm_10, pm_11, pm_12, pm_13, pm_14, pm_15, pm_16, pm_17, pm_18, pm_19, pm_20, pm_21, pm_22, pm_23]
theorem v_all_0 : ∀ q ∈ p_ML_0, p_vok q := List.forall_mem_cons.mpr ⟨v_0, List.forall_mem_cons.mpr ⟨v_1, List.forall_mem_cons.mpr ⟨v_2, List.forall_mem_cons.mpr ⟨v_3, List.forall_mem_cons.mpr ⟨v_4, List.forall_mem_cons.mpr ⟨v_5, List.forall_mem_cons.mpr ⟨v_6, List.forall_mem_cons.mpr ⟨v_7, List.forall_mem_cons.mpr ⟨v_8, List.forall_mem_cons.mpr ⟨v_9, List.forall_mem_cons.mpr ⟨v_10, List.forall_mem_cons.mpr ⟨v_11, List.forall_mem_cons.mpr ⟨v_12, List.forall_mem_cons.mpr ⟨v_13, List.forall_mem_cons.mpr ⟨v_14, List.forall_mem_cons.mpr ⟨v_15, List.forall_mem_cons.mpr ⟨v_16, List.forall_mem_cons.mpr ⟨v_17, List.forall_mem_cons.mpr ⟨v_18, List.forall_mem_cons.mpr ⟨v_19, List.forall_mem_cons.mpr ⟨v_20, List.forall_mem_cons.mpr ⟨v_21, List.forall_mem_cons.mpr ⟨v_22, List.forall_mem_cons.mpr ⟨v_23, fun _ h => absurd h List.not_mem_nil⟩⟩⟩⟩⟩⟩⟩⟩⟩⟩⟩⟩⟩⟩⟩⟩⟩⟩⟩⟩⟩⟩⟩⟩
def p_ML_1 : List pMeth := [pm_24, pm_25, pm_26, pm_27, pm_28, pm_29, pm_30, pm_31, pm_32, pm_33, pm_34, pm_35, pm_36, pm_37, pm_38, pm_39, pm_40, pm_41, pm_42, pm_43, pm_44, pm_45, pm_46, pm_47]
theorem v_all_1 : ∀ q ∈ p_ML_1, p_vok q := List.forall_mem_cons.mpr ⟨v_24, List.forall_mem_cons.mpr ⟨v_25, List.forall_mem_cons.mpr ⟨v_26, List.forall_mem_cons.mpr ⟨v_27, List.forall_mem_cons.mpr ⟨v_28, List.forall_mem_cons.mpr ⟨v_29, List.forall_mem_cons.mpr ⟨v_30, List.forall_mem_cons.mpr ⟨v_31, List.forall_mem_cons.mpr ⟨v_32, List.forall_mem_cons.mpr ⟨v_33, List.forall_mem_cons.mpr ⟨v_34, List.forall_mem_cons.mpr ⟨v_35, List.forall_mem_cons.mpr ⟨v_36, List.forall_mem_cons.mpr ⟨v_37, List.forall_mem_cons.mpr ⟨v_38, List.forall_mem_cons.mpr ⟨v_39, List.forall_mem_cons.mpr ⟨v_40, List.forall_mem_cons.mpr ⟨v_41, List.forall_mem_cons.mpr ⟨v_42, List.forall_mem_cons.mpr ⟨v_43, List.forall_mem_cons.mpr ⟨v_44, List.forall_mem_cons.mpr ⟨v_45, List.forall_mem_cons.mpr ⟨v_46, List.forall_mem_cons.mpr ⟨v_47, fun _ h => absurd h List.not_mem_nil⟩⟩⟩⟩⟩⟩⟩⟩⟩⟩⟩⟩⟩⟩⟩⟩⟩⟩⟩⟩⟩⟩⟩⟩
def p_ML_2 : List pMeth := [pm_48, pm_49, pm_50, pm_51, pm_52, pm_53, pm_54, pm_55, pm_56, pm_57, pm_58, pm_59, pm_60, pm_61, pm_62, pm_63, pm_64, pm_65, pm_66, pm_67, pm_68, pm_69, pm_70, pm_71]
theorem v_all_2 : ∀ q ∈ p_ML_2, p_vok q := List.forall_mem_cons.mpr ⟨v_48, List.forall_mem_cons.mpr ⟨v_49, List.forall_mem_cons.mpr ⟨v_50, List.forall_mem_cons.mpr ⟨v_51, List.forall_mem_cons.mpr ⟨v_52, List.forall_mem_cons.mpr ⟨v_53, List.forall_mem_cons.mpr ⟨v_54, List.forall_mem_cons.mpr ⟨v_55, List.forall_mem_cons.mpr ⟨v_56, List.forall_mem_cons.mpr ⟨v_57, List.forall_mem_cons.mpr ⟨v_58, List.forall_mem_cons.mpr ⟨v_59, List.forall_mem_cons.mpr ⟨v_60, List.forall_mem_cons.mpr ⟨v_61, List.forall_mem_cons.mpr ⟨v_62, List.forall_mem_cons.mpr ⟨v_63, List.forall_mem_cons.mpr ⟨v_64, List.forall_mem_cons.mpr ⟨v_65, List.forall_mem_cons.mpr ⟨v_66, List.forall_mem_cons.mpr ⟨v_67, List.forall_mem_cons.mpr ⟨v_68, List.forall_mem_cons.mpr ⟨v_69, List.forall_mem_cons.mpr ⟨v_70, List.forall_mem_cons.mpr ⟨v_71, fun _ h => absurd h List.not_mem_nil⟩⟩⟩⟩⟩⟩⟩⟩⟩⟩⟩⟩⟩⟩⟩⟩⟩⟩⟩⟩⟩⟩⟩⟩
def p_ML_3 : List pMeth := [pm_72, pm_73, pm_74, pm_75, pm_76, pm_77, pm_78, pm_79, pm_80, pm_81, pm_82, pm_83, pm_84, pm_85, pm_86, pm_87, pm_88, pm_89, pm_90, pm_91, pm_92, pm_93, pm_94, pm_95]
theorem v_all_3 : ∀ q ∈ p_ML_3, p_vok q := List.forall_mem_cons.mpr ⟨v_72, List.forall_mem_cons.mpr ⟨v_73, List.forall_mem_cons.mpr ⟨v_74, List.forall_mem_cons.mpr ⟨v_75, List.forall_mem_cons.mpr ⟨v_76, List.forall_mem_cons.mpr ⟨v_77, List.forall_mem_cons.mpr ⟨v_78, List.forall_mem_cons.mpr ⟨v_79, List.forall_mem_cons.mpr ⟨v_80, List.forall_mem_cons.mpr ⟨v_81, List.forall_mem_cons.mpr ⟨v_82, List.forall_mem_cons.mpr ⟨v_83, List.forall_mem_cons.mpr ⟨v_84, List.forall_mem_cons.mpr ⟨v_85, List.forall_mem_cons.mpr ⟨v_86, List.forall_mem_cons.mpr ⟨v_87, List.forall_mem_cons.mpr ⟨v_88, List.forall_mem_cons.mpr ⟨v_89, List.forall_mem_cons.mpr ⟨v_90, List.forall_mem_cons.mpr ⟨v_91, List.forall_mem_cons.mpr ⟨v_92, List.forall_mem_cons.mpr ⟨v_93, List.forall_mem_cons.mpr ⟨v_94, List.forall_mem_cons.mpr ⟨v_95, fun _ h => absurd h List.not_mem_nil⟩⟩⟩⟩⟩⟩⟩⟩⟩⟩⟩⟩⟩⟩⟩⟩⟩⟩⟩⟩⟩⟩⟩⟩
def p_ML_4 : List pMeth := [pm_96, pm_97, pm_98, pm_99, pm_100, pm_101, pm_102, pm_103, pm_104, pm_105, pm_106, pm_107, pm_108, pm_109, pm_110, pm_111, pm_112, pm_113, pm_114, pm_115, pm_116, pm_117, pm_118, pm_119]
theorem v_all_4 : ∀ q ∈ p_ML_4, p_vok q := List.forall_mem_cons.mpr ⟨v_96, List.forall_mem_cons.mpr ⟨v_97, List.forall_mem_cons.mpr ⟨v_98, List.forall_mem_cons.mpr ⟨v_99, List.forall_mem_cons.mpr ⟨v_100, List.forall_mem_cons.mpr ⟨v_101, List.forall_mem_cons.mpr ⟨v_102, List.forall_mem_cons.mpr ⟨v_103, List.forall_mem_cons.mpr ⟨v_104, List.forall_mem_cons.mpr ⟨v_105, List.forall_mem_cons.mpr ⟨v_106, List.forall_mem_cons.mpr ⟨v_107, List.forall_mem_cons.mpr ⟨v_108, List.forall_mem_cons.mpr ⟨v_109, List.forall_mem_cons.mpr ⟨v_110, List.forall_mem_cons.mpr ⟨v_111, List.forall_mem_cons.mpr ⟨v_112, List.forall_mem_cons.mpr ⟨v_113, List.forall_mem_cons.mpr ⟨v_114, List.forall_mem_cons.mpr ⟨v_115, List.forall_mem_cons.mpr ⟨v_116, List.forall_mem_cons.mpr ⟨v_117, List.forall_mem_cons.mpr ⟨v_118, List.forall_mem_cons.mpr ⟨v_119, fun _ h => absurd h List.not_mem_nil⟩⟩⟩⟩⟩⟩⟩⟩⟩⟩⟩⟩⟩⟩⟩⟩⟩⟩⟩⟩⟩⟩⟩⟩
def p_ML_5 : List pMeth := [pm_120, pm_121, pm_122, pm_123, pm_124, pm_125, pm_126, pm_127, pm_128, pm_129, pm_130, pm_131, pm_132, pm_133, pm_134, pm_135, pm_136, pm_137, pm_138, pm_139, pm_140, pm_141, pm_142, pm_143]
theorem v_all_5 : ∀ q ∈ p_ML_5, p_vok q := List.forall_mem_cons.mpr ⟨v_120, List.forall_mem_cons.mpr ⟨v_121, List.forall_mem_cons.mpr ⟨v_122, List.forall_mem_cons.mpr ⟨v_123, List.forall_mem_cons.mpr ⟨v_124, List.forall_mem_cons.mpr ⟨v_125, List.forall_mem_cons.mpr ⟨v_126, List.forall_mem_cons.mpr ⟨v_127, List.forall_mem_cons.mpr ⟨v_128, List.forall_mem_cons.mpr ⟨v_129, List.forall_mem_cons.mpr ⟨v_130, List.forall_mem_cons.mpr ⟨v_131, List.forall_mem_cons.mpr ⟨v_132, List.forall_mem_cons.mpr ⟨v_133, List.forall_mem_cons.mpr ⟨v_134, List.forall_mem_cons.mpr ⟨v_135, List.forall_mem_cons.mpr ⟨v_136, List.forall_mem_cons.mpr ⟨v_137, List.forall_mem_cons.mpr ⟨v_138, List.forall_mem_cons.mpr ⟨v_139, List.forall_mem_cons.mpr ⟨v_140, List.forall_mem_cons.mpr ⟨v_141, List.forall_mem_cons.mpr ⟨v_142, List.forall_mem_cons.mpr ⟨v_143, fun _ h => absurd h List.not_mem_nil⟩⟩⟩⟩⟩⟩⟩⟩⟩⟩⟩⟩⟩⟩⟩⟩⟩⟩⟩⟩⟩⟩⟩⟩
def p_ML_6 : List pMeth := [pm_144]
theorem v_all_6 : ∀ q ∈ p_ML_6, p_vok q := List.forall_mem_cons.mpr ⟨v_144, fun _ h => absurd h List.not_mem_nil⟩
set_option maxRecDepth 100000 in
theorem p_ML_eq : p_ML = p_ML_0 ++ (p_ML_1 ++ (p_ML_2 ++ (p_ML_3 ++ (p_ML_4 ++ (p_ML_5 ++ (p_ML_6)))))) := rfl
theorem v_all : ∀ q ∈ p_ML, p_vok q := by
  intro q hq
  rw [p_ML_eq] at hq
  rcases List.mem_append.mp hq with hq | hq
  · exact v_all_0 q hq
  rcases List.mem_append.mp hq with hq | hq
  · exact v_all_1 q hq
  rcases List.mem_append.mp hq with hq | hq
  · exact v_all_2 q hq
  rcases List.mem_append.mp hq with hq | hq
  · exact v_all_3 q hq
  rcases List.mem_append.mp hq with hq | hq
  · exact v_all_4 q hq
  rcases List.mem_append.mp hq with hq | hq
  · exact v_all_5 q hq
  exact v_all_6 q hq
theorem v_z : p_vok pm_z := rfl
theorem p_me_ok (mi : Nat) : p_vok (p_me mi) := by
  unfold p_me
  cases h : p_ML[mi]? with
  | none => exact v_z
  | some q => exact v_all q (List.mem_of_getElem? h)
theorem p_code_ok {mi pc len : Nat} {ins : Instr} (h : p_code mi pc = some (ins, len)) : decode (p_bytes mi) pc = .ok (ins, len) ∧ (p_sw ins = false → len = p_len ins) := by
  have h1 := p_find_mem h
  have h2 := List.all_eq_true.mp (p_me_ok mi) _ h1
  unfold p_dok at h2
  rw [Bool.and_eq_true, Bool.or_eq_true, decide_eq_true_eq] at h2
  refine ⟨h2.1, fun hs => ?_⟩
  rcases h2.2 with h3 | h3
  · dsimp only at h3
    rw [hs] at h3
    cases h3
  · exact Nat.eq_of_beq_eq_true h3
theorem p_tt {w : Cond} (k : Nat) (h : tables_1[k]? = some w) : w ∈ lw_tbl := List.mem_append_right _ (List.mem_of_getElem? h)
theorem p_t {w : Cond} (k : Nat) (h : tables_1[k]? = some w) (hg : goodWord w = true := by first | rfl | decide +kernel) : w ∈ lw_g := List.mem_filter.mpr ⟨p_tt k h, hg⟩
def p_clok (ci : Nat) (q : vw_C) : Prop := (∀ w ∈ u_ws q.1 q.2.1 q.2.2, w ∈ lw_g) ∧ (∀ k, k < q.2.2 → parseFieldDescriptor (q.2.1 k).2.2.1 = some (p_fty ci k)) ∧ (∀ a, a < q.2.2 → ∀ b, b < q.2.2 → a ≠ b → (q.2.1 a).2.1 ≠ (q.2.1 b).2.1) ∧ (∀ f, p_fin ci f = (q.2.1 f).2.2.2 ∨ q.2.2 = 0) ∧ (∀ f, f < q.2.2 → (q.2.1 f).1 = p_cn ci)
theorem p_emp {C : String} : ∀ w ∈ u_ws C TE 0, w ∈ lw_g := fun w h => by simp [u_ws] at h
theorem p_cl_ok : ∀ ci q, vwCl[ci]? = some q → p_clok ci q := by
  intro ci q h
  match ci, h with
  | 0, h => cases h; exact ⟨inX0, tyX0_ok, nmX0, fun f => Or.inl rfl, by decide +kernel⟩
  | 1, h => cases h; exact ⟨inX1, tyX1_ok, nmX1, fun f => Or.inl rfl, by decide +kernel⟩
  | 2, h => cases h; exact ⟨inX2, tyX2_ok, nmX2, fun f => Or.inl rfl, by decide +kernel⟩
  | 3, h => cases h; exact ⟨inX3, tyX3_ok, nmX3, fun f => Or.inl rfl, by decide +kernel⟩
  | 4, h => cases h; exact ⟨inX4, tyX4_ok, nmX4, fun f => Or.inl rfl, by decide +kernel⟩
  | 5, h => cases h; exact ⟨inX5, tyX5_ok, nmX5, fun f => Or.inl rfl, by decide +kernel⟩
  | 6, h => cases h; exact ⟨inX6, tyX6_ok, nmX6, fun f => Or.inl rfl, by decide +kernel⟩
  | 7, h => cases h; exact ⟨p_emp, fun k hk => absurd hk (Nat.not_lt_zero _), fun a ha => absurd ha (Nat.not_lt_zero _), fun f => Or.inr rfl, fun f hf => absurd hf (Nat.not_lt_zero _)⟩
  | 8, h => cases h; exact ⟨p_emp, fun k hk => absurd hk (Nat.not_lt_zero _), fun a ha => absurd ha (Nat.not_lt_zero _), fun f => Or.inr rfl, fun f hf => absurd hf (Nat.not_lt_zero _)⟩
  | 9, h => cases h; exact ⟨p_emp, fun k hk => absurd hk (Nat.not_lt_zero _), fun a ha => absurd ha (Nat.not_lt_zero _), fun f => Or.inr rfl, fun f hf => absurd hf (Nat.not_lt_zero _)⟩
  | 10, h => cases h; exact ⟨p_emp, fun k hk => absurd hk (Nat.not_lt_zero _), fun a ha => absurd ha (Nat.not_lt_zero _), fun f => Or.inr rfl, fun f hf => absurd hf (Nat.not_lt_zero _)⟩
  | 11, h => cases h; exact ⟨p_emp, fun k hk => absurd hk (Nat.not_lt_zero _), fun a ha => absurd ha (Nat.not_lt_zero _), fun f => Or.inr rfl, fun f hf => absurd hf (Nat.not_lt_zero _)⟩
  | ci + 12, h => simp [vwCl] at h
def p_fldP (o i : Nat) (a : Nat × Nat) : Prop := ∃ q : vw_C, vwCl[a.1]? = some q ∧ a.2 < q.2.2 ∧ Cond.fieldLink (p_cn o) i (q.2.1 a.2).1 (q.2.1 a.2).2.1 (q.2.1 a.2).2.2.1 ∈ lw_g
theorem f_0_9 : p_fldP 0 9 (0, 0) := ⟨_, rfl, by decide, p_t 168 (by decide +kernel)⟩
theorem f_0_15 : p_fldP 0 15 (0, 1) := ⟨_, rfl, by decide, p_t 170 (by decide +kernel)⟩
theorem f_0_29 : p_fldP 0 29 (2, 0) := ⟨_, rfl, by decide, p_t 38 (by decide +kernel)⟩
theorem f_0_38 : p_fldP 0 38 (2, 1) := ⟨_, rfl, by decide, p_t 42 (by decide +kernel)⟩
theorem f_0_48 : p_fldP 0 48 (2, 2) := ⟨_, rfl, by decide, p_t 46 (by decide +kernel)⟩
theorem f_0_70 : p_fldP 0 70 (2, 3) := ⟨_, rfl, by decide, p_t 50 (by decide +kernel)⟩
theorem f_0_73 : p_fldP 0 73 (2, 4) := ⟨_, rfl, by decide, p_t 54 (by decide +kernel)⟩
theorem f_0_83 : p_fldP 0 83 (2, 5) := ⟨_, rfl, by decide, p_t 58 (by decide +kernel)⟩
theorem f_0_86 : p_fldP 0 86 (2, 6) := ⟨_, rfl, by decide, p_t 61 (by decide +kernel)⟩
theorem f_0_91 : p_fldP 0 91 (2, 7) := ⟨_, rfl, by decide, p_t 65 (by decide +kernel)⟩
theorem f_0_94 : p_fldP 0 94 (2, 8) := ⟨_, rfl, by decide, p_t 68 (by decide +kernel)⟩
theorem f_1_9 : p_fldP 1 9 (1, 1) := ⟨_, rfl, by decide, p_t 109 (by decide +kernel)⟩
theorem f_1_15 : p_fldP 1 15 (1, 0) := ⟨_, rfl, by decide, p_t 108 (by decide +kernel)⟩
theorem f_1_19 : p_fldP 1 19 (1, 2) := ⟨_, rfl, by decide, p_t 110 (by decide +kernel)⟩
theorem f_1_28 : p_fldP 1 28 (1, 3) := ⟨_, rfl, by decide, p_t 112 (by decide +kernel)⟩
theorem f_1_31 : p_fldP 1 31 (1, 4) := ⟨_, rfl, by decide, p_t 113 (by decide +kernel)⟩
theorem f_1_42 : p_fldP 1 42 (2, 10) := ⟨_, rfl, by decide, p_t 72 (by decide +kernel)⟩
theorem f_2_9 : p_fldP 2 9 (2, 0) := ⟨_, rfl, by decide, p_t 36 (by decide +kernel)⟩
theorem f_2_15 : p_fldP 2 15 (2, 1) := ⟨_, rfl, by decide, p_t 40 (by decide +kernel)⟩
theorem f_2_18 : p_fldP 2 18 (2, 2) := ⟨_, rfl, by decide, p_t 44 (by decide +kernel)⟩
theorem f_2_21 : p_fldP 2 21 (2, 3) := ⟨_, rfl, by decide, p_t 48 (by decide +kernel)⟩
theorem f_2_24 : p_fldP 2 24 (2, 4) := ⟨_, rfl, by decide, p_t 52 (by decide +kernel)⟩
theorem f_2_27 : p_fldP 2 27 (2, 5) := ⟨_, rfl, by decide, p_t 56 (by decide +kernel)⟩
theorem f_2_30 : p_fldP 2 30 (2, 6) := ⟨_, rfl, by decide, p_t 59 (by decide +kernel)⟩
theorem f_2_33 : p_fldP 2 33 (2, 7) := ⟨_, rfl, by decide, p_t 63 (by decide +kernel)⟩
theorem f_2_36 : p_fldP 2 36 (2, 8) := ⟨_, rfl, by decide, p_t 66 (by decide +kernel)⟩
theorem f_2_39 : p_fldP 2 39 (2, 9) := ⟨_, rfl, by decide, p_t 69 (by decide +kernel)⟩
theorem f_2_43 : p_fldP 2 43 (2, 10) := ⟨_, rfl, by decide, p_t 71 (by decide +kernel)⟩
theorem f_2_46 : p_fldP 2 46 (2, 11) := ⟨_, rfl, by decide, p_t 74 (by decide +kernel)⟩
theorem f_3_9 : p_fldP 3 9 (3, 0) := ⟨_, rfl, by decide, p_t 135 (by decide +kernel)⟩
theorem f_3_15 : p_fldP 3 15 (3, 1) := ⟨_, rfl, by decide, p_t 136 (by decide +kernel)⟩
theorem f_3_19 : p_fldP 3 19 (3, 2) := ⟨_, rfl, by decide, p_t 137 (by decide +kernel)⟩
theorem f_4_9 : p_fldP 4 9 (4, 0) := ⟨_, rfl, by decide, p_t 152 (by decide +kernel)⟩
theorem f_4_15 : p_fldP 4 15 (4, 1) := ⟨_, rfl, by decide, p_t 154 (by decide +kernel)⟩
theorem f_4_19 : p_fldP 4 19 (2, 10) := ⟨_, rfl, by decide, p_t 70 (by decide +kernel)⟩
theorem f_4_25 : p_fldP 4 25 (2, 0) := ⟨_, rfl, by decide, p_t 37 (by decide +kernel)⟩
theorem f_4_29 : p_fldP 4 29 (2, 1) := ⟨_, rfl, by decide, p_t 41 (by decide +kernel)⟩
theorem f_4_34 : p_fldP 4 34 (2, 2) := ⟨_, rfl, by decide, p_t 45 (by decide +kernel)⟩
theorem f_4_53 : p_fldP 4 53 (2, 3) := ⟨_, rfl, by decide, p_t 49 (by decide +kernel)⟩
theorem f_4_56 : p_fldP 4 56 (2, 4) := ⟨_, rfl, by decide, p_t 53 (by decide +kernel)⟩
theorem f_4_74 : p_fldP 4 74 (2, 5) := ⟨_, rfl, by decide, p_t 57 (by decide +kernel)⟩
theorem f_4_77 : p_fldP 4 77 (2, 6) := ⟨_, rfl, by decide, p_t 60 (by decide +kernel)⟩
theorem f_4_80 : p_fldP 4 80 (2, 7) := ⟨_, rfl, by decide, p_t 64 (by decide +kernel)⟩
theorem f_4_85 : p_fldP 4 85 (2, 8) := ⟨_, rfl, by decide, p_t 67 (by decide +kernel)⟩
theorem f_5_12 : p_fldP 5 12 (5, 0) := ⟨_, rfl, by decide, p_t 177 (by decide +kernel)⟩
theorem f_5_21 : p_fldP 5 21 (5, 1) := ⟨_, rfl, by decide, p_t 178 (by decide +kernel)⟩
theorem f_5_28 : p_fldP 5 28 (5, 2) := ⟨_, rfl, by decide, p_t 179 (by decide +kernel)⟩
theorem f_5_35 : p_fldP 5 35 (5, 3) := ⟨_, rfl, by decide, p_t 180 (by decide +kernel)⟩
theorem f_5_42 : p_fldP 5 42 (5, 4) := ⟨_, rfl, by decide, p_t 181 (by decide +kernel)⟩
theorem f_5_46 : p_fldP 5 46 (5, 5) := ⟨_, rfl, by decide, p_t 182 (by decide +kernel)⟩
theorem f_5_101 : p_fldP 5 101 (2, 0) := ⟨_, rfl, by decide, p_t 39 (by decide +kernel)⟩
theorem f_5_105 : p_fldP 5 105 (2, 1) := ⟨_, rfl, by decide, p_t 43 (by decide +kernel)⟩
theorem f_5_108 : p_fldP 5 108 (2, 2) := ⟨_, rfl, by decide, p_t 47 (by decide +kernel)⟩
theorem f_5_111 : p_fldP 5 111 (2, 3) := ⟨_, rfl, by decide, p_t 51 (by decide +kernel)⟩
theorem f_5_114 : p_fldP 5 114 (2, 4) := ⟨_, rfl, by decide, p_t 55 (by decide +kernel)⟩
theorem f_5_117 : p_fldP 5 117 (2, 6) := ⟨_, rfl, by decide, p_t 62 (by decide +kernel)⟩
theorem f_5_134 : p_fldP 5 134 (2, 10) := ⟨_, rfl, by decide, p_t 73 (by decide +kernel)⟩
theorem f_5_147 : p_fldP 5 147 (0, 1) := ⟨_, rfl, by decide, p_t 171 (by decide +kernel)⟩
theorem f_5_152 : p_fldP 5 152 (0, 0) := ⟨_, rfl, by decide, p_t 169 (by decide +kernel)⟩
theorem f_5_166 : p_fldP 5 166 (1, 2) := ⟨_, rfl, by decide, p_t 111 (by decide +kernel)⟩
theorem f_5_167 : p_fldP 5 167 (2, 11) := ⟨_, rfl, by decide, p_t 75 (by decide +kernel)⟩
theorem f_5_179 : p_fldP 5 179 (4, 1) := ⟨_, rfl, by decide, p_t 155 (by decide +kernel)⟩
theorem f_5_188 : p_fldP 5 188 (4, 0) := ⟨_, rfl, by decide, p_t 153 (by decide +kernel)⟩
theorem f_6_7 : p_fldP 6 7 (6, 0) := ⟨_, rfl, by decide, p_t 727 (by decide +kernel)⟩
theorem f_6_13 : p_fldP 6 13 (6, 5) := ⟨_, rfl, by decide, p_t 732 (by decide +kernel)⟩
theorem f_6_16 : p_fldP 6 16 (6, 6) := ⟨_, rfl, by decide, p_t 733 (by decide +kernel)⟩
theorem f_6_19 : p_fldP 6 19 (6, 7) := ⟨_, rfl, by decide, p_t 734 (by decide +kernel)⟩
theorem f_6_22 : p_fldP 6 22 (6, 8) := ⟨_, rfl, by decide, p_t 735 (by decide +kernel)⟩
theorem f_6_25 : p_fldP 6 25 (6, 9) := ⟨_, rfl, by decide, p_t 736 (by decide +kernel)⟩
theorem f_6_28 : p_fldP 6 28 (6, 10) := ⟨_, rfl, by decide, p_t 737 (by decide +kernel)⟩
theorem f_6_31 : p_fldP 6 31 (6, 11) := ⟨_, rfl, by decide, p_t 738 (by decide +kernel)⟩
theorem f_6_34 : p_fldP 6 34 (6, 12) := ⟨_, rfl, by decide, p_t 739 (by decide +kernel)⟩
theorem f_6_37 : p_fldP 6 37 (6, 18) := ⟨_, rfl, by decide, p_t 745 (by decide +kernel)⟩
theorem f_6_40 : p_fldP 6 40 (6, 19) := ⟨_, rfl, by decide, p_t 746 (by decide +kernel)⟩
theorem f_6_43 : p_fldP 6 43 (6, 20) := ⟨_, rfl, by decide, p_t 747 (by decide +kernel)⟩
theorem f_6_46 : p_fldP 6 46 (6, 21) := ⟨_, rfl, by decide, p_t 748 (by decide +kernel)⟩
theorem f_6_49 : p_fldP 6 49 (6, 23) := ⟨_, rfl, by decide, p_t 750 (by decide +kernel)⟩
theorem f_6_52 : p_fldP 6 52 (6, 24) := ⟨_, rfl, by decide, p_t 751 (by decide +kernel)⟩
theorem f_6_55 : p_fldP 6 55 (6, 26) := ⟨_, rfl, by decide, p_t 753 (by decide +kernel)⟩
theorem f_6_59 : p_fldP 6 59 (6, 27) := ⟨_, rfl, by decide, p_t 754 (by decide +kernel)⟩
theorem f_6_62 : p_fldP 6 62 (6, 28) := ⟨_, rfl, by decide, p_t 755 (by decide +kernel)⟩
theorem f_6_65 : p_fldP 6 65 (6, 29) := ⟨_, rfl, by decide, p_t 756 (by decide +kernel)⟩
theorem f_6_68 : p_fldP 6 68 (6, 30) := ⟨_, rfl, by decide, p_t 757 (by decide +kernel)⟩
theorem f_6_73 : p_fldP 6 73 (6, 4) := ⟨_, rfl, by decide, p_t 731 (by decide +kernel)⟩
theorem f_6_77 : p_fldP 6 77 (6, 1) := ⟨_, rfl, by decide, p_t 728 (by decide +kernel)⟩
theorem f_6_80 : p_fldP 6 80 (6, 2) := ⟨_, rfl, by decide, p_t 729 (by decide +kernel)⟩
theorem f_6_83 : p_fldP 6 83 (6, 3) := ⟨_, rfl, by decide, p_t 730 (by decide +kernel)⟩
theorem f_6_110 : p_fldP 6 110 (6, 14) := ⟨_, rfl, by decide, p_t 741 (by decide +kernel)⟩
theorem f_6_113 : p_fldP 6 113 (6, 13) := ⟨_, rfl, by decide, p_t 740 (by decide +kernel)⟩
theorem f_6_132 : p_fldP 6 132 (6, 22) := ⟨_, rfl, by decide, p_t 749 (by decide +kernel)⟩
theorem f_6_135 : p_fldP 6 135 (6, 17) := ⟨_, rfl, by decide, p_t 744 (by decide +kernel)⟩
theorem f_6_174 : p_fldP 6 174 (6, 15) := ⟨_, rfl, by decide, p_t 742 (by decide +kernel)⟩
theorem f_6_177 : p_fldP 6 177 (6, 16) := ⟨_, rfl, by decide, p_t 743 (by decide +kernel)⟩
theorem f_6_191 : p_fldP 6 191 (6, 25) := ⟨_, rfl, by decide, p_t 752 (by decide +kernel)⟩
theorem f_6_232 : p_fldP 6 232 (6, 31) := ⟨_, rfl, by decide, p_t 758 (by decide +kernel)⟩
theorem p_fldA : p_all2 p_fldL p_fldP := List.forall_mem_cons.mpr ⟨List.forall_mem_cons.mpr ⟨f_0_9, List.forall_mem_cons.mpr ⟨f_0_15, List.forall_mem_cons.mpr ⟨f_0_29, List.forall_mem_cons.mpr ⟨f_0_38, List.forall_mem_cons.mpr ⟨f_0_48, List.forall_mem_cons.mpr ⟨f_0_70, List.forall_mem_cons.mpr ⟨f_0_73, List.forall_mem_cons.mpr ⟨f_0_83, List.forall_mem_cons.mpr ⟨f_0_86, List.forall_mem_cons.mpr ⟨f_0_91, List.forall_mem_cons.mpr ⟨f_0_94, fun _ h => absurd h List.not_mem_nil⟩⟩⟩⟩⟩⟩⟩⟩⟩⟩⟩, List.forall_mem_cons.mpr ⟨List.forall_mem_cons.mpr ⟨f_1_9, List.forall_mem_cons.mpr ⟨f_1_15, List.forall_mem_cons.mpr ⟨f_1_19, List.forall_mem_cons.mpr ⟨f_1_28, List.forall_mem_cons.mpr ⟨f_1_31, List.forall_mem_cons.mpr ⟨f_1_42, fun _ h => absurd h List.not_mem_nil⟩⟩⟩⟩⟩⟩, List.forall_mem_cons.mpr ⟨List.forall_mem_cons.mpr ⟨f_2_9, List.forall_mem_cons.mpr ⟨f_2_15, List.forall_mem_cons.mpr ⟨f_2_18, List.forall_mem_cons.mpr ⟨f_2_21, List.forall_mem_cons.mpr ⟨f_2_24, List.forall_mem_cons.mpr ⟨f_2_27, List.forall_mem_cons.mpr ⟨f_2_30, List.forall_mem_cons.mpr ⟨f_2_33, List.forall_mem_cons.mpr ⟨f_2_36, List.forall_mem_cons.mpr ⟨f_2_39, List.forall_mem_cons.mpr ⟨f_2_43, List.forall_mem_cons.mpr ⟨f_2_46, fun _ h => absurd h List.not_mem_nil⟩⟩⟩⟩⟩⟩⟩⟩⟩⟩⟩⟩, List.forall_mem_cons.mpr ⟨List.forall_mem_cons.mpr ⟨f_3_9, List.forall_mem_cons.mpr ⟨f_3_15, List.forall_mem_cons.mpr ⟨f_3_19, fun _ h => absurd h List.not_mem_nil⟩⟩⟩, List.forall_mem_cons.mpr ⟨List.forall_mem_cons.mpr ⟨f_4_9, List.forall_mem_cons.mpr ⟨f_4_15, List.forall_mem_cons.mpr ⟨f_4_19, List.forall_mem_cons.mpr ⟨f_4_25, List.forall_mem_cons.mpr ⟨f_4_29, List.forall_mem_cons.mpr ⟨f_4_34, List.forall_mem_cons.mpr ⟨f_4_53, List.forall_mem_cons.mpr ⟨f_4_56, List.forall_mem_cons.mpr ⟨f_4_74, List.forall_mem_cons.mpr ⟨f_4_77, List.forall_mem_cons.mpr ⟨f_4_80, List.forall_mem_cons.mpr ⟨f_4_85, fun _ h => absurd h List.not_mem_nil⟩⟩⟩⟩⟩⟩⟩⟩⟩⟩⟩⟩, List.forall_mem_cons.mpr ⟨List.forall_mem_cons.mpr ⟨f_5_12, List.forall_mem_cons.mpr ⟨f_5_21, List.forall_mem_cons.mpr ⟨f_5_28, List.forall_mem_cons.mpr ⟨f_5_35, List.forall_mem_cons.mpr ⟨f_5_42, List.forall_mem_cons.mpr ⟨f_5_46, List.forall_mem_cons.mpr ⟨f_5_101, List.forall_mem_cons.mpr ⟨f_5_105, List.forall_mem_cons.mpr ⟨f_5_108, List.forall_mem_cons.mpr ⟨f_5_111, List.forall_mem_cons.mpr ⟨f_5_114, List.forall_mem_cons.mpr ⟨f_5_117, List.forall_mem_cons.mpr ⟨f_5_134, List.forall_mem_cons.mpr ⟨f_5_147, List.forall_mem_cons.mpr ⟨f_5_152, List.forall_mem_cons.mpr ⟨f_5_166, List.forall_mem_cons.mpr ⟨f_5_167, List.forall_mem_cons.mpr ⟨f_5_179, List.forall_mem_cons.mpr ⟨f_5_188, fun _ h => absurd h List.not_mem_nil⟩⟩⟩⟩⟩⟩⟩⟩⟩⟩⟩⟩⟩⟩⟩⟩⟩⟩⟩, List.forall_mem_cons.mpr ⟨List.forall_mem_cons.mpr ⟨f_6_7, List.forall_mem_cons.mpr ⟨f_6_13, List.forall_mem_cons.mpr ⟨f_6_16, List.forall_mem_cons.mpr ⟨f_6_19, List.forall_mem_cons.mpr ⟨f_6_22, List.forall_mem_cons.mpr ⟨f_6_25, List.forall_mem_cons.mpr ⟨f_6_28, List.forall_mem_cons.mpr ⟨f_6_31, List.forall_mem_cons.mpr ⟨f_6_34, List.forall_mem_cons.mpr ⟨f_6_37, List.forall_mem_cons.mpr ⟨f_6_40, List.forall_mem_cons.mpr ⟨f_6_43, List.forall_mem_cons.mpr ⟨f_6_46, List.forall_mem_cons.mpr ⟨f_6_49, List.forall_mem_cons.mpr ⟨f_6_52, List.forall_mem_cons.mpr ⟨f_6_55, List.forall_mem_cons.mpr ⟨f_6_59, List.forall_mem_cons.mpr ⟨f_6_62, List.forall_mem_cons.mpr ⟨f_6_65, List.forall_mem_cons.mpr ⟨f_6_68, List.forall_mem_cons.mpr ⟨f_6_73, List.forall_mem_cons.mpr ⟨f_6_77, List.forall_mem_cons.mpr ⟨f_6_80, List.forall_mem_cons.mpr ⟨f_6_83, List.forall_mem_cons.mpr ⟨f_6_110, List.forall_mem_cons.mpr ⟨f_6_113, List.forall_mem_cons.mpr ⟨f_6_132, List.forall_mem_cons.mpr ⟨f_6_135, List.forall_mem_cons.mpr ⟨f_6_174, List.forall_mem_cons.mpr ⟨f_6_177, List.forall_mem_cons.mpr ⟨f_6_191, List.forall_mem_cons.mpr ⟨f_6_232, fun _ h => absurd h List.not_mem_nil⟩⟩⟩⟩⟩⟩⟩⟩⟩⟩⟩⟩⟩⟩⟩⟩⟩⟩⟩⟩⟩⟩⟩⟩⟩⟩⟩⟩⟩⟩⟩⟩, fun _ h => absurd h List.not_mem_nil⟩⟩⟩⟩⟩⟩⟩
theorem p_fld_ok {o i ci f : Nat} (h : p_fld o i = some (ci, f)) : ∃ C T N, vwCl[ci]? = some (C, T, N) ∧ (∀ w ∈ u_ws C T N, w ∈ lw_g) ∧ f < N ∧ Cond.fieldLink (p_cn o) i (T f).1 (T f).2.1 (T f).2.2.1 ∈ lw_g ∧ (∀ k, k < N → parseFieldDescriptor (T k).2.2.1 = some (p_fty ci k)) ∧ (∀ a, a < N → ∀ b, b < N → a ≠ b → (T a).2.1 ≠ (T b).2.1) ∧ p_fin ci f = (T f).2.2.2 ∧ (T f).1 = p_cn ci := by
  obtain ⟨⟨C, T, N⟩, h1, h2, h3⟩ := p_all2_ok p_fldA h
  obtain ⟨g1, g2, g3, g4, g5⟩ := p_cl_ok ci _ h1
  refine ⟨C, T, N, h1, g1, h2, h3, g2, g3, ?_, g5 f h2⟩
  rcases g4 f with g | g
  · exact g
  · dsimp only at g h2
    omega
def p_newP (o i : Nat) (a : Nat × List Value) : Prop := ∃ q : vw_C, vwCl[a.1]? = some q ∧ Cond.classLink (p_cn o) i q.1 ∈ lw_g ∧ Cond.instantiable q.1 (p_csl a.1) ∈ lw_g ∧ Cond.initialized q.1 ∈ lw_g ∧ (∀ j, j < q.2.2 → defaultValue (p_fty a.1 j) = vp_V a.2 j) ∧ ∀ v ∈ a.2, v = .null ∨ v = .int 0 ∨ v = .long 0
theorem n_5_9 : p_newP 5 9 (2, [.null, .null, .null, .null, .null, .null, .null, .null, .null, .int 0, .int 0, .int 0]) := ⟨_, rfl, p_t 30 (by decide +kernel), p_t 31 (by decide +kernel), p_t 2 (by decide +kernel), by decide +kernel, by decide +kernel⟩
theorem n_5_16 : p_newP 5 16 (1, [.null, .null, .int 0, .int 0, .int 0]) := ⟨_, rfl, p_t 102 (by decide +kernel), p_t 103 (by decide +kernel), p_t 3 (by decide +kernel), by decide +kernel, by decide +kernel⟩
theorem n_5_25 : p_newP 5 25 (3, [.null, .null, .null]) := ⟨_, rfl, p_t 125 (by decide +kernel), p_t 126 (by decide +kernel), p_t 4 (by decide +kernel), by decide +kernel, by decide +kernel⟩
theorem n_5_32 : p_newP 5 32 (4, [.null, .null]) := ⟨_, rfl, p_t 146 (by decide +kernel), p_t 147 (by decide +kernel), p_t 6 (by decide +kernel), by decide +kernel, by decide +kernel⟩
theorem n_5_39 : p_newP 5 39 (0, [.null, .int 0]) := ⟨_, rfl, p_t 162 (by decide +kernel), p_t 163 (by decide +kernel), p_t 7 (by decide +kernel), by decide +kernel, by decide +kernel⟩
theorem n_12_8 : p_newP 12 8 (5, [.null, .null, .null, .null, .null, .long 0]) := ⟨_, rfl, p_t 22 (by decide +kernel), p_t 23 (by decide +kernel), p_t 1 (by decide +kernel), by decide +kernel, by decide +kernel⟩
theorem n_12_46 : p_newP 12 46 (6, [.null, .int 0, .int 0, .int 0, .int 0, .null, .null, .null, .null, .null, .null, .null, .null, .int 0, .int 0, .int 0, .int 0, .int 0, .null, .null, .null, .null, .int 0, .null, .null, .long 0, .null, .null, .null, .null, .null, .int 0]) := ⟨_, rfl, p_t 720 (by decide +kernel), p_t 721 (by decide +kernel), p_t 8 (by decide +kernel), by decide +kernel, by decide +kernel⟩
theorem p_newA : p_all2 p_newL p_newP := List.forall_mem_cons.mpr ⟨List.forall_mem_cons.mpr ⟨n_5_9, List.forall_mem_cons.mpr ⟨n_5_16, List.forall_mem_cons.mpr ⟨n_5_25, List.forall_mem_cons.mpr ⟨n_5_32, List.forall_mem_cons.mpr ⟨n_5_39, fun _ h => absurd h List.not_mem_nil⟩⟩⟩⟩⟩, List.forall_mem_cons.mpr ⟨List.forall_mem_cons.mpr ⟨n_12_8, List.forall_mem_cons.mpr ⟨n_12_46, fun _ h => absurd h List.not_mem_nil⟩⟩, fun _ h => absurd h List.not_mem_nil⟩⟩
def p_intP (o i : Nat) (a : Int32) : Prop := Cond.constant (p_cn o) i a ∈ lw_g
def p_lngP (o i : Nat) (a : Int64) : Prop := Cond.constantLong (p_cn o) i a ∈ lw_g
theorem ki_0_97 : p_intP 0 97 (100000) := p_t 665 (by decide +kernel)
theorem p_intA : p_all2 p_intL p_intP := List.forall_mem_cons.mpr ⟨List.forall_mem_cons.mpr ⟨ki_0_97, fun _ h => absurd h List.not_mem_nil⟩, fun _ h => absurd h List.not_mem_nil⟩
theorem p_int_ok {o i : Nat} {v : Int32} (h : p_int o i = some v) : Cond.constant (p_cn o) i v ∈ lw_g := p_all2_ok p_intA h
theorem kl_3_22 : p_lngP 3 22 (-1) := p_t 131 (by decide +kernel)
theorem kl_3_30 : p_lngP 3 30 (100000000) := p_t 401 (by decide +kernel)
theorem kl_3_40 : p_lngP 3 40 (100000001) := p_t 429 (by decide +kernel)
theorem kl_4_32 : p_lngP 4 32 (10) := p_t 545 (by decide +kernel)
theorem kl_4_51 : p_lngP 4 51 (1000000) := p_t 556 (by decide +kernel)
theorem kl_4_63 : p_lngP 4 63 (100000000) := p_t 551 (by decide +kernel)
theorem kl_4_83 : p_lngP 4 83 (100) := p_t 555 (by decide +kernel)
theorem kl_5_58 : p_lngP 5 58 (100000000) := p_t 392 (by decide +kernel)
theorem kl_5_79 : p_lngP 5 79 (1000000) := p_t 582 (by decide +kernel)
theorem kl_5_87 : p_lngP 5 87 (500000) := p_t 594 (by decide +kernel)
theorem kl_5_89 : p_lngP 5 89 (10000000) := p_t 595 (by decide +kernel)
theorem kl_5_91 : p_lngP 5 91 (10) := p_t 596 (by decide +kernel)
theorem kl_5_132 : p_lngP 5 132 (-1) := p_t 433 (by decide +kernel)
theorem kl_5_155 : p_lngP 5 155 (1000000000) := p_t 701 (by decide +kernel)
theorem kl_5_164 : p_lngP 5 164 (100) := p_t 719 (by decide +kernel)
theorem kl_6_71 : p_lngP 6 71 (-1) := p_t 726 (by decide +kernel)
theorem kl_6_138 : p_lngP 6 138 (255) := p_t 868 (by decide +kernel)
theorem kl_6_143 : p_lngP 6 143 (7170414) := p_t 863 (by decide +kernel)
theorem kl_6_149 : p_lngP 6 149 (7168376) := p_t 869 (by decide +kernel)
theorem kl_6_151 : p_lngP 6 151 (1718773093) := p_t 870 (by decide +kernel)
theorem kl_6_153 : p_lngP 6 153 (1937007984) := p_t 871 (by decide +kernel)
theorem kl_6_189 : p_lngP 6 189 (100000000) := p_t 931 (by decide +kernel)
theorem kl_6_198 : p_lngP 6 198 (100000001) := p_t 963 (by decide +kernel)
theorem kl_6_200 : p_lngP 6 200 (100) := p_t 969 (by decide +kernel)
theorem kl_6_202 : p_lngP 6 202 (1000000) := p_t 970 (by decide +kernel)
theorem kl_6_211 : p_lngP 6 211 (10) := p_t 964 (by decide +kernel)
theorem kl_6_226 : p_lngP 6 226 (500000) := p_t 979 (by decide +kernel)
theorem kl_6_228 : p_lngP 6 228 (999999) := p_t 980 (by decide +kernel)
theorem kl_6_230 : p_lngP 6 230 (10000000) := p_t 981 (by decide +kernel)
theorem kl_6_241 : p_lngP 6 241 (495874043944) := p_t 1014 (by decide +kernel)
theorem kl_6_253 : p_lngP 6 253 (1835626024) := p_t 1023 (by decide +kernel)
theorem kl_6_255 : p_lngP 6 255 (1835104296) := p_t 1024 (by decide +kernel)
theorem kl_6_263 : p_lngP 6 263 (1000000000) := p_t 1037 (by decide +kernel)
theorem kl_12_58 : p_lngP 12 58 (4294967295) := p_t 1042 (by decide +kernel)
theorem p_lngA : p_all2 p_lngL p_lngP := List.forall_mem_cons.mpr ⟨List.forall_mem_cons.mpr ⟨kl_3_22, List.forall_mem_cons.mpr ⟨kl_3_30, List.forall_mem_cons.mpr ⟨kl_3_40, fun _ h => absurd h List.not_mem_nil⟩⟩⟩, List.forall_mem_cons.mpr ⟨List.forall_mem_cons.mpr ⟨kl_4_32, List.forall_mem_cons.mpr ⟨kl_4_51, List.forall_mem_cons.mpr ⟨kl_4_63, List.forall_mem_cons.mpr ⟨kl_4_83, fun _ h => absurd h List.not_mem_nil⟩⟩⟩⟩, List.forall_mem_cons.mpr ⟨List.forall_mem_cons.mpr ⟨kl_5_58, List.forall_mem_cons.mpr ⟨kl_5_79, List.forall_mem_cons.mpr ⟨kl_5_87, List.forall_mem_cons.mpr ⟨kl_5_89, List.forall_mem_cons.mpr ⟨kl_5_91, List.forall_mem_cons.mpr ⟨kl_5_132, List.forall_mem_cons.mpr ⟨kl_5_155, List.forall_mem_cons.mpr ⟨kl_5_164, fun _ h => absurd h List.not_mem_nil⟩⟩⟩⟩⟩⟩⟩⟩, List.forall_mem_cons.mpr ⟨List.forall_mem_cons.mpr ⟨kl_6_71, List.forall_mem_cons.mpr ⟨kl_6_138, List.forall_mem_cons.mpr ⟨kl_6_143, List.forall_mem_cons.mpr ⟨kl_6_149, List.forall_mem_cons.mpr ⟨kl_6_151, List.forall_mem_cons.mpr ⟨kl_6_153, List.forall_mem_cons.mpr ⟨kl_6_189, List.forall_mem_cons.mpr ⟨kl_6_198, List.forall_mem_cons.mpr ⟨kl_6_200, List.forall_mem_cons.mpr ⟨kl_6_202, List.forall_mem_cons.mpr ⟨kl_6_211, List.forall_mem_cons.mpr ⟨kl_6_226, List.forall_mem_cons.mpr ⟨kl_6_228, List.forall_mem_cons.mpr ⟨kl_6_230, List.forall_mem_cons.mpr ⟨kl_6_241, List.forall_mem_cons.mpr ⟨kl_6_253, List.forall_mem_cons.mpr ⟨kl_6_255, List.forall_mem_cons.mpr ⟨kl_6_263, fun _ h => absurd h List.not_mem_nil⟩⟩⟩⟩⟩⟩⟩⟩⟩⟩⟩⟩⟩⟩⟩⟩⟩⟩, List.forall_mem_cons.mpr ⟨List.forall_mem_cons.mpr ⟨kl_12_58, fun _ h => absurd h List.not_mem_nil⟩, fun _ h => absurd h List.not_mem_nil⟩⟩⟩⟩⟩
theorem p_lng_ok {o i : Nat} {v : Int64} (h : p_lng o i = some v) : Cond.constantLong (p_cn o) i v ∈ lw_g := p_all2_ok p_lngA h
theorem p_arr_int : Cond.arrayClass .int ∈ lw_g := p_t 101 (by decide +kernel)
theorem p_arr_long : Cond.arrayClass .long ∈ lw_g := p_t 145 (by decide +kernel)
theorem p_arr_boolean : Cond.arrayClass .boolean ∈ lw_g := p_t 161 (by decide +kernel)
theorem p_good {w : Cond} (h : w ∈ lw_g) : (w.onTables && w.keeps) = true ∨ ∃ ty, w = .arrayClass ty := good_of_word (List.mem_filter.mp h).2
