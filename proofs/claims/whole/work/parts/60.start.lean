/-! ===== the law's start: what lies in the machine at the entry ===== -/
def lw_fl : List Cond := flatC (.and given_1 narrow_1)
def st_L : List (String × Nat) := [("RateShapes$Reader", 121), ("RateShapes$Reader", 127), ("RateShapes$Reader", 129), ("RateShapes$Reader", 131), ("RateShapes", 70), ("RateShapes", 140), ("RateShapes", 185), ("RateShapes", 85), ("RateShapes", 98), ("RateShapes", 120), ("RateShapes$Printer", 51), ("RateShapes$Printer", 57), ("RateShapes$Printer", 59), ("RateShapes$Printer", 76), ("RateShapes$Printer", 64), ("RateShapes$Printer", 78), ("RateShapes$Printer", 89), ("RateShapes", 150), ("RateShapes", 157), ("RateShapes", 161)]
def st_tm (j : Nat) : Term := .string (st_L.getD j ("", 0)).1 (st_L.getD j ("", 0)).2
def st_p : List Nat := [66, 74, 82, 91, 102, 122, 138, 181, 204, 228, 271, 289, 308, 329, 349, 372, 397, 420, 454, 496]
theorem st_1 : ∀ j, j < 20 → lw_fl[st_p.getD j 0]? = some (.exactly (st_tm j) "java/lang/String") := by decide +kernel
theorem st_2 : ∀ j, j < 20 → lw_fl[st_p.getD j 0 + 1]? = some (.eq (.field (st_tm j) "java/lang/String" "coder" "B") (.int 0)) := by decide +kernel
theorem st_3 : ∀ j, j < 20 → lw_fl[st_p.getD j 0 + 2]? = some (.arrayOf (.field (st_tm j) "java/lang/String" "value" "[B") .byte) := by decide +kernel
theorem st_4 : ∀ j, j < 20 → lw_fl[st_p.getD j 0 + 3]? = some (.eq (.length (.field (st_tm j) "java/lang/String" "value" "[B")) (.int (Int32.ofNat (p_lenL.getD j 0)))) := by decide +kernel
theorem st_5 : ∀ j, j < 20 → ∀ k, k < p_lenL.getD j 0 → lw_fl[st_p.getD j 0 + 4 + k]? = some (.eq (.elem (.field (st_tm j) "java/lang/String" "value" "[B") (.int (Int32.ofNat k))) (.int ((p_litL.getD j []).getD k 0))) := by decide +kernel
theorem st_6 : ∀ j, j < 20 → ∀ i, i < j → lw_fl[st_p.getD j 0 + 4 + p_lenL.getD j 0 + (bif Nat.blt i 10 then i else i + 1)]? = some (.not (.eq (st_tm i) (st_tm j))) := by decide +kernel
theorem st_7 : ∀ j, j < 20 → p_lenL.getD j 0 < 2 ^ 31 := by decide +kernel
def st_P (o i j : Nat) : Prop := j < 20 ∧ (∃ tx, Cond.stringRef (p_cn o) i tx ∈ lw_tbl) ∧ (Term.string (p_cn o) i = st_tm j ∨ Cond.eq (st_tm j) (.string (p_cn o) i) ∈ lw_fl)
theorem st_s_0_32 : st_P 0 32 0 := ⟨by omega, ⟨"free", p_tt 646 (by decide +kernel)⟩, Or.inr (List.mem_of_getElem? (i := 261) (by decide +kernel))⟩
theorem st_s_0_51 : st_P 0 51 10 := ⟨by omega, ⟨" + ", p_tt 666 (by decide +kernel)⟩, Or.inl (by decide +kernel)⟩
theorem st_s_0_57 : st_P 0 57 11 := ⟨by omega, ⟨" - ", p_tt 671 (by decide +kernel)⟩, Or.inl (by decide +kernel)⟩
theorem st_s_0_59 : st_P 0 59 12 := ⟨by omega, ⟨"min(", p_tt 672 (by decide +kernel)⟩, Or.inl (by decide +kernel)⟩
theorem st_s_0_64 : st_P 0 64 14 := ⟨by omega, ⟨"max(", p_tt 678 (by decide +kernel)⟩, Or.inl (by decide +kernel)⟩
theorem st_s_0_76 : st_P 0 76 13 := ⟨by omega, ⟨", ", p_tt 677 (by decide +kernel)⟩, Or.inl (by decide +kernel)⟩
theorem st_s_0_78 : st_P 0 78 15 := ⟨by omega, ⟨"step(", p_tt 683 (by decide +kernel)⟩, Or.inl (by decide +kernel)⟩
theorem st_s_0_89 : st_P 0 89 16 := ⟨by omega, ⟨": ", p_tt 684 (by decide +kernel)⟩, Or.inl (by decide +kernel)⟩
theorem st_s_1_121 : st_P 1 121 0 := ⟨by omega, ⟨"free", p_tt 284 (by decide +kernel)⟩, Or.inl (by decide +kernel)⟩
theorem st_s_1_127 : st_P 1 127 1 := ⟨by omega, ⟨"min", p_tt 337 (by decide +kernel)⟩, Or.inl (by decide +kernel)⟩
theorem st_s_1_129 : st_P 1 129 2 := ⟨by omega, ⟨"max", p_tt 338 (by decide +kernel)⟩, Or.inl (by decide +kernel)⟩
theorem st_s_1_131 : st_P 1 131 3 := ⟨by omega, ⟨"step", p_tt 339 (by decide +kernel)⟩, Or.inl (by decide +kernel)⟩
theorem st_s_5_70 : st_P 5 70 4 := ⟨by omega, ⟨"no such side", p_tt 491 (by decide +kernel)⟩, Or.inl (by decide +kernel)⟩
theorem st_s_5_85 : st_P 5 85 7 := ⟨by omega, ⟨"no such rule", p_tt 593 (by decide +kernel)⟩, Or.inl (by decide +kernel)⟩
theorem st_s_5_98 : st_P 5 98 8 := ⟨by omega, ⟨"no such node", p_tt 615 (by decide +kernel)⟩, Or.inl (by decide +kernel)⟩
theorem st_s_5_120 : st_P 5 120 9 := ⟨by omega, ⟨"no such what", p_tt 622 (by decide +kernel)⟩, Or.inl (by decide +kernel)⟩
theorem st_s_5_140 : st_P 5 140 5 := ⟨by omega, ⟨"no tree", p_tt 530 (by decide +kernel)⟩, Or.inl (by decide +kernel)⟩
theorem st_s_5_150 : st_P 5 150 17 := ⟨by omega, ⟨"no such sign", p_tt 692 (by decide +kernel)⟩, Or.inl (by decide +kernel)⟩
theorem st_s_5_157 : st_P 5 157 18 := ⟨by omega, ⟨"not 0 .. 1000000000", p_tt 702 (by decide +kernel)⟩, Or.inl (by decide +kernel)⟩
theorem st_s_5_161 : st_P 5 161 19 := ⟨by omega, ⟨"price 0", p_tt 712 (by decide +kernel)⟩, Or.inl (by decide +kernel)⟩
theorem st_s_5_185 : st_P 5 185 6 := ⟨by omega, ⟨"a unit has no amount, or too much", p_tt 574 (by decide +kernel)⟩, Or.inl (by decide +kernel)⟩
theorem st_A : p_all2 p_strL st_P := List.forall_mem_cons.mpr ⟨List.forall_mem_cons.mpr ⟨st_s_0_32, List.forall_mem_cons.mpr ⟨st_s_0_51, List.forall_mem_cons.mpr ⟨st_s_0_57, List.forall_mem_cons.mpr ⟨st_s_0_59, List.forall_mem_cons.mpr ⟨st_s_0_64, List.forall_mem_cons.mpr ⟨st_s_0_76, List.forall_mem_cons.mpr ⟨st_s_0_78, List.forall_mem_cons.mpr ⟨st_s_0_89, fun _ h => absurd h List.not_mem_nil⟩⟩⟩⟩⟩⟩⟩⟩, List.forall_mem_cons.mpr ⟨List.forall_mem_cons.mpr ⟨st_s_1_121, List.forall_mem_cons.mpr ⟨st_s_1_127, List.forall_mem_cons.mpr ⟨st_s_1_129, List.forall_mem_cons.mpr ⟨st_s_1_131, fun _ h => absurd h List.not_mem_nil⟩⟩⟩⟩, List.forall_mem_cons.mpr ⟨List.forall_mem_cons.mpr ⟨st_s_5_70, List.forall_mem_cons.mpr ⟨st_s_5_85, List.forall_mem_cons.mpr ⟨st_s_5_98, List.forall_mem_cons.mpr ⟨st_s_5_120, List.forall_mem_cons.mpr ⟨st_s_5_140, List.forall_mem_cons.mpr ⟨st_s_5_150, List.forall_mem_cons.mpr ⟨st_s_5_157, List.forall_mem_cons.mpr ⟨st_s_5_161, List.forall_mem_cons.mpr ⟨st_s_5_185, fun _ h => absurd h List.not_mem_nil⟩⟩⟩⟩⟩⟩⟩⟩⟩, fun _ h => absurd h List.not_mem_nil⟩⟩⟩
theorem st_I : ∀ ci q, vwCl[ci]? = some q → Cond.instantiable q.1 (p_csl ci) ∈ lw_tbl := by
  intro ci q h
  match ci, h with
  | 0, h => cases h; exact p_tt 163 (by decide +kernel)
  | 1, h => cases h; exact p_tt 103 (by decide +kernel)
  | 2, h => cases h; exact p_tt 31 (by decide +kernel)
  | 3, h => cases h; exact p_tt 126 (by decide +kernel)
  | 4, h => cases h; exact p_tt 147 (by decide +kernel)
  | 5, h => cases h; exact p_tt 23 (by decide +kernel)
  | 6, h => cases h; exact p_tt 721 (by decide +kernel)
  | 7, h => cases h; exact p_tt 449 (by decide +kernel)
  | 8, h => cases h; exact p_tt 522 (by decide +kernel)
  | 9, h => cases h; exact p_tt 566 (by decide +kernel)
  | 10, h => cases h; exact p_tt 607 (by decide +kernel)
  | 11, h => cases h; exact p_tt 704 (by decide +kernel)
  | ci + 12, h => simp [vwCl] at h
theorem st_N : ∀ ci ∈ [7, 8, 9, 10, 11], ∀ cj ∈ [7, 8, 9, 10, 11], ci = cj ∨ Cond.not (.castable (p_cn ci) (p_cn cj)) ∈ lw_fl := by decide +kernel
theorem st_W : ∀ w ∈ p_nestW ++ p_dcW, w ∈ lw_tbl := by decide +kernel
theorem st_O : ∀ w ∈ p_nestW ++ p_dcW, w.onTables = true := by decide +kernel
theorem st_aI : Cond.arrayClass .int ∈ lw_tbl := p_tt 101 (by decide +kernel)
theorem st_aL : Cond.arrayClass .long ∈ lw_tbl := p_tt 145 (by decide +kernel)
theorem st_aZ : Cond.arrayClass .boolean ∈ lw_tbl := p_tt 161 (by decide +kernel)
theorem sj_lu : Cond.laysStatic "java/lang/Throwable" "UNASSIGNED_STACK" "[Ljava/lang/StackTraceElement;" ∈ lw_tbl := p_tt 475 (by decide +kernel)
theorem sj_iu : Cond.initialized "java/lang/Throwable" ∈ lw_tbl := p_tt 14 (by decide +kernel)
theorem sj_vu : Cond.isRef (.static "java/lang/Throwable" "UNASSIGNED_STACK" "[Ljava/lang/StackTraceElement;") ∈ lw_fl := List.mem_of_getElem? (i := 9) (by decide +kernel)
theorem sj_ls : Cond.laysStatic "java/lang/Throwable" "SUPPRESSED_SENTINEL" "Ljava/util/List;" ∈ lw_tbl := p_tt 477 (by decide +kernel)
theorem sj_is : Cond.initialized "java/lang/Throwable" ∈ lw_tbl := p_tt 14 (by decide +kernel)
theorem sj_vs : Cond.isRef (.static "java/lang/Throwable" "SUPPRESSED_SENTINEL" "Ljava/util/List;") ∈ lw_fl := List.mem_of_getElem? (i := 10) (by decide +kernel)
theorem sj_lc : Cond.laysStatic "java/lang/String" "COMPACT_STRINGS" "Z" ∈ lw_tbl := p_tt 298 (by decide +kernel)
theorem sj_ic : Cond.initialized "java/lang/String" ∈ lw_tbl := p_tt 10 (by decide +kernel)
theorem sj_vc : Cond.eq (.static "java/lang/String" "COMPACT_STRINGS" "Z") (.int 1) ∈ lw_fl := List.mem_of_getElem? (i := 4) (by decide +kernel)
theorem sj_lf : Cond.laysStatic "jdk/internal/util/Preconditions" "SIOOBE_FORMATTER" "Ljava/util/function/BiFunction;" ∈ lw_tbl := p_tt 314 (by decide +kernel)
theorem sj_if : Cond.initialized "jdk/internal/util/Preconditions" ∈ lw_tbl := p_tt 12 (by decide +kernel)
theorem sj_vf : Cond.isRef (.static "jdk/internal/util/Preconditions" "SIOOBE_FORMATTER" "Ljava/util/function/BiFunction;") ∈ lw_fl := List.mem_of_getElem? (i := 5) (by decide +kernel)
