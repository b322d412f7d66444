theorem xco_74 (pc : Nat) : p_code 74 pc = p_find pc pc_74 := rfl
theorem xow_74 : p_own 74 = 5 := rfl
theorem xc_74_0 : p_code 74 0 = some (.aload_n 0, 1) := (xco_74 0).trans rfl
theorem xc_74_1 : p_code 74 1 = some (.getfield 12, 3) := (xco_74 1).trans rfl
theorem xf_74_12 : p_fld (p_own 74) 12 = some (5, 0) := by rw [xow_74]; rfl
theorem xc_74_4 : p_code 74 4 = some (.iload_n 1, 1) := (xco_74 4).trans rfl
theorem xc_74_5 : p_code 74 5 = some (.invokevirtual 93, 3) := (xco_74 5).trans rfl
theorem xm_74_5 : p_calls 74 (.invokevirtual 93) = some (39, 2) := by dsimp only [p_calls]; rw [xow_74]; rfl
theorem xc_74_8 : p_code 74 8 = some (.ifCond .ne 13, 3) := (xco_74 8).trans rfl
theorem xj_74_8 : p_tgt 8 (13) = 21 ∧ 0 ≤ ((8 : Nat) : Int) + (13) := ⟨by decide, by decide⟩
theorem xc_74_11 : p_code 74 11 = some (.new 96, 3) := (xco_74 11).trans rfl
theorem xth_74_11 : p_thr 74 11 (.new 96) = some 10 := rfl
theorem xc_74_14 : p_code 74 14 = some (.dup, 1) := (xco_74 14).trans rfl
theorem xc_74_15 : p_code 74 15 = some (.ldc 98, 2) := (xco_74 15).trans rfl
theorem xln_74_98 : p_int (p_own 74) 98 = none := by rw [xow_74]; rfl
theorem xls_74_98 : p_str (p_own 74) 98 = some 8 := by rw [xow_74]; rfl
theorem xc_74_17 : p_code 74 17 = some (.invokespecial 100, 3) := (xco_74 17).trans rfl
theorem xc_74_20 : p_code 74 20 = some (.athrow, 1) := (xco_74 20).trans rfl
theorem xc_74_21 : p_code 74 21 = some (.iload_n 2, 1) := (xco_74 21).trans rfl
theorem xc_74_22 : p_code 74 22 = some (.tableswitch 98 0 5 #[38, 48, 58, 68, 78, 88], 38) := (xco_74 22).trans rfl
theorem xc_74_60 : p_code 74 60 = some (.aload_n 0, 1) := (xco_74 60).trans rfl
theorem xc_74_61 : p_code 74 61 = some (.getfield 12, 3) := (xco_74 61).trans rfl
theorem xc_74_64 : p_code 74 64 = some (.getfield 101, 3) := (xco_74 64).trans rfl
theorem xf_74_101 : p_fld (p_own 74) 101 = some (2, 0) := by rw [xow_74]; rfl
theorem xc_74_67 : p_code 74 67 = some (.iload_n 1, 1) := (xco_74 67).trans rfl
theorem xc_74_68 : p_code 74 68 = some (.iaload, 1) := (xco_74 68).trans rfl
theorem xc_74_69 : p_code 74 69 = some (.ireturn, 1) := (xco_74 69).trans rfl
theorem xc_74_70 : p_code 74 70 = some (.aload_n 0, 1) := (xco_74 70).trans rfl
theorem xc_74_71 : p_code 74 71 = some (.getfield 12, 3) := (xco_74 71).trans rfl
theorem xc_74_74 : p_code 74 74 = some (.getfield 105, 3) := (xco_74 74).trans rfl
theorem xf_74_105 : p_fld (p_own 74) 105 = some (2, 1) := by rw [xow_74]; rfl
theorem xc_74_77 : p_code 74 77 = some (.iload_n 1, 1) := (xco_74 77).trans rfl
theorem xc_74_78 : p_code 74 78 = some (.iaload, 1) := (xco_74 78).trans rfl
theorem xc_74_79 : p_code 74 79 = some (.ireturn, 1) := (xco_74 79).trans rfl
theorem xc_74_80 : p_code 74 80 = some (.aload_n 0, 1) := (xco_74 80).trans rfl
theorem xc_74_81 : p_code 74 81 = some (.getfield 12, 3) := (xco_74 81).trans rfl
theorem xc_74_84 : p_code 74 84 = some (.getfield 108, 3) := (xco_74 84).trans rfl
theorem xf_74_108 : p_fld (p_own 74) 108 = some (2, 2) := by rw [xow_74]; rfl
theorem xc_74_87 : p_code 74 87 = some (.iload_n 1, 1) := (xco_74 87).trans rfl
theorem xc_74_88 : p_code 74 88 = some (.iaload, 1) := (xco_74 88).trans rfl
theorem xc_74_89 : p_code 74 89 = some (.ireturn, 1) := (xco_74 89).trans rfl
theorem xc_74_90 : p_code 74 90 = some (.aload_n 0, 1) := (xco_74 90).trans rfl
theorem xc_74_91 : p_code 74 91 = some (.getfield 12, 3) := (xco_74 91).trans rfl
theorem xc_74_94 : p_code 74 94 = some (.getfield 111, 3) := (xco_74 94).trans rfl
theorem xf_74_111 : p_fld (p_own 74) 111 = some (2, 3) := by rw [xow_74]; rfl
theorem xc_74_97 : p_code 74 97 = some (.iload_n 1, 1) := (xco_74 97).trans rfl
theorem xc_74_98 : p_code 74 98 = some (.iaload, 1) := (xco_74 98).trans rfl
theorem xc_74_99 : p_code 74 99 = some (.ireturn, 1) := (xco_74 99).trans rfl
theorem xc_74_100 : p_code 74 100 = some (.aload_n 0, 1) := (xco_74 100).trans rfl
theorem xc_74_101 : p_code 74 101 = some (.getfield 12, 3) := (xco_74 101).trans rfl
theorem xc_74_104 : p_code 74 104 = some (.getfield 114, 3) := (xco_74 104).trans rfl
theorem xf_74_114 : p_fld (p_own 74) 114 = some (2, 4) := by rw [xow_74]; rfl
theorem xc_74_107 : p_code 74 107 = some (.iload_n 1, 1) := (xco_74 107).trans rfl
theorem xc_74_108 : p_code 74 108 = some (.iaload, 1) := (xco_74 108).trans rfl
theorem xc_74_109 : p_code 74 109 = some (.ireturn, 1) := (xco_74 109).trans rfl
theorem xc_74_110 : p_code 74 110 = some (.aload_n 0, 1) := (xco_74 110).trans rfl
theorem xc_74_111 : p_code 74 111 = some (.getfield 12, 3) := (xco_74 111).trans rfl
theorem xc_74_114 : p_code 74 114 = some (.getfield 117, 3) := (xco_74 114).trans rfl
theorem xf_74_117 : p_fld (p_own 74) 117 = some (2, 6) := by rw [xow_74]; rfl
theorem xc_74_117 : p_code 74 117 = some (.iload_n 1, 1) := (xco_74 117).trans rfl
theorem xc_74_118 : p_code 74 118 = some (.iaload, 1) := (xco_74 118).trans rfl
theorem xc_74_119 : p_code 74 119 = some (.ireturn, 1) := (xco_74 119).trans rfl
theorem xc_74_120 : p_code 74 120 = some (.new 96, 3) := (xco_74 120).trans rfl
theorem xth_74_120 : p_thr 74 120 (.new 96) = some 10 := rfl
theorem xc_74_123 : p_code 74 123 = some (.dup, 1) := (xco_74 123).trans rfl
theorem xc_74_124 : p_code 74 124 = some (.ldc 120, 2) := (xco_74 124).trans rfl
theorem xln_74_120 : p_int (p_own 74) 120 = none := by rw [xow_74]; rfl
theorem xls_74_120 : p_str (p_own 74) 120 = some 9 := by rw [xow_74]; rfl
theorem xc_74_126 : p_code 74 126 = some (.invokespecial 100, 3) := (xco_74 126).trans rfl
theorem xc_74_129 : p_code 74 129 = some (.athrow, 1) := (xco_74 129).trans rfl
theorem xrt_74 : p_rty 74 = some .int := rfl
theorem xhh_74 : p_hh 74 = [] := rfl
theorem xin_74 {x1 : Int32} {x2 : Int32} : p_in0 74 [.ref 0, .int x1, .int x2] = [some (.ref 0), some (.int x1), some (.int x2)] := rfl
theorem xrc_74 {z : Nat → Int32} {a : Nat → Nat → Int32} {w : Nat → Nat → Int64} {y : Nat → Int64} {g : List pE} {x1 : Int32} {x2 : Int32} : p_recv 74 [.ref 0, .int x1, .int x2] (hp z a w y g) = true := rfl
theorem xco_75 (pc : Nat) : p_code 75 pc = p_find pc pc_75 := rfl
theorem xow_75 : p_own 75 = 12 := rfl
theorem xc_75_0 : p_code 75 0 = some (.aload_n 2, 1) := (xco_75 0).trans rfl
theorem xc_75_1 : p_code 75 1 = some (.iconst 0, 1) := (xco_75 1).trans rfl
theorem xc_75_2 : p_code 75 2 = some (.aload_n 0, 1) := (xco_75 2).trans rfl
theorem xc_75_3 : p_code 75 3 = some (.iload_n 1, 1) := (xco_75 3).trans rfl
theorem xc_75_4 : p_code 75 4 = some (.invokevirtual 28, 3) := (xco_75 4).trans rfl
theorem xm_75_4 : p_calls 75 (.invokevirtual 28) = some (76, 2) := by dsimp only [p_calls]; rw [xow_75]; rfl
theorem xc_75_7 : p_code 75 7 = some (.lastore, 1) := (xco_75 7).trans rfl
theorem xc_75_8 : p_code 75 8 = some (.goto 9, 3) := (xco_75 8).trans rfl
theorem xj_75_8 : p_tgt 8 (9) = 17 ∧ 0 ≤ ((8 : Nat) : Int) + (9) := ⟨by decide, by decide⟩
theorem xc_75_11 : p_code 75 11 = some (.astore_n 3, 1) := (xco_75 11).trans rfl
theorem xc_75_12 : p_code 75 12 = some (.iconst 1, 1) := (xco_75 12).trans rfl
theorem xc_75_13 : p_code 75 13 = some (.ireturn, 1) := (xco_75 13).trans rfl
theorem xc_75_14 : p_code 75 14 = some (.astore_n 3, 1) := (xco_75 14).trans rfl
theorem xc_75_15 : p_code 75 15 = some (.iconst 2, 1) := (xco_75 15).trans rfl
theorem xc_75_16 : p_code 75 16 = some (.ireturn, 1) := (xco_75 16).trans rfl
theorem xc_75_17 : p_code 75 17 = some (.iconst 0, 1) := (xco_75 17).trans rfl
theorem xc_75_18 : p_code 75 18 = some (.ireturn, 1) := (xco_75 18).trans rfl
theorem xrt_75 : p_rty 75 = some .int := rfl
theorem xhh_75 : p_hh 75 = [(0, 8, 11, 10), (0, 8, 14, 9)] := rfl
theorem xin_75 {x1 : Int32} : p_in0 75 [.ref 0, .int x1, .ref 43] = [some (.ref 0), some (.int x1), some (.ref 43), none] := rfl
theorem xrc_75 {z : Nat → Int32} {a : Nat → Nat → Int32} {w : Nat → Nat → Int64} {y : Nat → Int64} {g : List pE} {x1 : Int32} : p_recv 75 [.ref 0, .int x1, .ref 43] (hp z a w y g) = true := rfl
theorem xco_76 (pc : Nat) : p_code 76 pc = p_find pc pc_76 := rfl
theorem xow_76 : p_own 76 = 5 := rfl
theorem xc_76_0 : p_code 76 0 = some (.aload_n 0, 1) := (xco_76 0).trans rfl
theorem xc_76_1 : p_code 76 1 = some (.getfield 12, 3) := (xco_76 1).trans rfl
theorem xf_76_12 : p_fld (p_own 76) 12 = some (5, 0) := by rw [xow_76]; rfl
theorem xc_76_4 : p_code 76 4 = some (.iload_n 1, 1) := (xco_76 4).trans rfl
theorem xc_76_5 : p_code 76 5 = some (.invokevirtual 93, 3) := (xco_76 5).trans rfl
theorem xm_76_5 : p_calls 76 (.invokevirtual 93) = some (39, 2) := by dsimp only [p_calls]; rw [xow_76]; rfl
theorem xc_76_8 : p_code 76 8 = some (.ifCond .ne 13, 3) := (xco_76 8).trans rfl
theorem xj_76_8 : p_tgt 8 (13) = 21 ∧ 0 ≤ ((8 : Nat) : Int) + (13) := ⟨by decide, by decide⟩
theorem xc_76_11 : p_code 76 11 = some (.new 96, 3) := (xco_76 11).trans rfl
theorem xth_76_11 : p_thr 76 11 (.new 96) = some 10 := rfl
theorem xc_76_14 : p_code 76 14 = some (.dup, 1) := (xco_76 14).trans rfl
theorem xc_76_15 : p_code 76 15 = some (.ldc 98, 2) := (xco_76 15).trans rfl
theorem xln_76_98 : p_int (p_own 76) 98 = none := by rw [xow_76]; rfl
theorem xls_76_98 : p_str (p_own 76) 98 = some 8 := by rw [xow_76]; rfl
theorem xc_76_17 : p_code 76 17 = some (.invokespecial 100, 3) := (xco_76 17).trans rfl
theorem xc_76_20 : p_code 76 20 = some (.athrow, 1) := (xco_76 20).trans rfl
theorem xc_76_21 : p_code 76 21 = some (.aload_n 0, 1) := (xco_76 21).trans rfl
theorem xc_76_22 : p_code 76 22 = some (.iload_n 1, 1) := (xco_76 22).trans rfl
theorem xc_76_23 : p_code 76 23 = some (.invokevirtual 122, 3) := (xco_76 23).trans rfl
theorem xm_76_23 : p_calls 76 (.invokevirtual 122) = some (64, 2) := by dsimp only [p_calls]; rw [xow_76]; rfl
theorem xc_76_26 : p_code 76 26 = some (.lreturn, 1) := (xco_76 26).trans rfl
theorem xrt_76 : p_rty 76 = some .long := rfl
theorem xhh_76 : p_hh 76 = [] := rfl
theorem xin_76 {x1 : Int32} : p_in0 76 [.ref 0, .int x1] = [some (.ref 0), some (.int x1)] := rfl
theorem xrc_76 {z : Nat → Int32} {a : Nat → Nat → Int32} {w : Nat → Nat → Int64} {y : Nat → Int64} {g : List pE} {x1 : Int32} : p_recv 76 [.ref 0, .int x1] (hp z a w y g) = true := rfl
theorem xco_77 (pc : Nat) : p_code 77 pc = p_find pc pc_77 := rfl
theorem xow_77 : p_own 77 = 12 := rfl
theorem xc_77_0 : p_code 77 0 = some (.aload_n 1, 1) := (xco_77 0).trans rfl
theorem xc_77_1 : p_code 77 1 = some (.iconst 0, 1) := (xco_77 1).trans rfl
theorem xc_77_2 : p_code 77 2 = some (.aload_n 0, 1) := (xco_77 2).trans rfl
theorem xc_77_3 : p_code 77 3 = some (.invokevirtual 31, 3) := (xco_77 3).trans rfl
theorem xm_77_3 : p_calls 77 (.invokevirtual 31) = some (78, 1) := by dsimp only [p_calls]; rw [xow_77]; rfl
theorem xc_77_6 : p_code 77 6 = some (.i2l, 1) := (xco_77 6).trans rfl
theorem xc_77_7 : p_code 77 7 = some (.lastore, 1) := (xco_77 7).trans rfl
theorem xc_77_8 : p_code 77 8 = some (.goto 6, 3) := (xco_77 8).trans rfl
theorem xj_77_8 : p_tgt 8 (6) = 14 ∧ 0 ≤ ((8 : Nat) : Int) + (6) := ⟨by decide, by decide⟩
theorem xc_77_11 : p_code 77 11 = some (.astore_n 2, 1) := (xco_77 11).trans rfl
theorem xc_77_12 : p_code 77 12 = some (.iconst 1, 1) := (xco_77 12).trans rfl
theorem xc_77_13 : p_code 77 13 = some (.ireturn, 1) := (xco_77 13).trans rfl
theorem xc_77_14 : p_code 77 14 = some (.iconst 0, 1) := (xco_77 14).trans rfl
theorem xc_77_15 : p_code 77 15 = some (.ireturn, 1) := (xco_77 15).trans rfl
theorem xrt_77 : p_rty 77 = some .int := rfl
theorem xhh_77 : p_hh 77 = [(0, 8, 11, 8)] := rfl
theorem xin_77  : p_in0 77 [.ref 0, .ref 43] = [some (.ref 0), some (.ref 43), none] := rfl
theorem xrc_77 {z : Nat → Int32} {a : Nat → Nat → Int32} {w : Nat → Nat → Int64} {y : Nat → Int64} {g : List pE}  : p_recv 77 [.ref 0, .ref 43] (hp z a w y g) = true := rfl
theorem xco_78 (pc : Nat) : p_code 78 pc = p_find pc pc_78 := rfl
theorem xow_78 : p_own 78 = 5 := rfl
theorem xc_78_0 : p_code 78 0 = some (.aload_n 0, 1) := (xco_78 0).trans rfl
theorem xc_78_1 : p_code 78 1 = some (.getfield 12, 3) := (xco_78 1).trans rfl
theorem xf_78_12 : p_fld (p_own 78) 12 = some (5, 0) := by rw [xow_78]; rfl
theorem xc_78_4 : p_code 78 4 = some (.getfield 134, 3) := (xco_78 4).trans rfl
theorem xf_78_134 : p_fld (p_own 78) 134 = some (2, 10) := by rw [xow_78]; rfl
theorem xc_78_7 : p_code 78 7 = some (.ifCond .ne 13, 3) := (xco_78 7).trans rfl
theorem xj_78_7 : p_tgt 7 (13) = 20 ∧ 0 ≤ ((7 : Nat) : Int) + (13) := ⟨by decide, by decide⟩
theorem xc_78_10 : p_code 78 10 = some (.new 138, 3) := (xco_78 10).trans rfl
theorem xth_78_10 : p_thr 78 10 (.new 138) = some 8 := rfl
theorem xc_78_13 : p_code 78 13 = some (.dup, 1) := (xco_78 13).trans rfl
theorem xc_78_14 : p_code 78 14 = some (.ldc 140, 2) := (xco_78 14).trans rfl
theorem xln_78_140 : p_int (p_own 78) 140 = none := by rw [xow_78]; rfl
theorem xls_78_140 : p_str (p_own 78) 140 = some 5 := by rw [xow_78]; rfl
theorem xc_78_16 : p_code 78 16 = some (.invokespecial 142, 3) := (xco_78 16).trans rfl
theorem xc_78_19 : p_code 78 19 = some (.athrow, 1) := (xco_78 19).trans rfl
theorem xc_78_20 : p_code 78 20 = some (.aload_n 0, 1) := (xco_78 20).trans rfl
theorem xc_78_21 : p_code 78 21 = some (.getfield 42, 3) := (xco_78 21).trans rfl
theorem xf_78_42 : p_fld (p_own 78) 42 = some (5, 4) := by rw [xow_78]; rfl
theorem xc_78_24 : p_code 78 24 = some (.aload_n 0, 1) := (xco_78 24).trans rfl
theorem xc_78_25 : p_code 78 25 = some (.getfield 12, 3) := (xco_78 25).trans rfl
theorem xc_78_28 : p_code 78 28 = some (.invokevirtual 143, 3) := (xco_78 28).trans rfl
theorem xm_78_28 : p_calls 78 (.invokevirtual 143) = some (79, 2) := by dsimp only [p_calls]; rw [xow_78]; rfl
theorem xc_78_31 : p_code 78 31 = some (.ireturn, 1) := (xco_78 31).trans rfl
theorem xrt_78 : p_rty 78 = some .int := rfl
theorem xhh_78 : p_hh 78 = [] := rfl
theorem xin_78  : p_in0 78 [.ref 0] = [some (.ref 0)] := rfl
theorem xrc_78 {z : Nat → Int32} {a : Nat → Nat → Int32} {w : Nat → Nat → Int64} {y : Nat → Int64} {g : List pE}  : p_recv 78 [.ref 0] (hp z a w y g) = true := rfl
theorem xco_79 (pc : Nat) : p_code 79 pc = p_find pc pc_79 := rfl
theorem xow_79 : p_own 79 = 0 := rfl
theorem xc_79_0 : p_code 79 0 = some (.aload_n 0, 1) := (xco_79 0).trans rfl
theorem xc_79_1 : p_code 79 1 = some (.iconst 0, 1) := (xco_79 1).trans rfl
theorem xc_79_2 : p_code 79 2 = some (.putfield 15, 3) := (xco_79 2).trans rfl
theorem xf_79_15 : p_fld (p_own 79) 15 = some (0, 1) := by rw [xow_79]; rfl
theorem xc_79_5 : p_code 79 5 = some (.aload_n 0, 1) := (xco_79 5).trans rfl
theorem xc_79_6 : p_code 79 6 = some (.aload_n 1, 1) := (xco_79 6).trans rfl
theorem xc_79_7 : p_code 79 7 = some (.iconst 0, 1) := (xco_79 7).trans rfl
theorem xc_79_8 : p_code 79 8 = some (.iconst 0, 1) := (xco_79 8).trans rfl
theorem xc_79_9 : p_code 79 9 = some (.invokevirtual 19, 3) := (xco_79 9).trans rfl
theorem xm_79_9 : p_calls 79 (.invokevirtual 19) = some (80, 4) := by dsimp only [p_calls]; rw [xow_79]; rfl
theorem xc_79_12 : p_code 79 12 = some (.aload_n 0, 1) := (xco_79 12).trans rfl
theorem xc_79_13 : p_code 79 13 = some (.getfield 15, 3) := (xco_79 13).trans rfl
theorem xc_79_16 : p_code 79 16 = some (.ireturn, 1) := (xco_79 16).trans rfl
theorem xrt_79 : p_rty 79 = some .int := rfl
theorem xhh_79 : p_hh 79 = [] := rfl
theorem xin_79  : p_in0 79 [.ref 20, .ref 1] = [some (.ref 20), some (.ref 1)] := rfl
theorem xrc_79 {z : Nat → Int32} {a : Nat → Nat → Int32} {w : Nat → Nat → Int64} {y : Nat → Int64} {g : List pE}  : p_recv 79 [.ref 20, .ref 1] (hp z a w y g) = true := rfl
theorem xco_80 (pc : Nat) : p_code 80 pc = p_find pc pc_80 := rfl
theorem xow_80 : p_own 80 = 0 := rfl
theorem xc_80_0 : p_code 80 0 = some (.aload_n 1, 1) := (xco_80 0).trans rfl
theorem xc_80_1 : p_code 80 1 = some (.iload_n 2, 1) := (xco_80 1).trans rfl
theorem xc_80_2 : p_code 80 2 = some (.invokevirtual 23, 3) := (xco_80 2).trans rfl
theorem xm_80_2 : p_calls 80 (.invokevirtual 23) = some (39, 2) := by dsimp only [p_calls]; rw [xow_80]; rfl
theorem xc_80_5 : p_code 80 5 = some (.ifCond .eq 9, 3) := (xco_80 5).trans rfl
theorem xj_80_5 : p_tgt 5 (9) = 14 ∧ 0 ≤ ((5 : Nat) : Int) + (9) := ⟨by decide, by decide⟩
theorem xc_80_8 : p_code 80 8 = some (.iload_n 3, 1) := (xco_80 8).trans rfl
theorem xc_80_9 : p_code 80 9 = some (.bipush 60, 2) := (xco_80 9).trans rfl
theorem xc_80_11 : p_code 80 11 = some (.if_icmp .lt 4, 3) := (xco_80 11).trans rfl
theorem xj_80_11 : p_tgt 11 (4) = 15 ∧ 0 ≤ ((11 : Nat) : Int) + (4) := ⟨by decide, by decide⟩
theorem xc_80_14 : p_code 80 14 = some (.return_, 1) := (xco_80 14).trans rfl
theorem xc_80_15 : p_code 80 15 = some (.aload_n 1, 1) := (xco_80 15).trans rfl
theorem xc_80_16 : p_code 80 16 = some (.getfield 29, 3) := (xco_80 16).trans rfl
theorem xf_80_29 : p_fld (p_own 80) 29 = some (2, 0) := by rw [xow_80]; rfl
theorem xc_80_19 : p_code 80 19 = some (.iload_n 2, 1) := (xco_80 19).trans rfl
theorem xc_80_20 : p_code 80 20 = some (.iaload, 1) := (xco_80 20).trans rfl
theorem xc_80_21 : p_code 80 21 = some (.tableswitch 151 0 6 #[43, 52, 71, 103, 115, 127, 139], 43) := (xco_80 21).trans rfl
theorem xc_80_64 : p_code 80 64 = some (.aload_n 0, 1) := (xco_80 64).trans rfl
theorem xc_80_65 : p_code 80 65 = some (.ldc 32, 2) := (xco_80 65).trans rfl
theorem xln_80_32 : p_int (p_own 80) 32 = none := by rw [xow_80]; rfl
theorem xls_80_32 : p_str (p_own 80) 32 = some 0 := by rw [xow_80]; rfl
theorem xc_80_67 : p_code 80 67 = some (.invokevirtual 34, 3) := (xco_80 67).trans rfl
theorem xm_80_67 : p_calls 80 (.invokevirtual 34) = some (81, 2) := by dsimp only [p_calls]; rw [xow_80]; rfl
theorem xc_80_70 : p_code 80 70 = some (.goto 108, 3) := (xco_80 70).trans rfl
theorem xj_80_70 : p_tgt 70 (108) = 178 ∧ 0 ≤ ((70 : Nat) : Int) + (108) := ⟨by decide, by decide⟩
theorem xc_80_73 : p_code 80 73 = some (.aload_n 0, 1) := (xco_80 73).trans rfl
theorem xc_80_74 : p_code 80 74 = some (.aload_n 1, 1) := (xco_80 74).trans rfl
theorem xc_80_75 : p_code 80 75 = some (.getfield 38, 3) := (xco_80 75).trans rfl
theorem xf_80_38 : p_fld (p_own 80) 38 = some (2, 1) := by rw [xow_80]; rfl
theorem xc_80_78 : p_code 80 78 = some (.iload_n 2, 1) := (xco_80 78).trans rfl
theorem xc_80_79 : p_code 80 79 = some (.iaload, 1) := (xco_80 79).trans rfl
theorem xc_80_80 : p_code 80 80 = some (.invokevirtual 41, 3) := (xco_80 80).trans rfl
theorem xm_80_80 : p_calls 80 (.invokevirtual 41) = some (83, 2) := by dsimp only [p_calls]; rw [xow_80]; rfl
theorem xc_80_83 : p_code 80 83 = some (.aload_n 0, 1) := (xco_80 83).trans rfl
theorem xc_80_84 : p_code 80 84 = some (.bipush 37, 2) := (xco_80 84).trans rfl
theorem xc_80_86 : p_code 80 86 = some (.invokevirtual 45, 3) := (xco_80 86).trans rfl
theorem xm_80_86 : p_calls 80 (.invokevirtual 45) = some (82, 2) := by dsimp only [p_calls]; rw [xow_80]; rfl
theorem xc_80_89 : p_code 80 89 = some (.goto 89, 3) := (xco_80 89).trans rfl
theorem xj_80_89 : p_tgt 89 (89) = 178 ∧ 0 ≤ ((89 : Nat) : Int) + (89) := ⟨by decide, by decide⟩
theorem xc_80_92 : p_code 80 92 = some (.aload_n 0, 1) := (xco_80 92).trans rfl
theorem xc_80_93 : p_code 80 93 = some (.aload_n 1, 1) := (xco_80 93).trans rfl
theorem xc_80_94 : p_code 80 94 = some (.getfield 38, 3) := (xco_80 94).trans rfl
theorem xc_80_97 : p_code 80 97 = some (.iload_n 2, 1) := (xco_80 97).trans rfl
theorem xc_80_98 : p_code 80 98 = some (.iaload, 1) := (xco_80 98).trans rfl
theorem xc_80_99 : p_code 80 99 = some (.invokevirtual 41, 3) := (xco_80 99).trans rfl
theorem xm_80_99 : p_calls 80 (.invokevirtual 41) = some (83, 2) := by dsimp only [p_calls]; rw [xow_80]; rfl
theorem xc_80_102 : p_code 80 102 = some (.aload_n 0, 1) := (xco_80 102).trans rfl
theorem xc_80_103 : p_code 80 103 = some (.bipush 47, 2) := (xco_80 103).trans rfl
theorem xc_80_105 : p_code 80 105 = some (.invokevirtual 45, 3) := (xco_80 105).trans rfl
theorem xm_80_105 : p_calls 80 (.invokevirtual 45) = some (82, 2) := by dsimp only [p_calls]; rw [xow_80]; rfl
theorem xc_80_108 : p_code 80 108 = some (.aload_n 0, 1) := (xco_80 108).trans rfl
theorem xc_80_109 : p_code 80 109 = some (.bipush 65, 2) := (xco_80 109).trans rfl
theorem xc_80_111 : p_code 80 111 = some (.aload_n 1, 1) := (xco_80 111).trans rfl
theorem xc_80_112 : p_code 80 112 = some (.getfield 48, 3) := (xco_80 112).trans rfl
theorem xf_80_48 : p_fld (p_own 80) 48 = some (2, 2) := by rw [xow_80]; rfl
theorem xc_80_115 : p_code 80 115 = some (.iload_n 2, 1) := (xco_80 115).trans rfl
theorem xc_80_116 : p_code 80 116 = some (.iaload, 1) := (xco_80 116).trans rfl
theorem xc_80_117 : p_code 80 117 = some (.iadd, 1) := (xco_80 117).trans rfl
theorem xc_80_118 : p_code 80 118 = some (.invokevirtual 45, 3) := (xco_80 118).trans rfl
theorem xm_80_118 : p_calls 80 (.invokevirtual 45) = some (82, 2) := by dsimp only [p_calls]; rw [xow_80]; rfl
theorem xc_80_121 : p_code 80 121 = some (.goto 57, 3) := (xco_80 121).trans rfl
theorem xj_80_121 : p_tgt 121 (57) = 178 ∧ 0 ≤ ((121 : Nat) : Int) + (57) := ⟨by decide, by decide⟩
theorem xc_80_124 : p_code 80 124 = some (.aload_n 0, 1) := (xco_80 124).trans rfl
theorem xc_80_125 : p_code 80 125 = some (.aload_n 1, 1) := (xco_80 125).trans rfl
theorem xc_80_126 : p_code 80 126 = some (.iload_n 2, 1) := (xco_80 126).trans rfl
theorem xc_80_127 : p_code 80 127 = some (.ldc 51, 2) := (xco_80 127).trans rfl
theorem xln_80_51 : p_int (p_own 80) 51 = none := by rw [xow_80]; rfl
theorem xls_80_51 : p_str (p_own 80) 51 = some 10 := by rw [xow_80]; rfl
theorem xc_80_129 : p_code 80 129 = some (.iload_n 3, 1) := (xco_80 129).trans rfl
theorem xc_80_130 : p_code 80 130 = some (.invokevirtual 53, 3) := (xco_80 130).trans rfl
theorem xm_80_130 : p_calls 80 (.invokevirtual 53) = some (85, 5) := by dsimp only [p_calls]; rw [xow_80]; rfl
theorem xc_80_133 : p_code 80 133 = some (.goto 45, 3) := (xco_80 133).trans rfl
theorem xj_80_133 : p_tgt 133 (45) = 178 ∧ 0 ≤ ((133 : Nat) : Int) + (45) := ⟨by decide, by decide⟩
theorem xc_80_136 : p_code 80 136 = some (.aload_n 0, 1) := (xco_80 136).trans rfl
theorem xc_80_137 : p_code 80 137 = some (.aload_n 1, 1) := (xco_80 137).trans rfl
theorem xc_80_138 : p_code 80 138 = some (.iload_n 2, 1) := (xco_80 138).trans rfl
theorem xc_80_139 : p_code 80 139 = some (.ldc 57, 2) := (xco_80 139).trans rfl
theorem xln_80_57 : p_int (p_own 80) 57 = none := by rw [xow_80]; rfl
theorem xls_80_57 : p_str (p_own 80) 57 = some 11 := by rw [xow_80]; rfl
theorem xc_80_141 : p_code 80 141 = some (.iload_n 3, 1) := (xco_80 141).trans rfl
theorem xc_80_142 : p_code 80 142 = some (.invokevirtual 53, 3) := (xco_80 142).trans rfl
theorem xm_80_142 : p_calls 80 (.invokevirtual 53) = some (85, 5) := by dsimp only [p_calls]; rw [xow_80]; rfl
theorem xc_80_145 : p_code 80 145 = some (.goto 33, 3) := (xco_80 145).trans rfl
theorem xj_80_145 : p_tgt 145 (33) = 178 ∧ 0 ≤ ((145 : Nat) : Int) + (33) := ⟨by decide, by decide⟩
theorem xc_80_148 : p_code 80 148 = some (.aload_n 0, 1) := (xco_80 148).trans rfl
theorem xc_80_149 : p_code 80 149 = some (.aload_n 1, 1) := (xco_80 149).trans rfl
theorem xc_80_150 : p_code 80 150 = some (.iload_n 2, 1) := (xco_80 150).trans rfl
theorem xc_80_151 : p_code 80 151 = some (.ldc 59, 2) := (xco_80 151).trans rfl
theorem xln_80_59 : p_int (p_own 80) 59 = none := by rw [xow_80]; rfl
theorem xls_80_59 : p_str (p_own 80) 59 = some 12 := by rw [xow_80]; rfl
theorem xc_80_153 : p_code 80 153 = some (.iload_n 3, 1) := (xco_80 153).trans rfl
theorem xc_80_154 : p_code 80 154 = some (.invokevirtual 61, 3) := (xco_80 154).trans rfl
theorem xm_80_154 : p_calls 80 (.invokevirtual 61) = some (86, 5) := by dsimp only [p_calls]; rw [xow_80]; rfl
theorem xc_80_157 : p_code 80 157 = some (.goto 21, 3) := (xco_80 157).trans rfl
theorem xj_80_157 : p_tgt 157 (21) = 178 ∧ 0 ≤ ((157 : Nat) : Int) + (21) := ⟨by decide, by decide⟩
theorem xc_80_160 : p_code 80 160 = some (.aload_n 0, 1) := (xco_80 160).trans rfl
theorem xc_80_161 : p_code 80 161 = some (.aload_n 1, 1) := (xco_80 161).trans rfl
theorem xc_80_162 : p_code 80 162 = some (.iload_n 2, 1) := (xco_80 162).trans rfl
theorem xc_80_163 : p_code 80 163 = some (.ldc 64, 2) := (xco_80 163).trans rfl
theorem xln_80_64 : p_int (p_own 80) 64 = none := by rw [xow_80]; rfl
theorem xls_80_64 : p_str (p_own 80) 64 = some 14 := by rw [xow_80]; rfl
theorem xc_80_165 : p_code 80 165 = some (.iload_n 3, 1) := (xco_80 165).trans rfl
theorem xc_80_166 : p_code 80 166 = some (.invokevirtual 61, 3) := (xco_80 166).trans rfl
theorem xm_80_166 : p_calls 80 (.invokevirtual 61) = some (86, 5) := by dsimp only [p_calls]; rw [xow_80]; rfl
theorem xc_80_169 : p_code 80 169 = some (.goto 9, 3) := (xco_80 169).trans rfl
theorem xj_80_169 : p_tgt 169 (9) = 178 ∧ 0 ≤ ((169 : Nat) : Int) + (9) := ⟨by decide, by decide⟩
theorem xc_80_172 : p_code 80 172 = some (.aload_n 0, 1) := (xco_80 172).trans rfl
theorem xc_80_173 : p_code 80 173 = some (.aload_n 1, 1) := (xco_80 173).trans rfl
theorem xc_80_174 : p_code 80 174 = some (.iload_n 2, 1) := (xco_80 174).trans rfl
theorem xc_80_175 : p_code 80 175 = some (.invokevirtual 66, 3) := (xco_80 175).trans rfl
theorem xm_80_175 : p_calls 80 (.invokevirtual 66) = some (87, 3) := by dsimp only [p_calls]; rw [xow_80]; rfl
theorem xc_80_178 : p_code 80 178 = some (.return_, 1) := (xco_80 178).trans rfl
theorem xrt_80 : p_rty 80 = none := rfl
theorem xhh_80 : p_hh 80 = [] := rfl
theorem xin_80 {x2 : Int32} {x3 : Int32} : p_in0 80 [.ref 20, .ref 1, .int x2, .int x3] = [some (.ref 20), some (.ref 1), some (.int x2), some (.int x3)] := rfl
theorem xrc_80 {z : Nat → Int32} {a : Nat → Nat → Int32} {w : Nat → Nat → Int64} {y : Nat → Int64} {g : List pE} {x2 : Int32} {x3 : Int32} : p_recv 80 [.ref 20, .ref 1, .int x2, .int x3] (hp z a w y g) = true := rfl
theorem xco_81 (pc : Nat) : p_code 81 pc = p_find pc pc_81 := rfl
theorem xow_81 : p_own 81 = 0 := rfl
theorem xc_81_0 : p_code 81 0 = some (.iconst 0, 1) := (xco_81 0).trans rfl
theorem xc_81_1 : p_code 81 1 = some (.istore_n 2, 1) := (xco_81 1).trans rfl
theorem xc_81_2 : p_code 81 2 = some (.iload_n 2, 1) := (xco_81 2).trans rfl
theorem xc_81_3 : p_code 81 3 = some (.aload_n 1, 1) := (xco_81 3).trans rfl
theorem xc_81_4 : p_code 81 4 = some (.invokevirtual 98, 3) := (xco_81 4).trans rfl
theorem xm_81_4 : p_calls 81 (.invokevirtual 98) = some (30, 1) := by dsimp only [p_calls]; rw [xow_81]; rfl
theorem xc_81_7 : p_code 81 7 = some (.if_icmp .ge 18, 3) := (xco_81 7).trans rfl
theorem xj_81_7 : p_tgt 7 (18) = 25 ∧ 0 ≤ ((7 : Nat) : Int) + (18) := ⟨by decide, by decide⟩
theorem xc_81_10 : p_code 81 10 = some (.aload_n 0, 1) := (xco_81 10).trans rfl
theorem xc_81_11 : p_code 81 11 = some (.aload_n 1, 1) := (xco_81 11).trans rfl
theorem xc_81_12 : p_code 81 12 = some (.iload_n 2, 1) := (xco_81 12).trans rfl
theorem xc_81_13 : p_code 81 13 = some (.invokevirtual 103, 3) := (xco_81 13).trans rfl
theorem xm_81_13 : p_calls 81 (.invokevirtual 103) = some (32, 2) := by dsimp only [p_calls]; rw [xow_81]; rfl
theorem xc_81_16 : p_code 81 16 = some (.invokevirtual 45, 3) := (xco_81 16).trans rfl
theorem xm_81_16 : p_calls 81 (.invokevirtual 45) = some (82, 2) := by dsimp only [p_calls]; rw [xow_81]; rfl
theorem xc_81_19 : p_code 81 19 = some (.iinc 2 1, 3) := (xco_81 19).trans rfl
theorem xc_81_22 : p_code 81 22 = some (.goto (-20), 3) := (xco_81 22).trans rfl
theorem xj_81_22 : p_tgt 22 (-20) = 2 ∧ 0 ≤ ((22 : Nat) : Int) + (-20) := ⟨by decide, by decide⟩
theorem xc_81_25 : p_code 81 25 = some (.return_, 1) := (xco_81 25).trans rfl
theorem xrt_81 : p_rty 81 = none := rfl
theorem xhh_81 : p_hh 81 = [] := rfl
theorem xin_81 {x1 : Nat} : p_in0 81 [.ref 20, .retAddr (x1 + 1)] = [some (.ref 20), some (.retAddr (x1 + 1)), none] := rfl
theorem xrc_81 {z : Nat → Int32} {a : Nat → Nat → Int32} {w : Nat → Nat → Int64} {y : Nat → Int64} {g : List pE} {x1 : Nat} : p_recv 81 [.ref 20, .retAddr (x1 + 1)] (hp z a w y g) = true := rfl
theorem xco_82 (pc : Nat) : p_code 82 pc = p_find pc pc_82 := rfl
theorem xow_82 : p_own 82 = 0 := rfl
theorem xc_82_0 : p_code 82 0 = some (.aload_n 0, 1) := (xco_82 0).trans rfl
theorem xc_82_1 : p_code 82 1 = some (.getfield 15, 3) := (xco_82 1).trans rfl
theorem xf_82_15 : p_fld (p_own 82) 15 = some (0, 1) := by rw [xow_82]; rfl
theorem xc_82_4 : p_code 82 4 = some (.sipush 900, 3) := (xco_82 4).trans rfl
theorem xc_82_7 : p_code 82 7 = some (.if_icmp .ge 23, 3) := (xco_82 7).trans rfl
theorem xj_82_7 : p_tgt 7 (23) = 30 ∧ 0 ≤ ((7 : Nat) : Int) + (23) := ⟨by decide, by decide⟩
theorem xc_82_10 : p_code 82 10 = some (.aload_n 0, 1) := (xco_82 10).trans rfl
theorem xc_82_11 : p_code 82 11 = some (.getfield 9, 3) := (xco_82 11).trans rfl
theorem xf_82_9 : p_fld (p_own 82) 9 = some (0, 0) := by rw [xow_82]; rfl
theorem xc_82_14 : p_code 82 14 = some (.aload_n 0, 1) := (xco_82 14).trans rfl
theorem xc_82_15 : p_code 82 15 = some (.getfield 15, 3) := (xco_82 15).trans rfl
theorem xc_82_18 : p_code 82 18 = some (.iload_n 1, 1) := (xco_82 18).trans rfl
theorem xc_82_19 : p_code 82 19 = some (.iastore, 1) := (xco_82 19).trans rfl
theorem xc_82_20 : p_code 82 20 = some (.aload_n 0, 1) := (xco_82 20).trans rfl
theorem xc_82_21 : p_code 82 21 = some (.dup, 1) := (xco_82 21).trans rfl
theorem xc_82_22 : p_code 82 22 = some (.getfield 15, 3) := (xco_82 22).trans rfl
theorem xc_82_25 : p_code 82 25 = some (.iconst 1, 1) := (xco_82 25).trans rfl
theorem xc_82_26 : p_code 82 26 = some (.iadd, 1) := (xco_82 26).trans rfl
theorem xc_82_27 : p_code 82 27 = some (.putfield 15, 3) := (xco_82 27).trans rfl
theorem xc_82_30 : p_code 82 30 = some (.return_, 1) := (xco_82 30).trans rfl
theorem xrt_82 : p_rty 82 = none := rfl
theorem xhh_82 : p_hh 82 = [] := rfl
theorem xin_82 {x1 : Int32} : p_in0 82 [.ref 20, .int x1] = [some (.ref 20), some (.int x1)] := rfl
theorem xrc_82 {z : Nat → Int32} {a : Nat → Nat → Int32} {w : Nat → Nat → Int64} {y : Nat → Int64} {g : List pE} {x1 : Int32} : p_recv 82 [.ref 20, .int x1] (hp z a w y g) = true := rfl
theorem xco_83 (pc : Nat) : p_code 83 pc = p_find pc pc_83 := rfl
theorem xow_83 : p_own 83 = 0 := rfl
theorem xc_83_0 : p_code 83 0 = some (.aload_n 0, 1) := (xco_83 0).trans rfl
theorem xc_83_1 : p_code 83 1 = some (.iload_n 1, 1) := (xco_83 1).trans rfl
theorem xc_83_2 : p_code 83 2 = some (.sipush 1000, 3) := (xco_83 2).trans rfl
theorem xc_83_5 : p_code 83 5 = some (.idiv, 1) := (xco_83 5).trans rfl
theorem xc_83_6 : p_code 83 6 = some (.invokevirtual 80, 3) := (xco_83 6).trans rfl
theorem xm_83_6 : p_calls 83 (.invokevirtual 80) = some (84, 2) := by dsimp only [p_calls]; rw [xow_83]; rfl
theorem xc_83_9 : p_code 83 9 = some (.iload_n 1, 1) := (xco_83 9).trans rfl
theorem xc_83_10 : p_code 83 10 = some (.sipush 1000, 3) := (xco_83 10).trans rfl
theorem xc_83_13 : p_code 83 13 = some (.irem, 1) := (xco_83 13).trans rfl
theorem xc_83_14 : p_code 83 14 = some (.istore_n 2, 1) := (xco_83 14).trans rfl
theorem xc_83_15 : p_code 83 15 = some (.iload_n 2, 1) := (xco_83 15).trans rfl
theorem xc_83_16 : p_code 83 16 = some (.ifCond .ne 4, 3) := (xco_83 16).trans rfl
theorem xj_83_16 : p_tgt 16 (4) = 20 ∧ 0 ≤ ((16 : Nat) : Int) + (4) := ⟨by decide, by decide⟩
theorem xc_83_19 : p_code 83 19 = some (.return_, 1) := (xco_83 19).trans rfl
theorem xc_83_20 : p_code 83 20 = some (.aload_n 0, 1) := (xco_83 20).trans rfl
theorem xc_83_21 : p_code 83 21 = some (.bipush 46, 2) := (xco_83 21).trans rfl
theorem xc_83_23 : p_code 83 23 = some (.invokevirtual 45, 3) := (xco_83 23).trans rfl
theorem xm_83_23 : p_calls 83 (.invokevirtual 45) = some (82, 2) := by dsimp only [p_calls]; rw [xow_83]; rfl
theorem xc_83_26 : p_code 83 26 = some (.iconst 0, 1) := (xco_83 26).trans rfl
theorem xc_83_27 : p_code 83 27 = some (.istore_n 3, 1) := (xco_83 27).trans rfl
theorem xc_83_28 : p_code 83 28 = some (.iload_n 3, 1) := (xco_83 28).trans rfl
theorem xc_83_29 : p_code 83 29 = some (.iconst 3, 1) := (xco_83 29).trans rfl
theorem xc_83_30 : p_code 83 30 = some (.if_icmp .ge 32, 3) := (xco_83 30).trans rfl
theorem xj_83_30 : p_tgt 30 (32) = 62 ∧ 0 ≤ ((30 : Nat) : Int) + (32) := ⟨by decide, by decide⟩
theorem xc_83_33 : p_code 83 33 = some (.iload_n 2, 1) := (xco_83 33).trans rfl
theorem xc_83_34 : p_code 83 34 = some (.ifCond .eq 28, 3) := (xco_83 34).trans rfl
theorem xj_83_34 : p_tgt 34 (28) = 62 ∧ 0 ≤ ((34 : Nat) : Int) + (28) := ⟨by decide, by decide⟩
theorem xc_83_37 : p_code 83 37 = some (.aload_n 0, 1) := (xco_83 37).trans rfl
theorem xc_83_38 : p_code 83 38 = some (.bipush 48, 2) := (xco_83 38).trans rfl
theorem xc_83_40 : p_code 83 40 = some (.iload_n 2, 1) := (xco_83 40).trans rfl
theorem xc_83_41 : p_code 83 41 = some (.bipush 100, 2) := (xco_83 41).trans rfl
theorem xc_83_43 : p_code 83 43 = some (.idiv, 1) := (xco_83 43).trans rfl
theorem xc_83_44 : p_code 83 44 = some (.iadd, 1) := (xco_83 44).trans rfl
theorem xc_83_45 : p_code 83 45 = some (.invokevirtual 45, 3) := (xco_83 45).trans rfl
theorem xm_83_45 : p_calls 83 (.invokevirtual 45) = some (82, 2) := by dsimp only [p_calls]; rw [xow_83]; rfl
theorem xc_83_48 : p_code 83 48 = some (.iload_n 2, 1) := (xco_83 48).trans rfl
theorem xc_83_49 : p_code 83 49 = some (.bipush 100, 2) := (xco_83 49).trans rfl
theorem xc_83_51 : p_code 83 51 = some (.irem, 1) := (xco_83 51).trans rfl
theorem xc_83_52 : p_code 83 52 = some (.bipush 10, 2) := (xco_83 52).trans rfl
theorem xc_83_54 : p_code 83 54 = some (.imul, 1) := (xco_83 54).trans rfl
theorem xc_83_55 : p_code 83 55 = some (.istore_n 2, 1) := (xco_83 55).trans rfl
theorem xc_83_56 : p_code 83 56 = some (.iinc 3 1, 3) := (xco_83 56).trans rfl
theorem xc_83_59 : p_code 83 59 = some (.goto (-31), 3) := (xco_83 59).trans rfl
theorem xj_83_59 : p_tgt 59 (-31) = 28 ∧ 0 ≤ ((59 : Nat) : Int) + (-31) := ⟨by decide, by decide⟩
theorem xc_83_62 : p_code 83 62 = some (.return_, 1) := (xco_83 62).trans rfl
theorem xrt_83 : p_rty 83 = none := rfl
theorem xhh_83 : p_hh 83 = [] := rfl
theorem xin_83 {x1 : Int32} : p_in0 83 [.ref 20, .int x1] = [some (.ref 20), some (.int x1), none, none] := rfl
theorem xrc_83 {z : Nat → Int32} {a : Nat → Nat → Int32} {w : Nat → Nat → Int64} {y : Nat → Int64} {g : List pE} {x1 : Int32} : p_recv 83 [.ref 20, .int x1] (hp z a w y g) = true := rfl
theorem xco_84 (pc : Nat) : p_code 84 pc = p_find pc pc_84 := rfl
theorem xow_84 : p_own 84 = 0 := rfl
theorem xc_84_0 : p_code 84 0 = some (.ldc 97, 2) := (xco_84 0).trans rfl
theorem xl_84_97 : p_int (p_own 84) 97 = some (nI 100000) := by rw [xow_84]; rfl
theorem xc_84_2 : p_code 84 2 = some (.istore_n 2, 1) := (xco_84 2).trans rfl
theorem xc_84_3 : p_code 84 3 = some (.iload_n 2, 1) := (xco_84 3).trans rfl
theorem xc_84_4 : p_code 84 4 = some (.iconst 1, 1) := (xco_84 4).trans rfl
theorem xc_84_5 : p_code 84 5 = some (.if_icmp .lt 34, 3) := (xco_84 5).trans rfl
theorem xj_84_5 : p_tgt 5 (34) = 39 ∧ 0 ≤ ((5 : Nat) : Int) + (34) := ⟨by decide, by decide⟩
theorem xc_84_8 : p_code 84 8 = some (.iload_n 1, 1) := (xco_84 8).trans rfl
theorem xc_84_9 : p_code 84 9 = some (.iload_n 2, 1) := (xco_84 9).trans rfl
theorem xc_84_10 : p_code 84 10 = some (.if_icmp .ge 8, 3) := (xco_84 10).trans rfl
theorem xj_84_10 : p_tgt 10 (8) = 18 ∧ 0 ≤ ((10 : Nat) : Int) + (8) := ⟨by decide, by decide⟩
theorem xc_84_13 : p_code 84 13 = some (.iload_n 2, 1) := (xco_84 13).trans rfl
theorem xc_84_14 : p_code 84 14 = some (.iconst 1, 1) := (xco_84 14).trans rfl
theorem xc_84_15 : p_code 84 15 = some (.if_icmp .ne 16, 3) := (xco_84 15).trans rfl
theorem xj_84_15 : p_tgt 15 (16) = 31 ∧ 0 ≤ ((15 : Nat) : Int) + (16) := ⟨by decide, by decide⟩
theorem xc_84_18 : p_code 84 18 = some (.aload_n 0, 1) := (xco_84 18).trans rfl
theorem xc_84_19 : p_code 84 19 = some (.bipush 48, 2) := (xco_84 19).trans rfl
theorem xc_84_21 : p_code 84 21 = some (.iload_n 1, 1) := (xco_84 21).trans rfl
theorem xc_84_22 : p_code 84 22 = some (.iload_n 2, 1) := (xco_84 22).trans rfl
theorem xc_84_23 : p_code 84 23 = some (.idiv, 1) := (xco_84 23).trans rfl
theorem xc_84_24 : p_code 84 24 = some (.bipush 10, 2) := (xco_84 24).trans rfl
theorem xc_84_26 : p_code 84 26 = some (.irem, 1) := (xco_84 26).trans rfl
theorem xc_84_27 : p_code 84 27 = some (.iadd, 1) := (xco_84 27).trans rfl
theorem xc_84_28 : p_code 84 28 = some (.invokevirtual 45, 3) := (xco_84 28).trans rfl
theorem xm_84_28 : p_calls 84 (.invokevirtual 45) = some (82, 2) := by dsimp only [p_calls]; rw [xow_84]; rfl
theorem xc_84_31 : p_code 84 31 = some (.iload_n 2, 1) := (xco_84 31).trans rfl
theorem xc_84_32 : p_code 84 32 = some (.bipush 10, 2) := (xco_84 32).trans rfl
theorem xc_84_34 : p_code 84 34 = some (.idiv, 1) := (xco_84 34).trans rfl
theorem xc_84_35 : p_code 84 35 = some (.istore_n 2, 1) := (xco_84 35).trans rfl
theorem xc_84_36 : p_code 84 36 = some (.goto (-33), 3) := (xco_84 36).trans rfl
theorem xj_84_36 : p_tgt 36 (-33) = 3 ∧ 0 ≤ ((36 : Nat) : Int) + (-33) := ⟨by decide, by decide⟩
theorem xc_84_39 : p_code 84 39 = some (.return_, 1) := (xco_84 39).trans rfl
theorem xrt_84 : p_rty 84 = none := rfl
theorem xhh_84 : p_hh 84 = [] := rfl
theorem xin_84 {x1 : Int32} : p_in0 84 [.ref 20, .int x1] = [some (.ref 20), some (.int x1), none] := rfl
theorem xrc_84 {z : Nat → Int32} {a : Nat → Nat → Int32} {w : Nat → Nat → Int64} {y : Nat → Int64} {g : List pE} {x1 : Int32} : p_recv 84 [.ref 20, .int x1] (hp z a w y g) = true := rfl
theorem xco_85 (pc : Nat) : p_code 85 pc = p_find pc pc_85 := rfl
theorem xow_85 : p_own 85 = 0 := rfl
theorem xc_85_0 : p_code 85 0 = some (.aload_n 0, 1) := (xco_85 0).trans rfl
theorem xc_85_1 : p_code 85 1 = some (.aload_n 1, 1) := (xco_85 1).trans rfl
theorem xc_85_2 : p_code 85 2 = some (.aload_n 1, 1) := (xco_85 2).trans rfl
theorem xc_85_3 : p_code 85 3 = some (.getfield 70, 3) := (xco_85 3).trans rfl
theorem xf_85_70 : p_fld (p_own 85) 70 = some (2, 3) := by rw [xow_85]; rfl
theorem xc_85_6 : p_code 85 6 = some (.iload_n 2, 1) := (xco_85 6).trans rfl
theorem xc_85_7 : p_code 85 7 = some (.iaload, 1) := (xco_85 7).trans rfl
theorem xc_85_8 : p_code 85 8 = some (.iload 4, 2) := (xco_85 8).trans rfl
theorem xc_85_10 : p_code 85 10 = some (.iconst 1, 1) := (xco_85 10).trans rfl
theorem xc_85_11 : p_code 85 11 = some (.iadd, 1) := (xco_85 11).trans rfl
theorem xc_85_12 : p_code 85 12 = some (.invokevirtual 19, 3) := (xco_85 12).trans rfl
theorem xm_85_12 : p_calls 85 (.invokevirtual 19) = some (80, 4) := by dsimp only [p_calls]; rw [xow_85]; rfl
theorem xc_85_15 : p_code 85 15 = some (.aload_n 0, 1) := (xco_85 15).trans rfl
theorem xc_85_16 : p_code 85 16 = some (.aload_n 3, 1) := (xco_85 16).trans rfl
theorem xc_85_17 : p_code 85 17 = some (.invokevirtual 34, 3) := (xco_85 17).trans rfl
theorem xm_85_17 : p_calls 85 (.invokevirtual 34) = some (81, 2) := by dsimp only [p_calls]; rw [xow_85]; rfl
theorem xc_85_20 : p_code 85 20 = some (.aload_n 1, 1) := (xco_85 20).trans rfl
theorem xc_85_21 : p_code 85 21 = some (.getfield 73, 3) := (xco_85 21).trans rfl
theorem xf_85_73 : p_fld (p_own 85) 73 = some (2, 4) := by rw [xow_85]; rfl
theorem xc_85_24 : p_code 85 24 = some (.iload_n 2, 1) := (xco_85 24).trans rfl
theorem xc_85_25 : p_code 85 25 = some (.iaload, 1) := (xco_85 25).trans rfl
theorem xc_85_26 : p_code 85 26 = some (.istore 5, 2) := (xco_85 26).trans rfl
theorem xc_85_28 : p_code 85 28 = some (.aload_n 1, 1) := (xco_85 28).trans rfl
theorem xc_85_29 : p_code 85 29 = some (.iload 5, 2) := (xco_85 29).trans rfl
theorem xc_85_31 : p_code 85 31 = some (.invokevirtual 23, 3) := (xco_85 31).trans rfl
theorem xm_85_31 : p_calls 85 (.invokevirtual 23) = some (39, 2) := by dsimp only [p_calls]; rw [xow_85]; rfl
theorem xc_85_34 : p_code 85 34 = some (.ifCond .eq 29, 3) := (xco_85 34).trans rfl
theorem xj_85_34 : p_tgt 34 (29) = 63 ∧ 0 ≤ ((34 : Nat) : Int) + (29) := ⟨by decide, by decide⟩
theorem xc_85_37 : p_code 85 37 = some (.aload_n 1, 1) := (xco_85 37).trans rfl
theorem xc_85_38 : p_code 85 38 = some (.getfield 29, 3) := (xco_85 38).trans rfl
theorem xf_85_29 : p_fld (p_own 85) 29 = some (2, 0) := by rw [xow_85]; rfl
theorem xc_85_41 : p_code 85 41 = some (.iload 5, 2) := (xco_85 41).trans rfl
theorem xc_85_43 : p_code 85 43 = some (.iaload, 1) := (xco_85 43).trans rfl
theorem xc_85_44 : p_code 85 44 = some (.iconst 3, 1) := (xco_85 44).trans rfl
theorem xc_85_45 : p_code 85 45 = some (.if_icmp .eq 14, 3) := (xco_85 45).trans rfl
theorem xj_85_45 : p_tgt 45 (14) = 59 ∧ 0 ≤ ((45 : Nat) : Int) + (14) := ⟨by decide, by decide⟩
theorem xc_85_48 : p_code 85 48 = some (.aload_n 1, 1) := (xco_85 48).trans rfl
theorem xc_85_49 : p_code 85 49 = some (.getfield 29, 3) := (xco_85 49).trans rfl
theorem xc_85_52 : p_code 85 52 = some (.iload 5, 2) := (xco_85 52).trans rfl
theorem xc_85_54 : p_code 85 54 = some (.iaload, 1) := (xco_85 54).trans rfl
theorem xc_85_55 : p_code 85 55 = some (.iconst 4, 1) := (xco_85 55).trans rfl
theorem xc_85_56 : p_code 85 56 = some (.if_icmp .ne 7, 3) := (xco_85 56).trans rfl
theorem xj_85_56 : p_tgt 56 (7) = 63 ∧ 0 ≤ ((56 : Nat) : Int) + (7) := ⟨by decide, by decide⟩
theorem xc_85_59 : p_code 85 59 = some (.iconst 1, 1) := (xco_85 59).trans rfl
theorem xc_85_60 : p_code 85 60 = some (.goto 4, 3) := (xco_85 60).trans rfl
theorem xj_85_60 : p_tgt 60 (4) = 64 ∧ 0 ≤ ((60 : Nat) : Int) + (4) := ⟨by decide, by decide⟩
theorem xc_85_63 : p_code 85 63 = some (.iconst 0, 1) := (xco_85 63).trans rfl
theorem xc_85_64 : p_code 85 64 = some (.istore 6, 2) := (xco_85 64).trans rfl
theorem xc_85_66 : p_code 85 66 = some (.iload 6, 2) := (xco_85 66).trans rfl
theorem xc_85_68 : p_code 85 68 = some (.ifCond .eq 9, 3) := (xco_85 68).trans rfl
theorem xj_85_68 : p_tgt 68 (9) = 77 ∧ 0 ≤ ((68 : Nat) : Int) + (9) := ⟨by decide, by decide⟩
theorem xc_85_71 : p_code 85 71 = some (.aload_n 0, 1) := (xco_85 71).trans rfl
theorem xc_85_72 : p_code 85 72 = some (.bipush 40, 2) := (xco_85 72).trans rfl
theorem xc_85_74 : p_code 85 74 = some (.invokevirtual 45, 3) := (xco_85 74).trans rfl
theorem xm_85_74 : p_calls 85 (.invokevirtual 45) = some (82, 2) := by dsimp only [p_calls]; rw [xow_85]; rfl
theorem xc_85_77 : p_code 85 77 = some (.aload_n 0, 1) := (xco_85 77).trans rfl
theorem xc_85_78 : p_code 85 78 = some (.aload_n 1, 1) := (xco_85 78).trans rfl
theorem xc_85_79 : p_code 85 79 = some (.iload 5, 2) := (xco_85 79).trans rfl
theorem xc_85_81 : p_code 85 81 = some (.iload 4, 2) := (xco_85 81).trans rfl
theorem xc_85_83 : p_code 85 83 = some (.iconst 1, 1) := (xco_85 83).trans rfl
theorem xc_85_84 : p_code 85 84 = some (.iadd, 1) := (xco_85 84).trans rfl
theorem xc_85_85 : p_code 85 85 = some (.invokevirtual 19, 3) := (xco_85 85).trans rfl
theorem xm_85_85 : p_calls 85 (.invokevirtual 19) = some (80, 4) := by dsimp only [p_calls]; rw [xow_85]; rfl
theorem xc_85_88 : p_code 85 88 = some (.iload 6, 2) := (xco_85 88).trans rfl
theorem xc_85_90 : p_code 85 90 = some (.ifCond .eq 9, 3) := (xco_85 90).trans rfl
theorem xj_85_90 : p_tgt 90 (9) = 99 ∧ 0 ≤ ((90 : Nat) : Int) + (9) := ⟨by decide, by decide⟩
theorem xc_85_93 : p_code 85 93 = some (.aload_n 0, 1) := (xco_85 93).trans rfl
theorem xc_85_94 : p_code 85 94 = some (.bipush 41, 2) := (xco_85 94).trans rfl
theorem xc_85_96 : p_code 85 96 = some (.invokevirtual 45, 3) := (xco_85 96).trans rfl
theorem xm_85_96 : p_calls 85 (.invokevirtual 45) = some (82, 2) := by dsimp only [p_calls]; rw [xow_85]; rfl
theorem xc_85_99 : p_code 85 99 = some (.return_, 1) := (xco_85 99).trans rfl
theorem xrt_85 : p_rty 85 = none := rfl
theorem xhh_85 : p_hh 85 = [] := rfl
theorem xin_85 {x2 : Int32} {x3 : Nat} {x4 : Int32} : p_in0 85 [.ref 20, .ref 1, .int x2, .retAddr (x3 + 1), .int x4] = [some (.ref 20), some (.ref 1), some (.int x2), some (.retAddr (x3 + 1)), some (.int x4), none, none] := rfl
theorem xrc_85 {z : Nat → Int32} {a : Nat → Nat → Int32} {w : Nat → Nat → Int64} {y : Nat → Int64} {g : List pE} {x2 : Int32} {x3 : Nat} {x4 : Int32} : p_recv 85 [.ref 20, .ref 1, .int x2, .retAddr (x3 + 1), .int x4] (hp z a w y g) = true := rfl
theorem xco_86 (pc : Nat) : p_code 86 pc = p_find pc pc_86 := rfl
theorem xow_86 : p_own 86 = 0 := rfl
theorem xc_86_0 : p_code 86 0 = some (.aload_n 0, 1) := (xco_86 0).trans rfl
theorem xc_86_1 : p_code 86 1 = some (.aload_n 3, 1) := (xco_86 1).trans rfl
theorem xc_86_2 : p_code 86 2 = some (.invokevirtual 34, 3) := (xco_86 2).trans rfl
theorem xm_86_2 : p_calls 86 (.invokevirtual 34) = some (81, 2) := by dsimp only [p_calls]; rw [xow_86]; rfl
theorem xc_86_5 : p_code 86 5 = some (.aload_n 0, 1) := (xco_86 5).trans rfl
theorem xc_86_6 : p_code 86 6 = some (.aload_n 1, 1) := (xco_86 6).trans rfl
theorem xc_86_7 : p_code 86 7 = some (.aload_n 1, 1) := (xco_86 7).trans rfl
theorem xc_86_8 : p_code 86 8 = some (.getfield 70, 3) := (xco_86 8).trans rfl
theorem xf_86_70 : p_fld (p_own 86) 70 = some (2, 3) := by rw [xow_86]; rfl
theorem xc_86_11 : p_code 86 11 = some (.iload_n 2, 1) := (xco_86 11).trans rfl
theorem xc_86_12 : p_code 86 12 = some (.iaload, 1) := (xco_86 12).trans rfl
theorem xc_86_13 : p_code 86 13 = some (.iload 4, 2) := (xco_86 13).trans rfl
theorem xc_86_15 : p_code 86 15 = some (.iconst 1, 1) := (xco_86 15).trans rfl
theorem xc_86_16 : p_code 86 16 = some (.iadd, 1) := (xco_86 16).trans rfl
theorem xc_86_17 : p_code 86 17 = some (.invokevirtual 19, 3) := (xco_86 17).trans rfl
theorem xm_86_17 : p_calls 86 (.invokevirtual 19) = some (80, 4) := by dsimp only [p_calls]; rw [xow_86]; rfl
theorem xc_86_20 : p_code 86 20 = some (.aload_n 0, 1) := (xco_86 20).trans rfl
theorem xc_86_21 : p_code 86 21 = some (.ldc 76, 2) := (xco_86 21).trans rfl
theorem xln_86_76 : p_int (p_own 86) 76 = none := by rw [xow_86]; rfl
theorem xls_86_76 : p_str (p_own 86) 76 = some 13 := by rw [xow_86]; rfl
theorem xc_86_23 : p_code 86 23 = some (.invokevirtual 34, 3) := (xco_86 23).trans rfl
theorem xm_86_23 : p_calls 86 (.invokevirtual 34) = some (81, 2) := by dsimp only [p_calls]; rw [xow_86]; rfl
theorem xc_86_26 : p_code 86 26 = some (.aload_n 0, 1) := (xco_86 26).trans rfl
theorem xc_86_27 : p_code 86 27 = some (.aload_n 1, 1) := (xco_86 27).trans rfl
theorem xc_86_28 : p_code 86 28 = some (.aload_n 1, 1) := (xco_86 28).trans rfl
theorem xc_86_29 : p_code 86 29 = some (.getfield 73, 3) := (xco_86 29).trans rfl
theorem xf_86_73 : p_fld (p_own 86) 73 = some (2, 4) := by rw [xow_86]; rfl
theorem xc_86_32 : p_code 86 32 = some (.iload_n 2, 1) := (xco_86 32).trans rfl
theorem xc_86_33 : p_code 86 33 = some (.iaload, 1) := (xco_86 33).trans rfl
theorem xc_86_34 : p_code 86 34 = some (.iload 4, 2) := (xco_86 34).trans rfl
theorem xc_86_36 : p_code 86 36 = some (.iconst 1, 1) := (xco_86 36).trans rfl
theorem xc_86_37 : p_code 86 37 = some (.iadd, 1) := (xco_86 37).trans rfl
theorem xc_86_38 : p_code 86 38 = some (.invokevirtual 19, 3) := (xco_86 38).trans rfl
theorem xm_86_38 : p_calls 86 (.invokevirtual 19) = some (80, 4) := by dsimp only [p_calls]; rw [xow_86]; rfl
theorem xc_86_41 : p_code 86 41 = some (.aload_n 0, 1) := (xco_86 41).trans rfl
theorem xc_86_42 : p_code 86 42 = some (.bipush 41, 2) := (xco_86 42).trans rfl
theorem xc_86_44 : p_code 86 44 = some (.invokevirtual 45, 3) := (xco_86 44).trans rfl
theorem xm_86_44 : p_calls 86 (.invokevirtual 45) = some (82, 2) := by dsimp only [p_calls]; rw [xow_86]; rfl
theorem xc_86_47 : p_code 86 47 = some (.return_, 1) := (xco_86 47).trans rfl
theorem xrt_86 : p_rty 86 = none := rfl
theorem xhh_86 : p_hh 86 = [] := rfl
theorem xin_86 {x2 : Int32} {x3 : Nat} {x4 : Int32} : p_in0 86 [.ref 20, .ref 1, .int x2, .retAddr (x3 + 1), .int x4] = [some (.ref 20), some (.ref 1), some (.int x2), some (.retAddr (x3 + 1)), some (.int x4)] := rfl
theorem xrc_86 {z : Nat → Int32} {a : Nat → Nat → Int32} {w : Nat → Nat → Int64} {y : Nat → Int64} {g : List pE} {x2 : Int32} {x3 : Nat} {x4 : Int32} : p_recv 86 [.ref 20, .ref 1, .int x2, .retAddr (x3 + 1), .int x4] (hp z a w y g) = true := rfl
theorem xco_87 (pc : Nat) : p_code 87 pc = p_find pc pc_87 := rfl
theorem xow_87 : p_own 87 = 0 := rfl
theorem xc_87_0 : p_code 87 0 = some (.aload_n 0, 1) := (xco_87 0).trans rfl
theorem xc_87_1 : p_code 87 1 = some (.ldc 78, 2) := (xco_87 1).trans rfl
theorem xln_87_78 : p_int (p_own 87) 78 = none := by rw [xow_87]; rfl
theorem xls_87_78 : p_str (p_own 87) 78 = some 15 := by rw [xow_87]; rfl
theorem xc_87_3 : p_code 87 3 = some (.invokevirtual 34, 3) := (xco_87 3).trans rfl
theorem xm_87_3 : p_calls 87 (.invokevirtual 34) = some (81, 2) := by dsimp only [p_calls]; rw [xow_87]; rfl
theorem xc_87_6 : p_code 87 6 = some (.aload_n 0, 1) := (xco_87 6).trans rfl
theorem xc_87_7 : p_code 87 7 = some (.aload_n 1, 1) := (xco_87 7).trans rfl
theorem xc_87_8 : p_code 87 8 = some (.getfield 38, 3) := (xco_87 8).trans rfl
theorem xf_87_38 : p_fld (p_own 87) 38 = some (2, 1) := by rw [xow_87]; rfl
theorem xc_87_11 : p_code 87 11 = some (.iload_n 2, 1) := (xco_87 11).trans rfl
theorem xc_87_12 : p_code 87 12 = some (.iaload, 1) := (xco_87 12).trans rfl
theorem xc_87_13 : p_code 87 13 = some (.invokevirtual 80, 3) := (xco_87 13).trans rfl
theorem xm_87_13 : p_calls 87 (.invokevirtual 80) = some (84, 2) := by dsimp only [p_calls]; rw [xow_87]; rfl
theorem xc_87_16 : p_code 87 16 = some (.aload_n 1, 1) := (xco_87 16).trans rfl
theorem xc_87_17 : p_code 87 17 = some (.getfield 83, 3) := (xco_87 17).trans rfl
theorem xf_87_83 : p_fld (p_own 87) 83 = some (2, 5) := by rw [xow_87]; rfl
theorem xc_87_20 : p_code 87 20 = some (.iload_n 2, 1) := (xco_87 20).trans rfl
theorem xc_87_21 : p_code 87 21 = some (.iaload, 1) := (xco_87 21).trans rfl
theorem xc_87_22 : p_code 87 22 = some (.istore_n 3, 1) := (xco_87 22).trans rfl
theorem xc_87_23 : p_code 87 23 = some (.iload_n 3, 1) := (xco_87 23).trans rfl
theorem xc_87_24 : p_code 87 24 = some (.aload_n 1, 1) := (xco_87 24).trans rfl
theorem xc_87_25 : p_code 87 25 = some (.getfield 86, 3) := (xco_87 25).trans rfl
theorem xf_87_86 : p_fld (p_own 87) 86 = some (2, 6) := by rw [xow_87]; rfl
theorem xc_87_28 : p_code 87 28 = some (.iload_n 2, 1) := (xco_87 28).trans rfl
theorem xc_87_29 : p_code 87 29 = some (.iaload, 1) := (xco_87 29).trans rfl
theorem xc_87_30 : p_code 87 30 = some (.iadd, 1) := (xco_87 30).trans rfl
theorem xc_87_31 : p_code 87 31 = some (.istore 4, 2) := (xco_87 31).trans rfl
theorem xc_87_33 : p_code 87 33 = some (.iload_n 3, 1) := (xco_87 33).trans rfl
theorem xc_87_34 : p_code 87 34 = some (.istore 5, 2) := (xco_87 34).trans rfl
theorem xc_87_36 : p_code 87 36 = some (.iload 5, 2) := (xco_87 36).trans rfl
theorem xc_87_38 : p_code 87 38 = some (.iload 4, 2) := (xco_87 38).trans rfl
theorem xc_87_40 : p_code 87 40 = some (.if_icmp .ge 62, 3) := (xco_87 40).trans rfl
theorem xj_87_40 : p_tgt 40 (62) = 102 ∧ 0 ≤ ((40 : Nat) : Int) + (62) := ⟨by decide, by decide⟩
theorem xc_87_43 : p_code 87 43 = some (.iload 5, 2) := (xco_87 43).trans rfl
theorem xc_87_45 : p_code 87 45 = some (.sipush 300, 3) := (xco_87 45).trans rfl
theorem xc_87_48 : p_code 87 48 = some (.if_icmp .ge 54, 3) := (xco_87 48).trans rfl
theorem xj_87_48 : p_tgt 48 (54) = 102 ∧ 0 ≤ ((48 : Nat) : Int) + (54) := ⟨by decide, by decide⟩
theorem xc_87_51 : p_code 87 51 = some (.aload_n 0, 1) := (xco_87 51).trans rfl
theorem xc_87_52 : p_code 87 52 = some (.iload 5, 2) := (xco_87 52).trans rfl
theorem xc_87_54 : p_code 87 54 = some (.iload_n 3, 1) := (xco_87 54).trans rfl
theorem xc_87_55 : p_code 87 55 = some (.if_icmp .ne 8, 3) := (xco_87 55).trans rfl
theorem xj_87_55 : p_tgt 55 (8) = 63 ∧ 0 ≤ ((55 : Nat) : Int) + (8) := ⟨by decide, by decide⟩
theorem xc_87_58 : p_code 87 58 = some (.ldc 89, 2) := (xco_87 58).trans rfl
theorem xln_87_89 : p_int (p_own 87) 89 = none := by rw [xow_87]; rfl
theorem xls_87_89 : p_str (p_own 87) 89 = some 16 := by rw [xow_87]; rfl
theorem xc_87_60 : p_code 87 60 = some (.goto 5, 3) := (xco_87 60).trans rfl
theorem xj_87_60 : p_tgt 60 (5) = 65 ∧ 0 ≤ ((60 : Nat) : Int) + (5) := ⟨by decide, by decide⟩
theorem xc_87_63 : p_code 87 63 = some (.ldc 76, 2) := (xco_87 63).trans rfl
theorem xln_87_76 : p_int (p_own 87) 76 = none := by rw [xow_87]; rfl
theorem xls_87_76 : p_str (p_own 87) 76 = some 13 := by rw [xow_87]; rfl
theorem xc_87_65 : p_code 87 65 = some (.invokevirtual 34, 3) := (xco_87 65).trans rfl
theorem xm_87_65 : p_calls 87 (.invokevirtual 34) = some (81, 2) := by dsimp only [p_calls]; rw [xow_87]; rfl
theorem xc_87_68 : p_code 87 68 = some (.aload_n 0, 1) := (xco_87 68).trans rfl
theorem xc_87_69 : p_code 87 69 = some (.aload_n 1, 1) := (xco_87 69).trans rfl
theorem xc_87_70 : p_code 87 70 = some (.getfield 91, 3) := (xco_87 70).trans rfl
theorem xf_87_91 : p_fld (p_own 87) 91 = some (2, 7) := by rw [xow_87]; rfl
theorem xc_87_73 : p_code 87 73 = some (.iload 5, 2) := (xco_87 73).trans rfl
theorem xc_87_75 : p_code 87 75 = some (.iaload, 1) := (xco_87 75).trans rfl
theorem xc_87_76 : p_code 87 76 = some (.invokevirtual 80, 3) := (xco_87 76).trans rfl
theorem xm_87_76 : p_calls 87 (.invokevirtual 80) = some (84, 2) := by dsimp only [p_calls]; rw [xow_87]; rfl
theorem xc_87_79 : p_code 87 79 = some (.aload_n 0, 1) := (xco_87 79).trans rfl
theorem xc_87_80 : p_code 87 80 = some (.bipush 61, 2) := (xco_87 80).trans rfl
theorem xc_87_82 : p_code 87 82 = some (.invokevirtual 45, 3) := (xco_87 82).trans rfl
theorem xm_87_82 : p_calls 87 (.invokevirtual 45) = some (82, 2) := by dsimp only [p_calls]; rw [xow_87]; rfl
theorem xc_87_85 : p_code 87 85 = some (.aload_n 0, 1) := (xco_87 85).trans rfl
theorem xc_87_86 : p_code 87 86 = some (.aload_n 1, 1) := (xco_87 86).trans rfl
theorem xc_87_87 : p_code 87 87 = some (.getfield 94, 3) := (xco_87 87).trans rfl
theorem xf_87_94 : p_fld (p_own 87) 94 = some (2, 8) := by rw [xow_87]; rfl
theorem xc_87_90 : p_code 87 90 = some (.iload 5, 2) := (xco_87 90).trans rfl
theorem xc_87_92 : p_code 87 92 = some (.iaload, 1) := (xco_87 92).trans rfl
theorem xc_87_93 : p_code 87 93 = some (.invokevirtual 80, 3) := (xco_87 93).trans rfl
theorem xm_87_93 : p_calls 87 (.invokevirtual 80) = some (84, 2) := by dsimp only [p_calls]; rw [xow_87]; rfl
theorem xc_87_96 : p_code 87 96 = some (.iinc 5 1, 3) := (xco_87 96).trans rfl
theorem xc_87_99 : p_code 87 99 = some (.goto (-63), 3) := (xco_87 99).trans rfl
theorem xj_87_99 : p_tgt 99 (-63) = 36 ∧ 0 ≤ ((99 : Nat) : Int) + (-63) := ⟨by decide, by decide⟩
theorem xc_87_102 : p_code 87 102 = some (.aload_n 0, 1) := (xco_87 102).trans rfl
theorem xc_87_103 : p_code 87 103 = some (.bipush 41, 2) := (xco_87 103).trans rfl
theorem xc_87_105 : p_code 87 105 = some (.invokevirtual 45, 3) := (xco_87 105).trans rfl
theorem xm_87_105 : p_calls 87 (.invokevirtual 45) = some (82, 2) := by dsimp only [p_calls]; rw [xow_87]; rfl
theorem xc_87_108 : p_code 87 108 = some (.return_, 1) := (xco_87 108).trans rfl
theorem xrt_87 : p_rty 87 = none := rfl
theorem xhh_87 : p_hh 87 = [] := rfl
theorem xin_87 {x2 : Int32} : p_in0 87 [.ref 20, .ref 1, .int x2] = [some (.ref 20), some (.ref 1), some (.int x2), none, none, none] := rfl
theorem xrc_87 {z : Nat → Int32} {a : Nat → Nat → Int32} {w : Nat → Nat → Int64} {y : Nat → Int64} {g : List pE} {x2 : Int32} : p_recv 87 [.ref 20, .ref 1, .int x2] (hp z a w y g) = true := rfl
theorem xco_88 (pc : Nat) : p_code 88 pc = p_find pc pc_88 := rfl
theorem xow_88 : p_own 88 = 12 := rfl
theorem xc_88_0 : p_code 88 0 = some (.aload_n 2, 1) := (xco_88 0).trans rfl
theorem xc_88_1 : p_code 88 1 = some (.iconst 0, 1) := (xco_88 1).trans rfl
theorem xc_88_2 : p_code 88 2 = some (.aload_n 0, 1) := (xco_88 2).trans rfl
theorem xc_88_3 : p_code 88 3 = some (.iload_n 1, 1) := (xco_88 3).trans rfl
theorem xc_88_4 : p_code 88 4 = some (.invokevirtual 35, 3) := (xco_88 4).trans rfl
theorem xm_88_4 : p_calls 88 (.invokevirtual 35) = some (89, 2) := by dsimp only [p_calls]; rw [xow_88]; rfl
theorem xc_88_7 : p_code 88 7 = some (.i2l, 1) := (xco_88 7).trans rfl
theorem xc_88_8 : p_code 88 8 = some (.lastore, 1) := (xco_88 8).trans rfl
theorem xc_88_9 : p_code 88 9 = some (.goto 6, 3) := (xco_88 9).trans rfl
theorem xj_88_9 : p_tgt 9 (6) = 15 ∧ 0 ≤ ((9 : Nat) : Int) + (6) := ⟨by decide, by decide⟩
theorem xc_88_12 : p_code 88 12 = some (.astore_n 3, 1) := (xco_88 12).trans rfl
theorem xc_88_13 : p_code 88 13 = some (.iconst 1, 1) := (xco_88 13).trans rfl
theorem xc_88_14 : p_code 88 14 = some (.ireturn, 1) := (xco_88 14).trans rfl
theorem xc_88_15 : p_code 88 15 = some (.iconst 0, 1) := (xco_88 15).trans rfl
theorem xc_88_16 : p_code 88 16 = some (.ireturn, 1) := (xco_88 16).trans rfl
theorem xrt_88 : p_rty 88 = some .int := rfl
theorem xhh_88 : p_hh 88 = [(0, 9, 12, 10)] := rfl
theorem xin_88 {x1 : Int32} : p_in0 88 [.ref 0, .int x1, .ref 43] = [some (.ref 0), some (.int x1), some (.ref 43), none] := rfl
theorem xrc_88 {z : Nat → Int32} {a : Nat → Nat → Int32} {w : Nat → Nat → Int64} {y : Nat → Int64} {g : List pE} {x1 : Int32} : p_recv 88 [.ref 0, .int x1, .ref 43] (hp z a w y g) = true := rfl
theorem xco_89 (pc : Nat) : p_code 89 pc = p_find pc pc_89 := rfl
theorem xow_89 : p_own 89 = 5 := rfl
theorem xc_89_0 : p_code 89 0 = some (.iload_n 1, 1) := (xco_89 0).trans rfl
theorem xc_89_1 : p_code 89 1 = some (.ifCond .lt 14, 3) := (xco_89 1).trans rfl
theorem xj_89_1 : p_tgt 1 (14) = 15 ∧ 0 ≤ ((1 : Nat) : Int) + (14) := ⟨by decide, by decide⟩
theorem xc_89_4 : p_code 89 4 = some (.iload_n 1, 1) := (xco_89 4).trans rfl
theorem xc_89_5 : p_code 89 5 = some (.aload_n 0, 1) := (xco_89 5).trans rfl
theorem xc_89_6 : p_code 89 6 = some (.getfield 42, 3) := (xco_89 6).trans rfl
theorem xf_89_42 : p_fld (p_own 89) 42 = some (5, 4) := by rw [xow_89]; rfl
theorem xc_89_9 : p_code 89 9 = some (.getfield 147, 3) := (xco_89 9).trans rfl
theorem xf_89_147 : p_fld (p_own 89) 147 = some (0, 1) := by rw [xow_89]; rfl
theorem xc_89_12 : p_code 89 12 = some (.if_icmp .lt 13, 3) := (xco_89 12).trans rfl
theorem xj_89_12 : p_tgt 12 (13) = 25 ∧ 0 ≤ ((12 : Nat) : Int) + (13) := ⟨by decide, by decide⟩
theorem xc_89_15 : p_code 89 15 = some (.new 96, 3) := (xco_89 15).trans rfl
theorem xth_89_15 : p_thr 89 15 (.new 96) = some 10 := rfl
theorem xc_89_18 : p_code 89 18 = some (.dup, 1) := (xco_89 18).trans rfl
theorem xc_89_19 : p_code 89 19 = some (.ldc 150, 2) := (xco_89 19).trans rfl
theorem xln_89_150 : p_int (p_own 89) 150 = none := by rw [xow_89]; rfl
theorem xls_89_150 : p_str (p_own 89) 150 = some 17 := by rw [xow_89]; rfl
theorem xc_89_21 : p_code 89 21 = some (.invokespecial 100, 3) := (xco_89 21).trans rfl
theorem xc_89_24 : p_code 89 24 = some (.athrow, 1) := (xco_89 24).trans rfl
theorem xc_89_25 : p_code 89 25 = some (.aload_n 0, 1) := (xco_89 25).trans rfl
theorem xc_89_26 : p_code 89 26 = some (.getfield 42, 3) := (xco_89 26).trans rfl
theorem xc_89_29 : p_code 89 29 = some (.getfield 152, 3) := (xco_89 29).trans rfl
theorem xf_89_152 : p_fld (p_own 89) 152 = some (0, 0) := by rw [xow_89]; rfl
theorem xc_89_32 : p_code 89 32 = some (.iload_n 1, 1) := (xco_89 32).trans rfl
theorem xc_89_33 : p_code 89 33 = some (.iaload, 1) := (xco_89 33).trans rfl
theorem xc_89_34 : p_code 89 34 = some (.ireturn, 1) := (xco_89 34).trans rfl
theorem xrt_89 : p_rty 89 = some .int := rfl
theorem xhh_89 : p_hh 89 = [] := rfl
theorem xin_89 {x1 : Int32} : p_in0 89 [.ref 0, .int x1] = [some (.ref 0), some (.int x1)] := rfl
theorem xrc_89 {z : Nat → Int32} {a : Nat → Nat → Int32} {w : Nat → Nat → Int64} {y : Nat → Int64} {g : List pE} {x1 : Int32} : p_recv 89 [.ref 0, .int x1] (hp z a w y g) = true := rfl
theorem xco_90 (pc : Nat) : p_code 90 pc = p_find pc pc_90 := rfl
theorem xow_90 : p_own 90 = 12 := rfl
theorem xc_90_0 : p_code 90 0 = some (.aload 5, 2) := (xco_90 0).trans rfl
theorem xc_90_2 : p_code 90 2 = some (.iconst 0, 1) := (xco_90 2).trans rfl
theorem xc_90_3 : p_code 90 3 = some (.aload_n 0, 1) := (xco_90 3).trans rfl
theorem xc_90_4 : p_code 90 4 = some (.lload_n 1, 1) := (xco_90 4).trans rfl
theorem xc_90_5 : p_code 90 5 = some (.lload_n 3, 1) := (xco_90 5).trans rfl
theorem xc_90_6 : p_code 90 6 = some (.invokevirtual 39, 3) := (xco_90 6).trans rfl
theorem xm_90_6 : p_calls 90 (.invokevirtual 39) = some (91, 3) := by dsimp only [p_calls]; rw [xow_90]; rfl
theorem xc_90_9 : p_code 90 9 = some (.lastore, 1) := (xco_90 9).trans rfl
theorem xc_90_10 : p_code 90 10 = some (.goto 11, 3) := (xco_90 10).trans rfl
theorem xj_90_10 : p_tgt 10 (11) = 21 ∧ 0 ≤ ((10 : Nat) : Int) + (11) := ⟨by decide, by decide⟩
theorem xc_90_13 : p_code 90 13 = some (.astore 6, 2) := (xco_90 13).trans rfl
theorem xc_90_15 : p_code 90 15 = some (.iconst 1, 1) := (xco_90 15).trans rfl
theorem xc_90_16 : p_code 90 16 = some (.ireturn, 1) := (xco_90 16).trans rfl
theorem xc_90_17 : p_code 90 17 = some (.astore 6, 2) := (xco_90 17).trans rfl
theorem xc_90_19 : p_code 90 19 = some (.iconst 2, 1) := (xco_90 19).trans rfl
theorem xc_90_20 : p_code 90 20 = some (.ireturn, 1) := (xco_90 20).trans rfl
theorem xc_90_21 : p_code 90 21 = some (.iconst 0, 1) := (xco_90 21).trans rfl
theorem xc_90_22 : p_code 90 22 = some (.ireturn, 1) := (xco_90 22).trans rfl
theorem xrt_90 : p_rty 90 = some .int := rfl
theorem xhh_90 : p_hh 90 = [(0, 10, 13, 7), (0, 10, 17, 11)] := rfl
theorem xin_90 {x1 : Int64} {x2 : Int64} : p_in0 90 [.ref 0, .long x1, .long x2, .ref 43] = [some (.ref 0), some (.long x1), none, some (.long x2), none, some (.ref 43), none] := rfl
theorem xrc_90 {z : Nat → Int32} {a : Nat → Nat → Int32} {w : Nat → Nat → Int64} {y : Nat → Int64} {g : List pE} {x1 : Int64} {x2 : Int64} : p_recv 90 [.ref 0, .long x1, .long x2, .ref 43] (hp z a w y g) = true := rfl
theorem xco_91 (pc : Nat) : p_code 91 pc = p_find pc pc_91 := rfl
theorem xow_91 : p_own 91 = 5 := rfl
theorem xc_91_0 : p_code 91 0 = some (.lload_n 1, 1) := (xco_91 0).trans rfl
theorem xc_91_1 : p_code 91 1 = some (.lconst 0, 1) := (xco_91 1).trans rfl
theorem xc_91_2 : p_code 91 2 = some (.lcmp, 1) := (xco_91 2).trans rfl
theorem xc_91_3 : p_code 91 3 = some (.ifCond .lt 25, 3) := (xco_91 3).trans rfl
theorem xj_91_3 : p_tgt 3 (25) = 28 ∧ 0 ≤ ((3 : Nat) : Int) + (25) := ⟨by decide, by decide⟩
theorem xc_91_6 : p_code 91 6 = some (.lload_n 1, 1) := (xco_91 6).trans rfl
theorem xc_91_7 : p_code 91 7 = some (.ldc2_w 155, 3) := (xco_91 7).trans rfl
theorem xl_91_155 : p_lng (p_own 91) 155 = some (1000000000) := by rw [xow_91]; rfl
theorem xc_91_10 : p_code 91 10 = some (.lcmp, 1) := (xco_91 10).trans rfl
theorem xc_91_11 : p_code 91 11 = some (.ifCond .gt 17, 3) := (xco_91 11).trans rfl
theorem xj_91_11 : p_tgt 11 (17) = 28 ∧ 0 ≤ ((11 : Nat) : Int) + (17) := ⟨by decide, by decide⟩
theorem xc_91_14 : p_code 91 14 = some (.lload_n 3, 1) := (xco_91 14).trans rfl
theorem xc_91_15 : p_code 91 15 = some (.lconst 0, 1) := (xco_91 15).trans rfl
theorem xc_91_16 : p_code 91 16 = some (.lcmp, 1) := (xco_91 16).trans rfl
theorem xc_91_17 : p_code 91 17 = some (.ifCond .lt 11, 3) := (xco_91 17).trans rfl
theorem xj_91_17 : p_tgt 17 (11) = 28 ∧ 0 ≤ ((17 : Nat) : Int) + (11) := ⟨by decide, by decide⟩
theorem xc_91_20 : p_code 91 20 = some (.lload_n 3, 1) := (xco_91 20).trans rfl
theorem xc_91_21 : p_code 91 21 = some (.ldc2_w 155, 3) := (xco_91 21).trans rfl
theorem xc_91_24 : p_code 91 24 = some (.lcmp, 1) := (xco_91 24).trans rfl
theorem xc_91_25 : p_code 91 25 = some (.ifCond .le 13, 3) := (xco_91 25).trans rfl
theorem xj_91_25 : p_tgt 25 (13) = 38 ∧ 0 ≤ ((25 : Nat) : Int) + (13) := ⟨by decide, by decide⟩
theorem xc_91_28 : p_code 91 28 = some (.new 68, 3) := (xco_91 28).trans rfl
theorem xth_91_28 : p_thr 91 28 (.new 68) = some 7 := rfl
theorem xc_91_31 : p_code 91 31 = some (.dup, 1) := (xco_91 31).trans rfl
theorem xc_91_32 : p_code 91 32 = some (.ldc 157, 2) := (xco_91 32).trans rfl
theorem xln_91_157 : p_int (p_own 91) 157 = none := by rw [xow_91]; rfl
theorem xls_91_157 : p_str (p_own 91) 157 = some 18 := by rw [xow_91]; rfl
theorem xc_91_34 : p_code 91 34 = some (.invokespecial 72, 3) := (xco_91 34).trans rfl
theorem xc_91_37 : p_code 91 37 = some (.athrow, 1) := (xco_91 37).trans rfl
theorem xc_91_38 : p_code 91 38 = some (.lload_n 3, 1) := (xco_91 38).trans rfl
theorem xc_91_39 : p_code 91 39 = some (.lconst 0, 1) := (xco_91 39).trans rfl
theorem xc_91_40 : p_code 91 40 = some (.lcmp, 1) := (xco_91 40).trans rfl
theorem xc_91_41 : p_code 91 41 = some (.ifCond .ne 13, 3) := (xco_91 41).trans rfl
theorem xj_91_41 : p_tgt 41 (13) = 54 ∧ 0 ≤ ((41 : Nat) : Int) + (13) := ⟨by decide, by decide⟩
theorem xc_91_44 : p_code 91 44 = some (.new 159, 3) := (xco_91 44).trans rfl
theorem xth_91_44 : p_thr 91 44 (.new 159) = some 11 := rfl
theorem xc_91_47 : p_code 91 47 = some (.dup, 1) := (xco_91 47).trans rfl
theorem xc_91_48 : p_code 91 48 = some (.ldc 161, 2) := (xco_91 48).trans rfl
theorem xln_91_161 : p_int (p_own 91) 161 = none := by rw [xow_91]; rfl
theorem xls_91_161 : p_str (p_own 91) 161 = some 19 := by rw [xow_91]; rfl
theorem xc_91_50 : p_code 91 50 = some (.invokespecial 163, 3) := (xco_91 50).trans rfl
theorem xc_91_53 : p_code 91 53 = some (.athrow, 1) := (xco_91 53).trans rfl
theorem xc_91_54 : p_code 91 54 = some (.lload_n 1, 1) := (xco_91 54).trans rfl
theorem xc_91_55 : p_code 91 55 = some (.ldc2_w 164, 3) := (xco_91 55).trans rfl
theorem xl_91_164 : p_lng (p_own 91) 164 = some (100) := by rw [xow_91]; rfl
theorem xc_91_58 : p_code 91 58 = some (.lmul, 1) := (xco_91 58).trans rfl
theorem xc_91_59 : p_code 91 59 = some (.lload_n 3, 1) := (xco_91 59).trans rfl
theorem xc_91_60 : p_code 91 60 = some (.ldiv, 1) := (xco_91 60).trans rfl
theorem xc_91_61 : p_code 91 61 = some (.lreturn, 1) := (xco_91 61).trans rfl
theorem xrt_91 : p_rty 91 = some .long := rfl
theorem xhh_91 : p_hh 91 = [] := rfl
theorem xin_91 {x1 : Int64} {x2 : Int64} : p_in0 91 [.ref 0, .long x1, .long x2] = [some (.ref 0), some (.long x1), none, some (.long x2), none] := rfl
theorem xrc_91 {z : Nat → Int32} {a : Nat → Nat → Int32} {w : Nat → Nat → Int64} {y : Nat → Int64} {g : List pE} {x1 : Int64} {x2 : Int64} : p_recv 91 [.ref 0, .long x1, .long x2] (hp z a w y g) = true := rfl
theorem xco_92 (pc : Nat) : p_code 92 pc = p_find pc pc_92 := rfl
theorem xow_92 : p_own 92 = 6 := rfl
theorem xc_92_0 : p_code 92 0 = some (.aload_n 0, 1) := (xco_92 0).trans rfl
theorem xc_92_1 : p_code 92 1 = some (.invokespecial 1, 3) := (xco_92 1).trans rfl
theorem xc_92_4 : p_code 92 4 = some (.aload_n 0, 1) := (xco_92 4).trans rfl
theorem xc_92_5 : p_code 92 5 = some (.sipush 300, 3) := (xco_92 5).trans rfl
theorem xc_92_8 : p_code 92 8 = some (.newarray .int, 2) := (xco_92 8).trans rfl
theorem xc_92_10 : p_code 92 10 = some (.putfield 7, 3) := (xco_92 10).trans rfl
theorem xf_92_7 : p_fld (p_own 92) 7 = some (6, 0) := by rw [xow_92]; rfl
theorem xc_92_13 : p_code 92 13 = some (.aload_n 0, 1) := (xco_92 13).trans rfl
theorem xc_92_14 : p_code 92 14 = some (.bipush 120, 2) := (xco_92 14).trans rfl
theorem xc_92_16 : p_code 92 16 = some (.newarray .int, 2) := (xco_92 16).trans rfl
theorem xc_92_18 : p_code 92 18 = some (.putfield 13, 3) := (xco_92 18).trans rfl
theorem xf_92_13 : p_fld (p_own 92) 13 = some (6, 5) := by rw [xow_92]; rfl
theorem xc_92_21 : p_code 92 21 = some (.aload_n 0, 1) := (xco_92 21).trans rfl
theorem xc_92_22 : p_code 92 22 = some (.bipush 120, 2) := (xco_92 22).trans rfl
theorem xc_92_24 : p_code 92 24 = some (.newarray .int, 2) := (xco_92 24).trans rfl
theorem xc_92_26 : p_code 92 26 = some (.putfield 16, 3) := (xco_92 26).trans rfl
theorem xf_92_16 : p_fld (p_own 92) 16 = some (6, 6) := by rw [xow_92]; rfl
theorem xc_92_29 : p_code 92 29 = some (.aload_n 0, 1) := (xco_92 29).trans rfl
theorem xc_92_30 : p_code 92 30 = some (.bipush 120, 2) := (xco_92 30).trans rfl
theorem xc_92_32 : p_code 92 32 = some (.newarray .int, 2) := (xco_92 32).trans rfl
theorem xc_92_34 : p_code 92 34 = some (.putfield 19, 3) := (xco_92 34).trans rfl
theorem xf_92_19 : p_fld (p_own 92) 19 = some (6, 7) := by rw [xow_92]; rfl
theorem xc_92_37 : p_code 92 37 = some (.aload_n 0, 1) := (xco_92 37).trans rfl
theorem xc_92_38 : p_code 92 38 = some (.bipush 120, 2) := (xco_92 38).trans rfl
theorem xc_92_40 : p_code 92 40 = some (.newarray .int, 2) := (xco_92 40).trans rfl
theorem xc_92_42 : p_code 92 42 = some (.putfield 22, 3) := (xco_92 42).trans rfl
theorem xf_92_22 : p_fld (p_own 92) 22 = some (6, 8) := by rw [xow_92]; rfl
theorem xc_92_45 : p_code 92 45 = some (.aload_n 0, 1) := (xco_92 45).trans rfl
theorem xc_92_46 : p_code 92 46 = some (.bipush 120, 2) := (xco_92 46).trans rfl
theorem xc_92_48 : p_code 92 48 = some (.newarray .int, 2) := (xco_92 48).trans rfl
theorem xc_92_50 : p_code 92 50 = some (.putfield 25, 3) := (xco_92 50).trans rfl
theorem xf_92_25 : p_fld (p_own 92) 25 = some (6, 9) := by rw [xow_92]; rfl
theorem xc_92_53 : p_code 92 53 = some (.aload_n 0, 1) := (xco_92 53).trans rfl
theorem xc_92_54 : p_code 92 54 = some (.bipush 120, 2) := (xco_92 54).trans rfl
theorem xc_92_56 : p_code 92 56 = some (.newarray .int, 2) := (xco_92 56).trans rfl
theorem xc_92_58 : p_code 92 58 = some (.putfield 28, 3) := (xco_92 58).trans rfl
theorem xf_92_28 : p_fld (p_own 92) 28 = some (6, 10) := by rw [xow_92]; rfl
theorem xc_92_61 : p_code 92 61 = some (.aload_n 0, 1) := (xco_92 61).trans rfl
theorem xc_92_62 : p_code 92 62 = some (.sipush 720, 3) := (xco_92 62).trans rfl
theorem xc_92_65 : p_code 92 65 = some (.newarray .int, 2) := (xco_92 65).trans rfl
theorem xc_92_67 : p_code 92 67 = some (.putfield 31, 3) := (xco_92 67).trans rfl
theorem xf_92_31 : p_fld (p_own 92) 31 = some (6, 11) := by rw [xow_92]; rfl
theorem xc_92_70 : p_code 92 70 = some (.aload_n 0, 1) := (xco_92 70).trans rfl
theorem xc_92_71 : p_code 92 71 = some (.sipush 720, 3) := (xco_92 71).trans rfl
theorem xc_92_74 : p_code 92 74 = some (.newarray .int, 2) := (xco_92 74).trans rfl
theorem xc_92_76 : p_code 92 76 = some (.putfield 34, 3) := (xco_92 76).trans rfl
theorem xf_92_34 : p_fld (p_own 92) 34 = some (6, 12) := by rw [xow_92]; rfl
theorem xc_92_79 : p_code 92 79 = some (.aload_n 0, 1) := (xco_92 79).trans rfl
theorem xc_92_80 : p_code 92 80 = some (.bipush 14, 2) := (xco_92 80).trans rfl
theorem xc_92_82 : p_code 92 82 = some (.newarray .int, 2) := (xco_92 82).trans rfl
theorem xc_92_84 : p_code 92 84 = some (.putfield 37, 3) := (xco_92 84).trans rfl
theorem xf_92_37 : p_fld (p_own 92) 37 = some (6, 18) := by rw [xow_92]; rfl
theorem xc_92_87 : p_code 92 87 = some (.aload_n 0, 1) := (xco_92 87).trans rfl
theorem xc_92_88 : p_code 92 88 = some (.bipush 14, 2) := (xco_92 88).trans rfl
theorem xc_92_90 : p_code 92 90 = some (.newarray .int, 2) := (xco_92 90).trans rfl
theorem xc_92_92 : p_code 92 92 = some (.putfield 40, 3) := (xco_92 92).trans rfl
theorem xf_92_40 : p_fld (p_own 92) 40 = some (6, 19) := by rw [xow_92]; rfl
theorem xc_92_95 : p_code 92 95 = some (.aload_n 0, 1) := (xco_92 95).trans rfl
theorem xc_92_96 : p_code 92 96 = some (.bipush 14, 2) := (xco_92 96).trans rfl
theorem xc_92_98 : p_code 92 98 = some (.newarray .int, 2) := (xco_92 98).trans rfl
theorem xc_92_100 : p_code 92 100 = some (.putfield 43, 3) := (xco_92 100).trans rfl
theorem xf_92_43 : p_fld (p_own 92) 43 = some (6, 20) := by rw [xow_92]; rfl
theorem xc_92_103 : p_code 92 103 = some (.aload_n 0, 1) := (xco_92 103).trans rfl
theorem xc_92_104 : p_code 92 104 = some (.bipush 14, 2) := (xco_92 104).trans rfl
theorem xc_92_106 : p_code 92 106 = some (.newarray .int, 2) := (xco_92 106).trans rfl
theorem xc_92_108 : p_code 92 108 = some (.putfield 46, 3) := (xco_92 108).trans rfl
theorem xf_92_46 : p_fld (p_own 92) 46 = some (6, 21) := by rw [xow_92]; rfl
theorem xc_92_111 : p_code 92 111 = some (.aload_n 0, 1) := (xco_92 111).trans rfl
theorem xc_92_112 : p_code 92 112 = some (.sipush 300, 3) := (xco_92 112).trans rfl
theorem xc_92_115 : p_code 92 115 = some (.newarray .int, 2) := (xco_92 115).trans rfl
theorem xc_92_117 : p_code 92 117 = some (.putfield 49, 3) := (xco_92 117).trans rfl
theorem xf_92_49 : p_fld (p_own 92) 49 = some (6, 23) := by rw [xow_92]; rfl
theorem xc_92_120 : p_code 92 120 = some (.aload_n 0, 1) := (xco_92 120).trans rfl
theorem xc_92_121 : p_code 92 121 = some (.bipush 60, 2) := (xco_92 121).trans rfl
theorem xc_92_123 : p_code 92 123 = some (.newarray .int, 2) := (xco_92 123).trans rfl
theorem xc_92_125 : p_code 92 125 = some (.putfield 52, 3) := (xco_92 125).trans rfl
theorem xf_92_52 : p_fld (p_own 92) 52 = some (6, 24) := by rw [xow_92]; rfl
theorem xc_92_128 : p_code 92 128 = some (.aload_n 0, 1) := (xco_92 128).trans rfl
theorem xc_92_129 : p_code 92 129 = some (.bipush 8, 2) := (xco_92 129).trans rfl
theorem xc_92_131 : p_code 92 131 = some (.newarray .long, 2) := (xco_92 131).trans rfl
theorem xc_92_133 : p_code 92 133 = some (.putfield 55, 3) := (xco_92 133).trans rfl
theorem xf_92_55 : p_fld (p_own 92) 55 = some (6, 26) := by rw [xow_92]; rfl
theorem xc_92_136 : p_code 92 136 = some (.aload_n 0, 1) := (xco_92 136).trans rfl
theorem xc_92_137 : p_code 92 137 = some (.bipush 8, 2) := (xco_92 137).trans rfl
theorem xc_92_139 : p_code 92 139 = some (.newarray .int, 2) := (xco_92 139).trans rfl
theorem xc_92_141 : p_code 92 141 = some (.putfield 59, 3) := (xco_92 141).trans rfl
theorem xf_92_59 : p_fld (p_own 92) 59 = some (6, 27) := by rw [xow_92]; rfl
theorem xc_92_144 : p_code 92 144 = some (.aload_n 0, 1) := (xco_92 144).trans rfl
theorem xc_92_145 : p_code 92 145 = some (.bipush 8, 2) := (xco_92 145).trans rfl
theorem xc_92_147 : p_code 92 147 = some (.newarray .int, 2) := (xco_92 147).trans rfl
theorem xc_92_149 : p_code 92 149 = some (.putfield 62, 3) := (xco_92 149).trans rfl
theorem xf_92_62 : p_fld (p_own 92) 62 = some (6, 28) := by rw [xow_92]; rfl
theorem xc_92_152 : p_code 92 152 = some (.aload_n 0, 1) := (xco_92 152).trans rfl
theorem xc_92_153 : p_code 92 153 = some (.bipush 60, 2) := (xco_92 153).trans rfl
theorem xc_92_155 : p_code 92 155 = some (.newarray .long, 2) := (xco_92 155).trans rfl
theorem xc_92_157 : p_code 92 157 = some (.putfield 65, 3) := (xco_92 157).trans rfl
theorem xf_92_65 : p_fld (p_own 92) 65 = some (6, 29) := by rw [xow_92]; rfl
theorem xc_92_160 : p_code 92 160 = some (.aload_n 0, 1) := (xco_92 160).trans rfl
theorem xc_92_161 : p_code 92 161 = some (.sipush 3000, 3) := (xco_92 161).trans rfl
theorem xc_92_164 : p_code 92 164 = some (.newarray .int, 2) := (xco_92 164).trans rfl
theorem xc_92_166 : p_code 92 166 = some (.putfield 68, 3) := (xco_92 166).trans rfl
theorem xf_92_68 : p_fld (p_own 92) 68 = some (6, 30) := by rw [xow_92]; rfl
theorem xc_92_169 : p_code 92 169 = some (.iconst 0, 1) := (xco_92 169).trans rfl
theorem xc_92_170 : p_code 92 170 = some (.istore_n 1, 1) := (xco_92 170).trans rfl
theorem xc_92_171 : p_code 92 171 = some (.iload_n 1, 1) := (xco_92 171).trans rfl
theorem xc_92_172 : p_code 92 172 = some (.bipush 8, 2) := (xco_92 172).trans rfl
theorem xc_92_174 : p_code 92 174 = some (.if_icmp .ge 18, 3) := (xco_92 174).trans rfl
theorem xj_92_174 : p_tgt 174 (18) = 192 ∧ 0 ≤ ((174 : Nat) : Int) + (18) := ⟨by decide, by decide⟩
theorem xc_92_177 : p_code 92 177 = some (.aload_n 0, 1) := (xco_92 177).trans rfl
theorem xc_92_178 : p_code 92 178 = some (.getfield 55, 3) := (xco_92 178).trans rfl
set_option maxRecDepth 100000 in
theorem xc_92_181 : p_code 92 181 = some (.iload_n 1, 1) := (xco_92 181).trans rfl
set_option maxRecDepth 100000 in
theorem xc_92_182 : p_code 92 182 = some (.ldc2_w 71, 3) := (xco_92 182).trans rfl
theorem xl_92_71 : p_lng (p_own 92) 71 = some (-1) := by rw [xow_92]; rfl
set_option maxRecDepth 100000 in
theorem xc_92_185 : p_code 92 185 = some (.lastore, 1) := (xco_92 185).trans rfl
set_option maxRecDepth 100000 in
theorem xc_92_186 : p_code 92 186 = some (.iinc 1 1, 3) := (xco_92 186).trans rfl
set_option maxRecDepth 100000 in
theorem xc_92_189 : p_code 92 189 = some (.goto (-18), 3) := (xco_92 189).trans rfl
theorem xj_92_189 : p_tgt 189 (-18) = 171 ∧ 0 ≤ ((189 : Nat) : Int) + (-18) := ⟨by decide, by decide⟩
set_option maxRecDepth 100000 in
theorem xc_92_192 : p_code 92 192 = some (.return_, 1) := (xco_92 192).trans rfl
theorem xrt_92 : p_rty 92 = none := rfl
theorem xhh_92 : p_hh 92 = [] := rfl
theorem xin_92  : p_in0 92 [.ref 22] = [some (.ref 22), none] := rfl
theorem xco_93 (pc : Nat) : p_code 93 pc = p_find pc pc_93 := rfl
theorem xow_93 : p_own 93 = 6 := rfl
theorem xc_93_0 : p_code 93 0 = some (.aload_n 0, 1) := (xco_93 0).trans rfl
theorem xc_93_1 : p_code 93 1 = some (.getfield 73, 3) := (xco_93 1).trans rfl
theorem xf_93_73 : p_fld (p_own 93) 73 = some (6, 4) := by rw [xow_93]; rfl
theorem xc_93_4 : p_code 93 4 = some (.ireturn, 1) := (xco_93 4).trans rfl
theorem xrt_93 : p_rty 93 = some .int := rfl
theorem xhh_93 : p_hh 93 = [] := rfl
theorem xin_93  : p_in0 93 [.ref 22] = [some (.ref 22)] := rfl
theorem xrc_93 {z : Nat → Int32} {a : Nat → Nat → Int32} {w : Nat → Nat → Int64} {y : Nat → Int64} {g : List pE}  : p_recv 93 [.ref 22] (hp z a w y g) = true := rfl
theorem xco_94 (pc : Nat) : p_code 94 pc = p_find pc pc_94 := rfl
theorem xow_94 : p_own 94 = 6 := rfl
theorem xc_94_0 : p_code 94 0 = some (.aload_n 0, 1) := (xco_94 0).trans rfl
theorem xc_94_1 : p_code 94 1 = some (.iconst 0, 1) := (xco_94 1).trans rfl
theorem xc_94_2 : p_code 94 2 = some (.putfield 73, 3) := (xco_94 2).trans rfl
theorem xf_94_73 : p_fld (p_own 94) 73 = some (6, 4) := by rw [xow_94]; rfl
theorem xc_94_5 : p_code 94 5 = some (.iload_n 1, 1) := (xco_94 5).trans rfl
theorem xc_94_6 : p_code 94 6 = some (.bipush 32, 2) := (xco_94 6).trans rfl
theorem xc_94_8 : p_code 94 8 = some (.if_icmp .lt 19, 3) := (xco_94 8).trans rfl
theorem xj_94_8 : p_tgt 8 (19) = 27 ∧ 0 ≤ ((8 : Nat) : Int) + (19) := ⟨by decide, by decide⟩
theorem xc_94_11 : p_code 94 11 = some (.iload_n 1, 1) := (xco_94 11).trans rfl
theorem xc_94_12 : p_code 94 12 = some (.bipush 126, 2) := (xco_94 12).trans rfl
theorem xc_94_14 : p_code 94 14 = some (.if_icmp .gt 13, 3) := (xco_94 14).trans rfl
theorem xj_94_14 : p_tgt 14 (13) = 27 ∧ 0 ≤ ((14 : Nat) : Int) + (13) := ⟨by decide, by decide⟩
theorem xc_94_17 : p_code 94 17 = some (.aload_n 0, 1) := (xco_94 17).trans rfl
theorem xc_94_18 : p_code 94 18 = some (.getfield 77, 3) := (xco_94 18).trans rfl
theorem xf_94_77 : p_fld (p_own 94) 77 = some (6, 1) := by rw [xow_94]; rfl
theorem xc_94_21 : p_code 94 21 = some (.sipush 300, 3) := (xco_94 21).trans rfl
theorem xc_94_24 : p_code 94 24 = some (.if_icmp .ne 5, 3) := (xco_94 24).trans rfl
theorem xj_94_24 : p_tgt 24 (5) = 29 ∧ 0 ≤ ((24 : Nat) : Int) + (5) := ⟨by decide, by decide⟩
theorem xc_94_27 : p_code 94 27 = some (.iconst 0, 1) := (xco_94 27).trans rfl
theorem xc_94_28 : p_code 94 28 = some (.ireturn, 1) := (xco_94 28).trans rfl
theorem xc_94_29 : p_code 94 29 = some (.aload_n 0, 1) := (xco_94 29).trans rfl
theorem xc_94_30 : p_code 94 30 = some (.getfield 7, 3) := (xco_94 30).trans rfl
theorem xf_94_7 : p_fld (p_own 94) 7 = some (6, 0) := by rw [xow_94]; rfl
theorem xc_94_33 : p_code 94 33 = some (.aload_n 0, 1) := (xco_94 33).trans rfl
theorem xc_94_34 : p_code 94 34 = some (.getfield 77, 3) := (xco_94 34).trans rfl
theorem xc_94_37 : p_code 94 37 = some (.iload_n 1, 1) := (xco_94 37).trans rfl
theorem xc_94_38 : p_code 94 38 = some (.iastore, 1) := (xco_94 38).trans rfl
theorem xc_94_39 : p_code 94 39 = some (.aload_n 0, 1) := (xco_94 39).trans rfl
theorem xc_94_40 : p_code 94 40 = some (.dup, 1) := (xco_94 40).trans rfl
theorem xc_94_41 : p_code 94 41 = some (.getfield 77, 3) := (xco_94 41).trans rfl
theorem xc_94_44 : p_code 94 44 = some (.iconst 1, 1) := (xco_94 44).trans rfl
theorem xc_94_45 : p_code 94 45 = some (.iadd, 1) := (xco_94 45).trans rfl
theorem xc_94_46 : p_code 94 46 = some (.putfield 77, 3) := (xco_94 46).trans rfl
theorem xc_94_49 : p_code 94 49 = some (.iconst 1, 1) := (xco_94 49).trans rfl
theorem xc_94_50 : p_code 94 50 = some (.ireturn, 1) := (xco_94 50).trans rfl
theorem xrt_94 : p_rty 94 = some .boolean := rfl
theorem xhh_94 : p_hh 94 = [] := rfl
theorem xin_94 {x1 : Int32} : p_in0 94 [.ref 22, .int x1] = [some (.ref 22), some (.int x1)] := rfl
theorem xrc_94 {z : Nat → Int32} {a : Nat → Nat → Int32} {w : Nat → Nat → Int64} {y : Nat → Int64} {g : List pE} {x1 : Int32} : p_recv 94 [.ref 22, .int x1] (hp z a w y g) = true := rfl
theorem xco_95 (pc : Nat) : p_code 95 pc = p_find pc pc_95 := rfl
theorem xow_95 : p_own 95 = 6 := rfl
theorem xc_95_0 : p_code 95 0 = some (.aload_n 0, 1) := (xco_95 0).trans rfl
theorem xc_95_1 : p_code 95 1 = some (.iconst 0, 1) := (xco_95 1).trans rfl
theorem xc_95_2 : p_code 95 2 = some (.putfield 73, 3) := (xco_95 2).trans rfl
theorem xf_95_73 : p_fld (p_own 95) 73 = some (6, 4) := by rw [xow_95]; rfl
theorem xc_95_5 : p_code 95 5 = some (.aload_n 0, 1) := (xco_95 5).trans rfl
theorem xc_95_6 : p_code 95 6 = some (.iconst 0, 1) := (xco_95 6).trans rfl
theorem xc_95_7 : p_code 95 7 = some (.putfield 80, 3) := (xco_95 7).trans rfl
theorem xf_95_80 : p_fld (p_own 95) 80 = some (6, 2) := by rw [xow_95]; rfl
theorem xc_95_10 : p_code 95 10 = some (.aload_n 0, 1) := (xco_95 10).trans rfl
theorem xc_95_11 : p_code 95 11 = some (.iconst (-1), 1) := (xco_95 11).trans rfl
theorem xc_95_12 : p_code 95 12 = some (.putfield 83, 3) := (xco_95 12).trans rfl
theorem xf_95_83 : p_fld (p_own 95) 83 = some (6, 3) := by rw [xow_95]; rfl
theorem xc_95_15 : p_code 95 15 = some (.aload_n 0, 1) := (xco_95 15).trans rfl
theorem xc_95_16 : p_code 95 16 = some (.iconst 0, 1) := (xco_95 16).trans rfl
theorem xc_95_17 : p_code 95 17 = some (.putfield 113, 3) := (xco_95 17).trans rfl
theorem xf_95_113 : p_fld (p_own 95) 113 = some (6, 13) := by rw [xow_95]; rfl
theorem xc_95_20 : p_code 95 20 = some (.aload_n 0, 1) := (xco_95 20).trans rfl
theorem xc_95_21 : p_code 95 21 = some (.iconst 0, 1) := (xco_95 21).trans rfl
theorem xc_95_22 : p_code 95 22 = some (.putfield 110, 3) := (xco_95 22).trans rfl
theorem xf_95_110 : p_fld (p_own 95) 110 = some (6, 14) := by rw [xow_95]; rfl
theorem xc_95_25 : p_code 95 25 = some (.aload_n 0, 1) := (xco_95 25).trans rfl
theorem xc_95_26 : p_code 95 26 = some (.iconst 0, 1) := (xco_95 26).trans rfl
theorem xc_95_27 : p_code 95 27 = some (.putfield 174, 3) := (xco_95 27).trans rfl
theorem xf_95_174 : p_fld (p_own 95) 174 = some (6, 15) := by rw [xow_95]; rfl
theorem xc_95_30 : p_code 95 30 = some (.aload_n 0, 1) := (xco_95 30).trans rfl
theorem xc_95_31 : p_code 95 31 = some (.iconst 0, 1) := (xco_95 31).trans rfl
theorem xc_95_32 : p_code 95 32 = some (.putfield 135, 3) := (xco_95 32).trans rfl
theorem xf_95_135 : p_fld (p_own 95) 135 = some (6, 17) := by rw [xow_95]; rfl
theorem xc_95_35 : p_code 95 35 = some (.aload_n 0, 1) := (xco_95 35).trans rfl
theorem xc_95_36 : p_code 95 36 = some (.iconst 0, 1) := (xco_95 36).trans rfl
theorem xc_95_37 : p_code 95 37 = some (.putfield 177, 3) := (xco_95 37).trans rfl
theorem xf_95_177 : p_fld (p_own 95) 177 = some (6, 16) := by rw [xow_95]; rfl
theorem xc_95_40 : p_code 95 40 = some (.aload_n 0, 1) := (xco_95 40).trans rfl
theorem xc_95_41 : p_code 95 41 = some (.iconst 0, 1) := (xco_95 41).trans rfl
theorem xc_95_42 : p_code 95 42 = some (.putfield 132, 3) := (xco_95 42).trans rfl
theorem xf_95_132 : p_fld (p_own 95) 132 = some (6, 22) := by rw [xow_95]; rfl
theorem xc_95_45 : p_code 95 45 = some (.aload_n 0, 1) := (xco_95 45).trans rfl
theorem xc_95_46 : p_code 95 46 = some (.iconst 0, 1) := (xco_95 46).trans rfl
theorem xc_95_47 : p_code 95 47 = some (.iconst 0, 1) := (xco_95 47).trans rfl
theorem xc_95_48 : p_code 95 48 = some (.invokevirtual 161, 3) := (xco_95 48).trans rfl
theorem xm_95_48 : p_calls 95 (.invokevirtual 161) = some (96, 3) := by dsimp only [p_calls]; rw [xow_95]; rfl
theorem xc_95_51 : p_code 95 51 = some (.iconst 1, 1) := (xco_95 51).trans rfl
theorem xc_95_52 : p_code 95 52 = some (.istore_n 1, 1) := (xco_95 52).trans rfl
theorem xc_95_53 : p_code 95 53 = some (.iconst 1, 1) := (xco_95 53).trans rfl
theorem xc_95_54 : p_code 95 54 = some (.istore_n 2, 1) := (xco_95 54).trans rfl
theorem xc_95_55 : p_code 95 55 = some (.aload_n 0, 1) := (xco_95 55).trans rfl
theorem xc_95_56 : p_code 95 56 = some (.invokevirtual 86, 3) := (xco_95 56).trans rfl
theorem xm_95_56 : p_calls 95 (.invokevirtual 86) = some (98, 1) := by dsimp only [p_calls]; rw [xow_95]; rfl
theorem xc_95_59 : p_code 95 59 = some (.ifCond .eq 65, 3) := (xco_95 59).trans rfl
theorem xj_95_59 : p_tgt 59 (65) = 124 ∧ 0 ≤ ((59 : Nat) : Int) + (65) := ⟨by decide, by decide⟩
theorem xc_95_62 : p_code 95 62 = some (.iload_n 2, 1) := (xco_95 62).trans rfl
theorem xc_95_63 : p_code 95 63 = some (.ifCond .eq 61, 3) := (xco_95 63).trans rfl
theorem xj_95_63 : p_tgt 63 (61) = 124 ∧ 0 ≤ ((63 : Nat) : Int) + (61) := ⟨by decide, by decide⟩
theorem xc_95_66 : p_code 95 66 = some (.iload_n 1, 1) := (xco_95 66).trans rfl
theorem xc_95_67 : p_code 95 67 = some (.ifCond .eq 23, 3) := (xco_95 67).trans rfl
theorem xj_95_67 : p_tgt 67 (23) = 90 ∧ 0 ≤ ((67 : Nat) : Int) + (23) := ⟨by decide, by decide⟩
theorem xc_95_70 : p_code 95 70 = some (.aload_n 0, 1) := (xco_95 70).trans rfl
theorem xc_95_71 : p_code 95 71 = some (.invokevirtual 180, 3) := (xco_95 71).trans rfl
theorem xm_95_71 : p_calls 95 (.invokevirtual 180) = some (99, 1) := by dsimp only [p_calls]; rw [xow_95]; rfl
theorem xc_95_74 : p_code 95 74 = some (.istore_n 3, 1) := (xco_95 74).trans rfl
theorem xc_95_75 : p_code 95 75 = some (.iload_n 3, 1) := (xco_95 75).trans rfl
theorem xc_95_76 : p_code 95 76 = some (.iconst (-1), 1) := (xco_95 76).trans rfl
theorem xc_95_77 : p_code 95 77 = some (.if_icmp .eq 10, 3) := (xco_95 77).trans rfl
theorem xj_95_77 : p_tgt 77 (10) = 87 ∧ 0 ≤ ((77 : Nat) : Int) + (10) := ⟨by decide, by decide⟩
theorem xc_95_80 : p_code 95 80 = some (.aload_n 0, 1) := (xco_95 80).trans rfl
theorem xc_95_81 : p_code 95 81 = some (.iload_n 3, 1) := (xco_95 81).trans rfl
theorem xc_95_82 : p_code 95 82 = some (.invokevirtual 171, 3) := (xco_95 82).trans rfl
theorem xm_95_82 : p_calls 95 (.invokevirtual 171) = some (115, 2) := by dsimp only [p_calls]; rw [xow_95]; rfl
theorem xc_95_85 : p_code 95 85 = some (.iconst 0, 1) := (xco_95 85).trans rfl
theorem xc_95_86 : p_code 95 86 = some (.istore_n 1, 1) := (xco_95 86).trans rfl
theorem xc_95_87 : p_code 95 87 = some (.goto (-32), 3) := (xco_95 87).trans rfl
theorem xj_95_87 : p_tgt 87 (-32) = 55 ∧ 0 ≤ ((87 : Nat) : Int) + (-32) := ⟨by decide, by decide⟩
theorem xc_95_90 : p_code 95 90 = some (.aload_n 0, 1) := (xco_95 90).trans rfl
theorem xc_95_91 : p_code 95 91 = some (.invokevirtual 90, 3) := (xco_95 91).trans rfl
theorem xm_95_91 : p_calls 95 (.invokevirtual 90) = some (100, 1) := by dsimp only [p_calls]; rw [xow_95]; rfl
theorem xc_95_94 : p_code 95 94 = some (.iconst (-1), 1) := (xco_95 94).trans rfl
theorem xc_95_95 : p_code 95 95 = some (.if_icmp .ne 11, 3) := (xco_95 95).trans rfl
theorem xj_95_95 : p_tgt 95 (11) = 106 ∧ 0 ≤ ((95 : Nat) : Int) + (11) := ⟨by decide, by decide⟩
theorem xc_95_98 : p_code 95 98 = some (.aload_n 0, 1) := (xco_95 98).trans rfl
theorem xc_95_99 : p_code 95 99 = some (.getfield 132, 3) := (xco_95 99).trans rfl
theorem xc_95_102 : p_code 95 102 = some (.iconst 1, 1) := (xco_95 102).trans rfl
theorem xc_95_103 : p_code 95 103 = some (.if_icmp .le 7, 3) := (xco_95 103).trans rfl
theorem xj_95_103 : p_tgt 103 (7) = 110 ∧ 0 ≤ ((103 : Nat) : Int) + (7) := ⟨by decide, by decide⟩
theorem xc_95_106 : p_code 95 106 = some (.iconst 1, 1) := (xco_95 106).trans rfl
theorem xc_95_107 : p_code 95 107 = some (.goto 4, 3) := (xco_95 107).trans rfl
theorem xj_95_107 : p_tgt 107 (4) = 111 ∧ 0 ≤ ((107 : Nat) : Int) + (4) := ⟨by decide, by decide⟩
theorem xc_95_110 : p_code 95 110 = some (.iconst 0, 1) := (xco_95 110).trans rfl
theorem xc_95_111 : p_code 95 111 = some (.istore_n 2, 1) := (xco_95 111).trans rfl
theorem xc_95_112 : p_code 95 112 = some (.iload_n 2, 1) := (xco_95 112).trans rfl
theorem xc_95_113 : p_code 95 113 = some (.ifCond .eq (-58), 3) := (xco_95 113).trans rfl
theorem xj_95_113 : p_tgt 113 (-58) = 55 ∧ 0 ≤ ((113 : Nat) : Int) + (-58) := ⟨by decide, by decide⟩
theorem xc_95_116 : p_code 95 116 = some (.aload_n 0, 1) := (xco_95 116).trans rfl
theorem xc_95_117 : p_code 95 117 = some (.invokevirtual 183, 3) := (xco_95 117).trans rfl
theorem xm_95_117 : p_calls 95 (.invokevirtual 183) = some (116, 1) := by dsimp only [p_calls]; rw [xow_95]; rfl
theorem xc_95_120 : p_code 95 120 = some (.istore_n 1, 1) := (xco_95 120).trans rfl
theorem xc_95_121 : p_code 95 121 = some (.goto (-66), 3) := (xco_95 121).trans rfl
theorem xj_95_121 : p_tgt 121 (-66) = 55 ∧ 0 ≤ ((121 : Nat) : Int) + (-66) := ⟨by decide, by decide⟩
theorem xc_95_124 : p_code 95 124 = some (.aload_n 0, 1) := (xco_95 124).trans rfl
theorem xc_95_125 : p_code 95 125 = some (.iconst 0, 1) := (xco_95 125).trans rfl
theorem xc_95_126 : p_code 95 126 = some (.putfield 77, 3) := (xco_95 126).trans rfl
theorem xf_95_77 : p_fld (p_own 95) 77 = some (6, 1) := by rw [xow_95]; rfl
theorem xc_95_129 : p_code 95 129 = some (.aload_n 0, 1) := (xco_95 129).trans rfl
theorem xc_95_130 : p_code 95 130 = some (.invokevirtual 86, 3) := (xco_95 130).trans rfl
theorem xm_95_130 : p_calls 95 (.invokevirtual 86) = some (98, 1) := by dsimp only [p_calls]; rw [xow_95]; rfl
theorem xc_95_133 : p_code 95 133 = some (.ifCond .ne 10, 3) := (xco_95 133).trans rfl
theorem xj_95_133 : p_tgt 133 (10) = 143 ∧ 0 ≤ ((133 : Nat) : Int) + (10) := ⟨by decide, by decide⟩
theorem xc_95_136 : p_code 95 136 = some (.iconst (-1), 1) := (xco_95 136).trans rfl
theorem xc_95_137 : p_code 95 137 = some (.aload_n 0, 1) := (xco_95 137).trans rfl
theorem xc_95_138 : p_code 95 138 = some (.getfield 83, 3) := (xco_95 138).trans rfl
theorem xc_95_141 : p_code 95 141 = some (.isub, 1) := (xco_95 141).trans rfl
theorem xc_95_142 : p_code 95 142 = some (.ireturn, 1) := (xco_95 142).trans rfl
theorem xc_95_143 : p_code 95 143 = some (.aload_n 0, 1) := (xco_95 143).trans rfl
theorem xc_95_144 : p_code 95 144 = some (.aload_n 0, 1) := (xco_95 144).trans rfl
theorem xc_95_145 : p_code 95 145 = some (.getfield 43, 3) := (xco_95 145).trans rfl
theorem xf_95_43 : p_fld (p_own 95) 43 = some (6, 20) := by rw [xow_95]; rfl
theorem xc_95_148 : p_code 95 148 = some (.iconst 0, 1) := (xco_95 148).trans rfl
theorem xc_95_149 : p_code 95 149 = some (.iaload, 1) := (xco_95 149).trans rfl
theorem xc_95_150 : p_code 95 150 = some (.invokevirtual 186, 3) := (xco_95 150).trans rfl
theorem xm_95_150 : p_calls 95 (.invokevirtual 186) = some (117, 2) := by dsimp only [p_calls]; rw [xow_95]; rfl
theorem xc_95_153 : p_code 95 153 = some (.aload_n 0, 1) := (xco_95 153).trans rfl
theorem xc_95_154 : p_code 95 154 = some (.aload_n 0, 1) := (xco_95 154).trans rfl
theorem xc_95_155 : p_code 95 155 = some (.getfield 135, 3) := (xco_95 155).trans rfl
theorem xc_95_158 : p_code 95 158 = some (.putfield 177, 3) := (xco_95 158).trans rfl
theorem xc_95_161 : p_code 95 161 = some (.aload_n 0, 1) := (xco_95 161).trans rfl
theorem xc_95_162 : p_code 95 162 = some (.getfield 174, 3) := (xco_95 162).trans rfl
theorem xc_95_165 : p_code 95 165 = some (.ireturn, 1) := (xco_95 165).trans rfl
theorem xrt_95 : p_rty 95 = some .int := rfl
theorem xhh_95 : p_hh 95 = [] := rfl
theorem xin_95  : p_in0 95 [.ref 22] = [some (.ref 22), none, none, none] := rfl
theorem xrc_95 {z : Nat → Int32} {a : Nat → Nat → Int32} {w : Nat → Nat → Int64} {y : Nat → Int64} {g : List pE}  : p_recv 95 [.ref 22] (hp z a w y g) = true := rfl
theorem xco_96 (pc : Nat) : p_code 96 pc = p_find pc pc_96 := rfl
theorem xow_96 : p_own 96 = 6 := rfl
theorem xc_96_0 : p_code 96 0 = some (.aload_n 0, 1) := (xco_96 0).trans rfl
theorem xc_96_1 : p_code 96 1 = some (.getfield 132, 3) := (xco_96 1).trans rfl
theorem xf_96_132 : p_fld (p_own 96) 132 = some (6, 22) := by rw [xow_96]; rfl
theorem xc_96_4 : p_code 96 4 = some (.bipush 13, 2) := (xco_96 4).trans rfl
theorem xc_96_6 : p_code 96 6 = some (.if_icmp .ne 9, 3) := (xco_96 6).trans rfl
theorem xj_96_6 : p_tgt 6 (9) = 15 ∧ 0 ≤ ((6 : Nat) : Int) + (9) := ⟨by decide, by decide⟩
theorem xc_96_9 : p_code 96 9 = some (.aload_n 0, 1) := (xco_96 9).trans rfl
theorem xc_96_10 : p_code 96 10 = some (.iload_n 2, 1) := (xco_96 10).trans rfl
theorem xc_96_11 : p_code 96 11 = some (.invokevirtual 94, 3) := (xco_96 11).trans rfl
theorem xm_96_11 : p_calls 96 (.invokevirtual 94) = some (97, 2) := by dsimp only [p_calls]; rw [xow_96]; rfl
theorem xc_96_14 : p_code 96 14 = some (.return_, 1) := (xco_96 14).trans rfl
theorem xc_96_15 : p_code 96 15 = some (.aload_n 0, 1) := (xco_96 15).trans rfl
theorem xc_96_16 : p_code 96 16 = some (.getfield 37, 3) := (xco_96 16).trans rfl
theorem xf_96_37 : p_fld (p_own 96) 37 = some (6, 18) := by rw [xow_96]; rfl
theorem xc_96_19 : p_code 96 19 = some (.aload_n 0, 1) := (xco_96 19).trans rfl
theorem xc_96_20 : p_code 96 20 = some (.getfield 132, 3) := (xco_96 20).trans rfl
theorem xc_96_23 : p_code 96 23 = some (.iload_n 1, 1) := (xco_96 23).trans rfl
theorem xc_96_24 : p_code 96 24 = some (.iastore, 1) := (xco_96 24).trans rfl
theorem xc_96_25 : p_code 96 25 = some (.aload_n 0, 1) := (xco_96 25).trans rfl
theorem xc_96_26 : p_code 96 26 = some (.getfield 40, 3) := (xco_96 26).trans rfl
theorem xf_96_40 : p_fld (p_own 96) 40 = some (6, 19) := by rw [xow_96]; rfl
theorem xc_96_29 : p_code 96 29 = some (.aload_n 0, 1) := (xco_96 29).trans rfl
theorem xc_96_30 : p_code 96 30 = some (.getfield 132, 3) := (xco_96 30).trans rfl
theorem xc_96_33 : p_code 96 33 = some (.iconst (-1), 1) := (xco_96 33).trans rfl
theorem xc_96_34 : p_code 96 34 = some (.iastore, 1) := (xco_96 34).trans rfl
theorem xc_96_35 : p_code 96 35 = some (.aload_n 0, 1) := (xco_96 35).trans rfl
theorem xc_96_36 : p_code 96 36 = some (.getfield 43, 3) := (xco_96 36).trans rfl
theorem xf_96_43 : p_fld (p_own 96) 43 = some (6, 20) := by rw [xow_96]; rfl
theorem xc_96_39 : p_code 96 39 = some (.aload_n 0, 1) := (xco_96 39).trans rfl
theorem xc_96_40 : p_code 96 40 = some (.getfield 132, 3) := (xco_96 40).trans rfl
theorem xc_96_43 : p_code 96 43 = some (.iconst (-1), 1) := (xco_96 43).trans rfl
theorem xc_96_44 : p_code 96 44 = some (.iastore, 1) := (xco_96 44).trans rfl
theorem xc_96_45 : p_code 96 45 = some (.aload_n 0, 1) := (xco_96 45).trans rfl
theorem xc_96_46 : p_code 96 46 = some (.getfield 46, 3) := (xco_96 46).trans rfl
theorem xf_96_46 : p_fld (p_own 96) 46 = some (6, 21) := by rw [xow_96]; rfl
theorem xc_96_49 : p_code 96 49 = some (.aload_n 0, 1) := (xco_96 49).trans rfl
theorem xc_96_50 : p_code 96 50 = some (.getfield 132, 3) := (xco_96 50).trans rfl
theorem xc_96_53 : p_code 96 53 = some (.iconst 0, 1) := (xco_96 53).trans rfl
theorem xc_96_54 : p_code 96 54 = some (.iastore, 1) := (xco_96 54).trans rfl
theorem xc_96_55 : p_code 96 55 = some (.aload_n 0, 1) := (xco_96 55).trans rfl
theorem xc_96_56 : p_code 96 56 = some (.dup, 1) := (xco_96 56).trans rfl
theorem xc_96_57 : p_code 96 57 = some (.getfield 132, 3) := (xco_96 57).trans rfl
theorem xc_96_60 : p_code 96 60 = some (.iconst 1, 1) := (xco_96 60).trans rfl
theorem xc_96_61 : p_code 96 61 = some (.iadd, 1) := (xco_96 61).trans rfl
theorem xc_96_62 : p_code 96 62 = some (.putfield 132, 3) := (xco_96 62).trans rfl
theorem xc_96_65 : p_code 96 65 = some (.aload_n 0, 1) := (xco_96 65).trans rfl
theorem xc_96_66 : p_code 96 66 = some (.getfield 132, 3) := (xco_96 66).trans rfl
theorem xc_96_69 : p_code 96 69 = some (.iconst 1, 1) := (xco_96 69).trans rfl
theorem xc_96_70 : p_code 96 70 = some (.isub, 1) := (xco_96 70).trans rfl
theorem xc_96_71 : p_code 96 71 = some (.aload_n 0, 1) := (xco_96 71).trans rfl
theorem xc_96_72 : p_code 96 72 = some (.getfield 135, 3) := (xco_96 72).trans rfl
theorem xf_96_135 : p_fld (p_own 96) 135 = some (6, 17) := by rw [xow_96]; rfl
theorem xc_96_75 : p_code 96 75 = some (.if_icmp .le 13, 3) := (xco_96 75).trans rfl
theorem xj_96_75 : p_tgt 75 (13) = 88 ∧ 0 ≤ ((75 : Nat) : Int) + (13) := ⟨by decide, by decide⟩
theorem xc_96_78 : p_code 96 78 = some (.aload_n 0, 1) := (xco_96 78).trans rfl
theorem xc_96_79 : p_code 96 79 = some (.aload_n 0, 1) := (xco_96 79).trans rfl
theorem xc_96_80 : p_code 96 80 = some (.getfield 132, 3) := (xco_96 80).trans rfl
theorem xc_96_83 : p_code 96 83 = some (.iconst 1, 1) := (xco_96 83).trans rfl
theorem xc_96_84 : p_code 96 84 = some (.isub, 1) := (xco_96 84).trans rfl
theorem xc_96_85 : p_code 96 85 = some (.putfield 135, 3) := (xco_96 85).trans rfl
theorem xc_96_88 : p_code 96 88 = some (.return_, 1) := (xco_96 88).trans rfl
theorem xrt_96 : p_rty 96 = none := rfl
theorem xhh_96 : p_hh 96 = [] := rfl
theorem xin_96 {x1 : Int32} {x2 : Int32} : p_in0 96 [.ref 22, .int x1, .int x2] = [some (.ref 22), some (.int x1), some (.int x2)] := rfl
theorem xrc_96 {z : Nat → Int32} {a : Nat → Nat → Int32} {w : Nat → Nat → Int64} {y : Nat → Int64} {g : List pE} {x1 : Int32} {x2 : Int32} : p_recv 96 [.ref 22, .int x1, .int x2] (hp z a w y g) = true := rfl
theorem xco_97 (pc : Nat) : p_code 97 pc = p_find pc pc_97 := rfl
theorem xow_97 : p_own 97 = 6 := rfl
theorem xc_97_0 : p_code 97 0 = some (.aload_n 0, 1) := (xco_97 0).trans rfl
theorem xc_97_1 : p_code 97 1 = some (.getfield 83, 3) := (xco_97 1).trans rfl
theorem xf_97_83 : p_fld (p_own 97) 83 = some (6, 3) := by rw [xow_97]; rfl
theorem xc_97_4 : p_code 97 4 = some (.ifCond .ge 8, 3) := (xco_97 4).trans rfl
theorem xj_97_4 : p_tgt 4 (8) = 12 ∧ 0 ≤ ((4 : Nat) : Int) + (8) := ⟨by decide, by decide⟩
theorem xc_97_7 : p_code 97 7 = some (.aload_n 0, 1) := (xco_97 7).trans rfl
theorem xc_97_8 : p_code 97 8 = some (.iload_n 1, 1) := (xco_97 8).trans rfl
theorem xc_97_9 : p_code 97 9 = some (.putfield 83, 3) := (xco_97 9).trans rfl
theorem xc_97_12 : p_code 97 12 = some (.return_, 1) := (xco_97 12).trans rfl
theorem xrt_97 : p_rty 97 = none := rfl
theorem xhh_97 : p_hh 97 = [] := rfl
theorem xin_97 {x1 : Int32} : p_in0 97 [.ref 22, .int x1] = [some (.ref 22), some (.int x1)] := rfl
theorem xrc_97 {z : Nat → Int32} {a : Nat → Nat → Int32} {w : Nat → Nat → Int64} {y : Nat → Int64} {g : List pE} {x1 : Int32} : p_recv 97 [.ref 22, .int x1] (hp z a w y g) = true := rfl
theorem xco_98 (pc : Nat) : p_code 98 pc = p_find pc pc_98 := rfl
theorem xow_98 : p_own 98 = 6 := rfl
theorem xc_98_0 : p_code 98 0 = some (.aload_n 0, 1) := (xco_98 0).trans rfl
theorem xc_98_1 : p_code 98 1 = some (.getfield 83, 3) := (xco_98 1).trans rfl
theorem xf_98_83 : p_fld (p_own 98) 83 = some (6, 3) := by rw [xow_98]; rfl
theorem xc_98_4 : p_code 98 4 = some (.ifCond .ge 7, 3) := (xco_98 4).trans rfl
theorem xj_98_4 : p_tgt 4 (7) = 11 ∧ 0 ≤ ((4 : Nat) : Int) + (7) := ⟨by decide, by decide⟩
theorem xc_98_7 : p_code 98 7 = some (.iconst 1, 1) := (xco_98 7).trans rfl
theorem xc_98_8 : p_code 98 8 = some (.goto 4, 3) := (xco_98 8).trans rfl
theorem xj_98_8 : p_tgt 8 (4) = 12 ∧ 0 ≤ ((8 : Nat) : Int) + (4) := ⟨by decide, by decide⟩
theorem xc_98_11 : p_code 98 11 = some (.iconst 0, 1) := (xco_98 11).trans rfl
theorem xc_98_12 : p_code 98 12 = some (.ireturn, 1) := (xco_98 12).trans rfl
theorem xrt_98 : p_rty 98 = some .boolean := rfl
theorem xhh_98 : p_hh 98 = [] := rfl
theorem xin_98  : p_in0 98 [.ref 22] = [some (.ref 22)] := rfl
theorem xrc_98 {z : Nat → Int32} {a : Nat → Nat → Int32} {w : Nat → Nat → Int64} {y : Nat → Int64} {g : List pE}  : p_recv 98 [.ref 22] (hp z a w y g) = true := rfl
theorem xco_99 (pc : Nat) : p_code 99 pc = p_find pc pc_99 := rfl
theorem xow_99 : p_own 99 = 6 := rfl
theorem xc_99_0 : p_code 99 0 = some (.aload_n 0, 1) := (xco_99 0).trans rfl
theorem xc_99_1 : p_code 99 1 = some (.invokevirtual 90, 3) := (xco_99 1).trans rfl
theorem xm_99_1 : p_calls 99 (.invokevirtual 90) = some (100, 1) := by dsimp only [p_calls]; rw [xow_99]; rfl
theorem xc_99_4 : p_code 99 4 = some (.istore_n 1, 1) := (xco_99 4).trans rfl
theorem xc_99_5 : p_code 99 5 = some (.aload_n 0, 1) := (xco_99 5).trans rfl
theorem xc_99_6 : p_code 99 6 = some (.getfield 80, 3) := (xco_99 6).trans rfl
theorem xf_99_80 : p_fld (p_own 99) 80 = some (6, 2) := by rw [xow_99]; rfl
theorem xc_99_9 : p_code 99 9 = some (.istore_n 2, 1) := (xco_99 9).trans rfl
theorem xc_99_10 : p_code 99 10 = some (.iload_n 1, 1) := (xco_99 10).trans rfl
theorem xc_99_11 : p_code 99 11 = some (.bipush 40, 2) := (xco_99 11).trans rfl
theorem xc_99_13 : p_code 99 13 = some (.if_icmp .ne 29, 3) := (xco_99 13).trans rfl
theorem xj_99_13 : p_tgt 13 (29) = 42 ∧ 0 ≤ ((13 : Nat) : Int) + (29) := ⟨by decide, by decide⟩
theorem xc_99_16 : p_code 99 16 = some (.aload_n 0, 1) := (xco_99 16).trans rfl
theorem xc_99_17 : p_code 99 17 = some (.bipush 8, 2) := (xco_99 17).trans rfl
theorem xc_99_19 : p_code 99 19 = some (.iload_n 2, 1) := (xco_99 19).trans rfl
theorem xc_99_20 : p_code 99 20 = some (.invokevirtual 161, 3) := (xco_99 20).trans rfl
theorem xm_99_20 : p_calls 99 (.invokevirtual 161) = some (96, 3) := by dsimp only [p_calls]; rw [xow_99]; rfl
theorem xc_99_23 : p_code 99 23 = some (.aload_n 0, 1) := (xco_99 23).trans rfl
theorem xc_99_24 : p_code 99 24 = some (.invokevirtual 86, 3) := (xco_99 24).trans rfl
theorem xm_99_24 : p_calls 99 (.invokevirtual 86) = some (98, 1) := by dsimp only [p_calls]; rw [xow_99]; rfl
theorem xc_99_27 : p_code 99 27 = some (.ifCond .eq 13, 3) := (xco_99 27).trans rfl
theorem xj_99_27 : p_tgt 27 (13) = 40 ∧ 0 ≤ ((27 : Nat) : Int) + (13) := ⟨by decide, by decide⟩
theorem xc_99_30 : p_code 99 30 = some (.aload_n 0, 1) := (xco_99 30).trans rfl
theorem xc_99_31 : p_code 99 31 = some (.dup, 1) := (xco_99 31).trans rfl
theorem xc_99_32 : p_code 99 32 = some (.getfield 80, 3) := (xco_99 32).trans rfl
theorem xc_99_35 : p_code 99 35 = some (.iconst 1, 1) := (xco_99 35).trans rfl
theorem xc_99_36 : p_code 99 36 = some (.iadd, 1) := (xco_99 36).trans rfl
theorem xc_99_37 : p_code 99 37 = some (.putfield 80, 3) := (xco_99 37).trans rfl
theorem xc_99_40 : p_code 99 40 = some (.iconst (-1), 1) := (xco_99 40).trans rfl
theorem xc_99_41 : p_code 99 41 = some (.ireturn, 1) := (xco_99 41).trans rfl
theorem xc_99_42 : p_code 99 42 = some (.iload_n 1, 1) := (xco_99 42).trans rfl
theorem xc_99_43 : p_code 99 43 = some (.invokestatic 140, 3) := (xco_99 43).trans rfl
theorem xm_99_43 : p_calls 99 (.invokestatic 140) = some (101, 1) := by dsimp only [p_calls]; rw [xow_99]; rfl
theorem xc_99_46 : p_code 99 46 = some (.ifCond .eq 8, 3) := (xco_99 46).trans rfl
theorem xj_99_46 : p_tgt 46 (8) = 54 ∧ 0 ≤ ((46 : Nat) : Int) + (8) := ⟨by decide, by decide⟩
theorem xc_99_49 : p_code 99 49 = some (.aload_n 0, 1) := (xco_99 49).trans rfl
theorem xc_99_50 : p_code 99 50 = some (.invokevirtual 165, 3) := (xco_99 50).trans rfl
theorem xm_99_50 : p_calls 99 (.invokevirtual 165) = some (102, 1) := by dsimp only [p_calls]; rw [xow_99]; rfl
theorem xc_99_53 : p_code 99 53 = some (.ireturn, 1) := (xco_99 53).trans rfl
theorem xc_99_54 : p_code 99 54 = some (.iload_n 1, 1) := (xco_99 54).trans rfl
theorem xc_99_55 : p_code 99 55 = some (.invokestatic 98, 3) := (xco_99 55).trans rfl
theorem xm_99_55 : p_calls 99 (.invokestatic 98) = some (110, 1) := by dsimp only [p_calls]; rw [xow_99]; rfl
theorem xc_99_58 : p_code 99 58 = some (.ifCond .ne 25, 3) := (xco_99 58).trans rfl
theorem xj_99_58 : p_tgt 58 (25) = 83 ∧ 0 ≤ ((58 : Nat) : Int) + (25) := ⟨by decide, by decide⟩
theorem xc_99_61 : p_code 99 61 = some (.aload_n 0, 1) := (xco_99 61).trans rfl
theorem xc_99_62 : p_code 99 62 = some (.iload_n 1, 1) := (xco_99 62).trans rfl
theorem xc_99_63 : p_code 99 63 = some (.iconst (-1), 1) := (xco_99 63).trans rfl
theorem xc_99_64 : p_code 99 64 = some (.if_icmp .ne 10, 3) := (xco_99 64).trans rfl
theorem xj_99_64 : p_tgt 64 (10) = 74 ∧ 0 ≤ ((64 : Nat) : Int) + (10) := ⟨by decide, by decide⟩
theorem xc_99_67 : p_code 99 67 = some (.aload_n 0, 1) := (xco_99 67).trans rfl
theorem xc_99_68 : p_code 99 68 = some (.getfield 77, 3) := (xco_99 68).trans rfl
theorem xf_99_77 : p_fld (p_own 99) 77 = some (6, 1) := by rw [xow_99]; rfl
theorem xc_99_71 : p_code 99 71 = some (.goto 7, 3) := (xco_99 71).trans rfl
theorem xj_99_71 : p_tgt 71 (7) = 78 ∧ 0 ≤ ((71 : Nat) : Int) + (7) := ⟨by decide, by decide⟩
theorem xc_99_74 : p_code 99 74 = some (.aload_n 0, 1) := (xco_99 74).trans rfl
theorem xc_99_75 : p_code 99 75 = some (.getfield 80, 3) := (xco_99 75).trans rfl
theorem xc_99_78 : p_code 99 78 = some (.invokevirtual 94, 3) := (xco_99 78).trans rfl
theorem xm_99_78 : p_calls 99 (.invokevirtual 94) = some (97, 2) := by dsimp only [p_calls]; rw [xow_99]; rfl
theorem xc_99_81 : p_code 99 81 = some (.iconst (-1), 1) := (xco_99 81).trans rfl
theorem xc_99_82 : p_code 99 82 = some (.ireturn, 1) := (xco_99 82).trans rfl
theorem xc_99_83 : p_code 99 83 = some (.aload_n 0, 1) := (xco_99 83).trans rfl
theorem xc_99_84 : p_code 99 84 = some (.iload_n 2, 1) := (xco_99 84).trans rfl
theorem xc_99_85 : p_code 99 85 = some (.invokevirtual 155, 3) := (xco_99 85).trans rfl
theorem xm_99_85 : p_calls 99 (.invokevirtual 155) = some (104, 2) := by dsimp only [p_calls]; rw [xow_99]; rfl
theorem xc_99_88 : p_code 99 88 = some (.ifCond .eq 10, 3) := (xco_99 88).trans rfl
theorem xj_99_88 : p_tgt 88 (10) = 98 ∧ 0 ≤ ((88 : Nat) : Int) + (10) := ⟨by decide, by decide⟩
theorem xc_99_91 : p_code 99 91 = some (.aload_n 0, 1) := (xco_99 91).trans rfl
theorem xc_99_92 : p_code 99 92 = some (.invokevirtual 168, 3) := (xco_99 92).trans rfl
theorem xm_99_92 : p_calls 99 (.invokevirtual 168) = some (113, 1) := by dsimp only [p_calls]; rw [xow_99]; rfl
theorem xc_99_95 : p_code 99 95 = some (.goto 4, 3) := (xco_99 95).trans rfl
theorem xj_99_95 : p_tgt 95 (4) = 99 ∧ 0 ≤ ((95 : Nat) : Int) + (4) := ⟨by decide, by decide⟩
theorem xc_99_98 : p_code 99 98 = some (.iconst (-1), 1) := (xco_99 98).trans rfl
theorem xc_99_99 : p_code 99 99 = some (.ireturn, 1) := (xco_99 99).trans rfl
theorem xrt_99 : p_rty 99 = some .int := rfl
theorem xhh_99 : p_hh 99 = [] := rfl
theorem xin_99  : p_in0 99 [.ref 22] = [some (.ref 22), none, none] := rfl
theorem xrc_99 {z : Nat → Int32} {a : Nat → Nat → Int32} {w : Nat → Nat → Int64} {y : Nat → Int64} {g : List pE}  : p_recv 99 [.ref 22] (hp z a w y g) = true := rfl
theorem xco_100 (pc : Nat) : p_code 100 pc = p_find pc pc_100 := rfl
theorem xow_100 : p_own 100 = 6 := rfl
theorem xc_100_0 : p_code 100 0 = some (.aload_n 0, 1) := (xco_100 0).trans rfl
theorem xc_100_1 : p_code 100 1 = some (.getfield 80, 3) := (xco_100 1).trans rfl
theorem xf_100_80 : p_fld (p_own 100) 80 = some (6, 2) := by rw [xow_100]; rfl
theorem xc_100_4 : p_code 100 4 = some (.aload_n 0, 1) := (xco_100 4).trans rfl
theorem xc_100_5 : p_code 100 5 = some (.getfield 77, 3) := (xco_100 5).trans rfl
theorem xf_100_77 : p_fld (p_own 100) 77 = some (6, 1) := by rw [xow_100]; rfl
theorem xc_100_8 : p_code 100 8 = some (.if_icmp .ge 30, 3) := (xco_100 8).trans rfl
theorem xj_100_8 : p_tgt 8 (30) = 38 ∧ 0 ≤ ((8 : Nat) : Int) + (30) := ⟨by decide, by decide⟩
theorem xc_100_11 : p_code 100 11 = some (.aload_n 0, 1) := (xco_100 11).trans rfl
theorem xc_100_12 : p_code 100 12 = some (.getfield 7, 3) := (xco_100 12).trans rfl
theorem xf_100_7 : p_fld (p_own 100) 7 = some (6, 0) := by rw [xow_100]; rfl
theorem xc_100_15 : p_code 100 15 = some (.aload_n 0, 1) := (xco_100 15).trans rfl
theorem xc_100_16 : p_code 100 16 = some (.getfield 80, 3) := (xco_100 16).trans rfl
theorem xc_100_19 : p_code 100 19 = some (.iaload, 1) := (xco_100 19).trans rfl
theorem xc_100_20 : p_code 100 20 = some (.bipush 32, 2) := (xco_100 20).trans rfl
theorem xc_100_22 : p_code 100 22 = some (.if_icmp .ne 16, 3) := (xco_100 22).trans rfl
theorem xj_100_22 : p_tgt 22 (16) = 38 ∧ 0 ≤ ((22 : Nat) : Int) + (16) := ⟨by decide, by decide⟩
theorem xc_100_25 : p_code 100 25 = some (.aload_n 0, 1) := (xco_100 25).trans rfl
theorem xc_100_26 : p_code 100 26 = some (.dup, 1) := (xco_100 26).trans rfl
theorem xc_100_27 : p_code 100 27 = some (.getfield 80, 3) := (xco_100 27).trans rfl
theorem xc_100_30 : p_code 100 30 = some (.iconst 1, 1) := (xco_100 30).trans rfl
theorem xc_100_31 : p_code 100 31 = some (.iadd, 1) := (xco_100 31).trans rfl
theorem xc_100_32 : p_code 100 32 = some (.putfield 80, 3) := (xco_100 32).trans rfl
theorem xc_100_35 : p_code 100 35 = some (.goto (-35), 3) := (xco_100 35).trans rfl
theorem xj_100_35 : p_tgt 35 (-35) = 0 ∧ 0 ≤ ((35 : Nat) : Int) + (-35) := ⟨by decide, by decide⟩
theorem xc_100_38 : p_code 100 38 = some (.aload_n 0, 1) := (xco_100 38).trans rfl
theorem xc_100_39 : p_code 100 39 = some (.getfield 80, 3) := (xco_100 39).trans rfl
theorem xc_100_42 : p_code 100 42 = some (.aload_n 0, 1) := (xco_100 42).trans rfl
theorem xc_100_43 : p_code 100 43 = some (.getfield 77, 3) := (xco_100 43).trans rfl
theorem xc_100_46 : p_code 100 46 = some (.if_icmp .ge 15, 3) := (xco_100 46).trans rfl
theorem xj_100_46 : p_tgt 46 (15) = 61 ∧ 0 ≤ ((46 : Nat) : Int) + (15) := ⟨by decide, by decide⟩
theorem xc_100_49 : p_code 100 49 = some (.aload_n 0, 1) := (xco_100 49).trans rfl
theorem xc_100_50 : p_code 100 50 = some (.getfield 7, 3) := (xco_100 50).trans rfl
theorem xc_100_53 : p_code 100 53 = some (.aload_n 0, 1) := (xco_100 53).trans rfl
theorem xc_100_54 : p_code 100 54 = some (.getfield 80, 3) := (xco_100 54).trans rfl
theorem xc_100_57 : p_code 100 57 = some (.iaload, 1) := (xco_100 57).trans rfl
theorem xc_100_58 : p_code 100 58 = some (.goto 4, 3) := (xco_100 58).trans rfl
theorem xj_100_58 : p_tgt 58 (4) = 62 ∧ 0 ≤ ((58 : Nat) : Int) + (4) := ⟨by decide, by decide⟩
theorem xc_100_61 : p_code 100 61 = some (.iconst (-1), 1) := (xco_100 61).trans rfl
theorem xc_100_62 : p_code 100 62 = some (.ireturn, 1) := (xco_100 62).trans rfl
theorem xrt_100 : p_rty 100 = some .int := rfl
theorem xhh_100 : p_hh 100 = [] := rfl
theorem xin_100  : p_in0 100 [.ref 22] = [some (.ref 22)] := rfl
theorem xrc_100 {z : Nat → Int32} {a : Nat → Nat → Int32} {w : Nat → Nat → Int64} {y : Nat → Int64} {g : List pE}  : p_recv 100 [.ref 22] (hp z a w y g) = true := rfl
theorem xco_101 (pc : Nat) : p_code 101 pc = p_find pc pc_101 := rfl
theorem xow_101 : p_own 101 = 6 := rfl
theorem xc_101_0 : p_code 101 0 = some (.iload_n 0, 1) := (xco_101 0).trans rfl
theorem xc_101_1 : p_code 101 1 = some (.bipush 97, 2) := (xco_101 1).trans rfl
theorem xc_101_3 : p_code 101 3 = some (.if_icmp .lt 13, 3) := (xco_101 3).trans rfl
theorem xj_101_3 : p_tgt 3 (13) = 16 ∧ 0 ≤ ((3 : Nat) : Int) + (13) := ⟨by decide, by decide⟩
theorem xc_101_6 : p_code 101 6 = some (.iload_n 0, 1) := (xco_101 6).trans rfl
theorem xc_101_7 : p_code 101 7 = some (.bipush 122, 2) := (xco_101 7).trans rfl
theorem xc_101_9 : p_code 101 9 = some (.if_icmp .gt 7, 3) := (xco_101 9).trans rfl
theorem xj_101_9 : p_tgt 9 (7) = 16 ∧ 0 ≤ ((9 : Nat) : Int) + (7) := ⟨by decide, by decide⟩
theorem xc_101_12 : p_code 101 12 = some (.iconst 1, 1) := (xco_101 12).trans rfl
theorem xc_101_13 : p_code 101 13 = some (.goto 4, 3) := (xco_101 13).trans rfl
theorem xj_101_13 : p_tgt 13 (4) = 17 ∧ 0 ≤ ((13 : Nat) : Int) + (4) := ⟨by decide, by decide⟩
theorem xc_101_16 : p_code 101 16 = some (.iconst 0, 1) := (xco_101 16).trans rfl
theorem xc_101_17 : p_code 101 17 = some (.ireturn, 1) := (xco_101 17).trans rfl
theorem xrt_101 : p_rty 101 = some .boolean := rfl
theorem xhh_101 : p_hh 101 = [] := rfl
theorem xin_101 {x0 : Int32} : p_in0 101 [.int x0] = [some (.int x0)] := rfl
theorem xrc_101 {z : Nat → Int32} {a : Nat → Nat → Int32} {w : Nat → Nat → Int64} {y : Nat → Int64} {g : List pE} {x0 : Int32} : p_recv 101 [.int x0] (hp z a w y g) = true := rfl
theorem xco_102 (pc : Nat) : p_code 102 pc = p_find pc pc_102 := rfl
theorem xow_102 : p_own 102 = 6 := rfl
theorem xc_102_0 : p_code 102 0 = some (.aload_n 0, 1) := (xco_102 0).trans rfl
theorem xc_102_1 : p_code 102 1 = some (.getfield 80, 3) := (xco_102 1).trans rfl
theorem xf_102_80 : p_fld (p_own 102) 80 = some (6, 2) := by rw [xow_102]; rfl
theorem xc_102_4 : p_code 102 4 = some (.istore_n 1, 1) := (xco_102 4).trans rfl
theorem xc_102_5 : p_code 102 5 = some (.aload_n 0, 1) := (xco_102 5).trans rfl
theorem xc_102_6 : p_code 102 6 = some (.getfield 80, 3) := (xco_102 6).trans rfl
theorem xc_102_9 : p_code 102 9 = some (.aload_n 0, 1) := (xco_102 9).trans rfl
theorem xc_102_10 : p_code 102 10 = some (.getfield 77, 3) := (xco_102 10).trans rfl
theorem xf_102_77 : p_fld (p_own 102) 77 = some (6, 1) := by rw [xow_102]; rfl
theorem xc_102_13 : p_code 102 13 = some (.if_icmp .ge 31, 3) := (xco_102 13).trans rfl
theorem xj_102_13 : p_tgt 13 (31) = 44 ∧ 0 ≤ ((13 : Nat) : Int) + (31) := ⟨by decide, by decide⟩
theorem xc_102_16 : p_code 102 16 = some (.aload_n 0, 1) := (xco_102 16).trans rfl
theorem xc_102_17 : p_code 102 17 = some (.getfield 7, 3) := (xco_102 17).trans rfl
theorem xf_102_7 : p_fld (p_own 102) 7 = some (6, 0) := by rw [xow_102]; rfl
theorem xc_102_20 : p_code 102 20 = some (.aload_n 0, 1) := (xco_102 20).trans rfl
theorem xc_102_21 : p_code 102 21 = some (.getfield 80, 3) := (xco_102 21).trans rfl
theorem xc_102_24 : p_code 102 24 = some (.iaload, 1) := (xco_102 24).trans rfl
theorem xc_102_25 : p_code 102 25 = some (.invokestatic 140, 3) := (xco_102 25).trans rfl
theorem xm_102_25 : p_calls 102 (.invokestatic 140) = some (101, 1) := by dsimp only [p_calls]; rw [xow_102]; rfl
theorem xc_102_28 : p_code 102 28 = some (.ifCond .eq 16, 3) := (xco_102 28).trans rfl
theorem xj_102_28 : p_tgt 28 (16) = 44 ∧ 0 ≤ ((28 : Nat) : Int) + (16) := ⟨by decide, by decide⟩
theorem xc_102_31 : p_code 102 31 = some (.aload_n 0, 1) := (xco_102 31).trans rfl
theorem xc_102_32 : p_code 102 32 = some (.dup, 1) := (xco_102 32).trans rfl
theorem xc_102_33 : p_code 102 33 = some (.getfield 80, 3) := (xco_102 33).trans rfl
theorem xc_102_36 : p_code 102 36 = some (.iconst 1, 1) := (xco_102 36).trans rfl
theorem xc_102_37 : p_code 102 37 = some (.iadd, 1) := (xco_102 37).trans rfl
theorem xc_102_38 : p_code 102 38 = some (.putfield 80, 3) := (xco_102 38).trans rfl
theorem xc_102_41 : p_code 102 41 = some (.goto (-36), 3) := (xco_102 41).trans rfl
theorem xj_102_41 : p_tgt 41 (-36) = 5 ∧ 0 ≤ ((41 : Nat) : Int) + (-36) := ⟨by decide, by decide⟩
theorem xc_102_44 : p_code 102 44 = some (.aload_n 0, 1) := (xco_102 44).trans rfl
theorem xc_102_45 : p_code 102 45 = some (.iload_n 1, 1) := (xco_102 45).trans rfl
theorem xc_102_46 : p_code 102 46 = some (.aload_n 0, 1) := (xco_102 46).trans rfl
theorem xc_102_47 : p_code 102 47 = some (.getfield 80, 3) := (xco_102 47).trans rfl
theorem xc_102_50 : p_code 102 50 = some (.ldc2_w 143, 3) := (xco_102 50).trans rfl
theorem xl_102_143 : p_lng (p_own 102) 143 = some (7170414) := by rw [xow_102]; rfl
theorem xc_102_53 : p_code 102 53 = some (.invokevirtual 145, 3) := (xco_102 53).trans rfl
theorem xm_102_53 : p_calls 102 (.invokevirtual 145) = some (103, 4) := by dsimp only [p_calls]; rw [xow_102]; rfl
theorem xc_102_56 : p_code 102 56 = some (.istore_n 2, 1) := (xco_102 56).trans rfl
theorem xc_102_57 : p_code 102 57 = some (.aload_n 0, 1) := (xco_102 57).trans rfl
theorem xc_102_58 : p_code 102 58 = some (.iload_n 1, 1) := (xco_102 58).trans rfl
theorem xc_102_59 : p_code 102 59 = some (.aload_n 0, 1) := (xco_102 59).trans rfl
theorem xc_102_60 : p_code 102 60 = some (.getfield 80, 3) := (xco_102 60).trans rfl
theorem xc_102_63 : p_code 102 63 = some (.ldc2_w 149, 3) := (xco_102 63).trans rfl
theorem xl_102_149 : p_lng (p_own 102) 149 = some (7168376) := by rw [xow_102]; rfl
theorem xc_102_66 : p_code 102 66 = some (.invokevirtual 145, 3) := (xco_102 66).trans rfl
theorem xm_102_66 : p_calls 102 (.invokevirtual 145) = some (103, 4) := by dsimp only [p_calls]; rw [xow_102]; rfl
theorem xc_102_69 : p_code 102 69 = some (.istore_n 3, 1) := (xco_102 69).trans rfl
theorem xc_102_70 : p_code 102 70 = some (.aload_n 0, 1) := (xco_102 70).trans rfl
theorem xc_102_71 : p_code 102 71 = some (.iload_n 1, 1) := (xco_102 71).trans rfl
theorem xc_102_72 : p_code 102 72 = some (.aload_n 0, 1) := (xco_102 72).trans rfl
theorem xc_102_73 : p_code 102 73 = some (.getfield 80, 3) := (xco_102 73).trans rfl
theorem xc_102_76 : p_code 102 76 = some (.ldc2_w 151, 3) := (xco_102 76).trans rfl
theorem xl_102_151 : p_lng (p_own 102) 151 = some (1718773093) := by rw [xow_102]; rfl
theorem xc_102_79 : p_code 102 79 = some (.invokevirtual 145, 3) := (xco_102 79).trans rfl
theorem xm_102_79 : p_calls 102 (.invokevirtual 145) = some (103, 4) := by dsimp only [p_calls]; rw [xow_102]; rfl
theorem xc_102_82 : p_code 102 82 = some (.istore 4, 2) := (xco_102 82).trans rfl
theorem xc_102_84 : p_code 102 84 = some (.aload_n 0, 1) := (xco_102 84).trans rfl
theorem xc_102_85 : p_code 102 85 = some (.iload_n 1, 1) := (xco_102 85).trans rfl
theorem xc_102_86 : p_code 102 86 = some (.aload_n 0, 1) := (xco_102 86).trans rfl
theorem xc_102_87 : p_code 102 87 = some (.getfield 80, 3) := (xco_102 87).trans rfl
theorem xc_102_90 : p_code 102 90 = some (.ldc2_w 153, 3) := (xco_102 90).trans rfl
theorem xl_102_153 : p_lng (p_own 102) 153 = some (1937007984) := by rw [xow_102]; rfl
theorem xc_102_93 : p_code 102 93 = some (.invokevirtual 145, 3) := (xco_102 93).trans rfl
theorem xm_102_93 : p_calls 102 (.invokevirtual 145) = some (103, 4) := by dsimp only [p_calls]; rw [xow_102]; rfl
theorem xc_102_96 : p_code 102 96 = some (.istore 5, 2) := (xco_102 96).trans rfl
theorem xc_102_98 : p_code 102 98 = some (.iload_n 2, 1) := (xco_102 98).trans rfl
theorem xc_102_99 : p_code 102 99 = some (.ifCond .ne 24, 3) := (xco_102 99).trans rfl
theorem xj_102_99 : p_tgt 99 (24) = 123 ∧ 0 ≤ ((99 : Nat) : Int) + (24) := ⟨by decide, by decide⟩
theorem xc_102_102 : p_code 102 102 = some (.iload_n 3, 1) := (xco_102 102).trans rfl
theorem xc_102_103 : p_code 102 103 = some (.ifCond .ne 20, 3) := (xco_102 103).trans rfl
theorem xj_102_103 : p_tgt 103 (20) = 123 ∧ 0 ≤ ((103 : Nat) : Int) + (20) := ⟨by decide, by decide⟩
theorem xc_102_106 : p_code 102 106 = some (.iload 4, 2) := (xco_102 106).trans rfl
theorem xc_102_108 : p_code 102 108 = some (.ifCond .ne 15, 3) := (xco_102 108).trans rfl
theorem xj_102_108 : p_tgt 108 (15) = 123 ∧ 0 ≤ ((108 : Nat) : Int) + (15) := ⟨by decide, by decide⟩
theorem xc_102_111 : p_code 102 111 = some (.iload 5, 2) := (xco_102 111).trans rfl
theorem xc_102_113 : p_code 102 113 = some (.ifCond .ne 10, 3) := (xco_102 113).trans rfl
theorem xj_102_113 : p_tgt 113 (10) = 123 ∧ 0 ≤ ((113 : Nat) : Int) + (10) := ⟨by decide, by decide⟩
theorem xc_102_116 : p_code 102 116 = some (.aload_n 0, 1) := (xco_102 116).trans rfl
theorem xc_102_117 : p_code 102 117 = some (.iload_n 1, 1) := (xco_102 117).trans rfl
theorem xc_102_118 : p_code 102 118 = some (.invokevirtual 94, 3) := (xco_102 118).trans rfl
theorem xm_102_118 : p_calls 102 (.invokevirtual 94) = some (97, 2) := by dsimp only [p_calls]; rw [xow_102]; rfl
theorem xc_102_121 : p_code 102 121 = some (.iconst (-1), 1) := (xco_102 121).trans rfl
theorem xc_102_122 : p_code 102 122 = some (.ireturn, 1) := (xco_102 122).trans rfl
theorem xc_102_123 : p_code 102 123 = some (.aload_n 0, 1) := (xco_102 123).trans rfl
theorem xc_102_124 : p_code 102 124 = some (.iload_n 1, 1) := (xco_102 124).trans rfl
theorem xc_102_125 : p_code 102 125 = some (.invokevirtual 155, 3) := (xco_102 125).trans rfl
theorem xm_102_125 : p_calls 102 (.invokevirtual 155) = some (104, 2) := by dsimp only [p_calls]; rw [xow_102]; rfl
theorem xc_102_128 : p_code 102 128 = some (.ifCond .ne 5, 3) := (xco_102 128).trans rfl
theorem xj_102_128 : p_tgt 128 (5) = 133 ∧ 0 ≤ ((128 : Nat) : Int) + (5) := ⟨by decide, by decide⟩
theorem xc_102_131 : p_code 102 131 = some (.iconst (-1), 1) := (xco_102 131).trans rfl
theorem xc_102_132 : p_code 102 132 = some (.ireturn, 1) := (xco_102 132).trans rfl
theorem xc_102_133 : p_code 102 133 = some (.iload 4, 2) := (xco_102 133).trans rfl
theorem xc_102_135 : p_code 102 135 = some (.ifCond .eq 13, 3) := (xco_102 135).trans rfl
theorem xj_102_135 : p_tgt 135 (13) = 148 ∧ 0 ≤ ((135 : Nat) : Int) + (13) := ⟨by decide, by decide⟩
theorem xc_102_138 : p_code 102 138 = some (.aload_n 0, 1) := (xco_102 138).trans rfl
theorem xc_102_139 : p_code 102 139 = some (.iconst 0, 1) := (xco_102 139).trans rfl
theorem xc_102_140 : p_code 102 140 = some (.iconst 0, 1) := (xco_102 140).trans rfl
theorem xc_102_141 : p_code 102 141 = some (.iconst (-1), 1) := (xco_102 141).trans rfl
theorem xc_102_142 : p_code 102 142 = some (.iconst (-1), 1) := (xco_102 142).trans rfl
theorem xc_102_143 : p_code 102 143 = some (.iconst (-1), 1) := (xco_102 143).trans rfl
theorem xc_102_144 : p_code 102 144 = some (.invokevirtual 119, 3) := (xco_102 144).trans rfl
theorem xm_102_144 : p_calls 102 (.invokevirtual 119) = some (105, 6) := by dsimp only [p_calls]; rw [xow_102]; rfl
theorem xc_102_147 : p_code 102 147 = some (.ireturn, 1) := (xco_102 147).trans rfl
theorem xc_102_148 : p_code 102 148 = some (.iload 5, 2) := (xco_102 148).trans rfl
theorem xc_102_150 : p_code 102 150 = some (.ifCond .eq 8, 3) := (xco_102 150).trans rfl
theorem xj_102_150 : p_tgt 150 (8) = 158 ∧ 0 ≤ ((150 : Nat) : Int) + (8) := ⟨by decide, by decide⟩
theorem xc_102_153 : p_code 102 153 = some (.aload_n 0, 1) := (xco_102 153).trans rfl
theorem xc_102_154 : p_code 102 154 = some (.invokevirtual 158, 3) := (xco_102 154).trans rfl
theorem xm_102_154 : p_calls 102 (.invokevirtual 158) = some (106, 1) := by dsimp only [p_calls]; rw [xow_102]; rfl
theorem xc_102_157 : p_code 102 157 = some (.ireturn, 1) := (xco_102 157).trans rfl
theorem xc_102_158 : p_code 102 158 = some (.aload_n 0, 1) := (xco_102 158).trans rfl
theorem xc_102_159 : p_code 102 159 = some (.iload_n 2, 1) := (xco_102 159).trans rfl
theorem xc_102_160 : p_code 102 160 = some (.ifCond .eq 7, 3) := (xco_102 160).trans rfl
theorem xj_102_160 : p_tgt 160 (7) = 167 ∧ 0 ≤ ((160 : Nat) : Int) + (7) := ⟨by decide, by decide⟩
theorem xc_102_163 : p_code 102 163 = some (.iconst 5, 1) := (xco_102 163).trans rfl
theorem xc_102_164 : p_code 102 164 = some (.goto 5, 3) := (xco_102 164).trans rfl
theorem xj_102_164 : p_tgt 164 (5) = 169 ∧ 0 ≤ ((164 : Nat) : Int) + (5) := ⟨by decide, by decide⟩
theorem xc_102_167 : p_code 102 167 = some (.bipush 6, 2) := (xco_102 167).trans rfl
theorem xc_102_169 : p_code 102 169 = some (.iload_n 1, 1) := (xco_102 169).trans rfl
theorem xc_102_170 : p_code 102 170 = some (.invokevirtual 161, 3) := (xco_102 170).trans rfl
theorem xm_102_170 : p_calls 102 (.invokevirtual 161) = some (96, 3) := by dsimp only [p_calls]; rw [xow_102]; rfl
theorem xc_102_173 : p_code 102 173 = some (.aload_n 0, 1) := (xco_102 173).trans rfl
theorem xc_102_174 : p_code 102 174 = some (.bipush 40, 2) := (xco_102 174).trans rfl
theorem xc_102_176 : p_code 102 176 = some (.invokevirtual 123, 3) := (xco_102 176).trans rfl
theorem xm_102_176 : p_calls 102 (.invokevirtual 123) = some (107, 2) := by dsimp only [p_calls]; rw [xow_102]; rfl
theorem xc_102_179 : p_code 102 179 = some (.iconst (-1), 1) := (xco_102 179).trans rfl
theorem xc_102_180 : p_code 102 180 = some (.ireturn, 1) := (xco_102 180).trans rfl
theorem xrt_102 : p_rty 102 = some .int := rfl
theorem xhh_102 : p_hh 102 = [] := rfl
theorem xin_102  : p_in0 102 [.ref 22] = [some (.ref 22), none, none, none, none, none] := rfl
theorem xrc_102 {z : Nat → Int32} {a : Nat → Nat → Int32} {w : Nat → Nat → Int64} {y : Nat → Int64} {g : List pE}  : p_recv 102 [.ref 22] (hp z a w y g) = true := rfl
