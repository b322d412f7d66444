theorem xco_103 (pc : Nat) : p_code 103 pc = p_find pc pc_103 := rfl
theorem xow_103 : p_own 103 = 6 := rfl
theorem xc_103_0 : p_code 103 0 = some (.iconst 0, 1) := (xco_103 0).trans rfl
theorem xc_103_1 : p_code 103 1 = some (.istore 5, 2) := (xco_103 1).trans rfl
theorem xc_103_3 : p_code 103 3 = some (.iload 5, 2) := (xco_103 3).trans rfl
theorem xc_103_5 : p_code 103 5 = some (.bipush 8, 2) := (xco_103 5).trans rfl
theorem xc_103_7 : p_code 103 7 = some (.if_icmp .ge 21, 3) := (xco_103 7).trans rfl
theorem xj_103_7 : p_tgt 7 (21) = 28 ∧ 0 ≤ ((7 : Nat) : Int) + (21) := ⟨by decide, by decide⟩
theorem xc_103_10 : p_code 103 10 = some (.lload_n 3, 1) := (xco_103 10).trans rfl
theorem xc_103_11 : p_code 103 11 = some (.bipush 8, 2) := (xco_103 11).trans rfl
theorem xc_103_13 : p_code 103 13 = some (.iload 5, 2) := (xco_103 13).trans rfl
theorem xc_103_15 : p_code 103 15 = some (.imul, 1) := (xco_103 15).trans rfl
theorem xc_103_16 : p_code 103 16 = some (.lushr, 1) := (xco_103 16).trans rfl
theorem xc_103_17 : p_code 103 17 = some (.lconst 0, 1) := (xco_103 17).trans rfl
theorem xc_103_18 : p_code 103 18 = some (.lcmp, 1) := (xco_103 18).trans rfl
theorem xc_103_19 : p_code 103 19 = some (.ifCond .eq 9, 3) := (xco_103 19).trans rfl
theorem xj_103_19 : p_tgt 19 (9) = 28 ∧ 0 ≤ ((19 : Nat) : Int) + (9) := ⟨by decide, by decide⟩
theorem xc_103_22 : p_code 103 22 = some (.iinc 5 1, 3) := (xco_103 22).trans rfl
theorem xc_103_25 : p_code 103 25 = some (.goto (-22), 3) := (xco_103 25).trans rfl
theorem xj_103_25 : p_tgt 25 (-22) = 3 ∧ 0 ≤ ((25 : Nat) : Int) + (-22) := ⟨by decide, by decide⟩
theorem xc_103_28 : p_code 103 28 = some (.iload_n 2, 1) := (xco_103 28).trans rfl
theorem xc_103_29 : p_code 103 29 = some (.iload_n 1, 1) := (xco_103 29).trans rfl
theorem xc_103_30 : p_code 103 30 = some (.isub, 1) := (xco_103 30).trans rfl
theorem xc_103_31 : p_code 103 31 = some (.iload 5, 2) := (xco_103 31).trans rfl
theorem xc_103_33 : p_code 103 33 = some (.if_icmp .eq 5, 3) := (xco_103 33).trans rfl
theorem xj_103_33 : p_tgt 33 (5) = 38 ∧ 0 ≤ ((33 : Nat) : Int) + (5) := ⟨by decide, by decide⟩
theorem xc_103_36 : p_code 103 36 = some (.iconst 0, 1) := (xco_103 36).trans rfl
theorem xc_103_37 : p_code 103 37 = some (.ireturn, 1) := (xco_103 37).trans rfl
theorem xc_103_38 : p_code 103 38 = some (.iconst 0, 1) := (xco_103 38).trans rfl
theorem xc_103_39 : p_code 103 39 = some (.istore 6, 2) := (xco_103 39).trans rfl
theorem xc_103_41 : p_code 103 41 = some (.iload 6, 2) := (xco_103 41).trans rfl
theorem xc_103_43 : p_code 103 43 = some (.iload 5, 2) := (xco_103 43).trans rfl
theorem xc_103_45 : p_code 103 45 = some (.if_icmp .ge 40, 3) := (xco_103 45).trans rfl
theorem xj_103_45 : p_tgt 45 (40) = 85 ∧ 0 ≤ ((45 : Nat) : Int) + (40) := ⟨by decide, by decide⟩
theorem xc_103_48 : p_code 103 48 = some (.aload_n 0, 1) := (xco_103 48).trans rfl
theorem xc_103_49 : p_code 103 49 = some (.getfield 7, 3) := (xco_103 49).trans rfl
theorem xf_103_7 : p_fld (p_own 103) 7 = some (6, 0) := by rw [xow_103]; rfl
theorem xc_103_52 : p_code 103 52 = some (.iload_n 1, 1) := (xco_103 52).trans rfl
theorem xc_103_53 : p_code 103 53 = some (.iload 6, 2) := (xco_103 53).trans rfl
theorem xc_103_55 : p_code 103 55 = some (.iadd, 1) := (xco_103 55).trans rfl
theorem xc_103_56 : p_code 103 56 = some (.iaload, 1) := (xco_103 56).trans rfl
theorem xc_103_57 : p_code 103 57 = some (.lload_n 3, 1) := (xco_103 57).trans rfl
theorem xc_103_58 : p_code 103 58 = some (.bipush 8, 2) := (xco_103 58).trans rfl
theorem xc_103_60 : p_code 103 60 = some (.iload 5, 2) := (xco_103 60).trans rfl
theorem xc_103_62 : p_code 103 62 = some (.iconst 1, 1) := (xco_103 62).trans rfl
theorem xc_103_63 : p_code 103 63 = some (.isub, 1) := (xco_103 63).trans rfl
theorem xc_103_64 : p_code 103 64 = some (.iload 6, 2) := (xco_103 64).trans rfl
theorem xc_103_66 : p_code 103 66 = some (.isub, 1) := (xco_103 66).trans rfl
theorem xc_103_67 : p_code 103 67 = some (.imul, 1) := (xco_103 67).trans rfl
theorem xc_103_68 : p_code 103 68 = some (.lushr, 1) := (xco_103 68).trans rfl
theorem xc_103_69 : p_code 103 69 = some (.ldc2_w 138, 3) := (xco_103 69).trans rfl
theorem xl_103_138 : p_lng (p_own 103) 138 = some (255) := by rw [xow_103]; rfl
theorem xc_103_72 : p_code 103 72 = some (.land, 1) := (xco_103 72).trans rfl
theorem xc_103_73 : p_code 103 73 = some (.l2i, 1) := (xco_103 73).trans rfl
theorem xc_103_74 : p_code 103 74 = some (.if_icmp .eq 5, 3) := (xco_103 74).trans rfl
theorem xj_103_74 : p_tgt 74 (5) = 79 ∧ 0 ≤ ((74 : Nat) : Int) + (5) := ⟨by decide, by decide⟩
theorem xc_103_77 : p_code 103 77 = some (.iconst 0, 1) := (xco_103 77).trans rfl
theorem xc_103_78 : p_code 103 78 = some (.ireturn, 1) := (xco_103 78).trans rfl
theorem xc_103_79 : p_code 103 79 = some (.iinc 6 1, 3) := (xco_103 79).trans rfl
theorem xc_103_82 : p_code 103 82 = some (.goto (-41), 3) := (xco_103 82).trans rfl
theorem xj_103_82 : p_tgt 82 (-41) = 41 ∧ 0 ≤ ((82 : Nat) : Int) + (-41) := ⟨by decide, by decide⟩
theorem xc_103_85 : p_code 103 85 = some (.iconst 1, 1) := (xco_103 85).trans rfl
theorem xc_103_86 : p_code 103 86 = some (.ireturn, 1) := (xco_103 86).trans rfl
theorem xrt_103 : p_rty 103 = some .boolean := rfl
theorem xhh_103 : p_hh 103 = [] := rfl
theorem xin_103 {x1 : Int32} {x2 : Int32} {x3 : Int64} : p_in0 103 [.ref 22, .int x1, .int x2, .long x3] = [some (.ref 22), some (.int x1), some (.int x2), some (.long x3), none, none, none] := rfl
theorem xrc_103 {z : Nat → Int32} {a : Nat → Nat → Int32} {w : Nat → Nat → Int64} {y : Nat → Int64} {g : List pE} {x1 : Int32} {x2 : Int32} {x3 : Int64} : p_recv 103 [.ref 22, .int x1, .int x2, .long x3] (hp z a w y g) = true := rfl
theorem xco_104 (pc : Nat) : p_code 104 pc = p_find pc pc_104 := rfl
theorem xow_104 : p_own 104 = 6 := rfl
theorem xc_104_0 : p_code 104 0 = some (.aload_n 0, 1) := (xco_104 0).trans rfl
theorem xc_104_1 : p_code 104 1 = some (.getfield 110, 3) := (xco_104 1).trans rfl
theorem xf_104_110 : p_fld (p_own 104) 110 = some (6, 14) := by rw [xow_104]; rfl
theorem xc_104_4 : p_code 104 4 = some (.bipush 60, 2) := (xco_104 4).trans rfl
theorem xc_104_6 : p_code 104 6 = some (.if_icmp .ne 10, 3) := (xco_104 6).trans rfl
theorem xj_104_6 : p_tgt 6 (10) = 16 ∧ 0 ≤ ((6 : Nat) : Int) + (10) := ⟨by decide, by decide⟩
theorem xc_104_9 : p_code 104 9 = some (.aload_n 0, 1) := (xco_104 9).trans rfl
theorem xc_104_10 : p_code 104 10 = some (.iload_n 1, 1) := (xco_104 10).trans rfl
theorem xc_104_11 : p_code 104 11 = some (.invokevirtual 94, 3) := (xco_104 11).trans rfl
theorem xm_104_11 : p_calls 104 (.invokevirtual 94) = some (97, 2) := by dsimp only [p_calls]; rw [xow_104]; rfl
theorem xc_104_14 : p_code 104 14 = some (.iconst 0, 1) := (xco_104 14).trans rfl
theorem xc_104_15 : p_code 104 15 = some (.ireturn, 1) := (xco_104 15).trans rfl
theorem xc_104_16 : p_code 104 16 = some (.aload_n 0, 1) := (xco_104 16).trans rfl
theorem xc_104_17 : p_code 104 17 = some (.dup, 1) := (xco_104 17).trans rfl
theorem xc_104_18 : p_code 104 18 = some (.getfield 110, 3) := (xco_104 18).trans rfl
theorem xc_104_21 : p_code 104 21 = some (.iconst 1, 1) := (xco_104 21).trans rfl
theorem xc_104_22 : p_code 104 22 = some (.iadd, 1) := (xco_104 22).trans rfl
theorem xc_104_23 : p_code 104 23 = some (.putfield 110, 3) := (xco_104 23).trans rfl
theorem xc_104_26 : p_code 104 26 = some (.iconst 1, 1) := (xco_104 26).trans rfl
theorem xc_104_27 : p_code 104 27 = some (.ireturn, 1) := (xco_104 27).trans rfl
theorem xrt_104 : p_rty 104 = some .boolean := rfl
theorem xhh_104 : p_hh 104 = [] := rfl
theorem xin_104 {x1 : Int32} : p_in0 104 [.ref 22, .int x1] = [some (.ref 22), some (.int x1)] := rfl
theorem xrc_104 {z : Nat → Int32} {a : Nat → Nat → Int32} {w : Nat → Nat → Int64} {y : Nat → Int64} {g : List pE} {x1 : Int32} : p_recv 104 [.ref 22, .int x1] (hp z a w y g) = true := rfl
theorem xco_105 (pc : Nat) : p_code 105 pc = p_find pc pc_105 := rfl
theorem xow_105 : p_own 105 = 6 := rfl
theorem xc_105_0 : p_code 105 0 = some (.aload_n 0, 1) := (xco_105 0).trans rfl
theorem xc_105_1 : p_code 105 1 = some (.getfield 113, 3) := (xco_105 1).trans rfl
theorem xf_105_113 : p_fld (p_own 105) 113 = some (6, 13) := by rw [xow_105]; rfl
theorem xc_105_4 : p_code 105 4 = some (.istore 6, 2) := (xco_105 4).trans rfl
theorem xc_105_6 : p_code 105 6 = some (.aload_n 0, 1) := (xco_105 6).trans rfl
theorem xc_105_7 : p_code 105 7 = some (.dup, 1) := (xco_105 7).trans rfl
theorem xc_105_8 : p_code 105 8 = some (.getfield 113, 3) := (xco_105 8).trans rfl
theorem xc_105_11 : p_code 105 11 = some (.iconst 1, 1) := (xco_105 11).trans rfl
theorem xc_105_12 : p_code 105 12 = some (.iadd, 1) := (xco_105 12).trans rfl
theorem xc_105_13 : p_code 105 13 = some (.putfield 113, 3) := (xco_105 13).trans rfl
theorem xc_105_16 : p_code 105 16 = some (.aload_n 0, 1) := (xco_105 16).trans rfl
theorem xc_105_17 : p_code 105 17 = some (.getfield 13, 3) := (xco_105 17).trans rfl
theorem xf_105_13 : p_fld (p_own 105) 13 = some (6, 5) := by rw [xow_105]; rfl
theorem xc_105_20 : p_code 105 20 = some (.iload 6, 2) := (xco_105 20).trans rfl
theorem xc_105_22 : p_code 105 22 = some (.iload_n 1, 1) := (xco_105 22).trans rfl
theorem xc_105_23 : p_code 105 23 = some (.iastore, 1) := (xco_105 23).trans rfl
theorem xc_105_24 : p_code 105 24 = some (.aload_n 0, 1) := (xco_105 24).trans rfl
theorem xc_105_25 : p_code 105 25 = some (.getfield 16, 3) := (xco_105 25).trans rfl
theorem xf_105_16 : p_fld (p_own 105) 16 = some (6, 6) := by rw [xow_105]; rfl
theorem xc_105_28 : p_code 105 28 = some (.iload 6, 2) := (xco_105 28).trans rfl
theorem xc_105_30 : p_code 105 30 = some (.iload_n 2, 1) := (xco_105 30).trans rfl
theorem xc_105_31 : p_code 105 31 = some (.iastore, 1) := (xco_105 31).trans rfl
theorem xc_105_32 : p_code 105 32 = some (.aload_n 0, 1) := (xco_105 32).trans rfl
theorem xc_105_33 : p_code 105 33 = some (.getfield 19, 3) := (xco_105 33).trans rfl
theorem xf_105_19 : p_fld (p_own 105) 19 = some (6, 7) := by rw [xow_105]; rfl
theorem xc_105_36 : p_code 105 36 = some (.iload 6, 2) := (xco_105 36).trans rfl
theorem xc_105_38 : p_code 105 38 = some (.iload_n 3, 1) := (xco_105 38).trans rfl
theorem xc_105_39 : p_code 105 39 = some (.iastore, 1) := (xco_105 39).trans rfl
theorem xc_105_40 : p_code 105 40 = some (.aload_n 0, 1) := (xco_105 40).trans rfl
theorem xc_105_41 : p_code 105 41 = some (.getfield 22, 3) := (xco_105 41).trans rfl
theorem xf_105_22 : p_fld (p_own 105) 22 = some (6, 8) := by rw [xow_105]; rfl
theorem xc_105_44 : p_code 105 44 = some (.iload 6, 2) := (xco_105 44).trans rfl
theorem xc_105_46 : p_code 105 46 = some (.iload 4, 2) := (xco_105 46).trans rfl
theorem xc_105_48 : p_code 105 48 = some (.iastore, 1) := (xco_105 48).trans rfl
theorem xc_105_49 : p_code 105 49 = some (.aload_n 0, 1) := (xco_105 49).trans rfl
theorem xc_105_50 : p_code 105 50 = some (.getfield 25, 3) := (xco_105 50).trans rfl
theorem xf_105_25 : p_fld (p_own 105) 25 = some (6, 9) := by rw [xow_105]; rfl
theorem xc_105_53 : p_code 105 53 = some (.iload 6, 2) := (xco_105 53).trans rfl
theorem xc_105_55 : p_code 105 55 = some (.iload 5, 2) := (xco_105 55).trans rfl
theorem xc_105_57 : p_code 105 57 = some (.iastore, 1) := (xco_105 57).trans rfl
theorem xc_105_58 : p_code 105 58 = some (.aload_n 0, 1) := (xco_105 58).trans rfl
theorem xc_105_59 : p_code 105 59 = some (.getfield 28, 3) := (xco_105 59).trans rfl
theorem xf_105_28 : p_fld (p_own 105) 28 = some (6, 10) := by rw [xow_105]; rfl
theorem xc_105_62 : p_code 105 62 = some (.iload 6, 2) := (xco_105 62).trans rfl
theorem xc_105_64 : p_code 105 64 = some (.iconst 0, 1) := (xco_105 64).trans rfl
theorem xc_105_65 : p_code 105 65 = some (.iastore, 1) := (xco_105 65).trans rfl
theorem xc_105_66 : p_code 105 66 = some (.iload 6, 2) := (xco_105 66).trans rfl
theorem xc_105_68 : p_code 105 68 = some (.ireturn, 1) := (xco_105 68).trans rfl
theorem xrt_105 : p_rty 105 = some .int := rfl
theorem xhh_105 : p_hh 105 = [] := rfl
theorem xin_105 {x1 : Int32} {x2 : Int32} {x3 : Int32} {x4 : Int32} {x5 : Int32} : p_in0 105 [.ref 22, .int x1, .int x2, .int x3, .int x4, .int x5] = [some (.ref 22), some (.int x1), some (.int x2), some (.int x3), some (.int x4), some (.int x5), none] := rfl
theorem xrc_105 {z : Nat → Int32} {a : Nat → Nat → Int32} {w : Nat → Nat → Int64} {y : Nat → Int64} {g : List pE} {x1 : Int32} {x2 : Int32} {x3 : Int32} {x4 : Int32} {x5 : Int32} : p_recv 105 [.ref 22, .int x1, .int x2, .int x3, .int x4, .int x5] (hp z a w y g) = true := rfl
theorem xco_106 (pc : Nat) : p_code 106 pc = p_find pc pc_106 := rfl
theorem xow_106 : p_own 106 = 6 := rfl
theorem xc_106_0 : p_code 106 0 = some (.aload_n 0, 1) := (xco_106 0).trans rfl
theorem xc_106_1 : p_code 106 1 = some (.bipush 40, 2) := (xco_106 1).trans rfl
theorem xc_106_3 : p_code 106 3 = some (.invokevirtual 123, 3) := (xco_106 3).trans rfl
theorem xm_106_3 : p_calls 106 (.invokevirtual 123) = some (107, 2) := by dsimp only [p_calls]; rw [xow_106]; rfl
theorem xc_106_6 : p_code 106 6 = some (.aload_n 0, 1) := (xco_106 6).trans rfl
theorem xc_106_7 : p_code 106 7 = some (.invokevirtual 126, 3) := (xco_106 7).trans rfl
theorem xm_106_7 : p_calls 106 (.invokevirtual 126) = some (108, 1) := by dsimp only [p_calls]; rw [xow_106]; rfl
theorem xc_106_10 : p_code 106 10 = some (.istore_n 1, 1) := (xco_106 10).trans rfl
theorem xc_106_11 : p_code 106 11 = some (.aload_n 0, 1) := (xco_106 11).trans rfl
theorem xc_106_12 : p_code 106 12 = some (.bipush 58, 2) := (xco_106 12).trans rfl
theorem xc_106_14 : p_code 106 14 = some (.invokevirtual 123, 3) := (xco_106 14).trans rfl
theorem xm_106_14 : p_calls 106 (.invokevirtual 123) = some (107, 2) := by dsimp only [p_calls]; rw [xow_106]; rfl
theorem xc_106_17 : p_code 106 17 = some (.aload_n 0, 1) := (xco_106 17).trans rfl
theorem xc_106_18 : p_code 106 18 = some (.invokevirtual 86, 3) := (xco_106 18).trans rfl
theorem xm_106_18 : p_calls 106 (.invokevirtual 86) = some (98, 1) := by dsimp only [p_calls]; rw [xow_106]; rfl
theorem xc_106_21 : p_code 106 21 = some (.ifCond .ne 5, 3) := (xco_106 21).trans rfl
theorem xj_106_21 : p_tgt 21 (5) = 26 ∧ 0 ≤ ((21 : Nat) : Int) + (5) := ⟨by decide, by decide⟩
theorem xc_106_24 : p_code 106 24 = some (.iconst (-1), 1) := (xco_106 24).trans rfl
theorem xc_106_25 : p_code 106 25 = some (.ireturn, 1) := (xco_106 25).trans rfl
theorem xc_106_26 : p_code 106 26 = some (.aload_n 0, 1) := (xco_106 26).trans rfl
theorem xc_106_27 : p_code 106 27 = some (.bipush 7, 2) := (xco_106 27).trans rfl
theorem xc_106_29 : p_code 106 29 = some (.iload_n 1, 1) := (xco_106 29).trans rfl
theorem xc_106_30 : p_code 106 30 = some (.iconst (-1), 1) := (xco_106 30).trans rfl
theorem xc_106_31 : p_code 106 31 = some (.iconst (-1), 1) := (xco_106 31).trans rfl
theorem xc_106_32 : p_code 106 32 = some (.iconst (-1), 1) := (xco_106 32).trans rfl
theorem xc_106_33 : p_code 106 33 = some (.invokevirtual 119, 3) := (xco_106 33).trans rfl
theorem xm_106_33 : p_calls 106 (.invokevirtual 119) = some (105, 6) := by dsimp only [p_calls]; rw [xow_106]; rfl
theorem xc_106_36 : p_code 106 36 = some (.istore_n 2, 1) := (xco_106 36).trans rfl
theorem xc_106_37 : p_code 106 37 = some (.aload_n 0, 1) := (xco_106 37).trans rfl
theorem xc_106_38 : p_code 106 38 = some (.iload_n 2, 1) := (xco_106 38).trans rfl
theorem xc_106_39 : p_code 106 39 = some (.invokevirtual 129, 3) := (xco_106 39).trans rfl
theorem xm_106_39 : p_calls 106 (.invokevirtual 129) = some (112, 2) := by dsimp only [p_calls]; rw [xow_106]; rfl
theorem xc_106_42 : p_code 106 42 = some (.aload_n 0, 1) := (xco_106 42).trans rfl
theorem xc_106_43 : p_code 106 43 = some (.invokevirtual 86, 3) := (xco_106 43).trans rfl
theorem xm_106_43 : p_calls 106 (.invokevirtual 86) = some (98, 1) := by dsimp only [p_calls]; rw [xow_106]; rfl
theorem xc_106_46 : p_code 106 46 = some (.ifCond .eq 30, 3) := (xco_106 46).trans rfl
theorem xj_106_46 : p_tgt 46 (30) = 76 ∧ 0 ≤ ((46 : Nat) : Int) + (30) := ⟨by decide, by decide⟩
theorem xc_106_49 : p_code 106 49 = some (.aload_n 0, 1) := (xco_106 49).trans rfl
theorem xc_106_50 : p_code 106 50 = some (.invokevirtual 90, 3) := (xco_106 50).trans rfl
theorem xm_106_50 : p_calls 106 (.invokevirtual 90) = some (100, 1) := by dsimp only [p_calls]; rw [xow_106]; rfl
theorem xc_106_53 : p_code 106 53 = some (.bipush 44, 2) := (xco_106 53).trans rfl
theorem xc_106_55 : p_code 106 55 = some (.if_icmp .ne 21, 3) := (xco_106 55).trans rfl
theorem xj_106_55 : p_tgt 55 (21) = 76 ∧ 0 ≤ ((55 : Nat) : Int) + (21) := ⟨by decide, by decide⟩
theorem xc_106_58 : p_code 106 58 = some (.aload_n 0, 1) := (xco_106 58).trans rfl
theorem xc_106_59 : p_code 106 59 = some (.dup, 1) := (xco_106 59).trans rfl
theorem xc_106_60 : p_code 106 60 = some (.getfield 80, 3) := (xco_106 60).trans rfl
theorem xf_106_80 : p_fld (p_own 106) 80 = some (6, 2) := by rw [xow_106]; rfl
theorem xc_106_63 : p_code 106 63 = some (.iconst 1, 1) := (xco_106 63).trans rfl
theorem xc_106_64 : p_code 106 64 = some (.iadd, 1) := (xco_106 64).trans rfl
theorem xc_106_65 : p_code 106 65 = some (.putfield 80, 3) := (xco_106 65).trans rfl
theorem xc_106_68 : p_code 106 68 = some (.aload_n 0, 1) := (xco_106 68).trans rfl
theorem xc_106_69 : p_code 106 69 = some (.iload_n 2, 1) := (xco_106 69).trans rfl
theorem xc_106_70 : p_code 106 70 = some (.invokevirtual 129, 3) := (xco_106 70).trans rfl
theorem xm_106_70 : p_calls 106 (.invokevirtual 129) = some (112, 2) := by dsimp only [p_calls]; rw [xow_106]; rfl
theorem xc_106_73 : p_code 106 73 = some (.goto (-31), 3) := (xco_106 73).trans rfl
theorem xj_106_73 : p_tgt 73 (-31) = 42 ∧ 0 ≤ ((73 : Nat) : Int) + (-31) := ⟨by decide, by decide⟩
theorem xc_106_76 : p_code 106 76 = some (.aload_n 0, 1) := (xco_106 76).trans rfl
theorem xc_106_77 : p_code 106 77 = some (.bipush 41, 2) := (xco_106 77).trans rfl
theorem xc_106_79 : p_code 106 79 = some (.invokevirtual 123, 3) := (xco_106 79).trans rfl
theorem xm_106_79 : p_calls 106 (.invokevirtual 123) = some (107, 2) := by dsimp only [p_calls]; rw [xow_106]; rfl
theorem xc_106_82 : p_code 106 82 = some (.iload_n 2, 1) := (xco_106 82).trans rfl
theorem xc_106_83 : p_code 106 83 = some (.ireturn, 1) := (xco_106 83).trans rfl
theorem xrt_106 : p_rty 106 = some .int := rfl
theorem xhh_106 : p_hh 106 = [] := rfl
theorem xin_106  : p_in0 106 [.ref 22] = [some (.ref 22), none, none] := rfl
theorem xrc_106 {z : Nat → Int32} {a : Nat → Nat → Int32} {w : Nat → Nat → Int64} {y : Nat → Int64} {g : List pE}  : p_recv 106 [.ref 22] (hp z a w y g) = true := rfl
theorem xco_107 (pc : Nat) : p_code 107 pc = p_find pc pc_107 := rfl
theorem xow_107 : p_own 107 = 6 := rfl
theorem xc_107_0 : p_code 107 0 = some (.aload_n 0, 1) := (xco_107 0).trans rfl
theorem xc_107_1 : p_code 107 1 = some (.invokevirtual 86, 3) := (xco_107 1).trans rfl
theorem xm_107_1 : p_calls 107 (.invokevirtual 86) = some (98, 1) := by dsimp only [p_calls]; rw [xow_107]; rfl
theorem xc_107_4 : p_code 107 4 = some (.ifCond .ne 4, 3) := (xco_107 4).trans rfl
theorem xj_107_4 : p_tgt 4 (4) = 8 ∧ 0 ≤ ((4 : Nat) : Int) + (4) := ⟨by decide, by decide⟩
theorem xc_107_7 : p_code 107 7 = some (.return_, 1) := (xco_107 7).trans rfl
theorem xc_107_8 : p_code 107 8 = some (.aload_n 0, 1) := (xco_107 8).trans rfl
theorem xc_107_9 : p_code 107 9 = some (.invokevirtual 90, 3) := (xco_107 9).trans rfl
theorem xm_107_9 : p_calls 107 (.invokevirtual 90) = some (100, 1) := by dsimp only [p_calls]; rw [xow_107]; rfl
theorem xc_107_12 : p_code 107 12 = some (.iload_n 1, 1) := (xco_107 12).trans rfl
theorem xc_107_13 : p_code 107 13 = some (.if_icmp .ne 16, 3) := (xco_107 13).trans rfl
theorem xj_107_13 : p_tgt 13 (16) = 29 ∧ 0 ≤ ((13 : Nat) : Int) + (16) := ⟨by decide, by decide⟩
theorem xc_107_16 : p_code 107 16 = some (.aload_n 0, 1) := (xco_107 16).trans rfl
theorem xc_107_17 : p_code 107 17 = some (.dup, 1) := (xco_107 17).trans rfl
theorem xc_107_18 : p_code 107 18 = some (.getfield 80, 3) := (xco_107 18).trans rfl
theorem xf_107_80 : p_fld (p_own 107) 80 = some (6, 2) := by rw [xow_107]; rfl
theorem xc_107_21 : p_code 107 21 = some (.iconst 1, 1) := (xco_107 21).trans rfl
theorem xc_107_22 : p_code 107 22 = some (.iadd, 1) := (xco_107 22).trans rfl
theorem xc_107_23 : p_code 107 23 = some (.putfield 80, 3) := (xco_107 23).trans rfl
theorem xc_107_26 : p_code 107 26 = some (.goto 11, 3) := (xco_107 26).trans rfl
theorem xj_107_26 : p_tgt 26 (11) = 37 ∧ 0 ≤ ((26 : Nat) : Int) + (11) := ⟨by decide, by decide⟩
theorem xc_107_29 : p_code 107 29 = some (.aload_n 0, 1) := (xco_107 29).trans rfl
theorem xc_107_30 : p_code 107 30 = some (.aload_n 0, 1) := (xco_107 30).trans rfl
theorem xc_107_31 : p_code 107 31 = some (.getfield 80, 3) := (xco_107 31).trans rfl
theorem xc_107_34 : p_code 107 34 = some (.invokevirtual 94, 3) := (xco_107 34).trans rfl
theorem xm_107_34 : p_calls 107 (.invokevirtual 94) = some (97, 2) := by dsimp only [p_calls]; rw [xow_107]; rfl
theorem xc_107_37 : p_code 107 37 = some (.return_, 1) := (xco_107 37).trans rfl
theorem xrt_107 : p_rty 107 = none := rfl
theorem xhh_107 : p_hh 107 = [] := rfl
theorem xin_107 {x1 : Int32} : p_in0 107 [.ref 22, .int x1] = [some (.ref 22), some (.int x1)] := rfl
theorem xrc_107 {z : Nat → Int32} {a : Nat → Nat → Int32} {w : Nat → Nat → Int64} {y : Nat → Int64} {g : List pE} {x1 : Int32} : p_recv 107 [.ref 22, .int x1] (hp z a w y g) = true := rfl
theorem xco_108 (pc : Nat) : p_code 108 pc = p_find pc pc_108 := rfl
theorem xow_108 : p_own 108 = 6 := rfl
theorem xc_108_0 : p_code 108 0 = some (.aload_n 0, 1) := (xco_108 0).trans rfl
theorem xc_108_1 : p_code 108 1 = some (.invokevirtual 86, 3) := (xco_108 1).trans rfl
theorem xm_108_1 : p_calls 108 (.invokevirtual 86) = some (98, 1) := by dsimp only [p_calls]; rw [xow_108]; rfl
theorem xc_108_4 : p_code 108 4 = some (.ifCond .ne 5, 3) := (xco_108 4).trans rfl
theorem xj_108_4 : p_tgt 4 (5) = 9 ∧ 0 ≤ ((4 : Nat) : Int) + (5) := ⟨by decide, by decide⟩
theorem xc_108_7 : p_code 108 7 = some (.iconst 0, 1) := (xco_108 7).trans rfl
theorem xc_108_8 : p_code 108 8 = some (.ireturn, 1) := (xco_108 8).trans rfl
theorem xc_108_9 : p_code 108 9 = some (.aload_n 0, 1) := (xco_108 9).trans rfl
theorem xc_108_10 : p_code 108 10 = some (.invokevirtual 90, 3) := (xco_108 10).trans rfl
theorem xm_108_10 : p_calls 108 (.invokevirtual 90) = some (100, 1) := by dsimp only [p_calls]; rw [xow_108]; rfl
theorem xc_108_13 : p_code 108 13 = some (.iconst (-1), 1) := (xco_108 13).trans rfl
theorem xc_108_14 : p_code 108 14 = some (.if_icmp .ne 10, 3) := (xco_108 14).trans rfl
theorem xj_108_14 : p_tgt 14 (10) = 24 ∧ 0 ≤ ((14 : Nat) : Int) + (10) := ⟨by decide, by decide⟩
theorem xc_108_17 : p_code 108 17 = some (.aload_n 0, 1) := (xco_108 17).trans rfl
theorem xc_108_18 : p_code 108 18 = some (.getfield 77, 3) := (xco_108 18).trans rfl
theorem xf_108_77 : p_fld (p_own 108) 77 = some (6, 1) := by rw [xow_108]; rfl
theorem xc_108_21 : p_code 108 21 = some (.goto 7, 3) := (xco_108 21).trans rfl
theorem xj_108_21 : p_tgt 21 (7) = 28 ∧ 0 ≤ ((21 : Nat) : Int) + (7) := ⟨by decide, by decide⟩
theorem xc_108_24 : p_code 108 24 = some (.aload_n 0, 1) := (xco_108 24).trans rfl
theorem xc_108_25 : p_code 108 25 = some (.getfield 80, 3) := (xco_108 25).trans rfl
theorem xf_108_80 : p_fld (p_own 108) 80 = some (6, 2) := by rw [xow_108]; rfl
theorem xc_108_28 : p_code 108 28 = some (.istore_n 1, 1) := (xco_108 28).trans rfl
theorem xc_108_29 : p_code 108 29 = some (.aload_n 0, 1) := (xco_108 29).trans rfl
theorem xc_108_30 : p_code 108 30 = some (.iload_n 1, 1) := (xco_108 30).trans rfl
theorem xc_108_31 : p_code 108 31 = some (.invokevirtual 102, 3) := (xco_108 31).trans rfl
theorem xm_108_31 : p_calls 108 (.invokevirtual 102) = some (109, 2) := by dsimp only [p_calls]; rw [xow_108]; rfl
theorem xc_108_34 : p_code 108 34 = some (.istore_n 2, 1) := (xco_108 34).trans rfl
theorem xc_108_35 : p_code 108 35 = some (.iload_n 2, 1) := (xco_108 35).trans rfl
theorem xc_108_36 : p_code 108 36 = some (.iconst 1, 1) := (xco_108 36).trans rfl
theorem xc_108_37 : p_code 108 37 = some (.if_icmp .lt 9, 3) := (xco_108 37).trans rfl
theorem xj_108_37 : p_tgt 37 (9) = 46 ∧ 0 ≤ ((37 : Nat) : Int) + (9) := ⟨by decide, by decide⟩
theorem xc_108_40 : p_code 108 40 = some (.iload_n 2, 1) := (xco_108 40).trans rfl
theorem xc_108_41 : p_code 108 41 = some (.bipush 6, 2) := (xco_108 41).trans rfl
theorem xc_108_43 : p_code 108 43 = some (.if_icmp .le 10, 3) := (xco_108 43).trans rfl
theorem xj_108_43 : p_tgt 43 (10) = 53 ∧ 0 ≤ ((43 : Nat) : Int) + (10) := ⟨by decide, by decide⟩
theorem xc_108_46 : p_code 108 46 = some (.aload_n 0, 1) := (xco_108 46).trans rfl
theorem xc_108_47 : p_code 108 47 = some (.iload_n 1, 1) := (xco_108 47).trans rfl
theorem xc_108_48 : p_code 108 48 = some (.invokevirtual 94, 3) := (xco_108 48).trans rfl
theorem xm_108_48 : p_calls 108 (.invokevirtual 94) = some (97, 2) := by dsimp only [p_calls]; rw [xow_108]; rfl
theorem xc_108_51 : p_code 108 51 = some (.iconst 0, 1) := (xco_108 51).trans rfl
theorem xc_108_52 : p_code 108 52 = some (.ireturn, 1) := (xco_108 52).trans rfl
theorem xc_108_53 : p_code 108 53 = some (.aload_n 0, 1) := (xco_108 53).trans rfl
theorem xc_108_54 : p_code 108 54 = some (.iload_n 1, 1) := (xco_108 54).trans rfl
theorem xc_108_55 : p_code 108 55 = some (.iload_n 2, 1) := (xco_108 55).trans rfl
theorem xc_108_56 : p_code 108 56 = some (.iadd, 1) := (xco_108 56).trans rfl
theorem xc_108_57 : p_code 108 57 = some (.putfield 80, 3) := (xco_108 57).trans rfl
theorem xc_108_60 : p_code 108 60 = some (.aload_n 0, 1) := (xco_108 60).trans rfl
theorem xc_108_61 : p_code 108 61 = some (.iload_n 1, 1) := (xco_108 61).trans rfl
theorem xc_108_62 : p_code 108 62 = some (.iload_n 2, 1) := (xco_108 62).trans rfl
theorem xc_108_63 : p_code 108 63 = some (.invokevirtual 106, 3) := (xco_108 63).trans rfl
theorem xm_108_63 : p_calls 108 (.invokevirtual 106) = some (111, 3) := by dsimp only [p_calls]; rw [xow_108]; rfl
theorem xc_108_66 : p_code 108 66 = some (.ireturn, 1) := (xco_108 66).trans rfl
theorem xrt_108 : p_rty 108 = some .int := rfl
theorem xhh_108 : p_hh 108 = [] := rfl
theorem xin_108  : p_in0 108 [.ref 22] = [some (.ref 22), none, none] := rfl
theorem xrc_108 {z : Nat → Int32} {a : Nat → Nat → Int32} {w : Nat → Nat → Int64} {y : Nat → Int64} {g : List pE}  : p_recv 108 [.ref 22] (hp z a w y g) = true := rfl
theorem xco_109 (pc : Nat) : p_code 109 pc = p_find pc pc_109 := rfl
theorem xow_109 : p_own 109 = 6 := rfl
theorem xc_109_0 : p_code 109 0 = some (.iconst 0, 1) := (xco_109 0).trans rfl
theorem xc_109_1 : p_code 109 1 = some (.istore_n 2, 1) := (xco_109 1).trans rfl
theorem xc_109_2 : p_code 109 2 = some (.iload_n 1, 1) := (xco_109 2).trans rfl
theorem xc_109_3 : p_code 109 3 = some (.iload_n 2, 1) := (xco_109 3).trans rfl
theorem xc_109_4 : p_code 109 4 = some (.iadd, 1) := (xco_109 4).trans rfl
theorem xc_109_5 : p_code 109 5 = some (.aload_n 0, 1) := (xco_109 5).trans rfl
theorem xc_109_6 : p_code 109 6 = some (.getfield 77, 3) := (xco_109 6).trans rfl
theorem xf_109_77 : p_fld (p_own 109) 77 = some (6, 1) := by rw [xow_109]; rfl
theorem xc_109_9 : p_code 109 9 = some (.if_icmp .ge 23, 3) := (xco_109 9).trans rfl
theorem xj_109_9 : p_tgt 9 (23) = 32 ∧ 0 ≤ ((9 : Nat) : Int) + (23) := ⟨by decide, by decide⟩
theorem xc_109_12 : p_code 109 12 = some (.aload_n 0, 1) := (xco_109 12).trans rfl
theorem xc_109_13 : p_code 109 13 = some (.getfield 7, 3) := (xco_109 13).trans rfl
theorem xf_109_7 : p_fld (p_own 109) 7 = some (6, 0) := by rw [xow_109]; rfl
theorem xc_109_16 : p_code 109 16 = some (.iload_n 1, 1) := (xco_109 16).trans rfl
theorem xc_109_17 : p_code 109 17 = some (.iload_n 2, 1) := (xco_109 17).trans rfl
theorem xc_109_18 : p_code 109 18 = some (.iadd, 1) := (xco_109 18).trans rfl
theorem xc_109_19 : p_code 109 19 = some (.iaload, 1) := (xco_109 19).trans rfl
theorem xc_109_20 : p_code 109 20 = some (.invokestatic 98, 3) := (xco_109 20).trans rfl
theorem xm_109_20 : p_calls 109 (.invokestatic 98) = some (110, 1) := by dsimp only [p_calls]; rw [xow_109]; rfl
theorem xc_109_23 : p_code 109 23 = some (.ifCond .eq 9, 3) := (xco_109 23).trans rfl
theorem xj_109_23 : p_tgt 23 (9) = 32 ∧ 0 ≤ ((23 : Nat) : Int) + (9) := ⟨by decide, by decide⟩
theorem xc_109_26 : p_code 109 26 = some (.iinc 2 1, 3) := (xco_109 26).trans rfl
theorem xc_109_29 : p_code 109 29 = some (.goto (-27), 3) := (xco_109 29).trans rfl
theorem xj_109_29 : p_tgt 29 (-27) = 2 ∧ 0 ≤ ((29 : Nat) : Int) + (-27) := ⟨by decide, by decide⟩
theorem xc_109_32 : p_code 109 32 = some (.iload_n 2, 1) := (xco_109 32).trans rfl
theorem xc_109_33 : p_code 109 33 = some (.ireturn, 1) := (xco_109 33).trans rfl
theorem xrt_109 : p_rty 109 = some .int := rfl
theorem xhh_109 : p_hh 109 = [] := rfl
theorem xin_109 {x1 : Int32} : p_in0 109 [.ref 22, .int x1] = [some (.ref 22), some (.int x1), none] := rfl
theorem xrc_109 {z : Nat → Int32} {a : Nat → Nat → Int32} {w : Nat → Nat → Int64} {y : Nat → Int64} {g : List pE} {x1 : Int32} : p_recv 109 [.ref 22, .int x1] (hp z a w y g) = true := rfl
theorem xco_110 (pc : Nat) : p_code 110 pc = p_find pc pc_110 := rfl
theorem xow_110 : p_own 110 = 6 := rfl
theorem xc_110_0 : p_code 110 0 = some (.iload_n 0, 1) := (xco_110 0).trans rfl
theorem xc_110_1 : p_code 110 1 = some (.bipush 48, 2) := (xco_110 1).trans rfl
theorem xc_110_3 : p_code 110 3 = some (.if_icmp .lt 13, 3) := (xco_110 3).trans rfl
theorem xj_110_3 : p_tgt 3 (13) = 16 ∧ 0 ≤ ((3 : Nat) : Int) + (13) := ⟨by decide, by decide⟩
theorem xc_110_6 : p_code 110 6 = some (.iload_n 0, 1) := (xco_110 6).trans rfl
theorem xc_110_7 : p_code 110 7 = some (.bipush 57, 2) := (xco_110 7).trans rfl
theorem xc_110_9 : p_code 110 9 = some (.if_icmp .gt 7, 3) := (xco_110 9).trans rfl
theorem xj_110_9 : p_tgt 9 (7) = 16 ∧ 0 ≤ ((9 : Nat) : Int) + (7) := ⟨by decide, by decide⟩
theorem xc_110_12 : p_code 110 12 = some (.iconst 1, 1) := (xco_110 12).trans rfl
theorem xc_110_13 : p_code 110 13 = some (.goto 4, 3) := (xco_110 13).trans rfl
theorem xj_110_13 : p_tgt 13 (4) = 17 ∧ 0 ≤ ((13 : Nat) : Int) + (4) := ⟨by decide, by decide⟩
theorem xc_110_16 : p_code 110 16 = some (.iconst 0, 1) := (xco_110 16).trans rfl
theorem xc_110_17 : p_code 110 17 = some (.ireturn, 1) := (xco_110 17).trans rfl
theorem xrt_110 : p_rty 110 = some .boolean := rfl
theorem xhh_110 : p_hh 110 = [] := rfl
theorem xin_110 {x0 : Int32} : p_in0 110 [.int x0] = [some (.int x0)] := rfl
theorem xrc_110 {z : Nat → Int32} {a : Nat → Nat → Int32} {w : Nat → Nat → Int64} {y : Nat → Int64} {g : List pE} {x0 : Int32} : p_recv 110 [.int x0] (hp z a w y g) = true := rfl
theorem xco_111 (pc : Nat) : p_code 111 pc = p_find pc pc_111 := rfl
theorem xow_111 : p_own 111 = 6 := rfl
theorem xc_111_0 : p_code 111 0 = some (.iconst 0, 1) := (xco_111 0).trans rfl
theorem xc_111_1 : p_code 111 1 = some (.istore_n 3, 1) := (xco_111 1).trans rfl
theorem xc_111_2 : p_code 111 2 = some (.iconst 0, 1) := (xco_111 2).trans rfl
theorem xc_111_3 : p_code 111 3 = some (.istore 4, 2) := (xco_111 3).trans rfl
theorem xc_111_5 : p_code 111 5 = some (.iload 4, 2) := (xco_111 5).trans rfl
theorem xc_111_7 : p_code 111 7 = some (.iload_n 2, 1) := (xco_111 7).trans rfl
theorem xc_111_8 : p_code 111 8 = some (.if_icmp .ge 27, 3) := (xco_111 8).trans rfl
theorem xj_111_8 : p_tgt 8 (27) = 35 ∧ 0 ≤ ((8 : Nat) : Int) + (27) := ⟨by decide, by decide⟩
theorem xc_111_11 : p_code 111 11 = some (.bipush 10, 2) := (xco_111 11).trans rfl
theorem xc_111_13 : p_code 111 13 = some (.iload_n 3, 1) := (xco_111 13).trans rfl
theorem xc_111_14 : p_code 111 14 = some (.imul, 1) := (xco_111 14).trans rfl
theorem xc_111_15 : p_code 111 15 = some (.aload_n 0, 1) := (xco_111 15).trans rfl
theorem xc_111_16 : p_code 111 16 = some (.getfield 7, 3) := (xco_111 16).trans rfl
theorem xf_111_7 : p_fld (p_own 111) 7 = some (6, 0) := by rw [xow_111]; rfl
theorem xc_111_19 : p_code 111 19 = some (.iload_n 1, 1) := (xco_111 19).trans rfl
theorem xc_111_20 : p_code 111 20 = some (.iload 4, 2) := (xco_111 20).trans rfl
theorem xc_111_22 : p_code 111 22 = some (.iadd, 1) := (xco_111 22).trans rfl
theorem xc_111_23 : p_code 111 23 = some (.iaload, 1) := (xco_111 23).trans rfl
theorem xc_111_24 : p_code 111 24 = some (.iadd, 1) := (xco_111 24).trans rfl
theorem xc_111_25 : p_code 111 25 = some (.bipush 48, 2) := (xco_111 25).trans rfl
theorem xc_111_27 : p_code 111 27 = some (.isub, 1) := (xco_111 27).trans rfl
theorem xc_111_28 : p_code 111 28 = some (.istore_n 3, 1) := (xco_111 28).trans rfl
theorem xc_111_29 : p_code 111 29 = some (.iinc 4 1, 3) := (xco_111 29).trans rfl
theorem xc_111_32 : p_code 111 32 = some (.goto (-27), 3) := (xco_111 32).trans rfl
theorem xj_111_32 : p_tgt 32 (-27) = 5 ∧ 0 ≤ ((32 : Nat) : Int) + (-27) := ⟨by decide, by decide⟩
theorem xc_111_35 : p_code 111 35 = some (.iload_n 3, 1) := (xco_111 35).trans rfl
theorem xc_111_36 : p_code 111 36 = some (.ireturn, 1) := (xco_111 36).trans rfl
theorem xrt_111 : p_rty 111 = some .int := rfl
theorem xhh_111 : p_hh 111 = [] := rfl
theorem xin_111 {x1 : Int32} {x2 : Int32} : p_in0 111 [.ref 22, .int x1, .int x2] = [some (.ref 22), some (.int x1), some (.int x2), none, none] := rfl
theorem xrc_111 {z : Nat → Int32} {a : Nat → Nat → Int32} {w : Nat → Nat → Int64} {y : Nat → Int64} {g : List pE} {x1 : Int32} {x2 : Int32} : p_recv 111 [.ref 22, .int x1, .int x2] (hp z a w y g) = true := rfl
theorem xco_112 (pc : Nat) : p_code 112 pc = p_find pc pc_112 := rfl
theorem xow_112 : p_own 112 = 6 := rfl
theorem xc_112_0 : p_code 112 0 = some (.aload_n 0, 1) := (xco_112 0).trans rfl
theorem xc_112_1 : p_code 112 1 = some (.invokevirtual 90, 3) := (xco_112 1).trans rfl
theorem xm_112_1 : p_calls 112 (.invokevirtual 90) = some (100, 1) := by dsimp only [p_calls]; rw [xow_112]; rfl
theorem xc_112_4 : p_code 112 4 = some (.iconst (-1), 1) := (xco_112 4).trans rfl
theorem xc_112_5 : p_code 112 5 = some (.if_icmp .ne 10, 3) := (xco_112 5).trans rfl
theorem xj_112_5 : p_tgt 5 (10) = 15 ∧ 0 ≤ ((5 : Nat) : Int) + (10) := ⟨by decide, by decide⟩
theorem xc_112_8 : p_code 112 8 = some (.aload_n 0, 1) := (xco_112 8).trans rfl
theorem xc_112_9 : p_code 112 9 = some (.getfield 77, 3) := (xco_112 9).trans rfl
theorem xf_112_77 : p_fld (p_own 112) 77 = some (6, 1) := by rw [xow_112]; rfl
theorem xc_112_12 : p_code 112 12 = some (.goto 7, 3) := (xco_112 12).trans rfl
theorem xj_112_12 : p_tgt 12 (7) = 19 ∧ 0 ≤ ((12 : Nat) : Int) + (7) := ⟨by decide, by decide⟩
theorem xc_112_15 : p_code 112 15 = some (.aload_n 0, 1) := (xco_112 15).trans rfl
theorem xc_112_16 : p_code 112 16 = some (.getfield 80, 3) := (xco_112 16).trans rfl
theorem xf_112_80 : p_fld (p_own 112) 80 = some (6, 2) := by rw [xow_112]; rfl
theorem xc_112_19 : p_code 112 19 = some (.istore_n 2, 1) := (xco_112 19).trans rfl
theorem xc_112_20 : p_code 112 20 = some (.aload_n 0, 1) := (xco_112 20).trans rfl
theorem xc_112_21 : p_code 112 21 = some (.invokevirtual 126, 3) := (xco_112 21).trans rfl
theorem xm_112_21 : p_calls 112 (.invokevirtual 126) = some (108, 1) := by dsimp only [p_calls]; rw [xow_112]; rfl
theorem xc_112_24 : p_code 112 24 = some (.istore_n 3, 1) := (xco_112 24).trans rfl
theorem xc_112_25 : p_code 112 25 = some (.aload_n 0, 1) := (xco_112 25).trans rfl
theorem xc_112_26 : p_code 112 26 = some (.bipush 61, 2) := (xco_112 26).trans rfl
theorem xc_112_28 : p_code 112 28 = some (.invokevirtual 123, 3) := (xco_112 28).trans rfl
theorem xm_112_28 : p_calls 112 (.invokevirtual 123) = some (107, 2) := by dsimp only [p_calls]; rw [xow_112]; rfl
theorem xc_112_31 : p_code 112 31 = some (.aload_n 0, 1) := (xco_112 31).trans rfl
theorem xc_112_32 : p_code 112 32 = some (.invokevirtual 126, 3) := (xco_112 32).trans rfl
theorem xm_112_32 : p_calls 112 (.invokevirtual 126) = some (108, 1) := by dsimp only [p_calls]; rw [xow_112]; rfl
theorem xc_112_35 : p_code 112 35 = some (.istore 4, 2) := (xco_112 35).trans rfl
theorem xc_112_37 : p_code 112 37 = some (.aload_n 0, 1) := (xco_112 37).trans rfl
theorem xc_112_38 : p_code 112 38 = some (.invokevirtual 86, 3) := (xco_112 38).trans rfl
theorem xm_112_38 : p_calls 112 (.invokevirtual 86) = some (98, 1) := by dsimp only [p_calls]; rw [xow_112]; rfl
theorem xc_112_41 : p_code 112 41 = some (.ifCond .ne 4, 3) := (xco_112 41).trans rfl
theorem xj_112_41 : p_tgt 41 (4) = 45 ∧ 0 ≤ ((41 : Nat) : Int) + (4) := ⟨by decide, by decide⟩
theorem xc_112_44 : p_code 112 44 = some (.return_, 1) := (xco_112 44).trans rfl
theorem xc_112_45 : p_code 112 45 = some (.aload_n 0, 1) := (xco_112 45).trans rfl
theorem xc_112_46 : p_code 112 46 = some (.getfield 28, 3) := (xco_112 46).trans rfl
theorem xf_112_28 : p_fld (p_own 112) 28 = some (6, 10) := by rw [xow_112]; rfl
theorem xc_112_49 : p_code 112 49 = some (.iload_n 1, 1) := (xco_112 49).trans rfl
theorem xc_112_50 : p_code 112 50 = some (.iaload, 1) := (xco_112 50).trans rfl
theorem xc_112_51 : p_code 112 51 = some (.ifCond .le 25, 3) := (xco_112 51).trans rfl
theorem xj_112_51 : p_tgt 51 (25) = 76 ∧ 0 ≤ ((51 : Nat) : Int) + (25) := ⟨by decide, by decide⟩
theorem xc_112_54 : p_code 112 54 = some (.iload_n 3, 1) := (xco_112 54).trans rfl
theorem xc_112_55 : p_code 112 55 = some (.aload_n 0, 1) := (xco_112 55).trans rfl
theorem xc_112_56 : p_code 112 56 = some (.getfield 31, 3) := (xco_112 56).trans rfl
theorem xf_112_31 : p_fld (p_own 112) 31 = some (6, 11) := by rw [xow_112]; rfl
theorem xc_112_59 : p_code 112 59 = some (.bipush 6, 2) := (xco_112 59).trans rfl
theorem xc_112_61 : p_code 112 61 = some (.iload_n 1, 1) := (xco_112 61).trans rfl
theorem xc_112_62 : p_code 112 62 = some (.imul, 1) := (xco_112 62).trans rfl
theorem xc_112_63 : p_code 112 63 = some (.aload_n 0, 1) := (xco_112 63).trans rfl
theorem xc_112_64 : p_code 112 64 = some (.getfield 28, 3) := (xco_112 64).trans rfl
theorem xc_112_67 : p_code 112 67 = some (.iload_n 1, 1) := (xco_112 67).trans rfl
theorem xc_112_68 : p_code 112 68 = some (.iaload, 1) := (xco_112 68).trans rfl
theorem xc_112_69 : p_code 112 69 = some (.iadd, 1) := (xco_112 69).trans rfl
theorem xc_112_70 : p_code 112 70 = some (.iconst 1, 1) := (xco_112 70).trans rfl
theorem xc_112_71 : p_code 112 71 = some (.isub, 1) := (xco_112 71).trans rfl
theorem xc_112_72 : p_code 112 72 = some (.iaload, 1) := (xco_112 72).trans rfl
theorem xc_112_73 : p_code 112 73 = some (.if_icmp .le 14, 3) := (xco_112 73).trans rfl
theorem xj_112_73 : p_tgt 73 (14) = 87 ∧ 0 ≤ ((73 : Nat) : Int) + (14) := ⟨by decide, by decide⟩
theorem xc_112_76 : p_code 112 76 = some (.aload_n 0, 1) := (xco_112 76).trans rfl
theorem xc_112_77 : p_code 112 77 = some (.getfield 28, 3) := (xco_112 77).trans rfl
theorem xc_112_80 : p_code 112 80 = some (.iload_n 1, 1) := (xco_112 80).trans rfl
theorem xc_112_81 : p_code 112 81 = some (.iaload, 1) := (xco_112 81).trans rfl
theorem xc_112_82 : p_code 112 82 = some (.bipush 6, 2) := (xco_112 82).trans rfl
theorem xc_112_84 : p_code 112 84 = some (.if_icmp .ne 9, 3) := (xco_112 84).trans rfl
theorem xj_112_84 : p_tgt 84 (9) = 93 ∧ 0 ≤ ((84 : Nat) : Int) + (9) := ⟨by decide, by decide⟩
theorem xc_112_87 : p_code 112 87 = some (.aload_n 0, 1) := (xco_112 87).trans rfl
theorem xc_112_88 : p_code 112 88 = some (.iload_n 2, 1) := (xco_112 88).trans rfl
theorem xc_112_89 : p_code 112 89 = some (.invokevirtual 94, 3) := (xco_112 89).trans rfl
theorem xm_112_89 : p_calls 112 (.invokevirtual 94) = some (97, 2) := by dsimp only [p_calls]; rw [xow_112]; rfl
theorem xc_112_92 : p_code 112 92 = some (.return_, 1) := (xco_112 92).trans rfl
theorem xc_112_93 : p_code 112 93 = some (.aload_n 0, 1) := (xco_112 93).trans rfl
theorem xc_112_94 : p_code 112 94 = some (.getfield 31, 3) := (xco_112 94).trans rfl
theorem xc_112_97 : p_code 112 97 = some (.bipush 6, 2) := (xco_112 97).trans rfl
theorem xc_112_99 : p_code 112 99 = some (.iload_n 1, 1) := (xco_112 99).trans rfl
theorem xc_112_100 : p_code 112 100 = some (.imul, 1) := (xco_112 100).trans rfl
theorem xc_112_101 : p_code 112 101 = some (.aload_n 0, 1) := (xco_112 101).trans rfl
theorem xc_112_102 : p_code 112 102 = some (.getfield 28, 3) := (xco_112 102).trans rfl
theorem xc_112_105 : p_code 112 105 = some (.iload_n 1, 1) := (xco_112 105).trans rfl
theorem xc_112_106 : p_code 112 106 = some (.iaload, 1) := (xco_112 106).trans rfl
theorem xc_112_107 : p_code 112 107 = some (.iadd, 1) := (xco_112 107).trans rfl
theorem xc_112_108 : p_code 112 108 = some (.iload_n 3, 1) := (xco_112 108).trans rfl
theorem xc_112_109 : p_code 112 109 = some (.iastore, 1) := (xco_112 109).trans rfl
theorem xc_112_110 : p_code 112 110 = some (.aload_n 0, 1) := (xco_112 110).trans rfl
theorem xc_112_111 : p_code 112 111 = some (.getfield 34, 3) := (xco_112 111).trans rfl
theorem xf_112_34 : p_fld (p_own 112) 34 = some (6, 12) := by rw [xow_112]; rfl
theorem xc_112_114 : p_code 112 114 = some (.bipush 6, 2) := (xco_112 114).trans rfl
theorem xc_112_116 : p_code 112 116 = some (.iload_n 1, 1) := (xco_112 116).trans rfl
theorem xc_112_117 : p_code 112 117 = some (.imul, 1) := (xco_112 117).trans rfl
theorem xc_112_118 : p_code 112 118 = some (.aload_n 0, 1) := (xco_112 118).trans rfl
theorem xc_112_119 : p_code 112 119 = some (.getfield 28, 3) := (xco_112 119).trans rfl
theorem xc_112_122 : p_code 112 122 = some (.iload_n 1, 1) := (xco_112 122).trans rfl
theorem xc_112_123 : p_code 112 123 = some (.iaload, 1) := (xco_112 123).trans rfl
theorem xc_112_124 : p_code 112 124 = some (.iadd, 1) := (xco_112 124).trans rfl
theorem xc_112_125 : p_code 112 125 = some (.iload 4, 2) := (xco_112 125).trans rfl
theorem xc_112_127 : p_code 112 127 = some (.iastore, 1) := (xco_112 127).trans rfl
theorem xc_112_128 : p_code 112 128 = some (.aload_n 0, 1) := (xco_112 128).trans rfl
theorem xc_112_129 : p_code 112 129 = some (.getfield 28, 3) := (xco_112 129).trans rfl
theorem xc_112_132 : p_code 112 132 = some (.iload_n 1, 1) := (xco_112 132).trans rfl
theorem xc_112_133 : p_code 112 133 = some (.dup2, 1) := (xco_112 133).trans rfl
theorem xc_112_134 : p_code 112 134 = some (.iaload, 1) := (xco_112 134).trans rfl
theorem xc_112_135 : p_code 112 135 = some (.iconst 1, 1) := (xco_112 135).trans rfl
theorem xc_112_136 : p_code 112 136 = some (.iadd, 1) := (xco_112 136).trans rfl
theorem xc_112_137 : p_code 112 137 = some (.iastore, 1) := (xco_112 137).trans rfl
theorem xc_112_138 : p_code 112 138 = some (.return_, 1) := (xco_112 138).trans rfl
theorem xrt_112 : p_rty 112 = none := rfl
theorem xhh_112 : p_hh 112 = [] := rfl
theorem xin_112 {x1 : Int32} : p_in0 112 [.ref 22, .int x1] = [some (.ref 22), some (.int x1), none, none, none] := rfl
theorem xrc_112 {z : Nat → Int32} {a : Nat → Nat → Int32} {w : Nat → Nat → Int64} {y : Nat → Int64} {g : List pE} {x1 : Int32} : p_recv 112 [.ref 22, .int x1] (hp z a w y g) = true := rfl
theorem xco_113 (pc : Nat) : p_code 113 pc = p_find pc pc_113 := rfl
theorem xow_113 : p_own 113 = 6 := rfl
theorem xc_113_0 : p_code 113 0 = some (.aload_n 0, 1) := (xco_113 0).trans rfl
theorem xc_113_1 : p_code 113 1 = some (.invokevirtual 116, 3) := (xco_113 1).trans rfl
theorem xm_113_1 : p_calls 113 (.invokevirtual 116) = some (114, 1) := by dsimp only [p_calls]; rw [xow_113]; rfl
theorem xc_113_4 : p_code 113 4 = some (.istore_n 1, 1) := (xco_113 4).trans rfl
theorem xc_113_5 : p_code 113 5 = some (.aload_n 0, 1) := (xco_113 5).trans rfl
theorem xc_113_6 : p_code 113 6 = some (.invokevirtual 86, 3) := (xco_113 6).trans rfl
theorem xm_113_6 : p_calls 113 (.invokevirtual 86) = some (98, 1) := by dsimp only [p_calls]; rw [xow_113]; rfl
theorem xc_113_9 : p_code 113 9 = some (.ifCond .ne 5, 3) := (xco_113 9).trans rfl
theorem xj_113_9 : p_tgt 9 (5) = 14 ∧ 0 ≤ ((9 : Nat) : Int) + (5) := ⟨by decide, by decide⟩
theorem xc_113_12 : p_code 113 12 = some (.iconst (-1), 1) := (xco_113 12).trans rfl
theorem xc_113_13 : p_code 113 13 = some (.ireturn, 1) := (xco_113 13).trans rfl
theorem xc_113_14 : p_code 113 14 = some (.aload_n 0, 1) := (xco_113 14).trans rfl
theorem xc_113_15 : p_code 113 15 = some (.invokevirtual 90, 3) := (xco_113 15).trans rfl
theorem xm_113_15 : p_calls 113 (.invokevirtual 90) = some (100, 1) := by dsimp only [p_calls]; rw [xow_113]; rfl
theorem xc_113_18 : p_code 113 18 = some (.istore_n 2, 1) := (xco_113 18).trans rfl
theorem xc_113_19 : p_code 113 19 = some (.iload_n 2, 1) := (xco_113 19).trans rfl
theorem xc_113_20 : p_code 113 20 = some (.bipush 37, 2) := (xco_113 20).trans rfl
theorem xc_113_22 : p_code 113 22 = some (.if_icmp .ne 23, 3) := (xco_113 22).trans rfl
theorem xj_113_22 : p_tgt 22 (23) = 45 ∧ 0 ≤ ((22 : Nat) : Int) + (23) := ⟨by decide, by decide⟩
theorem xc_113_25 : p_code 113 25 = some (.aload_n 0, 1) := (xco_113 25).trans rfl
theorem xc_113_26 : p_code 113 26 = some (.dup, 1) := (xco_113 26).trans rfl
theorem xc_113_27 : p_code 113 27 = some (.getfield 80, 3) := (xco_113 27).trans rfl
theorem xf_113_80 : p_fld (p_own 113) 80 = some (6, 2) := by rw [xow_113]; rfl
theorem xc_113_30 : p_code 113 30 = some (.iconst 1, 1) := (xco_113 30).trans rfl
theorem xc_113_31 : p_code 113 31 = some (.iadd, 1) := (xco_113 31).trans rfl
theorem xc_113_32 : p_code 113 32 = some (.putfield 80, 3) := (xco_113 32).trans rfl
theorem xc_113_35 : p_code 113 35 = some (.aload_n 0, 1) := (xco_113 35).trans rfl
theorem xc_113_36 : p_code 113 36 = some (.iconst 1, 1) := (xco_113 36).trans rfl
theorem xc_113_37 : p_code 113 37 = some (.iload_n 1, 1) := (xco_113 37).trans rfl
theorem xc_113_38 : p_code 113 38 = some (.iconst (-1), 1) := (xco_113 38).trans rfl
theorem xc_113_39 : p_code 113 39 = some (.iconst (-1), 1) := (xco_113 39).trans rfl
theorem xc_113_40 : p_code 113 40 = some (.iconst (-1), 1) := (xco_113 40).trans rfl
theorem xc_113_41 : p_code 113 41 = some (.invokevirtual 119, 3) := (xco_113 41).trans rfl
theorem xm_113_41 : p_calls 113 (.invokevirtual 119) = some (105, 6) := by dsimp only [p_calls]; rw [xow_113]; rfl
theorem xc_113_44 : p_code 113 44 = some (.ireturn, 1) := (xco_113 44).trans rfl
theorem xc_113_45 : p_code 113 45 = some (.aload_n 0, 1) := (xco_113 45).trans rfl
theorem xc_113_46 : p_code 113 46 = some (.bipush 47, 2) := (xco_113 46).trans rfl
theorem xc_113_48 : p_code 113 48 = some (.invokevirtual 123, 3) := (xco_113 48).trans rfl
theorem xm_113_48 : p_calls 113 (.invokevirtual 123) = some (107, 2) := by dsimp only [p_calls]; rw [xow_113]; rfl
theorem xc_113_51 : p_code 113 51 = some (.aload_n 0, 1) := (xco_113 51).trans rfl
theorem xc_113_52 : p_code 113 52 = some (.invokevirtual 86, 3) := (xco_113 52).trans rfl
theorem xm_113_52 : p_calls 113 (.invokevirtual 86) = some (98, 1) := by dsimp only [p_calls]; rw [xow_113]; rfl
theorem xc_113_55 : p_code 113 55 = some (.ifCond .ne 5, 3) := (xco_113 55).trans rfl
theorem xj_113_55 : p_tgt 55 (5) = 60 ∧ 0 ≤ ((55 : Nat) : Int) + (5) := ⟨by decide, by decide⟩
theorem xc_113_58 : p_code 113 58 = some (.iconst (-1), 1) := (xco_113 58).trans rfl
theorem xc_113_59 : p_code 113 59 = some (.ireturn, 1) := (xco_113 59).trans rfl
theorem xc_113_60 : p_code 113 60 = some (.aload_n 0, 1) := (xco_113 60).trans rfl
theorem xc_113_61 : p_code 113 61 = some (.invokevirtual 90, 3) := (xco_113 61).trans rfl
theorem xm_113_61 : p_calls 113 (.invokevirtual 90) = some (100, 1) := by dsimp only [p_calls]; rw [xow_113]; rfl
theorem xc_113_64 : p_code 113 64 = some (.istore_n 3, 1) := (xco_113 64).trans rfl
theorem xc_113_65 : p_code 113 65 = some (.iload_n 3, 1) := (xco_113 65).trans rfl
theorem xc_113_66 : p_code 113 66 = some (.bipush 65, 2) := (xco_113 66).trans rfl
theorem xc_113_68 : p_code 113 68 = some (.if_icmp .lt 9, 3) := (xco_113 68).trans rfl
theorem xj_113_68 : p_tgt 68 (9) = 77 ∧ 0 ≤ ((68 : Nat) : Int) + (9) := ⟨by decide, by decide⟩
theorem xc_113_71 : p_code 113 71 = some (.iload_n 3, 1) := (xco_113 71).trans rfl
theorem xc_113_72 : p_code 113 72 = some (.bipush 72, 2) := (xco_113 72).trans rfl
theorem xc_113_74 : p_code 113 74 = some (.if_icmp .le 13, 3) := (xco_113 74).trans rfl
theorem xj_113_74 : p_tgt 74 (13) = 87 ∧ 0 ≤ ((74 : Nat) : Int) + (13) := ⟨by decide, by decide⟩
theorem xc_113_77 : p_code 113 77 = some (.aload_n 0, 1) := (xco_113 77).trans rfl
theorem xc_113_78 : p_code 113 78 = some (.aload_n 0, 1) := (xco_113 78).trans rfl
theorem xc_113_79 : p_code 113 79 = some (.getfield 80, 3) := (xco_113 79).trans rfl
theorem xc_113_82 : p_code 113 82 = some (.invokevirtual 94, 3) := (xco_113 82).trans rfl
theorem xm_113_82 : p_calls 113 (.invokevirtual 94) = some (97, 2) := by dsimp only [p_calls]; rw [xow_113]; rfl
theorem xc_113_85 : p_code 113 85 = some (.iconst (-1), 1) := (xco_113 85).trans rfl
theorem xc_113_86 : p_code 113 86 = some (.ireturn, 1) := (xco_113 86).trans rfl
theorem xc_113_87 : p_code 113 87 = some (.aload_n 0, 1) := (xco_113 87).trans rfl
theorem xc_113_88 : p_code 113 88 = some (.dup, 1) := (xco_113 88).trans rfl
theorem xc_113_89 : p_code 113 89 = some (.getfield 80, 3) := (xco_113 89).trans rfl
theorem xc_113_92 : p_code 113 92 = some (.iconst 1, 1) := (xco_113 92).trans rfl
theorem xc_113_93 : p_code 113 93 = some (.iadd, 1) := (xco_113 93).trans rfl
theorem xc_113_94 : p_code 113 94 = some (.putfield 80, 3) := (xco_113 94).trans rfl
theorem xc_113_97 : p_code 113 97 = some (.aload_n 0, 1) := (xco_113 97).trans rfl
theorem xc_113_98 : p_code 113 98 = some (.iconst 2, 1) := (xco_113 98).trans rfl
theorem xc_113_99 : p_code 113 99 = some (.iload_n 1, 1) := (xco_113 99).trans rfl
theorem xc_113_100 : p_code 113 100 = some (.iload_n 3, 1) := (xco_113 100).trans rfl
theorem xc_113_101 : p_code 113 101 = some (.bipush 65, 2) := (xco_113 101).trans rfl
theorem xc_113_103 : p_code 113 103 = some (.isub, 1) := (xco_113 103).trans rfl
theorem xc_113_104 : p_code 113 104 = some (.iconst (-1), 1) := (xco_113 104).trans rfl
theorem xc_113_105 : p_code 113 105 = some (.iconst (-1), 1) := (xco_113 105).trans rfl
theorem xc_113_106 : p_code 113 106 = some (.invokevirtual 119, 3) := (xco_113 106).trans rfl
theorem xm_113_106 : p_calls 113 (.invokevirtual 119) = some (105, 6) := by dsimp only [p_calls]; rw [xow_113]; rfl
theorem xc_113_109 : p_code 113 109 = some (.ireturn, 1) := (xco_113 109).trans rfl
theorem xrt_113 : p_rty 113 = some .int := rfl
theorem xhh_113 : p_hh 113 = [] := rfl
theorem xin_113  : p_in0 113 [.ref 22] = [some (.ref 22), none, none, none] := rfl
theorem xrc_113 {z : Nat → Int32} {a : Nat → Nat → Int32} {w : Nat → Nat → Int64} {y : Nat → Int64} {g : List pE}  : p_recv 113 [.ref 22] (hp z a w y g) = true := rfl
theorem xco_114 (pc : Nat) : p_code 114 pc = p_find pc pc_114 := rfl
theorem xow_114 : p_own 114 = 6 := rfl
theorem xc_114_0 : p_code 114 0 = some (.aload_n 0, 1) := (xco_114 0).trans rfl
theorem xc_114_1 : p_code 114 1 = some (.getfield 80, 3) := (xco_114 1).trans rfl
theorem xf_114_80 : p_fld (p_own 114) 80 = some (6, 2) := by rw [xow_114]; rfl
theorem xc_114_4 : p_code 114 4 = some (.istore_n 1, 1) := (xco_114 4).trans rfl
theorem xc_114_5 : p_code 114 5 = some (.aload_n 0, 1) := (xco_114 5).trans rfl
theorem xc_114_6 : p_code 114 6 = some (.iload_n 1, 1) := (xco_114 6).trans rfl
theorem xc_114_7 : p_code 114 7 = some (.invokevirtual 102, 3) := (xco_114 7).trans rfl
theorem xm_114_7 : p_calls 114 (.invokevirtual 102) = some (109, 2) := by dsimp only [p_calls]; rw [xow_114]; rfl
theorem xc_114_10 : p_code 114 10 = some (.istore_n 2, 1) := (xco_114 10).trans rfl
theorem xc_114_11 : p_code 114 11 = some (.iload_n 2, 1) := (xco_114 11).trans rfl
theorem xc_114_12 : p_code 114 12 = some (.iconst 5, 1) := (xco_114 12).trans rfl
theorem xc_114_13 : p_code 114 13 = some (.if_icmp .le 10, 3) := (xco_114 13).trans rfl
theorem xj_114_13 : p_tgt 13 (10) = 23 ∧ 0 ≤ ((13 : Nat) : Int) + (10) := ⟨by decide, by decide⟩
theorem xc_114_16 : p_code 114 16 = some (.aload_n 0, 1) := (xco_114 16).trans rfl
theorem xc_114_17 : p_code 114 17 = some (.iload_n 1, 1) := (xco_114 17).trans rfl
theorem xc_114_18 : p_code 114 18 = some (.invokevirtual 94, 3) := (xco_114 18).trans rfl
theorem xm_114_18 : p_calls 114 (.invokevirtual 94) = some (97, 2) := by dsimp only [p_calls]; rw [xow_114]; rfl
theorem xc_114_21 : p_code 114 21 = some (.iconst 0, 1) := (xco_114 21).trans rfl
theorem xc_114_22 : p_code 114 22 = some (.ireturn, 1) := (xco_114 22).trans rfl
theorem xc_114_23 : p_code 114 23 = some (.aload_n 0, 1) := (xco_114 23).trans rfl
theorem xc_114_24 : p_code 114 24 = some (.iload_n 1, 1) := (xco_114 24).trans rfl
theorem xc_114_25 : p_code 114 25 = some (.iload_n 2, 1) := (xco_114 25).trans rfl
theorem xc_114_26 : p_code 114 26 = some (.iadd, 1) := (xco_114 26).trans rfl
theorem xc_114_27 : p_code 114 27 = some (.putfield 80, 3) := (xco_114 27).trans rfl
theorem xc_114_30 : p_code 114 30 = some (.sipush 1000, 3) := (xco_114 30).trans rfl
theorem xc_114_33 : p_code 114 33 = some (.aload_n 0, 1) := (xco_114 33).trans rfl
theorem xc_114_34 : p_code 114 34 = some (.iload_n 1, 1) := (xco_114 34).trans rfl
theorem xc_114_35 : p_code 114 35 = some (.iload_n 2, 1) := (xco_114 35).trans rfl
theorem xc_114_36 : p_code 114 36 = some (.invokevirtual 106, 3) := (xco_114 36).trans rfl
theorem xm_114_36 : p_calls 114 (.invokevirtual 106) = some (111, 3) := by dsimp only [p_calls]; rw [xow_114]; rfl
theorem xc_114_39 : p_code 114 39 = some (.imul, 1) := (xco_114 39).trans rfl
theorem xc_114_40 : p_code 114 40 = some (.istore_n 3, 1) := (xco_114 40).trans rfl
theorem xc_114_41 : p_code 114 41 = some (.aload_n 0, 1) := (xco_114 41).trans rfl
theorem xc_114_42 : p_code 114 42 = some (.getfield 80, 3) := (xco_114 42).trans rfl
theorem xc_114_45 : p_code 114 45 = some (.aload_n 0, 1) := (xco_114 45).trans rfl
theorem xc_114_46 : p_code 114 46 = some (.getfield 77, 3) := (xco_114 46).trans rfl
theorem xf_114_77 : p_fld (p_own 114) 77 = some (6, 1) := by rw [xow_114]; rfl
theorem xc_114_49 : p_code 114 49 = some (.if_icmp .eq 17, 3) := (xco_114 49).trans rfl
theorem xj_114_49 : p_tgt 49 (17) = 66 ∧ 0 ≤ ((49 : Nat) : Int) + (17) := ⟨by decide, by decide⟩
theorem xc_114_52 : p_code 114 52 = some (.aload_n 0, 1) := (xco_114 52).trans rfl
theorem xc_114_53 : p_code 114 53 = some (.getfield 7, 3) := (xco_114 53).trans rfl
theorem xf_114_7 : p_fld (p_own 114) 7 = some (6, 0) := by rw [xow_114]; rfl
theorem xc_114_56 : p_code 114 56 = some (.aload_n 0, 1) := (xco_114 56).trans rfl
theorem xc_114_57 : p_code 114 57 = some (.getfield 80, 3) := (xco_114 57).trans rfl
theorem xc_114_60 : p_code 114 60 = some (.iaload, 1) := (xco_114 60).trans rfl
theorem xc_114_61 : p_code 114 61 = some (.bipush 46, 2) := (xco_114 61).trans rfl
theorem xc_114_63 : p_code 114 63 = some (.if_icmp .eq 5, 3) := (xco_114 63).trans rfl
theorem xj_114_63 : p_tgt 63 (5) = 68 ∧ 0 ≤ ((63 : Nat) : Int) + (5) := ⟨by decide, by decide⟩
theorem xc_114_66 : p_code 114 66 = some (.iload_n 3, 1) := (xco_114 66).trans rfl
theorem xc_114_67 : p_code 114 67 = some (.ireturn, 1) := (xco_114 67).trans rfl
theorem xc_114_68 : p_code 114 68 = some (.aload_n 0, 1) := (xco_114 68).trans rfl
theorem xc_114_69 : p_code 114 69 = some (.aload_n 0, 1) := (xco_114 69).trans rfl
theorem xc_114_70 : p_code 114 70 = some (.getfield 80, 3) := (xco_114 70).trans rfl
theorem xc_114_73 : p_code 114 73 = some (.iconst 1, 1) := (xco_114 73).trans rfl
theorem xc_114_74 : p_code 114 74 = some (.iadd, 1) := (xco_114 74).trans rfl
theorem xc_114_75 : p_code 114 75 = some (.invokevirtual 102, 3) := (xco_114 75).trans rfl
theorem xm_114_75 : p_calls 114 (.invokevirtual 102) = some (109, 2) := by dsimp only [p_calls]; rw [xow_114]; rfl
theorem xc_114_78 : p_code 114 78 = some (.istore 4, 2) := (xco_114 78).trans rfl
theorem xc_114_80 : p_code 114 80 = some (.iload 4, 2) := (xco_114 80).trans rfl
theorem xc_114_82 : p_code 114 82 = some (.iconst 1, 1) := (xco_114 82).trans rfl
theorem xc_114_83 : p_code 114 83 = some (.if_icmp .lt 9, 3) := (xco_114 83).trans rfl
theorem xj_114_83 : p_tgt 83 (9) = 92 ∧ 0 ≤ ((83 : Nat) : Int) + (9) := ⟨by decide, by decide⟩
theorem xc_114_86 : p_code 114 86 = some (.iload 4, 2) := (xco_114 86).trans rfl
theorem xc_114_88 : p_code 114 88 = some (.iconst 3, 1) := (xco_114 88).trans rfl
theorem xc_114_89 : p_code 114 89 = some (.if_icmp .le 10, 3) := (xco_114 89).trans rfl
theorem xj_114_89 : p_tgt 89 (10) = 99 ∧ 0 ≤ ((89 : Nat) : Int) + (10) := ⟨by decide, by decide⟩
theorem xc_114_92 : p_code 114 92 = some (.aload_n 0, 1) := (xco_114 92).trans rfl
theorem xc_114_93 : p_code 114 93 = some (.iload_n 1, 1) := (xco_114 93).trans rfl
theorem xc_114_94 : p_code 114 94 = some (.invokevirtual 94, 3) := (xco_114 94).trans rfl
theorem xm_114_94 : p_calls 114 (.invokevirtual 94) = some (97, 2) := by dsimp only [p_calls]; rw [xow_114]; rfl
theorem xc_114_97 : p_code 114 97 = some (.iconst 0, 1) := (xco_114 97).trans rfl
theorem xc_114_98 : p_code 114 98 = some (.ireturn, 1) := (xco_114 98).trans rfl
theorem xc_114_99 : p_code 114 99 = some (.aload_n 0, 1) := (xco_114 99).trans rfl
theorem xc_114_100 : p_code 114 100 = some (.aload_n 0, 1) := (xco_114 100).trans rfl
theorem xc_114_101 : p_code 114 101 = some (.getfield 80, 3) := (xco_114 101).trans rfl
theorem xc_114_104 : p_code 114 104 = some (.iconst 1, 1) := (xco_114 104).trans rfl
theorem xc_114_105 : p_code 114 105 = some (.iadd, 1) := (xco_114 105).trans rfl
theorem xc_114_106 : p_code 114 106 = some (.iload 4, 2) := (xco_114 106).trans rfl
theorem xc_114_108 : p_code 114 108 = some (.invokevirtual 106, 3) := (xco_114 108).trans rfl
theorem xm_114_108 : p_calls 114 (.invokevirtual 106) = some (111, 3) := by dsimp only [p_calls]; rw [xow_114]; rfl
theorem xc_114_111 : p_code 114 111 = some (.istore 5, 2) := (xco_114 111).trans rfl
theorem xc_114_113 : p_code 114 113 = some (.aload_n 0, 1) := (xco_114 113).trans rfl
theorem xc_114_114 : p_code 114 114 = some (.dup, 1) := (xco_114 114).trans rfl
theorem xc_114_115 : p_code 114 115 = some (.getfield 80, 3) := (xco_114 115).trans rfl
theorem xc_114_118 : p_code 114 118 = some (.iconst 1, 1) := (xco_114 118).trans rfl
theorem xc_114_119 : p_code 114 119 = some (.iload 4, 2) := (xco_114 119).trans rfl
theorem xc_114_121 : p_code 114 121 = some (.iadd, 1) := (xco_114 121).trans rfl
theorem xc_114_122 : p_code 114 122 = some (.iadd, 1) := (xco_114 122).trans rfl
theorem xc_114_123 : p_code 114 123 = some (.putfield 80, 3) := (xco_114 123).trans rfl
theorem xc_114_126 : p_code 114 126 = some (.iload_n 3, 1) := (xco_114 126).trans rfl
theorem xc_114_127 : p_code 114 127 = some (.iload 4, 2) := (xco_114 127).trans rfl
theorem xc_114_129 : p_code 114 129 = some (.iconst 1, 1) := (xco_114 129).trans rfl
theorem xc_114_130 : p_code 114 130 = some (.if_icmp .ne 11, 3) := (xco_114 130).trans rfl
theorem xj_114_130 : p_tgt 130 (11) = 141 ∧ 0 ≤ ((130 : Nat) : Int) + (11) := ⟨by decide, by decide⟩
theorem xc_114_133 : p_code 114 133 = some (.bipush 100, 2) := (xco_114 133).trans rfl
theorem xc_114_135 : p_code 114 135 = some (.iload 5, 2) := (xco_114 135).trans rfl
theorem xc_114_137 : p_code 114 137 = some (.imul, 1) := (xco_114 137).trans rfl
theorem xc_114_138 : p_code 114 138 = some (.goto 19, 3) := (xco_114 138).trans rfl
theorem xj_114_138 : p_tgt 138 (19) = 157 ∧ 0 ≤ ((138 : Nat) : Int) + (19) := ⟨by decide, by decide⟩
theorem xc_114_141 : p_code 114 141 = some (.iload 4, 2) := (xco_114 141).trans rfl
theorem xc_114_143 : p_code 114 143 = some (.iconst 2, 1) := (xco_114 143).trans rfl
theorem xc_114_144 : p_code 114 144 = some (.if_icmp .ne 11, 3) := (xco_114 144).trans rfl
theorem xj_114_144 : p_tgt 144 (11) = 155 ∧ 0 ≤ ((144 : Nat) : Int) + (11) := ⟨by decide, by decide⟩
theorem xc_114_147 : p_code 114 147 = some (.bipush 10, 2) := (xco_114 147).trans rfl
theorem xc_114_149 : p_code 114 149 = some (.iload 5, 2) := (xco_114 149).trans rfl
theorem xc_114_151 : p_code 114 151 = some (.imul, 1) := (xco_114 151).trans rfl
theorem xc_114_152 : p_code 114 152 = some (.goto 5, 3) := (xco_114 152).trans rfl
theorem xj_114_152 : p_tgt 152 (5) = 157 ∧ 0 ≤ ((152 : Nat) : Int) + (5) := ⟨by decide, by decide⟩
theorem xc_114_155 : p_code 114 155 = some (.iload 5, 2) := (xco_114 155).trans rfl
theorem xc_114_157 : p_code 114 157 = some (.iadd, 1) := (xco_114 157).trans rfl
theorem xc_114_158 : p_code 114 158 = some (.ireturn, 1) := (xco_114 158).trans rfl
theorem xrt_114 : p_rty 114 = some .int := rfl
theorem xhh_114 : p_hh 114 = [] := rfl
theorem xin_114  : p_in0 114 [.ref 22] = [some (.ref 22), none, none, none, none, none] := rfl
theorem xrc_114 {z : Nat → Int32} {a : Nat → Nat → Int32} {w : Nat → Nat → Int64} {y : Nat → Int64} {g : List pE}  : p_recv 114 [.ref 22] (hp z a w y g) = true := rfl
theorem xco_115 (pc : Nat) : p_code 115 pc = p_find pc pc_115 := rfl
theorem xow_115 : p_own 115 = 6 := rfl
theorem xc_115_0 : p_code 115 0 = some (.aload_n 0, 1) := (xco_115 0).trans rfl
theorem xc_115_1 : p_code 115 1 = some (.getfield 132, 3) := (xco_115 1).trans rfl
theorem xf_115_132 : p_fld (p_own 115) 132 = some (6, 22) := by rw [xow_115]; rfl
theorem xc_115_4 : p_code 115 4 = some (.iconst 1, 1) := (xco_115 4).trans rfl
theorem xc_115_5 : p_code 115 5 = some (.isub, 1) := (xco_115 5).trans rfl
theorem xc_115_6 : p_code 115 6 = some (.istore_n 2, 1) := (xco_115 6).trans rfl
theorem xc_115_7 : p_code 115 7 = some (.aload_n 0, 1) := (xco_115 7).trans rfl
theorem xc_115_8 : p_code 115 8 = some (.getfield 43, 3) := (xco_115 8).trans rfl
theorem xf_115_43 : p_fld (p_own 115) 43 = some (6, 20) := by rw [xow_115]; rfl
theorem xc_115_11 : p_code 115 11 = some (.iload_n 2, 1) := (xco_115 11).trans rfl
theorem xc_115_12 : p_code 115 12 = some (.aload_n 0, 1) := (xco_115 12).trans rfl
theorem xc_115_13 : p_code 115 13 = some (.getfield 46, 3) := (xco_115 13).trans rfl
theorem xf_115_46 : p_fld (p_own 115) 46 = some (6, 21) := by rw [xow_115]; rfl
theorem xc_115_16 : p_code 115 16 = some (.iload_n 2, 1) := (xco_115 16).trans rfl
theorem xc_115_17 : p_code 115 17 = some (.iaload, 1) := (xco_115 17).trans rfl
theorem xc_115_18 : p_code 115 18 = some (.ifCond .ne 7, 3) := (xco_115 18).trans rfl
theorem xj_115_18 : p_tgt 18 (7) = 25 ∧ 0 ≤ ((18 : Nat) : Int) + (7) := ⟨by decide, by decide⟩
theorem xc_115_21 : p_code 115 21 = some (.iload_n 1, 1) := (xco_115 21).trans rfl
theorem xc_115_22 : p_code 115 22 = some (.goto 22, 3) := (xco_115 22).trans rfl
theorem xj_115_22 : p_tgt 22 (22) = 44 ∧ 0 ≤ ((22 : Nat) : Int) + (22) := ⟨by decide, by decide⟩
theorem xc_115_25 : p_code 115 25 = some (.aload_n 0, 1) := (xco_115 25).trans rfl
theorem xc_115_26 : p_code 115 26 = some (.aload_n 0, 1) := (xco_115 26).trans rfl
theorem xc_115_27 : p_code 115 27 = some (.getfield 46, 3) := (xco_115 27).trans rfl
theorem xc_115_30 : p_code 115 30 = some (.iload_n 2, 1) := (xco_115 30).trans rfl
theorem xc_115_31 : p_code 115 31 = some (.iaload, 1) := (xco_115 31).trans rfl
theorem xc_115_32 : p_code 115 32 = some (.iconst 0, 1) := (xco_115 32).trans rfl
theorem xc_115_33 : p_code 115 33 = some (.iconst (-1), 1) := (xco_115 33).trans rfl
theorem xc_115_34 : p_code 115 34 = some (.aload_n 0, 1) := (xco_115 34).trans rfl
theorem xc_115_35 : p_code 115 35 = some (.getfield 43, 3) := (xco_115 35).trans rfl
theorem xc_115_38 : p_code 115 38 = some (.iload_n 2, 1) := (xco_115 38).trans rfl
theorem xc_115_39 : p_code 115 39 = some (.iaload, 1) := (xco_115 39).trans rfl
theorem xc_115_40 : p_code 115 40 = some (.iload_n 1, 1) := (xco_115 40).trans rfl
theorem xc_115_41 : p_code 115 41 = some (.invokevirtual 119, 3) := (xco_115 41).trans rfl
theorem xm_115_41 : p_calls 115 (.invokevirtual 119) = some (105, 6) := by dsimp only [p_calls]; rw [xow_115]; rfl
theorem xc_115_44 : p_code 115 44 = some (.iastore, 1) := (xco_115 44).trans rfl
theorem xc_115_45 : p_code 115 45 = some (.aload_n 0, 1) := (xco_115 45).trans rfl
theorem xc_115_46 : p_code 115 46 = some (.getfield 46, 3) := (xco_115 46).trans rfl
theorem xc_115_49 : p_code 115 49 = some (.iload_n 2, 1) := (xco_115 49).trans rfl
theorem xc_115_50 : p_code 115 50 = some (.iconst 0, 1) := (xco_115 50).trans rfl
theorem xc_115_51 : p_code 115 51 = some (.iastore, 1) := (xco_115 51).trans rfl
theorem xc_115_52 : p_code 115 52 = some (.return_, 1) := (xco_115 52).trans rfl
theorem xrt_115 : p_rty 115 = none := rfl
theorem xhh_115 : p_hh 115 = [] := rfl
theorem xin_115 {x1 : Int32} : p_in0 115 [.ref 22, .int x1] = [some (.ref 22), some (.int x1), none] := rfl
theorem xrc_115 {z : Nat → Int32} {a : Nat → Nat → Int32} {w : Nat → Nat → Int64} {y : Nat → Int64} {g : List pE} {x1 : Int32} : p_recv 115 [.ref 22, .int x1] (hp z a w y g) = true := rfl
theorem xco_116 (pc : Nat) : p_code 116 pc = p_find pc pc_116 := rfl
theorem xow_116 : p_own 116 = 6 := rfl
theorem xc_116_0 : p_code 116 0 = some (.aload_n 0, 1) := (xco_116 0).trans rfl
theorem xc_116_1 : p_code 116 1 = some (.invokevirtual 90, 3) := (xco_116 1).trans rfl
theorem xm_116_1 : p_calls 116 (.invokevirtual 90) = some (100, 1) := by dsimp only [p_calls]; rw [xow_116]; rfl
theorem xc_116_4 : p_code 116 4 = some (.istore_n 1, 1) := (xco_116 4).trans rfl
theorem xc_116_5 : p_code 116 5 = some (.aload_n 0, 1) := (xco_116 5).trans rfl
theorem xc_116_6 : p_code 116 6 = some (.getfield 132, 3) := (xco_116 6).trans rfl
theorem xf_116_132 : p_fld (p_own 116) 132 = some (6, 22) := by rw [xow_116]; rfl
theorem xc_116_9 : p_code 116 9 = some (.iconst 1, 1) := (xco_116 9).trans rfl
theorem xc_116_10 : p_code 116 10 = some (.isub, 1) := (xco_116 10).trans rfl
theorem xc_116_11 : p_code 116 11 = some (.istore_n 2, 1) := (xco_116 11).trans rfl
theorem xc_116_12 : p_code 116 12 = some (.iload_n 1, 1) := (xco_116 12).trans rfl
theorem xc_116_13 : p_code 116 13 = some (.bipush 43, 2) := (xco_116 13).trans rfl
theorem xc_116_15 : p_code 116 15 = some (.if_icmp .eq 9, 3) := (xco_116 15).trans rfl
theorem xj_116_15 : p_tgt 15 (9) = 24 ∧ 0 ≤ ((15 : Nat) : Int) + (9) := ⟨by decide, by decide⟩
theorem xc_116_18 : p_code 116 18 = some (.iload_n 1, 1) := (xco_116 18).trans rfl
theorem xc_116_19 : p_code 116 19 = some (.bipush 45, 2) := (xco_116 19).trans rfl
theorem xc_116_21 : p_code 116 21 = some (.if_icmp .ne 45, 3) := (xco_116 21).trans rfl
theorem xj_116_21 : p_tgt 21 (45) = 66 ∧ 0 ≤ ((21 : Nat) : Int) + (45) := ⟨by decide, by decide⟩
theorem xc_116_24 : p_code 116 24 = some (.aload_n 0, 1) := (xco_116 24).trans rfl
theorem xc_116_25 : p_code 116 25 = some (.aload_n 0, 1) := (xco_116 25).trans rfl
theorem xc_116_26 : p_code 116 26 = some (.getfield 80, 3) := (xco_116 26).trans rfl
theorem xf_116_80 : p_fld (p_own 116) 80 = some (6, 2) := by rw [xow_116]; rfl
theorem xc_116_29 : p_code 116 29 = some (.invokevirtual 155, 3) := (xco_116 29).trans rfl
theorem xm_116_29 : p_calls 116 (.invokevirtual 155) = some (104, 2) := by dsimp only [p_calls]; rw [xow_116]; rfl
theorem xc_116_32 : p_code 116 32 = some (.ifCond .ne 5, 3) := (xco_116 32).trans rfl
theorem xj_116_32 : p_tgt 32 (5) = 37 ∧ 0 ≤ ((32 : Nat) : Int) + (5) := ⟨by decide, by decide⟩
theorem xc_116_35 : p_code 116 35 = some (.iconst 0, 1) := (xco_116 35).trans rfl
theorem xc_116_36 : p_code 116 36 = some (.ireturn, 1) := (xco_116 36).trans rfl
theorem xc_116_37 : p_code 116 37 = some (.aload_n 0, 1) := (xco_116 37).trans rfl
theorem xc_116_38 : p_code 116 38 = some (.getfield 46, 3) := (xco_116 38).trans rfl
theorem xf_116_46 : p_fld (p_own 116) 46 = some (6, 21) := by rw [xow_116]; rfl
theorem xc_116_41 : p_code 116 41 = some (.iload_n 2, 1) := (xco_116 41).trans rfl
theorem xc_116_42 : p_code 116 42 = some (.iload_n 1, 1) := (xco_116 42).trans rfl
theorem xc_116_43 : p_code 116 43 = some (.bipush 43, 2) := (xco_116 43).trans rfl
theorem xc_116_45 : p_code 116 45 = some (.if_icmp .ne 7, 3) := (xco_116 45).trans rfl
theorem xj_116_45 : p_tgt 45 (7) = 52 ∧ 0 ≤ ((45 : Nat) : Int) + (7) := ⟨by decide, by decide⟩
theorem xc_116_48 : p_code 116 48 = some (.iconst 3, 1) := (xco_116 48).trans rfl
theorem xc_116_49 : p_code 116 49 = some (.goto 4, 3) := (xco_116 49).trans rfl
theorem xj_116_49 : p_tgt 49 (4) = 53 ∧ 0 ≤ ((49 : Nat) : Int) + (4) := ⟨by decide, by decide⟩
theorem xc_116_52 : p_code 116 52 = some (.iconst 4, 1) := (xco_116 52).trans rfl
theorem xc_116_53 : p_code 116 53 = some (.iastore, 1) := (xco_116 53).trans rfl
theorem xc_116_54 : p_code 116 54 = some (.aload_n 0, 1) := (xco_116 54).trans rfl
theorem xc_116_55 : p_code 116 55 = some (.dup, 1) := (xco_116 55).trans rfl
theorem xc_116_56 : p_code 116 56 = some (.getfield 80, 3) := (xco_116 56).trans rfl
theorem xc_116_59 : p_code 116 59 = some (.iconst 1, 1) := (xco_116 59).trans rfl
theorem xc_116_60 : p_code 116 60 = some (.iadd, 1) := (xco_116 60).trans rfl
theorem xc_116_61 : p_code 116 61 = some (.putfield 80, 3) := (xco_116 61).trans rfl
theorem xc_116_64 : p_code 116 64 = some (.iconst 1, 1) := (xco_116 64).trans rfl
theorem xc_116_65 : p_code 116 65 = some (.ireturn, 1) := (xco_116 65).trans rfl
theorem xc_116_66 : p_code 116 66 = some (.aload_n 0, 1) := (xco_116 66).trans rfl
theorem xc_116_67 : p_code 116 67 = some (.getfield 37, 3) := (xco_116 67).trans rfl
theorem xf_116_37 : p_fld (p_own 116) 37 = some (6, 18) := by rw [xow_116]; rfl
theorem xc_116_70 : p_code 116 70 = some (.iload_n 2, 1) := (xco_116 70).trans rfl
theorem xc_116_71 : p_code 116 71 = some (.iaload, 1) := (xco_116 71).trans rfl
theorem xc_116_72 : p_code 116 72 = some (.iconst 5, 1) := (xco_116 72).trans rfl
theorem xc_116_73 : p_code 116 73 = some (.if_icmp .eq 14, 3) := (xco_116 73).trans rfl
theorem xj_116_73 : p_tgt 73 (14) = 87 ∧ 0 ≤ ((73 : Nat) : Int) + (14) := ⟨by decide, by decide⟩
theorem xc_116_76 : p_code 116 76 = some (.aload_n 0, 1) := (xco_116 76).trans rfl
theorem xc_116_77 : p_code 116 77 = some (.getfield 37, 3) := (xco_116 77).trans rfl
theorem xc_116_80 : p_code 116 80 = some (.iload_n 2, 1) := (xco_116 80).trans rfl
theorem xc_116_81 : p_code 116 81 = some (.iaload, 1) := (xco_116 81).trans rfl
theorem xc_116_82 : p_code 116 82 = some (.bipush 6, 2) := (xco_116 82).trans rfl
theorem xc_116_84 : p_code 116 84 = some (.if_icmp .ne 7, 3) := (xco_116 84).trans rfl
theorem xj_116_84 : p_tgt 84 (7) = 91 ∧ 0 ≤ ((84 : Nat) : Int) + (7) := ⟨by decide, by decide⟩
theorem xc_116_87 : p_code 116 87 = some (.iconst 1, 1) := (xco_116 87).trans rfl
theorem xc_116_88 : p_code 116 88 = some (.goto 4, 3) := (xco_116 88).trans rfl
theorem xj_116_88 : p_tgt 88 (4) = 92 ∧ 0 ≤ ((88 : Nat) : Int) + (4) := ⟨by decide, by decide⟩
theorem xc_116_91 : p_code 116 91 = some (.iconst 0, 1) := (xco_116 91).trans rfl
theorem xc_116_92 : p_code 116 92 = some (.istore_n 3, 1) := (xco_116 92).trans rfl
theorem xc_116_93 : p_code 116 93 = some (.iload_n 1, 1) := (xco_116 93).trans rfl
theorem xc_116_94 : p_code 116 94 = some (.bipush 44, 2) := (xco_116 94).trans rfl
theorem xc_116_96 : p_code 116 96 = some (.if_icmp .ne 48, 3) := (xco_116 96).trans rfl
theorem xj_116_96 : p_tgt 96 (48) = 144 ∧ 0 ≤ ((96 : Nat) : Int) + (48) := ⟨by decide, by decide⟩
theorem xc_116_99 : p_code 116 99 = some (.iload_n 3, 1) := (xco_116 99).trans rfl
theorem xc_116_100 : p_code 116 100 = some (.ifCond .eq 44, 3) := (xco_116 100).trans rfl
theorem xj_116_100 : p_tgt 100 (44) = 144 ∧ 0 ≤ ((100 : Nat) : Int) + (44) := ⟨by decide, by decide⟩
theorem xc_116_103 : p_code 116 103 = some (.aload_n 0, 1) := (xco_116 103).trans rfl
theorem xc_116_104 : p_code 116 104 = some (.getfield 40, 3) := (xco_116 104).trans rfl
theorem xf_116_40 : p_fld (p_own 116) 40 = some (6, 19) := by rw [xow_116]; rfl
theorem xc_116_107 : p_code 116 107 = some (.iload_n 2, 1) := (xco_116 107).trans rfl
theorem xc_116_108 : p_code 116 108 = some (.iaload, 1) := (xco_116 108).trans rfl
theorem xc_116_109 : p_code 116 109 = some (.iconst (-1), 1) := (xco_116 109).trans rfl
theorem xc_116_110 : p_code 116 110 = some (.if_icmp .ne 34, 3) := (xco_116 110).trans rfl
theorem xj_116_110 : p_tgt 110 (34) = 144 ∧ 0 ≤ ((110 : Nat) : Int) + (34) := ⟨by decide, by decide⟩
theorem xc_116_113 : p_code 116 113 = some (.aload_n 0, 1) := (xco_116 113).trans rfl
theorem xc_116_114 : p_code 116 114 = some (.getfield 40, 3) := (xco_116 114).trans rfl
theorem xc_116_117 : p_code 116 117 = some (.iload_n 2, 1) := (xco_116 117).trans rfl
theorem xc_116_118 : p_code 116 118 = some (.aload_n 0, 1) := (xco_116 118).trans rfl
theorem xc_116_119 : p_code 116 119 = some (.getfield 43, 3) := (xco_116 119).trans rfl
theorem xf_116_43 : p_fld (p_own 116) 43 = some (6, 20) := by rw [xow_116]; rfl
theorem xc_116_122 : p_code 116 122 = some (.iload_n 2, 1) := (xco_116 122).trans rfl
theorem xc_116_123 : p_code 116 123 = some (.iaload, 1) := (xco_116 123).trans rfl
theorem xc_116_124 : p_code 116 124 = some (.iastore, 1) := (xco_116 124).trans rfl
theorem xc_116_125 : p_code 116 125 = some (.aload_n 0, 1) := (xco_116 125).trans rfl
theorem xc_116_126 : p_code 116 126 = some (.getfield 43, 3) := (xco_116 126).trans rfl
theorem xc_116_129 : p_code 116 129 = some (.iload_n 2, 1) := (xco_116 129).trans rfl
theorem xc_116_130 : p_code 116 130 = some (.iconst (-1), 1) := (xco_116 130).trans rfl
theorem xc_116_131 : p_code 116 131 = some (.iastore, 1) := (xco_116 131).trans rfl
theorem xc_116_132 : p_code 116 132 = some (.aload_n 0, 1) := (xco_116 132).trans rfl
theorem xc_116_133 : p_code 116 133 = some (.dup, 1) := (xco_116 133).trans rfl
theorem xc_116_134 : p_code 116 134 = some (.getfield 80, 3) := (xco_116 134).trans rfl
theorem xc_116_137 : p_code 116 137 = some (.iconst 1, 1) := (xco_116 137).trans rfl
theorem xc_116_138 : p_code 116 138 = some (.iadd, 1) := (xco_116 138).trans rfl
theorem xc_116_139 : p_code 116 139 = some (.putfield 80, 3) := (xco_116 139).trans rfl
theorem xc_116_142 : p_code 116 142 = some (.iconst 1, 1) := (xco_116 142).trans rfl
theorem xc_116_143 : p_code 116 143 = some (.ireturn, 1) := (xco_116 143).trans rfl
theorem xc_116_144 : p_code 116 144 = some (.iload_n 1, 1) := (xco_116 144).trans rfl
theorem xc_116_145 : p_code 116 145 = some (.bipush 41, 2) := (xco_116 145).trans rfl
theorem xc_116_147 : p_code 116 147 = some (.if_icmp .ne 91, 3) := (xco_116 147).trans rfl
theorem xj_116_147 : p_tgt 147 (91) = 238 ∧ 0 ≤ ((147 : Nat) : Int) + (91) := ⟨by decide, by decide⟩
theorem xc_116_150 : p_code 116 150 = some (.aload_n 0, 1) := (xco_116 150).trans rfl
theorem xc_116_151 : p_code 116 151 = some (.getfield 37, 3) := (xco_116 151).trans rfl
theorem xc_116_154 : p_code 116 154 = some (.iload_n 2, 1) := (xco_116 154).trans rfl
theorem xc_116_155 : p_code 116 155 = some (.iaload, 1) := (xco_116 155).trans rfl
theorem xc_116_156 : p_code 116 156 = some (.bipush 8, 2) := (xco_116 156).trans rfl
theorem xc_116_158 : p_code 116 158 = some (.if_icmp .eq 17, 3) := (xco_116 158).trans rfl
theorem xj_116_158 : p_tgt 158 (17) = 175 ∧ 0 ≤ ((158 : Nat) : Int) + (17) := ⟨by decide, by decide⟩
theorem xc_116_161 : p_code 116 161 = some (.iload_n 3, 1) := (xco_116 161).trans rfl
theorem xc_116_162 : p_code 116 162 = some (.ifCond .eq 76, 3) := (xco_116 162).trans rfl
theorem xj_116_162 : p_tgt 162 (76) = 238 ∧ 0 ≤ ((162 : Nat) : Int) + (76) := ⟨by decide, by decide⟩
theorem xc_116_165 : p_code 116 165 = some (.aload_n 0, 1) := (xco_116 165).trans rfl
theorem xc_116_166 : p_code 116 166 = some (.getfield 40, 3) := (xco_116 166).trans rfl
theorem xc_116_169 : p_code 116 169 = some (.iload_n 2, 1) := (xco_116 169).trans rfl
theorem xc_116_170 : p_code 116 170 = some (.iaload, 1) := (xco_116 170).trans rfl
theorem xc_116_171 : p_code 116 171 = some (.iconst (-1), 1) := (xco_116 171).trans rfl
theorem xc_116_172 : p_code 116 172 = some (.if_icmp .eq 66, 3) := (xco_116 172).trans rfl
theorem xj_116_172 : p_tgt 172 (66) = 238 ∧ 0 ≤ ((172 : Nat) : Int) + (66) := ⟨by decide, by decide⟩
theorem xc_116_175 : p_code 116 175 = some (.aload_n 0, 1) := (xco_116 175).trans rfl
theorem xc_116_176 : p_code 116 176 = some (.dup, 1) := (xco_116 176).trans rfl
theorem xc_116_177 : p_code 116 177 = some (.getfield 80, 3) := (xco_116 177).trans rfl
theorem xc_116_180 : p_code 116 180 = some (.iconst 1, 1) := (xco_116 180).trans rfl
set_option maxRecDepth 100000 in
theorem xc_116_181 : p_code 116 181 = some (.iadd, 1) := (xco_116 181).trans rfl
set_option maxRecDepth 100000 in
theorem xc_116_182 : p_code 116 182 = some (.putfield 80, 3) := (xco_116 182).trans rfl
set_option maxRecDepth 100000 in
theorem xc_116_185 : p_code 116 185 = some (.aload_n 0, 1) := (xco_116 185).trans rfl
set_option maxRecDepth 100000 in
theorem xc_116_186 : p_code 116 186 = some (.dup, 1) := (xco_116 186).trans rfl
set_option maxRecDepth 100000 in
theorem xc_116_187 : p_code 116 187 = some (.getfield 132, 3) := (xco_116 187).trans rfl
set_option maxRecDepth 100000 in
theorem xc_116_190 : p_code 116 190 = some (.iconst 1, 1) := (xco_116 190).trans rfl
set_option maxRecDepth 100000 in
theorem xc_116_191 : p_code 116 191 = some (.isub, 1) := (xco_116 191).trans rfl
set_option maxRecDepth 100000 in
theorem xc_116_192 : p_code 116 192 = some (.putfield 132, 3) := (xco_116 192).trans rfl
set_option maxRecDepth 100000 in
theorem xc_116_195 : p_code 116 195 = some (.aload_n 0, 1) := (xco_116 195).trans rfl
set_option maxRecDepth 100000 in
theorem xc_116_196 : p_code 116 196 = some (.iload_n 3, 1) := (xco_116 196).trans rfl
set_option maxRecDepth 100000 in
theorem xc_116_197 : p_code 116 197 = some (.ifCond .eq 30, 3) := (xco_116 197).trans rfl
theorem xj_116_197 : p_tgt 197 (30) = 227 ∧ 0 ≤ ((197 : Nat) : Int) + (30) := ⟨by decide, by decide⟩
set_option maxRecDepth 100000 in
theorem xc_116_200 : p_code 116 200 = some (.aload_n 0, 1) := (xco_116 200).trans rfl
set_option maxRecDepth 100000 in
theorem xc_116_201 : p_code 116 201 = some (.aload_n 0, 1) := (xco_116 201).trans rfl
set_option maxRecDepth 100000 in
theorem xc_116_202 : p_code 116 202 = some (.getfield 37, 3) := (xco_116 202).trans rfl
set_option maxRecDepth 100000 in
theorem xc_116_205 : p_code 116 205 = some (.iload_n 2, 1) := (xco_116 205).trans rfl
set_option maxRecDepth 100000 in
theorem xc_116_206 : p_code 116 206 = some (.iaload, 1) := (xco_116 206).trans rfl
set_option maxRecDepth 100000 in
theorem xc_116_207 : p_code 116 207 = some (.iconst 0, 1) := (xco_116 207).trans rfl
set_option maxRecDepth 100000 in
theorem xc_116_208 : p_code 116 208 = some (.iconst (-1), 1) := (xco_116 208).trans rfl
set_option maxRecDepth 100000 in
theorem xc_116_209 : p_code 116 209 = some (.aload_n 0, 1) := (xco_116 209).trans rfl
set_option maxRecDepth 100000 in
theorem xc_116_210 : p_code 116 210 = some (.getfield 40, 3) := (xco_116 210).trans rfl
set_option maxRecDepth 100000 in
theorem xc_116_213 : p_code 116 213 = some (.iload_n 2, 1) := (xco_116 213).trans rfl
set_option maxRecDepth 100000 in
theorem xc_116_214 : p_code 116 214 = some (.iaload, 1) := (xco_116 214).trans rfl
set_option maxRecDepth 100000 in
theorem xc_116_215 : p_code 116 215 = some (.aload_n 0, 1) := (xco_116 215).trans rfl
set_option maxRecDepth 100000 in
theorem xc_116_216 : p_code 116 216 = some (.getfield 43, 3) := (xco_116 216).trans rfl
set_option maxRecDepth 100000 in
theorem xc_116_219 : p_code 116 219 = some (.iload_n 2, 1) := (xco_116 219).trans rfl
set_option maxRecDepth 100000 in
theorem xc_116_220 : p_code 116 220 = some (.iaload, 1) := (xco_116 220).trans rfl
set_option maxRecDepth 100000 in
theorem xc_116_221 : p_code 116 221 = some (.invokevirtual 119, 3) := (xco_116 221).trans rfl
theorem xm_116_221 : p_calls 116 (.invokevirtual 119) = some (105, 6) := by dsimp only [p_calls]; rw [xow_116]; rfl
set_option maxRecDepth 100000 in
theorem xc_116_224 : p_code 116 224 = some (.goto 9, 3) := (xco_116 224).trans rfl
theorem xj_116_224 : p_tgt 224 (9) = 233 ∧ 0 ≤ ((224 : Nat) : Int) + (9) := ⟨by decide, by decide⟩
set_option maxRecDepth 100000 in
theorem xc_116_227 : p_code 116 227 = some (.aload_n 0, 1) := (xco_116 227).trans rfl
set_option maxRecDepth 100000 in
theorem xc_116_228 : p_code 116 228 = some (.getfield 43, 3) := (xco_116 228).trans rfl
set_option maxRecDepth 100000 in
theorem xc_116_231 : p_code 116 231 = some (.iload_n 2, 1) := (xco_116 231).trans rfl
set_option maxRecDepth 100000 in
theorem xc_116_232 : p_code 116 232 = some (.iaload, 1) := (xco_116 232).trans rfl
set_option maxRecDepth 100000 in
theorem xc_116_233 : p_code 116 233 = some (.invokevirtual 171, 3) := (xco_116 233).trans rfl
theorem xm_116_233 : p_calls 116 (.invokevirtual 171) = some (115, 2) := by dsimp only [p_calls]; rw [xow_116]; rfl
set_option maxRecDepth 100000 in
theorem xc_116_236 : p_code 116 236 = some (.iconst 0, 1) := (xco_116 236).trans rfl
set_option maxRecDepth 100000 in
theorem xc_116_237 : p_code 116 237 = some (.ireturn, 1) := (xco_116 237).trans rfl
set_option maxRecDepth 100000 in
theorem xc_116_238 : p_code 116 238 = some (.iload_n 1, 1) := (xco_116 238).trans rfl
set_option maxRecDepth 100000 in
theorem xc_116_239 : p_code 116 239 = some (.iconst (-1), 1) := (xco_116 239).trans rfl
set_option maxRecDepth 100000 in
theorem xc_116_240 : p_code 116 240 = some (.if_icmp .ne 7, 3) := (xco_116 240).trans rfl
theorem xj_116_240 : p_tgt 240 (7) = 247 ∧ 0 ≤ ((240 : Nat) : Int) + (7) := ⟨by decide, by decide⟩
set_option maxRecDepth 100000 in
theorem xc_116_243 : p_code 116 243 = some (.iload_n 2, 1) := (xco_116 243).trans rfl
set_option maxRecDepth 100000 in
theorem xc_116_244 : p_code 116 244 = some (.ifCond .le 23, 3) := (xco_116 244).trans rfl
theorem xj_116_244 : p_tgt 244 (23) = 267 ∧ 0 ≤ ((244 : Nat) : Int) + (23) := ⟨by decide, by decide⟩
set_option maxRecDepth 100000 in
theorem xc_116_247 : p_code 116 247 = some (.aload_n 0, 1) := (xco_116 247).trans rfl
set_option maxRecDepth 100000 in
theorem xc_116_248 : p_code 116 248 = some (.iload_n 1, 1) := (xco_116 248).trans rfl
set_option maxRecDepth 100000 in
theorem xc_116_249 : p_code 116 249 = some (.iconst (-1), 1) := (xco_116 249).trans rfl
set_option maxRecDepth 100000 in
theorem xc_116_250 : p_code 116 250 = some (.if_icmp .ne 10, 3) := (xco_116 250).trans rfl
theorem xj_116_250 : p_tgt 250 (10) = 260 ∧ 0 ≤ ((250 : Nat) : Int) + (10) := ⟨by decide, by decide⟩
set_option maxRecDepth 100000 in
theorem xc_116_253 : p_code 116 253 = some (.aload_n 0, 1) := (xco_116 253).trans rfl
set_option maxRecDepth 100000 in
theorem xc_116_254 : p_code 116 254 = some (.getfield 77, 3) := (xco_116 254).trans rfl
theorem xf_116_77 : p_fld (p_own 116) 77 = some (6, 1) := by rw [xow_116]; rfl
set_option maxRecDepth 100000 in
theorem xc_116_257 : p_code 116 257 = some (.goto 7, 3) := (xco_116 257).trans rfl
theorem xj_116_257 : p_tgt 257 (7) = 264 ∧ 0 ≤ ((257 : Nat) : Int) + (7) := ⟨by decide, by decide⟩
set_option maxRecDepth 100000 in
theorem xc_116_260 : p_code 116 260 = some (.aload_n 0, 1) := (xco_116 260).trans rfl
set_option maxRecDepth 100000 in
theorem xc_116_261 : p_code 116 261 = some (.getfield 80, 3) := (xco_116 261).trans rfl
set_option maxRecDepth 100000 in
theorem xc_116_264 : p_code 116 264 = some (.invokevirtual 94, 3) := (xco_116 264).trans rfl
theorem xm_116_264 : p_calls 116 (.invokevirtual 94) = some (97, 2) := by dsimp only [p_calls]; rw [xow_116]; rfl
set_option maxRecDepth 100000 in
theorem xc_116_267 : p_code 116 267 = some (.iconst 0, 1) := (xco_116 267).trans rfl
set_option maxRecDepth 100000 in
theorem xc_116_268 : p_code 116 268 = some (.ireturn, 1) := (xco_116 268).trans rfl
theorem xrt_116 : p_rty 116 = some .boolean := rfl
theorem xhh_116 : p_hh 116 = [] := rfl
theorem xin_116  : p_in0 116 [.ref 22] = [some (.ref 22), none, none, none] := rfl
theorem xrc_116 {z : Nat → Int32} {a : Nat → Nat → Int32} {w : Nat → Nat → Int64} {y : Nat → Int64} {g : List pE}  : p_recv 116 [.ref 22] (hp z a w y g) = true := rfl
theorem xco_117 (pc : Nat) : p_code 117 pc = p_find pc pc_117 := rfl
theorem xow_117 : p_own 117 = 6 := rfl
theorem xc_117_0 : p_code 117 0 = some (.iconst 0, 1) := (xco_117 0).trans rfl
theorem xc_117_1 : p_code 117 1 = some (.istore_n 2, 1) := (xco_117 1).trans rfl
theorem xc_117_2 : p_code 117 2 = some (.iconst 1, 1) := (xco_117 2).trans rfl
theorem xc_117_3 : p_code 117 3 = some (.istore_n 3, 1) := (xco_117 3).trans rfl
theorem xc_117_4 : p_code 117 4 = some (.aload_n 0, 1) := (xco_117 4).trans rfl
theorem xc_117_5 : p_code 117 5 = some (.getfield 49, 3) := (xco_117 5).trans rfl
theorem xf_117_49 : p_fld (p_own 117) 49 = some (6, 23) := by rw [xow_117]; rfl
theorem xc_117_8 : p_code 117 8 = some (.iconst 0, 1) := (xco_117 8).trans rfl
theorem xc_117_9 : p_code 117 9 = some (.iload_n 1, 1) := (xco_117 9).trans rfl
theorem xc_117_10 : p_code 117 10 = some (.iastore, 1) := (xco_117 10).trans rfl
theorem xc_117_11 : p_code 117 11 = some (.iload_n 3, 1) := (xco_117 11).trans rfl
theorem xc_117_12 : p_code 117 12 = some (.ifCond .le 243, 3) := (xco_117 12).trans rfl
theorem xj_117_12 : p_tgt 12 (243) = 255 ∧ 0 ≤ ((12 : Nat) : Int) + (243) := ⟨by decide, by decide⟩
theorem xc_117_15 : p_code 117 15 = some (.iinc 3 (-1), 3) := (xco_117 15).trans rfl
theorem xc_117_18 : p_code 117 18 = some (.aload_n 0, 1) := (xco_117 18).trans rfl
theorem xc_117_19 : p_code 117 19 = some (.getfield 49, 3) := (xco_117 19).trans rfl
theorem xc_117_22 : p_code 117 22 = some (.iload_n 3, 1) := (xco_117 22).trans rfl
theorem xc_117_23 : p_code 117 23 = some (.iaload, 1) := (xco_117 23).trans rfl
theorem xc_117_24 : p_code 117 24 = some (.istore 4, 2) := (xco_117 24).trans rfl
theorem xc_117_26 : p_code 117 26 = some (.aload_n 0, 1) := (xco_117 26).trans rfl
theorem xc_117_27 : p_code 117 27 = some (.getfield 52, 3) := (xco_117 27).trans rfl
theorem xf_117_52 : p_fld (p_own 117) 52 = some (6, 24) := by rw [xow_117]; rfl
theorem xc_117_30 : p_code 117 30 = some (.iload 4, 2) := (xco_117 30).trans rfl
theorem xc_117_32 : p_code 117 32 = some (.iload_n 2, 1) := (xco_117 32).trans rfl
theorem xc_117_33 : p_code 117 33 = some (.iastore, 1) := (xco_117 33).trans rfl
theorem xc_117_34 : p_code 117 34 = some (.aload_n 0, 1) := (xco_117 34).trans rfl
theorem xc_117_35 : p_code 117 35 = some (.getfield 13, 3) := (xco_117 35).trans rfl
theorem xf_117_13 : p_fld (p_own 117) 13 = some (6, 5) := by rw [xow_117]; rfl
theorem xc_117_38 : p_code 117 38 = some (.bipush 60, 2) := (xco_117 38).trans rfl
theorem xc_117_40 : p_code 117 40 = some (.iload_n 2, 1) := (xco_117 40).trans rfl
theorem xc_117_41 : p_code 117 41 = some (.iadd, 1) := (xco_117 41).trans rfl
theorem xc_117_42 : p_code 117 42 = some (.aload_n 0, 1) := (xco_117 42).trans rfl
theorem xc_117_43 : p_code 117 43 = some (.getfield 13, 3) := (xco_117 43).trans rfl
theorem xc_117_46 : p_code 117 46 = some (.iload 4, 2) := (xco_117 46).trans rfl
theorem xc_117_48 : p_code 117 48 = some (.iaload, 1) := (xco_117 48).trans rfl
theorem xc_117_49 : p_code 117 49 = some (.iastore, 1) := (xco_117 49).trans rfl
theorem xc_117_50 : p_code 117 50 = some (.aload_n 0, 1) := (xco_117 50).trans rfl
theorem xc_117_51 : p_code 117 51 = some (.getfield 16, 3) := (xco_117 51).trans rfl
theorem xf_117_16 : p_fld (p_own 117) 16 = some (6, 6) := by rw [xow_117]; rfl
theorem xc_117_54 : p_code 117 54 = some (.bipush 60, 2) := (xco_117 54).trans rfl
theorem xc_117_56 : p_code 117 56 = some (.iload_n 2, 1) := (xco_117 56).trans rfl
theorem xc_117_57 : p_code 117 57 = some (.iadd, 1) := (xco_117 57).trans rfl
theorem xc_117_58 : p_code 117 58 = some (.aload_n 0, 1) := (xco_117 58).trans rfl
theorem xc_117_59 : p_code 117 59 = some (.getfield 16, 3) := (xco_117 59).trans rfl
theorem xc_117_62 : p_code 117 62 = some (.iload 4, 2) := (xco_117 62).trans rfl
theorem xc_117_64 : p_code 117 64 = some (.iaload, 1) := (xco_117 64).trans rfl
theorem xc_117_65 : p_code 117 65 = some (.iastore, 1) := (xco_117 65).trans rfl
theorem xc_117_66 : p_code 117 66 = some (.aload_n 0, 1) := (xco_117 66).trans rfl
theorem xc_117_67 : p_code 117 67 = some (.getfield 19, 3) := (xco_117 67).trans rfl
theorem xf_117_19 : p_fld (p_own 117) 19 = some (6, 7) := by rw [xow_117]; rfl
theorem xc_117_70 : p_code 117 70 = some (.bipush 60, 2) := (xco_117 70).trans rfl
theorem xc_117_72 : p_code 117 72 = some (.iload_n 2, 1) := (xco_117 72).trans rfl
theorem xc_117_73 : p_code 117 73 = some (.iadd, 1) := (xco_117 73).trans rfl
theorem xc_117_74 : p_code 117 74 = some (.aload_n 0, 1) := (xco_117 74).trans rfl
theorem xc_117_75 : p_code 117 75 = some (.getfield 19, 3) := (xco_117 75).trans rfl
theorem xc_117_78 : p_code 117 78 = some (.iload 4, 2) := (xco_117 78).trans rfl
theorem xc_117_80 : p_code 117 80 = some (.iaload, 1) := (xco_117 80).trans rfl
theorem xc_117_81 : p_code 117 81 = some (.iastore, 1) := (xco_117 81).trans rfl
theorem xc_117_82 : p_code 117 82 = some (.aload_n 0, 1) := (xco_117 82).trans rfl
theorem xc_117_83 : p_code 117 83 = some (.getfield 22, 3) := (xco_117 83).trans rfl
theorem xf_117_22 : p_fld (p_own 117) 22 = some (6, 8) := by rw [xow_117]; rfl
theorem xc_117_86 : p_code 117 86 = some (.bipush 60, 2) := (xco_117 86).trans rfl
theorem xc_117_88 : p_code 117 88 = some (.iload_n 2, 1) := (xco_117 88).trans rfl
theorem xc_117_89 : p_code 117 89 = some (.iadd, 1) := (xco_117 89).trans rfl
theorem xc_117_90 : p_code 117 90 = some (.aload_n 0, 1) := (xco_117 90).trans rfl
theorem xc_117_91 : p_code 117 91 = some (.getfield 22, 3) := (xco_117 91).trans rfl
theorem xc_117_94 : p_code 117 94 = some (.iload 4, 2) := (xco_117 94).trans rfl
theorem xc_117_96 : p_code 117 96 = some (.iaload, 1) := (xco_117 96).trans rfl
theorem xc_117_97 : p_code 117 97 = some (.iastore, 1) := (xco_117 97).trans rfl
theorem xc_117_98 : p_code 117 98 = some (.aload_n 0, 1) := (xco_117 98).trans rfl
theorem xc_117_99 : p_code 117 99 = some (.getfield 25, 3) := (xco_117 99).trans rfl
theorem xf_117_25 : p_fld (p_own 117) 25 = some (6, 9) := by rw [xow_117]; rfl
theorem xc_117_102 : p_code 117 102 = some (.bipush 60, 2) := (xco_117 102).trans rfl
theorem xc_117_104 : p_code 117 104 = some (.iload_n 2, 1) := (xco_117 104).trans rfl
theorem xc_117_105 : p_code 117 105 = some (.iadd, 1) := (xco_117 105).trans rfl
theorem xc_117_106 : p_code 117 106 = some (.aload_n 0, 1) := (xco_117 106).trans rfl
theorem xc_117_107 : p_code 117 107 = some (.getfield 25, 3) := (xco_117 107).trans rfl
theorem xc_117_110 : p_code 117 110 = some (.iload 4, 2) := (xco_117 110).trans rfl
theorem xc_117_112 : p_code 117 112 = some (.iaload, 1) := (xco_117 112).trans rfl
theorem xc_117_113 : p_code 117 113 = some (.iastore, 1) := (xco_117 113).trans rfl
theorem xc_117_114 : p_code 117 114 = some (.aload_n 0, 1) := (xco_117 114).trans rfl
theorem xc_117_115 : p_code 117 115 = some (.getfield 28, 3) := (xco_117 115).trans rfl
theorem xf_117_28 : p_fld (p_own 117) 28 = some (6, 10) := by rw [xow_117]; rfl
theorem xc_117_118 : p_code 117 118 = some (.bipush 60, 2) := (xco_117 118).trans rfl
theorem xc_117_120 : p_code 117 120 = some (.iload_n 2, 1) := (xco_117 120).trans rfl
theorem xc_117_121 : p_code 117 121 = some (.iadd, 1) := (xco_117 121).trans rfl
theorem xc_117_122 : p_code 117 122 = some (.aload_n 0, 1) := (xco_117 122).trans rfl
theorem xc_117_123 : p_code 117 123 = some (.getfield 28, 3) := (xco_117 123).trans rfl
theorem xc_117_126 : p_code 117 126 = some (.iload 4, 2) := (xco_117 126).trans rfl
theorem xc_117_128 : p_code 117 128 = some (.iaload, 1) := (xco_117 128).trans rfl
theorem xc_117_129 : p_code 117 129 = some (.iastore, 1) := (xco_117 129).trans rfl
theorem xc_117_130 : p_code 117 130 = some (.iconst 0, 1) := (xco_117 130).trans rfl
theorem xc_117_131 : p_code 117 131 = some (.istore 5, 2) := (xco_117 131).trans rfl
theorem xc_117_133 : p_code 117 133 = some (.iload 5, 2) := (xco_117 133).trans rfl
theorem xc_117_135 : p_code 117 135 = some (.aload_n 0, 1) := (xco_117 135).trans rfl
theorem xc_117_136 : p_code 117 136 = some (.getfield 28, 3) := (xco_117 136).trans rfl
theorem xc_117_139 : p_code 117 139 = some (.iload 4, 2) := (xco_117 139).trans rfl
theorem xc_117_141 : p_code 117 141 = some (.iaload, 1) := (xco_117 141).trans rfl
theorem xc_117_142 : p_code 117 142 = some (.if_icmp .ge 65, 3) := (xco_117 142).trans rfl
theorem xj_117_142 : p_tgt 142 (65) = 207 ∧ 0 ≤ ((142 : Nat) : Int) + (65) := ⟨by decide, by decide⟩
theorem xc_117_145 : p_code 117 145 = some (.aload_n 0, 1) := (xco_117 145).trans rfl
theorem xc_117_146 : p_code 117 146 = some (.getfield 31, 3) := (xco_117 146).trans rfl
theorem xf_117_31 : p_fld (p_own 117) 31 = some (6, 11) := by rw [xow_117]; rfl
theorem xc_117_149 : p_code 117 149 = some (.bipush 6, 2) := (xco_117 149).trans rfl
theorem xc_117_151 : p_code 117 151 = some (.bipush 60, 2) := (xco_117 151).trans rfl
theorem xc_117_153 : p_code 117 153 = some (.iload_n 2, 1) := (xco_117 153).trans rfl
theorem xc_117_154 : p_code 117 154 = some (.iadd, 1) := (xco_117 154).trans rfl
theorem xc_117_155 : p_code 117 155 = some (.imul, 1) := (xco_117 155).trans rfl
theorem xc_117_156 : p_code 117 156 = some (.iload 5, 2) := (xco_117 156).trans rfl
theorem xc_117_158 : p_code 117 158 = some (.iadd, 1) := (xco_117 158).trans rfl
theorem xc_117_159 : p_code 117 159 = some (.aload_n 0, 1) := (xco_117 159).trans rfl
theorem xc_117_160 : p_code 117 160 = some (.getfield 31, 3) := (xco_117 160).trans rfl
theorem xc_117_163 : p_code 117 163 = some (.bipush 6, 2) := (xco_117 163).trans rfl
theorem xc_117_165 : p_code 117 165 = some (.iload 4, 2) := (xco_117 165).trans rfl
theorem xc_117_167 : p_code 117 167 = some (.imul, 1) := (xco_117 167).trans rfl
theorem xc_117_168 : p_code 117 168 = some (.iload 5, 2) := (xco_117 168).trans rfl
theorem xc_117_170 : p_code 117 170 = some (.iadd, 1) := (xco_117 170).trans rfl
theorem xc_117_171 : p_code 117 171 = some (.iaload, 1) := (xco_117 171).trans rfl
theorem xc_117_172 : p_code 117 172 = some (.iastore, 1) := (xco_117 172).trans rfl
theorem xc_117_173 : p_code 117 173 = some (.aload_n 0, 1) := (xco_117 173).trans rfl
theorem xc_117_174 : p_code 117 174 = some (.getfield 34, 3) := (xco_117 174).trans rfl
theorem xf_117_34 : p_fld (p_own 117) 34 = some (6, 12) := by rw [xow_117]; rfl
theorem xc_117_177 : p_code 117 177 = some (.bipush 6, 2) := (xco_117 177).trans rfl
theorem xc_117_179 : p_code 117 179 = some (.bipush 60, 2) := (xco_117 179).trans rfl
set_option maxRecDepth 100000 in
theorem xc_117_181 : p_code 117 181 = some (.iload_n 2, 1) := (xco_117 181).trans rfl
set_option maxRecDepth 100000 in
theorem xc_117_182 : p_code 117 182 = some (.iadd, 1) := (xco_117 182).trans rfl
set_option maxRecDepth 100000 in
theorem xc_117_183 : p_code 117 183 = some (.imul, 1) := (xco_117 183).trans rfl
set_option maxRecDepth 100000 in
theorem xc_117_184 : p_code 117 184 = some (.iload 5, 2) := (xco_117 184).trans rfl
set_option maxRecDepth 100000 in
theorem xc_117_186 : p_code 117 186 = some (.iadd, 1) := (xco_117 186).trans rfl
set_option maxRecDepth 100000 in
theorem xc_117_187 : p_code 117 187 = some (.aload_n 0, 1) := (xco_117 187).trans rfl
set_option maxRecDepth 100000 in
theorem xc_117_188 : p_code 117 188 = some (.getfield 34, 3) := (xco_117 188).trans rfl
set_option maxRecDepth 100000 in
theorem xc_117_191 : p_code 117 191 = some (.bipush 6, 2) := (xco_117 191).trans rfl
set_option maxRecDepth 100000 in
theorem xc_117_193 : p_code 117 193 = some (.iload 4, 2) := (xco_117 193).trans rfl
set_option maxRecDepth 100000 in
theorem xc_117_195 : p_code 117 195 = some (.imul, 1) := (xco_117 195).trans rfl
set_option maxRecDepth 100000 in
theorem xc_117_196 : p_code 117 196 = some (.iload 5, 2) := (xco_117 196).trans rfl
set_option maxRecDepth 100000 in
theorem xc_117_198 : p_code 117 198 = some (.iadd, 1) := (xco_117 198).trans rfl
set_option maxRecDepth 100000 in
theorem xc_117_199 : p_code 117 199 = some (.iaload, 1) := (xco_117 199).trans rfl
set_option maxRecDepth 100000 in
theorem xc_117_200 : p_code 117 200 = some (.iastore, 1) := (xco_117 200).trans rfl
set_option maxRecDepth 100000 in
theorem xc_117_201 : p_code 117 201 = some (.iinc 5 1, 3) := (xco_117 201).trans rfl
set_option maxRecDepth 100000 in
theorem xc_117_204 : p_code 117 204 = some (.goto (-71), 3) := (xco_117 204).trans rfl
theorem xj_117_204 : p_tgt 204 (-71) = 133 ∧ 0 ≤ ((204 : Nat) : Int) + (-71) := ⟨by decide, by decide⟩
set_option maxRecDepth 100000 in
theorem xc_117_207 : p_code 117 207 = some (.iinc 2 1, 3) := (xco_117 207).trans rfl
set_option maxRecDepth 100000 in
theorem xc_117_210 : p_code 117 210 = some (.aload_n 0, 1) := (xco_117 210).trans rfl
set_option maxRecDepth 100000 in
theorem xc_117_211 : p_code 117 211 = some (.getfield 22, 3) := (xco_117 211).trans rfl
set_option maxRecDepth 100000 in
theorem xc_117_214 : p_code 117 214 = some (.iload 4, 2) := (xco_117 214).trans rfl
set_option maxRecDepth 100000 in
theorem xc_117_216 : p_code 117 216 = some (.iaload, 1) := (xco_117 216).trans rfl
set_option maxRecDepth 100000 in
theorem xc_117_217 : p_code 117 217 = some (.iconst (-1), 1) := (xco_117 217).trans rfl
set_option maxRecDepth 100000 in
theorem xc_117_218 : p_code 117 218 = some (.if_icmp .eq 34, 3) := (xco_117 218).trans rfl
theorem xj_117_218 : p_tgt 218 (34) = 252 ∧ 0 ≤ ((218 : Nat) : Int) + (34) := ⟨by decide, by decide⟩
set_option maxRecDepth 100000 in
theorem xc_117_221 : p_code 117 221 = some (.aload_n 0, 1) := (xco_117 221).trans rfl
set_option maxRecDepth 100000 in
theorem xc_117_222 : p_code 117 222 = some (.getfield 49, 3) := (xco_117 222).trans rfl
set_option maxRecDepth 100000 in
theorem xc_117_225 : p_code 117 225 = some (.iload_n 3, 1) := (xco_117 225).trans rfl
set_option maxRecDepth 100000 in
theorem xc_117_226 : p_code 117 226 = some (.aload_n 0, 1) := (xco_117 226).trans rfl
set_option maxRecDepth 100000 in
theorem xc_117_227 : p_code 117 227 = some (.getfield 25, 3) := (xco_117 227).trans rfl
set_option maxRecDepth 100000 in
theorem xc_117_230 : p_code 117 230 = some (.iload 4, 2) := (xco_117 230).trans rfl
set_option maxRecDepth 100000 in
theorem xc_117_232 : p_code 117 232 = some (.iaload, 1) := (xco_117 232).trans rfl
set_option maxRecDepth 100000 in
theorem xc_117_233 : p_code 117 233 = some (.iastore, 1) := (xco_117 233).trans rfl
set_option maxRecDepth 100000 in
theorem xc_117_234 : p_code 117 234 = some (.aload_n 0, 1) := (xco_117 234).trans rfl
set_option maxRecDepth 100000 in
theorem xc_117_235 : p_code 117 235 = some (.getfield 49, 3) := (xco_117 235).trans rfl
set_option maxRecDepth 100000 in
theorem xc_117_238 : p_code 117 238 = some (.iload_n 3, 1) := (xco_117 238).trans rfl
set_option maxRecDepth 100000 in
theorem xc_117_239 : p_code 117 239 = some (.iconst 1, 1) := (xco_117 239).trans rfl
set_option maxRecDepth 100000 in
theorem xc_117_240 : p_code 117 240 = some (.iadd, 1) := (xco_117 240).trans rfl
set_option maxRecDepth 100000 in
theorem xc_117_241 : p_code 117 241 = some (.aload_n 0, 1) := (xco_117 241).trans rfl
set_option maxRecDepth 100000 in
theorem xc_117_242 : p_code 117 242 = some (.getfield 22, 3) := (xco_117 242).trans rfl
set_option maxRecDepth 100000 in
theorem xc_117_245 : p_code 117 245 = some (.iload 4, 2) := (xco_117 245).trans rfl
set_option maxRecDepth 100000 in
theorem xc_117_247 : p_code 117 247 = some (.iaload, 1) := (xco_117 247).trans rfl
set_option maxRecDepth 100000 in
theorem xc_117_248 : p_code 117 248 = some (.iastore, 1) := (xco_117 248).trans rfl
set_option maxRecDepth 100000 in
theorem xc_117_249 : p_code 117 249 = some (.iinc 3 2, 3) := (xco_117 249).trans rfl
set_option maxRecDepth 100000 in
theorem xc_117_252 : p_code 117 252 = some (.goto (-241), 3) := (xco_117 252).trans rfl
theorem xj_117_252 : p_tgt 252 (-241) = 11 ∧ 0 ≤ ((252 : Nat) : Int) + (-241) := ⟨by decide, by decide⟩
set_option maxRecDepth 100000 in
theorem xc_117_255 : p_code 117 255 = some (.bipush 60, 2) := (xco_117 255).trans rfl
set_option maxRecDepth 100000 in
theorem xc_117_257 : p_code 117 257 = some (.istore 4, 2) := (xco_117 257).trans rfl
set_option maxRecDepth 100000 in
theorem xc_117_259 : p_code 117 259 = some (.iload 4, 2) := (xco_117 259).trans rfl
set_option maxRecDepth 100000 in
theorem xc_117_261 : p_code 117 261 = some (.bipush 60, 2) := (xco_117 261).trans rfl
set_option maxRecDepth 100000 in
theorem xc_117_263 : p_code 117 263 = some (.iload_n 2, 1) := (xco_117 263).trans rfl
set_option maxRecDepth 100000 in
theorem xc_117_264 : p_code 117 264 = some (.iadd, 1) := (xco_117 264).trans rfl
set_option maxRecDepth 100000 in
theorem xc_117_265 : p_code 117 265 = some (.if_icmp .ge 58, 3) := (xco_117 265).trans rfl
theorem xj_117_265 : p_tgt 265 (58) = 323 ∧ 0 ≤ ((265 : Nat) : Int) + (58) := ⟨by decide, by decide⟩
set_option maxRecDepth 100000 in
theorem xc_117_268 : p_code 117 268 = some (.aload_n 0, 1) := (xco_117 268).trans rfl
set_option maxRecDepth 100000 in
theorem xc_117_269 : p_code 117 269 = some (.getfield 22, 3) := (xco_117 269).trans rfl
set_option maxRecDepth 100000 in
theorem xc_117_272 : p_code 117 272 = some (.iload 4, 2) := (xco_117 272).trans rfl
set_option maxRecDepth 100000 in
theorem xc_117_274 : p_code 117 274 = some (.iaload, 1) := (xco_117 274).trans rfl
set_option maxRecDepth 100000 in
theorem xc_117_275 : p_code 117 275 = some (.iconst (-1), 1) := (xco_117 275).trans rfl
set_option maxRecDepth 100000 in
theorem xc_117_276 : p_code 117 276 = some (.if_icmp .eq 41, 3) := (xco_117 276).trans rfl
theorem xj_117_276 : p_tgt 276 (41) = 317 ∧ 0 ≤ ((276 : Nat) : Int) + (41) := ⟨by decide, by decide⟩
set_option maxRecDepth 100000 in
theorem xc_117_279 : p_code 117 279 = some (.aload_n 0, 1) := (xco_117 279).trans rfl
set_option maxRecDepth 100000 in
theorem xc_117_280 : p_code 117 280 = some (.getfield 22, 3) := (xco_117 280).trans rfl
set_option maxRecDepth 100000 in
theorem xc_117_283 : p_code 117 283 = some (.iload 4, 2) := (xco_117 283).trans rfl
set_option maxRecDepth 100000 in
theorem xc_117_285 : p_code 117 285 = some (.aload_n 0, 1) := (xco_117 285).trans rfl
set_option maxRecDepth 100000 in
theorem xc_117_286 : p_code 117 286 = some (.getfield 52, 3) := (xco_117 286).trans rfl
set_option maxRecDepth 100000 in
theorem xc_117_289 : p_code 117 289 = some (.aload_n 0, 1) := (xco_117 289).trans rfl
set_option maxRecDepth 100000 in
theorem xc_117_290 : p_code 117 290 = some (.getfield 22, 3) := (xco_117 290).trans rfl
set_option maxRecDepth 100000 in
theorem xc_117_293 : p_code 117 293 = some (.iload 4, 2) := (xco_117 293).trans rfl
set_option maxRecDepth 100000 in
theorem xc_117_295 : p_code 117 295 = some (.iaload, 1) := (xco_117 295).trans rfl
set_option maxRecDepth 100000 in
theorem xc_117_296 : p_code 117 296 = some (.iaload, 1) := (xco_117 296).trans rfl
set_option maxRecDepth 100000 in
theorem xc_117_297 : p_code 117 297 = some (.iastore, 1) := (xco_117 297).trans rfl
set_option maxRecDepth 100000 in
theorem xc_117_298 : p_code 117 298 = some (.aload_n 0, 1) := (xco_117 298).trans rfl
set_option maxRecDepth 100000 in
theorem xc_117_299 : p_code 117 299 = some (.getfield 25, 3) := (xco_117 299).trans rfl
set_option maxRecDepth 100000 in
theorem xc_117_302 : p_code 117 302 = some (.iload 4, 2) := (xco_117 302).trans rfl
set_option maxRecDepth 100000 in
theorem xc_117_304 : p_code 117 304 = some (.aload_n 0, 1) := (xco_117 304).trans rfl
set_option maxRecDepth 100000 in
theorem xc_117_305 : p_code 117 305 = some (.getfield 52, 3) := (xco_117 305).trans rfl
set_option maxRecDepth 100000 in
theorem xc_117_308 : p_code 117 308 = some (.aload_n 0, 1) := (xco_117 308).trans rfl
set_option maxRecDepth 100000 in
theorem xc_117_309 : p_code 117 309 = some (.getfield 25, 3) := (xco_117 309).trans rfl
set_option maxRecDepth 100000 in
theorem xc_117_312 : p_code 117 312 = some (.iload 4, 2) := (xco_117 312).trans rfl
set_option maxRecDepth 100000 in
theorem xc_117_314 : p_code 117 314 = some (.iaload, 1) := (xco_117 314).trans rfl
set_option maxRecDepth 100000 in
theorem xc_117_315 : p_code 117 315 = some (.iaload, 1) := (xco_117 315).trans rfl
set_option maxRecDepth 100000 in
theorem xc_117_316 : p_code 117 316 = some (.iastore, 1) := (xco_117 316).trans rfl
set_option maxRecDepth 100000 in
theorem xc_117_317 : p_code 117 317 = some (.iinc 4 1, 3) := (xco_117 317).trans rfl
set_option maxRecDepth 100000 in
theorem xc_117_320 : p_code 117 320 = some (.goto (-61), 3) := (xco_117 320).trans rfl
theorem xj_117_320 : p_tgt 320 (-61) = 259 ∧ 0 ≤ ((320 : Nat) : Int) + (-61) := ⟨by decide, by decide⟩
set_option maxRecDepth 100000 in
theorem xc_117_323 : p_code 117 323 = some (.aload_n 0, 1) := (xco_117 323).trans rfl
set_option maxRecDepth 100000 in
theorem xc_117_324 : p_code 117 324 = some (.iload_n 2, 1) := (xco_117 324).trans rfl
set_option maxRecDepth 100000 in
theorem xc_117_325 : p_code 117 325 = some (.putfield 174, 3) := (xco_117 325).trans rfl
theorem xf_117_174 : p_fld (p_own 117) 174 = some (6, 15) := by rw [xow_117]; rfl
set_option maxRecDepth 100000 in
theorem xc_117_328 : p_code 117 328 = some (.return_, 1) := (xco_117 328).trans rfl
theorem xrt_117 : p_rty 117 = none := rfl
theorem xhh_117 : p_hh 117 = [] := rfl
theorem xin_117 {x1 : Int32} : p_in0 117 [.ref 22, .int x1] = [some (.ref 22), some (.int x1), none, none, none, none] := rfl
theorem xrc_117 {z : Nat → Int32} {a : Nat → Nat → Int32} {w : Nat → Nat → Int64} {y : Nat → Int64} {g : List pE} {x1 : Int32} : p_recv 117 [.ref 22, .int x1] (hp z a w y g) = true := rfl
theorem xco_118 (pc : Nat) : p_code 118 pc = p_find pc pc_118 := rfl
theorem xow_118 : p_own 118 = 6 := rfl
theorem xc_118_0 : p_code 118 0 = some (.aload_n 0, 1) := (xco_118 0).trans rfl
theorem xc_118_1 : p_code 118 1 = some (.iconst 0, 1) := (xco_118 1).trans rfl
theorem xc_118_2 : p_code 118 2 = some (.putfield 73, 3) := (xco_118 2).trans rfl
theorem xf_118_73 : p_fld (p_own 118) 73 = some (6, 4) := by rw [xow_118]; rfl
theorem xc_118_5 : p_code 118 5 = some (.lload_n 1, 1) := (xco_118 5).trans rfl
theorem xc_118_6 : p_code 118 6 = some (.lconst 0, 1) := (xco_118 6).trans rfl
theorem xc_118_7 : p_code 118 7 = some (.lcmp, 1) := (xco_118 7).trans rfl
theorem xc_118_8 : p_code 118 8 = some (.ifCond .lt 11, 3) := (xco_118 8).trans rfl
theorem xj_118_8 : p_tgt 8 (11) = 19 ∧ 0 ≤ ((8 : Nat) : Int) + (11) := ⟨by decide, by decide⟩
theorem xc_118_11 : p_code 118 11 = some (.lload_n 1, 1) := (xco_118 11).trans rfl
theorem xc_118_12 : p_code 118 12 = some (.ldc2_w 189, 3) := (xco_118 12).trans rfl
theorem xl_118_189 : p_lng (p_own 118) 189 = some (100000000) := by rw [xow_118]; rfl
theorem xc_118_15 : p_code 118 15 = some (.lcmp, 1) := (xco_118 15).trans rfl
theorem xc_118_16 : p_code 118 16 = some (.ifCond .le 5, 3) := (xco_118 16).trans rfl
theorem xj_118_16 : p_tgt 16 (5) = 21 ∧ 0 ≤ ((16 : Nat) : Int) + (5) := ⟨by decide, by decide⟩
theorem xc_118_19 : p_code 118 19 = some (.iconst 0, 1) := (xco_118 19).trans rfl
theorem xc_118_20 : p_code 118 20 = some (.ireturn, 1) := (xco_118 20).trans rfl
theorem xc_118_21 : p_code 118 21 = some (.aload_n 0, 1) := (xco_118 21).trans rfl
theorem xc_118_22 : p_code 118 22 = some (.lload_n 1, 1) := (xco_118 22).trans rfl
theorem xc_118_23 : p_code 118 23 = some (.putfield 191, 3) := (xco_118 23).trans rfl
theorem xf_118_191 : p_fld (p_own 118) 191 = some (6, 25) := by rw [xow_118]; rfl
theorem xc_118_26 : p_code 118 26 = some (.iconst 1, 1) := (xco_118 26).trans rfl
theorem xc_118_27 : p_code 118 27 = some (.ireturn, 1) := (xco_118 27).trans rfl
theorem xrt_118 : p_rty 118 = some .boolean := rfl
theorem xhh_118 : p_hh 118 = [] := rfl
theorem xin_118 {x1 : Int64} : p_in0 118 [.ref 22, .long x1] = [some (.ref 22), some (.long x1), none] := rfl
theorem xrc_118 {z : Nat → Int32} {a : Nat → Nat → Int32} {w : Nat → Nat → Int64} {y : Nat → Int64} {g : List pE} {x1 : Int64} : p_recv 118 [.ref 22, .long x1] (hp z a w y g) = true := rfl
theorem xco_119 (pc : Nat) : p_code 119 pc = p_find pc pc_119 := rfl
theorem xow_119 : p_own 119 = 6 := rfl
theorem xc_119_0 : p_code 119 0 = some (.aload_n 0, 1) := (xco_119 0).trans rfl
theorem xc_119_1 : p_code 119 1 = some (.iconst 0, 1) := (xco_119 1).trans rfl
theorem xc_119_2 : p_code 119 2 = some (.putfield 73, 3) := (xco_119 2).trans rfl
theorem xf_119_73 : p_fld (p_own 119) 73 = some (6, 4) := by rw [xow_119]; rfl
theorem xc_119_5 : p_code 119 5 = some (.iload_n 1, 1) := (xco_119 5).trans rfl
theorem xc_119_6 : p_code 119 6 = some (.invokestatic 195, 3) := (xco_119 6).trans rfl
theorem xm_119_6 : p_calls 119 (.invokestatic 195) = some (120, 1) := by dsimp only [p_calls]; rw [xow_119]; rfl
theorem xc_119_9 : p_code 119 9 = some (.ifCond .eq 19, 3) := (xco_119 9).trans rfl
theorem xj_119_9 : p_tgt 9 (19) = 28 ∧ 0 ≤ ((9 : Nat) : Int) + (19) := ⟨by decide, by decide⟩
theorem xc_119_12 : p_code 119 12 = some (.lload_n 2, 1) := (xco_119 12).trans rfl
theorem xc_119_13 : p_code 119 13 = some (.ldc2_w 71, 3) := (xco_119 13).trans rfl
theorem xl_119_71 : p_lng (p_own 119) 71 = some (-1) := by rw [xow_119]; rfl
theorem xc_119_16 : p_code 119 16 = some (.lcmp, 1) := (xco_119 16).trans rfl
theorem xc_119_17 : p_code 119 17 = some (.ifCond .lt 11, 3) := (xco_119 17).trans rfl
theorem xj_119_17 : p_tgt 17 (11) = 28 ∧ 0 ≤ ((17 : Nat) : Int) + (11) := ⟨by decide, by decide⟩
theorem xc_119_20 : p_code 119 20 = some (.lload_n 2, 1) := (xco_119 20).trans rfl
theorem xc_119_21 : p_code 119 21 = some (.ldc2_w 189, 3) := (xco_119 21).trans rfl
theorem xl_119_189 : p_lng (p_own 119) 189 = some (100000000) := by rw [xow_119]; rfl
theorem xc_119_24 : p_code 119 24 = some (.lcmp, 1) := (xco_119 24).trans rfl
theorem xc_119_25 : p_code 119 25 = some (.ifCond .le 5, 3) := (xco_119 25).trans rfl
theorem xj_119_25 : p_tgt 25 (5) = 30 ∧ 0 ≤ ((25 : Nat) : Int) + (5) := ⟨by decide, by decide⟩
theorem xc_119_28 : p_code 119 28 = some (.iconst 0, 1) := (xco_119 28).trans rfl
theorem xc_119_29 : p_code 119 29 = some (.ireturn, 1) := (xco_119 29).trans rfl
theorem xc_119_30 : p_code 119 30 = some (.aload_n 0, 1) := (xco_119 30).trans rfl
theorem xc_119_31 : p_code 119 31 = some (.getfield 55, 3) := (xco_119 31).trans rfl
theorem xf_119_55 : p_fld (p_own 119) 55 = some (6, 26) := by rw [xow_119]; rfl
theorem xc_119_34 : p_code 119 34 = some (.iload_n 1, 1) := (xco_119 34).trans rfl
theorem xc_119_35 : p_code 119 35 = some (.lload_n 2, 1) := (xco_119 35).trans rfl
theorem xc_119_36 : p_code 119 36 = some (.lastore, 1) := (xco_119 36).trans rfl
theorem xc_119_37 : p_code 119 37 = some (.iconst 1, 1) := (xco_119 37).trans rfl
theorem xc_119_38 : p_code 119 38 = some (.ireturn, 1) := (xco_119 38).trans rfl
theorem xrt_119 : p_rty 119 = some .boolean := rfl
theorem xhh_119 : p_hh 119 = [] := rfl
theorem xin_119 {x1 : Int32} {x2 : Int64} : p_in0 119 [.ref 22, .int x1, .long x2] = [some (.ref 22), some (.int x1), some (.long x2), none] := rfl
theorem xrc_119 {z : Nat → Int32} {a : Nat → Nat → Int32} {w : Nat → Nat → Int64} {y : Nat → Int64} {g : List pE} {x1 : Int32} {x2 : Int64} : p_recv 119 [.ref 22, .int x1, .long x2] (hp z a w y g) = true := rfl
theorem xco_120 (pc : Nat) : p_code 120 pc = p_find pc pc_120 := rfl
theorem xow_120 : p_own 120 = 6 := rfl
theorem xc_120_0 : p_code 120 0 = some (.iload_n 0, 1) := (xco_120 0).trans rfl
theorem xc_120_1 : p_code 120 1 = some (.ifCond .lt 13, 3) := (xco_120 1).trans rfl
theorem xj_120_1 : p_tgt 1 (13) = 14 ∧ 0 ≤ ((1 : Nat) : Int) + (13) := ⟨by decide, by decide⟩
theorem xc_120_4 : p_code 120 4 = some (.iload_n 0, 1) := (xco_120 4).trans rfl
theorem xc_120_5 : p_code 120 5 = some (.bipush 8, 2) := (xco_120 5).trans rfl
theorem xc_120_7 : p_code 120 7 = some (.if_icmp .ge 7, 3) := (xco_120 7).trans rfl
theorem xj_120_7 : p_tgt 7 (7) = 14 ∧ 0 ≤ ((7 : Nat) : Int) + (7) := ⟨by decide, by decide⟩
theorem xc_120_10 : p_code 120 10 = some (.iconst 1, 1) := (xco_120 10).trans rfl
theorem xc_120_11 : p_code 120 11 = some (.goto 4, 3) := (xco_120 11).trans rfl
theorem xj_120_11 : p_tgt 11 (4) = 15 ∧ 0 ≤ ((11 : Nat) : Int) + (4) := ⟨by decide, by decide⟩
theorem xc_120_14 : p_code 120 14 = some (.iconst 0, 1) := (xco_120 14).trans rfl
theorem xc_120_15 : p_code 120 15 = some (.ireturn, 1) := (xco_120 15).trans rfl
theorem xrt_120 : p_rty 120 = some .boolean := rfl
theorem xhh_120 : p_hh 120 = [] := rfl
theorem xin_120 {x0 : Int32} : p_in0 120 [.int x0] = [some (.int x0)] := rfl
theorem xrc_120 {z : Nat → Int32} {a : Nat → Nat → Int32} {w : Nat → Nat → Int64} {y : Nat → Int64} {g : List pE} {x0 : Int32} : p_recv 120 [.int x0] (hp z a w y g) = true := rfl
theorem xco_121 (pc : Nat) : p_code 121 pc = p_find pc pc_121 := rfl
theorem xow_121 : p_own 121 = 6 := rfl
theorem xc_121_0 : p_code 121 0 = some (.aload_n 0, 1) := (xco_121 0).trans rfl
theorem xc_121_1 : p_code 121 1 = some (.iconst 0, 1) := (xco_121 1).trans rfl
theorem xc_121_2 : p_code 121 2 = some (.putfield 73, 3) := (xco_121 2).trans rfl
theorem xf_121_73 : p_fld (p_own 121) 73 = some (6, 4) := by rw [xow_121]; rfl
theorem xc_121_5 : p_code 121 5 = some (.iload_n 1, 1) := (xco_121 5).trans rfl
theorem xc_121_6 : p_code 121 6 = some (.invokestatic 195, 3) := (xco_121 6).trans rfl
theorem xm_121_6 : p_calls 121 (.invokestatic 195) = some (120, 1) := by dsimp only [p_calls]; rw [xow_121]; rfl
theorem xc_121_9 : p_code 121 9 = some (.ifCond .eq 21, 3) := (xco_121 9).trans rfl
theorem xj_121_9 : p_tgt 9 (21) = 30 ∧ 0 ≤ ((9 : Nat) : Int) + (21) := ⟨by decide, by decide⟩
theorem xc_121_12 : p_code 121 12 = some (.iload_n 2, 1) := (xco_121 12).trans rfl
theorem xc_121_13 : p_code 121 13 = some (.invokestatic 195, 3) := (xco_121 13).trans rfl
theorem xm_121_13 : p_calls 121 (.invokestatic 195) = some (120, 1) := by dsimp only [p_calls]; rw [xow_121]; rfl
theorem xc_121_16 : p_code 121 16 = some (.ifCond .eq 14, 3) := (xco_121 16).trans rfl
theorem xj_121_16 : p_tgt 16 (14) = 30 ∧ 0 ≤ ((16 : Nat) : Int) + (14) := ⟨by decide, by decide⟩
theorem xc_121_19 : p_code 121 19 = some (.iload_n 3, 1) := (xco_121 19).trans rfl
theorem xc_121_20 : p_code 121 20 = some (.ifCond .lt 10, 3) := (xco_121 20).trans rfl
theorem xj_121_20 : p_tgt 20 (10) = 30 ∧ 0 ≤ ((20 : Nat) : Int) + (10) := ⟨by decide, by decide⟩
theorem xc_121_23 : p_code 121 23 = some (.iload_n 3, 1) := (xco_121 23).trans rfl
theorem xc_121_24 : p_code 121 24 = some (.sipush 1000, 3) := (xco_121 24).trans rfl
theorem xc_121_27 : p_code 121 27 = some (.if_icmp .le 5, 3) := (xco_121 27).trans rfl
theorem xj_121_27 : p_tgt 27 (5) = 32 ∧ 0 ≤ ((27 : Nat) : Int) + (5) := ⟨by decide, by decide⟩
theorem xc_121_30 : p_code 121 30 = some (.iconst 0, 1) := (xco_121 30).trans rfl
theorem xc_121_31 : p_code 121 31 = some (.ireturn, 1) := (xco_121 31).trans rfl
theorem xc_121_32 : p_code 121 32 = some (.iload_n 2, 1) := (xco_121 32).trans rfl
theorem xc_121_33 : p_code 121 33 = some (.istore 4, 2) := (xco_121 33).trans rfl
theorem xc_121_35 : p_code 121 35 = some (.iconst 0, 1) := (xco_121 35).trans rfl
theorem xc_121_36 : p_code 121 36 = some (.istore 5, 2) := (xco_121 36).trans rfl
theorem xc_121_38 : p_code 121 38 = some (.iload 5, 2) := (xco_121 38).trans rfl
theorem xc_121_40 : p_code 121 40 = some (.bipush 8, 2) := (xco_121 40).trans rfl
theorem xc_121_42 : p_code 121 42 = some (.if_icmp .ge 47, 3) := (xco_121 42).trans rfl
theorem xj_121_42 : p_tgt 42 (47) = 89 ∧ 0 ≤ ((42 : Nat) : Int) + (47) := ⟨by decide, by decide⟩
theorem xc_121_45 : p_code 121 45 = some (.iload_n 3, 1) := (xco_121 45).trans rfl
theorem xc_121_46 : p_code 121 46 = some (.ifCond .le 43, 3) := (xco_121 46).trans rfl
theorem xj_121_46 : p_tgt 46 (43) = 89 ∧ 0 ≤ ((46 : Nat) : Int) + (43) := ⟨by decide, by decide⟩
theorem xc_121_49 : p_code 121 49 = some (.iload 4, 2) := (xco_121 49).trans rfl
theorem xc_121_51 : p_code 121 51 = some (.iload_n 1, 1) := (xco_121 51).trans rfl
theorem xc_121_52 : p_code 121 52 = some (.if_icmp .ne 5, 3) := (xco_121 52).trans rfl
theorem xj_121_52 : p_tgt 52 (5) = 57 ∧ 0 ≤ ((52 : Nat) : Int) + (5) := ⟨by decide, by decide⟩
theorem xc_121_55 : p_code 121 55 = some (.iconst 0, 1) := (xco_121 55).trans rfl
theorem xc_121_56 : p_code 121 56 = some (.ireturn, 1) := (xco_121 56).trans rfl
theorem xc_121_57 : p_code 121 57 = some (.aload_n 0, 1) := (xco_121 57).trans rfl
theorem xc_121_58 : p_code 121 58 = some (.getfield 62, 3) := (xco_121 58).trans rfl
theorem xf_121_62 : p_fld (p_own 121) 62 = some (6, 28) := by rw [xow_121]; rfl
theorem xc_121_61 : p_code 121 61 = some (.iload 4, 2) := (xco_121 61).trans rfl
theorem xc_121_63 : p_code 121 63 = some (.iaload, 1) := (xco_121 63).trans rfl
theorem xc_121_64 : p_code 121 64 = some (.ifCond .ne 10, 3) := (xco_121 64).trans rfl
theorem xj_121_64 : p_tgt 64 (10) = 74 ∧ 0 ≤ ((64 : Nat) : Int) + (10) := ⟨by decide, by decide⟩
theorem xc_121_67 : p_code 121 67 = some (.bipush 8, 2) := (xco_121 67).trans rfl
theorem xc_121_69 : p_code 121 69 = some (.istore 5, 2) := (xco_121 69).trans rfl
theorem xc_121_71 : p_code 121 71 = some (.goto 12, 3) := (xco_121 71).trans rfl
theorem xj_121_71 : p_tgt 71 (12) = 83 ∧ 0 ≤ ((71 : Nat) : Int) + (12) := ⟨by decide, by decide⟩
theorem xc_121_74 : p_code 121 74 = some (.aload_n 0, 1) := (xco_121 74).trans rfl
theorem xc_121_75 : p_code 121 75 = some (.getfield 59, 3) := (xco_121 75).trans rfl
theorem xf_121_59 : p_fld (p_own 121) 59 = some (6, 27) := by rw [xow_121]; rfl
theorem xc_121_78 : p_code 121 78 = some (.iload 4, 2) := (xco_121 78).trans rfl
theorem xc_121_80 : p_code 121 80 = some (.iaload, 1) := (xco_121 80).trans rfl
theorem xc_121_81 : p_code 121 81 = some (.istore 4, 2) := (xco_121 81).trans rfl
theorem xc_121_83 : p_code 121 83 = some (.iinc 5 1, 3) := (xco_121 83).trans rfl
theorem xc_121_86 : p_code 121 86 = some (.goto (-48), 3) := (xco_121 86).trans rfl
theorem xj_121_86 : p_tgt 86 (-48) = 38 ∧ 0 ≤ ((86 : Nat) : Int) + (-48) := ⟨by decide, by decide⟩
theorem xc_121_89 : p_code 121 89 = some (.aload_n 0, 1) := (xco_121 89).trans rfl
theorem xc_121_90 : p_code 121 90 = some (.getfield 59, 3) := (xco_121 90).trans rfl
theorem xc_121_93 : p_code 121 93 = some (.iload_n 1, 1) := (xco_121 93).trans rfl
theorem xc_121_94 : p_code 121 94 = some (.iload_n 2, 1) := (xco_121 94).trans rfl
theorem xc_121_95 : p_code 121 95 = some (.iastore, 1) := (xco_121 95).trans rfl
theorem xc_121_96 : p_code 121 96 = some (.aload_n 0, 1) := (xco_121 96).trans rfl
theorem xc_121_97 : p_code 121 97 = some (.getfield 62, 3) := (xco_121 97).trans rfl
theorem xc_121_100 : p_code 121 100 = some (.iload_n 1, 1) := (xco_121 100).trans rfl
theorem xc_121_101 : p_code 121 101 = some (.iload_n 3, 1) := (xco_121 101).trans rfl
theorem xc_121_102 : p_code 121 102 = some (.iastore, 1) := (xco_121 102).trans rfl
theorem xc_121_103 : p_code 121 103 = some (.iconst 1, 1) := (xco_121 103).trans rfl
theorem xc_121_104 : p_code 121 104 = some (.ireturn, 1) := (xco_121 104).trans rfl
theorem xrt_121 : p_rty 121 = some .boolean := rfl
theorem xhh_121 : p_hh 121 = [] := rfl
theorem xin_121 {x1 : Int32} {x2 : Int32} {x3 : Int32} : p_in0 121 [.ref 22, .int x1, .int x2, .int x3] = [some (.ref 22), some (.int x1), some (.int x2), some (.int x3), none, none] := rfl
theorem xrc_121 {z : Nat → Int32} {a : Nat → Nat → Int32} {w : Nat → Nat → Int64} {y : Nat → Int64} {g : List pE} {x1 : Int32} {x2 : Int32} {x3 : Int32} : p_recv 121 [.ref 22, .int x1, .int x2, .int x3] (hp z a w y g) = true := rfl
theorem xco_122 (pc : Nat) : p_code 122 pc = p_find pc pc_122 := rfl
theorem xow_122 : p_own 122 = 6 := rfl
theorem xc_122_0 : p_code 122 0 = some (.aload_n 0, 1) := (xco_122 0).trans rfl
theorem xc_122_1 : p_code 122 1 = some (.iload_n 1, 1) := (xco_122 1).trans rfl
theorem xc_122_2 : p_code 122 2 = some (.ifCond .eq 8, 3) := (xco_122 2).trans rfl
theorem xj_122_2 : p_tgt 2 (8) = 10 ∧ 0 ≤ ((2 : Nat) : Int) + (8) := ⟨by decide, by decide⟩
theorem xc_122_5 : p_code 122 5 = some (.iload_n 1, 1) := (xco_122 5).trans rfl
theorem xc_122_6 : p_code 122 6 = some (.iconst 1, 1) := (xco_122 6).trans rfl
theorem xc_122_7 : p_code 122 7 = some (.if_icmp .ne 7, 3) := (xco_122 7).trans rfl
theorem xj_122_7 : p_tgt 7 (7) = 14 ∧ 0 ≤ ((7 : Nat) : Int) + (7) := ⟨by decide, by decide⟩
theorem xc_122_10 : p_code 122 10 = some (.iconst 0, 1) := (xco_122 10).trans rfl
theorem xc_122_11 : p_code 122 11 = some (.goto 4, 3) := (xco_122 11).trans rfl
theorem xj_122_11 : p_tgt 11 (4) = 15 ∧ 0 ≤ ((11 : Nat) : Int) + (4) := ⟨by decide, by decide⟩
theorem xc_122_14 : p_code 122 14 = some (.iconst 1, 1) := (xco_122 14).trans rfl
theorem xc_122_15 : p_code 122 15 = some (.putfield 73, 3) := (xco_122 15).trans rfl
theorem xf_122_73 : p_fld (p_own 122) 73 = some (6, 4) := by rw [xow_122]; rfl
theorem xc_122_18 : p_code 122 18 = some (.aload_n 0, 1) := (xco_122 18).trans rfl
theorem xc_122_19 : p_code 122 19 = some (.getfield 73, 3) := (xco_122 19).trans rfl
theorem xc_122_22 : p_code 122 22 = some (.ifCond .ne 11, 3) := (xco_122 22).trans rfl
theorem xj_122_22 : p_tgt 22 (11) = 33 ∧ 0 ≤ ((22 : Nat) : Int) + (11) := ⟨by decide, by decide⟩
theorem xc_122_25 : p_code 122 25 = some (.aload_n 0, 1) := (xco_122 25).trans rfl
theorem xc_122_26 : p_code 122 26 = some (.iconst 2, 1) := (xco_122 26).trans rfl
theorem xc_122_27 : p_code 122 27 = some (.invokevirtual 219, 3) := (xco_122 27).trans rfl
theorem xm_122_27 : p_calls 122 (.invokevirtual 219) = some (123, 2) := by dsimp only [p_calls]; rw [xow_122]; rfl
theorem xc_122_30 : p_code 122 30 = some (.ifCond .ne 5, 3) := (xco_122 30).trans rfl
theorem xj_122_30 : p_tgt 30 (5) = 35 ∧ 0 ≤ ((30 : Nat) : Int) + (5) := ⟨by decide, by decide⟩
theorem xc_122_33 : p_code 122 33 = some (.lconst 0, 1) := (xco_122 33).trans rfl
theorem xc_122_34 : p_code 122 34 = some (.lreturn, 1) := (xco_122 34).trans rfl
theorem xc_122_35 : p_code 122 35 = some (.aload_n 0, 1) := (xco_122 35).trans rfl
theorem xc_122_36 : p_code 122 36 = some (.invokevirtual 222, 3) := (xco_122 36).trans rfl
theorem xm_122_36 : p_calls 122 (.invokevirtual 222) = some (128, 1) := by dsimp only [p_calls]; rw [xow_122]; rfl
theorem xc_122_39 : p_code 122 39 = some (.lstore_n 2, 1) := (xco_122 39).trans rfl
theorem xc_122_40 : p_code 122 40 = some (.ldc2_w 202, 3) := (xco_122 40).trans rfl
theorem xl_122_202 : p_lng (p_own 122) 202 = some (1000000) := by rw [xow_122]; rfl
theorem xc_122_43 : p_code 122 43 = some (.lstore 4, 2) := (xco_122 43).trans rfl
theorem xc_122_45 : p_code 122 45 = some (.lload 4, 2) := (xco_122 45).trans rfl
theorem xc_122_47 : p_code 122 47 = some (.lconst 0, 1) := (xco_122 47).trans rfl
theorem xc_122_48 : p_code 122 48 = some (.lcmp, 1) := (xco_122 48).trans rfl
theorem xc_122_49 : p_code 122 49 = some (.ifCond .eq 19, 3) := (xco_122 49).trans rfl
theorem xj_122_49 : p_tgt 49 (19) = 68 ∧ 0 ≤ ((49 : Nat) : Int) + (19) := ⟨by decide, by decide⟩
theorem xc_122_52 : p_code 122 52 = some (.lload_n 2, 1) := (xco_122 52).trans rfl
theorem xc_122_53 : p_code 122 53 = some (.lload 4, 2) := (xco_122 53).trans rfl
theorem xc_122_55 : p_code 122 55 = some (.lrem, 1) := (xco_122 55).trans rfl
theorem xc_122_56 : p_code 122 56 = some (.lstore 6, 2) := (xco_122 56).trans rfl
theorem xc_122_58 : p_code 122 58 = some (.lload 4, 2) := (xco_122 58).trans rfl
theorem xc_122_60 : p_code 122 60 = some (.lstore_n 2, 1) := (xco_122 60).trans rfl
theorem xc_122_61 : p_code 122 61 = some (.lload 6, 2) := (xco_122 61).trans rfl
theorem xc_122_63 : p_code 122 63 = some (.lstore 4, 2) := (xco_122 63).trans rfl
theorem xc_122_65 : p_code 122 65 = some (.goto (-20), 3) := (xco_122 65).trans rfl
theorem xj_122_65 : p_tgt 65 (-20) = 45 ∧ 0 ≤ ((65 : Nat) : Int) + (-20) := ⟨by decide, by decide⟩
theorem xc_122_68 : p_code 122 68 = some (.iload_n 1, 1) := (xco_122 68).trans rfl
theorem xc_122_69 : p_code 122 69 = some (.ifCond .ne 12, 3) := (xco_122 69).trans rfl
theorem xj_122_69 : p_tgt 69 (12) = 81 ∧ 0 ≤ ((69 : Nat) : Int) + (12) := ⟨by decide, by decide⟩
theorem xc_122_72 : p_code 122 72 = some (.aload_n 0, 1) := (xco_122 72).trans rfl
theorem xc_122_73 : p_code 122 73 = some (.invokevirtual 222, 3) := (xco_122 73).trans rfl
theorem xm_122_73 : p_calls 122 (.invokevirtual 222) = some (128, 1) := by dsimp only [p_calls]; rw [xow_122]; rfl
theorem xc_122_76 : p_code 122 76 = some (.lload_n 2, 1) := (xco_122 76).trans rfl
theorem xc_122_77 : p_code 122 77 = some (.ldiv, 1) := (xco_122 77).trans rfl
theorem xc_122_78 : p_code 122 78 = some (.goto 8, 3) := (xco_122 78).trans rfl
theorem xj_122_78 : p_tgt 78 (8) = 86 ∧ 0 ≤ ((78 : Nat) : Int) + (8) := ⟨by decide, by decide⟩
theorem xc_122_81 : p_code 122 81 = some (.ldc2_w 202, 3) := (xco_122 81).trans rfl
theorem xc_122_84 : p_code 122 84 = some (.lload_n 2, 1) := (xco_122 84).trans rfl
theorem xc_122_85 : p_code 122 85 = some (.ldiv, 1) := (xco_122 85).trans rfl
theorem xc_122_86 : p_code 122 86 = some (.lreturn, 1) := (xco_122 86).trans rfl
theorem xrt_122 : p_rty 122 = some .long := rfl
theorem xhh_122 : p_hh 122 = [] := rfl
theorem xin_122 {x1 : Int32} : p_in0 122 [.ref 22, .int x1] = [some (.ref 22), some (.int x1), none, none, none, none, none, none] := rfl
theorem xrc_122 {z : Nat → Int32} {a : Nat → Nat → Int32} {w : Nat → Nat → Int64} {y : Nat → Int64} {g : List pE} {x1 : Int32} : p_recv 122 [.ref 22, .int x1] (hp z a w y g) = true := rfl
theorem xco_123 (pc : Nat) : p_code 123 pc = p_find pc pc_123 := rfl
theorem xow_123 : p_own 123 = 6 := rfl
theorem xc_123_0 : p_code 123 0 = some (.aload_n 0, 1) := (xco_123 0).trans rfl
theorem xc_123_1 : p_code 123 1 = some (.aload_n 0, 1) := (xco_123 1).trans rfl
theorem xc_123_2 : p_code 123 2 = some (.getfield 174, 3) := (xco_123 2).trans rfl
theorem xf_123_174 : p_fld (p_own 123) 174 = some (6, 15) := by rw [xow_123]; rfl
theorem xc_123_5 : p_code 123 5 = some (.ifCond .ne 7, 3) := (xco_123 5).trans rfl
theorem xj_123_5 : p_tgt 5 (7) = 12 ∧ 0 ≤ ((5 : Nat) : Int) + (7) := ⟨by decide, by decide⟩
theorem xc_123_8 : p_code 123 8 = some (.iload_n 1, 1) := (xco_123 8).trans rfl
theorem xc_123_9 : p_code 123 9 = some (.goto 18, 3) := (xco_123 9).trans rfl
theorem xj_123_9 : p_tgt 9 (18) = 27 ∧ 0 ≤ ((9 : Nat) : Int) + (18) := ⟨by decide, by decide⟩
theorem xc_123_12 : p_code 123 12 = some (.aload_n 0, 1) := (xco_123 12).trans rfl
theorem xc_123_13 : p_code 123 13 = some (.iconst 0, 1) := (xco_123 13).trans rfl
theorem xc_123_14 : p_code 123 14 = some (.invokevirtual 216, 3) := (xco_123 14).trans rfl
theorem xm_123_14 : p_calls 123 (.invokevirtual 216) = some (124, 2) := by dsimp only [p_calls]; rw [xow_123]; rfl
theorem xc_123_17 : p_code 123 17 = some (.ifCond .ne 9, 3) := (xco_123 17).trans rfl
theorem xj_123_17 : p_tgt 17 (9) = 26 ∧ 0 ≤ ((17 : Nat) : Int) + (9) := ⟨by decide, by decide⟩
theorem xc_123_20 : p_code 123 20 = some (.iload_n 1, 1) := (xco_123 20).trans rfl
theorem xc_123_21 : p_code 123 21 = some (.iconst 1, 1) := (xco_123 21).trans rfl
theorem xc_123_22 : p_code 123 22 = some (.iadd, 1) := (xco_123 22).trans rfl
theorem xc_123_23 : p_code 123 23 = some (.goto 4, 3) := (xco_123 23).trans rfl
theorem xj_123_23 : p_tgt 23 (4) = 27 ∧ 0 ≤ ((23 : Nat) : Int) + (4) := ⟨by decide, by decide⟩
theorem xc_123_26 : p_code 123 26 = some (.iconst 0, 1) := (xco_123 26).trans rfl
theorem xc_123_27 : p_code 123 27 = some (.putfield 73, 3) := (xco_123 27).trans rfl
theorem xf_123_73 : p_fld (p_own 123) 73 = some (6, 4) := by rw [xow_123]; rfl
theorem xc_123_30 : p_code 123 30 = some (.aload_n 0, 1) := (xco_123 30).trans rfl
theorem xc_123_31 : p_code 123 31 = some (.getfield 73, 3) := (xco_123 31).trans rfl
theorem xc_123_34 : p_code 123 34 = some (.ifCond .ne 7, 3) := (xco_123 34).trans rfl
theorem xj_123_34 : p_tgt 34 (7) = 41 ∧ 0 ≤ ((34 : Nat) : Int) + (7) := ⟨by decide, by decide⟩
theorem xc_123_37 : p_code 123 37 = some (.iconst 1, 1) := (xco_123 37).trans rfl
theorem xc_123_38 : p_code 123 38 = some (.goto 4, 3) := (xco_123 38).trans rfl
theorem xj_123_38 : p_tgt 38 (4) = 42 ∧ 0 ≤ ((38 : Nat) : Int) + (4) := ⟨by decide, by decide⟩
theorem xc_123_41 : p_code 123 41 = some (.iconst 0, 1) := (xco_123 41).trans rfl
theorem xc_123_42 : p_code 123 42 = some (.ireturn, 1) := (xco_123 42).trans rfl
theorem xrt_123 : p_rty 123 = some .boolean := rfl
theorem xhh_123 : p_hh 123 = [] := rfl
theorem xin_123 {x1 : Int32} : p_in0 123 [.ref 22, .int x1] = [some (.ref 22), some (.int x1)] := rfl
theorem xrc_123 {z : Nat → Int32} {a : Nat → Nat → Int32} {w : Nat → Nat → Int64} {y : Nat → Int64} {g : List pE} {x1 : Int32} : p_recv 123 [.ref 22, .int x1] (hp z a w y g) = true := rfl
