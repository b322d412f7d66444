/-! ===== the code, instruction by instruction (tools/emit.py) ===== -/
theorem kb_m45 : (Int8.ofInt (-45)).toInt32 = (-45) := by decide
theorem kb_m42 : (Int8.ofInt (-42)).toInt32 = (-42) := by decide
theorem kb_m41 : (Int8.ofInt (-41)).toInt32 = (-41) := by decide
theorem kb_m33 : (Int8.ofInt (-33)).toInt32 = (-33) := by decide
theorem kb_6 : (Int8.ofInt (6)).toInt32 = nI 6 := by decide
theorem kb_7 : (Int8.ofInt (7)).toInt32 = nI 7 := by decide
theorem kb_8 : (Int8.ofInt (8)).toInt32 = nI 8 := by decide
theorem kb_9 : (Int8.ofInt (9)).toInt32 = nI 9 := by decide
theorem kb_10 : (Int8.ofInt (10)).toInt32 = nI 10 := by decide
theorem kb_12 : (Int8.ofInt (12)).toInt32 = nI 12 := by decide
theorem kb_13 : (Int8.ofInt (13)).toInt32 = nI 13 := by decide
theorem kb_14 : (Int8.ofInt (14)).toInt32 = nI 14 := by decide
theorem kb_15 : (Int8.ofInt (15)).toInt32 = nI 15 := by decide
theorem kb_32 : (Int8.ofInt (32)).toInt32 = nI 32 := by decide
theorem kb_37 : (Int8.ofInt (37)).toInt32 = nI 37 := by decide
theorem kb_40 : (Int8.ofInt (40)).toInt32 = nI 40 := by decide
theorem kb_41 : (Int8.ofInt (41)).toInt32 = nI 41 := by decide
theorem kb_43 : (Int8.ofInt (43)).toInt32 = nI 43 := by decide
theorem kb_44 : (Int8.ofInt (44)).toInt32 = nI 44 := by decide
theorem kb_45 : (Int8.ofInt (45)).toInt32 = nI 45 := by decide
theorem kb_46 : (Int8.ofInt (46)).toInt32 = nI 46 := by decide
theorem kb_47 : (Int8.ofInt (47)).toInt32 = nI 47 := by decide
theorem kb_48 : (Int8.ofInt (48)).toInt32 = nI 48 := by decide
theorem kb_56 : (Int8.ofInt (56)).toInt32 = nI 56 := by decide
theorem kb_57 : (Int8.ofInt (57)).toInt32 = nI 57 := by decide
theorem kb_58 : (Int8.ofInt (58)).toInt32 = nI 58 := by decide
theorem kb_60 : (Int8.ofInt (60)).toInt32 = nI 60 := by decide
theorem kb_61 : (Int8.ofInt (61)).toInt32 = nI 61 := by decide
theorem kb_65 : (Int8.ofInt (65)).toInt32 = nI 65 := by decide
theorem kb_72 : (Int8.ofInt (72)).toInt32 = nI 72 := by decide
theorem kb_97 : (Int8.ofInt (97)).toInt32 = nI 97 := by decide
theorem kb_100 : (Int8.ofInt (100)).toInt32 = nI 100 := by decide
theorem kb_120 : (Int8.ofInt (120)).toInt32 = nI 120 := by decide
theorem kb_122 : (Int8.ofInt (122)).toInt32 = nI 122 := by decide
theorem kb_126 : (Int8.ofInt (126)).toInt32 = nI 126 := by decide
theorem kc_m1 : Int32.ofInt (-1) = (-1) := by decide
theorem kc_0 : Int32.ofInt (0) = nI 0 := by decide
theorem kc_1 : Int32.ofInt (1) = nI 1 := by decide
theorem kc_2 : Int32.ofInt (2) = nI 2 := by decide
theorem kc_3 : Int32.ofInt (3) = nI 3 := by decide
theorem kc_4 : Int32.ofInt (4) = nI 4 := by decide
theorem kc_5 : Int32.ofInt (5) = nI 5 := by decide
theorem ks_255 : (Int16.ofInt (255)).toInt32 = nI 255 := by decide
theorem ks_300 : (Int16.ofInt (300)).toInt32 = nI 300 := by decide
theorem ks_720 : (Int16.ofInt (720)).toInt32 = nI 720 := by decide
theorem ks_900 : (Int16.ofInt (900)).toInt32 = nI 900 := by decide
theorem ks_1000 : (Int16.ofInt (1000)).toInt32 = nI 1000 := by decide
theorem ks_3000 : (Int16.ofInt (3000)).toInt32 = nI 3000 := by decide
theorem ki_m8 (x : Int32) : x + Int32.ofInt (-8) = x - nI 8 := by rw [Int32.sub_eq_add_neg]; exact congrArg (x + ·) (by decide)
theorem ki_m1 (x : Int32) : x + Int32.ofInt (-1) = x - nI 1 := by rw [Int32.sub_eq_add_neg]; exact congrArg (x + ·) (by decide)
theorem ki_1 (x : Int32) : x + Int32.ofInt 1 = x + nI 1 := congrArg (x + ·) (by decide)
theorem ki_2 (x : Int32) : x + Int32.ofInt 2 = x + nI 2 := congrArg (x + ·) (by decide)
theorem ki_5 (x : Int32) : x + Int32.ofInt 5 = x + nI 5 := congrArg (x + ·) (by decide)
theorem kl_0 : Int64.ofNat ((0 : Fin 2) : Nat) = 0 := by decide
theorem kl_1 : Int64.ofNat ((1 : Fin 2) : Nat) = 1 := by decide
theorem xco_0 (pc : Nat) : p_code 0 pc = p_find pc pc_0 := rfl
theorem xow_0 : p_own 0 = 5 := rfl
theorem xc_0_0 : p_code 0 0 = some (.aload_n 0, 1) := (xco_0 0).trans rfl
theorem xc_0_1 : p_code 0 1 = some (.invokespecial 3, 3) := (xco_0 1).trans rfl
theorem xc_0_4 : p_code 0 4 = some (.aload_n 0, 1) := (xco_0 4).trans rfl
theorem xc_0_5 : p_code 0 5 = some (.new 9, 3) := (xco_0 5).trans rfl
theorem xc_0_8 : p_code 0 8 = some (.dup, 1) := (xco_0 8).trans rfl
theorem xc_0_9 : p_code 0 9 = some (.invokespecial 11, 3) := (xco_0 9).trans rfl
theorem xm_0_9 : p_calls 0 (.invokespecial 11) = some (1, 1) := by dsimp only [p_calls]; rw [xow_0]; rfl
theorem xc_0_12 : p_code 0 12 = some (.putfield 12, 3) := (xco_0 12).trans rfl
theorem xf_0_12 : p_fld (p_own 0) 12 = some (5, 0) := by rw [xow_0]; rfl
theorem xc_0_15 : p_code 0 15 = some (.aload_n 0, 1) := (xco_0 15).trans rfl
theorem xc_0_16 : p_code 0 16 = some (.new 16, 3) := (xco_0 16).trans rfl
theorem xc_0_19 : p_code 0 19 = some (.dup, 1) := (xco_0 19).trans rfl
theorem xc_0_20 : p_code 0 20 = some (.aload_n 0, 1) := (xco_0 20).trans rfl
theorem xc_0_21 : p_code 0 21 = some (.getfield 12, 3) := (xco_0 21).trans rfl
theorem xc_0_24 : p_code 0 24 = some (.invokespecial 18, 3) := (xco_0 24).trans rfl
theorem xm_0_24 : p_calls 0 (.invokespecial 18) = some (2, 2) := by dsimp only [p_calls]; rw [xow_0]; rfl
theorem xc_0_27 : p_code 0 27 = some (.putfield 21, 3) := (xco_0 27).trans rfl
theorem xf_0_21 : p_fld (p_own 0) 21 = some (5, 1) := by rw [xow_0]; rfl
theorem xc_0_30 : p_code 0 30 = some (.aload_n 0, 1) := (xco_0 30).trans rfl
theorem xc_0_31 : p_code 0 31 = some (.new 25, 3) := (xco_0 31).trans rfl
theorem xc_0_34 : p_code 0 34 = some (.dup, 1) := (xco_0 34).trans rfl
theorem xc_0_35 : p_code 0 35 = some (.invokespecial 27, 3) := (xco_0 35).trans rfl
theorem xm_0_35 : p_calls 0 (.invokespecial 27) = some (3, 1) := by dsimp only [p_calls]; rw [xow_0]; rfl
theorem xc_0_38 : p_code 0 38 = some (.putfield 28, 3) := (xco_0 38).trans rfl
theorem xf_0_28 : p_fld (p_own 0) 28 = some (5, 2) := by rw [xow_0]; rfl
theorem xc_0_41 : p_code 0 41 = some (.aload_n 0, 1) := (xco_0 41).trans rfl
theorem xc_0_42 : p_code 0 42 = some (.new 32, 3) := (xco_0 42).trans rfl
theorem xc_0_45 : p_code 0 45 = some (.dup, 1) := (xco_0 45).trans rfl
theorem xc_0_46 : p_code 0 46 = some (.invokespecial 34, 3) := (xco_0 46).trans rfl
theorem xm_0_46 : p_calls 0 (.invokespecial 34) = some (5, 1) := by dsimp only [p_calls]; rw [xow_0]; rfl
theorem xc_0_49 : p_code 0 49 = some (.putfield 35, 3) := (xco_0 49).trans rfl
theorem xf_0_35 : p_fld (p_own 0) 35 = some (5, 3) := by rw [xow_0]; rfl
theorem xc_0_52 : p_code 0 52 = some (.aload_n 0, 1) := (xco_0 52).trans rfl
theorem xc_0_53 : p_code 0 53 = some (.new 39, 3) := (xco_0 53).trans rfl
theorem xc_0_56 : p_code 0 56 = some (.dup, 1) := (xco_0 56).trans rfl
theorem xc_0_57 : p_code 0 57 = some (.invokespecial 41, 3) := (xco_0 57).trans rfl
theorem xm_0_57 : p_calls 0 (.invokespecial 41) = some (6, 1) := by dsimp only [p_calls]; rw [xow_0]; rfl
theorem xc_0_60 : p_code 0 60 = some (.putfield 42, 3) := (xco_0 60).trans rfl
theorem xf_0_42 : p_fld (p_own 0) 42 = some (5, 4) := by rw [xow_0]; rfl
theorem xc_0_63 : p_code 0 63 = some (.aload_n 0, 1) := (xco_0 63).trans rfl
theorem xc_0_64 : p_code 0 64 = some (.lconst 0, 1) := (xco_0 64).trans rfl
theorem xc_0_65 : p_code 0 65 = some (.putfield 46, 3) := (xco_0 65).trans rfl
theorem xf_0_46 : p_fld (p_own 0) 46 = some (5, 5) := by rw [xow_0]; rfl
theorem xc_0_68 : p_code 0 68 = some (.return_, 1) := (xco_0 68).trans rfl
theorem xrt_0 : p_rty 0 = none := rfl
theorem xhh_0 : p_hh 0 = [] := rfl
theorem xin_0  : p_in0 0 [.ref 0] = [some (.ref 0)] := rfl
theorem xco_1 (pc : Nat) : p_code 1 pc = p_find pc pc_1 := rfl
theorem xow_1 : p_own 1 = 2 := rfl
theorem xc_1_0 : p_code 1 0 = some (.aload_n 0, 1) := (xco_1 0).trans rfl
theorem xc_1_1 : p_code 1 1 = some (.invokespecial 3, 3) := (xco_1 1).trans rfl
theorem xc_1_4 : p_code 1 4 = some (.aload_n 0, 1) := (xco_1 4).trans rfl
theorem xc_1_5 : p_code 1 5 = some (.bipush 60, 2) := (xco_1 5).trans rfl
theorem xc_1_7 : p_code 1 7 = some (.newarray .int, 2) := (xco_1 7).trans rfl
theorem xc_1_9 : p_code 1 9 = some (.putfield 9, 3) := (xco_1 9).trans rfl
theorem xf_1_9 : p_fld (p_own 1) 9 = some (2, 0) := by rw [xow_1]; rfl
theorem xc_1_12 : p_code 1 12 = some (.aload_n 0, 1) := (xco_1 12).trans rfl
theorem xc_1_13 : p_code 1 13 = some (.bipush 60, 2) := (xco_1 13).trans rfl
theorem xc_1_15 : p_code 1 15 = some (.newarray .int, 2) := (xco_1 15).trans rfl
theorem xc_1_17 : p_code 1 17 = some (.putfield 15, 3) := (xco_1 17).trans rfl
theorem xf_1_15 : p_fld (p_own 1) 15 = some (2, 1) := by rw [xow_1]; rfl
theorem xc_1_20 : p_code 1 20 = some (.aload_n 0, 1) := (xco_1 20).trans rfl
theorem xc_1_21 : p_code 1 21 = some (.bipush 60, 2) := (xco_1 21).trans rfl
theorem xc_1_23 : p_code 1 23 = some (.newarray .int, 2) := (xco_1 23).trans rfl
theorem xc_1_25 : p_code 1 25 = some (.putfield 18, 3) := (xco_1 25).trans rfl
theorem xf_1_18 : p_fld (p_own 1) 18 = some (2, 2) := by rw [xow_1]; rfl
theorem xc_1_28 : p_code 1 28 = some (.aload_n 0, 1) := (xco_1 28).trans rfl
theorem xc_1_29 : p_code 1 29 = some (.bipush 60, 2) := (xco_1 29).trans rfl
theorem xc_1_31 : p_code 1 31 = some (.newarray .int, 2) := (xco_1 31).trans rfl
theorem xc_1_33 : p_code 1 33 = some (.putfield 21, 3) := (xco_1 33).trans rfl
theorem xf_1_21 : p_fld (p_own 1) 21 = some (2, 3) := by rw [xow_1]; rfl
theorem xc_1_36 : p_code 1 36 = some (.aload_n 0, 1) := (xco_1 36).trans rfl
theorem xc_1_37 : p_code 1 37 = some (.bipush 60, 2) := (xco_1 37).trans rfl
theorem xc_1_39 : p_code 1 39 = some (.newarray .int, 2) := (xco_1 39).trans rfl
theorem xc_1_41 : p_code 1 41 = some (.putfield 24, 3) := (xco_1 41).trans rfl
theorem xf_1_24 : p_fld (p_own 1) 24 = some (2, 4) := by rw [xow_1]; rfl
theorem xc_1_44 : p_code 1 44 = some (.aload_n 0, 1) := (xco_1 44).trans rfl
theorem xc_1_45 : p_code 1 45 = some (.bipush 60, 2) := (xco_1 45).trans rfl
theorem xc_1_47 : p_code 1 47 = some (.newarray .int, 2) := (xco_1 47).trans rfl
theorem xc_1_49 : p_code 1 49 = some (.putfield 27, 3) := (xco_1 49).trans rfl
theorem xf_1_27 : p_fld (p_own 1) 27 = some (2, 5) := by rw [xow_1]; rfl
theorem xc_1_52 : p_code 1 52 = some (.aload_n 0, 1) := (xco_1 52).trans rfl
theorem xc_1_53 : p_code 1 53 = some (.bipush 60, 2) := (xco_1 53).trans rfl
theorem xc_1_55 : p_code 1 55 = some (.newarray .int, 2) := (xco_1 55).trans rfl
theorem xc_1_57 : p_code 1 57 = some (.putfield 30, 3) := (xco_1 57).trans rfl
theorem xf_1_30 : p_fld (p_own 1) 30 = some (2, 6) := by rw [xow_1]; rfl
theorem xc_1_60 : p_code 1 60 = some (.aload_n 0, 1) := (xco_1 60).trans rfl
theorem xc_1_61 : p_code 1 61 = some (.sipush 300, 3) := (xco_1 61).trans rfl
theorem xc_1_64 : p_code 1 64 = some (.newarray .int, 2) := (xco_1 64).trans rfl
theorem xc_1_66 : p_code 1 66 = some (.putfield 33, 3) := (xco_1 66).trans rfl
theorem xf_1_33 : p_fld (p_own 1) 33 = some (2, 7) := by rw [xow_1]; rfl
theorem xc_1_69 : p_code 1 69 = some (.aload_n 0, 1) := (xco_1 69).trans rfl
theorem xc_1_70 : p_code 1 70 = some (.sipush 300, 3) := (xco_1 70).trans rfl
theorem xc_1_73 : p_code 1 73 = some (.newarray .int, 2) := (xco_1 73).trans rfl
theorem xc_1_75 : p_code 1 75 = some (.putfield 36, 3) := (xco_1 75).trans rfl
theorem xf_1_36 : p_fld (p_own 1) 36 = some (2, 8) := by rw [xow_1]; rfl
theorem xc_1_78 : p_code 1 78 = some (.return_, 1) := (xco_1 78).trans rfl
theorem xrt_1 : p_rty 1 = none := rfl
theorem xhh_1 : p_hh 1 = [] := rfl
theorem xin_1  : p_in0 1 [.ref 1] = [some (.ref 1)] := rfl
theorem xco_2 (pc : Nat) : p_code 2 pc = p_find pc pc_2 := rfl
theorem xow_2 : p_own 2 = 1 := rfl
theorem xc_2_0 : p_code 2 0 = some (.aload_n 0, 1) := (xco_2 0).trans rfl
theorem xc_2_1 : p_code 2 1 = some (.invokespecial 3, 3) := (xco_2 1).trans rfl
theorem xc_2_4 : p_code 2 4 = some (.aload_n 0, 1) := (xco_2 4).trans rfl
theorem xc_2_5 : p_code 2 5 = some (.sipush 300, 3) := (xco_2 5).trans rfl
theorem xc_2_8 : p_code 2 8 = some (.newarray .int, 2) := (xco_2 8).trans rfl
theorem xc_2_10 : p_code 2 10 = some (.putfield 9, 3) := (xco_2 10).trans rfl
theorem xf_2_9 : p_fld (p_own 2) 9 = some (1, 1) := by rw [xow_2]; rfl
theorem xc_2_13 : p_code 2 13 = some (.aload_n 0, 1) := (xco_2 13).trans rfl
theorem xc_2_14 : p_code 2 14 = some (.aload_n 1, 1) := (xco_2 14).trans rfl
theorem xc_2_15 : p_code 2 15 = some (.putfield 15, 3) := (xco_2 15).trans rfl
theorem xf_2_15 : p_fld (p_own 2) 15 = some (1, 0) := by rw [xow_2]; rfl
theorem xc_2_18 : p_code 2 18 = some (.return_, 1) := (xco_2 18).trans rfl
theorem xrt_2 : p_rty 2 = none := rfl
theorem xhh_2 : p_hh 2 = [] := rfl
theorem xin_2  : p_in0 2 [.ref 11, .ref 1] = [some (.ref 11), some (.ref 1)] := rfl
theorem xco_3 (pc : Nat) : p_code 3 pc = p_find pc pc_3 := rfl
theorem xow_3 : p_own 3 = 3 := rfl
theorem xc_3_0 : p_code 3 0 = some (.aload_n 0, 1) := (xco_3 0).trans rfl
theorem xc_3_1 : p_code 3 1 = some (.invokespecial 3, 3) := (xco_3 1).trans rfl
theorem xc_3_4 : p_code 3 4 = some (.aload_n 0, 1) := (xco_3 4).trans rfl
theorem xc_3_5 : p_code 3 5 = some (.bipush 8, 2) := (xco_3 5).trans rfl
theorem xc_3_7 : p_code 3 7 = some (.newarray .long, 2) := (xco_3 7).trans rfl
theorem xc_3_9 : p_code 3 9 = some (.putfield 9, 3) := (xco_3 9).trans rfl
theorem xf_3_9 : p_fld (p_own 3) 9 = some (3, 0) := by rw [xow_3]; rfl
theorem xc_3_12 : p_code 3 12 = some (.aload_n 0, 1) := (xco_3 12).trans rfl
theorem xc_3_13 : p_code 3 13 = some (.bipush 8, 2) := (xco_3 13).trans rfl
theorem xc_3_15 : p_code 3 15 = some (.newarray .int, 2) := (xco_3 15).trans rfl
theorem xc_3_17 : p_code 3 17 = some (.putfield 15, 3) := (xco_3 17).trans rfl
theorem xf_3_15 : p_fld (p_own 3) 15 = some (3, 1) := by rw [xow_3]; rfl
theorem xc_3_20 : p_code 3 20 = some (.aload_n 0, 1) := (xco_3 20).trans rfl
theorem xc_3_21 : p_code 3 21 = some (.bipush 8, 2) := (xco_3 21).trans rfl
theorem xc_3_23 : p_code 3 23 = some (.newarray .int, 2) := (xco_3 23).trans rfl
theorem xc_3_25 : p_code 3 25 = some (.putfield 19, 3) := (xco_3 25).trans rfl
theorem xf_3_19 : p_fld (p_own 3) 19 = some (3, 2) := by rw [xow_3]; rfl
theorem xc_3_28 : p_code 3 28 = some (.aload_n 0, 1) := (xco_3 28).trans rfl
theorem xc_3_29 : p_code 3 29 = some (.getfield 9, 3) := (xco_3 29).trans rfl
theorem xc_3_32 : p_code 3 32 = some (.ldc2_w 22, 3) := (xco_3 32).trans rfl
theorem xl_3_22 : p_lng (p_own 3) 22 = some (-1) := by rw [xow_3]; rfl
theorem xc_3_35 : p_code 3 35 = some (.invokestatic 24, 3) := (xco_3 35).trans rfl
theorem xm_3_35 : p_calls 3 (.invokestatic 24) = some (4, 2) := by dsimp only [p_calls]; rw [xow_3]; rfl
theorem xc_3_38 : p_code 3 38 = some (.return_, 1) := (xco_3 38).trans rfl
theorem xrt_3 : p_rty 3 = none := rfl
theorem xhh_3 : p_hh 3 = [] := rfl
theorem xin_3  : p_in0 3 [.ref 13] = [some (.ref 13)] := rfl
theorem xco_4 (pc : Nat) : p_code 4 pc = p_find pc pc_4 := rfl
theorem xow_4 : p_own 4 = 13 := rfl
theorem xc_4_0 : p_code 4 0 = some (.iconst 0, 1) := (xco_4 0).trans rfl
theorem xc_4_1 : p_code 4 1 = some (.istore_n 3, 1) := (xco_4 1).trans rfl
theorem xc_4_2 : p_code 4 2 = some (.aload_n 0, 1) := (xco_4 2).trans rfl
theorem xc_4_3 : p_code 4 3 = some (.arraylength, 1) := (xco_4 3).trans rfl
theorem xc_4_4 : p_code 4 4 = some (.istore 4, 2) := (xco_4 4).trans rfl
theorem xc_4_6 : p_code 4 6 = some (.iload_n 3, 1) := (xco_4 6).trans rfl
theorem xc_4_7 : p_code 4 7 = some (.iload 4, 2) := (xco_4 7).trans rfl
theorem xc_4_9 : p_code 4 9 = some (.if_icmp .ge 13, 3) := (xco_4 9).trans rfl
theorem xj_4_9 : p_tgt 9 (13) = 22 ∧ 0 ≤ ((9 : Nat) : Int) + (13) := ⟨by decide, by decide⟩
theorem xc_4_12 : p_code 4 12 = some (.aload_n 0, 1) := (xco_4 12).trans rfl
theorem xc_4_13 : p_code 4 13 = some (.iload_n 3, 1) := (xco_4 13).trans rfl
theorem xc_4_14 : p_code 4 14 = some (.lload_n 1, 1) := (xco_4 14).trans rfl
theorem xc_4_15 : p_code 4 15 = some (.lastore, 1) := (xco_4 15).trans rfl
theorem xc_4_16 : p_code 4 16 = some (.iinc 3 1, 3) := (xco_4 16).trans rfl
theorem xc_4_19 : p_code 4 19 = some (.goto (-13), 3) := (xco_4 19).trans rfl
theorem xj_4_19 : p_tgt 19 (-13) = 6 ∧ 0 ≤ ((19 : Nat) : Int) + (-13) := ⟨by decide, by decide⟩
theorem xc_4_22 : p_code 4 22 = some (.return_, 1) := (xco_4 22).trans rfl
theorem xrt_4 : p_rty 4 = none := rfl
theorem xhh_4 : p_hh 4 = [] := rfl
theorem xin_4 {x1 : Int64} : p_in0 4 [.ref 14, .long x1] = [some (.ref 14), some (.long x1), none, none, none] := rfl
theorem xrc_4 {z : Nat → Int32} {a : Nat → Nat → Int32} {w : Nat → Nat → Int64} {y : Nat → Int64} {g : List pE} {x1 : Int64} : p_recv 4 [.ref 14, .long x1] (hp z a w y g) = true := rfl
theorem xco_5 (pc : Nat) : p_code 5 pc = p_find pc pc_5 := rfl
theorem xow_5 : p_own 5 = 4 := rfl
theorem xc_5_0 : p_code 5 0 = some (.aload_n 0, 1) := (xco_5 0).trans rfl
theorem xc_5_1 : p_code 5 1 = some (.invokespecial 3, 3) := (xco_5 1).trans rfl
theorem xc_5_4 : p_code 5 4 = some (.aload_n 0, 1) := (xco_5 4).trans rfl
theorem xc_5_5 : p_code 5 5 = some (.bipush 60, 2) := (xco_5 5).trans rfl
theorem xc_5_7 : p_code 5 7 = some (.newarray .long, 2) := (xco_5 7).trans rfl
theorem xc_5_9 : p_code 5 9 = some (.putfield 9, 3) := (xco_5 9).trans rfl
theorem xf_5_9 : p_fld (p_own 5) 9 = some (4, 0) := by rw [xow_5]; rfl
theorem xc_5_12 : p_code 5 12 = some (.aload_n 0, 1) := (xco_5 12).trans rfl
theorem xc_5_13 : p_code 5 13 = some (.bipush 60, 2) := (xco_5 13).trans rfl
theorem xc_5_15 : p_code 5 15 = some (.newarray .boolean, 2) := (xco_5 15).trans rfl
theorem xc_5_17 : p_code 5 17 = some (.putfield 15, 3) := (xco_5 17).trans rfl
theorem xf_5_15 : p_fld (p_own 5) 15 = some (4, 1) := by rw [xow_5]; rfl
theorem xc_5_20 : p_code 5 20 = some (.return_, 1) := (xco_5 20).trans rfl
theorem xrt_5 : p_rty 5 = none := rfl
theorem xhh_5 : p_hh 5 = [] := rfl
theorem xin_5  : p_in0 5 [.ref 17] = [some (.ref 17)] := rfl
theorem xco_6 (pc : Nat) : p_code 6 pc = p_find pc pc_6 := rfl
theorem xow_6 : p_own 6 = 0 := rfl
theorem xc_6_0 : p_code 6 0 = some (.aload_n 0, 1) := (xco_6 0).trans rfl
theorem xc_6_1 : p_code 6 1 = some (.invokespecial 3, 3) := (xco_6 1).trans rfl
theorem xc_6_4 : p_code 6 4 = some (.aload_n 0, 1) := (xco_6 4).trans rfl
theorem xc_6_5 : p_code 6 5 = some (.sipush 900, 3) := (xco_6 5).trans rfl
theorem xc_6_8 : p_code 6 8 = some (.newarray .int, 2) := (xco_6 8).trans rfl
theorem xc_6_10 : p_code 6 10 = some (.putfield 9, 3) := (xco_6 10).trans rfl
theorem xf_6_9 : p_fld (p_own 6) 9 = some (0, 0) := by rw [xow_6]; rfl
theorem xc_6_13 : p_code 6 13 = some (.return_, 1) := (xco_6 13).trans rfl
theorem xrt_6 : p_rty 6 = none := rfl
theorem xhh_6 : p_hh 6 = [] := rfl
theorem xin_6  : p_in0 6 [.ref 20] = [some (.ref 20)] := rfl
theorem xco_7 (pc : Nat) : p_code 7 pc = p_find pc pc_7 := rfl
theorem xow_7 : p_own 7 = 5 := rfl
theorem xc_7_0 : p_code 7 0 = some (.aload_n 0, 1) := (xco_7 0).trans rfl
theorem xc_7_1 : p_code 7 1 = some (.getfield 21, 3) := (xco_7 1).trans rfl
theorem xf_7_21 : p_fld (p_own 7) 21 = some (5, 1) := by rw [xow_7]; rfl
theorem xc_7_4 : p_code 7 4 = some (.iload_n 1, 1) := (xco_7 4).trans rfl
theorem xc_7_5 : p_code 7 5 = some (.invokevirtual 50, 3) := (xco_7 5).trans rfl
theorem xm_7_5 : p_calls 7 (.invokevirtual 50) = some (8, 2) := by dsimp only [p_calls]; rw [xow_7]; rfl
theorem xc_7_8 : p_code 7 8 = some (.ireturn, 1) := (xco_7 8).trans rfl
theorem xrt_7 : p_rty 7 = some .boolean := rfl
theorem xhh_7 : p_hh 7 = [] := rfl
theorem xin_7 {x1 : Int32} : p_in0 7 [.ref 0, .int x1] = [some (.ref 0), some (.int x1)] := rfl
theorem xrc_7 {z : Nat → Int32} {a : Nat → Nat → Int32} {w : Nat → Nat → Int64} {y : Nat → Int64} {g : List pE} {x1 : Int32} : p_recv 7 [.ref 0, .int x1] (hp z a w y g) = true := rfl
theorem xco_8 (pc : Nat) : p_code 8 pc = p_find pc pc_8 := rfl
theorem xow_8 : p_own 8 = 1 := rfl
theorem xc_8_0 : p_code 8 0 = some (.iload_n 1, 1) := (xco_8 0).trans rfl
theorem xc_8_1 : p_code 8 1 = some (.bipush 32, 2) := (xco_8 1).trans rfl
theorem xc_8_3 : p_code 8 3 = some (.if_icmp .lt 19, 3) := (xco_8 3).trans rfl
theorem xj_8_3 : p_tgt 3 (19) = 22 ∧ 0 ≤ ((3 : Nat) : Int) + (19) := ⟨by decide, by decide⟩
theorem xc_8_6 : p_code 8 6 = some (.iload_n 1, 1) := (xco_8 6).trans rfl
theorem xc_8_7 : p_code 8 7 = some (.bipush 126, 2) := (xco_8 7).trans rfl
theorem xc_8_9 : p_code 8 9 = some (.if_icmp .gt 13, 3) := (xco_8 9).trans rfl
theorem xj_8_9 : p_tgt 9 (13) = 22 ∧ 0 ≤ ((9 : Nat) : Int) + (13) := ⟨by decide, by decide⟩
theorem xc_8_12 : p_code 8 12 = some (.aload_n 0, 1) := (xco_8 12).trans rfl
theorem xc_8_13 : p_code 8 13 = some (.getfield 19, 3) := (xco_8 13).trans rfl
theorem xf_8_19 : p_fld (p_own 8) 19 = some (1, 2) := by rw [xow_8]; rfl
theorem xc_8_16 : p_code 8 16 = some (.sipush 300, 3) := (xco_8 16).trans rfl
theorem xc_8_19 : p_code 8 19 = some (.if_icmp .lt 5, 3) := (xco_8 19).trans rfl
theorem xj_8_19 : p_tgt 19 (5) = 24 ∧ 0 ≤ ((19 : Nat) : Int) + (5) := ⟨by decide, by decide⟩
theorem xc_8_22 : p_code 8 22 = some (.iconst 0, 1) := (xco_8 22).trans rfl
theorem xc_8_23 : p_code 8 23 = some (.ireturn, 1) := (xco_8 23).trans rfl
theorem xc_8_24 : p_code 8 24 = some (.aload_n 0, 1) := (xco_8 24).trans rfl
theorem xc_8_25 : p_code 8 25 = some (.getfield 9, 3) := (xco_8 25).trans rfl
theorem xf_8_9 : p_fld (p_own 8) 9 = some (1, 1) := by rw [xow_8]; rfl
theorem xc_8_28 : p_code 8 28 = some (.aload_n 0, 1) := (xco_8 28).trans rfl
theorem xc_8_29 : p_code 8 29 = some (.getfield 19, 3) := (xco_8 29).trans rfl
theorem xc_8_32 : p_code 8 32 = some (.iload_n 1, 1) := (xco_8 32).trans rfl
theorem xc_8_33 : p_code 8 33 = some (.iastore, 1) := (xco_8 33).trans rfl
theorem xc_8_34 : p_code 8 34 = some (.aload_n 0, 1) := (xco_8 34).trans rfl
theorem xc_8_35 : p_code 8 35 = some (.dup, 1) := (xco_8 35).trans rfl
theorem xc_8_36 : p_code 8 36 = some (.getfield 19, 3) := (xco_8 36).trans rfl
theorem xc_8_39 : p_code 8 39 = some (.iconst 1, 1) := (xco_8 39).trans rfl
theorem xc_8_40 : p_code 8 40 = some (.iadd, 1) := (xco_8 40).trans rfl
theorem xc_8_41 : p_code 8 41 = some (.putfield 19, 3) := (xco_8 41).trans rfl
theorem xc_8_44 : p_code 8 44 = some (.iconst 1, 1) := (xco_8 44).trans rfl
theorem xc_8_45 : p_code 8 45 = some (.ireturn, 1) := (xco_8 45).trans rfl
theorem xrt_8 : p_rty 8 = some .boolean := rfl
theorem xhh_8 : p_hh 8 = [] := rfl
theorem xin_8 {x1 : Int32} : p_in0 8 [.ref 11, .int x1] = [some (.ref 11), some (.int x1)] := rfl
theorem xrc_8 {z : Nat → Int32} {a : Nat → Nat → Int32} {w : Nat → Nat → Int64} {y : Nat → Int64} {g : List pE} {x1 : Int32} : p_recv 8 [.ref 11, .int x1] (hp z a w y g) = true := rfl
theorem xco_9 (pc : Nat) : p_code 9 pc = p_find pc pc_9 := rfl
theorem xow_9 : p_own 9 = 5 := rfl
theorem xc_9_0 : p_code 9 0 = some (.aload_n 0, 1) := (xco_9 0).trans rfl
theorem xc_9_1 : p_code 9 1 = some (.getfield 21, 3) := (xco_9 1).trans rfl
theorem xf_9_21 : p_fld (p_own 9) 21 = some (5, 1) := by rw [xow_9]; rfl
theorem xc_9_4 : p_code 9 4 = some (.invokevirtual 54, 3) := (xco_9 4).trans rfl
theorem xm_9_4 : p_calls 9 (.invokevirtual 54) = some (10, 1) := by dsimp only [p_calls]; rw [xow_9]; rfl
theorem xc_9_7 : p_code 9 7 = some (.ireturn, 1) := (xco_9 7).trans rfl
theorem xrt_9 : p_rty 9 = some .int := rfl
theorem xhh_9 : p_hh 9 = [] := rfl
theorem xin_9  : p_in0 9 [.ref 0] = [some (.ref 0)] := rfl
theorem xrc_9 {z : Nat → Int32} {a : Nat → Nat → Int32} {w : Nat → Nat → Int64} {y : Nat → Int64} {g : List pE}  : p_recv 9 [.ref 0] (hp z a w y g) = true := rfl
theorem xco_10 (pc : Nat) : p_code 10 pc = p_find pc pc_10 := rfl
theorem xow_10 : p_own 10 = 1 := rfl
theorem xc_10_0 : p_code 10 0 = some (.aload_n 0, 1) := (xco_10 0).trans rfl
theorem xc_10_1 : p_code 10 1 = some (.getfield 15, 3) := (xco_10 1).trans rfl
theorem xf_10_15 : p_fld (p_own 10) 15 = some (1, 0) := by rw [xow_10]; rfl
theorem xc_10_4 : p_code 10 4 = some (.invokevirtual 23, 3) := (xco_10 4).trans rfl
theorem xm_10_4 : p_calls 10 (.invokevirtual 23) = some (11, 1) := by dsimp only [p_calls]; rw [xow_10]; rfl
theorem xc_10_7 : p_code 10 7 = some (.aload_n 0, 1) := (xco_10 7).trans rfl
theorem xc_10_8 : p_code 10 8 = some (.iconst 0, 1) := (xco_10 8).trans rfl
theorem xc_10_9 : p_code 10 9 = some (.putfield 28, 3) := (xco_10 9).trans rfl
theorem xf_10_28 : p_fld (p_own 10) 28 = some (1, 3) := by rw [xow_10]; rfl
theorem xc_10_12 : p_code 10 12 = some (.aload_n 0, 1) := (xco_10 12).trans rfl
theorem xc_10_13 : p_code 10 13 = some (.iconst 0, 1) := (xco_10 13).trans rfl
theorem xc_10_14 : p_code 10 14 = some (.putfield 31, 3) := (xco_10 14).trans rfl
theorem xf_10_31 : p_fld (p_own 10) 31 = some (1, 4) := by rw [xow_10]; rfl
theorem xc_10_17 : p_code 10 17 = some (.aload_n 0, 1) := (xco_10 17).trans rfl
theorem xc_10_18 : p_code 10 18 = some (.iconst 0, 1) := (xco_10 18).trans rfl
theorem xc_10_19 : p_code 10 19 = some (.invokevirtual 34, 3) := (xco_10 19).trans rfl
theorem xm_10_19 : p_calls 10 (.invokevirtual 34) = some (12, 2) := by dsimp only [p_calls]; rw [xow_10]; rfl
theorem xc_10_22 : p_code 10 22 = some (.ifCond .eq 14, 3) := (xco_10 22).trans rfl
theorem xj_10_22 : p_tgt 22 (14) = 36 ∧ 0 ≤ ((22 : Nat) : Int) + (14) := ⟨by decide, by decide⟩
theorem xc_10_25 : p_code 10 25 = some (.aload_n 0, 1) := (xco_10 25).trans rfl
theorem xc_10_26 : p_code 10 26 = some (.invokevirtual 38, 3) := (xco_10 26).trans rfl
theorem xm_10_26 : p_calls 10 (.invokevirtual 38) = some (48, 1) := by dsimp only [p_calls]; rw [xow_10]; rfl
theorem xc_10_29 : p_code 10 29 = some (.ifCond .eq 7, 3) := (xco_10 29).trans rfl
theorem xj_10_29 : p_tgt 29 (7) = 36 ∧ 0 ≤ ((29 : Nat) : Int) + (7) := ⟨by decide, by decide⟩
theorem xc_10_32 : p_code 10 32 = some (.iconst 1, 1) := (xco_10 32).trans rfl
theorem xc_10_33 : p_code 10 33 = some (.goto 4, 3) := (xco_10 33).trans rfl
theorem xj_10_33 : p_tgt 33 (4) = 37 ∧ 0 ≤ ((33 : Nat) : Int) + (4) := ⟨by decide, by decide⟩
theorem xc_10_36 : p_code 10 36 = some (.iconst 0, 1) := (xco_10 36).trans rfl
theorem xc_10_37 : p_code 10 37 = some (.istore_n 1, 1) := (xco_10 37).trans rfl
theorem xc_10_38 : p_code 10 38 = some (.aload_n 0, 1) := (xco_10 38).trans rfl
theorem xc_10_39 : p_code 10 39 = some (.iconst 0, 1) := (xco_10 39).trans rfl
theorem xc_10_40 : p_code 10 40 = some (.putfield 19, 3) := (xco_10 40).trans rfl
theorem xf_10_19 : p_fld (p_own 10) 19 = some (1, 2) := by rw [xow_10]; rfl
theorem xc_10_43 : p_code 10 43 = some (.iload_n 1, 1) := (xco_10 43).trans rfl
theorem xc_10_44 : p_code 10 44 = some (.ifCond .eq 11, 3) := (xco_10 44).trans rfl
theorem xj_10_44 : p_tgt 44 (11) = 55 ∧ 0 ≤ ((44 : Nat) : Int) + (11) := ⟨by decide, by decide⟩
theorem xc_10_47 : p_code 10 47 = some (.aload_n 0, 1) := (xco_10 47).trans rfl
theorem xc_10_48 : p_code 10 48 = some (.getfield 15, 3) := (xco_10 48).trans rfl
theorem xc_10_51 : p_code 10 51 = some (.getfield 42, 3) := (xco_10 51).trans rfl
theorem xf_10_42 : p_fld (p_own 10) 42 = some (2, 10) := by rw [xow_10]; rfl
theorem xc_10_54 : p_code 10 54 = some (.ireturn, 1) := (xco_10 54).trans rfl
theorem xc_10_55 : p_code 10 55 = some (.aload_n 0, 1) := (xco_10 55).trans rfl
theorem xc_10_56 : p_code 10 56 = some (.getfield 15, 3) := (xco_10 56).trans rfl
theorem xc_10_59 : p_code 10 59 = some (.invokevirtual 23, 3) := (xco_10 59).trans rfl
theorem xm_10_59 : p_calls 10 (.invokevirtual 23) = some (11, 1) := by dsimp only [p_calls]; rw [xow_10]; rfl
theorem xc_10_62 : p_code 10 62 = some (.iconst (-1), 1) := (xco_10 62).trans rfl
theorem xc_10_63 : p_code 10 63 = some (.aload_n 0, 1) := (xco_10 63).trans rfl
theorem xc_10_64 : p_code 10 64 = some (.getfield 31, 3) := (xco_10 64).trans rfl
theorem xc_10_67 : p_code 10 67 = some (.isub, 1) := (xco_10 67).trans rfl
theorem xc_10_68 : p_code 10 68 = some (.ireturn, 1) := (xco_10 68).trans rfl
theorem xrt_10 : p_rty 10 = some .int := rfl
theorem xhh_10 : p_hh 10 = [] := rfl
theorem xin_10  : p_in0 10 [.ref 11] = [some (.ref 11), none] := rfl
theorem xrc_10 {z : Nat → Int32} {a : Nat → Nat → Int32} {w : Nat → Nat → Int64} {y : Nat → Int64} {g : List pE}  : p_recv 10 [.ref 11] (hp z a w y g) = true := rfl
theorem xco_11 (pc : Nat) : p_code 11 pc = p_find pc pc_11 := rfl
theorem xow_11 : p_own 11 = 2 := rfl
theorem xc_11_0 : p_code 11 0 = some (.aload_n 0, 1) := (xco_11 0).trans rfl
theorem xc_11_1 : p_code 11 1 = some (.iconst 0, 1) := (xco_11 1).trans rfl
theorem xc_11_2 : p_code 11 2 = some (.putfield 39, 3) := (xco_11 2).trans rfl
theorem xf_11_39 : p_fld (p_own 11) 39 = some (2, 9) := by rw [xow_11]; rfl
theorem xc_11_5 : p_code 11 5 = some (.aload_n 0, 1) := (xco_11 5).trans rfl
theorem xc_11_6 : p_code 11 6 = some (.iconst 0, 1) := (xco_11 6).trans rfl
theorem xc_11_7 : p_code 11 7 = some (.putfield 43, 3) := (xco_11 7).trans rfl
theorem xf_11_43 : p_fld (p_own 11) 43 = some (2, 10) := by rw [xow_11]; rfl
theorem xc_11_10 : p_code 11 10 = some (.aload_n 0, 1) := (xco_11 10).trans rfl
theorem xc_11_11 : p_code 11 11 = some (.iconst 0, 1) := (xco_11 11).trans rfl
theorem xc_11_12 : p_code 11 12 = some (.putfield 46, 3) := (xco_11 12).trans rfl
theorem xf_11_46 : p_fld (p_own 11) 46 = some (2, 11) := by rw [xow_11]; rfl
theorem xc_11_15 : p_code 11 15 = some (.return_, 1) := (xco_11 15).trans rfl
theorem xrt_11 : p_rty 11 = none := rfl
theorem xhh_11 : p_hh 11 = [] := rfl
theorem xin_11  : p_in0 11 [.ref 1] = [some (.ref 1)] := rfl
theorem xrc_11 {z : Nat → Int32} {a : Nat → Nat → Int32} {w : Nat → Nat → Int64} {y : Nat → Int64} {g : List pE}  : p_recv 11 [.ref 1] (hp z a w y g) = true := rfl
theorem xco_12 (pc : Nat) : p_code 12 pc = p_find pc pc_12 := rfl
theorem xow_12 : p_own 12 = 1 := rfl
theorem xc_12_0 : p_code 12 0 = some (.aload_n 0, 1) := (xco_12 0).trans rfl
theorem xc_12_1 : p_code 12 1 = some (.getfield 15, 3) := (xco_12 1).trans rfl
theorem xf_12_15 : p_fld (p_own 12) 15 = some (1, 0) := by rw [xow_12]; rfl
theorem xc_12_4 : p_code 12 4 = some (.getfield 42, 3) := (xco_12 4).trans rfl
theorem xf_12_42 : p_fld (p_own 12) 42 = some (2, 10) := by rw [xow_12]; rfl
theorem xc_12_7 : p_code 12 7 = some (.istore_n 2, 1) := (xco_12 7).trans rfl
theorem xc_12_8 : p_code 12 8 = some (.aload_n 0, 1) := (xco_12 8).trans rfl
theorem xc_12_9 : p_code 12 9 = some (.iload_n 1, 1) := (xco_12 9).trans rfl
theorem xc_12_10 : p_code 12 10 = some (.invokevirtual 51, 3) := (xco_12 10).trans rfl
theorem xm_12_10 : p_calls 12 (.invokevirtual 51) = some (13, 2) := by dsimp only [p_calls]; rw [xow_12]; rfl
theorem xc_12_13 : p_code 12 13 = some (.ifCond .ne 5, 3) := (xco_12 13).trans rfl
theorem xj_12_13 : p_tgt 13 (5) = 18 ∧ 0 ≤ ((13 : Nat) : Int) + (5) := ⟨by decide, by decide⟩
theorem xc_12_16 : p_code 12 16 = some (.iconst 0, 1) := (xco_12 16).trans rfl
theorem xc_12_17 : p_code 12 17 = some (.ireturn, 1) := (xco_12 17).trans rfl
theorem xc_12_18 : p_code 12 18 = some (.iconst 0, 1) := (xco_12 18).trans rfl
theorem xc_12_19 : p_code 12 19 = some (.istore_n 3, 1) := (xco_12 19).trans rfl
theorem xc_12_20 : p_code 12 20 = some (.iload_n 3, 1) := (xco_12 20).trans rfl
theorem xc_12_21 : p_code 12 21 = some (.sipush 300, 3) := (xco_12 21).trans rfl
theorem xc_12_24 : p_code 12 24 = some (.if_icmp .ge 97, 3) := (xco_12 24).trans rfl
theorem xj_12_24 : p_tgt 24 (97) = 121 ∧ 0 ≤ ((24 : Nat) : Int) + (97) := ⟨by decide, by decide⟩
theorem xc_12_27 : p_code 12 27 = some (.aload_n 0, 1) := (xco_12 27).trans rfl
theorem xc_12_28 : p_code 12 28 = some (.invokevirtual 45, 3) := (xco_12 28).trans rfl
theorem xm_12_28 : p_calls 12 (.invokevirtual 45) = some (14, 1) := by dsimp only [p_calls]; rw [xow_12]; rfl
theorem xc_12_31 : p_code 12 31 = some (.aload_n 0, 1) := (xco_12 31).trans rfl
theorem xc_12_32 : p_code 12 32 = some (.invokevirtual 54, 3) := (xco_12 32).trans rfl
theorem xm_12_32 : p_calls 12 (.invokevirtual 54) = some (15, 1) := by dsimp only [p_calls]; rw [xow_12]; rfl
theorem xc_12_35 : p_code 12 35 = some (.invokestatic 58, 3) := (xco_12 35).trans rfl
theorem xm_12_35 : p_calls 12 (.invokestatic 58) = some (45, 1) := by dsimp only [p_calls]; rw [xow_12]; rfl
theorem xc_12_38 : p_code 12 38 = some (.istore 4, 2) := (xco_12 38).trans rfl
theorem xc_12_40 : p_code 12 40 = some (.iload 4, 2) := (xco_12 40).trans rfl
theorem xc_12_42 : p_code 12 42 = some (.iconst (-1), 1) := (xco_12 42).trans rfl
theorem xc_12_43 : p_code 12 43 = some (.if_icmp .ne 5, 3) := (xco_12 43).trans rfl
theorem xj_12_43 : p_tgt 43 (5) = 48 ∧ 0 ≤ ((43 : Nat) : Int) + (5) := ⟨by decide, by decide⟩
theorem xc_12_46 : p_code 12 46 = some (.iconst 1, 1) := (xco_12 46).trans rfl
theorem xc_12_47 : p_code 12 47 = some (.ireturn, 1) := (xco_12 47).trans rfl
theorem xc_12_48 : p_code 12 48 = some (.aload_n 0, 1) := (xco_12 48).trans rfl
theorem xc_12_49 : p_code 12 49 = some (.getfield 15, 3) := (xco_12 49).trans rfl
theorem xc_12_52 : p_code 12 52 = some (.invokevirtual 62, 3) := (xco_12 52).trans rfl
theorem xm_12_52 : p_calls 12 (.invokevirtual 62) = some (25, 1) := by dsimp only [p_calls]; rw [xow_12]; rfl
theorem xc_12_55 : p_code 12 55 = some (.ifCond .eq 12, 3) := (xco_12 55).trans rfl
theorem xj_12_55 : p_tgt 55 (12) = 67 ∧ 0 ≤ ((55 : Nat) : Int) + (12) := ⟨by decide, by decide⟩
theorem xc_12_58 : p_code 12 58 = some (.aload_n 0, 1) := (xco_12 58).trans rfl
theorem xc_12_59 : p_code 12 59 = some (.aload_n 0, 1) := (xco_12 59).trans rfl
theorem xc_12_60 : p_code 12 60 = some (.getfield 28, 3) := (xco_12 60).trans rfl
theorem xf_12_28 : p_fld (p_own 12) 28 = some (1, 3) := by rw [xow_12]; rfl
theorem xc_12_63 : p_code 12 63 = some (.invokevirtual 48, 3) := (xco_12 63).trans rfl
theorem xm_12_63 : p_calls 12 (.invokevirtual 48) = some (17, 2) := by dsimp only [p_calls]; rw [xow_12]; rfl
theorem xc_12_66 : p_code 12 66 = some (.ireturn, 1) := (xco_12 66).trans rfl
theorem xc_12_67 : p_code 12 67 = some (.aload_n 0, 1) := (xco_12 67).trans rfl
theorem xc_12_68 : p_code 12 68 = some (.getfield 15, 3) := (xco_12 68).trans rfl
theorem xc_12_71 : p_code 12 71 = some (.iload_n 2, 1) := (xco_12 71).trans rfl
theorem xc_12_72 : p_code 12 72 = some (.iload 4, 2) := (xco_12 72).trans rfl
theorem xc_12_74 : p_code 12 74 = some (.invokevirtual 65, 3) := (xco_12 74).trans rfl
theorem xm_12_74 : p_calls 12 (.invokevirtual 65) = some (46, 3) := by dsimp only [p_calls]; rw [xow_12]; rfl
theorem xc_12_77 : p_code 12 77 = some (.aload_n 0, 1) := (xco_12 77).trans rfl
theorem xc_12_78 : p_code 12 78 = some (.getfield 15, 3) := (xco_12 78).trans rfl
theorem xc_12_81 : p_code 12 81 = some (.iload_n 2, 1) := (xco_12 81).trans rfl
theorem xc_12_82 : p_code 12 82 = some (.iload_n 2, 1) := (xco_12 82).trans rfl
theorem xc_12_83 : p_code 12 83 = some (.iconst 1, 1) := (xco_12 83).trans rfl
theorem xc_12_84 : p_code 12 84 = some (.iadd, 1) := (xco_12 84).trans rfl
theorem xc_12_85 : p_code 12 85 = some (.aload_n 0, 1) := (xco_12 85).trans rfl
theorem xc_12_86 : p_code 12 86 = some (.getfield 15, 3) := (xco_12 86).trans rfl
theorem xc_12_89 : p_code 12 89 = some (.getfield 42, 3) := (xco_12 89).trans rfl
theorem xc_12_92 : p_code 12 92 = some (.invokevirtual 69, 3) := (xco_12 92).trans rfl
theorem xm_12_92 : p_calls 12 (.invokevirtual 69) = some (38, 4) := by dsimp only [p_calls]; rw [xow_12]; rfl
theorem xc_12_95 : p_code 12 95 = some (.aload_n 0, 1) := (xco_12 95).trans rfl
theorem xc_12_96 : p_code 12 96 = some (.dup, 1) := (xco_12 96).trans rfl
theorem xc_12_97 : p_code 12 97 = some (.getfield 28, 3) := (xco_12 97).trans rfl
theorem xc_12_100 : p_code 12 100 = some (.iconst 1, 1) := (xco_12 100).trans rfl
theorem xc_12_101 : p_code 12 101 = some (.iadd, 1) := (xco_12 101).trans rfl
theorem xc_12_102 : p_code 12 102 = some (.putfield 28, 3) := (xco_12 102).trans rfl
theorem xc_12_105 : p_code 12 105 = some (.aload_n 0, 1) := (xco_12 105).trans rfl
theorem xc_12_106 : p_code 12 106 = some (.iload_n 1, 1) := (xco_12 106).trans rfl
theorem xc_12_107 : p_code 12 107 = some (.invokevirtual 51, 3) := (xco_12 107).trans rfl
theorem xm_12_107 : p_calls 12 (.invokevirtual 51) = some (13, 2) := by dsimp only [p_calls]; rw [xow_12]; rfl
theorem xc_12_110 : p_code 12 110 = some (.ifCond .ne 5, 3) := (xco_12 110).trans rfl
theorem xj_12_110 : p_tgt 110 (5) = 115 ∧ 0 ≤ ((110 : Nat) : Int) + (5) := ⟨by decide, by decide⟩
theorem xc_12_113 : p_code 12 113 = some (.iconst 0, 1) := (xco_12 113).trans rfl
theorem xc_12_114 : p_code 12 114 = some (.ireturn, 1) := (xco_12 114).trans rfl
theorem xc_12_115 : p_code 12 115 = some (.iinc 3 1, 3) := (xco_12 115).trans rfl
theorem xc_12_118 : p_code 12 118 = some (.goto (-98), 3) := (xco_12 118).trans rfl
theorem xj_12_118 : p_tgt 118 (-98) = 20 ∧ 0 ≤ ((118 : Nat) : Int) + (-98) := ⟨by decide, by decide⟩
theorem xc_12_121 : p_code 12 121 = some (.aload_n 0, 1) := (xco_12 121).trans rfl
theorem xc_12_122 : p_code 12 122 = some (.aload_n 0, 1) := (xco_12 122).trans rfl
theorem xc_12_123 : p_code 12 123 = some (.getfield 28, 3) := (xco_12 123).trans rfl
theorem xc_12_126 : p_code 12 126 = some (.invokevirtual 48, 3) := (xco_12 126).trans rfl
theorem xm_12_126 : p_calls 12 (.invokevirtual 48) = some (17, 2) := by dsimp only [p_calls]; rw [xow_12]; rfl
theorem xc_12_129 : p_code 12 129 = some (.ireturn, 1) := (xco_12 129).trans rfl
theorem xrt_12 : p_rty 12 = some .boolean := rfl
theorem xhh_12 : p_hh 12 = [] := rfl
theorem xin_12 {x1 : Int32} : p_in0 12 [.ref 11, .int x1] = [some (.ref 11), some (.int x1), none, none, none] := rfl
theorem xrc_12 {z : Nat → Int32} {a : Nat → Nat → Int32} {w : Nat → Nat → Int64} {y : Nat → Int64} {g : List pE} {x1 : Int32} : p_recv 12 [.ref 11, .int x1] (hp z a w y g) = true := rfl
theorem xco_13 (pc : Nat) : p_code 13 pc = p_find pc pc_13 := rfl
theorem xow_13 : p_own 13 = 1 := rfl
theorem xc_13_0 : p_code 13 0 = some (.aload_n 0, 1) := (xco_13 0).trans rfl
theorem xc_13_1 : p_code 13 1 = some (.invokevirtual 45, 3) := (xco_13 1).trans rfl
theorem xm_13_1 : p_calls 13 (.invokevirtual 45) = some (14, 1) := by dsimp only [p_calls]; rw [xow_13]; rfl
theorem xc_13_4 : p_code 13 4 = some (.aload_n 0, 1) := (xco_13 4).trans rfl
theorem xc_13_5 : p_code 13 5 = some (.getfield 28, 3) := (xco_13 5).trans rfl
theorem xf_13_28 : p_fld (p_own 13) 28 = some (1, 3) := by rw [xow_13]; rfl
theorem xc_13_8 : p_code 13 8 = some (.istore_n 2, 1) := (xco_13 8).trans rfl
theorem xc_13_9 : p_code 13 9 = some (.aload_n 0, 1) := (xco_13 9).trans rfl
theorem xc_13_10 : p_code 13 10 = some (.invokevirtual 54, 3) := (xco_13 10).trans rfl
theorem xm_13_10 : p_calls 13 (.invokevirtual 54) = some (15, 1) := by dsimp only [p_calls]; rw [xow_13]; rfl
theorem xc_13_13 : p_code 13 13 = some (.istore_n 3, 1) := (xco_13 13).trans rfl
theorem xc_13_14 : p_code 13 14 = some (.iload_n 3, 1) := (xco_13 14).trans rfl
theorem xc_13_15 : p_code 13 15 = some (.bipush 40, 2) := (xco_13 15).trans rfl
theorem xc_13_17 : p_code 13 17 = some (.if_icmp .ne 9, 3) := (xco_13 17).trans rfl
theorem xj_13_17 : p_tgt 17 (9) = 26 ∧ 0 ≤ ((17 : Nat) : Int) + (9) := ⟨by decide, by decide⟩
theorem xc_13_20 : p_code 13 20 = some (.aload_n 0, 1) := (xco_13 20).trans rfl
theorem xc_13_21 : p_code 13 21 = some (.iload_n 1, 1) := (xco_13 21).trans rfl
theorem xc_13_22 : p_code 13 22 = some (.invokevirtual 73, 3) := (xco_13 22).trans rfl
theorem xm_13_22 : p_calls 13 (.invokevirtual 73) = some (16, 2) := by dsimp only [p_calls]; rw [xow_13]; rfl
theorem xc_13_25 : p_code 13 25 = some (.ireturn, 1) := (xco_13 25).trans rfl
theorem xc_13_26 : p_code 13 26 = some (.iload_n 3, 1) := (xco_13 26).trans rfl
theorem xc_13_27 : p_code 13 27 = some (.bipush 48, 2) := (xco_13 27).trans rfl
theorem xc_13_29 : p_code 13 29 = some (.if_icmp .lt 14, 3) := (xco_13 29).trans rfl
theorem xj_13_29 : p_tgt 29 (14) = 43 ∧ 0 ≤ ((29 : Nat) : Int) + (14) := ⟨by decide, by decide⟩
theorem xc_13_32 : p_code 13 32 = some (.iload_n 3, 1) := (xco_13 32).trans rfl
theorem xc_13_33 : p_code 13 33 = some (.bipush 57, 2) := (xco_13 33).trans rfl
theorem xc_13_35 : p_code 13 35 = some (.if_icmp .gt 8, 3) := (xco_13 35).trans rfl
theorem xj_13_35 : p_tgt 35 (8) = 43 ∧ 0 ≤ ((35 : Nat) : Int) + (8) := ⟨by decide, by decide⟩
theorem xc_13_38 : p_code 13 38 = some (.aload_n 0, 1) := (xco_13 38).trans rfl
theorem xc_13_39 : p_code 13 39 = some (.invokevirtual 76, 3) := (xco_13 39).trans rfl
theorem xm_13_39 : p_calls 13 (.invokevirtual 76) = some (21, 1) := by dsimp only [p_calls]; rw [xow_13]; rfl
theorem xc_13_42 : p_code 13 42 = some (.ireturn, 1) := (xco_13 42).trans rfl
theorem xc_13_43 : p_code 13 43 = some (.aload_n 0, 1) := (xco_13 43).trans rfl
theorem xc_13_44 : p_code 13 44 = some (.invokevirtual 79, 3) := (xco_13 44).trans rfl
theorem xm_13_44 : p_calls 13 (.invokevirtual 79) = some (28, 1) := by dsimp only [p_calls]; rw [xow_13]; rfl
theorem xc_13_47 : p_code 13 47 = some (.istore 4, 2) := (xco_13 47).trans rfl
theorem xc_13_49 : p_code 13 49 = some (.iload 4, 2) := (xco_13 49).trans rfl
theorem xc_13_51 : p_code 13 51 = some (.iconst 5, 1) := (xco_13 51).trans rfl
theorem xc_13_52 : p_code 13 52 = some (.if_icmp .eq 10, 3) := (xco_13 52).trans rfl
theorem xj_13_52 : p_tgt 52 (10) = 62 ∧ 0 ≤ ((52 : Nat) : Int) + (10) := ⟨by decide, by decide⟩
theorem xc_13_55 : p_code 13 55 = some (.iload 4, 2) := (xco_13 55).trans rfl
theorem xc_13_57 : p_code 13 57 = some (.bipush 6, 2) := (xco_13 57).trans rfl
theorem xc_13_59 : p_code 13 59 = some (.if_icmp .ne 7, 3) := (xco_13 59).trans rfl
theorem xj_13_59 : p_tgt 59 (7) = 66 ∧ 0 ≤ ((59 : Nat) : Int) + (7) := ⟨by decide, by decide⟩
theorem xc_13_62 : p_code 13 62 = some (.iconst 1, 1) := (xco_13 62).trans rfl
theorem xc_13_63 : p_code 13 63 = some (.goto 4, 3) := (xco_13 63).trans rfl
theorem xj_13_63 : p_tgt 63 (4) = 67 ∧ 0 ≤ ((63 : Nat) : Int) + (4) := ⟨by decide, by decide⟩
theorem xc_13_66 : p_code 13 66 = some (.iconst 0, 1) := (xco_13 66).trans rfl
theorem xc_13_67 : p_code 13 67 = some (.istore 5, 2) := (xco_13 67).trans rfl
theorem xc_13_69 : p_code 13 69 = some (.iload 4, 2) := (xco_13 69).trans rfl
theorem xc_13_71 : p_code 13 71 = some (.iconst (-1), 1) := (xco_13 71).trans rfl
theorem xc_13_72 : p_code 13 72 = some (.if_icmp .eq 24, 3) := (xco_13 72).trans rfl
theorem xj_13_72 : p_tgt 72 (24) = 96 ∧ 0 ≤ ((72 : Nat) : Int) + (24) := ⟨by decide, by decide⟩
theorem xc_13_75 : p_code 13 75 = some (.aload_n 0, 1) := (xco_13 75).trans rfl
theorem xc_13_76 : p_code 13 76 = some (.getfield 15, 3) := (xco_13 76).trans rfl
theorem xf_13_15 : p_fld (p_own 13) 15 = some (1, 0) := by rw [xow_13]; rfl
theorem xc_13_79 : p_code 13 79 = some (.invokevirtual 62, 3) := (xco_13 79).trans rfl
theorem xm_13_79 : p_calls 13 (.invokevirtual 62) = some (25, 1) := by dsimp only [p_calls]; rw [xow_13]; rfl
theorem xc_13_82 : p_code 13 82 = some (.ifCond .ne 14, 3) := (xco_13 82).trans rfl
theorem xj_13_82 : p_tgt 82 (14) = 96 ∧ 0 ≤ ((82 : Nat) : Int) + (14) := ⟨by decide, by decide⟩
theorem xc_13_85 : p_code 13 85 = some (.iload 5, 2) := (xco_13 85).trans rfl
theorem xc_13_87 : p_code 13 87 = some (.ifCond .eq 15, 3) := (xco_13 87).trans rfl
theorem xj_13_87 : p_tgt 87 (15) = 102 ∧ 0 ≤ ((87 : Nat) : Int) + (15) := ⟨by decide, by decide⟩
theorem xc_13_90 : p_code 13 90 = some (.iload_n 1, 1) := (xco_13 90).trans rfl
theorem xc_13_91 : p_code 13 91 = some (.bipush 12, 2) := (xco_13 91).trans rfl
theorem xc_13_93 : p_code 13 93 = some (.if_icmp .lt 9, 3) := (xco_13 93).trans rfl
theorem xj_13_93 : p_tgt 93 (9) = 102 ∧ 0 ≤ ((93 : Nat) : Int) + (9) := ⟨by decide, by decide⟩
theorem xc_13_96 : p_code 13 96 = some (.aload_n 0, 1) := (xco_13 96).trans rfl
theorem xc_13_97 : p_code 13 97 = some (.iload_n 2, 1) := (xco_13 97).trans rfl
theorem xc_13_98 : p_code 13 98 = some (.invokevirtual 48, 3) := (xco_13 98).trans rfl
theorem xm_13_98 : p_calls 13 (.invokevirtual 48) = some (17, 2) := by dsimp only [p_calls]; rw [xow_13]; rfl
theorem xc_13_101 : p_code 13 101 = some (.ireturn, 1) := (xco_13 101).trans rfl
theorem xc_13_102 : p_code 13 102 = some (.aload_n 0, 1) := (xco_13 102).trans rfl
theorem xc_13_103 : p_code 13 103 = some (.getfield 15, 3) := (xco_13 103).trans rfl
theorem xc_13_106 : p_code 13 106 = some (.iload 4, 2) := (xco_13 106).trans rfl
theorem xc_13_108 : p_code 13 108 = some (.iconst 0, 1) := (xco_13 108).trans rfl
theorem xc_13_109 : p_code 13 109 = some (.iconst (-1), 1) := (xco_13 109).trans rfl
theorem xc_13_110 : p_code 13 110 = some (.invokevirtual 82, 3) := (xco_13 110).trans rfl
theorem xm_13_110 : p_calls 13 (.invokevirtual 82) = some (26, 4) := by dsimp only [p_calls]; rw [xow_13]; rfl
theorem xc_13_113 : p_code 13 113 = some (.istore 6, 2) := (xco_13 113).trans rfl
theorem xc_13_115 : p_code 13 115 = some (.iload 5, 2) := (xco_13 115).trans rfl
theorem xc_13_117 : p_code 13 117 = some (.ifCond .eq 13, 3) := (xco_13 117).trans rfl
theorem xj_13_117 : p_tgt 117 (13) = 130 ∧ 0 ≤ ((117 : Nat) : Int) + (13) := ⟨by decide, by decide⟩
theorem xc_13_120 : p_code 13 120 = some (.aload_n 0, 1) := (xco_13 120).trans rfl
theorem xc_13_121 : p_code 13 121 = some (.iload 6, 2) := (xco_13 121).trans rfl
theorem xc_13_123 : p_code 13 123 = some (.iload_n 1, 1) := (xco_13 123).trans rfl
theorem xc_13_124 : p_code 13 124 = some (.iconst 1, 1) := (xco_13 124).trans rfl
theorem xc_13_125 : p_code 13 125 = some (.iadd, 1) := (xco_13 125).trans rfl
theorem xc_13_126 : p_code 13 126 = some (.invokevirtual 86, 3) := (xco_13 126).trans rfl
theorem xm_13_126 : p_calls 13 (.invokevirtual 86) = some (37, 3) := by dsimp only [p_calls]; rw [xow_13]; rfl
theorem xc_13_129 : p_code 13 129 = some (.ireturn, 1) := (xco_13 129).trans rfl
theorem xc_13_130 : p_code 13 130 = some (.iload 4, 2) := (xco_13 130).trans rfl
theorem xc_13_132 : p_code 13 132 = some (.ifCond .eq 30, 3) := (xco_13 132).trans rfl
theorem xj_13_132 : p_tgt 132 (30) = 162 ∧ 0 ≤ ((132 : Nat) : Int) + (30) := ⟨by decide, by decide⟩
theorem xc_13_135 : p_code 13 135 = some (.aload_n 0, 1) := (xco_13 135).trans rfl
theorem xc_13_136 : p_code 13 136 = some (.iload 6, 2) := (xco_13 136).trans rfl
theorem xc_13_138 : p_code 13 138 = some (.invokevirtual 90, 3) := (xco_13 138).trans rfl
theorem xm_13_138 : p_calls 13 (.invokevirtual 90) = some (40, 2) := by dsimp only [p_calls]; rw [xow_13]; rfl
theorem xc_13_141 : p_code 13 141 = some (.ifCond .eq 25, 3) := (xco_13 141).trans rfl
theorem xj_13_141 : p_tgt 141 (25) = 166 ∧ 0 ≤ ((141 : Nat) : Int) + (25) := ⟨by decide, by decide⟩
theorem xc_13_144 : p_code 13 144 = some (.aload_n 0, 1) := (xco_13 144).trans rfl
theorem xc_13_145 : p_code 13 145 = some (.iload 6, 2) := (xco_13 145).trans rfl
theorem xc_13_147 : p_code 13 147 = some (.invokevirtual 93, 3) := (xco_13 147).trans rfl
theorem xm_13_147 : p_calls 13 (.invokevirtual 93) = some (43, 2) := by dsimp only [p_calls]; rw [xow_13]; rfl
theorem xc_13_150 : p_code 13 150 = some (.ifCond .eq 16, 3) := (xco_13 150).trans rfl
theorem xj_13_150 : p_tgt 150 (16) = 166 ∧ 0 ≤ ((150 : Nat) : Int) + (16) := ⟨by decide, by decide⟩
theorem xc_13_153 : p_code 13 153 = some (.aload_n 0, 1) := (xco_13 153).trans rfl
theorem xc_13_154 : p_code 13 154 = some (.bipush 41, 2) := (xco_13 154).trans rfl
theorem xc_13_156 : p_code 13 156 = some (.invokevirtual 96, 3) := (xco_13 156).trans rfl
theorem xm_13_156 : p_calls 13 (.invokevirtual 96) = some (20, 2) := by dsimp only [p_calls]; rw [xow_13]; rfl
theorem xc_13_159 : p_code 13 159 = some (.ifCond .eq 7, 3) := (xco_13 159).trans rfl
theorem xj_13_159 : p_tgt 159 (7) = 166 ∧ 0 ≤ ((159 : Nat) : Int) + (7) := ⟨by decide, by decide⟩
theorem xc_13_162 : p_code 13 162 = some (.iconst 1, 1) := (xco_13 162).trans rfl
theorem xc_13_163 : p_code 13 163 = some (.goto 4, 3) := (xco_13 163).trans rfl
theorem xj_13_163 : p_tgt 163 (4) = 167 ∧ 0 ≤ ((163 : Nat) : Int) + (4) := ⟨by decide, by decide⟩
theorem xc_13_166 : p_code 13 166 = some (.iconst 0, 1) := (xco_13 166).trans rfl
theorem xc_13_167 : p_code 13 167 = some (.ireturn, 1) := (xco_13 167).trans rfl
theorem xrt_13 : p_rty 13 = some .boolean := rfl
theorem xhh_13 : p_hh 13 = [] := rfl
theorem xin_13 {x1 : Int32} : p_in0 13 [.ref 11, .int x1] = [some (.ref 11), some (.int x1), none, none, none, none, none] := rfl
theorem xrc_13 {z : Nat → Int32} {a : Nat → Nat → Int32} {w : Nat → Nat → Int64} {y : Nat → Int64} {g : List pE} {x1 : Int32} : p_recv 13 [.ref 11, .int x1] (hp z a w y g) = true := rfl
theorem xco_14 (pc : Nat) : p_code 14 pc = p_find pc pc_14 := rfl
theorem xow_14 : p_own 14 = 1 := rfl
theorem xc_14_0 : p_code 14 0 = some (.aload_n 0, 1) := (xco_14 0).trans rfl
theorem xc_14_1 : p_code 14 1 = some (.getfield 28, 3) := (xco_14 1).trans rfl
theorem xf_14_28 : p_fld (p_own 14) 28 = some (1, 3) := by rw [xow_14]; rfl
theorem xc_14_4 : p_code 14 4 = some (.aload_n 0, 1) := (xco_14 4).trans rfl
theorem xc_14_5 : p_code 14 5 = some (.getfield 19, 3) := (xco_14 5).trans rfl
theorem xf_14_19 : p_fld (p_own 14) 19 = some (1, 2) := by rw [xow_14]; rfl
theorem xc_14_8 : p_code 14 8 = some (.if_icmp .ge 30, 3) := (xco_14 8).trans rfl
theorem xj_14_8 : p_tgt 8 (30) = 38 ∧ 0 ≤ ((8 : Nat) : Int) + (30) := ⟨by decide, by decide⟩
theorem xc_14_11 : p_code 14 11 = some (.aload_n 0, 1) := (xco_14 11).trans rfl
theorem xc_14_12 : p_code 14 12 = some (.getfield 9, 3) := (xco_14 12).trans rfl
theorem xf_14_9 : p_fld (p_own 14) 9 = some (1, 1) := by rw [xow_14]; rfl
theorem xc_14_15 : p_code 14 15 = some (.aload_n 0, 1) := (xco_14 15).trans rfl
theorem xc_14_16 : p_code 14 16 = some (.getfield 28, 3) := (xco_14 16).trans rfl
theorem xc_14_19 : p_code 14 19 = some (.iaload, 1) := (xco_14 19).trans rfl
theorem xc_14_20 : p_code 14 20 = some (.bipush 32, 2) := (xco_14 20).trans rfl
theorem xc_14_22 : p_code 14 22 = some (.if_icmp .ne 16, 3) := (xco_14 22).trans rfl
theorem xj_14_22 : p_tgt 22 (16) = 38 ∧ 0 ≤ ((22 : Nat) : Int) + (16) := ⟨by decide, by decide⟩
theorem xc_14_25 : p_code 14 25 = some (.aload_n 0, 1) := (xco_14 25).trans rfl
theorem xc_14_26 : p_code 14 26 = some (.dup, 1) := (xco_14 26).trans rfl
theorem xc_14_27 : p_code 14 27 = some (.getfield 28, 3) := (xco_14 27).trans rfl
theorem xc_14_30 : p_code 14 30 = some (.iconst 1, 1) := (xco_14 30).trans rfl
theorem xc_14_31 : p_code 14 31 = some (.iadd, 1) := (xco_14 31).trans rfl
theorem xc_14_32 : p_code 14 32 = some (.putfield 28, 3) := (xco_14 32).trans rfl
theorem xc_14_35 : p_code 14 35 = some (.goto (-35), 3) := (xco_14 35).trans rfl
theorem xj_14_35 : p_tgt 35 (-35) = 0 ∧ 0 ≤ ((35 : Nat) : Int) + (-35) := ⟨by decide, by decide⟩
theorem xc_14_38 : p_code 14 38 = some (.return_, 1) := (xco_14 38).trans rfl
theorem xrt_14 : p_rty 14 = none := rfl
theorem xhh_14 : p_hh 14 = [] := rfl
theorem xin_14  : p_in0 14 [.ref 11] = [some (.ref 11)] := rfl
theorem xrc_14 {z : Nat → Int32} {a : Nat → Nat → Int32} {w : Nat → Nat → Int64} {y : Nat → Int64} {g : List pE}  : p_recv 14 [.ref 11] (hp z a w y g) = true := rfl
theorem xco_15 (pc : Nat) : p_code 15 pc = p_find pc pc_15 := rfl
theorem xow_15 : p_own 15 = 1 := rfl
theorem xc_15_0 : p_code 15 0 = some (.aload_n 0, 1) := (xco_15 0).trans rfl
theorem xc_15_1 : p_code 15 1 = some (.getfield 28, 3) := (xco_15 1).trans rfl
theorem xf_15_28 : p_fld (p_own 15) 28 = some (1, 3) := by rw [xow_15]; rfl
theorem xc_15_4 : p_code 15 4 = some (.aload_n 0, 1) := (xco_15 4).trans rfl
theorem xc_15_5 : p_code 15 5 = some (.getfield 19, 3) := (xco_15 5).trans rfl
theorem xf_15_19 : p_fld (p_own 15) 19 = some (1, 2) := by rw [xow_15]; rfl
theorem xc_15_8 : p_code 15 8 = some (.if_icmp .ge 15, 3) := (xco_15 8).trans rfl
theorem xj_15_8 : p_tgt 8 (15) = 23 ∧ 0 ≤ ((8 : Nat) : Int) + (15) := ⟨by decide, by decide⟩
theorem xc_15_11 : p_code 15 11 = some (.aload_n 0, 1) := (xco_15 11).trans rfl
theorem xc_15_12 : p_code 15 12 = some (.getfield 9, 3) := (xco_15 12).trans rfl
theorem xf_15_9 : p_fld (p_own 15) 9 = some (1, 1) := by rw [xow_15]; rfl
theorem xc_15_15 : p_code 15 15 = some (.aload_n 0, 1) := (xco_15 15).trans rfl
theorem xc_15_16 : p_code 15 16 = some (.getfield 28, 3) := (xco_15 16).trans rfl
theorem xc_15_19 : p_code 15 19 = some (.iaload, 1) := (xco_15 19).trans rfl
theorem xc_15_20 : p_code 15 20 = some (.goto 4, 3) := (xco_15 20).trans rfl
theorem xj_15_20 : p_tgt 20 (4) = 24 ∧ 0 ≤ ((20 : Nat) : Int) + (4) := ⟨by decide, by decide⟩
theorem xc_15_23 : p_code 15 23 = some (.iconst (-1), 1) := (xco_15 23).trans rfl
theorem xc_15_24 : p_code 15 24 = some (.ireturn, 1) := (xco_15 24).trans rfl
theorem xrt_15 : p_rty 15 = some .int := rfl
theorem xhh_15 : p_hh 15 = [] := rfl
theorem xin_15  : p_in0 15 [.ref 11] = [some (.ref 11)] := rfl
theorem xrc_15 {z : Nat → Int32} {a : Nat → Nat → Int32} {w : Nat → Nat → Int64} {y : Nat → Int64} {g : List pE}  : p_recv 15 [.ref 11] (hp z a w y g) = true := rfl
theorem xco_16 (pc : Nat) : p_code 16 pc = p_find pc pc_16 := rfl
theorem xow_16 : p_own 16 = 1 := rfl
theorem xc_16_0 : p_code 16 0 = some (.iload_n 1, 1) := (xco_16 0).trans rfl
theorem xc_16_1 : p_code 16 1 = some (.bipush 12, 2) := (xco_16 1).trans rfl
theorem xc_16_3 : p_code 16 3 = some (.if_icmp .lt 12, 3) := (xco_16 3).trans rfl
theorem xj_16_3 : p_tgt 3 (12) = 15 ∧ 0 ≤ ((3 : Nat) : Int) + (12) := ⟨by decide, by decide⟩
theorem xc_16_6 : p_code 16 6 = some (.aload_n 0, 1) := (xco_16 6).trans rfl
theorem xc_16_7 : p_code 16 7 = some (.aload_n 0, 1) := (xco_16 7).trans rfl
theorem xc_16_8 : p_code 16 8 = some (.getfield 28, 3) := (xco_16 8).trans rfl
theorem xf_16_28 : p_fld (p_own 16) 28 = some (1, 3) := by rw [xow_16]; rfl
theorem xc_16_11 : p_code 16 11 = some (.invokevirtual 48, 3) := (xco_16 11).trans rfl
theorem xm_16_11 : p_calls 16 (.invokevirtual 48) = some (17, 2) := by dsimp only [p_calls]; rw [xow_16]; rfl
theorem xc_16_14 : p_code 16 14 = some (.ireturn, 1) := (xco_16 14).trans rfl
theorem xc_16_15 : p_code 16 15 = some (.aload_n 0, 1) := (xco_16 15).trans rfl
theorem xc_16_16 : p_code 16 16 = some (.dup, 1) := (xco_16 16).trans rfl
theorem xc_16_17 : p_code 16 17 = some (.getfield 28, 3) := (xco_16 17).trans rfl
theorem xc_16_20 : p_code 16 20 = some (.iconst 1, 1) := (xco_16 20).trans rfl
theorem xc_16_21 : p_code 16 21 = some (.iadd, 1) := (xco_16 21).trans rfl
theorem xc_16_22 : p_code 16 22 = some (.putfield 28, 3) := (xco_16 22).trans rfl
theorem xc_16_25 : p_code 16 25 = some (.aload_n 0, 1) := (xco_16 25).trans rfl
theorem xc_16_26 : p_code 16 26 = some (.getfield 15, 3) := (xco_16 26).trans rfl
theorem xf_16_15 : p_fld (p_own 16) 15 = some (1, 0) := by rw [xow_16]; rfl
theorem xc_16_29 : p_code 16 29 = some (.iload_n 1, 1) := (xco_16 29).trans rfl
theorem xc_16_30 : p_code 16 30 = some (.iconst 1, 1) := (xco_16 30).trans rfl
theorem xc_16_31 : p_code 16 31 = some (.iadd, 1) := (xco_16 31).trans rfl
theorem xc_16_32 : p_code 16 32 = some (.invokevirtual 102, 3) := (xco_16 32).trans rfl
theorem xm_16_32 : p_calls 16 (.invokevirtual 102) = some (18, 2) := by dsimp only [p_calls]; rw [xow_16]; rfl
theorem xc_16_35 : p_code 16 35 = some (.aload_n 0, 1) := (xco_16 35).trans rfl
theorem xc_16_36 : p_code 16 36 = some (.iload_n 1, 1) := (xco_16 36).trans rfl
theorem xc_16_37 : p_code 16 37 = some (.iconst 1, 1) := (xco_16 37).trans rfl
theorem xc_16_38 : p_code 16 38 = some (.iadd, 1) := (xco_16 38).trans rfl
theorem xc_16_39 : p_code 16 39 = some (.invokevirtual 34, 3) := (xco_16 39).trans rfl
theorem xm_16_39 : p_calls 16 (.invokevirtual 34) = some (12, 2) := by dsimp only [p_calls]; rw [xow_16]; rfl
theorem xc_16_42 : p_code 16 42 = some (.ifCond .eq 16, 3) := (xco_16 42).trans rfl
theorem xj_16_42 : p_tgt 42 (16) = 58 ∧ 0 ≤ ((42 : Nat) : Int) + (16) := ⟨by decide, by decide⟩
theorem xc_16_45 : p_code 16 45 = some (.aload_n 0, 1) := (xco_16 45).trans rfl
theorem xc_16_46 : p_code 16 46 = some (.bipush 41, 2) := (xco_16 46).trans rfl
theorem xc_16_48 : p_code 16 48 = some (.invokevirtual 96, 3) := (xco_16 48).trans rfl
theorem xm_16_48 : p_calls 16 (.invokevirtual 96) = some (20, 2) := by dsimp only [p_calls]; rw [xow_16]; rfl
theorem xc_16_51 : p_code 16 51 = some (.ifCond .eq 7, 3) := (xco_16 51).trans rfl
theorem xj_16_51 : p_tgt 51 (7) = 58 ∧ 0 ≤ ((51 : Nat) : Int) + (7) := ⟨by decide, by decide⟩
theorem xc_16_54 : p_code 16 54 = some (.iconst 1, 1) := (xco_16 54).trans rfl
theorem xc_16_55 : p_code 16 55 = some (.goto 4, 3) := (xco_16 55).trans rfl
theorem xj_16_55 : p_tgt 55 (4) = 59 ∧ 0 ≤ ((55 : Nat) : Int) + (4) := ⟨by decide, by decide⟩
theorem xc_16_58 : p_code 16 58 = some (.iconst 0, 1) := (xco_16 58).trans rfl
theorem xc_16_59 : p_code 16 59 = some (.ireturn, 1) := (xco_16 59).trans rfl
theorem xrt_16 : p_rty 16 = some .boolean := rfl
theorem xhh_16 : p_hh 16 = [] := rfl
theorem xin_16 {x1 : Int32} : p_in0 16 [.ref 11, .int x1] = [some (.ref 11), some (.int x1)] := rfl
theorem xrc_16 {z : Nat → Int32} {a : Nat → Nat → Int32} {w : Nat → Nat → Int64} {y : Nat → Int64} {g : List pE} {x1 : Int32} : p_recv 16 [.ref 11, .int x1] (hp z a w y g) = true := rfl
theorem xco_17 (pc : Nat) : p_code 17 pc = p_find pc pc_17 := rfl
theorem xow_17 : p_own 17 = 1 := rfl
theorem xc_17_0 : p_code 17 0 = some (.aload_n 0, 1) := (xco_17 0).trans rfl
theorem xc_17_1 : p_code 17 1 = some (.iload_n 1, 1) := (xco_17 1).trans rfl
theorem xc_17_2 : p_code 17 2 = some (.putfield 31, 3) := (xco_17 2).trans rfl
theorem xf_17_31 : p_fld (p_own 17) 31 = some (1, 4) := by rw [xow_17]; rfl
theorem xc_17_5 : p_code 17 5 = some (.iconst 0, 1) := (xco_17 5).trans rfl
theorem xc_17_6 : p_code 17 6 = some (.ireturn, 1) := (xco_17 6).trans rfl
theorem xrt_17 : p_rty 17 = some .boolean := rfl
theorem xhh_17 : p_hh 17 = [] := rfl
theorem xin_17 {x1 : Int32} : p_in0 17 [.ref 11, .int x1] = [some (.ref 11), some (.int x1)] := rfl
theorem xrc_17 {z : Nat → Int32} {a : Nat → Nat → Int32} {w : Nat → Nat → Int64} {y : Nat → Int64} {g : List pE} {x1 : Int32} : p_recv 17 [.ref 11, .int x1] (hp z a w y g) = true := rfl
theorem xco_18 (pc : Nat) : p_code 18 pc = p_find pc pc_18 := rfl
theorem xow_18 : p_own 18 = 2 := rfl
theorem xc_18_0 : p_code 18 0 = some (.aload_n 0, 1) := (xco_18 0).trans rfl
theorem xc_18_1 : p_code 18 1 = some (.aload_n 0, 1) := (xco_18 1).trans rfl
theorem xc_18_2 : p_code 18 2 = some (.getfield 46, 3) := (xco_18 2).trans rfl
theorem xf_18_46 : p_fld (p_own 18) 46 = some (2, 11) := by rw [xow_18]; rfl
theorem xc_18_5 : p_code 18 5 = some (.iload_n 1, 1) := (xco_18 5).trans rfl
theorem xc_18_6 : p_code 18 6 = some (.invokestatic 65, 3) := (xco_18 6).trans rfl
theorem xm_18_6 : p_calls 18 (.invokestatic 65) = some (19, 2) := by dsimp only [p_calls]; rw [xow_18]; rfl
theorem xc_18_9 : p_code 18 9 = some (.putfield 46, 3) := (xco_18 9).trans rfl
theorem xc_18_12 : p_code 18 12 = some (.return_, 1) := (xco_18 12).trans rfl
theorem xrt_18 : p_rty 18 = none := rfl
theorem xhh_18 : p_hh 18 = [] := rfl
theorem xin_18 {x1 : Int32} : p_in0 18 [.ref 1, .int x1] = [some (.ref 1), some (.int x1)] := rfl
theorem xrc_18 {z : Nat → Int32} {a : Nat → Nat → Int32} {w : Nat → Nat → Int64} {y : Nat → Int64} {g : List pE} {x1 : Int32} : p_recv 18 [.ref 1, .int x1] (hp z a w y g) = true := rfl
theorem xco_19 (pc : Nat) : p_code 19 pc = p_find pc pc_19 := rfl
theorem xow_19 : p_own 19 = 14 := rfl
theorem xc_19_0 : p_code 19 0 = some (.iload_n 0, 1) := (xco_19 0).trans rfl
theorem xc_19_1 : p_code 19 1 = some (.iload_n 1, 1) := (xco_19 1).trans rfl
theorem xc_19_2 : p_code 19 2 = some (.if_icmp .lt 7, 3) := (xco_19 2).trans rfl
theorem xj_19_2 : p_tgt 2 (7) = 9 ∧ 0 ≤ ((2 : Nat) : Int) + (7) := ⟨by decide, by decide⟩
theorem xc_19_5 : p_code 19 5 = some (.iload_n 0, 1) := (xco_19 5).trans rfl
theorem xc_19_6 : p_code 19 6 = some (.goto 4, 3) := (xco_19 6).trans rfl
theorem xj_19_6 : p_tgt 6 (4) = 10 ∧ 0 ≤ ((6 : Nat) : Int) + (4) := ⟨by decide, by decide⟩
theorem xc_19_9 : p_code 19 9 = some (.iload_n 1, 1) := (xco_19 9).trans rfl
theorem xc_19_10 : p_code 19 10 = some (.ireturn, 1) := (xco_19 10).trans rfl
theorem xrt_19 : p_rty 19 = some .int := rfl
theorem xhh_19 : p_hh 19 = [] := rfl
theorem xin_19 {x0 : Int32} {x1 : Int32} : p_in0 19 [.int x0, .int x1] = [some (.int x0), some (.int x1)] := rfl
theorem xrc_19 {z : Nat → Int32} {a : Nat → Nat → Int32} {w : Nat → Nat → Int64} {y : Nat → Int64} {g : List pE} {x0 : Int32} {x1 : Int32} : p_recv 19 [.int x0, .int x1] (hp z a w y g) = true := rfl
theorem xco_20 (pc : Nat) : p_code 20 pc = p_find pc pc_20 := rfl
theorem xow_20 : p_own 20 = 1 := rfl
theorem xc_20_0 : p_code 20 0 = some (.aload_n 0, 1) := (xco_20 0).trans rfl
theorem xc_20_1 : p_code 20 1 = some (.invokevirtual 45, 3) := (xco_20 1).trans rfl
theorem xm_20_1 : p_calls 20 (.invokevirtual 45) = some (14, 1) := by dsimp only [p_calls]; rw [xow_20]; rfl
theorem xc_20_4 : p_code 20 4 = some (.aload_n 0, 1) := (xco_20 4).trans rfl
theorem xc_20_5 : p_code 20 5 = some (.invokevirtual 54, 3) := (xco_20 5).trans rfl
theorem xm_20_5 : p_calls 20 (.invokevirtual 54) = some (15, 1) := by dsimp only [p_calls]; rw [xow_20]; rfl
theorem xc_20_8 : p_code 20 8 = some (.iload_n 1, 1) := (xco_20 8).trans rfl
theorem xc_20_9 : p_code 20 9 = some (.if_icmp .eq 12, 3) := (xco_20 9).trans rfl
theorem xj_20_9 : p_tgt 9 (12) = 21 ∧ 0 ≤ ((9 : Nat) : Int) + (12) := ⟨by decide, by decide⟩
theorem xc_20_12 : p_code 20 12 = some (.aload_n 0, 1) := (xco_20 12).trans rfl
theorem xc_20_13 : p_code 20 13 = some (.aload_n 0, 1) := (xco_20 13).trans rfl
theorem xc_20_14 : p_code 20 14 = some (.getfield 28, 3) := (xco_20 14).trans rfl
theorem xf_20_28 : p_fld (p_own 20) 28 = some (1, 3) := by rw [xow_20]; rfl
theorem xc_20_17 : p_code 20 17 = some (.invokevirtual 48, 3) := (xco_20 17).trans rfl
theorem xm_20_17 : p_calls 20 (.invokevirtual 48) = some (17, 2) := by dsimp only [p_calls]; rw [xow_20]; rfl
theorem xc_20_20 : p_code 20 20 = some (.ireturn, 1) := (xco_20 20).trans rfl
theorem xc_20_21 : p_code 20 21 = some (.aload_n 0, 1) := (xco_20 21).trans rfl
theorem xc_20_22 : p_code 20 22 = some (.dup, 1) := (xco_20 22).trans rfl
theorem xc_20_23 : p_code 20 23 = some (.getfield 28, 3) := (xco_20 23).trans rfl
theorem xc_20_26 : p_code 20 26 = some (.iconst 1, 1) := (xco_20 26).trans rfl
theorem xc_20_27 : p_code 20 27 = some (.iadd, 1) := (xco_20 27).trans rfl
theorem xc_20_28 : p_code 20 28 = some (.putfield 28, 3) := (xco_20 28).trans rfl
theorem xc_20_31 : p_code 20 31 = some (.iconst 1, 1) := (xco_20 31).trans rfl
theorem xc_20_32 : p_code 20 32 = some (.ireturn, 1) := (xco_20 32).trans rfl
theorem xrt_20 : p_rty 20 = some .boolean := rfl
theorem xhh_20 : p_hh 20 = [] := rfl
theorem xin_20 {x1 : Int32} : p_in0 20 [.ref 11, .int x1] = [some (.ref 11), some (.int x1)] := rfl
theorem xrc_20 {z : Nat → Int32} {a : Nat → Nat → Int32} {w : Nat → Nat → Int64} {y : Nat → Int64} {g : List pE} {x1 : Int32} : p_recv 20 [.ref 11, .int x1] (hp z a w y g) = true := rfl
theorem xco_21 (pc : Nat) : p_code 21 pc = p_find pc pc_21 := rfl
theorem xow_21 : p_own 21 = 1 := rfl
theorem xc_21_0 : p_code 21 0 = some (.aload_n 0, 1) := (xco_21 0).trans rfl
theorem xc_21_1 : p_code 21 1 = some (.getfield 28, 3) := (xco_21 1).trans rfl
theorem xf_21_28 : p_fld (p_own 21) 28 = some (1, 3) := by rw [xow_21]; rfl
theorem xc_21_4 : p_code 21 4 = some (.istore_n 1, 1) := (xco_21 4).trans rfl
theorem xc_21_5 : p_code 21 5 = some (.aload_n 0, 1) := (xco_21 5).trans rfl
theorem xc_21_6 : p_code 21 6 = some (.invokevirtual 99, 3) := (xco_21 6).trans rfl
theorem xm_21_6 : p_calls 21 (.invokevirtual 99) = some (22, 1) := by dsimp only [p_calls]; rw [xow_21]; rfl
theorem xc_21_9 : p_code 21 9 = some (.istore_n 2, 1) := (xco_21 9).trans rfl
theorem xc_21_10 : p_code 21 10 = some (.iload_n 2, 1) := (xco_21 10).trans rfl
theorem xc_21_11 : p_code 21 11 = some (.iconst (-1), 1) := (xco_21 11).trans rfl
theorem xc_21_12 : p_code 21 12 = some (.if_icmp .eq 13, 3) := (xco_21 12).trans rfl
theorem xj_21_12 : p_tgt 12 (13) = 25 ∧ 0 ≤ ((12 : Nat) : Int) + (13) := ⟨by decide, by decide⟩
theorem xc_21_15 : p_code 21 15 = some (.aload_n 0, 1) := (xco_21 15).trans rfl
theorem xc_21_16 : p_code 21 16 = some (.getfield 15, 3) := (xco_21 16).trans rfl
theorem xf_21_15 : p_fld (p_own 21) 15 = some (1, 0) := by rw [xow_21]; rfl
theorem xc_21_19 : p_code 21 19 = some (.invokevirtual 62, 3) := (xco_21 19).trans rfl
theorem xm_21_19 : p_calls 21 (.invokevirtual 62) = some (25, 1) := by dsimp only [p_calls]; rw [xow_21]; rfl
theorem xc_21_22 : p_code 21 22 = some (.ifCond .eq 9, 3) := (xco_21 22).trans rfl
theorem xj_21_22 : p_tgt 22 (9) = 31 ∧ 0 ≤ ((22 : Nat) : Int) + (9) := ⟨by decide, by decide⟩
theorem xc_21_25 : p_code 21 25 = some (.aload_n 0, 1) := (xco_21 25).trans rfl
theorem xc_21_26 : p_code 21 26 = some (.iload_n 1, 1) := (xco_21 26).trans rfl
theorem xc_21_27 : p_code 21 27 = some (.invokevirtual 48, 3) := (xco_21 27).trans rfl
theorem xm_21_27 : p_calls 21 (.invokevirtual 48) = some (17, 2) := by dsimp only [p_calls]; rw [xow_21]; rfl
theorem xc_21_30 : p_code 21 30 = some (.ireturn, 1) := (xco_21 30).trans rfl
theorem xc_21_31 : p_code 21 31 = some (.aload_n 0, 1) := (xco_21 31).trans rfl
theorem xc_21_32 : p_code 21 32 = some (.invokevirtual 45, 3) := (xco_21 32).trans rfl
theorem xm_21_32 : p_calls 21 (.invokevirtual 45) = some (14, 1) := by dsimp only [p_calls]; rw [xow_21]; rfl
theorem xc_21_35 : p_code 21 35 = some (.aload_n 0, 1) := (xco_21 35).trans rfl
theorem xc_21_36 : p_code 21 36 = some (.invokevirtual 54, 3) := (xco_21 36).trans rfl
theorem xm_21_36 : p_calls 21 (.invokevirtual 54) = some (15, 1) := by dsimp only [p_calls]; rw [xow_21]; rfl
theorem xc_21_39 : p_code 21 39 = some (.bipush 37, 2) := (xco_21 39).trans rfl
theorem xc_21_41 : p_code 21 41 = some (.if_icmp .ne 33, 3) := (xco_21 41).trans rfl
theorem xj_21_41 : p_tgt 41 (33) = 74 ∧ 0 ≤ ((41 : Nat) : Int) + (33) := ⟨by decide, by decide⟩
theorem xc_21_44 : p_code 21 44 = some (.aload_n 0, 1) := (xco_21 44).trans rfl
theorem xc_21_45 : p_code 21 45 = some (.dup, 1) := (xco_21 45).trans rfl
theorem xc_21_46 : p_code 21 46 = some (.getfield 28, 3) := (xco_21 46).trans rfl
theorem xc_21_49 : p_code 21 49 = some (.iconst 1, 1) := (xco_21 49).trans rfl
theorem xc_21_50 : p_code 21 50 = some (.iadd, 1) := (xco_21 50).trans rfl
theorem xc_21_51 : p_code 21 51 = some (.putfield 28, 3) := (xco_21 51).trans rfl
theorem xc_21_54 : p_code 21 54 = some (.aload_n 0, 1) := (xco_21 54).trans rfl
theorem xc_21_55 : p_code 21 55 = some (.getfield 15, 3) := (xco_21 55).trans rfl
theorem xc_21_58 : p_code 21 58 = some (.iconst 1, 1) := (xco_21 58).trans rfl
theorem xc_21_59 : p_code 21 59 = some (.iload_n 2, 1) := (xco_21 59).trans rfl
theorem xc_21_60 : p_code 21 60 = some (.iconst (-1), 1) := (xco_21 60).trans rfl
theorem xc_21_61 : p_code 21 61 = some (.invokevirtual 82, 3) := (xco_21 61).trans rfl
theorem xm_21_61 : p_calls 21 (.invokevirtual 82) = some (26, 4) := by dsimp only [p_calls]; rw [xow_21]; rfl
theorem xc_21_64 : p_code 21 64 = some (.iconst (-1), 1) := (xco_21 64).trans rfl
theorem xc_21_65 : p_code 21 65 = some (.if_icmp .eq 7, 3) := (xco_21 65).trans rfl
theorem xj_21_65 : p_tgt 65 (7) = 72 ∧ 0 ≤ ((65 : Nat) : Int) + (7) := ⟨by decide, by decide⟩
theorem xc_21_68 : p_code 21 68 = some (.iconst 1, 1) := (xco_21 68).trans rfl
theorem xc_21_69 : p_code 21 69 = some (.goto 4, 3) := (xco_21 69).trans rfl
theorem xj_21_69 : p_tgt 69 (4) = 73 ∧ 0 ≤ ((69 : Nat) : Int) + (4) := ⟨by decide, by decide⟩
theorem xc_21_72 : p_code 21 72 = some (.iconst 0, 1) := (xco_21 72).trans rfl
theorem xc_21_73 : p_code 21 73 = some (.ireturn, 1) := (xco_21 73).trans rfl
theorem xc_21_74 : p_code 21 74 = some (.aload_n 0, 1) := (xco_21 74).trans rfl
theorem xc_21_75 : p_code 21 75 = some (.bipush 47, 2) := (xco_21 75).trans rfl
theorem xc_21_77 : p_code 21 77 = some (.invokevirtual 96, 3) := (xco_21 77).trans rfl
theorem xm_21_77 : p_calls 21 (.invokevirtual 96) = some (20, 2) := by dsimp only [p_calls]; rw [xow_21]; rfl
theorem xc_21_80 : p_code 21 80 = some (.ifCond .ne 5, 3) := (xco_21 80).trans rfl
theorem xj_21_80 : p_tgt 80 (5) = 85 ∧ 0 ≤ ((80 : Nat) : Int) + (5) := ⟨by decide, by decide⟩
theorem xc_21_83 : p_code 21 83 = some (.iconst 0, 1) := (xco_21 83).trans rfl
theorem xc_21_84 : p_code 21 84 = some (.ireturn, 1) := (xco_21 84).trans rfl
theorem xc_21_85 : p_code 21 85 = some (.aload_n 0, 1) := (xco_21 85).trans rfl
theorem xc_21_86 : p_code 21 86 = some (.invokevirtual 45, 3) := (xco_21 86).trans rfl
theorem xm_21_86 : p_calls 21 (.invokevirtual 45) = some (14, 1) := by dsimp only [p_calls]; rw [xow_21]; rfl
theorem xc_21_89 : p_code 21 89 = some (.aload_n 0, 1) := (xco_21 89).trans rfl
theorem xc_21_90 : p_code 21 90 = some (.invokevirtual 54, 3) := (xco_21 90).trans rfl
theorem xm_21_90 : p_calls 21 (.invokevirtual 54) = some (15, 1) := by dsimp only [p_calls]; rw [xow_21]; rfl
theorem xc_21_93 : p_code 21 93 = some (.bipush 65, 2) := (xco_21 93).trans rfl
theorem xc_21_95 : p_code 21 95 = some (.isub, 1) := (xco_21 95).trans rfl
theorem xc_21_96 : p_code 21 96 = some (.istore_n 3, 1) := (xco_21 96).trans rfl
theorem xc_21_97 : p_code 21 97 = some (.iload_n 3, 1) := (xco_21 97).trans rfl
theorem xc_21_98 : p_code 21 98 = some (.ifCond .lt 9, 3) := (xco_21 98).trans rfl
theorem xj_21_98 : p_tgt 98 (9) = 107 ∧ 0 ≤ ((98 : Nat) : Int) + (9) := ⟨by decide, by decide⟩
theorem xc_21_101 : p_code 21 101 = some (.iload_n 3, 1) := (xco_21 101).trans rfl
theorem xc_21_102 : p_code 21 102 = some (.bipush 8, 2) := (xco_21 102).trans rfl
theorem xc_21_104 : p_code 21 104 = some (.if_icmp .lt 12, 3) := (xco_21 104).trans rfl
theorem xj_21_104 : p_tgt 104 (12) = 116 ∧ 0 ≤ ((104 : Nat) : Int) + (12) := ⟨by decide, by decide⟩
theorem xc_21_107 : p_code 21 107 = some (.aload_n 0, 1) := (xco_21 107).trans rfl
theorem xc_21_108 : p_code 21 108 = some (.aload_n 0, 1) := (xco_21 108).trans rfl
theorem xc_21_109 : p_code 21 109 = some (.getfield 28, 3) := (xco_21 109).trans rfl
theorem xc_21_112 : p_code 21 112 = some (.invokevirtual 48, 3) := (xco_21 112).trans rfl
theorem xm_21_112 : p_calls 21 (.invokevirtual 48) = some (17, 2) := by dsimp only [p_calls]; rw [xow_21]; rfl
theorem xc_21_115 : p_code 21 115 = some (.ireturn, 1) := (xco_21 115).trans rfl
theorem xc_21_116 : p_code 21 116 = some (.aload_n 0, 1) := (xco_21 116).trans rfl
theorem xc_21_117 : p_code 21 117 = some (.dup, 1) := (xco_21 117).trans rfl
theorem xc_21_118 : p_code 21 118 = some (.getfield 28, 3) := (xco_21 118).trans rfl
theorem xc_21_121 : p_code 21 121 = some (.iconst 1, 1) := (xco_21 121).trans rfl
theorem xc_21_122 : p_code 21 122 = some (.iadd, 1) := (xco_21 122).trans rfl
theorem xc_21_123 : p_code 21 123 = some (.putfield 28, 3) := (xco_21 123).trans rfl
theorem xc_21_126 : p_code 21 126 = some (.aload_n 0, 1) := (xco_21 126).trans rfl
theorem xc_21_127 : p_code 21 127 = some (.getfield 15, 3) := (xco_21 127).trans rfl
theorem xc_21_130 : p_code 21 130 = some (.iconst 2, 1) := (xco_21 130).trans rfl
theorem xc_21_131 : p_code 21 131 = some (.iload_n 2, 1) := (xco_21 131).trans rfl
theorem xc_21_132 : p_code 21 132 = some (.iload_n 3, 1) := (xco_21 132).trans rfl
theorem xc_21_133 : p_code 21 133 = some (.invokevirtual 82, 3) := (xco_21 133).trans rfl
theorem xm_21_133 : p_calls 21 (.invokevirtual 82) = some (26, 4) := by dsimp only [p_calls]; rw [xow_21]; rfl
theorem xc_21_136 : p_code 21 136 = some (.iconst (-1), 1) := (xco_21 136).trans rfl
theorem xc_21_137 : p_code 21 137 = some (.if_icmp .eq 7, 3) := (xco_21 137).trans rfl
theorem xj_21_137 : p_tgt 137 (7) = 144 ∧ 0 ≤ ((137 : Nat) : Int) + (7) := ⟨by decide, by decide⟩
theorem xc_21_140 : p_code 21 140 = some (.iconst 1, 1) := (xco_21 140).trans rfl
theorem xc_21_141 : p_code 21 141 = some (.goto 4, 3) := (xco_21 141).trans rfl
theorem xj_21_141 : p_tgt 141 (4) = 145 ∧ 0 ≤ ((141 : Nat) : Int) + (4) := ⟨by decide, by decide⟩
theorem xc_21_144 : p_code 21 144 = some (.iconst 0, 1) := (xco_21 144).trans rfl
theorem xc_21_145 : p_code 21 145 = some (.ireturn, 1) := (xco_21 145).trans rfl
theorem xrt_21 : p_rty 21 = some .boolean := rfl
theorem xhh_21 : p_hh 21 = [] := rfl
theorem xin_21  : p_in0 21 [.ref 11] = [some (.ref 11), none, none, none] := rfl
theorem xrc_21 {z : Nat → Int32} {a : Nat → Nat → Int32} {w : Nat → Nat → Int64} {y : Nat → Int64} {g : List pE}  : p_recv 21 [.ref 11] (hp z a w y g) = true := rfl
theorem xco_22 (pc : Nat) : p_code 22 pc = p_find pc pc_22 := rfl
theorem xow_22 : p_own 22 = 1 := rfl
theorem xc_22_0 : p_code 22 0 = some (.aload_n 0, 1) := (xco_22 0).trans rfl
theorem xc_22_1 : p_code 22 1 = some (.getfield 28, 3) := (xco_22 1).trans rfl
theorem xf_22_28 : p_fld (p_own 22) 28 = some (1, 3) := by rw [xow_22]; rfl
theorem xc_22_4 : p_code 22 4 = some (.istore_n 1, 1) := (xco_22 4).trans rfl
theorem xc_22_5 : p_code 22 5 = some (.aload_n 0, 1) := (xco_22 5).trans rfl
theorem xc_22_6 : p_code 22 6 = some (.invokevirtual 115, 3) := (xco_22 6).trans rfl
theorem xm_22_6 : p_calls 22 (.invokevirtual 115) = some (23, 1) := by dsimp only [p_calls]; rw [xow_22]; rfl
theorem xc_22_9 : p_code 22 9 = some (.aload_n 0, 1) := (xco_22 9).trans rfl
theorem xc_22_10 : p_code 22 10 = some (.getfield 28, 3) := (xco_22 10).trans rfl
theorem xc_22_13 : p_code 22 13 = some (.iload_n 1, 1) := (xco_22 13).trans rfl
theorem xc_22_14 : p_code 22 14 = some (.isub, 1) := (xco_22 14).trans rfl
theorem xc_22_15 : p_code 22 15 = some (.istore_n 2, 1) := (xco_22 15).trans rfl
theorem xc_22_16 : p_code 22 16 = some (.iload_n 2, 1) := (xco_22 16).trans rfl
theorem xc_22_17 : p_code 22 17 = some (.iconst 1, 1) := (xco_22 17).trans rfl
theorem xc_22_18 : p_code 22 18 = some (.if_icmp .lt 8, 3) := (xco_22 18).trans rfl
theorem xj_22_18 : p_tgt 18 (8) = 26 ∧ 0 ≤ ((18 : Nat) : Int) + (8) := ⟨by decide, by decide⟩
theorem xc_22_21 : p_code 22 21 = some (.iload_n 2, 1) := (xco_22 21).trans rfl
theorem xc_22_22 : p_code 22 22 = some (.iconst 5, 1) := (xco_22 22).trans rfl
theorem xc_22_23 : p_code 22 23 = some (.if_icmp .le 5, 3) := (xco_22 23).trans rfl
theorem xj_22_23 : p_tgt 23 (5) = 28 ∧ 0 ≤ ((23 : Nat) : Int) + (5) := ⟨by decide, by decide⟩
theorem xc_22_26 : p_code 22 26 = some (.iconst (-1), 1) := (xco_22 26).trans rfl
theorem xc_22_27 : p_code 22 27 = some (.ireturn, 1) := (xco_22 27).trans rfl
theorem xc_22_28 : p_code 22 28 = some (.aload_n 0, 1) := (xco_22 28).trans rfl
theorem xc_22_29 : p_code 22 29 = some (.iload_n 1, 1) := (xco_22 29).trans rfl
theorem xc_22_30 : p_code 22 30 = some (.invokevirtual 118, 3) := (xco_22 30).trans rfl
theorem xm_22_30 : p_calls 22 (.invokevirtual 118) = some (24, 2) := by dsimp only [p_calls]; rw [xow_22]; rfl
theorem xc_22_33 : p_code 22 33 = some (.sipush 1000, 3) := (xco_22 33).trans rfl
theorem xc_22_36 : p_code 22 36 = some (.imul, 1) := (xco_22 36).trans rfl
theorem xc_22_37 : p_code 22 37 = some (.istore_n 3, 1) := (xco_22 37).trans rfl
theorem xc_22_38 : p_code 22 38 = some (.aload_n 0, 1) := (xco_22 38).trans rfl
theorem xc_22_39 : p_code 22 39 = some (.invokevirtual 54, 3) := (xco_22 39).trans rfl
theorem xm_22_39 : p_calls 22 (.invokevirtual 54) = some (15, 1) := by dsimp only [p_calls]; rw [xow_22]; rfl
theorem xc_22_42 : p_code 22 42 = some (.bipush 46, 2) := (xco_22 42).trans rfl
theorem xc_22_44 : p_code 22 44 = some (.if_icmp .eq 5, 3) := (xco_22 44).trans rfl
theorem xj_22_44 : p_tgt 44 (5) = 49 ∧ 0 ≤ ((44 : Nat) : Int) + (5) := ⟨by decide, by decide⟩
theorem xc_22_47 : p_code 22 47 = some (.iload_n 3, 1) := (xco_22 47).trans rfl
theorem xc_22_48 : p_code 22 48 = some (.ireturn, 1) := (xco_22 48).trans rfl
theorem xc_22_49 : p_code 22 49 = some (.aload_n 0, 1) := (xco_22 49).trans rfl
theorem xc_22_50 : p_code 22 50 = some (.dup, 1) := (xco_22 50).trans rfl
theorem xc_22_51 : p_code 22 51 = some (.getfield 28, 3) := (xco_22 51).trans rfl
theorem xc_22_54 : p_code 22 54 = some (.iconst 1, 1) := (xco_22 54).trans rfl
theorem xc_22_55 : p_code 22 55 = some (.iadd, 1) := (xco_22 55).trans rfl
theorem xc_22_56 : p_code 22 56 = some (.putfield 28, 3) := (xco_22 56).trans rfl
theorem xc_22_59 : p_code 22 59 = some (.aload_n 0, 1) := (xco_22 59).trans rfl
theorem xc_22_60 : p_code 22 60 = some (.getfield 28, 3) := (xco_22 60).trans rfl
theorem xc_22_63 : p_code 22 63 = some (.istore 4, 2) := (xco_22 63).trans rfl
theorem xc_22_65 : p_code 22 65 = some (.aload_n 0, 1) := (xco_22 65).trans rfl
theorem xc_22_66 : p_code 22 66 = some (.invokevirtual 115, 3) := (xco_22 66).trans rfl
theorem xm_22_66 : p_calls 22 (.invokevirtual 115) = some (23, 1) := by dsimp only [p_calls]; rw [xow_22]; rfl
theorem xc_22_69 : p_code 22 69 = some (.aload_n 0, 1) := (xco_22 69).trans rfl
theorem xc_22_70 : p_code 22 70 = some (.getfield 28, 3) := (xco_22 70).trans rfl
theorem xc_22_73 : p_code 22 73 = some (.iload 4, 2) := (xco_22 73).trans rfl
theorem xc_22_75 : p_code 22 75 = some (.isub, 1) := (xco_22 75).trans rfl
theorem xc_22_76 : p_code 22 76 = some (.tableswitch 61 1 3 #[28, 40, 52], 28) := (xco_22 76).trans rfl
theorem xc_22_104 : p_code 22 104 = some (.iload_n 3, 1) := (xco_22 104).trans rfl
theorem xc_22_105 : p_code 22 105 = some (.aload_n 0, 1) := (xco_22 105).trans rfl
theorem xc_22_106 : p_code 22 106 = some (.iload 4, 2) := (xco_22 106).trans rfl
theorem xc_22_108 : p_code 22 108 = some (.invokevirtual 118, 3) := (xco_22 108).trans rfl
theorem xm_22_108 : p_calls 22 (.invokevirtual 118) = some (24, 2) := by dsimp only [p_calls]; rw [xow_22]; rfl
theorem xc_22_111 : p_code 22 111 = some (.bipush 100, 2) := (xco_22 111).trans rfl
theorem xc_22_113 : p_code 22 113 = some (.imul, 1) := (xco_22 113).trans rfl
theorem xc_22_114 : p_code 22 114 = some (.iadd, 1) := (xco_22 114).trans rfl
theorem xc_22_115 : p_code 22 115 = some (.ireturn, 1) := (xco_22 115).trans rfl
theorem xc_22_116 : p_code 22 116 = some (.iload_n 3, 1) := (xco_22 116).trans rfl
theorem xc_22_117 : p_code 22 117 = some (.aload_n 0, 1) := (xco_22 117).trans rfl
theorem xc_22_118 : p_code 22 118 = some (.iload 4, 2) := (xco_22 118).trans rfl
theorem xc_22_120 : p_code 22 120 = some (.invokevirtual 118, 3) := (xco_22 120).trans rfl
theorem xm_22_120 : p_calls 22 (.invokevirtual 118) = some (24, 2) := by dsimp only [p_calls]; rw [xow_22]; rfl
theorem xc_22_123 : p_code 22 123 = some (.bipush 10, 2) := (xco_22 123).trans rfl
theorem xc_22_125 : p_code 22 125 = some (.imul, 1) := (xco_22 125).trans rfl
theorem xc_22_126 : p_code 22 126 = some (.iadd, 1) := (xco_22 126).trans rfl
theorem xc_22_127 : p_code 22 127 = some (.ireturn, 1) := (xco_22 127).trans rfl
theorem xc_22_128 : p_code 22 128 = some (.iload_n 3, 1) := (xco_22 128).trans rfl
theorem xc_22_129 : p_code 22 129 = some (.aload_n 0, 1) := (xco_22 129).trans rfl
theorem xc_22_130 : p_code 22 130 = some (.iload 4, 2) := (xco_22 130).trans rfl
theorem xc_22_132 : p_code 22 132 = some (.invokevirtual 118, 3) := (xco_22 132).trans rfl
theorem xm_22_132 : p_calls 22 (.invokevirtual 118) = some (24, 2) := by dsimp only [p_calls]; rw [xow_22]; rfl
theorem xc_22_135 : p_code 22 135 = some (.iadd, 1) := (xco_22 135).trans rfl
theorem xc_22_136 : p_code 22 136 = some (.ireturn, 1) := (xco_22 136).trans rfl
theorem xc_22_137 : p_code 22 137 = some (.iconst (-1), 1) := (xco_22 137).trans rfl
theorem xc_22_138 : p_code 22 138 = some (.ireturn, 1) := (xco_22 138).trans rfl
theorem xrt_22 : p_rty 22 = some .int := rfl
theorem xhh_22 : p_hh 22 = [] := rfl
theorem xin_22  : p_in0 22 [.ref 11] = [some (.ref 11), none, none, none, none] := rfl
theorem xrc_22 {z : Nat → Int32} {a : Nat → Nat → Int32} {w : Nat → Nat → Int64} {y : Nat → Int64} {g : List pE}  : p_recv 22 [.ref 11] (hp z a w y g) = true := rfl
theorem xco_23 (pc : Nat) : p_code 23 pc = p_find pc pc_23 := rfl
theorem xow_23 : p_own 23 = 1 := rfl
theorem xc_23_0 : p_code 23 0 = some (.aload_n 0, 1) := (xco_23 0).trans rfl
theorem xc_23_1 : p_code 23 1 = some (.getfield 28, 3) := (xco_23 1).trans rfl
theorem xf_23_28 : p_fld (p_own 23) 28 = some (1, 3) := by rw [xow_23]; rfl
theorem xc_23_4 : p_code 23 4 = some (.aload_n 0, 1) := (xco_23 4).trans rfl
theorem xc_23_5 : p_code 23 5 = some (.getfield 19, 3) := (xco_23 5).trans rfl
theorem xf_23_19 : p_fld (p_own 23) 19 = some (1, 2) := by rw [xow_23]; rfl
theorem xc_23_8 : p_code 23 8 = some (.if_icmp .ge 44, 3) := (xco_23 8).trans rfl
theorem xj_23_8 : p_tgt 8 (44) = 52 ∧ 0 ≤ ((8 : Nat) : Int) + (44) := ⟨by decide, by decide⟩
theorem xc_23_11 : p_code 23 11 = some (.aload_n 0, 1) := (xco_23 11).trans rfl
theorem xc_23_12 : p_code 23 12 = some (.getfield 9, 3) := (xco_23 12).trans rfl
theorem xf_23_9 : p_fld (p_own 23) 9 = some (1, 1) := by rw [xow_23]; rfl
theorem xc_23_15 : p_code 23 15 = some (.aload_n 0, 1) := (xco_23 15).trans rfl
theorem xc_23_16 : p_code 23 16 = some (.getfield 28, 3) := (xco_23 16).trans rfl
theorem xc_23_19 : p_code 23 19 = some (.iaload, 1) := (xco_23 19).trans rfl
theorem xc_23_20 : p_code 23 20 = some (.bipush 48, 2) := (xco_23 20).trans rfl
theorem xc_23_22 : p_code 23 22 = some (.if_icmp .lt 30, 3) := (xco_23 22).trans rfl
theorem xj_23_22 : p_tgt 22 (30) = 52 ∧ 0 ≤ ((22 : Nat) : Int) + (30) := ⟨by decide, by decide⟩
theorem xc_23_25 : p_code 23 25 = some (.aload_n 0, 1) := (xco_23 25).trans rfl
theorem xc_23_26 : p_code 23 26 = some (.getfield 9, 3) := (xco_23 26).trans rfl
theorem xc_23_29 : p_code 23 29 = some (.aload_n 0, 1) := (xco_23 29).trans rfl
theorem xc_23_30 : p_code 23 30 = some (.getfield 28, 3) := (xco_23 30).trans rfl
theorem xc_23_33 : p_code 23 33 = some (.iaload, 1) := (xco_23 33).trans rfl
theorem xc_23_34 : p_code 23 34 = some (.bipush 57, 2) := (xco_23 34).trans rfl
theorem xc_23_36 : p_code 23 36 = some (.if_icmp .gt 16, 3) := (xco_23 36).trans rfl
theorem xj_23_36 : p_tgt 36 (16) = 52 ∧ 0 ≤ ((36 : Nat) : Int) + (16) := ⟨by decide, by decide⟩
theorem xc_23_39 : p_code 23 39 = some (.aload_n 0, 1) := (xco_23 39).trans rfl
theorem xc_23_40 : p_code 23 40 = some (.dup, 1) := (xco_23 40).trans rfl
theorem xc_23_41 : p_code 23 41 = some (.getfield 28, 3) := (xco_23 41).trans rfl
theorem xc_23_44 : p_code 23 44 = some (.iconst 1, 1) := (xco_23 44).trans rfl
theorem xc_23_45 : p_code 23 45 = some (.iadd, 1) := (xco_23 45).trans rfl
theorem xc_23_46 : p_code 23 46 = some (.putfield 28, 3) := (xco_23 46).trans rfl
theorem xc_23_49 : p_code 23 49 = some (.goto (-49), 3) := (xco_23 49).trans rfl
theorem xj_23_49 : p_tgt 49 (-49) = 0 ∧ 0 ≤ ((49 : Nat) : Int) + (-49) := ⟨by decide, by decide⟩
theorem xc_23_52 : p_code 23 52 = some (.return_, 1) := (xco_23 52).trans rfl
theorem xrt_23 : p_rty 23 = none := rfl
theorem xhh_23 : p_hh 23 = [] := rfl
theorem xin_23  : p_in0 23 [.ref 11] = [some (.ref 11)] := rfl
theorem xrc_23 {z : Nat → Int32} {a : Nat → Nat → Int32} {w : Nat → Nat → Int64} {y : Nat → Int64} {g : List pE}  : p_recv 23 [.ref 11] (hp z a w y g) = true := rfl
theorem xco_24 (pc : Nat) : p_code 24 pc = p_find pc pc_24 := rfl
theorem xow_24 : p_own 24 = 1 := rfl
theorem xc_24_0 : p_code 24 0 = some (.iconst 0, 1) := (xco_24 0).trans rfl
theorem xc_24_1 : p_code 24 1 = some (.istore_n 2, 1) := (xco_24 1).trans rfl
theorem xc_24_2 : p_code 24 2 = some (.iload_n 1, 1) := (xco_24 2).trans rfl
theorem xc_24_3 : p_code 24 3 = some (.istore_n 3, 1) := (xco_24 3).trans rfl
theorem xc_24_4 : p_code 24 4 = some (.iload_n 3, 1) := (xco_24 4).trans rfl
theorem xc_24_5 : p_code 24 5 = some (.aload_n 0, 1) := (xco_24 5).trans rfl
theorem xc_24_6 : p_code 24 6 = some (.getfield 28, 3) := (xco_24 6).trans rfl
theorem xf_24_28 : p_fld (p_own 24) 28 = some (1, 3) := by rw [xow_24]; rfl
theorem xc_24_9 : p_code 24 9 = some (.if_icmp .ge 24, 3) := (xco_24 9).trans rfl
theorem xj_24_9 : p_tgt 9 (24) = 33 ∧ 0 ≤ ((9 : Nat) : Int) + (24) := ⟨by decide, by decide⟩
theorem xc_24_12 : p_code 24 12 = some (.iload_n 2, 1) := (xco_24 12).trans rfl
theorem xc_24_13 : p_code 24 13 = some (.bipush 10, 2) := (xco_24 13).trans rfl
theorem xc_24_15 : p_code 24 15 = some (.imul, 1) := (xco_24 15).trans rfl
theorem xc_24_16 : p_code 24 16 = some (.aload_n 0, 1) := (xco_24 16).trans rfl
theorem xc_24_17 : p_code 24 17 = some (.getfield 9, 3) := (xco_24 17).trans rfl
theorem xf_24_9 : p_fld (p_own 24) 9 = some (1, 1) := by rw [xow_24]; rfl
theorem xc_24_20 : p_code 24 20 = some (.iload_n 3, 1) := (xco_24 20).trans rfl
theorem xc_24_21 : p_code 24 21 = some (.iaload, 1) := (xco_24 21).trans rfl
theorem xc_24_22 : p_code 24 22 = some (.bipush 48, 2) := (xco_24 22).trans rfl
theorem xc_24_24 : p_code 24 24 = some (.isub, 1) := (xco_24 24).trans rfl
theorem xc_24_25 : p_code 24 25 = some (.iadd, 1) := (xco_24 25).trans rfl
theorem xc_24_26 : p_code 24 26 = some (.istore_n 2, 1) := (xco_24 26).trans rfl
theorem xc_24_27 : p_code 24 27 = some (.iinc 3 1, 3) := (xco_24 27).trans rfl
theorem xc_24_30 : p_code 24 30 = some (.goto (-26), 3) := (xco_24 30).trans rfl
theorem xj_24_30 : p_tgt 30 (-26) = 4 ∧ 0 ≤ ((30 : Nat) : Int) + (-26) := ⟨by decide, by decide⟩
theorem xc_24_33 : p_code 24 33 = some (.iload_n 2, 1) := (xco_24 33).trans rfl
theorem xc_24_34 : p_code 24 34 = some (.ireturn, 1) := (xco_24 34).trans rfl
theorem xrt_24 : p_rty 24 = some .int := rfl
theorem xhh_24 : p_hh 24 = [] := rfl
theorem xin_24 {x1 : Int32} : p_in0 24 [.ref 11, .int x1] = [some (.ref 11), some (.int x1), none, none] := rfl
theorem xrc_24 {z : Nat → Int32} {a : Nat → Nat → Int32} {w : Nat → Nat → Int64} {y : Nat → Int64} {g : List pE} {x1 : Int32} : p_recv 24 [.ref 11, .int x1] (hp z a w y g) = true := rfl
theorem xco_25 (pc : Nat) : p_code 25 pc = p_find pc pc_25 := rfl
theorem xow_25 : p_own 25 = 2 := rfl
theorem xc_25_0 : p_code 25 0 = some (.aload_n 0, 1) := (xco_25 0).trans rfl
theorem xc_25_1 : p_code 25 1 = some (.getfield 43, 3) := (xco_25 1).trans rfl
theorem xf_25_43 : p_fld (p_own 25) 43 = some (2, 10) := by rw [xow_25]; rfl
theorem xc_25_4 : p_code 25 4 = some (.bipush 60, 2) := (xco_25 4).trans rfl
theorem xc_25_6 : p_code 25 6 = some (.if_icmp .lt 7, 3) := (xco_25 6).trans rfl
theorem xj_25_6 : p_tgt 6 (7) = 13 ∧ 0 ≤ ((6 : Nat) : Int) + (7) := ⟨by decide, by decide⟩
theorem xc_25_9 : p_code 25 9 = some (.iconst 1, 1) := (xco_25 9).trans rfl
theorem xc_25_10 : p_code 25 10 = some (.goto 4, 3) := (xco_25 10).trans rfl
theorem xj_25_10 : p_tgt 10 (4) = 14 ∧ 0 ≤ ((10 : Nat) : Int) + (4) := ⟨by decide, by decide⟩
theorem xc_25_13 : p_code 25 13 = some (.iconst 0, 1) := (xco_25 13).trans rfl
theorem xc_25_14 : p_code 25 14 = some (.ireturn, 1) := (xco_25 14).trans rfl
theorem xrt_25 : p_rty 25 = some .boolean := rfl
theorem xhh_25 : p_hh 25 = [] := rfl
theorem xin_25  : p_in0 25 [.ref 1] = [some (.ref 1)] := rfl
theorem xrc_25 {z : Nat → Int32} {a : Nat → Nat → Int32} {w : Nat → Nat → Int64} {y : Nat → Int64} {g : List pE}  : p_recv 25 [.ref 1] (hp z a w y g) = true := rfl
theorem xco_26 (pc : Nat) : p_code 26 pc = p_find pc pc_26 := rfl
theorem xow_26 : p_own 26 = 2 := rfl
theorem xc_26_0 : p_code 26 0 = some (.aload_n 0, 1) := (xco_26 0).trans rfl
theorem xc_26_1 : p_code 26 1 = some (.invokevirtual 49, 3) := (xco_26 1).trans rfl
theorem xm_26_1 : p_calls 26 (.invokevirtual 49) = some (25, 1) := by dsimp only [p_calls]; rw [xow_26]; rfl
theorem xc_26_4 : p_code 26 4 = some (.ifCond .eq 5, 3) := (xco_26 4).trans rfl
theorem xj_26_4 : p_tgt 4 (5) = 9 ∧ 0 ≤ ((4 : Nat) : Int) + (5) := ⟨by decide, by decide⟩
theorem xc_26_7 : p_code 26 7 = some (.iconst (-1), 1) := (xco_26 7).trans rfl
theorem xc_26_8 : p_code 26 8 = some (.ireturn, 1) := (xco_26 8).trans rfl
theorem xc_26_9 : p_code 26 9 = some (.aload_n 0, 1) := (xco_26 9).trans rfl
theorem xc_26_10 : p_code 26 10 = some (.getfield 43, 3) := (xco_26 10).trans rfl
theorem xf_26_43 : p_fld (p_own 26) 43 = some (2, 10) := by rw [xow_26]; rfl
theorem xc_26_13 : p_code 26 13 = some (.istore 4, 2) := (xco_26 13).trans rfl
theorem xc_26_15 : p_code 26 15 = some (.aload_n 0, 1) := (xco_26 15).trans rfl
theorem xc_26_16 : p_code 26 16 = some (.dup, 1) := (xco_26 16).trans rfl
theorem xc_26_17 : p_code 26 17 = some (.getfield 43, 3) := (xco_26 17).trans rfl
theorem xc_26_20 : p_code 26 20 = some (.iconst 1, 1) := (xco_26 20).trans rfl
theorem xc_26_21 : p_code 26 21 = some (.iadd, 1) := (xco_26 21).trans rfl
theorem xc_26_22 : p_code 26 22 = some (.putfield 43, 3) := (xco_26 22).trans rfl
theorem xc_26_25 : p_code 26 25 = some (.aload_n 0, 1) := (xco_26 25).trans rfl
theorem xc_26_26 : p_code 26 26 = some (.iload 4, 2) := (xco_26 26).trans rfl
theorem xc_26_28 : p_code 26 28 = some (.iload_n 1, 1) := (xco_26 28).trans rfl
theorem xc_26_29 : p_code 26 29 = some (.iload_n 2, 1) := (xco_26 29).trans rfl
theorem xc_26_30 : p_code 26 30 = some (.iload_n 3, 1) := (xco_26 30).trans rfl
theorem xc_26_31 : p_code 26 31 = some (.invokevirtual 53, 3) := (xco_26 31).trans rfl
theorem xm_26_31 : p_calls 26 (.invokevirtual 53) = some (27, 5) := by dsimp only [p_calls]; rw [xow_26]; rfl
theorem xc_26_34 : p_code 26 34 = some (.iload 4, 2) := (xco_26 34).trans rfl
theorem xc_26_36 : p_code 26 36 = some (.ireturn, 1) := (xco_26 36).trans rfl
theorem xrt_26 : p_rty 26 = some .int := rfl
theorem xhh_26 : p_hh 26 = [] := rfl
theorem xin_26 {x1 : Int32} {x2 : Int32} {x3 : Int32} : p_in0 26 [.ref 1, .int x1, .int x2, .int x3] = [some (.ref 1), some (.int x1), some (.int x2), some (.int x3), none] := rfl
theorem xrc_26 {z : Nat → Int32} {a : Nat → Nat → Int32} {w : Nat → Nat → Int64} {y : Nat → Int64} {g : List pE} {x1 : Int32} {x2 : Int32} {x3 : Int32} : p_recv 26 [.ref 1, .int x1, .int x2, .int x3] (hp z a w y g) = true := rfl
theorem xco_27 (pc : Nat) : p_code 27 pc = p_find pc pc_27 := rfl
theorem xow_27 : p_own 27 = 2 := rfl
theorem xc_27_0 : p_code 27 0 = some (.aload_n 0, 1) := (xco_27 0).trans rfl
theorem xc_27_1 : p_code 27 1 = some (.getfield 9, 3) := (xco_27 1).trans rfl
theorem xf_27_9 : p_fld (p_own 27) 9 = some (2, 0) := by rw [xow_27]; rfl
theorem xc_27_4 : p_code 27 4 = some (.iload_n 1, 1) := (xco_27 4).trans rfl
theorem xc_27_5 : p_code 27 5 = some (.iload_n 2, 1) := (xco_27 5).trans rfl
theorem xc_27_6 : p_code 27 6 = some (.iastore, 1) := (xco_27 6).trans rfl
theorem xc_27_7 : p_code 27 7 = some (.aload_n 0, 1) := (xco_27 7).trans rfl
theorem xc_27_8 : p_code 27 8 = some (.getfield 15, 3) := (xco_27 8).trans rfl
theorem xf_27_15 : p_fld (p_own 27) 15 = some (2, 1) := by rw [xow_27]; rfl
theorem xc_27_11 : p_code 27 11 = some (.iload_n 1, 1) := (xco_27 11).trans rfl
theorem xc_27_12 : p_code 27 12 = some (.iload_n 3, 1) := (xco_27 12).trans rfl
theorem xc_27_13 : p_code 27 13 = some (.iastore, 1) := (xco_27 13).trans rfl
theorem xc_27_14 : p_code 27 14 = some (.aload_n 0, 1) := (xco_27 14).trans rfl
theorem xc_27_15 : p_code 27 15 = some (.getfield 18, 3) := (xco_27 15).trans rfl
theorem xf_27_18 : p_fld (p_own 27) 18 = some (2, 2) := by rw [xow_27]; rfl
theorem xc_27_18 : p_code 27 18 = some (.iload_n 1, 1) := (xco_27 18).trans rfl
theorem xc_27_19 : p_code 27 19 = some (.iload 4, 2) := (xco_27 19).trans rfl
theorem xc_27_21 : p_code 27 21 = some (.iastore, 1) := (xco_27 21).trans rfl
theorem xc_27_22 : p_code 27 22 = some (.aload_n 0, 1) := (xco_27 22).trans rfl
theorem xc_27_23 : p_code 27 23 = some (.getfield 21, 3) := (xco_27 23).trans rfl
theorem xf_27_21 : p_fld (p_own 27) 21 = some (2, 3) := by rw [xow_27]; rfl
theorem xc_27_26 : p_code 27 26 = some (.iload_n 1, 1) := (xco_27 26).trans rfl
theorem xc_27_27 : p_code 27 27 = some (.iconst (-1), 1) := (xco_27 27).trans rfl
theorem xc_27_28 : p_code 27 28 = some (.iastore, 1) := (xco_27 28).trans rfl
theorem xc_27_29 : p_code 27 29 = some (.aload_n 0, 1) := (xco_27 29).trans rfl
theorem xc_27_30 : p_code 27 30 = some (.getfield 24, 3) := (xco_27 30).trans rfl
theorem xf_27_24 : p_fld (p_own 27) 24 = some (2, 4) := by rw [xow_27]; rfl
theorem xc_27_33 : p_code 27 33 = some (.iload_n 1, 1) := (xco_27 33).trans rfl
theorem xc_27_34 : p_code 27 34 = some (.iconst (-1), 1) := (xco_27 34).trans rfl
theorem xc_27_35 : p_code 27 35 = some (.iastore, 1) := (xco_27 35).trans rfl
theorem xc_27_36 : p_code 27 36 = some (.aload_n 0, 1) := (xco_27 36).trans rfl
theorem xc_27_37 : p_code 27 37 = some (.getfield 27, 3) := (xco_27 37).trans rfl
theorem xf_27_27 : p_fld (p_own 27) 27 = some (2, 5) := by rw [xow_27]; rfl
theorem xc_27_40 : p_code 27 40 = some (.iload_n 1, 1) := (xco_27 40).trans rfl
theorem xc_27_41 : p_code 27 41 = some (.iconst 0, 1) := (xco_27 41).trans rfl
theorem xc_27_42 : p_code 27 42 = some (.iastore, 1) := (xco_27 42).trans rfl
theorem xc_27_43 : p_code 27 43 = some (.aload_n 0, 1) := (xco_27 43).trans rfl
theorem xc_27_44 : p_code 27 44 = some (.getfield 30, 3) := (xco_27 44).trans rfl
theorem xf_27_30 : p_fld (p_own 27) 30 = some (2, 6) := by rw [xow_27]; rfl
theorem xc_27_47 : p_code 27 47 = some (.iload_n 1, 1) := (xco_27 47).trans rfl
theorem xc_27_48 : p_code 27 48 = some (.iconst 0, 1) := (xco_27 48).trans rfl
theorem xc_27_49 : p_code 27 49 = some (.iastore, 1) := (xco_27 49).trans rfl
theorem xc_27_50 : p_code 27 50 = some (.return_, 1) := (xco_27 50).trans rfl
theorem xrt_27 : p_rty 27 = none := rfl
theorem xhh_27 : p_hh 27 = [] := rfl
theorem xin_27 {x1 : Int32} {x2 : Int32} {x3 : Int32} {x4 : Int32} : p_in0 27 [.ref 1, .int x1, .int x2, .int x3, .int x4] = [some (.ref 1), some (.int x1), some (.int x2), some (.int x3), some (.int x4)] := rfl
theorem xrc_27 {z : Nat → Int32} {a : Nat → Nat → Int32} {w : Nat → Nat → Int64} {y : Nat → Int64} {g : List pE} {x1 : Int32} {x2 : Int32} {x3 : Int32} {x4 : Int32} : p_recv 27 [.ref 1, .int x1, .int x2, .int x3, .int x4] (hp z a w y g) = true := rfl
theorem xco_28 (pc : Nat) : p_code 28 pc = p_find pc pc_28 := rfl
theorem xow_28 : p_own 28 = 1 := rfl
theorem xc_28_0 : p_code 28 0 = some (.aload_n 0, 1) := (xco_28 0).trans rfl
theorem xc_28_1 : p_code 28 1 = some (.getfield 28, 3) := (xco_28 1).trans rfl
theorem xf_28_28 : p_fld (p_own 28) 28 = some (1, 3) := by rw [xow_28]; rfl
theorem xc_28_4 : p_code 28 4 = some (.istore_n 1, 1) := (xco_28 4).trans rfl
theorem xc_28_5 : p_code 28 5 = some (.aload_n 0, 1) := (xco_28 5).trans rfl
theorem xc_28_6 : p_code 28 6 = some (.getfield 28, 3) := (xco_28 6).trans rfl
theorem xc_28_9 : p_code 28 9 = some (.aload_n 0, 1) := (xco_28 9).trans rfl
theorem xc_28_10 : p_code 28 10 = some (.getfield 19, 3) := (xco_28 10).trans rfl
theorem xf_28_19 : p_fld (p_own 28) 19 = some (1, 2) := by rw [xow_28]; rfl
theorem xc_28_13 : p_code 28 13 = some (.if_icmp .ge 44, 3) := (xco_28 13).trans rfl
theorem xj_28_13 : p_tgt 13 (44) = 57 ∧ 0 ≤ ((13 : Nat) : Int) + (44) := ⟨by decide, by decide⟩
theorem xc_28_16 : p_code 28 16 = some (.aload_n 0, 1) := (xco_28 16).trans rfl
theorem xc_28_17 : p_code 28 17 = some (.getfield 9, 3) := (xco_28 17).trans rfl
theorem xf_28_9 : p_fld (p_own 28) 9 = some (1, 1) := by rw [xow_28]; rfl
theorem xc_28_20 : p_code 28 20 = some (.aload_n 0, 1) := (xco_28 20).trans rfl
theorem xc_28_21 : p_code 28 21 = some (.getfield 28, 3) := (xco_28 21).trans rfl
theorem xc_28_24 : p_code 28 24 = some (.iaload, 1) := (xco_28 24).trans rfl
theorem xc_28_25 : p_code 28 25 = some (.bipush 97, 2) := (xco_28 25).trans rfl
theorem xc_28_27 : p_code 28 27 = some (.if_icmp .lt 30, 3) := (xco_28 27).trans rfl
theorem xj_28_27 : p_tgt 27 (30) = 57 ∧ 0 ≤ ((27 : Nat) : Int) + (30) := ⟨by decide, by decide⟩
theorem xc_28_30 : p_code 28 30 = some (.aload_n 0, 1) := (xco_28 30).trans rfl
theorem xc_28_31 : p_code 28 31 = some (.getfield 9, 3) := (xco_28 31).trans rfl
theorem xc_28_34 : p_code 28 34 = some (.aload_n 0, 1) := (xco_28 34).trans rfl
theorem xc_28_35 : p_code 28 35 = some (.getfield 28, 3) := (xco_28 35).trans rfl
theorem xc_28_38 : p_code 28 38 = some (.iaload, 1) := (xco_28 38).trans rfl
theorem xc_28_39 : p_code 28 39 = some (.bipush 122, 2) := (xco_28 39).trans rfl
theorem xc_28_41 : p_code 28 41 = some (.if_icmp .gt 16, 3) := (xco_28 41).trans rfl
theorem xj_28_41 : p_tgt 41 (16) = 57 ∧ 0 ≤ ((41 : Nat) : Int) + (16) := ⟨by decide, by decide⟩
theorem xc_28_44 : p_code 28 44 = some (.aload_n 0, 1) := (xco_28 44).trans rfl
theorem xc_28_45 : p_code 28 45 = some (.dup, 1) := (xco_28 45).trans rfl
theorem xc_28_46 : p_code 28 46 = some (.getfield 28, 3) := (xco_28 46).trans rfl
theorem xc_28_49 : p_code 28 49 = some (.iconst 1, 1) := (xco_28 49).trans rfl
theorem xc_28_50 : p_code 28 50 = some (.iadd, 1) := (xco_28 50).trans rfl
theorem xc_28_51 : p_code 28 51 = some (.putfield 28, 3) := (xco_28 51).trans rfl
theorem xc_28_54 : p_code 28 54 = some (.goto (-49), 3) := (xco_28 54).trans rfl
theorem xj_28_54 : p_tgt 54 (-49) = 5 ∧ 0 ≤ ((54 : Nat) : Int) + (-49) := ⟨by decide, by decide⟩
theorem xc_28_57 : p_code 28 57 = some (.aload_n 0, 1) := (xco_28 57).trans rfl
theorem xc_28_58 : p_code 28 58 = some (.iload_n 1, 1) := (xco_28 58).trans rfl
theorem xc_28_59 : p_code 28 59 = some (.ldc 121, 2) := (xco_28 59).trans rfl
theorem xln_28_121 : p_int (p_own 28) 121 = none := by rw [xow_28]; rfl
theorem xls_28_121 : p_str (p_own 28) 121 = some 0 := by rw [xow_28]; rfl
theorem xc_28_61 : p_code 28 61 = some (.invokevirtual 123, 3) := (xco_28 61).trans rfl
theorem xm_28_61 : p_calls 28 (.invokevirtual 123) = some (29, 3) := by dsimp only [p_calls]; rw [xow_28]; rfl
theorem xc_28_64 : p_code 28 64 = some (.ifCond .eq 5, 3) := (xco_28 64).trans rfl
theorem xj_28_64 : p_tgt 64 (5) = 69 ∧ 0 ≤ ((64 : Nat) : Int) + (5) := ⟨by decide, by decide⟩
theorem xc_28_67 : p_code 28 67 = some (.iconst 0, 1) := (xco_28 67).trans rfl
theorem xc_28_68 : p_code 28 68 = some (.ireturn, 1) := (xco_28 68).trans rfl
theorem xc_28_69 : p_code 28 69 = some (.aload_n 0, 1) := (xco_28 69).trans rfl
theorem xc_28_70 : p_code 28 70 = some (.iload_n 1, 1) := (xco_28 70).trans rfl
theorem xc_28_71 : p_code 28 71 = some (.ldc 127, 2) := (xco_28 71).trans rfl
theorem xln_28_127 : p_int (p_own 28) 127 = none := by rw [xow_28]; rfl
theorem xls_28_127 : p_str (p_own 28) 127 = some 1 := by rw [xow_28]; rfl
theorem xc_28_73 : p_code 28 73 = some (.invokevirtual 123, 3) := (xco_28 73).trans rfl
theorem xm_28_73 : p_calls 28 (.invokevirtual 123) = some (29, 3) := by dsimp only [p_calls]; rw [xow_28]; rfl
theorem xc_28_76 : p_code 28 76 = some (.ifCond .eq 5, 3) := (xco_28 76).trans rfl
theorem xj_28_76 : p_tgt 76 (5) = 81 ∧ 0 ≤ ((76 : Nat) : Int) + (5) := ⟨by decide, by decide⟩
theorem xc_28_79 : p_code 28 79 = some (.iconst 5, 1) := (xco_28 79).trans rfl
theorem xc_28_80 : p_code 28 80 = some (.ireturn, 1) := (xco_28 80).trans rfl
theorem xc_28_81 : p_code 28 81 = some (.aload_n 0, 1) := (xco_28 81).trans rfl
theorem xc_28_82 : p_code 28 82 = some (.iload_n 1, 1) := (xco_28 82).trans rfl
theorem xc_28_83 : p_code 28 83 = some (.ldc 129, 2) := (xco_28 83).trans rfl
theorem xln_28_129 : p_int (p_own 28) 129 = none := by rw [xow_28]; rfl
theorem xls_28_129 : p_str (p_own 28) 129 = some 2 := by rw [xow_28]; rfl
theorem xc_28_85 : p_code 28 85 = some (.invokevirtual 123, 3) := (xco_28 85).trans rfl
theorem xm_28_85 : p_calls 28 (.invokevirtual 123) = some (29, 3) := by dsimp only [p_calls]; rw [xow_28]; rfl
theorem xc_28_88 : p_code 28 88 = some (.ifCond .eq 6, 3) := (xco_28 88).trans rfl
theorem xj_28_88 : p_tgt 88 (6) = 94 ∧ 0 ≤ ((88 : Nat) : Int) + (6) := ⟨by decide, by decide⟩
theorem xc_28_91 : p_code 28 91 = some (.bipush 6, 2) := (xco_28 91).trans rfl
theorem xc_28_93 : p_code 28 93 = some (.ireturn, 1) := (xco_28 93).trans rfl
theorem xc_28_94 : p_code 28 94 = some (.aload_n 0, 1) := (xco_28 94).trans rfl
theorem xc_28_95 : p_code 28 95 = some (.iload_n 1, 1) := (xco_28 95).trans rfl
theorem xc_28_96 : p_code 28 96 = some (.ldc 131, 2) := (xco_28 96).trans rfl
theorem xln_28_131 : p_int (p_own 28) 131 = none := by rw [xow_28]; rfl
theorem xls_28_131 : p_str (p_own 28) 131 = some 3 := by rw [xow_28]; rfl
theorem xc_28_98 : p_code 28 98 = some (.invokevirtual 123, 3) := (xco_28 98).trans rfl
theorem xm_28_98 : p_calls 28 (.invokevirtual 123) = some (29, 3) := by dsimp only [p_calls]; rw [xow_28]; rfl
theorem xc_28_101 : p_code 28 101 = some (.ifCond .eq 8, 3) := (xco_28 101).trans rfl
theorem xj_28_101 : p_tgt 101 (8) = 109 ∧ 0 ≤ ((101 : Nat) : Int) + (8) := ⟨by decide, by decide⟩
theorem xc_28_104 : p_code 28 104 = some (.bipush 7, 2) := (xco_28 104).trans rfl
theorem xc_28_106 : p_code 28 106 = some (.goto 4, 3) := (xco_28 106).trans rfl
theorem xj_28_106 : p_tgt 106 (4) = 110 ∧ 0 ≤ ((106 : Nat) : Int) + (4) := ⟨by decide, by decide⟩
theorem xc_28_109 : p_code 28 109 = some (.iconst (-1), 1) := (xco_28 109).trans rfl
theorem xc_28_110 : p_code 28 110 = some (.ireturn, 1) := (xco_28 110).trans rfl
theorem xrt_28 : p_rty 28 = some .int := rfl
theorem xhh_28 : p_hh 28 = [] := rfl
theorem xin_28  : p_in0 28 [.ref 11] = [some (.ref 11), none] := rfl
theorem xrc_28 {z : Nat → Int32} {a : Nat → Nat → Int32} {w : Nat → Nat → Int64} {y : Nat → Int64} {g : List pE}  : p_recv 28 [.ref 11] (hp z a w y g) = true := rfl
theorem xco_29 (pc : Nat) : p_code 29 pc = p_find pc pc_29 := rfl
theorem xow_29 : p_own 29 = 1 := rfl
theorem xc_29_0 : p_code 29 0 = some (.aload_n 0, 1) := (xco_29 0).trans rfl
theorem xc_29_1 : p_code 29 1 = some (.getfield 28, 3) := (xco_29 1).trans rfl
theorem xf_29_28 : p_fld (p_own 29) 28 = some (1, 3) := by rw [xow_29]; rfl
theorem xc_29_4 : p_code 29 4 = some (.iload_n 1, 1) := (xco_29 4).trans rfl
theorem xc_29_5 : p_code 29 5 = some (.isub, 1) := (xco_29 5).trans rfl
theorem xc_29_6 : p_code 29 6 = some (.aload_n 2, 1) := (xco_29 6).trans rfl
theorem xc_29_7 : p_code 29 7 = some (.invokevirtual 133, 3) := (xco_29 7).trans rfl
theorem xm_29_7 : p_calls 29 (.invokevirtual 133) = some (30, 1) := by dsimp only [p_calls]; rw [xow_29]; rfl
theorem xc_29_10 : p_code 29 10 = some (.if_icmp .eq 5, 3) := (xco_29 10).trans rfl
theorem xj_29_10 : p_tgt 10 (5) = 15 ∧ 0 ≤ ((10 : Nat) : Int) + (5) := ⟨by decide, by decide⟩
theorem xc_29_13 : p_code 29 13 = some (.iconst 0, 1) := (xco_29 13).trans rfl
theorem xc_29_14 : p_code 29 14 = some (.ireturn, 1) := (xco_29 14).trans rfl
theorem xc_29_15 : p_code 29 15 = some (.iload_n 1, 1) := (xco_29 15).trans rfl
theorem xc_29_16 : p_code 29 16 = some (.istore_n 3, 1) := (xco_29 16).trans rfl
theorem xc_29_17 : p_code 29 17 = some (.iload_n 3, 1) := (xco_29 17).trans rfl
theorem xc_29_18 : p_code 29 18 = some (.aload_n 0, 1) := (xco_29 18).trans rfl
theorem xc_29_19 : p_code 29 19 = some (.getfield 28, 3) := (xco_29 19).trans rfl
theorem xc_29_22 : p_code 29 22 = some (.if_icmp .ge 27, 3) := (xco_29 22).trans rfl
theorem xj_29_22 : p_tgt 22 (27) = 49 ∧ 0 ≤ ((22 : Nat) : Int) + (27) := ⟨by decide, by decide⟩
theorem xc_29_25 : p_code 29 25 = some (.aload_n 0, 1) := (xco_29 25).trans rfl
theorem xc_29_26 : p_code 29 26 = some (.getfield 9, 3) := (xco_29 26).trans rfl
theorem xf_29_9 : p_fld (p_own 29) 9 = some (1, 1) := by rw [xow_29]; rfl
theorem xc_29_29 : p_code 29 29 = some (.iload_n 3, 1) := (xco_29 29).trans rfl
theorem xc_29_30 : p_code 29 30 = some (.iaload, 1) := (xco_29 30).trans rfl
theorem xc_29_31 : p_code 29 31 = some (.aload_n 2, 1) := (xco_29 31).trans rfl
theorem xc_29_32 : p_code 29 32 = some (.iload_n 3, 1) := (xco_29 32).trans rfl
theorem xc_29_33 : p_code 29 33 = some (.iload_n 1, 1) := (xco_29 33).trans rfl
theorem xc_29_34 : p_code 29 34 = some (.isub, 1) := (xco_29 34).trans rfl
theorem xc_29_35 : p_code 29 35 = some (.invokevirtual 137, 3) := (xco_29 35).trans rfl
theorem xm_29_35 : p_calls 29 (.invokevirtual 137) = some (32, 2) := by dsimp only [p_calls]; rw [xow_29]; rfl
theorem xc_29_38 : p_code 29 38 = some (.if_icmp .eq 5, 3) := (xco_29 38).trans rfl
theorem xj_29_38 : p_tgt 38 (5) = 43 ∧ 0 ≤ ((38 : Nat) : Int) + (5) := ⟨by decide, by decide⟩
theorem xc_29_41 : p_code 29 41 = some (.iconst 0, 1) := (xco_29 41).trans rfl
theorem xc_29_42 : p_code 29 42 = some (.ireturn, 1) := (xco_29 42).trans rfl
theorem xc_29_43 : p_code 29 43 = some (.iinc 3 1, 3) := (xco_29 43).trans rfl
theorem xc_29_46 : p_code 29 46 = some (.goto (-29), 3) := (xco_29 46).trans rfl
theorem xj_29_46 : p_tgt 46 (-29) = 17 ∧ 0 ≤ ((46 : Nat) : Int) + (-29) := ⟨by decide, by decide⟩
theorem xc_29_49 : p_code 29 49 = some (.iconst 1, 1) := (xco_29 49).trans rfl
theorem xc_29_50 : p_code 29 50 = some (.ireturn, 1) := (xco_29 50).trans rfl
theorem xrt_29 : p_rty 29 = some .boolean := rfl
theorem xhh_29 : p_hh 29 = [] := rfl
theorem xin_29 {x1 : Int32} {x2 : Nat} : p_in0 29 [.ref 11, .int x1, .retAddr (x2 + 1)] = [some (.ref 11), some (.int x1), some (.retAddr (x2 + 1)), none] := rfl
theorem xrc_29 {z : Nat → Int32} {a : Nat → Nat → Int32} {w : Nat → Nat → Int64} {y : Nat → Int64} {g : List pE} {x1 : Int32} {x2 : Nat} : p_recv 29 [.ref 11, .int x1, .retAddr (x2 + 1)] (hp z a w y g) = true := rfl
theorem xco_30 (pc : Nat) : p_code 30 pc = p_find pc pc_30 := rfl
theorem xow_30 : p_own 30 = 15 := rfl
theorem xc_30_0 : p_code 30 0 = some (.aload_n 0, 1) := (xco_30 0).trans rfl
theorem xc_30_1 : p_code 30 1 = some (.getfield 9, 3) := (xco_30 1).trans rfl
theorem xc_30_4 : p_code 30 4 = some (.arraylength, 1) := (xco_30 4).trans rfl
theorem xc_30_5 : p_code 30 5 = some (.aload_n 0, 1) := (xco_30 5).trans rfl
theorem xc_30_6 : p_code 30 6 = some (.invokevirtual 335, 3) := (xco_30 6).trans rfl
theorem xm_30_6 : p_calls 30 (.invokevirtual 335) = some (31, 1) := by dsimp only [p_calls]; rw [xow_30]; rfl
theorem xc_30_9 : p_code 30 9 = some (.ishr, 1) := (xco_30 9).trans rfl
theorem xc_30_10 : p_code 30 10 = some (.ireturn, 1) := (xco_30 10).trans rfl
theorem xrt_30 : p_rty 30 = some .int := rfl
theorem xhh_30 : p_hh 30 = [] := rfl
theorem xin_30 {x0 : Nat} : p_in0 30 [.retAddr (x0 + 1)] = [some (.retAddr (x0 + 1))] := rfl
theorem xrc_30 {h : List pE} {x0 : Nat} (hj : x0 < p_lits) : p_recv 30 [.retAddr (x0 + 1)] h = true := by unfold p_recv; exact Nat.ble_eq.mpr hj
theorem xco_31 (pc : Nat) : p_code 31 pc = p_find pc pc_31 := rfl
theorem xow_31 : p_own 31 = 15 := rfl
theorem xc_31_0 : p_code 31 0 = some (.getstatic 38, 3) := (xco_31 0).trans rfl
theorem xc_31_3 : p_code 31 3 = some (.ifCond .eq 10, 3) := (xco_31 3).trans rfl
theorem xj_31_3 : p_tgt 3 (10) = 13 ∧ 0 ≤ ((3 : Nat) : Int) + (10) := ⟨by decide, by decide⟩
theorem xc_31_6 : p_code 31 6 = some (.aload_n 0, 1) := (xco_31 6).trans rfl
theorem xc_31_7 : p_code 31 7 = some (.getfield 15, 3) := (xco_31 7).trans rfl
theorem xc_31_10 : p_code 31 10 = some (.goto 4, 3) := (xco_31 10).trans rfl
theorem xj_31_10 : p_tgt 10 (4) = 14 ∧ 0 ≤ ((10 : Nat) : Int) + (4) := ⟨by decide, by decide⟩
theorem xc_31_13 : p_code 31 13 = some (.iconst 1, 1) := (xco_31 13).trans rfl
theorem xc_31_14 : p_code 31 14 = some (.ireturn, 1) := (xco_31 14).trans rfl
theorem xrt_31 : p_rty 31 = some .byte := rfl
theorem xhh_31 : p_hh 31 = [] := rfl
theorem xin_31 {x0 : Nat} : p_in0 31 [.retAddr (x0 + 1)] = [some (.retAddr (x0 + 1))] := rfl
theorem xrc_31 {h : List pE} {x0 : Nat} (hj : x0 < p_lits) : p_recv 31 [.retAddr (x0 + 1)] h = true := by unfold p_recv; exact Nat.ble_eq.mpr hj
theorem xco_32 (pc : Nat) : p_code 32 pc = p_find pc pc_32 := rfl
theorem xow_32 : p_own 32 = 15 := rfl
theorem xc_32_0 : p_code 32 0 = some (.aload_n 0, 1) := (xco_32 0).trans rfl
theorem xc_32_1 : p_code 32 1 = some (.invokevirtual 492, 3) := (xco_32 1).trans rfl
theorem xm_32_1 : p_calls 32 (.invokevirtual 492) = some (33, 1) := by dsimp only [p_calls]; rw [xow_32]; rfl
theorem xc_32_4 : p_code 32 4 = some (.ifCond .eq 12, 3) := (xco_32 4).trans rfl
theorem xj_32_4 : p_tgt 4 (12) = 16 ∧ 0 ≤ ((4 : Nat) : Int) + (12) := ⟨by decide, by decide⟩
theorem xc_32_7 : p_code 32 7 = some (.aload_n 0, 1) := (xco_32 7).trans rfl
theorem xc_32_8 : p_code 32 8 = some (.getfield 9, 3) := (xco_32 8).trans rfl
theorem xc_32_11 : p_code 32 11 = some (.iload_n 1, 1) := (xco_32 11).trans rfl
theorem xc_32_12 : p_code 32 12 = some (.invokestatic 495, 3) := (xco_32 12).trans rfl
theorem xm_32_12 : p_calls 32 (.invokestatic 495) = some (34, 2) := by dsimp only [p_calls]; rw [xow_32]; rfl
theorem xc_32_15 : p_code 32 15 = some (.ireturn, 1) := (xco_32 15).trans rfl
theorem xc_32_16 : p_code 32 16 = some (.aload_n 0, 1) := (xco_32 16).trans rfl
theorem xc_32_17 : p_code 32 17 = some (.getfield 9, 3) := (xco_32 17).trans rfl
theorem xc_32_20 : p_code 32 20 = some (.iload_n 1, 1) := (xco_32 20).trans rfl
theorem xc_32_21 : p_code 32 21 = some (.invokestatic 498, 3) := (xco_32 21).trans rfl
theorem xc_32_24 : p_code 32 24 = some (.ireturn, 1) := (xco_32 24).trans rfl
theorem xrt_32 : p_rty 32 = some .char := rfl
theorem xhh_32 : p_hh 32 = [] := rfl
theorem xin_32 {x0 : Nat} {x1 : Int32} : p_in0 32 [.retAddr (x0 + 1), .int x1] = [some (.retAddr (x0 + 1)), some (.int x1)] := rfl
theorem xrc_32 {h : List pE} {x0 : Nat} {x1 : Int32} (hj : x0 < p_lits) : p_recv 32 [.retAddr (x0 + 1), .int x1] h = true := by unfold p_recv; exact Nat.ble_eq.mpr hj
theorem xco_33 (pc : Nat) : p_code 33 pc = p_find pc pc_33 := rfl
theorem xow_33 : p_own 33 = 15 := rfl
theorem xc_33_0 : p_code 33 0 = some (.getstatic 38, 3) := (xco_33 0).trans rfl
theorem xc_33_3 : p_code 33 3 = some (.ifCond .eq 14, 3) := (xco_33 3).trans rfl
theorem xj_33_3 : p_tgt 3 (14) = 17 ∧ 0 ≤ ((3 : Nat) : Int) + (14) := ⟨by decide, by decide⟩
theorem xc_33_6 : p_code 33 6 = some (.aload_n 0, 1) := (xco_33 6).trans rfl
theorem xc_33_7 : p_code 33 7 = some (.getfield 15, 3) := (xco_33 7).trans rfl
theorem xc_33_10 : p_code 33 10 = some (.ifCond .ne 7, 3) := (xco_33 10).trans rfl
theorem xj_33_10 : p_tgt 10 (7) = 17 ∧ 0 ≤ ((10 : Nat) : Int) + (7) := ⟨by decide, by decide⟩
theorem xc_33_13 : p_code 33 13 = some (.iconst 1, 1) := (xco_33 13).trans rfl
theorem xc_33_14 : p_code 33 14 = some (.goto 4, 3) := (xco_33 14).trans rfl
theorem xj_33_14 : p_tgt 14 (4) = 18 ∧ 0 ≤ ((14 : Nat) : Int) + (4) := ⟨by decide, by decide⟩
theorem xc_33_17 : p_code 33 17 = some (.iconst 0, 1) := (xco_33 17).trans rfl
theorem xc_33_18 : p_code 33 18 = some (.ireturn, 1) := (xco_33 18).trans rfl
theorem xrt_33 : p_rty 33 = some .boolean := rfl
theorem xhh_33 : p_hh 33 = [] := rfl
theorem xin_33 {x0 : Nat} : p_in0 33 [.retAddr (x0 + 1)] = [some (.retAddr (x0 + 1))] := rfl
theorem xrc_33 {h : List pE} {x0 : Nat} (hj : x0 < p_lits) : p_recv 33 [.retAddr (x0 + 1)] h = true := by unfold p_recv; exact Nat.ble_eq.mpr hj
theorem xco_34 (pc : Nat) : p_code 34 pc = p_find pc pc_34 := rfl
theorem xow_34 : p_own 34 = 16 := rfl
theorem xc_34_0 : p_code 34 0 = some (.iload_n 1, 1) := (xco_34 0).trans rfl
theorem xc_34_1 : p_code 34 1 = some (.aload_n 0, 1) := (xco_34 1).trans rfl
theorem xc_34_2 : p_code 34 2 = some (.arraylength, 1) := (xco_34 2).trans rfl
theorem xc_34_3 : p_code 34 3 = some (.invokestatic 9, 3) := (xco_34 3).trans rfl
theorem xm_34_3 : p_calls 34 (.invokestatic 9) = some (35, 2) := by dsimp only [p_calls]; rw [xow_34]; rfl
theorem xc_34_6 : p_code 34 6 = some (.aload_n 0, 1) := (xco_34 6).trans rfl
theorem xc_34_7 : p_code 34 7 = some (.iload_n 1, 1) := (xco_34 7).trans rfl
theorem xc_34_8 : p_code 34 8 = some (.baload, 1) := (xco_34 8).trans rfl
theorem xc_34_9 : p_code 34 9 = some (.sipush 255, 3) := (xco_34 9).trans rfl
theorem xc_34_12 : p_code 34 12 = some (.iand, 1) := (xco_34 12).trans rfl
theorem xc_34_13 : p_code 34 13 = some (.i2c, 1) := (xco_34 13).trans rfl
theorem xc_34_14 : p_code 34 14 = some (.ireturn, 1) := (xco_34 14).trans rfl
theorem xrt_34 : p_rty 34 = some .char := rfl
theorem xhh_34 : p_hh 34 = [] := rfl
theorem xin_34 {x0 : Nat} {x1 : Int32} : p_in0 34 [.retAddr x0, .int x1] = [some (.retAddr x0), some (.int x1)] := rfl
theorem xrc_34 {z : Nat → Int32} {a : Nat → Nat → Int32} {w : Nat → Nat → Int64} {y : Nat → Int64} {g : List pE} {x0 : Nat} {x1 : Int32} : p_recv 34 [.retAddr x0, .int x1] (hp z a w y g) = true := rfl
theorem xco_35 (pc : Nat) : p_code 35 pc = p_find pc pc_35 := rfl
theorem xow_35 : p_own 35 = 15 := rfl
theorem xc_35_0 : p_code 35 0 = some (.iload_n 0, 1) := (xco_35 0).trans rfl
theorem xc_35_1 : p_code 35 1 = some (.iload_n 1, 1) := (xco_35 1).trans rfl
theorem xc_35_2 : p_code 35 2 = some (.getstatic 1053, 3) := (xco_35 2).trans rfl
theorem xc_35_5 : p_code 35 5 = some (.invokestatic 1059, 3) := (xco_35 5).trans rfl
theorem xm_35_5 : p_calls 35 (.invokestatic 1059) = some (36, 3) := by dsimp only [p_calls]; rw [xow_35]; rfl
theorem xc_35_8 : p_code 35 8 = some (.pop, 1) := (xco_35 8).trans rfl
theorem xc_35_9 : p_code 35 9 = some (.return_, 1) := (xco_35 9).trans rfl
theorem xrt_35 : p_rty 35 = none := rfl
theorem xhh_35 : p_hh 35 = [] := rfl
theorem xin_35 {x0 : Int32} {x1 : Int32} : p_in0 35 [.int x0, .int x1] = [some (.int x0), some (.int x1)] := rfl
theorem xrc_35 {z : Nat → Int32} {a : Nat → Nat → Int32} {w : Nat → Nat → Int64} {y : Nat → Int64} {g : List pE} {x0 : Int32} {x1 : Int32} : p_recv 35 [.int x0, .int x1] (hp z a w y g) = true := rfl
theorem xco_36 (pc : Nat) : p_code 36 pc = p_find pc pc_36 := rfl
theorem xow_36 : p_own 36 = 17 := rfl
theorem xc_36_0 : p_code 36 0 = some (.iload_n 0, 1) := (xco_36 0).trans rfl
theorem xc_36_1 : p_code 36 1 = some (.ifCond .lt 8, 3) := (xco_36 1).trans rfl
theorem xj_36_1 : p_tgt 1 (8) = 9 ∧ 0 ≤ ((1 : Nat) : Int) + (8) := ⟨by decide, by decide⟩
theorem xc_36_4 : p_code 36 4 = some (.iload_n 0, 1) := (xco_36 4).trans rfl
theorem xc_36_5 : p_code 36 5 = some (.iload_n 1, 1) := (xco_36 5).trans rfl
theorem xc_36_6 : p_code 36 6 = some (.if_icmp .lt 10, 3) := (xco_36 6).trans rfl
theorem xj_36_6 : p_tgt 6 (10) = 16 ∧ 0 ≤ ((6 : Nat) : Int) + (10) := ⟨by decide, by decide⟩
theorem xc_36_9 : p_code 36 9 = some (.aload_n 2, 1) := (xco_36 9).trans rfl
theorem xc_36_10 : p_code 36 10 = some (.iload_n 0, 1) := (xco_36 10).trans rfl
theorem xc_36_11 : p_code 36 11 = some (.iload_n 1, 1) := (xco_36 11).trans rfl
theorem xc_36_12 : p_code 36 12 = some (.invokestatic 95, 3) := (xco_36 12).trans rfl
theorem xc_36_15 : p_code 36 15 = some (.athrow, 1) := (xco_36 15).trans rfl
theorem xc_36_16 : p_code 36 16 = some (.iload_n 0, 1) := (xco_36 16).trans rfl
theorem xc_36_17 : p_code 36 17 = some (.ireturn, 1) := (xco_36 17).trans rfl
theorem xrt_36 : p_rty 36 = some .int := rfl
theorem xhh_36 : p_hh 36 = [] := rfl
theorem xin_36 {x0 : Int32} {x1 : Int32} : p_in0 36 [.int x0, .int x1, .float 0] = [some (.int x0), some (.int x1), some (.float 0)] := rfl
theorem xrc_36 {z : Nat → Int32} {a : Nat → Nat → Int32} {w : Nat → Nat → Int64} {y : Nat → Int64} {g : List pE} {x0 : Int32} {x1 : Int32} : p_recv 36 [.int x0, .int x1, .float 0] (hp z a w y g) = true := rfl
theorem xco_37 (pc : Nat) : p_code 37 pc = p_find pc pc_37 := rfl
theorem xow_37 : p_own 37 = 1 := rfl
theorem xc_37_0 : p_code 37 0 = some (.aload_n 0, 1) := (xco_37 0).trans rfl
theorem xc_37_1 : p_code 37 1 = some (.getfield 15, 3) := (xco_37 1).trans rfl
theorem xf_37_15 : p_fld (p_own 37) 15 = some (1, 0) := by rw [xow_37]; rfl
theorem xc_37_4 : p_code 37 4 = some (.iload_n 2, 1) := (xco_37 4).trans rfl
theorem xc_37_5 : p_code 37 5 = some (.invokevirtual 102, 3) := (xco_37 5).trans rfl
theorem xm_37_5 : p_calls 37 (.invokevirtual 102) = some (18, 2) := by dsimp only [p_calls]; rw [xow_37]; rfl
theorem xc_37_8 : p_code 37 8 = some (.aload_n 0, 1) := (xco_37 8).trans rfl
theorem xc_37_9 : p_code 37 9 = some (.bipush 40, 2) := (xco_37 9).trans rfl
theorem xc_37_11 : p_code 37 11 = some (.invokevirtual 96, 3) := (xco_37 11).trans rfl
theorem xm_37_11 : p_calls 37 (.invokevirtual 96) = some (20, 2) := by dsimp only [p_calls]; rw [xow_37]; rfl
theorem xc_37_14 : p_code 37 14 = some (.ifCond .eq 20, 3) := (xco_37 14).trans rfl
theorem xj_37_14 : p_tgt 14 (20) = 34 ∧ 0 ≤ ((14 : Nat) : Int) + (20) := ⟨by decide, by decide⟩
theorem xc_37_17 : p_code 37 17 = some (.aload_n 0, 1) := (xco_37 17).trans rfl
theorem xc_37_18 : p_code 37 18 = some (.iload_n 2, 1) := (xco_37 18).trans rfl
theorem xc_37_19 : p_code 37 19 = some (.invokevirtual 34, 3) := (xco_37 19).trans rfl
theorem xm_37_19 : p_calls 37 (.invokevirtual 34) = some (12, 2) := by dsimp only [p_calls]; rw [xow_37]; rfl
theorem xc_37_22 : p_code 37 22 = some (.ifCond .eq 12, 3) := (xco_37 22).trans rfl
theorem xj_37_22 : p_tgt 22 (12) = 34 ∧ 0 ≤ ((22 : Nat) : Int) + (12) := ⟨by decide, by decide⟩
theorem xc_37_25 : p_code 37 25 = some (.aload_n 0, 1) := (xco_37 25).trans rfl
theorem xc_37_26 : p_code 37 26 = some (.bipush 44, 2) := (xco_37 26).trans rfl
theorem xc_37_28 : p_code 37 28 = some (.invokevirtual 96, 3) := (xco_37 28).trans rfl
theorem xm_37_28 : p_calls 37 (.invokevirtual 96) = some (20, 2) := by dsimp only [p_calls]; rw [xow_37]; rfl
theorem xc_37_31 : p_code 37 31 = some (.ifCond .ne 5, 3) := (xco_37 31).trans rfl
theorem xj_37_31 : p_tgt 31 (5) = 36 ∧ 0 ≤ ((31 : Nat) : Int) + (5) := ⟨by decide, by decide⟩
theorem xc_37_34 : p_code 37 34 = some (.iconst 0, 1) := (xco_37 34).trans rfl
theorem xc_37_35 : p_code 37 35 = some (.ireturn, 1) := (xco_37 35).trans rfl
theorem xc_37_36 : p_code 37 36 = some (.aload_n 0, 1) := (xco_37 36).trans rfl
theorem xc_37_37 : p_code 37 37 = some (.getfield 15, 3) := (xco_37 37).trans rfl
theorem xc_37_40 : p_code 37 40 = some (.iload_n 1, 1) := (xco_37 40).trans rfl
theorem xc_37_41 : p_code 37 41 = some (.iload_n 1, 1) := (xco_37 41).trans rfl
theorem xc_37_42 : p_code 37 42 = some (.iconst 1, 1) := (xco_37 42).trans rfl
theorem xc_37_43 : p_code 37 43 = some (.iadd, 1) := (xco_37 43).trans rfl
theorem xc_37_44 : p_code 37 44 = some (.aload_n 0, 1) := (xco_37 44).trans rfl
theorem xc_37_45 : p_code 37 45 = some (.getfield 15, 3) := (xco_37 45).trans rfl
theorem xc_37_48 : p_code 37 48 = some (.getfield 42, 3) := (xco_37 48).trans rfl
theorem xf_37_42 : p_fld (p_own 37) 42 = some (2, 10) := by rw [xow_37]; rfl
theorem xc_37_51 : p_code 37 51 = some (.invokevirtual 69, 3) := (xco_37 51).trans rfl
theorem xm_37_51 : p_calls 37 (.invokevirtual 69) = some (38, 4) := by dsimp only [p_calls]; rw [xow_37]; rfl
theorem xc_37_54 : p_code 37 54 = some (.aload_n 0, 1) := (xco_37 54).trans rfl
theorem xc_37_55 : p_code 37 55 = some (.iload_n 2, 1) := (xco_37 55).trans rfl
theorem xc_37_56 : p_code 37 56 = some (.invokevirtual 34, 3) := (xco_37 56).trans rfl
theorem xm_37_56 : p_calls 37 (.invokevirtual 34) = some (12, 2) := by dsimp only [p_calls]; rw [xow_37]; rfl
theorem xc_37_59 : p_code 37 59 = some (.ifCond .eq 16, 3) := (xco_37 59).trans rfl
theorem xj_37_59 : p_tgt 59 (16) = 75 ∧ 0 ≤ ((59 : Nat) : Int) + (16) := ⟨by decide, by decide⟩
theorem xc_37_62 : p_code 37 62 = some (.aload_n 0, 1) := (xco_37 62).trans rfl
theorem xc_37_63 : p_code 37 63 = some (.bipush 41, 2) := (xco_37 63).trans rfl
theorem xc_37_65 : p_code 37 65 = some (.invokevirtual 96, 3) := (xco_37 65).trans rfl
theorem xm_37_65 : p_calls 37 (.invokevirtual 96) = some (20, 2) := by dsimp only [p_calls]; rw [xow_37]; rfl
theorem xc_37_68 : p_code 37 68 = some (.ifCond .eq 7, 3) := (xco_37 68).trans rfl
theorem xj_37_68 : p_tgt 68 (7) = 75 ∧ 0 ≤ ((68 : Nat) : Int) + (7) := ⟨by decide, by decide⟩
theorem xc_37_71 : p_code 37 71 = some (.iconst 1, 1) := (xco_37 71).trans rfl
theorem xc_37_72 : p_code 37 72 = some (.goto 4, 3) := (xco_37 72).trans rfl
theorem xj_37_72 : p_tgt 72 (4) = 76 ∧ 0 ≤ ((72 : Nat) : Int) + (4) := ⟨by decide, by decide⟩
theorem xc_37_75 : p_code 37 75 = some (.iconst 0, 1) := (xco_37 75).trans rfl
theorem xc_37_76 : p_code 37 76 = some (.ireturn, 1) := (xco_37 76).trans rfl
theorem xrt_37 : p_rty 37 = some .boolean := rfl
theorem xhh_37 : p_hh 37 = [] := rfl
theorem xin_37 {x1 : Int32} {x2 : Int32} : p_in0 37 [.ref 11, .int x1, .int x2] = [some (.ref 11), some (.int x1), some (.int x2)] := rfl
theorem xrc_37 {z : Nat → Int32} {a : Nat → Nat → Int32} {w : Nat → Nat → Int64} {y : Nat → Int64} {g : List pE} {x1 : Int32} {x2 : Int32} : p_recv 37 [.ref 11, .int x1, .int x2] (hp z a w y g) = true := rfl
theorem xco_38 (pc : Nat) : p_code 38 pc = p_find pc pc_38 := rfl
theorem xow_38 : p_own 38 = 2 := rfl
theorem xc_38_0 : p_code 38 0 = some (.aload_n 0, 1) := (xco_38 0).trans rfl
theorem xc_38_1 : p_code 38 1 = some (.iload_n 1, 1) := (xco_38 1).trans rfl
theorem xc_38_2 : p_code 38 2 = some (.invokevirtual 57, 3) := (xco_38 2).trans rfl
theorem xm_38_2 : p_calls 38 (.invokevirtual 57) = some (39, 2) := by dsimp only [p_calls]; rw [xow_38]; rfl
theorem xc_38_5 : p_code 38 5 = some (.ifCond .eq 17, 3) := (xco_38 5).trans rfl
theorem xj_38_5 : p_tgt 5 (17) = 22 ∧ 0 ≤ ((5 : Nat) : Int) + (17) := ⟨by decide, by decide⟩
theorem xc_38_8 : p_code 38 8 = some (.aload_n 0, 1) := (xco_38 8).trans rfl
theorem xc_38_9 : p_code 38 9 = some (.getfield 21, 3) := (xco_38 9).trans rfl
theorem xf_38_21 : p_fld (p_own 38) 21 = some (2, 3) := by rw [xow_38]; rfl
theorem xc_38_12 : p_code 38 12 = some (.iload_n 1, 1) := (xco_38 12).trans rfl
theorem xc_38_13 : p_code 38 13 = some (.iload_n 2, 1) := (xco_38 13).trans rfl
theorem xc_38_14 : p_code 38 14 = some (.iastore, 1) := (xco_38 14).trans rfl
theorem xc_38_15 : p_code 38 15 = some (.aload_n 0, 1) := (xco_38 15).trans rfl
theorem xc_38_16 : p_code 38 16 = some (.getfield 24, 3) := (xco_38 16).trans rfl
theorem xf_38_24 : p_fld (p_own 38) 24 = some (2, 4) := by rw [xow_38]; rfl
theorem xc_38_19 : p_code 38 19 = some (.iload_n 1, 1) := (xco_38 19).trans rfl
theorem xc_38_20 : p_code 38 20 = some (.iload_n 3, 1) := (xco_38 20).trans rfl
theorem xc_38_21 : p_code 38 21 = some (.iastore, 1) := (xco_38 21).trans rfl
theorem xc_38_22 : p_code 38 22 = some (.return_, 1) := (xco_38 22).trans rfl
theorem xrt_38 : p_rty 38 = none := rfl
theorem xhh_38 : p_hh 38 = [] := rfl
theorem xin_38 {x1 : Int32} {x2 : Int32} {x3 : Int32} : p_in0 38 [.ref 1, .int x1, .int x2, .int x3] = [some (.ref 1), some (.int x1), some (.int x2), some (.int x3)] := rfl
theorem xrc_38 {z : Nat → Int32} {a : Nat → Nat → Int32} {w : Nat → Nat → Int64} {y : Nat → Int64} {g : List pE} {x1 : Int32} {x2 : Int32} {x3 : Int32} : p_recv 38 [.ref 1, .int x1, .int x2, .int x3] (hp z a w y g) = true := rfl
theorem xco_39 (pc : Nat) : p_code 39 pc = p_find pc pc_39 := rfl
theorem xow_39 : p_own 39 = 2 := rfl
theorem xc_39_0 : p_code 39 0 = some (.iload_n 1, 1) := (xco_39 0).trans rfl
theorem xc_39_1 : p_code 39 1 = some (.ifCond .lt 15, 3) := (xco_39 1).trans rfl
theorem xj_39_1 : p_tgt 1 (15) = 16 ∧ 0 ≤ ((1 : Nat) : Int) + (15) := ⟨by decide, by decide⟩
theorem xc_39_4 : p_code 39 4 = some (.iload_n 1, 1) := (xco_39 4).trans rfl
theorem xc_39_5 : p_code 39 5 = some (.aload_n 0, 1) := (xco_39 5).trans rfl
theorem xc_39_6 : p_code 39 6 = some (.getfield 43, 3) := (xco_39 6).trans rfl
theorem xf_39_43 : p_fld (p_own 39) 43 = some (2, 10) := by rw [xow_39]; rfl
theorem xc_39_9 : p_code 39 9 = some (.if_icmp .ge 7, 3) := (xco_39 9).trans rfl
theorem xj_39_9 : p_tgt 9 (7) = 16 ∧ 0 ≤ ((9 : Nat) : Int) + (7) := ⟨by decide, by decide⟩
theorem xc_39_12 : p_code 39 12 = some (.iconst 1, 1) := (xco_39 12).trans rfl
theorem xc_39_13 : p_code 39 13 = some (.goto 4, 3) := (xco_39 13).trans rfl
theorem xj_39_13 : p_tgt 13 (4) = 17 ∧ 0 ≤ ((13 : Nat) : Int) + (4) := ⟨by decide, by decide⟩
theorem xc_39_16 : p_code 39 16 = some (.iconst 0, 1) := (xco_39 16).trans rfl
theorem xc_39_17 : p_code 39 17 = some (.ireturn, 1) := (xco_39 17).trans rfl
theorem xrt_39 : p_rty 39 = some .boolean := rfl
theorem xhh_39 : p_hh 39 = [] := rfl
theorem xin_39 {x1 : Int32} : p_in0 39 [.ref 1, .int x1] = [some (.ref 1), some (.int x1)] := rfl
theorem xrc_39 {z : Nat → Int32} {a : Nat → Nat → Int32} {w : Nat → Nat → Int64} {y : Nat → Int64} {g : List pE} {x1 : Int32} : p_recv 39 [.ref 1, .int x1] (hp z a w y g) = true := rfl
theorem xco_40 (pc : Nat) : p_code 40 pc = p_find pc pc_40 := rfl
theorem xow_40 : p_own 40 = 1 := rfl
theorem xc_40_0 : p_code 40 0 = some (.aload_n 0, 1) := (xco_40 0).trans rfl
theorem xc_40_1 : p_code 40 1 = some (.bipush 40, 2) := (xco_40 1).trans rfl
theorem xc_40_3 : p_code 40 3 = some (.invokevirtual 96, 3) := (xco_40 3).trans rfl
theorem xm_40_3 : p_calls 40 (.invokevirtual 96) = some (20, 2) := by dsimp only [p_calls]; rw [xow_40]; rfl
theorem xc_40_6 : p_code 40 6 = some (.ifCond .ne 5, 3) := (xco_40 6).trans rfl
theorem xj_40_6 : p_tgt 6 (5) = 11 ∧ 0 ≤ ((6 : Nat) : Int) + (5) := ⟨by decide, by decide⟩
theorem xc_40_9 : p_code 40 9 = some (.iconst 0, 1) := (xco_40 9).trans rfl
theorem xc_40_10 : p_code 40 10 = some (.ireturn, 1) := (xco_40 10).trans rfl
theorem xc_40_11 : p_code 40 11 = some (.aload_n 0, 1) := (xco_40 11).trans rfl
theorem xc_40_12 : p_code 40 12 = some (.invokevirtual 106, 3) := (xco_40 12).trans rfl
theorem xm_40_12 : p_calls 40 (.invokevirtual 106) = some (41, 1) := by dsimp only [p_calls]; rw [xow_40]; rfl
theorem xc_40_15 : p_code 40 15 = some (.istore_n 2, 1) := (xco_40 15).trans rfl
theorem xc_40_16 : p_code 40 16 = some (.iload_n 2, 1) := (xco_40 16).trans rfl
theorem xc_40_17 : p_code 40 17 = some (.iconst (-1), 1) := (xco_40 17).trans rfl
theorem xc_40_18 : p_code 40 18 = some (.if_icmp .ne 5, 3) := (xco_40 18).trans rfl
theorem xj_40_18 : p_tgt 18 (5) = 23 ∧ 0 ≤ ((18 : Nat) : Int) + (5) := ⟨by decide, by decide⟩
theorem xc_40_21 : p_code 40 21 = some (.iconst 0, 1) := (xco_40 21).trans rfl
theorem xc_40_22 : p_code 40 22 = some (.ireturn, 1) := (xco_40 22).trans rfl
theorem xc_40_23 : p_code 40 23 = some (.aload_n 0, 1) := (xco_40 23).trans rfl
theorem xc_40_24 : p_code 40 24 = some (.getfield 15, 3) := (xco_40 24).trans rfl
theorem xf_40_15 : p_fld (p_own 40) 15 = some (1, 0) := by rw [xow_40]; rfl
theorem xc_40_27 : p_code 40 27 = some (.iload_n 1, 1) := (xco_40 27).trans rfl
theorem xc_40_28 : p_code 40 28 = some (.iload_n 2, 1) := (xco_40 28).trans rfl
theorem xc_40_29 : p_code 40 29 = some (.invokevirtual 109, 3) := (xco_40 29).trans rfl
theorem xm_40_29 : p_calls 40 (.invokevirtual 109) = some (42, 3) := by dsimp only [p_calls]; rw [xow_40]; rfl
theorem xc_40_32 : p_code 40 32 = some (.aload_n 0, 1) := (xco_40 32).trans rfl
theorem xc_40_33 : p_code 40 33 = some (.bipush 58, 2) := (xco_40 33).trans rfl
theorem xc_40_35 : p_code 40 35 = some (.invokevirtual 96, 3) := (xco_40 35).trans rfl
theorem xm_40_35 : p_calls 40 (.invokevirtual 96) = some (20, 2) := by dsimp only [p_calls]; rw [xow_40]; rfl
theorem xc_40_38 : p_code 40 38 = some (.ireturn, 1) := (xco_40 38).trans rfl
theorem xrt_40 : p_rty 40 = some .boolean := rfl
theorem xhh_40 : p_hh 40 = [] := rfl
theorem xin_40 {x1 : Int32} : p_in0 40 [.ref 11, .int x1] = [some (.ref 11), some (.int x1), none] := rfl
theorem xrc_40 {z : Nat → Int32} {a : Nat → Nat → Int32} {w : Nat → Nat → Int64} {y : Nat → Int64} {g : List pE} {x1 : Int32} : p_recv 40 [.ref 11, .int x1] (hp z a w y g) = true := rfl
