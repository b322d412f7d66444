-- ===== PART A: goes FIRST, ahead of the names: the tables' words, and 'selects' of the private methods out of them =====
/-- a private method of a class that the tables say can be made, by its rows of tables_1 -/
def lw_okq (q : MethodName × Nat) : Prop := (q.1.cls ≠ "java/lang/invoke/MethodHandle" ∧ q.1.cls ≠ "java/lang/invoke/VarHandle") ∧ Cond.instantiable q.1.cls q.2 ∈ tables_1 ∧ Cond.privateMethod q.1 ∈ tables_1 ∧ Cond.instanceMethod q.1 ∈ tables_1
theorem lw_p0 : lw_okq (⟨"RateShapes$Reader", "readRate", "(I)Z"⟩, 5) := ⟨⟨by decide +kernel, by decide +kernel⟩, List.mem_of_getElem? (i := 103) (by decide +kernel), List.mem_of_getElem? (i := 217) (by decide +kernel), List.mem_of_getElem? (i := 218) (by decide +kernel)⟩
theorem lw_p1 : lw_okq (⟨"RateShapes$Reader", "readPart", "(I)Z"⟩, 5) := ⟨⟨by decide +kernel, by decide +kernel⟩, List.mem_of_getElem? (i := 103) (by decide +kernel), List.mem_of_getElem? (i := 221) (by decide +kernel), List.mem_of_getElem? (i := 222) (by decide +kernel)⟩
theorem lw_p2 : lw_okq (⟨"RateShapes$Reader", "skipBlanks", "()V"⟩, 5) := ⟨⟨by decide +kernel, by decide +kernel⟩, List.mem_of_getElem? (i := 103) (by decide +kernel), List.mem_of_getElem? (i := 225) (by decide +kernel), List.mem_of_getElem? (i := 226) (by decide +kernel)⟩
theorem lw_p3 : lw_okq (⟨"RateShapes$Reader", "signHere", "()I"⟩, 5) := ⟨⟨by decide +kernel, by decide +kernel⟩, List.mem_of_getElem? (i := 103) (by decide +kernel), List.mem_of_getElem? (i := 229) (by decide +kernel), List.mem_of_getElem? (i := 230) (by decide +kernel)⟩
theorem lw_p4 : lw_okq (⟨"RateShapes$Reader", "readBracket", "(I)Z"⟩, 5) := ⟨⟨by decide +kernel, by decide +kernel⟩, List.mem_of_getElem? (i := 103) (by decide +kernel), List.mem_of_getElem? (i := 233) (by decide +kernel), List.mem_of_getElem? (i := 234) (by decide +kernel)⟩
theorem lw_p5 : lw_okq (⟨"RateShapes$Reader", "refuse", "(I)Z"⟩, 5) := ⟨⟨by decide +kernel, by decide +kernel⟩, List.mem_of_getElem? (i := 103) (by decide +kernel), List.mem_of_getElem? (i := 237) (by decide +kernel), List.mem_of_getElem? (i := 238) (by decide +kernel)⟩
theorem lw_p6 : lw_okq (⟨"RateShapes$Reader", "readSign", "(I)Z"⟩, 5) := ⟨⟨by decide +kernel, by decide +kernel⟩, List.mem_of_getElem? (i := 103) (by decide +kernel), List.mem_of_getElem? (i := 248) (by decide +kernel), List.mem_of_getElem? (i := 249) (by decide +kernel)⟩
theorem lw_p7 : lw_okq (⟨"RateShapes$Reader", "readNumberPart", "()Z"⟩, 5) := ⟨⟨by decide +kernel, by decide +kernel⟩, List.mem_of_getElem? (i := 103) (by decide +kernel), List.mem_of_getElem? (i := 252) (by decide +kernel), List.mem_of_getElem? (i := 253) (by decide +kernel)⟩
theorem lw_p8 : lw_okq (⟨"RateShapes$Reader", "readNumber", "()I"⟩, 5) := ⟨⟨by decide +kernel, by decide +kernel⟩, List.mem_of_getElem? (i := 103) (by decide +kernel), List.mem_of_getElem? (i := 256) (by decide +kernel), List.mem_of_getElem? (i := 257) (by decide +kernel)⟩
theorem lw_p9 : lw_okq (⟨"RateShapes$Reader", "skipDigits", "()V"⟩, 5) := ⟨⟨by decide +kernel, by decide +kernel⟩, List.mem_of_getElem? (i := 103) (by decide +kernel), List.mem_of_getElem? (i := 260) (by decide +kernel), List.mem_of_getElem? (i := 261) (by decide +kernel)⟩
theorem lw_p10 : lw_okq (⟨"RateShapes$Reader", "digitsFrom", "(I)I"⟩, 5) := ⟨⟨by decide +kernel, by decide +kernel⟩, List.mem_of_getElem? (i := 103) (by decide +kernel), List.mem_of_getElem? (i := 264) (by decide +kernel), List.mem_of_getElem? (i := 265) (by decide +kernel)⟩
theorem lw_p11 : lw_okq (⟨"RateShapes$Tree", "setNode", "(IIII)V"⟩, 12) := ⟨⟨by decide +kernel, by decide +kernel⟩, List.mem_of_getElem? (i := 31) (by decide +kernel), List.mem_of_getElem? (i := 277) (by decide +kernel), List.mem_of_getElem? (i := 278) (by decide +kernel)⟩
theorem lw_p12 : lw_okq (⟨"RateShapes$Reader", "readWord", "()I"⟩, 5) := ⟨⟨by decide +kernel, by decide +kernel⟩, List.mem_of_getElem? (i := 103) (by decide +kernel), List.mem_of_getElem? (i := 281) (by decide +kernel), List.mem_of_getElem? (i := 282) (by decide +kernel)⟩
theorem lw_p13 : lw_okq (⟨"RateShapes$Reader", "isWord", "(ILjava/lang/String;)Z"⟩, 5) := ⟨⟨by decide +kernel, by decide +kernel⟩, List.mem_of_getElem? (i := 103) (by decide +kernel), List.mem_of_getElem? (i := 286) (by decide +kernel), List.mem_of_getElem? (i := 287) (by decide +kernel)⟩
theorem lw_p14 : lw_okq (⟨"RateShapes$Reader", "readTwoRates", "(II)Z"⟩, 5) := ⟨⟨by decide +kernel, by decide +kernel⟩, List.mem_of_getElem? (i := 103) (by decide +kernel), List.mem_of_getElem? (i := 341) (by decide +kernel), List.mem_of_getElem? (i := 342) (by decide +kernel)⟩
theorem lw_p15 : lw_okq (⟨"RateShapes$Reader", "readEntry", "(I)Z"⟩, 5) := ⟨⟨by decide +kernel, by decide +kernel⟩, List.mem_of_getElem? (i := 103) (by decide +kernel), List.mem_of_getElem? (i := 353) (by decide +kernel), List.mem_of_getElem? (i := 354) (by decide +kernel)⟩
def lw_privs_1 : List (MethodName × Nat) := [(⟨"RateShapes$Reader", "readRate", "(I)Z"⟩, 5), (⟨"RateShapes$Reader", "readPart", "(I)Z"⟩, 5), (⟨"RateShapes$Reader", "skipBlanks", "()V"⟩, 5), (⟨"RateShapes$Reader", "signHere", "()I"⟩, 5), (⟨"RateShapes$Reader", "readBracket", "(I)Z"⟩, 5), (⟨"RateShapes$Reader", "refuse", "(I)Z"⟩, 5), (⟨"RateShapes$Reader", "readSign", "(I)Z"⟩, 5), (⟨"RateShapes$Reader", "readNumberPart", "()Z"⟩, 5), (⟨"RateShapes$Reader", "readNumber", "()I"⟩, 5), (⟨"RateShapes$Reader", "skipDigits", "()V"⟩, 5), (⟨"RateShapes$Reader", "digitsFrom", "(I)I"⟩, 5), (⟨"RateShapes$Tree", "setNode", "(IIII)V"⟩, 12), (⟨"RateShapes$Reader", "readWord", "()I"⟩, 5), (⟨"RateShapes$Reader", "isWord", "(ILjava/lang/String;)Z"⟩, 5), (⟨"RateShapes$Reader", "readTwoRates", "(II)Z"⟩, 5), (⟨"RateShapes$Reader", "readEntry", "(I)Z"⟩, 5)]
theorem lw_r1 : ∀ q ∈ lw_privs_1, lw_okq q := List.forall_mem_cons.mpr ⟨lw_p0, List.forall_mem_cons.mpr ⟨lw_p1, List.forall_mem_cons.mpr ⟨lw_p2, List.forall_mem_cons.mpr ⟨lw_p3, List.forall_mem_cons.mpr ⟨lw_p4, List.forall_mem_cons.mpr ⟨lw_p5, List.forall_mem_cons.mpr ⟨lw_p6, List.forall_mem_cons.mpr ⟨lw_p7, List.forall_mem_cons.mpr ⟨lw_p8, List.forall_mem_cons.mpr ⟨lw_p9, List.forall_mem_cons.mpr ⟨lw_p10, List.forall_mem_cons.mpr ⟨lw_p11, List.forall_mem_cons.mpr ⟨lw_p12, List.forall_mem_cons.mpr ⟨lw_p13, List.forall_mem_cons.mpr ⟨lw_p14, List.forall_mem_cons.mpr ⟨lw_p15, fun _ h => absurd h List.not_mem_nil⟩⟩⟩⟩⟩⟩⟩⟩⟩⟩⟩⟩⟩⟩⟩⟩
theorem lw_p16 : lw_okq (⟨"RateShapes$Reader", "readWhole", "()I"⟩, 5) := ⟨⟨by decide +kernel, by decide +kernel⟩, List.mem_of_getElem? (i := 103) (by decide +kernel), List.mem_of_getElem? (i := 357) (by decide +kernel), List.mem_of_getElem? (i := 358) (by decide +kernel)⟩
theorem lw_p17 : lw_okq (⟨"RateShapes$Reader", "readRows", "(I)Z"⟩, 5) := ⟨⟨by decide +kernel, by decide +kernel⟩, List.mem_of_getElem? (i := 103) (by decide +kernel), List.mem_of_getElem? (i := 365) (by decide +kernel), List.mem_of_getElem? (i := 366) (by decide +kernel)⟩
theorem lw_p18 : lw_okq (⟨"RateShapes$Tree", "moveBack", "(I)V"⟩, 12) := ⟨⟨by decide +kernel, by decide +kernel⟩, List.mem_of_getElem? (i := 31) (by decide +kernel), List.mem_of_getElem? (i := 380) (by decide +kernel), List.mem_of_getElem? (i := 381) (by decide +kernel)⟩
theorem lw_p19 : lw_okq (⟨"RateShapes$Reader", "readEnd", "()Z"⟩, 5) := ⟨⟨by decide +kernel, by decide +kernel⟩, List.mem_of_getElem? (i := 103) (by decide +kernel), List.mem_of_getElem? (i := 384) (by decide +kernel), List.mem_of_getElem? (i := 385) (by decide +kernel)⟩
theorem lw_p20 : lw_okq (⟨"RateShapes$Units", "leadsTo", "(II)Z"⟩, 3) := ⟨⟨by decide +kernel, by decide +kernel⟩, List.mem_of_getElem? (i := 126) (by decide +kernel), List.mem_of_getElem? (i := 414) (by decide +kernel), List.mem_of_getElem? (i := 415) (by decide +kernel)⟩
theorem lw_p21 : lw_okq (⟨"java/lang/Throwable", "fillInStackTrace", "(I)Ljava/lang/Throwable;"⟩, 6) := ⟨⟨by decide +kernel, by decide +kernel⟩, List.mem_of_getElem? (i := 489) (by decide +kernel), List.mem_of_getElem? (i := 487) (by decide +kernel), List.mem_of_getElem? (i := 488) (by decide +kernel)⟩
theorem lw_p22 : lw_okq (⟨"RateShapes", "rateInMicros", "()J"⟩, 6) := ⟨⟨by decide +kernel, by decide +kernel⟩, List.mem_of_getElem? (i := 23) (by decide +kernel), List.mem_of_getElem? (i := 518) (by decide +kernel), List.mem_of_getElem? (i := 519) (by decide +kernel)⟩
theorem lw_p23 : lw_okq (⟨"RateShapes", "nodeInMicros", "(I)J"⟩, 6) := ⟨⟨by decide +kernel, by decide +kernel⟩, List.mem_of_getElem? (i := 23) (by decide +kernel), List.mem_of_getElem? (i := 538) (by decide +kernel), List.mem_of_getElem? (i := 539) (by decide +kernel)⟩
theorem lw_p24 : lw_okq (⟨"RateShapes$Values", "workOutUnits", "(IJJ)V"⟩, 2) := ⟨⟨by decide +kernel, by decide +kernel⟩, List.mem_of_getElem? (i := 147) (by decide +kernel), List.mem_of_getElem? (i := 548) (by decide +kernel), List.mem_of_getElem? (i := 549) (by decide +kernel)⟩
theorem lw_p25 : lw_okq (⟨"RateShapes$Values", "workOutSides", "(IIII)V"⟩, 2) := ⟨⟨by decide +kernel, by decide +kernel⟩, List.mem_of_getElem? (i := 147) (by decide +kernel), List.mem_of_getElem? (i := 558) (by decide +kernel), List.mem_of_getElem? (i := 559) (by decide +kernel)⟩
theorem lw_p26 : lw_okq (⟨"RateShapes$Printer", "putNode", "(LRateShapes$Tree;II)V"⟩, 2) := ⟨⟨by decide +kernel, by decide +kernel⟩, List.mem_of_getElem? (i := 163) (by decide +kernel), List.mem_of_getElem? (i := 642) (by decide +kernel), List.mem_of_getElem? (i := 643) (by decide +kernel)⟩
theorem lw_p27 : lw_okq (⟨"RateShapes$Printer", "putText", "(Ljava/lang/String;)V"⟩, 2) := ⟨⟨by decide +kernel, by decide +kernel⟩, List.mem_of_getElem? (i := 163) (by decide +kernel), List.mem_of_getElem? (i := 648) (by decide +kernel), List.mem_of_getElem? (i := 649) (by decide +kernel)⟩
theorem lw_p28 : lw_okq (⟨"RateShapes$Printer", "putSign", "(I)V"⟩, 2) := ⟨⟨by decide +kernel, by decide +kernel⟩, List.mem_of_getElem? (i := 163) (by decide +kernel), List.mem_of_getElem? (i := 654) (by decide +kernel), List.mem_of_getElem? (i := 655) (by decide +kernel)⟩
theorem lw_p29 : lw_okq (⟨"RateShapes$Printer", "putNumber", "(I)V"⟩, 2) := ⟨⟨by decide +kernel, by decide +kernel⟩, List.mem_of_getElem? (i := 163) (by decide +kernel), List.mem_of_getElem? (i := 658) (by decide +kernel), List.mem_of_getElem? (i := 659) (by decide +kernel)⟩
theorem lw_p30 : lw_okq (⟨"RateShapes$Printer", "putWhole", "(I)V"⟩, 2) := ⟨⟨by decide +kernel, by decide +kernel⟩, List.mem_of_getElem? (i := 163) (by decide +kernel), List.mem_of_getElem? (i := 662) (by decide +kernel), List.mem_of_getElem? (i := 663) (by decide +kernel)⟩
theorem lw_p31 : lw_okq (⟨"RateShapes$Printer", "putSides", "(LRateShapes$Tree;ILjava/lang/String;I)V"⟩, 2) := ⟨⟨by decide +kernel, by decide +kernel⟩, List.mem_of_getElem? (i := 163) (by decide +kernel), List.mem_of_getElem? (i := 668) (by decide +kernel), List.mem_of_getElem? (i := 669) (by decide +kernel)⟩
def lw_privs_2 : List (MethodName × Nat) := [(⟨"RateShapes$Reader", "readWhole", "()I"⟩, 5), (⟨"RateShapes$Reader", "readRows", "(I)Z"⟩, 5), (⟨"RateShapes$Tree", "moveBack", "(I)V"⟩, 12), (⟨"RateShapes$Reader", "readEnd", "()Z"⟩, 5), (⟨"RateShapes$Units", "leadsTo", "(II)Z"⟩, 3), (⟨"java/lang/Throwable", "fillInStackTrace", "(I)Ljava/lang/Throwable;"⟩, 6), (⟨"RateShapes", "rateInMicros", "()J"⟩, 6), (⟨"RateShapes", "nodeInMicros", "(I)J"⟩, 6), (⟨"RateShapes$Values", "workOutUnits", "(IJJ)V"⟩, 2), (⟨"RateShapes$Values", "workOutSides", "(IIII)V"⟩, 2), (⟨"RateShapes$Printer", "putNode", "(LRateShapes$Tree;II)V"⟩, 2), (⟨"RateShapes$Printer", "putText", "(Ljava/lang/String;)V"⟩, 2), (⟨"RateShapes$Printer", "putSign", "(I)V"⟩, 2), (⟨"RateShapes$Printer", "putNumber", "(I)V"⟩, 2), (⟨"RateShapes$Printer", "putWhole", "(I)V"⟩, 2), (⟨"RateShapes$Printer", "putSides", "(LRateShapes$Tree;ILjava/lang/String;I)V"⟩, 2)]
theorem lw_r2 : ∀ q ∈ lw_privs_2, lw_okq q := List.forall_mem_cons.mpr ⟨lw_p16, List.forall_mem_cons.mpr ⟨lw_p17, List.forall_mem_cons.mpr ⟨lw_p18, List.forall_mem_cons.mpr ⟨lw_p19, List.forall_mem_cons.mpr ⟨lw_p20, List.forall_mem_cons.mpr ⟨lw_p21, List.forall_mem_cons.mpr ⟨lw_p22, List.forall_mem_cons.mpr ⟨lw_p23, List.forall_mem_cons.mpr ⟨lw_p24, List.forall_mem_cons.mpr ⟨lw_p25, List.forall_mem_cons.mpr ⟨lw_p26, List.forall_mem_cons.mpr ⟨lw_p27, List.forall_mem_cons.mpr ⟨lw_p28, List.forall_mem_cons.mpr ⟨lw_p29, List.forall_mem_cons.mpr ⟨lw_p30, List.forall_mem_cons.mpr ⟨lw_p31, fun _ h => absurd h List.not_mem_nil⟩⟩⟩⟩⟩⟩⟩⟩⟩⟩⟩⟩⟩⟩⟩⟩
theorem lw_p32 : lw_okq (⟨"RateShapes$Printer", "putTwoRates", "(LRateShapes$Tree;ILjava/lang/String;I)V"⟩, 2) := ⟨⟨by decide +kernel, by decide +kernel⟩, List.mem_of_getElem? (i := 163) (by decide +kernel), List.mem_of_getElem? (i := 674) (by decide +kernel), List.mem_of_getElem? (i := 675) (by decide +kernel)⟩
theorem lw_p33 : lw_okq (⟨"RateShapes$Printer", "putSteps", "(LRateShapes$Tree;I)V"⟩, 2) := ⟨⟨by decide +kernel, by decide +kernel⟩, List.mem_of_getElem? (i := 163) (by decide +kernel), List.mem_of_getElem? (i := 680) (by decide +kernel), List.mem_of_getElem? (i := 681) (by decide +kernel)⟩
theorem lw_p34 : lw_okq (⟨"RateShapesModel", "opens", "(II)V"⟩, 32) := ⟨⟨by decide +kernel, by decide +kernel⟩, List.mem_of_getElem? (i := 721) (by decide +kernel), List.mem_of_getElem? (i := 837) (by decide +kernel), List.mem_of_getElem? (i := 838) (by decide +kernel)⟩
theorem lw_p35 : lw_okq (⟨"RateShapesModel", "fail", "(I)V"⟩, 32) := ⟨⟨by decide +kernel, by decide +kernel⟩, List.mem_of_getElem? (i := 721) (by decide +kernel), List.mem_of_getElem? (i := 841) (by decide +kernel), List.mem_of_getElem? (i := 842) (by decide +kernel)⟩
theorem lw_p36 : lw_okq (⟨"RateShapesModel", "fine", "()Z"⟩, 32) := ⟨⟨by decide +kernel, by decide +kernel⟩, List.mem_of_getElem? (i := 721) (by decide +kernel), List.mem_of_getElem? (i := 845) (by decide +kernel), List.mem_of_getElem? (i := 846) (by decide +kernel)⟩
theorem lw_p37 : lw_okq (⟨"RateShapesModel", "takePart", "()I"⟩, 32) := ⟨⟨by decide +kernel, by decide +kernel⟩, List.mem_of_getElem? (i := 721) (by decide +kernel), List.mem_of_getElem? (i := 849) (by decide +kernel), List.mem_of_getElem? (i := 850) (by decide +kernel)⟩
theorem lw_p38 : lw_okq (⟨"RateShapesModel", "look", "()I"⟩, 32) := ⟨⟨by decide +kernel, by decide +kernel⟩, List.mem_of_getElem? (i := 721) (by decide +kernel), List.mem_of_getElem? (i := 853) (by decide +kernel), List.mem_of_getElem? (i := 854) (by decide +kernel)⟩
theorem lw_p39 : lw_okq (⟨"RateShapesModel", "takeWord", "()I"⟩, 32) := ⟨⟨by decide +kernel, by decide +kernel⟩, List.mem_of_getElem? (i := 721) (by decide +kernel), List.mem_of_getElem? (i := 860) (by decide +kernel), List.mem_of_getElem? (i := 861) (by decide +kernel)⟩
theorem lw_p40 : lw_okq (⟨"RateShapesModel", "isWord", "(IIJ)Z"⟩, 32) := ⟨⟨by decide +kernel, by decide +kernel⟩, List.mem_of_getElem? (i := 721) (by decide +kernel), List.mem_of_getElem? (i := 865) (by decide +kernel), List.mem_of_getElem? (i := 866) (by decide +kernel)⟩
theorem lw_p41 : lw_okq (⟨"RateShapesModel", "counts", "(I)Z"⟩, 32) := ⟨⟨by decide +kernel, by decide +kernel⟩, List.mem_of_getElem? (i := 721) (by decide +kernel), List.mem_of_getElem? (i := 873) (by decide +kernel), List.mem_of_getElem? (i := 874) (by decide +kernel)⟩
theorem lw_p42 : lw_okq (⟨"RateShapesModel", "make", "(IIIII)I"⟩, 32) := ⟨⟨by decide +kernel, by decide +kernel⟩, List.mem_of_getElem? (i := 721) (by decide +kernel), List.mem_of_getElem? (i := 877) (by decide +kernel), List.mem_of_getElem? (i := 878) (by decide +kernel)⟩
theorem lw_p43 : lw_okq (⟨"RateShapesModel", "takeSteps", "()I"⟩, 32) := ⟨⟨by decide +kernel, by decide +kernel⟩, List.mem_of_getElem? (i := 721) (by decide +kernel), List.mem_of_getElem? (i := 881) (by decide +kernel), List.mem_of_getElem? (i := 882) (by decide +kernel)⟩
theorem lw_p44 : lw_okq (⟨"RateShapesModel", "take", "(I)V"⟩, 32) := ⟨⟨by decide +kernel, by decide +kernel⟩, List.mem_of_getElem? (i := 721) (by decide +kernel), List.mem_of_getElem? (i := 885) (by decide +kernel), List.mem_of_getElem? (i := 886) (by decide +kernel)⟩
theorem lw_p45 : lw_okq (⟨"RateShapesModel", "whole", "()I"⟩, 32) := ⟨⟨by decide +kernel, by decide +kernel⟩, List.mem_of_getElem? (i := 721) (by decide +kernel), List.mem_of_getElem? (i := 889) (by decide +kernel), List.mem_of_getElem? (i := 890) (by decide +kernel)⟩
theorem lw_p46 : lw_okq (⟨"RateShapesModel", "digits", "(I)I"⟩, 32) := ⟨⟨by decide +kernel, by decide +kernel⟩, List.mem_of_getElem? (i := 721) (by decide +kernel), List.mem_of_getElem? (i := 893) (by decide +kernel), List.mem_of_getElem? (i := 894) (by decide +kernel)⟩
theorem lw_p47 : lw_okq (⟨"RateShapesModel", "worth", "(II)I"⟩, 32) := ⟨⟨by decide +kernel, by decide +kernel⟩, List.mem_of_getElem? (i := 721) (by decide +kernel), List.mem_of_getElem? (i := 900) (by decide +kernel), List.mem_of_getElem? (i := 901) (by decide +kernel)⟩
def lw_privs_3 : List (MethodName × Nat) := [(⟨"RateShapes$Printer", "putTwoRates", "(LRateShapes$Tree;ILjava/lang/String;I)V"⟩, 2), (⟨"RateShapes$Printer", "putSteps", "(LRateShapes$Tree;I)V"⟩, 2), (⟨"RateShapesModel", "opens", "(II)V"⟩, 32), (⟨"RateShapesModel", "fail", "(I)V"⟩, 32), (⟨"RateShapesModel", "fine", "()Z"⟩, 32), (⟨"RateShapesModel", "takePart", "()I"⟩, 32), (⟨"RateShapesModel", "look", "()I"⟩, 32), (⟨"RateShapesModel", "takeWord", "()I"⟩, 32), (⟨"RateShapesModel", "isWord", "(IIJ)Z"⟩, 32), (⟨"RateShapesModel", "counts", "(I)Z"⟩, 32), (⟨"RateShapesModel", "make", "(IIIII)I"⟩, 32), (⟨"RateShapesModel", "takeSteps", "()I"⟩, 32), (⟨"RateShapesModel", "take", "(I)V"⟩, 32), (⟨"RateShapesModel", "whole", "()I"⟩, 32), (⟨"RateShapesModel", "digits", "(I)I"⟩, 32), (⟨"RateShapesModel", "worth", "(II)I"⟩, 32)]
theorem lw_r3 : ∀ q ∈ lw_privs_3, lw_okq q := List.forall_mem_cons.mpr ⟨lw_p32, List.forall_mem_cons.mpr ⟨lw_p33, List.forall_mem_cons.mpr ⟨lw_p34, List.forall_mem_cons.mpr ⟨lw_p35, List.forall_mem_cons.mpr ⟨lw_p36, List.forall_mem_cons.mpr ⟨lw_p37, List.forall_mem_cons.mpr ⟨lw_p38, List.forall_mem_cons.mpr ⟨lw_p39, List.forall_mem_cons.mpr ⟨lw_p40, List.forall_mem_cons.mpr ⟨lw_p41, List.forall_mem_cons.mpr ⟨lw_p42, List.forall_mem_cons.mpr ⟨lw_p43, List.forall_mem_cons.mpr ⟨lw_p44, List.forall_mem_cons.mpr ⟨lw_p45, List.forall_mem_cons.mpr ⟨lw_p46, List.forall_mem_cons.mpr ⟨lw_p47, fun _ h => absurd h List.not_mem_nil⟩⟩⟩⟩⟩⟩⟩⟩⟩⟩⟩⟩⟩⟩⟩⟩
theorem lw_p48 : lw_okq (⟨"RateShapesModel", "takeRow", "(I)V"⟩, 32) := ⟨⟨by decide +kernel, by decide +kernel⟩, List.mem_of_getElem? (i := 721) (by decide +kernel), List.mem_of_getElem? (i := 904) (by decide +kernel), List.mem_of_getElem? (i := 905) (by decide +kernel)⟩
theorem lw_p49 : lw_okq (⟨"RateShapesModel", "takeNumber", "()I"⟩, 32) := ⟨⟨by decide +kernel, by decide +kernel⟩, List.mem_of_getElem? (i := 721) (by decide +kernel), List.mem_of_getElem? (i := 908) (by decide +kernel), List.mem_of_getElem? (i := 909) (by decide +kernel)⟩
theorem lw_p50 : lw_okq (⟨"RateShapesModel", "thousandths", "()I"⟩, 32) := ⟨⟨by decide +kernel, by decide +kernel⟩, List.mem_of_getElem? (i := 721) (by decide +kernel), List.mem_of_getElem? (i := 912) (by decide +kernel), List.mem_of_getElem? (i := 913) (by decide +kernel)⟩
theorem lw_p51 : lw_okq (⟨"RateShapesModel", "joins", "(I)V"⟩, 32) := ⟨⟨by decide +kernel, by decide +kernel⟩, List.mem_of_getElem? (i := 721) (by decide +kernel), List.mem_of_getElem? (i := 916) (by decide +kernel), List.mem_of_getElem? (i := 917) (by decide +kernel)⟩
theorem lw_p52 : lw_okq (⟨"RateShapesModel", "takeBehind", "()Z"⟩, 32) := ⟨⟨by decide +kernel, by decide +kernel⟩, List.mem_of_getElem? (i := 721) (by decide +kernel), List.mem_of_getElem? (i := 920) (by decide +kernel), List.mem_of_getElem? (i := 921) (by decide +kernel)⟩
theorem lw_p53 : lw_okq (⟨"RateShapesModel", "numberAll", "(I)V"⟩, 32) := ⟨⟨by decide +kernel, by decide +kernel⟩, List.mem_of_getElem? (i := 721) (by decide +kernel), List.mem_of_getElem? (i := 924) (by decide +kernel), List.mem_of_getElem? (i := 925) (by decide +kernel)⟩
theorem lw_p54 : lw_okq (⟨"RateShapesModel", "valued", "(I)Z"⟩, 32) := ⟨⟨by decide +kernel, by decide +kernel⟩, List.mem_of_getElem? (i := 721) (by decide +kernel), List.mem_of_getElem? (i := 948) (by decide +kernel), List.mem_of_getElem? (i := 949) (by decide +kernel)⟩
theorem lw_p55 : lw_okq (⟨"RateShapesModel", "reckon", "(I)Z"⟩, 32) := ⟨⟨by decide +kernel, by decide +kernel⟩, List.mem_of_getElem? (i := 721) (by decide +kernel), List.mem_of_getElem? (i := 952) (by decide +kernel), List.mem_of_getElem? (i := 953) (by decide +kernel)⟩
theorem lw_p56 : lw_okq (⟨"RateShapesModel", "behind", "(I)I"⟩, 32) := ⟨⟨by decide +kernel, by decide +kernel⟩, List.mem_of_getElem? (i := 721) (by decide +kernel), List.mem_of_getElem? (i := 956) (by decide +kernel), List.mem_of_getElem? (i := 957) (by decide +kernel)⟩
theorem lw_p57 : lw_okq (⟨"RateShapesModel", "amountOf", "(I)J"⟩, 32) := ⟨⟨by decide +kernel, by decide +kernel⟩, List.mem_of_getElem? (i := 721) (by decide +kernel), List.mem_of_getElem? (i := 960) (by decide +kernel), List.mem_of_getElem? (i := 961) (by decide +kernel)⟩
theorem lw_p58 : lw_okq (⟨"RateShapesModel", "stepOf", "(I)J"⟩, 32) := ⟨⟨by decide +kernel, by decide +kernel⟩, List.mem_of_getElem? (i := 721) (by decide +kernel), List.mem_of_getElem? (i := 966) (by decide +kernel), List.mem_of_getElem? (i := 967) (by decide +kernel)⟩
theorem lw_p59 : lw_okq (⟨"RateShapesModel", "rate", "()J"⟩, 32) := ⟨⟨by decide +kernel, by decide +kernel⟩, List.mem_of_getElem? (i := 721) (by decide +kernel), List.mem_of_getElem? (i := 972) (by decide +kernel), List.mem_of_getElem? (i := 973) (by decide +kernel)⟩
theorem lw_p60 : lw_okq (⟨"RateShapesModel", "put", "(I)V"⟩, 32) := ⟨⟨by decide +kernel, by decide +kernel⟩, List.mem_of_getElem? (i := 721) (by decide +kernel), List.mem_of_getElem? (i := 999) (by decide +kernel), List.mem_of_getElem? (i := 1000) (by decide +kernel)⟩
theorem lw_p61 : lw_okq (⟨"RateShapesModel", "putNode", "(II)I"⟩, 32) := ⟨⟨by decide +kernel, by decide +kernel⟩, List.mem_of_getElem? (i := 721) (by decide +kernel), List.mem_of_getElem? (i := 1003) (by decide +kernel), List.mem_of_getElem? (i := 1004) (by decide +kernel)⟩
theorem lw_p62 : lw_okq (⟨"RateShapesModel", "putWord", "(J)V"⟩, 32) := ⟨⟨by decide +kernel, by decide +kernel⟩, List.mem_of_getElem? (i := 721) (by decide +kernel), List.mem_of_getElem? (i := 1007) (by decide +kernel), List.mem_of_getElem? (i := 1008) (by decide +kernel)⟩
theorem lw_p63 : lw_okq (⟨"RateShapesModel", "putSteps", "(I)V"⟩, 32) := ⟨⟨by decide +kernel, by decide +kernel⟩, List.mem_of_getElem? (i := 721) (by decide +kernel), List.mem_of_getElem? (i := 1011) (by decide +kernel), List.mem_of_getElem? (i := 1012) (by decide +kernel)⟩
def lw_privs_4 : List (MethodName × Nat) := [(⟨"RateShapesModel", "takeRow", "(I)V"⟩, 32), (⟨"RateShapesModel", "takeNumber", "()I"⟩, 32), (⟨"RateShapesModel", "thousandths", "()I"⟩, 32), (⟨"RateShapesModel", "joins", "(I)V"⟩, 32), (⟨"RateShapesModel", "takeBehind", "()Z"⟩, 32), (⟨"RateShapesModel", "numberAll", "(I)V"⟩, 32), (⟨"RateShapesModel", "valued", "(I)Z"⟩, 32), (⟨"RateShapesModel", "reckon", "(I)Z"⟩, 32), (⟨"RateShapesModel", "behind", "(I)I"⟩, 32), (⟨"RateShapesModel", "amountOf", "(I)J"⟩, 32), (⟨"RateShapesModel", "stepOf", "(I)J"⟩, 32), (⟨"RateShapesModel", "rate", "()J"⟩, 32), (⟨"RateShapesModel", "put", "(I)V"⟩, 32), (⟨"RateShapesModel", "putNode", "(II)I"⟩, 32), (⟨"RateShapesModel", "putWord", "(J)V"⟩, 32), (⟨"RateShapesModel", "putSteps", "(I)V"⟩, 32)]
theorem lw_r4 : ∀ q ∈ lw_privs_4, lw_okq q := List.forall_mem_cons.mpr ⟨lw_p48, List.forall_mem_cons.mpr ⟨lw_p49, List.forall_mem_cons.mpr ⟨lw_p50, List.forall_mem_cons.mpr ⟨lw_p51, List.forall_mem_cons.mpr ⟨lw_p52, List.forall_mem_cons.mpr ⟨lw_p53, List.forall_mem_cons.mpr ⟨lw_p54, List.forall_mem_cons.mpr ⟨lw_p55, List.forall_mem_cons.mpr ⟨lw_p56, List.forall_mem_cons.mpr ⟨lw_p57, List.forall_mem_cons.mpr ⟨lw_p58, List.forall_mem_cons.mpr ⟨lw_p59, List.forall_mem_cons.mpr ⟨lw_p60, List.forall_mem_cons.mpr ⟨lw_p61, List.forall_mem_cons.mpr ⟨lw_p62, List.forall_mem_cons.mpr ⟨lw_p63, fun _ h => absurd h List.not_mem_nil⟩⟩⟩⟩⟩⟩⟩⟩⟩⟩⟩⟩⟩⟩⟩⟩
theorem lw_p64 : lw_okq (⟨"RateShapesModel", "putWhole", "(I)V"⟩, 32) := ⟨⟨by decide +kernel, by decide +kernel⟩, List.mem_of_getElem? (i := 721) (by decide +kernel), List.mem_of_getElem? (i := 1016) (by decide +kernel), List.mem_of_getElem? (i := 1017) (by decide +kernel)⟩
theorem lw_p65 : lw_okq (⟨"RateShapesModel", "putNumber", "(I)V"⟩, 32) := ⟨⟨by decide +kernel, by decide +kernel⟩, List.mem_of_getElem? (i := 721) (by decide +kernel), List.mem_of_getElem? (i := 1020) (by decide +kernel), List.mem_of_getElem? (i := 1021) (by decide +kernel)⟩
theorem lw_p66 : lw_okq (⟨"RateShapesModel", "putTwo", "(II)I"⟩, 32) := ⟨⟨by decide +kernel, by decide +kernel⟩, List.mem_of_getElem? (i := 721) (by decide +kernel), List.mem_of_getElem? (i := 1026) (by decide +kernel), List.mem_of_getElem? (i := 1027) (by decide +kernel)⟩
def lw_privs_5 : List (MethodName × Nat) := [(⟨"RateShapesModel", "putWhole", "(I)V"⟩, 32), (⟨"RateShapesModel", "putNumber", "(I)V"⟩, 32), (⟨"RateShapesModel", "putTwo", "(II)I"⟩, 32)]
theorem lw_r5 : ∀ q ∈ lw_privs_5, lw_okq q := List.forall_mem_cons.mpr ⟨lw_p64, List.forall_mem_cons.mpr ⟨lw_p65, List.forall_mem_cons.mpr ⟨lw_p66, fun _ h => absurd h List.not_mem_nil⟩⟩⟩
def lw_privs : List (MethodName × Nat) := lw_privs_1 ++ (lw_privs_2 ++ (lw_privs_3 ++ (lw_privs_4 ++ (lw_privs_5))))
def lw_tbl : List Cond := k2_sels lw_privs ++ tables_1
theorem lw_privs_ok : ∀ q ∈ lw_privs, lw_okq q := by
  show ∀ q ∈ lw_privs_1 ++ (lw_privs_2 ++ (lw_privs_3 ++ (lw_privs_4 ++ (lw_privs_5)))), lw_okq q
  exact List.forall_mem_append.mpr ⟨lw_r1, List.forall_mem_append.mpr ⟨lw_r2, List.forall_mem_append.mpr ⟨lw_r3, List.forall_mem_append.mpr ⟨lw_r4, lw_r5⟩⟩⟩⟩
/-- the words that stay as the tables grow warm -/
def lw_g : List Cond := lw_tbl.filter goodWord
def RX0 : String := "RateShapes$Printer"
def TX0 : u_T := fun k => match k with
  | 0 => ("RateShapes$Printer", "signs", "[I", true)
  | _ => ("RateShapes$Printer", "length", "I", false)
def tyX0 : Nat → FieldType := fun k => match k with
  | 0 => .array .int
  | _ => .int
theorem nmX0 : ∀ a, a < 2 → ∀ b, b < 2 → a ≠ b → (TX0 a).2.1 ≠ (TX0 b).2.1 := by decide +kernel
theorem tyX0_ok : ∀ k, k < 2 → parseFieldDescriptor (TX0 k).2.2.1 = some (tyX0 k) := by decide +kernel
theorem inY0 : ∀ w ∈ u_ws RX0 TX0 2, w ∈ lw_tbl := by decide +kernel
theorem igX0 : (u_ws RX0 TX0 2).all goodWord = true := by decide +kernel
theorem inX0 : ∀ w ∈ u_ws RX0 TX0 2, w ∈ lw_g := fun w h => List.mem_filter.mpr ⟨inY0 w h, List.all_eq_true.mp igX0 w h⟩
def RX1 : String := "RateShapes$Reader"
def TX1 : u_T := fun k => match k with
  | 0 => ("RateShapes$Reader", "tree", "LRateShapes$Tree;", true)
  | 1 => ("RateShapes$Reader", "text", "[I", true)
  | 2 => ("RateShapes$Reader", "length", "I", false)
  | 3 => ("RateShapes$Reader", "place", "I", false)
  | _ => ("RateShapes$Reader", "badPlace", "I", false)
def tyX1 : Nat → FieldType := fun k => match k with
  | 0 => .object "RateShapes$Tree"
  | 1 => .array .int
  | 2 => .int
  | 3 => .int
  | _ => .int
theorem nmX1 : ∀ a, a < 5 → ∀ b, b < 5 → a ≠ b → (TX1 a).2.1 ≠ (TX1 b).2.1 := by decide +kernel
theorem tyX1_ok : ∀ k, k < 5 → parseFieldDescriptor (TX1 k).2.2.1 = some (tyX1 k) := by decide +kernel
theorem inY1 : ∀ w ∈ u_ws RX1 TX1 5, w ∈ lw_tbl := by decide +kernel
theorem igX1 : (u_ws RX1 TX1 5).all goodWord = true := by decide +kernel
theorem inX1 : ∀ w ∈ u_ws RX1 TX1 5, w ∈ lw_g := fun w h => List.mem_filter.mpr ⟨inY1 w h, List.all_eq_true.mp igX1 w h⟩
def RX2 : String := "RateShapes$Tree"
def TX2 : u_T := fun k => match k with
  | 0 => ("RateShapes$Tree", "kinds", "[I", true)
  | 1 => ("RateShapes$Tree", "numbers", "[I", true)
  | 2 => ("RateShapes$Tree", "unitsOf", "[I", true)
  | 3 => ("RateShapes$Tree", "lefts", "[I", true)
  | 4 => ("RateShapes$Tree", "rights", "[I", true)
  | 5 => ("RateShapes$Tree", "firstRows", "[I", true)
  | 6 => ("RateShapes$Tree", "rowCounts", "[I", true)
  | 7 => ("RateShapes$Tree", "rowBounds", "[I", true)
  | 8 => ("RateShapes$Tree", "rowCents", "[I", true)
  | 9 => ("RateShapes$Tree", "rowsInAll", "I", false)
  | 10 => ("RateShapes$Tree", "size", "I", false)
  | _ => ("RateShapes$Tree", "deepest", "I", false)
def tyX2 : Nat → FieldType := fun k => match k with
  | 0 => .array .int
  | 1 => .array .int
  | 2 => .array .int
  | 3 => .array .int
  | 4 => .array .int
  | 5 => .array .int
  | 6 => .array .int
  | 7 => .array .int
  | 8 => .array .int
  | 9 => .int
  | 10 => .int
  | _ => .int
theorem nmX2 : ∀ a, a < 12 → ∀ b, b < 12 → a ≠ b → (TX2 a).2.1 ≠ (TX2 b).2.1 := by decide +kernel
theorem tyX2_ok : ∀ k, k < 12 → parseFieldDescriptor (TX2 k).2.2.1 = some (tyX2 k) := by decide +kernel
theorem inY2 : ∀ w ∈ u_ws RX2 TX2 12, w ∈ lw_tbl := by decide +kernel
theorem igX2 : (u_ws RX2 TX2 12).all goodWord = true := by decide +kernel
theorem inX2 : ∀ w ∈ u_ws RX2 TX2 12, w ∈ lw_g := fun w h => List.mem_filter.mpr ⟨inY2 w h, List.all_eq_true.mp igX2 w h⟩
def RX3 : String := "RateShapes$Units"
def TX3 : u_T := fun k => match k with
  | 0 => ("RateShapes$Units", "amounts", "[J", true)
  | 1 => ("RateShapes$Units", "targets", "[I", true)
  | _ => ("RateShapes$Units", "times", "[I", true)
def tyX3 : Nat → FieldType := fun k => match k with
  | 0 => .array .long
  | 1 => .array .int
  | _ => .array .int
theorem nmX3 : ∀ a, a < 3 → ∀ b, b < 3 → a ≠ b → (TX3 a).2.1 ≠ (TX3 b).2.1 := by decide +kernel
theorem tyX3_ok : ∀ k, k < 3 → parseFieldDescriptor (TX3 k).2.2.1 = some (tyX3 k) := by decide +kernel
theorem inY3 : ∀ w ∈ u_ws RX3 TX3 3, w ∈ lw_tbl := by decide +kernel
theorem igX3 : (u_ws RX3 TX3 3).all goodWord = true := by decide +kernel
theorem inX3 : ∀ w ∈ u_ws RX3 TX3 3, w ∈ lw_g := fun w h => List.mem_filter.mpr ⟨inY3 w h, List.all_eq_true.mp igX3 w h⟩
def RX4 : String := "RateShapes$Values"
def TX4 : u_T := fun k => match k with
  | 0 => ("RateShapes$Values", "micros", "[J", true)
  | _ => ("RateShapes$Values", "known", "[Z", true)
def tyX4 : Nat → FieldType := fun k => match k with
  | 0 => .array .long
  | _ => .array .boolean
theorem nmX4 : ∀ a, a < 2 → ∀ b, b < 2 → a ≠ b → (TX4 a).2.1 ≠ (TX4 b).2.1 := by decide +kernel
theorem tyX4_ok : ∀ k, k < 2 → parseFieldDescriptor (TX4 k).2.2.1 = some (tyX4 k) := by decide +kernel
theorem inY4 : ∀ w ∈ u_ws RX4 TX4 2, w ∈ lw_tbl := by decide +kernel
theorem igX4 : (u_ws RX4 TX4 2).all goodWord = true := by decide +kernel
theorem inX4 : ∀ w ∈ u_ws RX4 TX4 2, w ∈ lw_g := fun w h => List.mem_filter.mpr ⟨inY4 w h, List.all_eq_true.mp igX4 w h⟩
def RX5 : String := "RateShapes"
def TX5 : u_T := fun k => match k with
  | 0 => ("RateShapes", "tree", "LRateShapes$Tree;", true)
  | 1 => ("RateShapes", "reader", "LRateShapes$Reader;", true)
  | 2 => ("RateShapes", "units", "LRateShapes$Units;", true)
  | 3 => ("RateShapes", "values", "LRateShapes$Values;", true)
  | 4 => ("RateShapes", "printer", "LRateShapes$Printer;", true)
  | _ => ("RateShapes", "price", "J", false)
def tyX5 : Nat → FieldType := fun k => match k with
  | 0 => .object "RateShapes$Tree"
  | 1 => .object "RateShapes$Reader"
  | 2 => .object "RateShapes$Units"
  | 3 => .object "RateShapes$Values"
  | 4 => .object "RateShapes$Printer"
  | _ => .long
theorem nmX5 : ∀ a, a < 6 → ∀ b, b < 6 → a ≠ b → (TX5 a).2.1 ≠ (TX5 b).2.1 := by decide +kernel
theorem tyX5_ok : ∀ k, k < 6 → parseFieldDescriptor (TX5 k).2.2.1 = some (tyX5 k) := by decide +kernel
theorem inY5 : ∀ w ∈ u_ws RX5 TX5 6, w ∈ lw_tbl := by decide +kernel
theorem igX5 : (u_ws RX5 TX5 6).all goodWord = true := by decide +kernel
theorem inX5 : ∀ w ∈ u_ws RX5 TX5 6, w ∈ lw_g := fun w h => List.mem_filter.mpr ⟨inY5 w h, List.all_eq_true.mp igX5 w h⟩
def RX6 : String := "RateShapesModel"
def TX6 : u_T := fun k => match k with
  | 0 => ("RateShapesModel", "text", "[I", true)
  | 1 => ("RateShapesModel", "length", "I", false)
  | 2 => ("RateShapesModel", "at", "I", false)
  | 3 => ("RateShapesModel", "bad", "I", false)
  | 4 => ("RateShapesModel", "thrown", "I", false)
  | 5 => ("RateShapesModel", "kind", "[I", true)
  | 6 => ("RateShapesModel", "number", "[I", true)
  | 7 => ("RateShapesModel", "unit", "[I", true)
  | 8 => ("RateShapesModel", "left", "[I", true)
  | 9 => ("RateShapesModel", "right", "[I", true)
  | 10 => ("RateShapesModel", "rows", "[I", true)
  | 11 => ("RateShapesModel", "rowFrom", "[I", true)
  | 12 => ("RateShapesModel", "rowCents", "[I", true)
  | 13 => ("RateShapesModel", "read", "I", false)
  | 14 => ("RateShapesModel", "counted", "I", false)
  | 15 => ("RateShapesModel", "nodes", "I", false)
  | 16 => ("RateShapesModel", "deepest", "I", false)
  | 17 => ("RateShapesModel", "nested", "I", false)
  | 18 => ("RateShapesModel", "open", "[I", true)
  | 19 => ("RateShapesModel", "side", "[I", true)
  | 20 => ("RateShapesModel", "ahead", "[I", true)
  | 21 => ("RateShapesModel", "sign", "[I", true)
  | 22 => ("RateShapesModel", "deep", "I", false)
  | 23 => ("RateShapesModel", "pile", "[I", true)
  | 24 => ("RateShapesModel", "renamed", "[I", true)
  | 25 => ("RateShapesModel", "price", "J", false)
  | 26 => ("RateShapesModel", "amount", "[J", true)
  | 27 => ("RateShapesModel", "to", "[I", true)
  | 28 => ("RateShapesModel", "times", "[I", true)
  | 29 => ("RateShapesModel", "micros", "[J", true)
  | 30 => ("RateShapesModel", "printed", "[I", true)
  | _ => ("RateShapesModel", "printedLong", "I", false)
def tyX6 : Nat → FieldType := fun k => match k with
  | 0 => .array .int
  | 1 => .int
  | 2 => .int
  | 3 => .int
  | 4 => .int
  | 5 => .array .int
  | 6 => .array .int
  | 7 => .array .int
  | 8 => .array .int
  | 9 => .array .int
  | 10 => .array .int
  | 11 => .array .int
  | 12 => .array .int
  | 13 => .int
  | 14 => .int
  | 15 => .int
  | 16 => .int
  | 17 => .int
  | 18 => .array .int
  | 19 => .array .int
  | 20 => .array .int
  | 21 => .array .int
  | 22 => .int
  | 23 => .array .int
  | 24 => .array .int
  | 25 => .long
  | 26 => .array .long
  | 27 => .array .int
  | 28 => .array .int
  | 29 => .array .long
  | 30 => .array .int
  | _ => .int
theorem nmX6 : ∀ a, a < 32 → ∀ b, b < 32 → a ≠ b → (TX6 a).2.1 ≠ (TX6 b).2.1 := by decide +kernel
theorem tyX6_ok : ∀ k, k < 32 → parseFieldDescriptor (TX6 k).2.2.1 = some (tyX6 k) := by decide +kernel
theorem inY6 : ∀ w ∈ u_ws RX6 TX6 32, w ∈ lw_tbl := by decide +kernel
theorem igX6 : (u_ws RX6 TX6 32).all goodWord = true := by decide +kernel
theorem inX6 : ∀ w ∈ u_ws RX6 TX6 32, w ∈ lw_g := fun w h => List.mem_filter.mpr ⟨inY6 w h, List.all_eq_true.mp igX6 w h⟩
def RE0 : String := "java/lang/IllegalArgumentException"
def RE1 : String := "java/lang/IllegalStateException"
def RE2 : String := "java/lang/UnsupportedOperationException"
def RE3 : String := "java/lang/IndexOutOfBoundsException"
def RE4 : String := "java/lang/ArithmeticException"
def TE : u_T := fun _ => ("", "", "", false)
def tyE : Nat → FieldType := fun _ => .int
abbrev vwCl : List vw_C := [(RX0, TX0, 2), (RX1, TX1, 5), (RX2, TX2, 12), (RX3, TX3, 3), (RX4, TX4, 2), (RX5, TX5, 6), (RX6, TX6, 32), (RE0, TE, 0), (RE1, TE, 0), (RE2, TE, 0), (RE3, TE, 0), (RE4, TE, 0)]
