section
-- ===== PART A: goes FIRST, ahead of the names: the tables' words, and 'selects' of the private methods out of them =====
/-- a private method of a class that the tables say can be made, by its rows of tables_1 -/
def lw_okq (q : MethodName × Nat) : Prop := (q.1.cls ≠ "java/lang/invoke/MethodHandle" ∧ q.1.cls ≠ "java/lang/invoke/VarHandle") ∧ Cond.instantiable q.1.cls q.2 ∈ tables_1 ∧ Cond.privateMethod q.1 ∈ tables_1 ∧ Cond.instanceMethod q.1 ∈ tables_1
theorem lw_p0 : lw_okq (⟨"RateShapes$Reader", "readRate", "(I)Z"⟩, 5) := ⟨⟨by decide +kernel, by decide +kernel⟩, List.mem_of_getElem? (i := 103) (by decide +kernel), List.mem_of_getElem? (i := 217) (by decide +kernel), List.mem_of_getElem? (i := 218) (by decide +kernel)⟩
theorem lw_p1 : lw_okq (⟨"RateShapes$Reader", "readPart", "(I)Z"⟩, 5) := ⟨⟨by decide +kernel, by decide +kernel⟩, List.mem_of_getElem? (i := 103) (by decide +kernel), List.mem_of_getElem? (i := 221) (by decide +kernel), List.mem_of_getElem? (i := 222) (by decide +kernel)⟩
theorem lw_p2 : lw_okq (⟨"RateShapes$Reader", "skipBlanks", "()V"⟩, 5) := ⟨⟨by decide +kernel, by decide +kernel⟩, List.mem_of_getElem? (i := 103) (by decide +kernel), List.mem_of_getElem? (i := 225) (by decide +kernel), List.mem_of_getElem? (i := 226) (by decide +kernel)⟩
theorem lw_p3 : lw_okq (⟨"RateShapes$Reader", "signHere", "()I"⟩, 5) := ⟨⟨by decide +kernel, by decide +kernel⟩, List.mem_of_getElem? (i := 103) (by decide +kernel), List.mem_of_getElem? (i := 229) (by decide +kernel), List.mem_of_getElem? (i := 230) (by decide +kernel)⟩
theorem lw_p4 : lw_okq (⟨"RateShapes$Reader", "readBracket", "(I)Z"⟩, 5) := ⟨⟨by decide +kernel, by decide +kernel⟩, List.mem_of_getElem? (i := 103) (by decide +kernel), List.mem_of_getElem? (i := 233) (by decide +kernel), List.mem_of_getElem? (i := 234) (by decide +kernel)⟩
theorem lw_p5 : lw_okq (⟨"RateShapes$Reader", "refuse", "(I)Z"⟩, 5) := ⟨⟨by decide +kernel, by decide +kernel⟩, List.mem_of_getElem? (i := 103) (by decide +kernel), List.mem_of_getElem? (i := 237) (by decide +kernel), List.mem_of_getElem? (i := 238) (by decide +kernel)⟩
theorem lw_p6 : lw_okq (⟨"RateShapes$Reader", "readSign", "(I)Z"⟩, 5) := ⟨⟨by decide +kernel, by decide +kernel⟩, List.mem_of_getElem? (i := 103) (by decide +kernel), List.mem_of_getElem? (i := 248) (by decide +kernel), List.mem_of_getElem? (i := 249) (by decide +kernel)⟩
theorem lw_p7 : lw_okq (⟨"RateShapes$Reader", "readNumberPart", "()Z"⟩, 5) := ⟨⟨by decide +kernel, by decide +kernel⟩, List.mem_of_getElem? (i := 103) (by decide +kernel), List.mem_of_getElem? (i := 252) (by decide +kernel), List.mem_of_getElem? (i := 253) (by decide +kernel)⟩
theorem lw_p8 : lw_okq (⟨"RateShapes$Reader", "readNumber", "()I"⟩, 5) := ⟨⟨by decide +kernel, by decide +kernel⟩, List.mem_of_getElem? (i := 103) (by decide +kernel), List.mem_of_getElem? (i := 256) (by decide +kernel), List.mem_of_getElem? (i := 257) (by decide +kernel)⟩
theorem lw_p9 : lw_okq (⟨"RateShapes$Reader", "skipDigits", "()V"⟩, 5) := ⟨⟨by decide +kernel, by decide +kernel⟩, List.mem_of_getElem? (i := 103) (by decide +kernel), List.mem_of_getElem? (i := 260) (by decide +kernel), List.mem_of_getElem? (i := 261) (by decide +kernel)⟩
theorem lw_p10 : lw_okq (⟨"RateShapes$Reader", "digitsFrom", "(I)I"⟩, 5) := ⟨⟨by decide +kernel, by decide +kernel⟩, List.mem_of_getElem? (i := 103) (by decide +kernel), List.mem_of_getElem? (i := 264) (by decide +kernel), List.mem_of_getElem? (i := 265) (by decide +kernel)⟩
theorem lw_p11 : lw_okq (⟨"RateShapes$Tree", "setNode", "(IIII)V"⟩, 12) := ⟨⟨by decide +kernel, by decide +kernel⟩, List.mem_of_getElem? (i := 31) (by decide +kernel), List.mem_of_getElem? (i := 277) (by decide +kernel), List.mem_of_getElem? (i := 278) (by decide +kernel)⟩
theorem lw_p12 : lw_okq (⟨"RateShapes$Reader", "readWord", "()I"⟩, 5) := ⟨⟨by decide +kernel, by decide +kernel⟩, List.mem_of_getElem? (i := 103) (by decide +kernel), List.mem_of_getElem? (i := 281) (by decide +kernel), List.mem_of_getElem? (i := 282) (by decide +kernel)⟩
theorem lw_p13 : lw_okq (⟨"RateShapes$Reader", "isWord", "(ILjava/lang/String;)Z"⟩, 5) := ⟨⟨by decide +kernel, by decide +kernel⟩, List.mem_of_getElem? (i := 103) (by decide +kernel), List.mem_of_getElem? (i := 286) (by decide +kernel), List.mem_of_getElem? (i := 287) (by decide +kernel)⟩
theorem lw_p14 : lw_okq (⟨"RateShapes$Reader", "readTwoRates", "(II)Z"⟩, 5) := ⟨⟨by decide +kernel, by decide +kernel⟩, List.mem_of_getElem? (i := 103) (by decide +kernel), List.mem_of_getElem? (i := 341) (by decide +kernel), List.mem_of_getElem? (i := 342) (by decide +kernel)⟩
theorem lw_p15 : lw_okq (⟨"RateShapes$Reader", "readEntry", "(I)Z"⟩, 5) := ⟨⟨by decide +kernel, by decide +kernel⟩, List.mem_of_getElem? (i := 103) (by decide +kernel), List.mem_of_getElem? (i := 353) (by decide +kernel), List.mem_of_getElem? (i := 354) (by decide +kernel)⟩
def lw_privs_1 : List (MethodName × Nat) := [(⟨"RateShapes$Reader", "readRate", "(I)Z"⟩, 5), (⟨"RateShapes$Reader", "readPart", "(I)Z"⟩, 5), (⟨"RateShapes$Reader", "skipBlanks", "()V"⟩, 5), (⟨"RateShapes$Reader", "signHere", "()I"⟩, 5), (⟨"RateShapes$Reader", "readBracket", "(I)Z"⟩, 5), (⟨"RateShapes$Reader", "refuse", "(I)Z"⟩, 5), (⟨"RateShapes$Reader", "readSign", "(I)Z"⟩, 5), (⟨"RateShapes$Reader", "readNumberPart", "()Z"⟩, 5), (⟨"RateShapes$Reader", "readNumber", "()I"⟩, 5), (⟨"RateShapes$Reader", "skipDigits", "()V"⟩, 5), (⟨"RateShapes$Reader", "digitsFrom", "(I)I"⟩, 5), (⟨"RateShapes$Tree", "setNode", "(IIII)V"⟩, 12), (⟨"RateShapes$Reader", "readWord", "()I"⟩, 5), (⟨"RateShapes$Reader", "isWord", "(ILjava/lang/String;)Z"⟩, 5), (⟨"RateShapes$Reader", "readTwoRates", "(II)Z"⟩, 5), (⟨"RateShapes$Reader", "readEntry", "(I)Z"⟩, 5)]
theorem lw_r1 : ∀ q ∈ lw_privs_1, lw_okq q := List.forall_mem_cons.mpr ⟨lw_p0, List.forall_mem_cons.mpr ⟨lw_p1, List.forall_mem_cons.mpr ⟨lw_p2, List.forall_mem_cons.mpr ⟨lw_p3, List.forall_mem_cons.mpr ⟨lw_p4, List.forall_mem_cons.mpr ⟨lw_p5, List.forall_mem_cons.mpr ⟨lw_p6, List.forall_mem_cons.mpr ⟨lw_p7, List.forall_mem_cons.mpr ⟨lw_p8, List.forall_mem_cons.mpr ⟨lw_p9, List.forall_mem_cons.mpr ⟨lw_p10, List.forall_mem_cons.mpr ⟨lw_p11, List.forall_mem_cons.mpr ⟨lw_p12, List.forall_mem_cons.mpr ⟨lw_p13, List.forall_mem_cons.mpr ⟨lw_p14, List.forall_mem_cons.mpr ⟨lw_p15, fun _ h => absurd h List.not_mem_nil⟩⟩⟩⟩⟩⟩⟩⟩⟩⟩⟩⟩⟩⟩⟩⟩
theorem lw_p16 : lw_okq (⟨"RateShapes$Reader", "readWhole", "()I"⟩, 5) := ⟨⟨by decide +kernel, by decide +kernel⟩, List.mem_of_getElem? (i := 103) (by decide +kernel), List.mem_of_getElem? (i := 357) (by decide +kernel), List.mem_of_getElem? (i := 358) (by decide +kernel)⟩
theorem lw_p17 : lw_okq (⟨"RateShapes$Reader", "readRows", "(I)Z"⟩, 5) := ⟨⟨by decide +kernel, by decide +kernel⟩, List.mem_of_getElem? (i := 103) (by decide +kernel), List.mem_of_getElem? (i := 365) (by decide +kernel), List.mem_of_getElem? (i := 366) (by decide +kernel)⟩
theorem lw_p18 : lw_okq (⟨"RateShapes$Tree", "moveBack", "(I)V"⟩, 12) := ⟨⟨by decide +kernel, by decide +kernel⟩, List.mem_of_getElem? (i := 31) (by decide +kernel), List.mem_of_getElem? (i := 380) (by decide +kernel), List.mem_of_getElem? (i := 381) (by decide +kernel)⟩
theorem lw_p19 : lw_okq (⟨"RateShapes$Reader", "readEnd", "()Z"⟩, 5) := ⟨⟨by decide +kernel, by decide +kernel⟩, List.mem_of_getElem? (i := 103) (by decide +kernel), List.mem_of_getElem? (i := 384) (by decide +kernel), List.mem_of_getElem? (i := 385) (by decide +kernel)⟩
theorem lw_p20 : lw_okq (⟨"RateShapes$Units", "leadsTo", "(II)Z"⟩, 3) := ⟨⟨by decide +kernel, by decide +kernel⟩, List.mem_of_getElem? (i := 126) (by decide +kernel), List.mem_of_getElem? (i := 414) (by decide +kernel), List.mem_of_getElem? (i := 415) (by decide +kernel)⟩
theorem lw_p21 : lw_okq (⟨"java/lang/Throwable", "fillInStackTrace", "(I)Ljava/lang/Throwable;"⟩, 6) := ⟨⟨by decide +kernel, by decide +kernel⟩, List.mem_of_getElem? (i := 489) (by decide +kernel), List.mem_of_getElem? (i := 487) (by decide +kernel), List.mem_of_getElem? (i := 488) (by decide +kernel)⟩
theorem lw_p22 : lw_okq (⟨"RateShapes", "rateInMicros", "()J"⟩, 6) := ⟨⟨by decide +kernel, by decide +kernel⟩, List.mem_of_getElem? (i := 23) (by decide +kernel), List.mem_of_getElem? (i := 518) (by decide +kernel), List.mem_of_getElem? (i := 519) (by decide +kernel)⟩
theorem lw_p23 : lw_okq (⟨"RateShapes", "nodeInMicros", "(I)J"⟩, 6) := ⟨⟨by decide +kernel, by decide +kernel⟩, List.mem_of_getElem? (i := 23) (by decide +kernel), List.mem_of_getElem? (i := 538) (by decide +kernel), List.mem_of_getElem? (i := 539) (by decide +kernel)⟩
theorem lw_p24 : lw_okq (⟨"RateShapes$Values", "workOutUnits", "(IJJ)V"⟩, 2) := ⟨⟨by decide +kernel, by decide +kernel⟩, List.mem_of_getElem? (i := 147) (by decide +kernel), List.mem_of_getElem? (i := 548) (by decide +kernel), List.mem_of_getElem? (i := 549) (by decide +kernel)⟩
theorem lw_p25 : lw_okq (⟨"RateShapes$Values", "workOutSides", "(IIII)V"⟩, 2) := ⟨⟨by decide +kernel, by decide +kernel⟩, List.mem_of_getElem? (i := 147) (by decide +kernel), List.mem_of_getElem? (i := 558) (by decide +kernel), List.mem_of_getElem? (i := 559) (by decide +kernel)⟩
theorem lw_p26 : lw_okq (⟨"RateShapes$Printer", "putNode", "(LRateShapes$Tree;II)V"⟩, 2) := ⟨⟨by decide +kernel, by decide +kernel⟩, List.mem_of_getElem? (i := 163) (by decide +kernel), List.mem_of_getElem? (i := 642) (by decide +kernel), List.mem_of_getElem? (i := 643) (by decide +kernel)⟩
theorem lw_p27 : lw_okq (⟨"RateShapes$Printer", "putText", "(Ljava/lang/String;)V"⟩, 2) := ⟨⟨by decide +kernel, by decide +kernel⟩, List.mem_of_getElem? (i := 163) (by decide +kernel), List.mem_of_getElem? (i := 648) (by decide +kernel), List.mem_of_getElem? (i := 649) (by decide +kernel)⟩
theorem lw_p28 : lw_okq (⟨"RateShapes$Printer", "putSign", "(I)V"⟩, 2) := ⟨⟨by decide +kernel, by decide +kernel⟩, List.mem_of_getElem? (i := 163) (by decide +kernel), List.mem_of_getElem? (i := 654) (by decide +kernel), List.mem_of_getElem? (i := 655) (by decide +kernel)⟩
theorem lw_p29 : lw_okq (⟨"RateShapes$Printer", "putNumber", "(I)V"⟩, 2) := ⟨⟨by decide +kernel, by decide +kernel⟩, List.mem_of_getElem? (i := 163) (by decide +kernel), List.mem_of_getElem? (i := 658) (by decide +kernel), List.mem_of_getElem? (i := 659) (by decide +kernel)⟩
theorem lw_p30 : lw_okq (⟨"RateShapes$Printer", "putWhole", "(I)V"⟩, 2) := ⟨⟨by decide +kernel, by decide +kernel⟩, List.mem_of_getElem? (i := 163) (by decide +kernel), List.mem_of_getElem? (i := 662) (by decide +kernel), List.mem_of_getElem? (i := 663) (by decide +kernel)⟩
theorem lw_p31 : lw_okq (⟨"RateShapes$Printer", "putSides", "(LRateShapes$Tree;ILjava/lang/String;I)V"⟩, 2) := ⟨⟨by decide +kernel, by decide +kernel⟩, List.mem_of_getElem? (i := 163) (by decide +kernel), List.mem_of_getElem? (i := 668) (by decide +kernel), List.mem_of_getElem? (i := 669) (by decide +kernel)⟩
def lw_privs_2 : List (MethodName × Nat) := [(⟨"RateShapes$Reader", "readWhole", "()I"⟩, 5), (⟨"RateShapes$Reader", "readRows", "(I)Z"⟩, 5), (⟨"RateShapes$Tree", "moveBack", "(I)V"⟩, 12), (⟨"RateShapes$Reader", "readEnd", "()Z"⟩, 5), (⟨"RateShapes$Units", "leadsTo", "(II)Z"⟩, 3), (⟨"java/lang/Throwable", "fillInStackTrace", "(I)Ljava/lang/Throwable;"⟩, 6), (⟨"RateShapes", "rateInMicros", "()J"⟩, 6), (⟨"RateShapes", "nodeInMicros", "(I)J"⟩, 6), (⟨"RateShapes$Values", "workOutUnits", "(IJJ)V"⟩, 2), (⟨"RateShapes$Values", "workOutSides", "(IIII)V"⟩, 2), (⟨"RateShapes$Printer", "putNode", "(LRateShapes$Tree;II)V"⟩, 2), (⟨"RateShapes$Printer", "putText", "(Ljava/lang/String;)V"⟩, 2), (⟨"RateShapes$Printer", "putSign", "(I)V"⟩, 2), (⟨"RateShapes$Printer", "putNumber", "(I)V"⟩, 2), (⟨"RateShapes$Printer", "putWhole", "(I)V"⟩, 2), (⟨"RateShapes$Printer", "putSides", "(LRateShapes$Tree;ILjava/lang/String;I)V"⟩, 2)]
theorem lw_r2 : ∀ q ∈ lw_privs_2, lw_okq q := List.forall_mem_cons.mpr ⟨lw_p16, List.forall_mem_cons.mpr ⟨lw_p17, List.forall_mem_cons.mpr ⟨lw_p18, List.forall_mem_cons.mpr ⟨lw_p19, List.forall_mem_cons.mpr ⟨lw_p20, List.forall_mem_cons.mpr ⟨lw_p21, List.forall_mem_cons.mpr ⟨lw_p22, List.forall_mem_cons.mpr ⟨lw_p23, List.forall_mem_cons.mpr ⟨lw_p24, List.forall_mem_cons.mpr ⟨lw_p25, List.forall_mem_cons.mpr ⟨lw_p26, List.forall_mem_cons.mpr ⟨lw_p27, List.forall_mem_cons.mpr ⟨lw_p28, List.forall_mem_cons.mpr ⟨lw_p29, List.forall_mem_cons.mpr ⟨lw_p30, List.forall_mem_cons.mpr ⟨lw_p31, fun _ h => absurd h List.not_mem_nil⟩⟩⟩⟩⟩⟩⟩⟩⟩⟩⟩⟩⟩⟩⟩⟩
theorem lw_p32 : lw_okq (⟨"RateShapes$Printer", "putTwoRates", "(LRateShapes$Tree;ILjava/lang/String;I)V"⟩, 2) := ⟨⟨by decide +kernel, by decide +kernel⟩, List.mem_of_getElem? (i := 163) (by decide +kernel), List.mem_of_getElem? (i := 674) (by decide +kernel), List.mem_of_getElem? (i := 675) (by decide +kernel)⟩
theorem lw_p33 : lw_okq (⟨"RateShapes$Printer", "putSteps", "(LRateShapes$Tree;I)V"⟩, 2) := ⟨⟨by decide +kernel, by decide +kernel⟩, List.mem_of_getElem? (i := 163) (by decide +kernel), List.mem_of_getElem? (i := 680) (by decide +kernel), List.mem_of_getElem? (i := 681) (by decide +kernel)⟩
theorem lw_p34 : lw_okq (⟨"RateShapesModel", "opens", "(II)V"⟩, 32) := ⟨⟨by decide +kernel, by decide +kernel⟩, List.mem_of_getElem? (i := 721) (by decide +kernel), List.mem_of_getElem? (i := 837) (by decide +kernel), List.mem_of_getElem? (i := 838) (by decide +kernel)⟩
theorem lw_p35 : lw_okq (⟨"RateShapesModel", "fail", "(I)V"⟩, 32) := ⟨⟨by decide +kernel, by decide +kernel⟩, List.mem_of_getElem? (i := 721) (by decide +kernel), List.mem_of_getElem? (i := 841) (by decide +kernel), List.mem_of_getElem? (i := 842) (by decide +kernel)⟩
theorem lw_p36 : lw_okq (⟨"RateShapesModel", "fine", "()Z"⟩, 32) := ⟨⟨by decide +kernel, by decide +kernel⟩, List.mem_of_getElem? (i := 721) (by decide +kernel), List.mem_of_getElem? (i := 845) (by decide +kernel), List.mem_of_getElem? (i := 846) (by decide +kernel)⟩
theorem lw_p37 : lw_okq (⟨"RateShapesModel", "takePart", "()I"⟩, 32) := ⟨⟨by decide +kernel, by decide +kernel⟩, List.mem_of_getElem? (i := 721) (by decide +kernel), List.mem_of_getElem? (i := 849) (by decide +kernel), List.mem_of_getElem? (i := 850) (by decide +kernel)⟩
theorem lw_p38 : lw_okq (⟨"RateShapesModel", "look", "()I"⟩, 32) := ⟨⟨by decide +kernel, by decide +kernel⟩, List.mem_of_getElem? (i := 721) (by decide +kernel), List.mem_of_getElem? (i := 853) (by decide +kernel), List.mem_of_getElem? (i := 854) (by decide +kernel)⟩
theorem lw_p39 : lw_okq (⟨"RateShapesModel", "takeWord", "()I"⟩, 32) := ⟨⟨by decide +kernel, by decide +kernel⟩, List.mem_of_getElem? (i := 721) (by decide +kernel), List.mem_of_getElem? (i := 860) (by decide +kernel), List.mem_of_getElem? (i := 861) (by decide +kernel)⟩
theorem lw_p40 : lw_okq (⟨"RateShapesModel", "isWord", "(IIJ)Z"⟩, 32) := ⟨⟨by decide +kernel, by decide +kernel⟩, List.mem_of_getElem? (i := 721) (by decide +kernel), List.mem_of_getElem? (i := 865) (by decide +kernel), List.mem_of_getElem? (i := 866) (by decide +kernel)⟩
theorem lw_p41 : lw_okq (⟨"RateShapesModel", "counts", "(I)Z"⟩, 32) := ⟨⟨by decide +kernel, by decide +kernel⟩, List.mem_of_getElem? (i := 721) (by decide +kernel), List.mem_of_getElem? (i := 873) (by decide +kernel), List.mem_of_getElem? (i := 874) (by decide +kernel)⟩
theorem lw_p42 : lw_okq (⟨"RateShapesModel", "make", "(IIIII)I"⟩, 32) := ⟨⟨by decide +kernel, by decide +kernel⟩, List.mem_of_getElem? (i := 721) (by decide +kernel), List.mem_of_getElem? (i := 877) (by decide +kernel), List.mem_of_getElem? (i := 878) (by decide +kernel)⟩
theorem lw_p43 : lw_okq (⟨"RateShapesModel", "takeSteps", "()I"⟩, 32) := ⟨⟨by decide +kernel, by decide +kernel⟩, List.mem_of_getElem? (i := 721) (by decide +kernel), List.mem_of_getElem? (i := 881) (by decide +kernel), List.mem_of_getElem? (i := 882) (by decide +kernel)⟩
theorem lw_p44 : lw_okq (⟨"RateShapesModel", "take", "(I)V"⟩, 32) := ⟨⟨by decide +kernel, by decide +kernel⟩, List.mem_of_getElem? (i := 721) (by decide +kernel), List.mem_of_getElem? (i := 885) (by decide +kernel), List.mem_of_getElem? (i := 886) (by decide +kernel)⟩
theorem lw_p45 : lw_okq (⟨"RateShapesModel", "whole", "()I"⟩, 32) := ⟨⟨by decide +kernel, by decide +kernel⟩, List.mem_of_getElem? (i := 721) (by decide +kernel), List.mem_of_getElem? (i := 889) (by decide +kernel), List.mem_of_getElem? (i := 890) (by decide +kernel)⟩
theorem lw_p46 : lw_okq (⟨"RateShapesModel", "digits", "(I)I"⟩, 32) := ⟨⟨by decide +kernel, by decide +kernel⟩, List.mem_of_getElem? (i := 721) (by decide +kernel), List.mem_of_getElem? (i := 893) (by decide +kernel), List.mem_of_getElem? (i := 894) (by decide +kernel)⟩
theorem lw_p47 : lw_okq (⟨"RateShapesModel", "worth", "(II)I"⟩, 32) := ⟨⟨by decide +kernel, by decide +kernel⟩, List.mem_of_getElem? (i := 721) (by decide +kernel), List.mem_of_getElem? (i := 900) (by decide +kernel), List.mem_of_getElem? (i := 901) (by decide +kernel)⟩
def lw_privs_3 : List (MethodName × Nat) := [(⟨"RateShapes$Printer", "putTwoRates", "(LRateShapes$Tree;ILjava/lang/String;I)V"⟩, 2), (⟨"RateShapes$Printer", "putSteps", "(LRateShapes$Tree;I)V"⟩, 2), (⟨"RateShapesModel", "opens", "(II)V"⟩, 32), (⟨"RateShapesModel", "fail", "(I)V"⟩, 32), (⟨"RateShapesModel", "fine", "()Z"⟩, 32), (⟨"RateShapesModel", "takePart", "()I"⟩, 32), (⟨"RateShapesModel", "look", "()I"⟩, 32), (⟨"RateShapesModel", "takeWord", "()I"⟩, 32), (⟨"RateShapesModel", "isWord", "(IIJ)Z"⟩, 32), (⟨"RateShapesModel", "counts", "(I)Z"⟩, 32), (⟨"RateShapesModel", "make", "(IIIII)I"⟩, 32), (⟨"RateShapesModel", "takeSteps", "()I"⟩, 32), (⟨"RateShapesModel", "take", "(I)V"⟩, 32), (⟨"RateShapesModel", "whole", "()I"⟩, 32), (⟨"RateShapesModel", "digits", "(I)I"⟩, 32), (⟨"RateShapesModel", "worth", "(II)I"⟩, 32)]
theorem lw_r3 : ∀ q ∈ lw_privs_3, lw_okq q := List.forall_mem_cons.mpr ⟨lw_p32, List.forall_mem_cons.mpr ⟨lw_p33, List.forall_mem_cons.mpr ⟨lw_p34, List.forall_mem_cons.mpr ⟨lw_p35, List.forall_mem_cons.mpr ⟨lw_p36, List.forall_mem_cons.mpr ⟨lw_p37, List.forall_mem_cons.mpr ⟨lw_p38, List.forall_mem_cons.mpr ⟨lw_p39, List.forall_mem_cons.mpr ⟨lw_p40, List.forall_mem_cons.mpr ⟨lw_p41, List.forall_mem_cons.mpr ⟨lw_p42, List.forall_mem_cons.mpr ⟨lw_p43, List.forall_mem_cons.mpr ⟨lw_p44, List.forall_mem_cons.mpr ⟨lw_p45, List.forall_mem_cons.mpr ⟨lw_p46, List.forall_mem_cons.mpr ⟨lw_p47, fun _ h => absurd h List.not_mem_nil⟩⟩⟩⟩⟩⟩⟩⟩⟩⟩⟩⟩⟩⟩⟩⟩
theorem lw_p48 : lw_okq (⟨"RateShapesModel", "takeRow", "(I)V"⟩, 32) := ⟨⟨by decide +kernel, by decide +kernel⟩, List.mem_of_getElem? (i := 721) (by decide +kernel), List.mem_of_getElem? (i := 904) (by decide +kernel), List.mem_of_getElem? (i := 905) (by decide +kernel)⟩
theorem lw_p49 : lw_okq (⟨"RateShapesModel", "takeNumber", "()I"⟩, 32) := ⟨⟨by decide +kernel, by decide +kernel⟩, List.mem_of_getElem? (i := 721) (by decide +kernel), List.mem_of_getElem? (i := 908) (by decide +kernel), List.mem_of_getElem? (i := 909) (by decide +kernel)⟩
theorem lw_p50 : lw_okq (⟨"RateShapesModel", "thousandths", "()I"⟩, 32) := ⟨⟨by decide +kernel, by decide +kernel⟩, List.mem_of_getElem? (i := 721) (by decide +kernel), List.mem_of_getElem? (i := 912) (by decide +kernel), List.mem_of_getElem? (i := 913) (by decide +kernel)⟩
theorem lw_p51 : lw_okq (⟨"RateShapesModel", "joins", "(I)V"⟩, 32) := ⟨⟨by decide +kernel, by decide +kernel⟩, List.mem_of_getElem? (i := 721) (by decide +kernel), List.mem_of_getElem? (i := 916) (by decide +kernel), List.mem_of_getElem? (i := 917) (by decide +kernel)⟩
theorem lw_p52 : lw_okq (⟨"RateShapesModel", "takeBehind", "()Z"⟩, 32) := ⟨⟨by decide +kernel, by decide +kernel⟩, List.mem_of_getElem? (i := 721) (by decide +kernel), List.mem_of_getElem? (i := 920) (by decide +kernel), List.mem_of_getElem? (i := 921) (by decide +kernel)⟩
theorem lw_p53 : lw_okq (⟨"RateShapesModel", "numberAll", "(I)V"⟩, 32) := ⟨⟨by decide +kernel, by decide +kernel⟩, List.mem_of_getElem? (i := 721) (by decide +kernel), List.mem_of_getElem? (i := 924) (by decide +kernel), List.mem_of_getElem? (i := 925) (by decide +kernel)⟩
theorem lw_p54 : lw_okq (⟨"RateShapesModel", "valued", "(I)Z"⟩, 32) := ⟨⟨by decide +kernel, by decide +kernel⟩, List.mem_of_getElem? (i := 721) (by decide +kernel), List.mem_of_getElem? (i := 948) (by decide +kernel), List.mem_of_getElem? (i := 949) (by decide +kernel)⟩
theorem lw_p55 : lw_okq (⟨"RateShapesModel", "reckon", "(I)Z"⟩, 32) := ⟨⟨by decide +kernel, by decide +kernel⟩, List.mem_of_getElem? (i := 721) (by decide +kernel), List.mem_of_getElem? (i := 952) (by decide +kernel), List.mem_of_getElem? (i := 953) (by decide +kernel)⟩
theorem lw_p56 : lw_okq (⟨"RateShapesModel", "behind", "(I)I"⟩, 32) := ⟨⟨by decide +kernel, by decide +kernel⟩, List.mem_of_getElem? (i := 721) (by decide +kernel), List.mem_of_getElem? (i := 956) (by decide +kernel), List.mem_of_getElem? (i := 957) (by decide +kernel)⟩
theorem lw_p57 : lw_okq (⟨"RateShapesModel", "amountOf", "(I)J"⟩, 32) := ⟨⟨by decide +kernel, by decide +kernel⟩, List.mem_of_getElem? (i := 721) (by decide +kernel), List.mem_of_getElem? (i := 960) (by decide +kernel), List.mem_of_getElem? (i := 961) (by decide +kernel)⟩
theorem lw_p58 : lw_okq (⟨"RateShapesModel", "stepOf", "(I)J"⟩, 32) := ⟨⟨by decide +kernel, by decide +kernel⟩, List.mem_of_getElem? (i := 721) (by decide +kernel), List.mem_of_getElem? (i := 966) (by decide +kernel), List.mem_of_getElem? (i := 967) (by decide +kernel)⟩
theorem lw_p59 : lw_okq (⟨"RateShapesModel", "rate", "()J"⟩, 32) := ⟨⟨by decide +kernel, by decide +kernel⟩, List.mem_of_getElem? (i := 721) (by decide +kernel), List.mem_of_getElem? (i := 972) (by decide +kernel), List.mem_of_getElem? (i := 973) (by decide +kernel)⟩
theorem lw_p60 : lw_okq (⟨"RateShapesModel", "put", "(I)V"⟩, 32) := ⟨⟨by decide +kernel, by decide +kernel⟩, List.mem_of_getElem? (i := 721) (by decide +kernel), List.mem_of_getElem? (i := 999) (by decide +kernel), List.mem_of_getElem? (i := 1000) (by decide +kernel)⟩
theorem lw_p61 : lw_okq (⟨"RateShapesModel", "putNode", "(II)I"⟩, 32) := ⟨⟨by decide +kernel, by decide +kernel⟩, List.mem_of_getElem? (i := 721) (by decide +kernel), List.mem_of_getElem? (i := 1003) (by decide +kernel), List.mem_of_getElem? (i := 1004) (by decide +kernel)⟩
theorem lw_p62 : lw_okq (⟨"RateShapesModel", "putWord", "(J)V"⟩, 32) := ⟨⟨by decide +kernel, by decide +kernel⟩, List.mem_of_getElem? (i := 721) (by decide +kernel), List.mem_of_getElem? (i := 1007) (by decide +kernel), List.mem_of_getElem? (i := 1008) (by decide +kernel)⟩
theorem lw_p63 : lw_okq (⟨"RateShapesModel", "putSteps", "(I)V"⟩, 32) := ⟨⟨by decide +kernel, by decide +kernel⟩, List.mem_of_getElem? (i := 721) (by decide +kernel), List.mem_of_getElem? (i := 1011) (by decide +kernel), List.mem_of_getElem? (i := 1012) (by decide +kernel)⟩
def lw_privs_4 : List (MethodName × Nat) := [(⟨"RateShapesModel", "takeRow", "(I)V"⟩, 32), (⟨"RateShapesModel", "takeNumber", "()I"⟩, 32), (⟨"RateShapesModel", "thousandths", "()I"⟩, 32), (⟨"RateShapesModel", "joins", "(I)V"⟩, 32), (⟨"RateShapesModel", "takeBehind", "()Z"⟩, 32), (⟨"RateShapesModel", "numberAll", "(I)V"⟩, 32), (⟨"RateShapesModel", "valued", "(I)Z"⟩, 32), (⟨"RateShapesModel", "reckon", "(I)Z"⟩, 32), (⟨"RateShapesModel", "behind", "(I)I"⟩, 32), (⟨"RateShapesModel", "amountOf", "(I)J"⟩, 32), (⟨"RateShapesModel", "stepOf", "(I)J"⟩, 32), (⟨"RateShapesModel", "rate", "()J"⟩, 32), (⟨"RateShapesModel", "put", "(I)V"⟩, 32), (⟨"RateShapesModel", "putNode", "(II)I"⟩, 32), (⟨"RateShapesModel", "putWord", "(J)V"⟩, 32), (⟨"RateShapesModel", "putSteps", "(I)V"⟩, 32)]
theorem lw_r4 : ∀ q ∈ lw_privs_4, lw_okq q := List.forall_mem_cons.mpr ⟨lw_p48, List.forall_mem_cons.mpr ⟨lw_p49, List.forall_mem_cons.mpr ⟨lw_p50, List.forall_mem_cons.mpr ⟨lw_p51, List.forall_mem_cons.mpr ⟨lw_p52, List.forall_mem_cons.mpr ⟨lw_p53, List.forall_mem_cons.mpr ⟨lw_p54, List.forall_mem_cons.mpr ⟨lw_p55, List.forall_mem_cons.mpr ⟨lw_p56, List.forall_mem_cons.mpr ⟨lw_p57, List.forall_mem_cons.mpr ⟨lw_p58, List.forall_mem_cons.mpr ⟨lw_p59, List.forall_mem_cons.mpr ⟨lw_p60, List.forall_mem_cons.mpr ⟨lw_p61, List.forall_mem_cons.mpr ⟨lw_p62, List.forall_mem_cons.mpr ⟨lw_p63, fun _ h => absurd h List.not_mem_nil⟩⟩⟩⟩⟩⟩⟩⟩⟩⟩⟩⟩⟩⟩⟩⟩
theorem lw_p64 : lw_okq (⟨"RateShapesModel", "putWhole", "(I)V"⟩, 32) := ⟨⟨by decide +kernel, by decide +kernel⟩, List.mem_of_getElem? (i := 721) (by decide +kernel), List.mem_of_getElem? (i := 1016) (by decide +kernel), List.mem_of_getElem? (i := 1017) (by decide +kernel)⟩
theorem lw_p65 : lw_okq (⟨"RateShapesModel", "putNumber", "(I)V"⟩, 32) := ⟨⟨by decide +kernel, by decide +kernel⟩, List.mem_of_getElem? (i := 721) (by decide +kernel), List.mem_of_getElem? (i := 1020) (by decide +kernel), List.mem_of_getElem? (i := 1021) (by decide +kernel)⟩
theorem lw_p66 : lw_okq (⟨"RateShapesModel", "putTwo", "(II)I"⟩, 32) := ⟨⟨by decide +kernel, by decide +kernel⟩, List.mem_of_getElem? (i := 721) (by decide +kernel), List.mem_of_getElem? (i := 1026) (by decide +kernel), List.mem_of_getElem? (i := 1027) (by decide +kernel)⟩
def lw_privs_5 : List (MethodName × Nat) := [(⟨"RateShapesModel", "putWhole", "(I)V"⟩, 32), (⟨"RateShapesModel", "putNumber", "(I)V"⟩, 32), (⟨"RateShapesModel", "putTwo", "(II)I"⟩, 32)]
theorem lw_r5 : ∀ q ∈ lw_privs_5, lw_okq q := List.forall_mem_cons.mpr ⟨lw_p64, List.forall_mem_cons.mpr ⟨lw_p65, List.forall_mem_cons.mpr ⟨lw_p66, fun _ h => absurd h List.not_mem_nil⟩⟩⟩
def lw_privs : List (MethodName × Nat) := lw_privs_1 ++ (lw_privs_2 ++ (lw_privs_3 ++ (lw_privs_4 ++ (lw_privs_5))))
def lw_tbl : List Cond := k2_sels lw_privs ++ tables_1
theorem lw_privs_ok : ∀ q ∈ lw_privs, lw_okq q := by
  show ∀ q ∈ lw_privs_1 ++ (lw_privs_2 ++ (lw_privs_3 ++ (lw_privs_4 ++ (lw_privs_5)))), lw_okq q
  exact List.forall_mem_append.mpr ⟨lw_r1, List.forall_mem_append.mpr ⟨lw_r2, List.forall_mem_append.mpr ⟨lw_r3, List.forall_mem_append.mpr ⟨lw_r4, lw_r5⟩⟩⟩⟩
/-- the words that stay as the tables grow warm -/
def lw_g : List Cond := lw_tbl.filter goodWord
def RX0 : String := "RateShapes$Printer"
def TX0 : u_T := fun k => match k with
  | 0 => ("RateShapes$Printer", "signs", "[I", true)
  | _ => ("RateShapes$Printer", "length", "I", false)
def tyX0 : Nat → FieldType := fun k => match k with
  | 0 => .array .int
  | _ => .int
theorem nmX0 : ∀ a, a < 2 → ∀ b, b < 2 → a ≠ b → (TX0 a).2.1 ≠ (TX0 b).2.1 := by decide +kernel
theorem tyX0_ok : ∀ k, k < 2 → parseFieldDescriptor (TX0 k).2.2.1 = some (tyX0 k) := by decide +kernel
theorem inY0 : ∀ w ∈ u_ws RX0 TX0 2, w ∈ lw_tbl := by decide +kernel
theorem igX0 : (u_ws RX0 TX0 2).all goodWord = true := by decide +kernel
theorem inX0 : ∀ w ∈ u_ws RX0 TX0 2, w ∈ lw_g := fun w h => List.mem_filter.mpr ⟨inY0 w h, List.all_eq_true.mp igX0 w h⟩
def RX1 : String := "RateShapes$Reader"
def TX1 : u_T := fun k => match k with
  | 0 => ("RateShapes$Reader", "tree", "LRateShapes$Tree;", true)
  | 1 => ("RateShapes$Reader", "text", "[I", true)
  | 2 => ("RateShapes$Reader", "length", "I", false)
  | 3 => ("RateShapes$Reader", "place", "I", false)
  | _ => ("RateShapes$Reader", "badPlace", "I", false)
def tyX1 : Nat → FieldType := fun k => match k with
  | 0 => .object "RateShapes$Tree"
  | 1 => .array .int
  | 2 => .int
  | 3 => .int
  | _ => .int
theorem nmX1 : ∀ a, a < 5 → ∀ b, b < 5 → a ≠ b → (TX1 a).2.1 ≠ (TX1 b).2.1 := by decide +kernel
theorem tyX1_ok : ∀ k, k < 5 → parseFieldDescriptor (TX1 k).2.2.1 = some (tyX1 k) := by decide +kernel
theorem inY1 : ∀ w ∈ u_ws RX1 TX1 5, w ∈ lw_tbl := by decide +kernel
theorem igX1 : (u_ws RX1 TX1 5).all goodWord = true := by decide +kernel
theorem inX1 : ∀ w ∈ u_ws RX1 TX1 5, w ∈ lw_g := fun w h => List.mem_filter.mpr ⟨inY1 w h, List.all_eq_true.mp igX1 w h⟩
def RX2 : String := "RateShapes$Tree"
def TX2 : u_T := fun k => match k with
  | 0 => ("RateShapes$Tree", "kinds", "[I", true)
  | 1 => ("RateShapes$Tree", "numbers", "[I", true)
  | 2 => ("RateShapes$Tree", "unitsOf", "[I", true)
  | 3 => ("RateShapes$Tree", "lefts", "[I", true)
  | 4 => ("RateShapes$Tree", "rights", "[I", true)
  | 5 => ("RateShapes$Tree", "firstRows", "[I", true)
  | 6 => ("RateShapes$Tree", "rowCounts", "[I", true)
  | 7 => ("RateShapes$Tree", "rowBounds", "[I", true)
  | 8 => ("RateShapes$Tree", "rowCents", "[I", true)
  | 9 => ("RateShapes$Tree", "rowsInAll", "I", false)
  | 10 => ("RateShapes$Tree", "size", "I", false)
  | _ => ("RateShapes$Tree", "deepest", "I", false)
def tyX2 : Nat → FieldType := fun k => match k with
  | 0 => .array .int
  | 1 => .array .int
  | 2 => .array .int
  | 3 => .array .int
  | 4 => .array .int
  | 5 => .array .int
  | 6 => .array .int
  | 7 => .array .int
  | 8 => .array .int
  | 9 => .int
  | 10 => .int
  | _ => .int
theorem nmX2 : ∀ a, a < 12 → ∀ b, b < 12 → a ≠ b → (TX2 a).2.1 ≠ (TX2 b).2.1 := by decide +kernel
theorem tyX2_ok : ∀ k, k < 12 → parseFieldDescriptor (TX2 k).2.2.1 = some (tyX2 k) := by decide +kernel
theorem inY2 : ∀ w ∈ u_ws RX2 TX2 12, w ∈ lw_tbl := by decide +kernel
theorem igX2 : (u_ws RX2 TX2 12).all goodWord = true := by decide +kernel
theorem inX2 : ∀ w ∈ u_ws RX2 TX2 12, w ∈ lw_g := fun w h => List.mem_filter.mpr ⟨inY2 w h, List.all_eq_true.mp igX2 w h⟩
def RX3 : String := "RateShapes$Units"
def TX3 : u_T := fun k => match k with
  | 0 => ("RateShapes$Units", "amounts", "[J", true)
  | 1 => ("RateShapes$Units", "targets", "[I", true)
  | _ => ("RateShapes$Units", "times", "[I", true)
def tyX3 : Nat → FieldType := fun k => match k with
  | 0 => .array .long
  | 1 => .array .int
  | _ => .array .int
theorem nmX3 : ∀ a, a < 3 → ∀ b, b < 3 → a ≠ b → (TX3 a).2.1 ≠ (TX3 b).2.1 := by decide +kernel
theorem tyX3_ok : ∀ k, k < 3 → parseFieldDescriptor (TX3 k).2.2.1 = some (tyX3 k) := by decide +kernel
theorem inY3 : ∀ w ∈ u_ws RX3 TX3 3, w ∈ lw_tbl := by decide +kernel
theorem igX3 : (u_ws RX3 TX3 3).all goodWord = true := by decide +kernel
theorem inX3 : ∀ w ∈ u_ws RX3 TX3 3, w ∈ lw_g := fun w h => List.mem_filter.mpr ⟨inY3 w h, List.all_eq_true.mp igX3 w h⟩
def RX4 : String := "RateShapes$Values"
def TX4 : u_T := fun k => match k with
  | 0 => ("RateShapes$Values", "micros", "[J", true)
  | _ => ("RateShapes$Values", "known", "[Z", true)
def tyX4 : Nat → FieldType := fun k => match k with
  | 0 => .array .long
  | _ => .array .boolean
theorem nmX4 : ∀ a, a < 2 → ∀ b, b < 2 → a ≠ b → (TX4 a).2.1 ≠ (TX4 b).2.1 := by decide +kernel
theorem tyX4_ok : ∀ k, k < 2 → parseFieldDescriptor (TX4 k).2.2.1 = some (tyX4 k) := by decide +kernel
theorem inY4 : ∀ w ∈ u_ws RX4 TX4 2, w ∈ lw_tbl := by decide +kernel
theorem igX4 : (u_ws RX4 TX4 2).all goodWord = true := by decide +kernel
theorem inX4 : ∀ w ∈ u_ws RX4 TX4 2, w ∈ lw_g := fun w h => List.mem_filter.mpr ⟨inY4 w h, List.all_eq_true.mp igX4 w h⟩
def RX5 : String := "RateShapes"
def TX5 : u_T := fun k => match k with
  | 0 => ("RateShapes", "tree", "LRateShapes$Tree;", true)
  | 1 => ("RateShapes", "reader", "LRateShapes$Reader;", true)
  | 2 => ("RateShapes", "units", "LRateShapes$Units;", true)
  | 3 => ("RateShapes", "values", "LRateShapes$Values;", true)
  | 4 => ("RateShapes", "printer", "LRateShapes$Printer;", true)
  | _ => ("RateShapes", "price", "J", false)
def tyX5 : Nat → FieldType := fun k => match k with
  | 0 => .object "RateShapes$Tree"
  | 1 => .object "RateShapes$Reader"
  | 2 => .object "RateShapes$Units"
  | 3 => .object "RateShapes$Values"
  | 4 => .object "RateShapes$Printer"
  | _ => .long
theorem nmX5 : ∀ a, a < 6 → ∀ b, b < 6 → a ≠ b → (TX5 a).2.1 ≠ (TX5 b).2.1 := by decide +kernel
theorem tyX5_ok : ∀ k, k < 6 → parseFieldDescriptor (TX5 k).2.2.1 = some (tyX5 k) := by decide +kernel
theorem inY5 : ∀ w ∈ u_ws RX5 TX5 6, w ∈ lw_tbl := by decide +kernel
theorem igX5 : (u_ws RX5 TX5 6).all goodWord = true := by decide +kernel
theorem inX5 : ∀ w ∈ u_ws RX5 TX5 6, w ∈ lw_g := fun w h => List.mem_filter.mpr ⟨inY5 w h, List.all_eq_true.mp igX5 w h⟩
def RX6 : String := "RateShapesModel"
def TX6 : u_T := fun k => match k with
  | 0 => ("RateShapesModel", "text", "[I", true)
  | 1 => ("RateShapesModel", "length", "I", false)
  | 2 => ("RateShapesModel", "at", "I", false)
  | 3 => ("RateShapesModel", "bad", "I", false)
  | 4 => ("RateShapesModel", "thrown", "I", false)
  | 5 => ("RateShapesModel", "kind", "[I", true)
  | 6 => ("RateShapesModel", "number", "[I", true)
  | 7 => ("RateShapesModel", "unit", "[I", true)
  | 8 => ("RateShapesModel", "left", "[I", true)
  | 9 => ("RateShapesModel", "right", "[I", true)
  | 10 => ("RateShapesModel", "rows", "[I", true)
  | 11 => ("RateShapesModel", "rowFrom", "[I", true)
  | 12 => ("RateShapesModel", "rowCents", "[I", true)
  | 13 => ("RateShapesModel", "read", "I", false)
  | 14 => ("RateShapesModel", "counted", "I", false)
  | 15 => ("RateShapesModel", "nodes", "I", false)
  | 16 => ("RateShapesModel", "deepest", "I", false)
  | 17 => ("RateShapesModel", "nested", "I", false)
  | 18 => ("RateShapesModel", "open", "[I", true)
  | 19 => ("RateShapesModel", "side", "[I", true)
  | 20 => ("RateShapesModel", "ahead", "[I", true)
  | 21 => ("RateShapesModel", "sign", "[I", true)
  | 22 => ("RateShapesModel", "deep", "I", false)
  | 23 => ("RateShapesModel", "pile", "[I", true)
  | 24 => ("RateShapesModel", "renamed", "[I", true)
  | 25 => ("RateShapesModel", "price", "J", false)
  | 26 => ("RateShapesModel", "amount", "[J", true)
  | 27 => ("RateShapesModel", "to", "[I", true)
  | 28 => ("RateShapesModel", "times", "[I", true)
  | 29 => ("RateShapesModel", "micros", "[J", true)
  | 30 => ("RateShapesModel", "printed", "[I", true)
  | _ => ("RateShapesModel", "printedLong", "I", false)
def tyX6 : Nat → FieldType := fun k => match k with
  | 0 => .array .int
  | 1 => .int
  | 2 => .int
  | 3 => .int
  | 4 => .int
  | 5 => .array .int
  | 6 => .array .int
  | 7 => .array .int
  | 8 => .array .int
  | 9 => .array .int
  | 10 => .array .int
  | 11 => .array .int
  | 12 => .array .int
  | 13 => .int
  | 14 => .int
  | 15 => .int
  | 16 => .int
  | 17 => .int
  | 18 => .array .int
  | 19 => .array .int
  | 20 => .array .int
  | 21 => .array .int
  | 22 => .int
  | 23 => .array .int
  | 24 => .array .int
  | 25 => .long
  | 26 => .array .long
  | 27 => .array .int
  | 28 => .array .int
  | 29 => .array .long
  | 30 => .array .int
  | _ => .int
theorem nmX6 : ∀ a, a < 32 → ∀ b, b < 32 → a ≠ b → (TX6 a).2.1 ≠ (TX6 b).2.1 := by decide +kernel
theorem tyX6_ok : ∀ k, k < 32 → parseFieldDescriptor (TX6 k).2.2.1 = some (tyX6 k) := by decide +kernel
theorem inY6 : ∀ w ∈ u_ws RX6 TX6 32, w ∈ lw_tbl := by decide +kernel
theorem igX6 : (u_ws RX6 TX6 32).all goodWord = true := by decide +kernel
theorem inX6 : ∀ w ∈ u_ws RX6 TX6 32, w ∈ lw_g := fun w h => List.mem_filter.mpr ⟨inY6 w h, List.all_eq_true.mp igX6 w h⟩
def RE0 : String := "java/lang/IllegalArgumentException"
def RE1 : String := "java/lang/IllegalStateException"
def RE2 : String := "java/lang/UnsupportedOperationException"
def RE3 : String := "java/lang/IndexOutOfBoundsException"
def RE4 : String := "java/lang/ArithmeticException"
def TE : u_T := fun _ => ("", "", "", false)
def tyE : Nat → FieldType := fun _ => .int
abbrev vwCl : List vw_C := [(RX0, TX0, 2), (RX1, TX1, 5), (RX2, TX2, 12), (RX3, TX3, 3), (RX4, TX4, 2), (RX5, TX5, 6), (RX6, TX6, 32), (RE0, TE, 0), (RE1, TE, 0), (RE2, TE, 0), (RE3, TE, 0), (RE4, TE, 0)]
end
section
/-! ===== the program as data: by program out of the claim (tools/gen2.py) ===== -/
abbrev pMeth : Type := MethodName × ByteArray × Nat × Option FieldType × Nat × List (Nat × Instr × Nat)
def pc_0 : List (Nat × Instr × Nat) := [(0, .aload_n 0, 1), (1, .invokespecial 3, 3), (4, .aload_n 0, 1), (5, .new 9, 3), (8, .dup, 1), (9, .invokespecial 11, 3), (12, .putfield 12, 3), (15, .aload_n 0, 1), (16, .new 16, 3), (19, .dup, 1), (20, .aload_n 0, 1), (21, .getfield 12, 3), (24, .invokespecial 18, 3), (27, .putfield 21, 3), (30, .aload_n 0, 1), (31, .new 25, 3), (34, .dup, 1), (35, .invokespecial 27, 3), (38, .putfield 28, 3), (41, .aload_n 0, 1), (42, .new 32, 3), (45, .dup, 1), (46, .invokespecial 34, 3), (49, .putfield 35, 3), (52, .aload_n 0, 1), (53, .new 39, 3), (56, .dup, 1), (57, .invokespecial 41, 3), (60, .putfield 42, 3), (63, .aload_n 0, 1), (64, .lconst 0, 1), (65, .putfield 46, 3), (68, .return_, 1)]
def pm_0 : pMeth := (⟨"RateShapes", "<init>", "()V"⟩, prog_1_method_1_code, 1, none, 5, pc_0)
def pc_1 : List (Nat × Instr × Nat) := [(0, .aload_n 0, 1), (1, .invokespecial 3, 3), (4, .aload_n 0, 1), (5, .bipush 60, 2), (7, .newarray .int, 2), (9, .putfield 9, 3), (12, .aload_n 0, 1), (13, .bipush 60, 2), (15, .newarray .int, 2), (17, .putfield 15, 3), (20, .aload_n 0, 1), (21, .bipush 60, 2), (23, .newarray .int, 2), (25, .putfield 18, 3), (28, .aload_n 0, 1), (29, .bipush 60, 2), (31, .newarray .int, 2), (33, .putfield 21, 3), (36, .aload_n 0, 1), (37, .bipush 60, 2), (39, .newarray .int, 2), (41, .putfield 24, 3), (44, .aload_n 0, 1), (45, .bipush 60, 2), (47, .newarray .int, 2), (49, .putfield 27, 3), (52, .aload_n 0, 1), (53, .bipush 60, 2), (55, .newarray .int, 2), (57, .putfield 30, 3), (60, .aload_n 0, 1), (61, .sipush 300, 3), (64, .newarray .int, 2), (66, .putfield 33, 3), (69, .aload_n 0, 1), (70, .sipush 300, 3), (73, .newarray .int, 2), (75, .putfield 36, 3), (78, .return_, 1)]
def pm_1 : pMeth := (⟨"RateShapes$Tree", "<init>", "()V"⟩, prog_4_method_1_code, 1, none, 2, pc_1)
def pc_2 : List (Nat × Instr × Nat) := [(0, .aload_n 0, 1), (1, .invokespecial 3, 3), (4, .aload_n 0, 1), (5, .sipush 300, 3), (8, .newarray .int, 2), (10, .putfield 9, 3), (13, .aload_n 0, 1), (14, .aload_n 1, 1), (15, .putfield 15, 3), (18, .return_, 1)]
def pm_2 : pMeth := (⟨"RateShapes$Reader", "<init>", "(LRateShapes$Tree;)V"⟩, prog_3_method_1_code, 2, none, 1, pc_2)
def pc_3 : List (Nat × Instr × Nat) := [(0, .aload_n 0, 1), (1, .invokespecial 3, 3), (4, .aload_n 0, 1), (5, .bipush 8, 2), (7, .newarray .long, 2), (9, .putfield 9, 3), (12, .aload_n 0, 1), (13, .bipush 8, 2), (15, .newarray .int, 2), (17, .putfield 15, 3), (20, .aload_n 0, 1), (21, .bipush 8, 2), (23, .newarray .int, 2), (25, .putfield 19, 3), (28, .aload_n 0, 1), (29, .getfield 9, 3), (32, .ldc2_w 22, 3), (35, .invokestatic 24, 3), (38, .return_, 1)]
def pm_3 : pMeth := (⟨"RateShapes$Units", "<init>", "()V"⟩, prog_5_method_1_code, 1, none, 3, pc_3)
def pc_4 : List (Nat × Instr × Nat) := [(0, .iconst 0, 1), (1, .istore_n 3, 1), (2, .aload_n 0, 1), (3, .arraylength, 1), (4, .istore 4, 2), (6, .iload_n 3, 1), (7, .iload 4, 2), (9, .if_icmp .ge 13, 3), (12, .aload_n 0, 1), (13, .iload_n 3, 1), (14, .lload_n 1, 1), (15, .lastore, 1), (16, .iinc 3 1, 3), (19, .goto (-13), 3), (22, .return_, 1)]
def pm_4 : pMeth := (⟨"java/util/Arrays", "fill", "([JJ)V"⟩, prog_21_method_101_code, 5, none, 13, pc_4)
def pc_5 : List (Nat × Instr × Nat) := [(0, .aload_n 0, 1), (1, .invokespecial 3, 3), (4, .aload_n 0, 1), (5, .bipush 60, 2), (7, .newarray .long, 2), (9, .putfield 9, 3), (12, .aload_n 0, 1), (13, .bipush 60, 2), (15, .newarray .boolean, 2), (17, .putfield 15, 3), (20, .return_, 1)]
def pm_5 : pMeth := (⟨"RateShapes$Values", "<init>", "()V"⟩, prog_6_method_1_code, 1, none, 4, pc_5)
def pc_6 : List (Nat × Instr × Nat) := [(0, .aload_n 0, 1), (1, .invokespecial 3, 3), (4, .aload_n 0, 1), (5, .sipush 900, 3), (8, .newarray .int, 2), (10, .putfield 9, 3), (13, .return_, 1)]
def pm_6 : pMeth := (⟨"RateShapes$Printer", "<init>", "()V"⟩, prog_2_method_1_code, 1, none, 0, pc_6)
def pc_7 : List (Nat × Instr × Nat) := [(0, .aload_n 0, 1), (1, .getfield 21, 3), (4, .iload_n 1, 1), (5, .invokevirtual 50, 3), (8, .ireturn, 1)]
def pm_7 : pMeth := (⟨"RateShapes", "sign", "(I)Z"⟩, prog_1_method_2_code, 2, some .boolean, 5, pc_7)
def pc_8 : List (Nat × Instr × Nat) := [(0, .iload_n 1, 1), (1, .bipush 32, 2), (3, .if_icmp .lt 19, 3), (6, .iload_n 1, 1), (7, .bipush 126, 2), (9, .if_icmp .gt 13, 3), (12, .aload_n 0, 1), (13, .getfield 19, 3), (16, .sipush 300, 3), (19, .if_icmp .lt 5, 3), (22, .iconst 0, 1), (23, .ireturn, 1), (24, .aload_n 0, 1), (25, .getfield 9, 3), (28, .aload_n 0, 1), (29, .getfield 19, 3), (32, .iload_n 1, 1), (33, .iastore, 1), (34, .aload_n 0, 1), (35, .dup, 1), (36, .getfield 19, 3), (39, .iconst 1, 1), (40, .iadd, 1), (41, .putfield 19, 3), (44, .iconst 1, 1), (45, .ireturn, 1)]
def pm_8 : pMeth := (⟨"RateShapes$Reader", "takeSign", "(I)Z"⟩, prog_3_method_2_code, 2, some .boolean, 1, pc_8)
def pc_9 : List (Nat × Instr × Nat) := [(0, .aload_n 0, 1), (1, .getfield 21, 3), (4, .invokevirtual 54, 3), (7, .ireturn, 1)]
def pm_9 : pMeth := (⟨"RateShapes", "read", "()I"⟩, prog_1_method_3_code, 1, some .int, 5, pc_9)
def pc_10 : List (Nat × Instr × Nat) := [(0, .aload_n 0, 1), (1, .getfield 15, 3), (4, .invokevirtual 23, 3), (7, .aload_n 0, 1), (8, .iconst 0, 1), (9, .putfield 28, 3), (12, .aload_n 0, 1), (13, .iconst 0, 1), (14, .putfield 31, 3), (17, .aload_n 0, 1), (18, .iconst 0, 1), (19, .invokevirtual 34, 3), (22, .ifCond .eq 14, 3), (25, .aload_n 0, 1), (26, .invokevirtual 38, 3), (29, .ifCond .eq 7, 3), (32, .iconst 1, 1), (33, .goto 4, 3), (36, .iconst 0, 1), (37, .istore_n 1, 1), (38, .aload_n 0, 1), (39, .iconst 0, 1), (40, .putfield 19, 3), (43, .iload_n 1, 1), (44, .ifCond .eq 11, 3), (47, .aload_n 0, 1), (48, .getfield 15, 3), (51, .getfield 42, 3), (54, .ireturn, 1), (55, .aload_n 0, 1), (56, .getfield 15, 3), (59, .invokevirtual 23, 3), (62, .iconst (-1), 1), (63, .aload_n 0, 1), (64, .getfield 31, 3), (67, .isub, 1), (68, .ireturn, 1)]
def pm_10 : pMeth := (⟨"RateShapes$Reader", "readText", "()I"⟩, prog_3_method_3_code, 2, some .int, 1, pc_10)
def pc_11 : List (Nat × Instr × Nat) := [(0, .aload_n 0, 1), (1, .iconst 0, 1), (2, .putfield 39, 3), (5, .aload_n 0, 1), (6, .iconst 0, 1), (7, .putfield 43, 3), (10, .aload_n 0, 1), (11, .iconst 0, 1), (12, .putfield 46, 3), (15, .return_, 1)]
def pm_11 : pMeth := (⟨"RateShapes$Tree", "clear", "()V"⟩, prog_4_method_2_code, 1, none, 2, pc_11)
def pc_12 : List (Nat × Instr × Nat) := [(0, .aload_n 0, 1), (1, .getfield 15, 3), (4, .getfield 42, 3), (7, .istore_n 2, 1), (8, .aload_n 0, 1), (9, .iload_n 1, 1), (10, .invokevirtual 51, 3), (13, .ifCond .ne 5, 3), (16, .iconst 0, 1), (17, .ireturn, 1), (18, .iconst 0, 1), (19, .istore_n 3, 1), (20, .iload_n 3, 1), (21, .sipush 300, 3), (24, .if_icmp .ge 97, 3), (27, .aload_n 0, 1), (28, .invokevirtual 45, 3), (31, .aload_n 0, 1), (32, .invokevirtual 54, 3), (35, .invokestatic 58, 3), (38, .istore 4, 2), (40, .iload 4, 2), (42, .iconst (-1), 1), (43, .if_icmp .ne 5, 3), (46, .iconst 1, 1), (47, .ireturn, 1), (48, .aload_n 0, 1), (49, .getfield 15, 3), (52, .invokevirtual 62, 3), (55, .ifCond .eq 12, 3), (58, .aload_n 0, 1), (59, .aload_n 0, 1), (60, .getfield 28, 3), (63, .invokevirtual 48, 3), (66, .ireturn, 1), (67, .aload_n 0, 1), (68, .getfield 15, 3), (71, .iload_n 2, 1), (72, .iload 4, 2), (74, .invokevirtual 65, 3), (77, .aload_n 0, 1), (78, .getfield 15, 3), (81, .iload_n 2, 1), (82, .iload_n 2, 1), (83, .iconst 1, 1), (84, .iadd, 1), (85, .aload_n 0, 1), (86, .getfield 15, 3), (89, .getfield 42, 3), (92, .invokevirtual 69, 3), (95, .aload_n 0, 1), (96, .dup, 1), (97, .getfield 28, 3), (100, .iconst 1, 1), (101, .iadd, 1), (102, .putfield 28, 3), (105, .aload_n 0, 1), (106, .iload_n 1, 1), (107, .invokevirtual 51, 3), (110, .ifCond .ne 5, 3), (113, .iconst 0, 1), (114, .ireturn, 1), (115, .iinc 3 1, 3), (118, .goto (-98), 3), (121, .aload_n 0, 1), (122, .aload_n 0, 1), (123, .getfield 28, 3), (126, .invokevirtual 48, 3), (129, .ireturn, 1)]
def pm_12 : pMeth := (⟨"RateShapes$Reader", "readRate", "(I)Z"⟩, prog_3_method_5_code, 5, some .boolean, 1, pc_12)
def pc_13 : List (Nat × Instr × Nat) := [(0, .aload_n 0, 1), (1, .invokevirtual 45, 3), (4, .aload_n 0, 1), (5, .getfield 28, 3), (8, .istore_n 2, 1), (9, .aload_n 0, 1), (10, .invokevirtual 54, 3), (13, .istore_n 3, 1), (14, .iload_n 3, 1), (15, .bipush 40, 2), (17, .if_icmp .ne 9, 3), (20, .aload_n 0, 1), (21, .iload_n 1, 1), (22, .invokevirtual 73, 3), (25, .ireturn, 1), (26, .iload_n 3, 1), (27, .bipush 48, 2), (29, .if_icmp .lt 14, 3), (32, .iload_n 3, 1), (33, .bipush 57, 2), (35, .if_icmp .gt 8, 3), (38, .aload_n 0, 1), (39, .invokevirtual 76, 3), (42, .ireturn, 1), (43, .aload_n 0, 1), (44, .invokevirtual 79, 3), (47, .istore 4, 2), (49, .iload 4, 2), (51, .iconst 5, 1), (52, .if_icmp .eq 10, 3), (55, .iload 4, 2), (57, .bipush 6, 2), (59, .if_icmp .ne 7, 3), (62, .iconst 1, 1), (63, .goto 4, 3), (66, .iconst 0, 1), (67, .istore 5, 2), (69, .iload 4, 2), (71, .iconst (-1), 1), (72, .if_icmp .eq 24, 3), (75, .aload_n 0, 1), (76, .getfield 15, 3), (79, .invokevirtual 62, 3), (82, .ifCond .ne 14, 3), (85, .iload 5, 2), (87, .ifCond .eq 15, 3), (90, .iload_n 1, 1), (91, .bipush 12, 2), (93, .if_icmp .lt 9, 3), (96, .aload_n 0, 1), (97, .iload_n 2, 1), (98, .invokevirtual 48, 3), (101, .ireturn, 1), (102, .aload_n 0, 1), (103, .getfield 15, 3), (106, .iload 4, 2), (108, .iconst 0, 1), (109, .iconst (-1), 1), (110, .invokevirtual 82, 3), (113, .istore 6, 2), (115, .iload 5, 2), (117, .ifCond .eq 13, 3), (120, .aload_n 0, 1), (121, .iload 6, 2), (123, .iload_n 1, 1), (124, .iconst 1, 1), (125, .iadd, 1), (126, .invokevirtual 86, 3), (129, .ireturn, 1), (130, .iload 4, 2), (132, .ifCond .eq 30, 3), (135, .aload_n 0, 1), (136, .iload 6, 2), (138, .invokevirtual 90, 3), (141, .ifCond .eq 25, 3), (144, .aload_n 0, 1), (145, .iload 6, 2), (147, .invokevirtual 93, 3), (150, .ifCond .eq 16, 3), (153, .aload_n 0, 1), (154, .bipush 41, 2), (156, .invokevirtual 96, 3), (159, .ifCond .eq 7, 3), (162, .iconst 1, 1), (163, .goto 4, 3), (166, .iconst 0, 1), (167, .ireturn, 1)]
def pm_13 : pMeth := (⟨"RateShapes$Reader", "readPart", "(I)Z"⟩, prog_3_method_6_code, 7, some .boolean, 1, pc_13)
def pc_14 : List (Nat × Instr × Nat) := [(0, .aload_n 0, 1), (1, .getfield 28, 3), (4, .aload_n 0, 1), (5, .getfield 19, 3), (8, .if_icmp .ge 30, 3), (11, .aload_n 0, 1), (12, .getfield 9, 3), (15, .aload_n 0, 1), (16, .getfield 28, 3), (19, .iaload, 1), (20, .bipush 32, 2), (22, .if_icmp .ne 16, 3), (25, .aload_n 0, 1), (26, .dup, 1), (27, .getfield 28, 3), (30, .iconst 1, 1), (31, .iadd, 1), (32, .putfield 28, 3), (35, .goto (-35), 3), (38, .return_, 1)]
def pm_14 : pMeth := (⟨"RateShapes$Reader", "skipBlanks", "()V"⟩, prog_3_method_20_code, 1, none, 1, pc_14)
def pc_15 : List (Nat × Instr × Nat) := [(0, .aload_n 0, 1), (1, .getfield 28, 3), (4, .aload_n 0, 1), (5, .getfield 19, 3), (8, .if_icmp .ge 15, 3), (11, .aload_n 0, 1), (12, .getfield 9, 3), (15, .aload_n 0, 1), (16, .getfield 28, 3), (19, .iaload, 1), (20, .goto 4, 3), (23, .iconst (-1), 1), (24, .ireturn, 1)]
def pm_15 : pMeth := (⟨"RateShapes$Reader", "signHere", "()I"⟩, prog_3_method_19_code, 1, some .int, 1, pc_15)
def pc_16 : List (Nat × Instr × Nat) := [(0, .iload_n 1, 1), (1, .bipush 12, 2), (3, .if_icmp .lt 12, 3), (6, .aload_n 0, 1), (7, .aload_n 0, 1), (8, .getfield 28, 3), (11, .invokevirtual 48, 3), (14, .ireturn, 1), (15, .aload_n 0, 1), (16, .dup, 1), (17, .getfield 28, 3), (20, .iconst 1, 1), (21, .iadd, 1), (22, .putfield 28, 3), (25, .aload_n 0, 1), (26, .getfield 15, 3), (29, .iload_n 1, 1), (30, .iconst 1, 1), (31, .iadd, 1), (32, .invokevirtual 102, 3), (35, .aload_n 0, 1), (36, .iload_n 1, 1), (37, .iconst 1, 1), (38, .iadd, 1), (39, .invokevirtual 34, 3), (42, .ifCond .eq 16, 3), (45, .aload_n 0, 1), (46, .bipush 41, 2), (48, .invokevirtual 96, 3), (51, .ifCond .eq 7, 3), (54, .iconst 1, 1), (55, .goto 4, 3), (58, .iconst 0, 1), (59, .ireturn, 1)]
def pm_16 : pMeth := (⟨"RateShapes$Reader", "readBracket", "(I)Z"⟩, prog_3_method_8_code, 2, some .boolean, 1, pc_16)
def pc_17 : List (Nat × Instr × Nat) := [(0, .aload_n 0, 1), (1, .iload_n 1, 1), (2, .putfield 31, 3), (5, .iconst 0, 1), (6, .ireturn, 1)]
def pm_17 : pMeth := (⟨"RateShapes$Reader", "refuse", "(I)Z"⟩, prog_3_method_18_code, 2, some .boolean, 1, pc_17)
def pc_18 : List (Nat × Instr × Nat) := [(0, .aload_n 0, 1), (1, .aload_n 0, 1), (2, .getfield 46, 3), (5, .iload_n 1, 1), (6, .invokestatic 65, 3), (9, .putfield 46, 3), (12, .return_, 1)]
def pm_18 : pMeth := (⟨"RateShapes$Tree", "reachDeep", "(I)V"⟩, prog_4_method_8_code, 2, none, 2, pc_18)
def pc_19 : List (Nat × Instr × Nat) := [(0, .iload_n 0, 1), (1, .iload_n 1, 1), (2, .if_icmp .lt 7, 3), (5, .iload_n 0, 1), (6, .goto 4, 3), (9, .iload_n 1, 1), (10, .ireturn, 1)]
def pm_19 : pMeth := (⟨"java/lang/Math", "max", "(II)I"⟩, prog_14_method_65_code, 2, some .int, 14, pc_19)
def pc_20 : List (Nat × Instr × Nat) := [(0, .aload_n 0, 1), (1, .invokevirtual 45, 3), (4, .aload_n 0, 1), (5, .invokevirtual 54, 3), (8, .iload_n 1, 1), (9, .if_icmp .eq 12, 3), (12, .aload_n 0, 1), (13, .aload_n 0, 1), (14, .getfield 28, 3), (17, .invokevirtual 48, 3), (20, .ireturn, 1), (21, .aload_n 0, 1), (22, .dup, 1), (23, .getfield 28, 3), (26, .iconst 1, 1), (27, .iadd, 1), (28, .putfield 28, 3), (31, .iconst 1, 1), (32, .ireturn, 1)]
def pm_20 : pMeth := (⟨"RateShapes$Reader", "readSign", "(I)Z"⟩, prog_3_method_14_code, 2, some .boolean, 1, pc_20)
def pc_21 : List (Nat × Instr × Nat) := [(0, .aload_n 0, 1), (1, .getfield 28, 3), (4, .istore_n 1, 1), (5, .aload_n 0, 1), (6, .invokevirtual 99, 3), (9, .istore_n 2, 1), (10, .iload_n 2, 1), (11, .iconst (-1), 1), (12, .if_icmp .eq 13, 3), (15, .aload_n 0, 1), (16, .getfield 15, 3), (19, .invokevirtual 62, 3), (22, .ifCond .eq 9, 3), (25, .aload_n 0, 1), (26, .iload_n 1, 1), (27, .invokevirtual 48, 3), (30, .ireturn, 1), (31, .aload_n 0, 1), (32, .invokevirtual 45, 3), (35, .aload_n 0, 1), (36, .invokevirtual 54, 3), (39, .bipush 37, 2), (41, .if_icmp .ne 33, 3), (44, .aload_n 0, 1), (45, .dup, 1), (46, .getfield 28, 3), (49, .iconst 1, 1), (50, .iadd, 1), (51, .putfield 28, 3), (54, .aload_n 0, 1), (55, .getfield 15, 3), (58, .iconst 1, 1), (59, .iload_n 2, 1), (60, .iconst (-1), 1), (61, .invokevirtual 82, 3), (64, .iconst (-1), 1), (65, .if_icmp .eq 7, 3), (68, .iconst 1, 1), (69, .goto 4, 3), (72, .iconst 0, 1), (73, .ireturn, 1), (74, .aload_n 0, 1), (75, .bipush 47, 2), (77, .invokevirtual 96, 3), (80, .ifCond .ne 5, 3), (83, .iconst 0, 1), (84, .ireturn, 1), (85, .aload_n 0, 1), (86, .invokevirtual 45, 3), (89, .aload_n 0, 1), (90, .invokevirtual 54, 3), (93, .bipush 65, 2), (95, .isub, 1), (96, .istore_n 3, 1), (97, .iload_n 3, 1), (98, .ifCond .lt 9, 3), (101, .iload_n 3, 1), (102, .bipush 8, 2), (104, .if_icmp .lt 12, 3), (107, .aload_n 0, 1), (108, .aload_n 0, 1), (109, .getfield 28, 3), (112, .invokevirtual 48, 3), (115, .ireturn, 1), (116, .aload_n 0, 1), (117, .dup, 1), (118, .getfield 28, 3), (121, .iconst 1, 1), (122, .iadd, 1), (123, .putfield 28, 3), (126, .aload_n 0, 1), (127, .getfield 15, 3), (130, .iconst 2, 1), (131, .iload_n 2, 1), (132, .iload_n 3, 1), (133, .invokevirtual 82, 3), (136, .iconst (-1), 1), (137, .if_icmp .eq 7, 3), (140, .iconst 1, 1), (141, .goto 4, 3), (144, .iconst 0, 1), (145, .ireturn, 1)]
def pm_21 : pMeth := (⟨"RateShapes$Reader", "readNumberPart", "()Z"⟩, prog_3_method_7_code, 4, some .boolean, 1, pc_21)
def pc_22 : List (Nat × Instr × Nat) := [(0, .aload_n 0, 1), (1, .getfield 28, 3), (4, .istore_n 1, 1), (5, .aload_n 0, 1), (6, .invokevirtual 115, 3), (9, .aload_n 0, 1), (10, .getfield 28, 3), (13, .iload_n 1, 1), (14, .isub, 1), (15, .istore_n 2, 1), (16, .iload_n 2, 1), (17, .iconst 1, 1), (18, .if_icmp .lt 8, 3), (21, .iload_n 2, 1), (22, .iconst 5, 1), (23, .if_icmp .le 5, 3), (26, .iconst (-1), 1), (27, .ireturn, 1), (28, .aload_n 0, 1), (29, .iload_n 1, 1), (30, .invokevirtual 118, 3), (33, .sipush 1000, 3), (36, .imul, 1), (37, .istore_n 3, 1), (38, .aload_n 0, 1), (39, .invokevirtual 54, 3), (42, .bipush 46, 2), (44, .if_icmp .eq 5, 3), (47, .iload_n 3, 1), (48, .ireturn, 1), (49, .aload_n 0, 1), (50, .dup, 1), (51, .getfield 28, 3), (54, .iconst 1, 1), (55, .iadd, 1), (56, .putfield 28, 3), (59, .aload_n 0, 1), (60, .getfield 28, 3), (63, .istore 4, 2), (65, .aload_n 0, 1), (66, .invokevirtual 115, 3), (69, .aload_n 0, 1), (70, .getfield 28, 3), (73, .iload 4, 2), (75, .isub, 1), (76, .tableswitch 61 1 3 #[28, 40, 52], 28), (104, .iload_n 3, 1), (105, .aload_n 0, 1), (106, .iload 4, 2), (108, .invokevirtual 118, 3), (111, .bipush 100, 2), (113, .imul, 1), (114, .iadd, 1), (115, .ireturn, 1), (116, .iload_n 3, 1), (117, .aload_n 0, 1), (118, .iload 4, 2), (120, .invokevirtual 118, 3), (123, .bipush 10, 2), (125, .imul, 1), (126, .iadd, 1), (127, .ireturn, 1), (128, .iload_n 3, 1), (129, .aload_n 0, 1), (130, .iload 4, 2), (132, .invokevirtual 118, 3), (135, .iadd, 1), (136, .ireturn, 1), (137, .iconst (-1), 1), (138, .ireturn, 1)]
def pm_22 : pMeth := (⟨"RateShapes$Reader", "readNumber", "()I"⟩, prog_3_method_13_code, 5, some .int, 1, pc_22)
def pc_23 : List (Nat × Instr × Nat) := [(0, .aload_n 0, 1), (1, .getfield 28, 3), (4, .aload_n 0, 1), (5, .getfield 19, 3), (8, .if_icmp .ge 44, 3), (11, .aload_n 0, 1), (12, .getfield 9, 3), (15, .aload_n 0, 1), (16, .getfield 28, 3), (19, .iaload, 1), (20, .bipush 48, 2), (22, .if_icmp .lt 30, 3), (25, .aload_n 0, 1), (26, .getfield 9, 3), (29, .aload_n 0, 1), (30, .getfield 28, 3), (33, .iaload, 1), (34, .bipush 57, 2), (36, .if_icmp .gt 16, 3), (39, .aload_n 0, 1), (40, .dup, 1), (41, .getfield 28, 3), (44, .iconst 1, 1), (45, .iadd, 1), (46, .putfield 28, 3), (49, .goto (-49), 3), (52, .return_, 1)]
def pm_23 : pMeth := (⟨"RateShapes$Reader", "skipDigits", "()V"⟩, prog_3_method_21_code, 1, none, 1, pc_23)
def pc_24 : List (Nat × Instr × Nat) := [(0, .iconst 0, 1), (1, .istore_n 2, 1), (2, .iload_n 1, 1), (3, .istore_n 3, 1), (4, .iload_n 3, 1), (5, .aload_n 0, 1), (6, .getfield 28, 3), (9, .if_icmp .ge 24, 3), (12, .iload_n 2, 1), (13, .bipush 10, 2), (15, .imul, 1), (16, .aload_n 0, 1), (17, .getfield 9, 3), (20, .iload_n 3, 1), (21, .iaload, 1), (22, .bipush 48, 2), (24, .isub, 1), (25, .iadd, 1), (26, .istore_n 2, 1), (27, .iinc 3 1, 3), (30, .goto (-26), 3), (33, .iload_n 2, 1), (34, .ireturn, 1)]
def pm_24 : pMeth := (⟨"RateShapes$Reader", "digitsFrom", "(I)I"⟩, prog_3_method_15_code, 4, some .int, 1, pc_24)
def pc_25 : List (Nat × Instr × Nat) := [(0, .aload_n 0, 1), (1, .getfield 43, 3), (4, .bipush 60, 2), (6, .if_icmp .lt 7, 3), (9, .iconst 1, 1), (10, .goto 4, 3), (13, .iconst 0, 1), (14, .ireturn, 1)]
def pm_25 : pMeth := (⟨"RateShapes$Tree", "isFull", "()Z"⟩, prog_4_method_3_code, 1, some .boolean, 2, pc_25)
def pc_26 : List (Nat × Instr × Nat) := [(0, .aload_n 0, 1), (1, .invokevirtual 49, 3), (4, .ifCond .eq 5, 3), (7, .iconst (-1), 1), (8, .ireturn, 1), (9, .aload_n 0, 1), (10, .getfield 43, 3), (13, .istore 4, 2), (15, .aload_n 0, 1), (16, .dup, 1), (17, .getfield 43, 3), (20, .iconst 1, 1), (21, .iadd, 1), (22, .putfield 43, 3), (25, .aload_n 0, 1), (26, .iload 4, 2), (28, .iload_n 1, 1), (29, .iload_n 2, 1), (30, .iload_n 3, 1), (31, .invokevirtual 53, 3), (34, .iload 4, 2), (36, .ireturn, 1)]
def pm_26 : pMeth := (⟨"RateShapes$Tree", "addNode", "(III)I"⟩, prog_4_method_6_code, 5, some .int, 2, pc_26)
def pc_27 : List (Nat × Instr × Nat) := [(0, .aload_n 0, 1), (1, .getfield 9, 3), (4, .iload_n 1, 1), (5, .iload_n 2, 1), (6, .iastore, 1), (7, .aload_n 0, 1), (8, .getfield 15, 3), (11, .iload_n 1, 1), (12, .iload_n 3, 1), (13, .iastore, 1), (14, .aload_n 0, 1), (15, .getfield 18, 3), (18, .iload_n 1, 1), (19, .iload 4, 2), (21, .iastore, 1), (22, .aload_n 0, 1), (23, .getfield 21, 3), (26, .iload_n 1, 1), (27, .iconst (-1), 1), (28, .iastore, 1), (29, .aload_n 0, 1), (30, .getfield 24, 3), (33, .iload_n 1, 1), (34, .iconst (-1), 1), (35, .iastore, 1), (36, .aload_n 0, 1), (37, .getfield 27, 3), (40, .iload_n 1, 1), (41, .iconst 0, 1), (42, .iastore, 1), (43, .aload_n 0, 1), (44, .getfield 30, 3), (47, .iload_n 1, 1), (48, .iconst 0, 1), (49, .iastore, 1), (50, .return_, 1)]
def pm_27 : pMeth := (⟨"RateShapes$Tree", "setNode", "(IIII)V"⟩, prog_4_method_12_code, 5, none, 2, pc_27)
def pc_28 : List (Nat × Instr × Nat) := [(0, .aload_n 0, 1), (1, .getfield 28, 3), (4, .istore_n 1, 1), (5, .aload_n 0, 1), (6, .getfield 28, 3), (9, .aload_n 0, 1), (10, .getfield 19, 3), (13, .if_icmp .ge 44, 3), (16, .aload_n 0, 1), (17, .getfield 9, 3), (20, .aload_n 0, 1), (21, .getfield 28, 3), (24, .iaload, 1), (25, .bipush 97, 2), (27, .if_icmp .lt 30, 3), (30, .aload_n 0, 1), (31, .getfield 9, 3), (34, .aload_n 0, 1), (35, .getfield 28, 3), (38, .iaload, 1), (39, .bipush 122, 2), (41, .if_icmp .gt 16, 3), (44, .aload_n 0, 1), (45, .dup, 1), (46, .getfield 28, 3), (49, .iconst 1, 1), (50, .iadd, 1), (51, .putfield 28, 3), (54, .goto (-49), 3), (57, .aload_n 0, 1), (58, .iload_n 1, 1), (59, .ldc 121, 2), (61, .invokevirtual 123, 3), (64, .ifCond .eq 5, 3), (67, .iconst 0, 1), (68, .ireturn, 1), (69, .aload_n 0, 1), (70, .iload_n 1, 1), (71, .ldc 127, 2), (73, .invokevirtual 123, 3), (76, .ifCond .eq 5, 3), (79, .iconst 5, 1), (80, .ireturn, 1), (81, .aload_n 0, 1), (82, .iload_n 1, 1), (83, .ldc 129, 2), (85, .invokevirtual 123, 3), (88, .ifCond .eq 6, 3), (91, .bipush 6, 2), (93, .ireturn, 1), (94, .aload_n 0, 1), (95, .iload_n 1, 1), (96, .ldc 131, 2), (98, .invokevirtual 123, 3), (101, .ifCond .eq 8, 3), (104, .bipush 7, 2), (106, .goto 4, 3), (109, .iconst (-1), 1), (110, .ireturn, 1)]
def pm_28 : pMeth := (⟨"RateShapes$Reader", "readWord", "()I"⟩, prog_3_method_16_code, 2, some .int, 1, pc_28)
def pc_29 : List (Nat × Instr × Nat) := [(0, .aload_n 0, 1), (1, .getfield 28, 3), (4, .iload_n 1, 1), (5, .isub, 1), (6, .aload_n 2, 1), (7, .invokevirtual 133, 3), (10, .if_icmp .eq 5, 3), (13, .iconst 0, 1), (14, .ireturn, 1), (15, .iload_n 1, 1), (16, .istore_n 3, 1), (17, .iload_n 3, 1), (18, .aload_n 0, 1), (19, .getfield 28, 3), (22, .if_icmp .ge 27, 3), (25, .aload_n 0, 1), (26, .getfield 9, 3), (29, .iload_n 3, 1), (30, .iaload, 1), (31, .aload_n 2, 1), (32, .iload_n 3, 1), (33, .iload_n 1, 1), (34, .isub, 1), (35, .invokevirtual 137, 3), (38, .if_icmp .eq 5, 3), (41, .iconst 0, 1), (42, .ireturn, 1), (43, .iinc 3 1, 3), (46, .goto (-29), 3), (49, .iconst 1, 1), (50, .ireturn, 1)]
def pm_29 : pMeth := (⟨"RateShapes$Reader", "isWord", "(ILjava/lang/String;)Z"⟩, prog_3_method_17_code, 4, some .boolean, 1, pc_29)
def pc_30 : List (Nat × Instr × Nat) := [(0, .aload_n 0, 1), (1, .getfield 9, 3), (4, .arraylength, 1), (5, .aload_n 0, 1), (6, .invokevirtual 335, 3), (9, .ishr, 1), (10, .ireturn, 1)]
def pm_30 : pMeth := (⟨"java/lang/String", "length", "()I"⟩, prog_16_method_54_code, 1, some .int, 15, pc_30)
def pc_31 : List (Nat × Instr × Nat) := [(0, .getstatic 38, 3), (3, .ifCond .eq 10, 3), (6, .aload_n 0, 1), (7, .getfield 15, 3), (10, .goto 4, 3), (13, .iconst 1, 1), (14, .ireturn, 1)]
def pm_31 : pMeth := (⟨"java/lang/String", "coder", "()B"⟩, prog_16_method_152_code, 1, some .byte, 15, pc_31)
def pc_32 : List (Nat × Instr × Nat) := [(0, .aload_n 0, 1), (1, .invokevirtual 492, 3), (4, .ifCond .eq 12, 3), (7, .aload_n 0, 1), (8, .getfield 9, 3), (11, .iload_n 1, 1), (12, .invokestatic 495, 3), (15, .ireturn, 1), (16, .aload_n 0, 1), (17, .getfield 9, 3), (20, .iload_n 1, 1), (21, .invokestatic 498, 3), (24, .ireturn, 1)]
def pm_32 : pMeth := (⟨"java/lang/String", "charAt", "(I)C"⟩, prog_16_method_56_code, 2, some .char, 15, pc_32)
def pc_33 : List (Nat × Instr × Nat) := [(0, .getstatic 38, 3), (3, .ifCond .eq 14, 3), (6, .aload_n 0, 1), (7, .getfield 15, 3), (10, .ifCond .ne 7, 3), (13, .iconst 1, 1), (14, .goto 4, 3), (17, .iconst 0, 1), (18, .ireturn, 1)]
def pm_33 : pMeth := (⟨"java/lang/String", "isLatin1", "()Z"⟩, prog_16_method_154_code, 1, some .boolean, 15, pc_33)
def pc_34 : List (Nat × Instr × Nat) := [(0, .iload_n 1, 1), (1, .aload_n 0, 1), (2, .arraylength, 1), (3, .invokestatic 9, 3), (6, .aload_n 0, 1), (7, .iload_n 1, 1), (8, .baload, 1), (9, .sipush 255, 3), (12, .iand, 1), (13, .i2c, 1), (14, .ireturn, 1)]
def pm_34 : pMeth := (⟨"java/lang/StringLatin1", "charAt", "([BI)C"⟩, prog_17_method_2_code, 2, some .char, 16, pc_34)
def pc_35 : List (Nat × Instr × Nat) := [(0, .iload_n 0, 1), (1, .iload_n 1, 1), (2, .getstatic 1053, 3), (5, .invokestatic 1059, 3), (8, .pop, 1), (9, .return_, 1)]
def pm_35 : pMeth := (⟨"java/lang/String", "checkIndex", "(II)V"⟩, prog_16_method_155_code, 2, none, 15, pc_35)
def pc_36 : List (Nat × Instr × Nat) := [(0, .iload_n 0, 1), (1, .ifCond .lt 8, 3), (4, .iload_n 0, 1), (5, .iload_n 1, 1), (6, .if_icmp .lt 10, 3), (9, .aload_n 2, 1), (10, .iload_n 0, 1), (11, .iload_n 1, 1), (12, .invokestatic 95, 3), (15, .athrow, 1), (16, .iload_n 0, 1), (17, .ireturn, 1)]
def pm_36 : pMeth := (⟨"jdk/internal/util/Preconditions", "checkIndex", "(IILjava/util/function/BiFunction;)I"⟩, prog_22_method_11_code, 3, some .int, 17, pc_36)
def pc_37 : List (Nat × Instr × Nat) := [(0, .aload_n 0, 1), (1, .getfield 15, 3), (4, .iload_n 2, 1), (5, .invokevirtual 102, 3), (8, .aload_n 0, 1), (9, .bipush 40, 2), (11, .invokevirtual 96, 3), (14, .ifCond .eq 20, 3), (17, .aload_n 0, 1), (18, .iload_n 2, 1), (19, .invokevirtual 34, 3), (22, .ifCond .eq 12, 3), (25, .aload_n 0, 1), (26, .bipush 44, 2), (28, .invokevirtual 96, 3), (31, .ifCond .ne 5, 3), (34, .iconst 0, 1), (35, .ireturn, 1), (36, .aload_n 0, 1), (37, .getfield 15, 3), (40, .iload_n 1, 1), (41, .iload_n 1, 1), (42, .iconst 1, 1), (43, .iadd, 1), (44, .aload_n 0, 1), (45, .getfield 15, 3), (48, .getfield 42, 3), (51, .invokevirtual 69, 3), (54, .aload_n 0, 1), (55, .iload_n 2, 1), (56, .invokevirtual 34, 3), (59, .ifCond .eq 16, 3), (62, .aload_n 0, 1), (63, .bipush 41, 2), (65, .invokevirtual 96, 3), (68, .ifCond .eq 7, 3), (71, .iconst 1, 1), (72, .goto 4, 3), (75, .iconst 0, 1), (76, .ireturn, 1)]
def pm_37 : pMeth := (⟨"RateShapes$Reader", "readTwoRates", "(II)Z"⟩, prog_3_method_9_code, 3, some .boolean, 1, pc_37)
def pc_38 : List (Nat × Instr × Nat) := [(0, .aload_n 0, 1), (1, .iload_n 1, 1), (2, .invokevirtual 57, 3), (5, .ifCond .eq 17, 3), (8, .aload_n 0, 1), (9, .getfield 21, 3), (12, .iload_n 1, 1), (13, .iload_n 2, 1), (14, .iastore, 1), (15, .aload_n 0, 1), (16, .getfield 24, 3), (19, .iload_n 1, 1), (20, .iload_n 3, 1), (21, .iastore, 1), (22, .return_, 1)]
def pm_38 : pMeth := (⟨"RateShapes$Tree", "setSides", "(III)V"⟩, prog_4_method_10_code, 4, none, 2, pc_38)
def pc_39 : List (Nat × Instr × Nat) := [(0, .iload_n 1, 1), (1, .ifCond .lt 15, 3), (4, .iload_n 1, 1), (5, .aload_n 0, 1), (6, .getfield 43, 3), (9, .if_icmp .ge 7, 3), (12, .iconst 1, 1), (13, .goto 4, 3), (16, .iconst 0, 1), (17, .ireturn, 1)]
def pm_39 : pMeth := (⟨"RateShapes$Tree", "has", "(I)Z"⟩, prog_4_method_4_code, 2, some .boolean, 2, pc_39)
def pc_40 : List (Nat × Instr × Nat) := [(0, .aload_n 0, 1), (1, .bipush 40, 2), (3, .invokevirtual 96, 3), (6, .ifCond .ne 5, 3), (9, .iconst 0, 1), (10, .ireturn, 1), (11, .aload_n 0, 1), (12, .invokevirtual 106, 3), (15, .istore_n 2, 1), (16, .iload_n 2, 1), (17, .iconst (-1), 1), (18, .if_icmp .ne 5, 3), (21, .iconst 0, 1), (22, .ireturn, 1), (23, .aload_n 0, 1), (24, .getfield 15, 3), (27, .iload_n 1, 1), (28, .iload_n 2, 1), (29, .invokevirtual 109, 3), (32, .aload_n 0, 1), (33, .bipush 58, 2), (35, .invokevirtual 96, 3), (38, .ireturn, 1)]
def pm_40 : pMeth := (⟨"RateShapes$Reader", "readEntry", "(I)Z"⟩, prog_3_method_10_code, 3, some .boolean, 1, pc_40)
def pc_41 : List (Nat × Instr × Nat) := [(0, .aload_n 0, 1), (1, .invokevirtual 45, 3), (4, .aload_n 0, 1), (5, .getfield 28, 3), (8, .istore_n 1, 1), (9, .aload_n 0, 1), (10, .invokevirtual 115, 3), (13, .aload_n 0, 1), (14, .getfield 28, 3), (17, .iload_n 1, 1), (18, .isub, 1), (19, .istore_n 2, 1), (20, .iload_n 2, 1), (21, .iconst 1, 1), (22, .if_icmp .lt 9, 3), (25, .iload_n 2, 1), (26, .bipush 6, 2), (28, .if_icmp .le 11, 3), (31, .aload_n 0, 1), (32, .iload_n 1, 1), (33, .invokevirtual 48, 3), (36, .pop, 1), (37, .iconst (-1), 1), (38, .ireturn, 1), (39, .aload_n 0, 1), (40, .iload_n 1, 1), (41, .invokevirtual 118, 3), (44, .ireturn, 1)]
def pm_41 : pMeth := (⟨"RateShapes$Reader", "readWhole", "()I"⟩, prog_3_method_12_code, 3, some .int, 1, pc_41)
def pc_42 : List (Nat × Instr × Nat) := [(0, .aload_n 0, 1), (1, .iload_n 1, 1), (2, .invokevirtual 57, 3), (5, .ifCond .eq 10, 3), (8, .aload_n 0, 1), (9, .getfield 15, 3), (12, .iload_n 1, 1), (13, .iload_n 2, 1), (14, .iastore, 1), (15, .return_, 1)]
def pm_42 : pMeth := (⟨"RateShapes$Tree", "setNumber", "(II)V"⟩, prog_4_method_9_code, 3, none, 2, pc_42)
def pc_43 : List (Nat × Instr × Nat) := [(0, .iconst (-1), 1), (1, .istore_n 2, 1), (2, .iconst 0, 1), (3, .istore_n 3, 1), (4, .iload_n 3, 1), (5, .bipush 6, 2), (7, .if_icmp .gt 115, 3), (10, .aload_n 0, 1), (11, .invokevirtual 45, 3), (14, .aload_n 0, 1), (15, .getfield 28, 3), (18, .istore 4, 2), (20, .aload_n 0, 1), (21, .invokevirtual 106, 3), (24, .istore 5, 2), (26, .iload 5, 2), (28, .iconst (-1), 1), (29, .if_icmp .eq 12, 3), (32, .aload_n 0, 1), (33, .bipush 61, 2), (35, .invokevirtual 96, 3), (38, .ifCond .ne 5, 3), (41, .iconst 0, 1), (42, .ireturn, 1), (43, .aload_n 0, 1), (44, .invokevirtual 106, 3), (47, .istore 6, 2), (49, .iload 6, 2), (51, .iconst (-1), 1), (52, .if_icmp .ne 5, 3), (55, .iconst 0, 1), (56, .ireturn, 1), (57, .iload_n 3, 1), (58, .bipush 6, 2), (60, .if_icmp .eq 9, 3), (63, .iload 5, 2), (65, .iload_n 2, 1), (66, .if_icmp .gt 10, 3), (69, .aload_n 0, 1), (70, .iload 4, 2), (72, .invokevirtual 48, 3), (75, .ireturn, 1), (76, .aload_n 0, 1), (77, .getfield 15, 3), (80, .iload_n 1, 1), (81, .iload 5, 2), (83, .iload 6, 2), (85, .invokevirtual 112, 3), (88, .iload 5, 2), (90, .istore_n 2, 1), (91, .aload_n 0, 1), (92, .invokevirtual 45, 3), (95, .aload_n 0, 1), (96, .invokevirtual 54, 3), (99, .bipush 44, 2), (101, .if_icmp .eq 5, 3), (104, .iconst 1, 1), (105, .ireturn, 1), (106, .aload_n 0, 1), (107, .dup, 1), (108, .getfield 28, 3), (111, .iconst 1, 1), (112, .iadd, 1), (113, .putfield 28, 3), (116, .iinc 3 1, 3), (119, .goto (-115), 3), (122, .aload_n 0, 1), (123, .aload_n 0, 1), (124, .getfield 28, 3), (127, .invokevirtual 48, 3), (130, .ireturn, 1)]
def pm_43 : pMeth := (⟨"RateShapes$Reader", "readRows", "(I)Z"⟩, prog_3_method_11_code, 7, some .boolean, 1, pc_43)
def pc_44 : List (Nat × Instr × Nat) := [(0, .aload_n 0, 1), (1, .iload_n 1, 1), (2, .invokevirtual 57, 3), (5, .ifCond .eq 13, 3), (8, .aload_n 0, 1), (9, .getfield 39, 3), (12, .sipush 300, 3), (15, .if_icmp .lt 4, 3), (18, .return_, 1), (19, .aload_n 0, 1), (20, .getfield 30, 3), (23, .iload_n 1, 1), (24, .iaload, 1), (25, .ifCond .ne 13, 3), (28, .aload_n 0, 1), (29, .getfield 27, 3), (32, .iload_n 1, 1), (33, .aload_n 0, 1), (34, .getfield 39, 3), (37, .iastore, 1), (38, .aload_n 0, 1), (39, .getfield 33, 3), (42, .aload_n 0, 1), (43, .getfield 39, 3), (46, .iload_n 2, 1), (47, .iastore, 1), (48, .aload_n 0, 1), (49, .getfield 36, 3), (52, .aload_n 0, 1), (53, .getfield 39, 3), (56, .iload_n 3, 1), (57, .iastore, 1), (58, .aload_n 0, 1), (59, .dup, 1), (60, .getfield 39, 3), (63, .iconst 1, 1), (64, .iadd, 1), (65, .putfield 39, 3), (68, .aload_n 0, 1), (69, .getfield 30, 3), (72, .iload_n 1, 1), (73, .dup2, 1), (74, .iaload, 1), (75, .iconst 1, 1), (76, .iadd, 1), (77, .iastore, 1), (78, .return_, 1)]
def pm_44 : pMeth := (⟨"RateShapes$Tree", "addRow", "(III)V"⟩, prog_4_method_11_code, 4, none, 2, pc_44)
def pc_45 : List (Nat × Instr × Nat) := [(0, .iload_n 0, 1), (1, .bipush 43, 2), (3, .if_icmp .ne 5, 3), (6, .iconst 3, 1), (7, .ireturn, 1), (8, .iload_n 0, 1), (9, .bipush 45, 2), (11, .if_icmp .ne 7, 3), (14, .iconst 4, 1), (15, .goto 4, 3), (18, .iconst (-1), 1), (19, .ireturn, 1)]
def pm_45 : pMeth := (⟨"RateShapes$Reader", "kindOfSign", "(I)I"⟩, prog_3_method_22_code, 1, some .int, 1, pc_45)
def pc_46 : List (Nat × Instr × Nat) := [(0, .aload_n 0, 1), (1, .invokevirtual 49, 3), (4, .ifCond .ne 11, 3), (7, .aload_n 0, 1), (8, .iload_n 1, 1), (9, .invokevirtual 57, 3), (12, .ifCond .ne 4, 3), (15, .return_, 1), (16, .aload_n 0, 1), (17, .getfield 43, 3), (20, .istore_n 3, 1), (21, .iload_n 3, 1), (22, .iload_n 1, 1), (23, .if_icmp .le 14, 3), (26, .aload_n 0, 1), (27, .iload_n 3, 1), (28, .invokevirtual 61, 3), (31, .iinc 3 (-1), 3), (34, .goto (-13), 3), (37, .aload_n 0, 1), (38, .dup, 1), (39, .getfield 43, 3), (42, .iconst 1, 1), (43, .iadd, 1), (44, .putfield 43, 3), (47, .aload_n 0, 1), (48, .iload_n 1, 1), (49, .iload_n 2, 1), (50, .iconst 0, 1), (51, .iconst (-1), 1), (52, .invokevirtual 53, 3), (55, .return_, 1)]
def pm_46 : pMeth := (⟨"RateShapes$Tree", "putAhead", "(II)V"⟩, prog_4_method_7_code, 4, none, 2, pc_46)
def pc_47 : List (Nat × Instr × Nat) := [(0, .iload_n 1, 1), (1, .iconst 1, 1), (2, .isub, 1), (3, .istore_n 2, 1), (4, .aload_n 0, 1), (5, .getfield 9, 3), (8, .iload_n 1, 1), (9, .aload_n 0, 1), (10, .getfield 9, 3), (13, .iload_n 2, 1), (14, .iaload, 1), (15, .iastore, 1), (16, .aload_n 0, 1), (17, .getfield 15, 3), (20, .iload_n 1, 1), (21, .aload_n 0, 1), (22, .getfield 15, 3), (25, .iload_n 2, 1), (26, .iaload, 1), (27, .iastore, 1), (28, .aload_n 0, 1), (29, .getfield 18, 3), (32, .iload_n 1, 1), (33, .aload_n 0, 1), (34, .getfield 18, 3), (37, .iload_n 2, 1), (38, .iaload, 1), (39, .iastore, 1), (40, .aload_n 0, 1), (41, .getfield 21, 3), (44, .iload_n 1, 1), (45, .aload_n 0, 1), (46, .getfield 21, 3), (49, .iload_n 2, 1), (50, .iaload, 1), (51, .iconst (-1), 1), (52, .if_icmp .ne 7, 3), (55, .iconst (-1), 1), (56, .goto 11, 3), (59, .aload_n 0, 1), (60, .getfield 21, 3), (63, .iload_n 2, 1), (64, .iaload, 1), (65, .iconst 1, 1), (66, .iadd, 1), (67, .iastore, 1), (68, .aload_n 0, 1), (69, .getfield 24, 3), (72, .iload_n 1, 1), (73, .aload_n 0, 1), (74, .getfield 24, 3), (77, .iload_n 2, 1), (78, .iaload, 1), (79, .iconst (-1), 1), (80, .if_icmp .ne 7, 3), (83, .iconst (-1), 1), (84, .goto 11, 3), (87, .aload_n 0, 1), (88, .getfield 24, 3), (91, .iload_n 2, 1), (92, .iaload, 1), (93, .iconst 1, 1), (94, .iadd, 1), (95, .iastore, 1), (96, .aload_n 0, 1), (97, .getfield 27, 3), (100, .iload_n 1, 1), (101, .aload_n 0, 1), (102, .getfield 27, 3), (105, .iload_n 2, 1), (106, .iaload, 1), (107, .iastore, 1), (108, .aload_n 0, 1), (109, .getfield 30, 3), (112, .iload_n 1, 1), (113, .aload_n 0, 1), (114, .getfield 30, 3), (117, .iload_n 2, 1), (118, .iaload, 1), (119, .iastore, 1), (120, .return_, 1)]
def pm_47 : pMeth := (⟨"RateShapes$Tree", "moveBack", "(I)V"⟩, prog_4_method_13_code, 3, none, 2, pc_47)
def pc_48 : List (Nat × Instr × Nat) := [(0, .aload_n 0, 1), (1, .invokevirtual 45, 3), (4, .aload_n 0, 1), (5, .getfield 28, 3), (8, .aload_n 0, 1), (9, .getfield 19, 3), (12, .if_icmp .ge 14, 3), (15, .aload_n 0, 1), (16, .aload_n 0, 1), (17, .getfield 28, 3), (20, .invokevirtual 48, 3), (23, .ifCond .eq 7, 3), (26, .iconst 1, 1), (27, .goto 4, 3), (30, .iconst 0, 1), (31, .ireturn, 1)]
def pm_48 : pMeth := (⟨"RateShapes$Reader", "readEnd", "()Z"⟩, prog_3_method_4_code, 1, some .boolean, 1, pc_48)
def pc_49 : List (Nat × Instr × Nat) := [(0, .lload_n 1, 1), (1, .lconst 0, 1), (2, .lcmp, 1), (3, .ifCond .lt 11, 3), (6, .lload_n 1, 1), (7, .ldc2_w 58, 3), (10, .lcmp, 1), (11, .ifCond .le 5, 3), (14, .iconst 0, 1), (15, .ireturn, 1), (16, .aload_n 0, 1), (17, .lload_n 1, 1), (18, .putfield 46, 3), (21, .iconst 1, 1), (22, .ireturn, 1)]
def pm_49 : pMeth := (⟨"RateShapes", "price", "(J)Z"⟩, prog_1_method_4_code, 3, some .boolean, 5, pc_49)
def pc_50 : List (Nat × Instr × Nat) := [(0, .aload_n 0, 1), (1, .getfield 28, 3), (4, .iload_n 1, 1), (5, .lload_n 2, 1), (6, .invokevirtual 60, 3), (9, .ireturn, 1)]
def pm_50 : pMeth := (⟨"RateShapes", "amount", "(IJ)Z"⟩, prog_1_method_5_code, 4, some .boolean, 5, pc_50)
def pc_51 : List (Nat × Instr × Nat) := [(0, .lload_n 2, 1), (1, .lconst 0, 1), (2, .lcmp, 1), (3, .ifCond .lt 15, 3), (6, .lload_n 2, 1), (7, .ldc2_w 30, 3), (10, .lcmp, 1), (11, .ifCond .gt 7, 3), (14, .iconst 1, 1), (15, .goto 4, 3), (18, .iconst 0, 1), (19, .istore 4, 2), (21, .iload_n 1, 1), (22, .invokestatic 32, 3), (25, .ifCond .eq 16, 3), (28, .iload 4, 2), (30, .ifCond .ne 13, 3), (33, .lload_n 2, 1), (34, .ldc2_w 22, 3), (37, .lcmp, 1), (38, .ifCond .eq 5, 3), (41, .iconst 0, 1), (42, .ireturn, 1), (43, .aload_n 0, 1), (44, .getfield 9, 3), (47, .iload_n 1, 1), (48, .lload_n 2, 1), (49, .lastore, 1), (50, .iconst 1, 1), (51, .ireturn, 1)]
def pm_51 : pMeth := (⟨"RateShapes$Units", "setAmount", "(IJ)Z"⟩, prog_5_method_2_code, 5, some .boolean, 3, pc_51)
def pc_52 : List (Nat × Instr × Nat) := [(0, .iload_n 0, 1), (1, .ifCond .lt 13, 3), (4, .iload_n 0, 1), (5, .bipush 8, 2), (7, .if_icmp .ge 7, 3), (10, .iconst 1, 1), (11, .goto 4, 3), (14, .iconst 0, 1), (15, .ireturn, 1)]
def pm_52 : pMeth := (⟨"RateShapes$Units", "isUnit", "(I)Z"⟩, prog_5_method_6_code, 1, some .boolean, 3, pc_52)
def pc_53 : List (Nat × Instr × Nat) := [(0, .aload_n 0, 1), (1, .getfield 28, 3), (4, .iload_n 1, 1), (5, .iload_n 2, 1), (6, .iload_n 3, 1), (7, .invokevirtual 64, 3), (10, .ireturn, 1)]
def pm_53 : pMeth := (⟨"RateShapes", "convert", "(III)Z"⟩, prog_1_method_6_code, 4, some .boolean, 5, pc_53)
def pc_54 : List (Nat × Instr × Nat) := [(0, .iload_n 1, 1), (1, .invokestatic 32, 3), (4, .ifCond .eq 21, 3), (7, .iload_n 2, 1), (8, .invokestatic 32, 3), (11, .ifCond .eq 14, 3), (14, .iload_n 3, 1), (15, .ifCond .lt 10, 3), (18, .iload_n 3, 1), (19, .sipush 1000, 3), (22, .if_icmp .le 5, 3), (25, .iconst 0, 1), (26, .ireturn, 1), (27, .iload_n 3, 1), (28, .ifCond .le 14, 3), (31, .aload_n 0, 1), (32, .iload_n 2, 1), (33, .iload_n 1, 1), (34, .invokevirtual 36, 3), (37, .ifCond .eq 5, 3), (40, .iconst 0, 1), (41, .ireturn, 1), (42, .aload_n 0, 1), (43, .getfield 15, 3), (46, .iload_n 1, 1), (47, .iload_n 2, 1), (48, .iastore, 1), (49, .aload_n 0, 1), (50, .getfield 19, 3), (53, .iload_n 1, 1), (54, .iload_n 3, 1), (55, .iastore, 1), (56, .iconst 1, 1), (57, .ireturn, 1)]
def pm_54 : pMeth := (⟨"RateShapes$Units", "setConversion", "(III)Z"⟩, prog_5_method_3_code, 4, some .boolean, 3, pc_54)
def pc_55 : List (Nat × Instr × Nat) := [(0, .iload_n 1, 1), (1, .istore_n 3, 1), (2, .iconst 0, 1), (3, .istore 4, 2), (5, .iload 4, 2), (7, .bipush 8, 2), (9, .if_icmp .ge 32, 3), (12, .iload_n 3, 1), (13, .iload_n 2, 1), (14, .if_icmp .eq 27, 3), (17, .aload_n 0, 1), (18, .getfield 19, 3), (21, .iload_n 3, 1), (22, .iaload, 1), (23, .ifCond .ne 5, 3), (26, .iconst 0, 1), (27, .ireturn, 1), (28, .aload_n 0, 1), (29, .getfield 15, 3), (32, .iload_n 3, 1), (33, .iaload, 1), (34, .istore_n 3, 1), (35, .iinc 4 1, 3), (38, .goto (-33), 3), (41, .iload_n 3, 1), (42, .iload_n 2, 1), (43, .if_icmp .ne 7, 3), (46, .iconst 1, 1), (47, .goto 4, 3), (50, .iconst 0, 1), (51, .ireturn, 1)]
def pm_55 : pMeth := (⟨"RateShapes$Units", "leadsTo", "(II)Z"⟩, prog_5_method_5_code, 5, some .boolean, 3, pc_55)
def pc_56 : List (Nat × Instr × Nat) := [(0, .iload_n 1, 1), (1, .ifCond .ge 5, 3), (4, .iconst (-1), 1), (5, .ireturn, 1), (6, .iload_n 1, 1), (7, .istore_n 2, 1), (8, .iconst 0, 1), (9, .istore_n 3, 1), (10, .iload_n 3, 1), (11, .bipush 8, 2), (13, .if_icmp .ge 44, 3), (16, .aload_n 0, 1), (17, .getfield 12, 3), (20, .iload_n 3, 1), (21, .invokevirtual 126, 3), (24, .ifCond .eq 27, 3), (27, .aload_n 0, 1), (28, .getfield 28, 3), (31, .iload_n 3, 1), (32, .invokevirtual 129, 3), (35, .ldc2_w 132, 3), (38, .lcmp, 1), (39, .ifCond .ne 12, 3), (42, .iload_n 2, 1), (43, .ifCond .ne 5, 3), (46, .iload_n 3, 1), (47, .ireturn, 1), (48, .iinc 2 (-1), 3), (51, .iinc 3 1, 3), (54, .goto (-44), 3), (57, .iconst (-1), 1), (58, .ireturn, 1)]
def pm_56 : pMeth := (⟨"RateShapes", "missing", "(I)I"⟩, prog_1_method_11_code, 4, some .int, 5, pc_56)
def pc_57 : List (Nat × Instr × Nat) := [(0, .iconst 0, 1), (1, .istore_n 2, 1), (2, .iload_n 2, 1), (3, .aload_n 0, 1), (4, .getfield 43, 3), (7, .if_icmp .ge 31, 3), (10, .aload_n 0, 1), (11, .getfield 9, 3), (14, .iload_n 2, 1), (15, .iaload, 1), (16, .iconst 2, 1), (17, .if_icmp .ne 15, 3), (20, .aload_n 0, 1), (21, .getfield 18, 3), (24, .iload_n 2, 1), (25, .iaload, 1), (26, .iload_n 1, 1), (27, .if_icmp .ne 5, 3), (30, .iconst 1, 1), (31, .ireturn, 1), (32, .iinc 2 1, 3), (35, .goto (-33), 3), (38, .iconst 0, 1), (39, .ireturn, 1)]
def pm_57 : pMeth := (⟨"RateShapes$Tree", "names", "(I)Z"⟩, prog_4_method_5_code, 3, some .boolean, 2, pc_57)
def pc_58 : List (Nat × Instr × Nat) := [(0, .lconst 1, 1), (1, .lstore_n 2, 1), (2, .iload_n 1, 1), (3, .istore 4, 2), (5, .iconst 0, 1), (6, .istore 5, 2), (8, .iload 5, 2), (10, .bipush 8, 2), (12, .if_icmp .ge 85, 3), (15, .iload 4, 2), (17, .invokestatic 32, 3), (20, .ifCond .ne 7, 3), (23, .ldc2_w 22, 3), (26, .lreturn, 1), (27, .aload_n 0, 1), (28, .getfield 9, 3), (31, .iload 4, 2), (33, .laload, 1), (34, .ldc2_w 22, 3), (37, .lcmp, 1), (38, .ifCond .eq 13, 3), (41, .aload_n 0, 1), (42, .getfield 9, 3), (45, .iload 4, 2), (47, .laload, 1), (48, .lload_n 2, 1), (49, .lmul, 1), (50, .lreturn, 1), (51, .aload_n 0, 1), (52, .getfield 19, 3), (55, .iload 4, 2), (57, .iaload, 1), (58, .ifCond .ne 7, 3), (61, .ldc2_w 22, 3), (64, .lreturn, 1), (65, .lload_n 2, 1), (66, .aload_n 0, 1), (67, .getfield 19, 3), (70, .iload 4, 2), (72, .iaload, 1), (73, .i2l, 1), (74, .lmul, 1), (75, .ldc2_w 40, 3), (78, .invokestatic 42, 3), (81, .lstore_n 2, 1), (82, .aload_n 0, 1), (83, .getfield 15, 3), (86, .iload 4, 2), (88, .iaload, 1), (89, .istore 4, 2), (91, .iinc 5 1, 3), (94, .goto (-86), 3), (97, .ldc2_w 22, 3), (100, .lreturn, 1)]
def pm_58 : pMeth := (⟨"RateShapes$Units", "amountOf", "(I)J"⟩, prog_5_method_4_code, 6, some .long, 3, pc_58)
def pc_59 : List (Nat × Instr × Nat) := [(0, .lload_n 0, 1), (1, .lload_n 2, 1), (2, .lcmp, 1), (3, .ifCond .gt 7, 3), (6, .lload_n 0, 1), (7, .goto 4, 3), (10, .lload_n 2, 1), (11, .lreturn, 1)]
def pm_59 : pMeth := (⟨"java/lang/Math", "min", "(JJ)J"⟩, prog_14_method_70_code, 4, some .long, 14, pc_59)
def pc_60 : List (Nat × Instr × Nat) := [(0, .iload_n 1, 1), (1, .tableswitch 63 0 3 #[31, 39, 47, 55], 31), (32, .aload_n 0, 1), (33, .getfield 21, 3), (36, .getfield 166, 3), (39, .ireturn, 1), (40, .aload_n 0, 1), (41, .getfield 12, 3), (44, .getfield 134, 3), (47, .ireturn, 1), (48, .aload_n 0, 1), (49, .getfield 42, 3), (52, .getfield 147, 3), (55, .ireturn, 1), (56, .aload_n 0, 1), (57, .getfield 12, 3), (60, .getfield 167, 3), (63, .ireturn, 1), (64, .iconst (-1), 1), (65, .ireturn, 1)]
def pm_60 : pMeth := (⟨"RateShapes", "count", "(I)I"⟩, prog_1_method_15_code, 2, some .int, 5, pc_60)
def pc_61 : List (Nat × Instr × Nat) := [(0, .aload_n 2, 1), (1, .iconst 0, 1), (2, .aload_n 0, 1), (3, .iload_n 1, 1), (4, .invokevirtual 7, 3), (7, .lastore, 1), (8, .goto 12, 3), (11, .astore_n 3, 1), (12, .iconst 1, 1), (13, .ireturn, 1), (14, .astore_n 3, 1), (15, .iconst 2, 1), (16, .ireturn, 1), (17, .astore_n 3, 1), (18, .iconst 3, 1), (19, .ireturn, 1), (20, .iconst 0, 1), (21, .ireturn, 1)]
def pm_61 : pMeth := (⟨"RateShapesLaw", "value", "(LRateShapes;I[J)I"⟩, method_3_code, 4, some .int, 12, pc_61)
def pc_62 : List (Nat × Instr × Nat) := [(0, .iload_n 1, 1), (1, .ifCond .eq 18, 3), (4, .iload_n 1, 1), (5, .iconst 1, 1), (6, .if_icmp .eq 13, 3), (9, .new 68, 3), (12, .dup, 1), (13, .ldc 70, 2), (15, .invokespecial 72, 3), (18, .athrow, 1), (19, .aload_n 0, 1), (20, .invokevirtual 75, 3), (23, .lstore_n 2, 1), (24, .lload_n 2, 1), (25, .ldc2_w 79, 3), (28, .invokestatic 81, 3), (31, .lstore 4, 2), (33, .iload_n 1, 1), (34, .ifCond .ne 10, 3), (37, .lload_n 2, 1), (38, .lload 4, 2), (40, .ldiv, 1), (41, .goto 9, 3), (44, .ldc2_w 79, 3), (47, .lload 4, 2), (49, .ldiv, 1), (50, .lreturn, 1)]
def pm_62 : pMeth := (⟨"RateShapes", "value", "(I)J"⟩, prog_1_method_7_code, 6, some .long, 5, pc_62)
def pc_63 : List (Nat × Instr × Nat) := [(0, .aload_n 0, 1), (1, .getfield 12, 3), (4, .getfield 134, 3), (7, .ifCond .ne 13, 3), (10, .new 138, 3), (13, .dup, 1), (14, .ldc 140, 2), (16, .invokespecial 142, 3), (19, .athrow, 1), (20, .lconst 0, 1), (21, .aload_n 0, 1), (22, .iconst 0, 1), (23, .invokevirtual 122, 3), (26, .invokestatic 170, 3), (29, .lreturn, 1)]
def pm_63 : pMeth := (⟨"RateShapes", "rateInMicros", "()J"⟩, prog_1_method_16_code, 1, some .long, 5, pc_63)
def pc_64 : List (Nat × Instr × Nat) := [(0, .aload_n 0, 1), (1, .getfield 35, 3), (4, .aload_n 0, 1), (5, .getfield 12, 3), (8, .aload_n 0, 1), (9, .getfield 28, 3), (12, .aload_n 0, 1), (13, .getfield 46, 3), (16, .invokevirtual 175, 3), (19, .aload_n 0, 1), (20, .getfield 35, 3), (23, .getfield 179, 3), (26, .iload_n 1, 1), (27, .baload, 1), (28, .ifCond .ne 13, 3), (31, .new 183, 3), (34, .dup, 1), (35, .ldc 185, 2), (37, .invokespecial 187, 3), (40, .athrow, 1), (41, .aload_n 0, 1), (42, .getfield 35, 3), (45, .getfield 188, 3), (48, .iload_n 1, 1), (49, .laload, 1), (50, .lreturn, 1)]
def pm_64 : pMeth := (⟨"RateShapes", "nodeInMicros", "(I)J"⟩, prog_1_method_17_code, 2, some .long, 5, pc_64)
def pc_65 : List (Nat × Instr × Nat) := [(0, .aload_n 1, 1), (1, .getfield 19, 3), (4, .iconst 1, 1), (5, .isub, 1), (6, .istore 5, 2), (8, .iload 5, 2), (10, .ifCond .lt 183, 3), (13, .aload_n 0, 1), (14, .getfield 15, 3), (17, .iload 5, 2), (19, .iconst 1, 1), (20, .bastore, 1), (21, .aload_n 1, 1), (22, .getfield 25, 3), (25, .iload 5, 2), (27, .iaload, 1), (28, .tableswitch 132 0 7 #[48, 59, 83, 132, 132, 132, 132, 111], 48), (76, .aload_n 0, 1), (77, .getfield 9, 3), (80, .iload 5, 2), (82, .lconst 0, 1), (83, .lastore, 1), (84, .goto 103, 3), (87, .aload_n 0, 1), (88, .getfield 9, 3), (91, .iload 5, 2), (93, .lload_n 3, 1), (94, .aload_n 1, 1), (95, .getfield 29, 3), (98, .iload 5, 2), (100, .iaload, 1), (101, .i2l, 1), (102, .lmul, 1), (103, .ldc2_w 32, 3), (106, .lmul, 1), (107, .lastore, 1), (108, .goto 79, 3), (111, .aload_n 0, 1), (112, .iload 5, 2), (114, .aload_n 1, 1), (115, .getfield 29, 3), (118, .iload 5, 2), (120, .iaload, 1), (121, .i2l, 1), (122, .aload_n 2, 1), (123, .aload_n 1, 1), (124, .getfield 34, 3), (127, .iload 5, 2), (129, .iaload, 1), (130, .invokevirtual 37, 3), (133, .invokevirtual 43, 3), (136, .goto 51, 3), (139, .aload_n 0, 1), (140, .getfield 9, 3), (143, .iload 5, 2), (145, .aload_n 1, 1), (146, .iload 5, 2), (148, .lload_n 3, 1), (149, .invokestatic 47, 3), (152, .ldc2_w 51, 3), (155, .lmul, 1), (156, .lastore, 1), (157, .goto 30, 3), (160, .aload_n 0, 1), (161, .iload 5, 2), (163, .aload_n 1, 1), (164, .getfield 25, 3), (167, .iload 5, 2), (169, .iaload, 1), (170, .aload_n 1, 1), (171, .getfield 53, 3), (174, .iload 5, 2), (176, .iaload, 1), (177, .aload_n 1, 1), (178, .getfield 56, 3), (181, .iload 5, 2), (183, .iaload, 1), (184, .invokevirtual 59, 3), (187, .iinc 5 (-1), 3), (190, .goto (-182), 3), (193, .return_, 1)]
def pm_65 : pMeth := (⟨"RateShapes$Values", "workOut", "(LRateShapes$Tree;LRateShapes$Units;J)V"⟩, prog_6_method_2_code, 6, none, 4, pc_65)
def pc_66 : List (Nat × Instr × Nat) := [(0, .aload_n 0, 1), (1, .getfield 15, 3), (4, .iload_n 1, 1), (5, .lload 4, 2), (7, .lconst 0, 1), (8, .lcmp, 1), (9, .ifCond .lt 16, 3), (12, .lload 4, 2), (14, .ldc2_w 63, 3), (17, .lcmp, 1), (18, .ifCond .gt 7, 3), (21, .iconst 1, 1), (22, .goto 4, 3), (25, .iconst 0, 1), (26, .bastore, 1), (27, .aload_n 0, 1), (28, .getfield 9, 3), (31, .iload_n 1, 1), (32, .aload_n 0, 1), (33, .getfield 15, 3), (36, .iload_n 1, 1), (37, .baload, 1), (38, .ifCond .eq 10, 3), (41, .lload_n 2, 1), (42, .lload 4, 2), (44, .lmul, 1), (45, .goto 4, 3), (48, .lconst 0, 1), (49, .lastore, 1), (50, .return_, 1)]
def pm_66 : pMeth := (⟨"RateShapes$Values", "workOutUnits", "(IJJ)V"⟩, prog_6_method_3_code, 6, none, 4, pc_66)
def pc_67 : List (Nat × Instr × Nat) := [(0, .aload_n 0, 1), (1, .getfield 74, 3), (4, .iload_n 1, 1), (5, .iaload, 1), (6, .istore 4, 2), (8, .iload 4, 2), (10, .aload_n 0, 1), (11, .getfield 77, 3), (14, .iload_n 1, 1), (15, .iaload, 1), (16, .iadd, 1), (17, .istore 5, 2), (19, .aload_n 0, 1), (20, .getfield 29, 3), (23, .iload_n 1, 1), (24, .iaload, 1), (25, .i2l, 1), (26, .lstore 6, 2), (28, .lconst 0, 1), (29, .lstore 8, 2), (31, .iload 4, 2), (33, .istore 10, 2), (35, .iload 10, 2), (37, .iload 5, 2), (39, .if_icmp .ge 53, 3), (42, .iload 10, 2), (44, .sipush 300, 3), (47, .if_icmp .ge 45, 3), (50, .lload_n 2, 1), (51, .lconst 0, 1), (52, .lcmp, 1), (53, .ifCond .eq 23, 3), (56, .aload_n 0, 1), (57, .getfield 80, 3), (60, .iload 10, 2), (62, .iaload, 1), (63, .i2l, 1), (64, .lload 6, 2), (66, .ldc2_w 83, 3), (69, .lmul, 1), (70, .lload_n 2, 1), (71, .ldiv, 1), (72, .lcmp, 1), (73, .ifCond .gt 13, 3), (76, .aload_n 0, 1), (77, .getfield 85, 3), (80, .iload 10, 2), (82, .iaload, 1), (83, .i2l, 1), (84, .lstore 8, 2), (86, .iinc 10 1, 3), (89, .goto (-54), 3), (92, .lload 8, 2), (94, .lreturn, 1)]
def pm_67 : pMeth := (⟨"RateShapes$Values", "centsOfSteps", "(LRateShapes$Tree;IJ)J"⟩, prog_6_method_5_code, 11, some .long, 4, pc_67)
def pc_68 : List (Nat × Instr × Nat) := [(0, .iload_n 3, 1), (1, .iload_n 1, 1), (2, .if_icmp .le 22, 3), (5, .iload_n 3, 1), (6, .bipush 60, 2), (8, .if_icmp .ge 16, 3), (11, .iload 4, 2), (13, .iload_n 1, 1), (14, .if_icmp .le 10, 3), (17, .iload 4, 2), (19, .bipush 60, 2), (21, .if_icmp .lt 11, 3), (24, .aload_n 0, 1), (25, .getfield 15, 3), (28, .iload_n 1, 1), (29, .iconst 0, 1), (30, .bastore, 1), (31, .return_, 1), (32, .aload_n 0, 1), (33, .getfield 9, 3), (36, .iload_n 3, 1), (37, .laload, 1), (38, .lstore 5, 2), (40, .aload_n 0, 1), (41, .getfield 9, 3), (44, .iload 4, 2), (46, .laload, 1), (47, .lstore 7, 2), (49, .aload_n 0, 1), (50, .getfield 15, 3), (53, .iload_n 1, 1), (54, .aload_n 0, 1), (55, .getfield 15, 3), (58, .iload_n 3, 1), (59, .baload, 1), (60, .ifCond .eq 17, 3), (63, .aload_n 0, 1), (64, .getfield 15, 3), (67, .iload 4, 2), (69, .baload, 1), (70, .ifCond .eq 7, 3), (73, .iconst 1, 1), (74, .goto 4, 3), (77, .iconst 0, 1), (78, .bastore, 1), (79, .iload_n 2, 1), (80, .tableswitch 72 3 5 #[28, 42, 56], 28), (108, .aload_n 0, 1), (109, .getfield 9, 3), (112, .iload_n 1, 1), (113, .lload 5, 2), (115, .lload 7, 2), (117, .ladd, 1), (118, .lastore, 1), (119, .goto 46, 3), (122, .aload_n 0, 1), (123, .getfield 9, 3), (126, .iload_n 1, 1), (127, .lload 5, 2), (129, .lload 7, 2), (131, .lsub, 1), (132, .lastore, 1), (133, .goto 32, 3), (136, .aload_n 0, 1), (137, .getfield 9, 3), (140, .iload_n 1, 1), (141, .lload 5, 2), (143, .lload 7, 2), (145, .invokestatic 65, 3), (148, .lastore, 1), (149, .goto 16, 3), (152, .aload_n 0, 1), (153, .getfield 9, 3), (156, .iload_n 1, 1), (157, .lload 5, 2), (159, .lload 7, 2), (161, .invokestatic 71, 3), (164, .lastore, 1), (165, .return_, 1)]
def pm_68 : pMeth := (⟨"RateShapes$Values", "workOutSides", "(IIII)V"⟩, prog_6_method_4_code, 9, none, 4, pc_68)
def pc_69 : List (Nat × Instr × Nat) := [(0, .lload_n 0, 1), (1, .lload_n 2, 1), (2, .lcmp, 1), (3, .ifCond .lt 7, 3), (6, .lload_n 0, 1), (7, .goto 4, 3), (10, .lload_n 2, 1), (11, .lreturn, 1)]
def pm_69 : pMeth := (⟨"java/lang/Math", "max", "(JJ)J"⟩, prog_14_method_66_code, 4, some .long, 14, pc_69)
def pc_70 : List (Nat × Instr × Nat) := [(0, .lload_n 0, 1), (1, .lstore 4, 2), (3, .lload_n 2, 1), (4, .lstore 6, 2), (6, .iconst 0, 1), (7, .istore 8, 2), (9, .iload 8, 2), (11, .bipush 100, 2), (13, .if_icmp .ge 31, 3), (16, .lload 6, 2), (18, .lconst 0, 1), (19, .lcmp, 1), (20, .ifCond .eq 24, 3), (23, .lload 4, 2), (25, .lload 6, 2), (27, .lrem, 1), (28, .lstore 9, 2), (30, .lload 6, 2), (32, .lstore 4, 2), (34, .lload 9, 2), (36, .lstore 6, 2), (38, .iinc 8 1, 3), (41, .goto (-32), 3), (44, .lload 4, 2), (46, .lconst 0, 1), (47, .lcmp, 1), (48, .ifCond .le 8, 3), (51, .lload 4, 2), (53, .goto 4, 3), (56, .lconst 1, 1), (57, .lreturn, 1)]
def pm_70 : pMeth := (⟨"RateShapes", "commonDivisor", "(JJ)J"⟩, prog_1_method_18_code, 11, some .long, 5, pc_70)
def pc_71 : List (Nat × Instr × Nat) := [(0, .aload_n 2, 1), (1, .iconst 0, 1), (2, .aload_n 0, 1), (3, .iload_n 1, 1), (4, .invokevirtual 19, 3), (7, .lastore, 1), (8, .goto 12, 3), (11, .astore_n 3, 1), (12, .iconst 1, 1), (13, .ireturn, 1), (14, .astore_n 3, 1), (15, .iconst 2, 1), (16, .ireturn, 1), (17, .astore_n 3, 1), (18, .iconst 3, 1), (19, .ireturn, 1), (20, .iconst 0, 1), (21, .ireturn, 1)]
def pm_71 : pMeth := (⟨"RateShapesLaw", "cents", "(LRateShapes;I[J)I"⟩, method_4_code, 4, some .int, 12, pc_71)
def pc_72 : List (Nat × Instr × Nat) := [(0, .iload_n 1, 1), (1, .ifCond .lt 8, 3), (4, .iload_n 1, 1), (5, .iconst 3, 1), (6, .if_icmp .le 13, 3), (9, .new 68, 3), (12, .dup, 1), (13, .ldc 85, 2), (15, .invokespecial 72, 3), (18, .athrow, 1), (19, .aload_n 0, 1), (20, .invokevirtual 75, 3), (23, .lstore_n 2, 1), (24, .iload_n 1, 1), (25, .tableswitch 55 0 2 #[27, 33, 43], 27), (52, .lload_n 2, 1), (53, .ldc2_w 79, 3), (56, .ldiv, 1), (57, .lreturn, 1), (58, .lload_n 2, 1), (59, .ldc2_w 87, 3), (62, .ladd, 1), (63, .ldc2_w 79, 3), (66, .ldiv, 1), (67, .lreturn, 1), (68, .lload_n 2, 1), (69, .ldc2_w 79, 3), (72, .ladd, 1), (73, .lconst 1, 1), (74, .lsub, 1), (75, .ldc2_w 79, 3), (78, .ldiv, 1), (79, .lreturn, 1), (80, .lload_n 2, 1), (81, .ldc2_w 89, 3), (84, .ldiv, 1), (85, .ldc2_w 91, 3), (88, .lmul, 1), (89, .lreturn, 1)]
def pm_72 : pMeth := (⟨"RateShapes", "cents", "(I)J"⟩, prog_1_method_8_code, 4, some .long, 5, pc_72)
def pc_73 : List (Nat × Instr × Nat) := [(0, .aload_n 3, 1), (1, .iconst 0, 1), (2, .aload_n 0, 1), (3, .iload_n 1, 1), (4, .iload_n 2, 1), (5, .invokevirtual 22, 3), (8, .i2l, 1), (9, .lastore, 1), (10, .goto 7, 3), (13, .astore 4, 2), (15, .iconst 1, 1), (16, .ireturn, 1), (17, .iconst 0, 1), (18, .ireturn, 1)]
def pm_73 : pMeth := (⟨"RateShapesLaw", "node", "(LRateShapes;II[J)I"⟩, method_5_code, 5, some .int, 12, pc_73)
def pc_74 : List (Nat × Instr × Nat) := [(0, .aload_n 0, 1), (1, .getfield 12, 3), (4, .iload_n 1, 1), (5, .invokevirtual 93, 3), (8, .ifCond .ne 13, 3), (11, .new 96, 3), (14, .dup, 1), (15, .ldc 98, 2), (17, .invokespecial 100, 3), (20, .athrow, 1), (21, .iload_n 2, 1), (22, .tableswitch 98 0 5 #[38, 48, 58, 68, 78, 88], 38), (60, .aload_n 0, 1), (61, .getfield 12, 3), (64, .getfield 101, 3), (67, .iload_n 1, 1), (68, .iaload, 1), (69, .ireturn, 1), (70, .aload_n 0, 1), (71, .getfield 12, 3), (74, .getfield 105, 3), (77, .iload_n 1, 1), (78, .iaload, 1), (79, .ireturn, 1), (80, .aload_n 0, 1), (81, .getfield 12, 3), (84, .getfield 108, 3), (87, .iload_n 1, 1), (88, .iaload, 1), (89, .ireturn, 1), (90, .aload_n 0, 1), (91, .getfield 12, 3), (94, .getfield 111, 3), (97, .iload_n 1, 1), (98, .iaload, 1), (99, .ireturn, 1), (100, .aload_n 0, 1), (101, .getfield 12, 3), (104, .getfield 114, 3), (107, .iload_n 1, 1), (108, .iaload, 1), (109, .ireturn, 1), (110, .aload_n 0, 1), (111, .getfield 12, 3), (114, .getfield 117, 3), (117, .iload_n 1, 1), (118, .iaload, 1), (119, .ireturn, 1), (120, .new 96, 3), (123, .dup, 1), (124, .ldc 120, 2), (126, .invokespecial 100, 3), (129, .athrow, 1)]
def pm_74 : pMeth := (⟨"RateShapes", "node", "(II)I"⟩, prog_1_method_9_code, 3, some .int, 5, pc_74)
def pc_75 : List (Nat × Instr × Nat) := [(0, .aload_n 2, 1), (1, .iconst 0, 1), (2, .aload_n 0, 1), (3, .iload_n 1, 1), (4, .invokevirtual 28, 3), (7, .lastore, 1), (8, .goto 9, 3), (11, .astore_n 3, 1), (12, .iconst 1, 1), (13, .ireturn, 1), (14, .astore_n 3, 1), (15, .iconst 2, 1), (16, .ireturn, 1), (17, .iconst 0, 1), (18, .ireturn, 1)]
def pm_75 : pMeth := (⟨"RateShapesLaw", "part", "(LRateShapes;I[J)I"⟩, method_6_code, 4, some .int, 12, pc_75)
def pc_76 : List (Nat × Instr × Nat) := [(0, .aload_n 0, 1), (1, .getfield 12, 3), (4, .iload_n 1, 1), (5, .invokevirtual 93, 3), (8, .ifCond .ne 13, 3), (11, .new 96, 3), (14, .dup, 1), (15, .ldc 98, 2), (17, .invokespecial 100, 3), (20, .athrow, 1), (21, .aload_n 0, 1), (22, .iload_n 1, 1), (23, .invokevirtual 122, 3), (26, .lreturn, 1)]
def pm_76 : pMeth := (⟨"RateShapes", "part", "(I)J"⟩, prog_1_method_10_code, 2, some .long, 5, pc_76)
def pc_77 : List (Nat × Instr × Nat) := [(0, .aload_n 1, 1), (1, .iconst 0, 1), (2, .aload_n 0, 1), (3, .invokevirtual 31, 3), (6, .i2l, 1), (7, .lastore, 1), (8, .goto 6, 3), (11, .astore_n 2, 1), (12, .iconst 1, 1), (13, .ireturn, 1), (14, .iconst 0, 1), (15, .ireturn, 1)]
def pm_77 : pMeth := (⟨"RateShapesLaw", "print", "(LRateShapes;[J)I"⟩, method_7_code, 3, some .int, 12, pc_77)
def pc_78 : List (Nat × Instr × Nat) := [(0, .aload_n 0, 1), (1, .getfield 12, 3), (4, .getfield 134, 3), (7, .ifCond .ne 13, 3), (10, .new 138, 3), (13, .dup, 1), (14, .ldc 140, 2), (16, .invokespecial 142, 3), (19, .athrow, 1), (20, .aload_n 0, 1), (21, .getfield 42, 3), (24, .aload_n 0, 1), (25, .getfield 12, 3), (28, .invokevirtual 143, 3), (31, .ireturn, 1)]
def pm_78 : pMeth := (⟨"RateShapes", "print", "()I"⟩, prog_1_method_12_code, 1, some .int, 5, pc_78)
def pc_79 : List (Nat × Instr × Nat) := [(0, .aload_n 0, 1), (1, .iconst 0, 1), (2, .putfield 15, 3), (5, .aload_n 0, 1), (6, .aload_n 1, 1), (7, .iconst 0, 1), (8, .iconst 0, 1), (9, .invokevirtual 19, 3), (12, .aload_n 0, 1), (13, .getfield 15, 3), (16, .ireturn, 1)]
def pm_79 : pMeth := (⟨"RateShapes$Printer", "printTree", "(LRateShapes$Tree;)I"⟩, prog_2_method_2_code, 2, some .int, 0, pc_79)
def pc_80 : List (Nat × Instr × Nat) := [(0, .aload_n 1, 1), (1, .iload_n 2, 1), (2, .invokevirtual 23, 3), (5, .ifCond .eq 9, 3), (8, .iload_n 3, 1), (9, .bipush 60, 2), (11, .if_icmp .lt 4, 3), (14, .return_, 1), (15, .aload_n 1, 1), (16, .getfield 29, 3), (19, .iload_n 2, 1), (20, .iaload, 1), (21, .tableswitch 151 0 6 #[43, 52, 71, 103, 115, 127, 139], 43), (64, .aload_n 0, 1), (65, .ldc 32, 2), (67, .invokevirtual 34, 3), (70, .goto 108, 3), (73, .aload_n 0, 1), (74, .aload_n 1, 1), (75, .getfield 38, 3), (78, .iload_n 2, 1), (79, .iaload, 1), (80, .invokevirtual 41, 3), (83, .aload_n 0, 1), (84, .bipush 37, 2), (86, .invokevirtual 45, 3), (89, .goto 89, 3), (92, .aload_n 0, 1), (93, .aload_n 1, 1), (94, .getfield 38, 3), (97, .iload_n 2, 1), (98, .iaload, 1), (99, .invokevirtual 41, 3), (102, .aload_n 0, 1), (103, .bipush 47, 2), (105, .invokevirtual 45, 3), (108, .aload_n 0, 1), (109, .bipush 65, 2), (111, .aload_n 1, 1), (112, .getfield 48, 3), (115, .iload_n 2, 1), (116, .iaload, 1), (117, .iadd, 1), (118, .invokevirtual 45, 3), (121, .goto 57, 3), (124, .aload_n 0, 1), (125, .aload_n 1, 1), (126, .iload_n 2, 1), (127, .ldc 51, 2), (129, .iload_n 3, 1), (130, .invokevirtual 53, 3), (133, .goto 45, 3), (136, .aload_n 0, 1), (137, .aload_n 1, 1), (138, .iload_n 2, 1), (139, .ldc 57, 2), (141, .iload_n 3, 1), (142, .invokevirtual 53, 3), (145, .goto 33, 3), (148, .aload_n 0, 1), (149, .aload_n 1, 1), (150, .iload_n 2, 1), (151, .ldc 59, 2), (153, .iload_n 3, 1), (154, .invokevirtual 61, 3), (157, .goto 21, 3), (160, .aload_n 0, 1), (161, .aload_n 1, 1), (162, .iload_n 2, 1), (163, .ldc 64, 2), (165, .iload_n 3, 1), (166, .invokevirtual 61, 3), (169, .goto 9, 3), (172, .aload_n 0, 1), (173, .aload_n 1, 1), (174, .iload_n 2, 1), (175, .invokevirtual 66, 3), (178, .return_, 1)]
def pm_80 : pMeth := (⟨"RateShapes$Printer", "putNode", "(LRateShapes$Tree;II)V"⟩, prog_2_method_3_code, 4, none, 0, pc_80)
def pc_81 : List (Nat × Instr × Nat) := [(0, .iconst 0, 1), (1, .istore_n 2, 1), (2, .iload_n 2, 1), (3, .aload_n 1, 1), (4, .invokevirtual 98, 3), (7, .if_icmp .ge 18, 3), (10, .aload_n 0, 1), (11, .aload_n 1, 1), (12, .iload_n 2, 1), (13, .invokevirtual 103, 3), (16, .invokevirtual 45, 3), (19, .iinc 2 1, 3), (22, .goto (-20), 3), (25, .return_, 1)]
def pm_81 : pMeth := (⟨"RateShapes$Printer", "putText", "(Ljava/lang/String;)V"⟩, prog_2_method_9_code, 3, none, 0, pc_81)
def pc_82 : List (Nat × Instr × Nat) := [(0, .aload_n 0, 1), (1, .getfield 15, 3), (4, .sipush 900, 3), (7, .if_icmp .ge 23, 3), (10, .aload_n 0, 1), (11, .getfield 9, 3), (14, .aload_n 0, 1), (15, .getfield 15, 3), (18, .iload_n 1, 1), (19, .iastore, 1), (20, .aload_n 0, 1), (21, .dup, 1), (22, .getfield 15, 3), (25, .iconst 1, 1), (26, .iadd, 1), (27, .putfield 15, 3), (30, .return_, 1)]
def pm_82 : pMeth := (⟨"RateShapes$Printer", "putSign", "(I)V"⟩, prog_2_method_10_code, 2, none, 0, pc_82)
def pc_83 : List (Nat × Instr × Nat) := [(0, .aload_n 0, 1), (1, .iload_n 1, 1), (2, .sipush 1000, 3), (5, .idiv, 1), (6, .invokevirtual 80, 3), (9, .iload_n 1, 1), (10, .sipush 1000, 3), (13, .irem, 1), (14, .istore_n 2, 1), (15, .iload_n 2, 1), (16, .ifCond .ne 4, 3), (19, .return_, 1), (20, .aload_n 0, 1), (21, .bipush 46, 2), (23, .invokevirtual 45, 3), (26, .iconst 0, 1), (27, .istore_n 3, 1), (28, .iload_n 3, 1), (29, .iconst 3, 1), (30, .if_icmp .ge 32, 3), (33, .iload_n 2, 1), (34, .ifCond .eq 28, 3), (37, .aload_n 0, 1), (38, .bipush 48, 2), (40, .iload_n 2, 1), (41, .bipush 100, 2), (43, .idiv, 1), (44, .iadd, 1), (45, .invokevirtual 45, 3), (48, .iload_n 2, 1), (49, .bipush 100, 2), (51, .irem, 1), (52, .bipush 10, 2), (54, .imul, 1), (55, .istore_n 2, 1), (56, .iinc 3 1, 3), (59, .goto (-31), 3), (62, .return_, 1)]
def pm_83 : pMeth := (⟨"RateShapes$Printer", "putNumber", "(I)V"⟩, prog_2_method_7_code, 4, none, 0, pc_83)
def pc_84 : List (Nat × Instr × Nat) := [(0, .ldc 97, 2), (2, .istore_n 2, 1), (3, .iload_n 2, 1), (4, .iconst 1, 1), (5, .if_icmp .lt 34, 3), (8, .iload_n 1, 1), (9, .iload_n 2, 1), (10, .if_icmp .ge 8, 3), (13, .iload_n 2, 1), (14, .iconst 1, 1), (15, .if_icmp .ne 16, 3), (18, .aload_n 0, 1), (19, .bipush 48, 2), (21, .iload_n 1, 1), (22, .iload_n 2, 1), (23, .idiv, 1), (24, .bipush 10, 2), (26, .irem, 1), (27, .iadd, 1), (28, .invokevirtual 45, 3), (31, .iload_n 2, 1), (32, .bipush 10, 2), (34, .idiv, 1), (35, .istore_n 2, 1), (36, .goto (-33), 3), (39, .return_, 1)]
def pm_84 : pMeth := (⟨"RateShapes$Printer", "putWhole", "(I)V"⟩, prog_2_method_8_code, 3, none, 0, pc_84)
def pc_85 : List (Nat × Instr × Nat) := [(0, .aload_n 0, 1), (1, .aload_n 1, 1), (2, .aload_n 1, 1), (3, .getfield 70, 3), (6, .iload_n 2, 1), (7, .iaload, 1), (8, .iload 4, 2), (10, .iconst 1, 1), (11, .iadd, 1), (12, .invokevirtual 19, 3), (15, .aload_n 0, 1), (16, .aload_n 3, 1), (17, .invokevirtual 34, 3), (20, .aload_n 1, 1), (21, .getfield 73, 3), (24, .iload_n 2, 1), (25, .iaload, 1), (26, .istore 5, 2), (28, .aload_n 1, 1), (29, .iload 5, 2), (31, .invokevirtual 23, 3), (34, .ifCond .eq 29, 3), (37, .aload_n 1, 1), (38, .getfield 29, 3), (41, .iload 5, 2), (43, .iaload, 1), (44, .iconst 3, 1), (45, .if_icmp .eq 14, 3), (48, .aload_n 1, 1), (49, .getfield 29, 3), (52, .iload 5, 2), (54, .iaload, 1), (55, .iconst 4, 1), (56, .if_icmp .ne 7, 3), (59, .iconst 1, 1), (60, .goto 4, 3), (63, .iconst 0, 1), (64, .istore 6, 2), (66, .iload 6, 2), (68, .ifCond .eq 9, 3), (71, .aload_n 0, 1), (72, .bipush 40, 2), (74, .invokevirtual 45, 3), (77, .aload_n 0, 1), (78, .aload_n 1, 1), (79, .iload 5, 2), (81, .iload 4, 2), (83, .iconst 1, 1), (84, .iadd, 1), (85, .invokevirtual 19, 3), (88, .iload 6, 2), (90, .ifCond .eq 9, 3), (93, .aload_n 0, 1), (94, .bipush 41, 2), (96, .invokevirtual 45, 3), (99, .return_, 1)]
def pm_85 : pMeth := (⟨"RateShapes$Printer", "putSides", "(LRateShapes$Tree;ILjava/lang/String;I)V"⟩, prog_2_method_4_code, 7, none, 0, pc_85)
def pc_86 : List (Nat × Instr × Nat) := [(0, .aload_n 0, 1), (1, .aload_n 3, 1), (2, .invokevirtual 34, 3), (5, .aload_n 0, 1), (6, .aload_n 1, 1), (7, .aload_n 1, 1), (8, .getfield 70, 3), (11, .iload_n 2, 1), (12, .iaload, 1), (13, .iload 4, 2), (15, .iconst 1, 1), (16, .iadd, 1), (17, .invokevirtual 19, 3), (20, .aload_n 0, 1), (21, .ldc 76, 2), (23, .invokevirtual 34, 3), (26, .aload_n 0, 1), (27, .aload_n 1, 1), (28, .aload_n 1, 1), (29, .getfield 73, 3), (32, .iload_n 2, 1), (33, .iaload, 1), (34, .iload 4, 2), (36, .iconst 1, 1), (37, .iadd, 1), (38, .invokevirtual 19, 3), (41, .aload_n 0, 1), (42, .bipush 41, 2), (44, .invokevirtual 45, 3), (47, .return_, 1)]
def pm_86 : pMeth := (⟨"RateShapes$Printer", "putTwoRates", "(LRateShapes$Tree;ILjava/lang/String;I)V"⟩, prog_2_method_5_code, 5, none, 0, pc_86)
def pc_87 : List (Nat × Instr × Nat) := [(0, .aload_n 0, 1), (1, .ldc 78, 2), (3, .invokevirtual 34, 3), (6, .aload_n 0, 1), (7, .aload_n 1, 1), (8, .getfield 38, 3), (11, .iload_n 2, 1), (12, .iaload, 1), (13, .invokevirtual 80, 3), (16, .aload_n 1, 1), (17, .getfield 83, 3), (20, .iload_n 2, 1), (21, .iaload, 1), (22, .istore_n 3, 1), (23, .iload_n 3, 1), (24, .aload_n 1, 1), (25, .getfield 86, 3), (28, .iload_n 2, 1), (29, .iaload, 1), (30, .iadd, 1), (31, .istore 4, 2), (33, .iload_n 3, 1), (34, .istore 5, 2), (36, .iload 5, 2), (38, .iload 4, 2), (40, .if_icmp .ge 62, 3), (43, .iload 5, 2), (45, .sipush 300, 3), (48, .if_icmp .ge 54, 3), (51, .aload_n 0, 1), (52, .iload 5, 2), (54, .iload_n 3, 1), (55, .if_icmp .ne 8, 3), (58, .ldc 89, 2), (60, .goto 5, 3), (63, .ldc 76, 2), (65, .invokevirtual 34, 3), (68, .aload_n 0, 1), (69, .aload_n 1, 1), (70, .getfield 91, 3), (73, .iload 5, 2), (75, .iaload, 1), (76, .invokevirtual 80, 3), (79, .aload_n 0, 1), (80, .bipush 61, 2), (82, .invokevirtual 45, 3), (85, .aload_n 0, 1), (86, .aload_n 1, 1), (87, .getfield 94, 3), (90, .iload 5, 2), (92, .iaload, 1), (93, .invokevirtual 80, 3), (96, .iinc 5 1, 3), (99, .goto (-63), 3), (102, .aload_n 0, 1), (103, .bipush 41, 2), (105, .invokevirtual 45, 3), (108, .return_, 1)]
def pm_87 : pMeth := (⟨"RateShapes$Printer", "putSteps", "(LRateShapes$Tree;I)V"⟩, prog_2_method_6_code, 6, none, 0, pc_87)
def pc_88 : List (Nat × Instr × Nat) := [(0, .aload_n 2, 1), (1, .iconst 0, 1), (2, .aload_n 0, 1), (3, .iload_n 1, 1), (4, .invokevirtual 35, 3), (7, .i2l, 1), (8, .lastore, 1), (9, .goto 6, 3), (12, .astore_n 3, 1), (13, .iconst 1, 1), (14, .ireturn, 1), (15, .iconst 0, 1), (16, .ireturn, 1)]
def pm_88 : pMeth := (⟨"RateShapesLaw", "at", "(LRateShapes;I[J)I"⟩, method_8_code, 4, some .int, 12, pc_88)
def pc_89 : List (Nat × Instr × Nat) := [(0, .iload_n 1, 1), (1, .ifCond .lt 14, 3), (4, .iload_n 1, 1), (5, .aload_n 0, 1), (6, .getfield 42, 3), (9, .getfield 147, 3), (12, .if_icmp .lt 13, 3), (15, .new 96, 3), (18, .dup, 1), (19, .ldc 150, 2), (21, .invokespecial 100, 3), (24, .athrow, 1), (25, .aload_n 0, 1), (26, .getfield 42, 3), (29, .getfield 152, 3), (32, .iload_n 1, 1), (33, .iaload, 1), (34, .ireturn, 1)]
def pm_89 : pMeth := (⟨"RateShapes", "at", "(I)I"⟩, prog_1_method_13_code, 2, some .int, 5, pc_89)
def pc_90 : List (Nat × Instr × Nat) := [(0, .aload 5, 2), (2, .iconst 0, 1), (3, .aload_n 0, 1), (4, .lload_n 1, 1), (5, .lload_n 3, 1), (6, .invokevirtual 39, 3), (9, .lastore, 1), (10, .goto 11, 3), (13, .astore 6, 2), (15, .iconst 1, 1), (16, .ireturn, 1), (17, .astore 6, 2), (19, .iconst 2, 1), (20, .ireturn, 1), (21, .iconst 0, 1), (22, .ireturn, 1)]
def pm_90 : pMeth := (⟨"RateShapesLaw", "step", "(LRateShapes;JJ[J)I"⟩, method_9_code, 7, some .int, 12, pc_90)
def pc_91 : List (Nat × Instr × Nat) := [(0, .lload_n 1, 1), (1, .lconst 0, 1), (2, .lcmp, 1), (3, .ifCond .lt 25, 3), (6, .lload_n 1, 1), (7, .ldc2_w 155, 3), (10, .lcmp, 1), (11, .ifCond .gt 17, 3), (14, .lload_n 3, 1), (15, .lconst 0, 1), (16, .lcmp, 1), (17, .ifCond .lt 11, 3), (20, .lload_n 3, 1), (21, .ldc2_w 155, 3), (24, .lcmp, 1), (25, .ifCond .le 13, 3), (28, .new 68, 3), (31, .dup, 1), (32, .ldc 157, 2), (34, .invokespecial 72, 3), (37, .athrow, 1), (38, .lload_n 3, 1), (39, .lconst 0, 1), (40, .lcmp, 1), (41, .ifCond .ne 13, 3), (44, .new 159, 3), (47, .dup, 1), (48, .ldc 161, 2), (50, .invokespecial 163, 3), (53, .athrow, 1), (54, .lload_n 1, 1), (55, .ldc2_w 164, 3), (58, .lmul, 1), (59, .lload_n 3, 1), (60, .ldiv, 1), (61, .lreturn, 1)]
def pm_91 : pMeth := (⟨"RateShapes", "step", "(JJ)J"⟩, prog_1_method_14_code, 5, some .long, 5, pc_91)
def pc_92 : List (Nat × Instr × Nat) := [(0, .aload_n 0, 1), (1, .invokespecial 1, 3), (4, .aload_n 0, 1), (5, .sipush 300, 3), (8, .newarray .int, 2), (10, .putfield 7, 3), (13, .aload_n 0, 1), (14, .bipush 120, 2), (16, .newarray .int, 2), (18, .putfield 13, 3), (21, .aload_n 0, 1), (22, .bipush 120, 2), (24, .newarray .int, 2), (26, .putfield 16, 3), (29, .aload_n 0, 1), (30, .bipush 120, 2), (32, .newarray .int, 2), (34, .putfield 19, 3), (37, .aload_n 0, 1), (38, .bipush 120, 2), (40, .newarray .int, 2), (42, .putfield 22, 3), (45, .aload_n 0, 1), (46, .bipush 120, 2), (48, .newarray .int, 2), (50, .putfield 25, 3), (53, .aload_n 0, 1), (54, .bipush 120, 2), (56, .newarray .int, 2), (58, .putfield 28, 3), (61, .aload_n 0, 1), (62, .sipush 720, 3), (65, .newarray .int, 2), (67, .putfield 31, 3), (70, .aload_n 0, 1), (71, .sipush 720, 3), (74, .newarray .int, 2), (76, .putfield 34, 3), (79, .aload_n 0, 1), (80, .bipush 14, 2), (82, .newarray .int, 2), (84, .putfield 37, 3), (87, .aload_n 0, 1), (88, .bipush 14, 2), (90, .newarray .int, 2), (92, .putfield 40, 3), (95, .aload_n 0, 1), (96, .bipush 14, 2), (98, .newarray .int, 2), (100, .putfield 43, 3), (103, .aload_n 0, 1), (104, .bipush 14, 2), (106, .newarray .int, 2), (108, .putfield 46, 3), (111, .aload_n 0, 1), (112, .sipush 300, 3), (115, .newarray .int, 2), (117, .putfield 49, 3), (120, .aload_n 0, 1), (121, .bipush 60, 2), (123, .newarray .int, 2), (125, .putfield 52, 3), (128, .aload_n 0, 1), (129, .bipush 8, 2), (131, .newarray .long, 2), (133, .putfield 55, 3), (136, .aload_n 0, 1), (137, .bipush 8, 2), (139, .newarray .int, 2), (141, .putfield 59, 3), (144, .aload_n 0, 1), (145, .bipush 8, 2), (147, .newarray .int, 2), (149, .putfield 62, 3), (152, .aload_n 0, 1), (153, .bipush 60, 2), (155, .newarray .long, 2), (157, .putfield 65, 3), (160, .aload_n 0, 1), (161, .sipush 3000, 3), (164, .newarray .int, 2), (166, .putfield 68, 3), (169, .iconst 0, 1), (170, .istore_n 1, 1), (171, .iload_n 1, 1), (172, .bipush 8, 2), (174, .if_icmp .ge 18, 3), (177, .aload_n 0, 1), (178, .getfield 55, 3), (181, .iload_n 1, 1), (182, .ldc2_w 71, 3), (185, .lastore, 1), (186, .iinc 1 1, 3), (189, .goto (-18), 3), (192, .return_, 1)]
def pm_92 : pMeth := (⟨"RateShapesModel", "<init>", "()V"⟩, prog_8_method_1_code, 2, none, 6, pc_92)
def pc_93 : List (Nat × Instr × Nat) := [(0, .aload_n 0, 1), (1, .getfield 73, 3), (4, .ireturn, 1)]
def pm_93 : pMeth := (⟨"RateShapesModel", "thrown", "()I"⟩, prog_8_method_2_code, 1, some .int, 6, pc_93)
def pc_94 : List (Nat × Instr × Nat) := [(0, .aload_n 0, 1), (1, .iconst 0, 1), (2, .putfield 73, 3), (5, .iload_n 1, 1), (6, .bipush 32, 2), (8, .if_icmp .lt 19, 3), (11, .iload_n 1, 1), (12, .bipush 126, 2), (14, .if_icmp .gt 13, 3), (17, .aload_n 0, 1), (18, .getfield 77, 3), (21, .sipush 300, 3), (24, .if_icmp .ne 5, 3), (27, .iconst 0, 1), (28, .ireturn, 1), (29, .aload_n 0, 1), (30, .getfield 7, 3), (33, .aload_n 0, 1), (34, .getfield 77, 3), (37, .iload_n 1, 1), (38, .iastore, 1), (39, .aload_n 0, 1), (40, .dup, 1), (41, .getfield 77, 3), (44, .iconst 1, 1), (45, .iadd, 1), (46, .putfield 77, 3), (49, .iconst 1, 1), (50, .ireturn, 1)]
def pm_94 : pMeth := (⟨"RateShapesModel", "sign", "(I)Z"⟩, prog_8_method_3_code, 2, some .boolean, 6, pc_94)
def pc_95 : List (Nat × Instr × Nat) := [(0, .aload_n 0, 1), (1, .iconst 0, 1), (2, .putfield 73, 3), (5, .aload_n 0, 1), (6, .iconst 0, 1), (7, .putfield 80, 3), (10, .aload_n 0, 1), (11, .iconst (-1), 1), (12, .putfield 83, 3), (15, .aload_n 0, 1), (16, .iconst 0, 1), (17, .putfield 113, 3), (20, .aload_n 0, 1), (21, .iconst 0, 1), (22, .putfield 110, 3), (25, .aload_n 0, 1), (26, .iconst 0, 1), (27, .putfield 174, 3), (30, .aload_n 0, 1), (31, .iconst 0, 1), (32, .putfield 135, 3), (35, .aload_n 0, 1), (36, .iconst 0, 1), (37, .putfield 177, 3), (40, .aload_n 0, 1), (41, .iconst 0, 1), (42, .putfield 132, 3), (45, .aload_n 0, 1), (46, .iconst 0, 1), (47, .iconst 0, 1), (48, .invokevirtual 161, 3), (51, .iconst 1, 1), (52, .istore_n 1, 1), (53, .iconst 1, 1), (54, .istore_n 2, 1), (55, .aload_n 0, 1), (56, .invokevirtual 86, 3), (59, .ifCond .eq 65, 3), (62, .iload_n 2, 1), (63, .ifCond .eq 61, 3), (66, .iload_n 1, 1), (67, .ifCond .eq 23, 3), (70, .aload_n 0, 1), (71, .invokevirtual 180, 3), (74, .istore_n 3, 1), (75, .iload_n 3, 1), (76, .iconst (-1), 1), (77, .if_icmp .eq 10, 3), (80, .aload_n 0, 1), (81, .iload_n 3, 1), (82, .invokevirtual 171, 3), (85, .iconst 0, 1), (86, .istore_n 1, 1), (87, .goto (-32), 3), (90, .aload_n 0, 1), (91, .invokevirtual 90, 3), (94, .iconst (-1), 1), (95, .if_icmp .ne 11, 3), (98, .aload_n 0, 1), (99, .getfield 132, 3), (102, .iconst 1, 1), (103, .if_icmp .le 7, 3), (106, .iconst 1, 1), (107, .goto 4, 3), (110, .iconst 0, 1), (111, .istore_n 2, 1), (112, .iload_n 2, 1), (113, .ifCond .eq (-58), 3), (116, .aload_n 0, 1), (117, .invokevirtual 183, 3), (120, .istore_n 1, 1), (121, .goto (-66), 3), (124, .aload_n 0, 1), (125, .iconst 0, 1), (126, .putfield 77, 3), (129, .aload_n 0, 1), (130, .invokevirtual 86, 3), (133, .ifCond .ne 10, 3), (136, .iconst (-1), 1), (137, .aload_n 0, 1), (138, .getfield 83, 3), (141, .isub, 1), (142, .ireturn, 1), (143, .aload_n 0, 1), (144, .aload_n 0, 1), (145, .getfield 43, 3), (148, .iconst 0, 1), (149, .iaload, 1), (150, .invokevirtual 186, 3), (153, .aload_n 0, 1), (154, .aload_n 0, 1), (155, .getfield 135, 3), (158, .putfield 177, 3), (161, .aload_n 0, 1), (162, .getfield 174, 3), (165, .ireturn, 1)]
def pm_95 : pMeth := (⟨"RateShapesModel", "read", "()I"⟩, prog_8_method_26_code, 4, some .int, 6, pc_95)
def pc_96 : List (Nat × Instr × Nat) := [(0, .aload_n 0, 1), (1, .getfield 132, 3), (4, .bipush 13, 2), (6, .if_icmp .ne 9, 3), (9, .aload_n 0, 1), (10, .iload_n 2, 1), (11, .invokevirtual 94, 3), (14, .return_, 1), (15, .aload_n 0, 1), (16, .getfield 37, 3), (19, .aload_n 0, 1), (20, .getfield 132, 3), (23, .iload_n 1, 1), (24, .iastore, 1), (25, .aload_n 0, 1), (26, .getfield 40, 3), (29, .aload_n 0, 1), (30, .getfield 132, 3), (33, .iconst (-1), 1), (34, .iastore, 1), (35, .aload_n 0, 1), (36, .getfield 43, 3), (39, .aload_n 0, 1), (40, .getfield 132, 3), (43, .iconst (-1), 1), (44, .iastore, 1), (45, .aload_n 0, 1), (46, .getfield 46, 3), (49, .aload_n 0, 1), (50, .getfield 132, 3), (53, .iconst 0, 1), (54, .iastore, 1), (55, .aload_n 0, 1), (56, .dup, 1), (57, .getfield 132, 3), (60, .iconst 1, 1), (61, .iadd, 1), (62, .putfield 132, 3), (65, .aload_n 0, 1), (66, .getfield 132, 3), (69, .iconst 1, 1), (70, .isub, 1), (71, .aload_n 0, 1), (72, .getfield 135, 3), (75, .if_icmp .le 13, 3), (78, .aload_n 0, 1), (79, .aload_n 0, 1), (80, .getfield 132, 3), (83, .iconst 1, 1), (84, .isub, 1), (85, .putfield 135, 3), (88, .return_, 1)]
def pm_96 : pMeth := (⟨"RateShapesModel", "opens", "(II)V"⟩, prog_8_method_19_code, 3, none, 6, pc_96)
def pc_97 : List (Nat × Instr × Nat) := [(0, .aload_n 0, 1), (1, .getfield 83, 3), (4, .ifCond .ge 8, 3), (7, .aload_n 0, 1), (8, .iload_n 1, 1), (9, .putfield 83, 3), (12, .return_, 1)]
def pm_97 : pMeth := (⟨"RateShapesModel", "fail", "(I)V"⟩, prog_8_method_5_code, 2, none, 6, pc_97)
def pc_98 : List (Nat × Instr × Nat) := [(0, .aload_n 0, 1), (1, .getfield 83, 3), (4, .ifCond .ge 7, 3), (7, .iconst 1, 1), (8, .goto 4, 3), (11, .iconst 0, 1), (12, .ireturn, 1)]
def pm_98 : pMeth := (⟨"RateShapesModel", "fine", "()Z"⟩, prog_8_method_6_code, 1, some .boolean, 6, pc_98)
def pc_99 : List (Nat × Instr × Nat) := [(0, .aload_n 0, 1), (1, .invokevirtual 90, 3), (4, .istore_n 1, 1), (5, .aload_n 0, 1), (6, .getfield 80, 3), (9, .istore_n 2, 1), (10, .iload_n 1, 1), (11, .bipush 40, 2), (13, .if_icmp .ne 29, 3), (16, .aload_n 0, 1), (17, .bipush 8, 2), (19, .iload_n 2, 1), (20, .invokevirtual 161, 3), (23, .aload_n 0, 1), (24, .invokevirtual 86, 3), (27, .ifCond .eq 13, 3), (30, .aload_n 0, 1), (31, .dup, 1), (32, .getfield 80, 3), (35, .iconst 1, 1), (36, .iadd, 1), (37, .putfield 80, 3), (40, .iconst (-1), 1), (41, .ireturn, 1), (42, .iload_n 1, 1), (43, .invokestatic 140, 3), (46, .ifCond .eq 8, 3), (49, .aload_n 0, 1), (50, .invokevirtual 165, 3), (53, .ireturn, 1), (54, .iload_n 1, 1), (55, .invokestatic 98, 3), (58, .ifCond .ne 25, 3), (61, .aload_n 0, 1), (62, .iload_n 1, 1), (63, .iconst (-1), 1), (64, .if_icmp .ne 10, 3), (67, .aload_n 0, 1), (68, .getfield 77, 3), (71, .goto 7, 3), (74, .aload_n 0, 1), (75, .getfield 80, 3), (78, .invokevirtual 94, 3), (81, .iconst (-1), 1), (82, .ireturn, 1), (83, .aload_n 0, 1), (84, .iload_n 2, 1), (85, .invokevirtual 155, 3), (88, .ifCond .eq 10, 3), (91, .aload_n 0, 1), (92, .invokevirtual 168, 3), (95, .goto 4, 3), (98, .iconst (-1), 1), (99, .ireturn, 1)]
def pm_99 : pMeth := (⟨"RateShapesModel", "takePart", "()I"⟩, prog_8_method_22_code, 3, some .int, 6, pc_99)
def pc_100 : List (Nat × Instr × Nat) := [(0, .aload_n 0, 1), (1, .getfield 80, 3), (4, .aload_n 0, 1), (5, .getfield 77, 3), (8, .if_icmp .ge 30, 3), (11, .aload_n 0, 1), (12, .getfield 7, 3), (15, .aload_n 0, 1), (16, .getfield 80, 3), (19, .iaload, 1), (20, .bipush 32, 2), (22, .if_icmp .ne 16, 3), (25, .aload_n 0, 1), (26, .dup, 1), (27, .getfield 80, 3), (30, .iconst 1, 1), (31, .iadd, 1), (32, .putfield 80, 3), (35, .goto (-35), 3), (38, .aload_n 0, 1), (39, .getfield 80, 3), (42, .aload_n 0, 1), (43, .getfield 77, 3), (46, .if_icmp .ge 15, 3), (49, .aload_n 0, 1), (50, .getfield 7, 3), (53, .aload_n 0, 1), (54, .getfield 80, 3), (57, .iaload, 1), (58, .goto 4, 3), (61, .iconst (-1), 1), (62, .ireturn, 1)]
def pm_100 : pMeth := (⟨"RateShapesModel", "look", "()I"⟩, prog_8_method_4_code, 1, some .int, 6, pc_100)
def pc_101 : List (Nat × Instr × Nat) := [(0, .iload_n 0, 1), (1, .bipush 97, 2), (3, .if_icmp .lt 13, 3), (6, .iload_n 0, 1), (7, .bipush 122, 2), (9, .if_icmp .gt 7, 3), (12, .iconst 1, 1), (13, .goto 4, 3), (16, .iconst 0, 1), (17, .ireturn, 1)]
def pm_101 : pMeth := (⟨"RateShapesModel", "isSmall", "(I)Z"⟩, prog_8_method_9_code, 1, some .boolean, 6, pc_101)
def pc_102 : List (Nat × Instr × Nat) := [(0, .aload_n 0, 1), (1, .getfield 80, 3), (4, .istore_n 1, 1), (5, .aload_n 0, 1), (6, .getfield 80, 3), (9, .aload_n 0, 1), (10, .getfield 77, 3), (13, .if_icmp .ge 31, 3), (16, .aload_n 0, 1), (17, .getfield 7, 3), (20, .aload_n 0, 1), (21, .getfield 80, 3), (24, .iaload, 1), (25, .invokestatic 140, 3), (28, .ifCond .eq 16, 3), (31, .aload_n 0, 1), (32, .dup, 1), (33, .getfield 80, 3), (36, .iconst 1, 1), (37, .iadd, 1), (38, .putfield 80, 3), (41, .goto (-36), 3), (44, .aload_n 0, 1), (45, .iload_n 1, 1), (46, .aload_n 0, 1), (47, .getfield 80, 3), (50, .ldc2_w 143, 3), (53, .invokevirtual 145, 3), (56, .istore_n 2, 1), (57, .aload_n 0, 1), (58, .iload_n 1, 1), (59, .aload_n 0, 1), (60, .getfield 80, 3), (63, .ldc2_w 149, 3), (66, .invokevirtual 145, 3), (69, .istore_n 3, 1), (70, .aload_n 0, 1), (71, .iload_n 1, 1), (72, .aload_n 0, 1), (73, .getfield 80, 3), (76, .ldc2_w 151, 3), (79, .invokevirtual 145, 3), (82, .istore 4, 2), (84, .aload_n 0, 1), (85, .iload_n 1, 1), (86, .aload_n 0, 1), (87, .getfield 80, 3), (90, .ldc2_w 153, 3), (93, .invokevirtual 145, 3), (96, .istore 5, 2), (98, .iload_n 2, 1), (99, .ifCond .ne 24, 3), (102, .iload_n 3, 1), (103, .ifCond .ne 20, 3), (106, .iload 4, 2), (108, .ifCond .ne 15, 3), (111, .iload 5, 2), (113, .ifCond .ne 10, 3), (116, .aload_n 0, 1), (117, .iload_n 1, 1), (118, .invokevirtual 94, 3), (121, .iconst (-1), 1), (122, .ireturn, 1), (123, .aload_n 0, 1), (124, .iload_n 1, 1), (125, .invokevirtual 155, 3), (128, .ifCond .ne 5, 3), (131, .iconst (-1), 1), (132, .ireturn, 1), (133, .iload 4, 2), (135, .ifCond .eq 13, 3), (138, .aload_n 0, 1), (139, .iconst 0, 1), (140, .iconst 0, 1), (141, .iconst (-1), 1), (142, .iconst (-1), 1), (143, .iconst (-1), 1), (144, .invokevirtual 119, 3), (147, .ireturn, 1), (148, .iload 5, 2), (150, .ifCond .eq 8, 3), (153, .aload_n 0, 1), (154, .invokevirtual 158, 3), (157, .ireturn, 1), (158, .aload_n 0, 1), (159, .iload_n 2, 1), (160, .ifCond .eq 7, 3), (163, .iconst 5, 1), (164, .goto 5, 3), (167, .bipush 6, 2), (169, .iload_n 1, 1), (170, .invokevirtual 161, 3), (173, .aload_n 0, 1), (174, .bipush 40, 2), (176, .invokevirtual 123, 3), (179, .iconst (-1), 1), (180, .ireturn, 1)]
def pm_102 : pMeth := (⟨"RateShapesModel", "takeWord", "()I"⟩, prog_8_method_21_code, 6, some .int, 6, pc_102)
def pc_103 : List (Nat × Instr × Nat) := [(0, .iconst 0, 1), (1, .istore 5, 2), (3, .iload 5, 2), (5, .bipush 8, 2), (7, .if_icmp .ge 21, 3), (10, .lload_n 3, 1), (11, .bipush 8, 2), (13, .iload 5, 2), (15, .imul, 1), (16, .lushr, 1), (17, .lconst 0, 1), (18, .lcmp, 1), (19, .ifCond .eq 9, 3), (22, .iinc 5 1, 3), (25, .goto (-22), 3), (28, .iload_n 2, 1), (29, .iload_n 1, 1), (30, .isub, 1), (31, .iload 5, 2), (33, .if_icmp .eq 5, 3), (36, .iconst 0, 1), (37, .ireturn, 1), (38, .iconst 0, 1), (39, .istore 6, 2), (41, .iload 6, 2), (43, .iload 5, 2), (45, .if_icmp .ge 40, 3), (48, .aload_n 0, 1), (49, .getfield 7, 3), (52, .iload_n 1, 1), (53, .iload 6, 2), (55, .iadd, 1), (56, .iaload, 1), (57, .lload_n 3, 1), (58, .bipush 8, 2), (60, .iload 5, 2), (62, .iconst 1, 1), (63, .isub, 1), (64, .iload 6, 2), (66, .isub, 1), (67, .imul, 1), (68, .lushr, 1), (69, .ldc2_w 138, 3), (72, .land, 1), (73, .l2i, 1), (74, .if_icmp .eq 5, 3), (77, .iconst 0, 1), (78, .ireturn, 1), (79, .iinc 6 1, 3), (82, .goto (-41), 3), (85, .iconst 1, 1), (86, .ireturn, 1)]
def pm_103 : pMeth := (⟨"RateShapesModel", "isWord", "(IIJ)Z"⟩, prog_8_method_20_code, 7, some .boolean, 6, pc_103)
def pc_104 : List (Nat × Instr × Nat) := [(0, .aload_n 0, 1), (1, .getfield 110, 3), (4, .bipush 60, 2), (6, .if_icmp .ne 10, 3), (9, .aload_n 0, 1), (10, .iload_n 1, 1), (11, .invokevirtual 94, 3), (14, .iconst 0, 1), (15, .ireturn, 1), (16, .aload_n 0, 1), (17, .dup, 1), (18, .getfield 110, 3), (21, .iconst 1, 1), (22, .iadd, 1), (23, .putfield 110, 3), (26, .iconst 1, 1), (27, .ireturn, 1)]
def pm_104 : pMeth := (⟨"RateShapesModel", "counts", "(I)Z"⟩, prog_8_method_14_code, 2, some .boolean, 6, pc_104)
def pc_105 : List (Nat × Instr × Nat) := [(0, .aload_n 0, 1), (1, .getfield 113, 3), (4, .istore 6, 2), (6, .aload_n 0, 1), (7, .dup, 1), (8, .getfield 113, 3), (11, .iconst 1, 1), (12, .iadd, 1), (13, .putfield 113, 3), (16, .aload_n 0, 1), (17, .getfield 13, 3), (20, .iload 6, 2), (22, .iload_n 1, 1), (23, .iastore, 1), (24, .aload_n 0, 1), (25, .getfield 16, 3), (28, .iload 6, 2), (30, .iload_n 2, 1), (31, .iastore, 1), (32, .aload_n 0, 1), (33, .getfield 19, 3), (36, .iload 6, 2), (38, .iload_n 3, 1), (39, .iastore, 1), (40, .aload_n 0, 1), (41, .getfield 22, 3), (44, .iload 6, 2), (46, .iload 4, 2), (48, .iastore, 1), (49, .aload_n 0, 1), (50, .getfield 25, 3), (53, .iload 6, 2), (55, .iload 5, 2), (57, .iastore, 1), (58, .aload_n 0, 1), (59, .getfield 28, 3), (62, .iload 6, 2), (64, .iconst 0, 1), (65, .iastore, 1), (66, .iload 6, 2), (68, .ireturn, 1)]
def pm_105 : pMeth := (⟨"RateShapesModel", "make", "(IIIII)I"⟩, prog_8_method_15_code, 7, some .int, 6, pc_105)
def pc_106 : List (Nat × Instr × Nat) := [(0, .aload_n 0, 1), (1, .bipush 40, 2), (3, .invokevirtual 123, 3), (6, .aload_n 0, 1), (7, .invokevirtual 126, 3), (10, .istore_n 1, 1), (11, .aload_n 0, 1), (12, .bipush 58, 2), (14, .invokevirtual 123, 3), (17, .aload_n 0, 1), (18, .invokevirtual 86, 3), (21, .ifCond .ne 5, 3), (24, .iconst (-1), 1), (25, .ireturn, 1), (26, .aload_n 0, 1), (27, .bipush 7, 2), (29, .iload_n 1, 1), (30, .iconst (-1), 1), (31, .iconst (-1), 1), (32, .iconst (-1), 1), (33, .invokevirtual 119, 3), (36, .istore_n 2, 1), (37, .aload_n 0, 1), (38, .iload_n 2, 1), (39, .invokevirtual 129, 3), (42, .aload_n 0, 1), (43, .invokevirtual 86, 3), (46, .ifCond .eq 30, 3), (49, .aload_n 0, 1), (50, .invokevirtual 90, 3), (53, .bipush 44, 2), (55, .if_icmp .ne 21, 3), (58, .aload_n 0, 1), (59, .dup, 1), (60, .getfield 80, 3), (63, .iconst 1, 1), (64, .iadd, 1), (65, .putfield 80, 3), (68, .aload_n 0, 1), (69, .iload_n 2, 1), (70, .invokevirtual 129, 3), (73, .goto (-31), 3), (76, .aload_n 0, 1), (77, .bipush 41, 2), (79, .invokevirtual 123, 3), (82, .iload_n 2, 1), (83, .ireturn, 1)]
def pm_106 : pMeth := (⟨"RateShapesModel", "takeSteps", "()I"⟩, prog_8_method_18_code, 3, some .int, 6, pc_106)
def pc_107 : List (Nat × Instr × Nat) := [(0, .aload_n 0, 1), (1, .invokevirtual 86, 3), (4, .ifCond .ne 4, 3), (7, .return_, 1), (8, .aload_n 0, 1), (9, .invokevirtual 90, 3), (12, .iload_n 1, 1), (13, .if_icmp .ne 16, 3), (16, .aload_n 0, 1), (17, .dup, 1), (18, .getfield 80, 3), (21, .iconst 1, 1), (22, .iadd, 1), (23, .putfield 80, 3), (26, .goto 11, 3), (29, .aload_n 0, 1), (30, .aload_n 0, 1), (31, .getfield 80, 3), (34, .invokevirtual 94, 3), (37, .return_, 1)]
def pm_107 : pMeth := (⟨"RateShapesModel", "take", "(I)V"⟩, prog_8_method_7_code, 2, none, 6, pc_107)
def pc_108 : List (Nat × Instr × Nat) := [(0, .aload_n 0, 1), (1, .invokevirtual 86, 3), (4, .ifCond .ne 5, 3), (7, .iconst 0, 1), (8, .ireturn, 1), (9, .aload_n 0, 1), (10, .invokevirtual 90, 3), (13, .iconst (-1), 1), (14, .if_icmp .ne 10, 3), (17, .aload_n 0, 1), (18, .getfield 77, 3), (21, .goto 7, 3), (24, .aload_n 0, 1), (25, .getfield 80, 3), (28, .istore_n 1, 1), (29, .aload_n 0, 1), (30, .iload_n 1, 1), (31, .invokevirtual 102, 3), (34, .istore_n 2, 1), (35, .iload_n 2, 1), (36, .iconst 1, 1), (37, .if_icmp .lt 9, 3), (40, .iload_n 2, 1), (41, .bipush 6, 2), (43, .if_icmp .le 10, 3), (46, .aload_n 0, 1), (47, .iload_n 1, 1), (48, .invokevirtual 94, 3), (51, .iconst 0, 1), (52, .ireturn, 1), (53, .aload_n 0, 1), (54, .iload_n 1, 1), (55, .iload_n 2, 1), (56, .iadd, 1), (57, .putfield 80, 3), (60, .aload_n 0, 1), (61, .iload_n 1, 1), (62, .iload_n 2, 1), (63, .invokevirtual 106, 3), (66, .ireturn, 1)]
def pm_108 : pMeth := (⟨"RateShapesModel", "whole", "()I"⟩, prog_8_method_12_code, 3, some .int, 6, pc_108)
def pc_109 : List (Nat × Instr × Nat) := [(0, .iconst 0, 1), (1, .istore_n 2, 1), (2, .iload_n 1, 1), (3, .iload_n 2, 1), (4, .iadd, 1), (5, .aload_n 0, 1), (6, .getfield 77, 3), (9, .if_icmp .ge 23, 3), (12, .aload_n 0, 1), (13, .getfield 7, 3), (16, .iload_n 1, 1), (17, .iload_n 2, 1), (18, .iadd, 1), (19, .iaload, 1), (20, .invokestatic 98, 3), (23, .ifCond .eq 9, 3), (26, .iinc 2 1, 3), (29, .goto (-27), 3), (32, .iload_n 2, 1), (33, .ireturn, 1)]
def pm_109 : pMeth := (⟨"RateShapesModel", "digits", "(I)I"⟩, prog_8_method_10_code, 3, some .int, 6, pc_109)
def pc_110 : List (Nat × Instr × Nat) := [(0, .iload_n 0, 1), (1, .bipush 48, 2), (3, .if_icmp .lt 13, 3), (6, .iload_n 0, 1), (7, .bipush 57, 2), (9, .if_icmp .gt 7, 3), (12, .iconst 1, 1), (13, .goto 4, 3), (16, .iconst 0, 1), (17, .ireturn, 1)]
def pm_110 : pMeth := (⟨"RateShapesModel", "isDigit", "(I)Z"⟩, prog_8_method_8_code, 1, some .boolean, 6, pc_110)
def pc_111 : List (Nat × Instr × Nat) := [(0, .iconst 0, 1), (1, .istore_n 3, 1), (2, .iconst 0, 1), (3, .istore 4, 2), (5, .iload 4, 2), (7, .iload_n 2, 1), (8, .if_icmp .ge 27, 3), (11, .bipush 10, 2), (13, .iload_n 3, 1), (14, .imul, 1), (15, .aload_n 0, 1), (16, .getfield 7, 3), (19, .iload_n 1, 1), (20, .iload 4, 2), (22, .iadd, 1), (23, .iaload, 1), (24, .iadd, 1), (25, .bipush 48, 2), (27, .isub, 1), (28, .istore_n 3, 1), (29, .iinc 4 1, 3), (32, .goto (-27), 3), (35, .iload_n 3, 1), (36, .ireturn, 1)]
def pm_111 : pMeth := (⟨"RateShapesModel", "worth", "(II)I"⟩, prog_8_method_11_code, 5, some .int, 6, pc_111)
def pc_112 : List (Nat × Instr × Nat) := [(0, .aload_n 0, 1), (1, .invokevirtual 90, 3), (4, .iconst (-1), 1), (5, .if_icmp .ne 10, 3), (8, .aload_n 0, 1), (9, .getfield 77, 3), (12, .goto 7, 3), (15, .aload_n 0, 1), (16, .getfield 80, 3), (19, .istore_n 2, 1), (20, .aload_n 0, 1), (21, .invokevirtual 126, 3), (24, .istore_n 3, 1), (25, .aload_n 0, 1), (26, .bipush 61, 2), (28, .invokevirtual 123, 3), (31, .aload_n 0, 1), (32, .invokevirtual 126, 3), (35, .istore 4, 2), (37, .aload_n 0, 1), (38, .invokevirtual 86, 3), (41, .ifCond .ne 4, 3), (44, .return_, 1), (45, .aload_n 0, 1), (46, .getfield 28, 3), (49, .iload_n 1, 1), (50, .iaload, 1), (51, .ifCond .le 25, 3), (54, .iload_n 3, 1), (55, .aload_n 0, 1), (56, .getfield 31, 3), (59, .bipush 6, 2), (61, .iload_n 1, 1), (62, .imul, 1), (63, .aload_n 0, 1), (64, .getfield 28, 3), (67, .iload_n 1, 1), (68, .iaload, 1), (69, .iadd, 1), (70, .iconst 1, 1), (71, .isub, 1), (72, .iaload, 1), (73, .if_icmp .le 14, 3), (76, .aload_n 0, 1), (77, .getfield 28, 3), (80, .iload_n 1, 1), (81, .iaload, 1), (82, .bipush 6, 2), (84, .if_icmp .ne 9, 3), (87, .aload_n 0, 1), (88, .iload_n 2, 1), (89, .invokevirtual 94, 3), (92, .return_, 1), (93, .aload_n 0, 1), (94, .getfield 31, 3), (97, .bipush 6, 2), (99, .iload_n 1, 1), (100, .imul, 1), (101, .aload_n 0, 1), (102, .getfield 28, 3), (105, .iload_n 1, 1), (106, .iaload, 1), (107, .iadd, 1), (108, .iload_n 3, 1), (109, .iastore, 1), (110, .aload_n 0, 1), (111, .getfield 34, 3), (114, .bipush 6, 2), (116, .iload_n 1, 1), (117, .imul, 1), (118, .aload_n 0, 1), (119, .getfield 28, 3), (122, .iload_n 1, 1), (123, .iaload, 1), (124, .iadd, 1), (125, .iload 4, 2), (127, .iastore, 1), (128, .aload_n 0, 1), (129, .getfield 28, 3), (132, .iload_n 1, 1), (133, .dup2, 1), (134, .iaload, 1), (135, .iconst 1, 1), (136, .iadd, 1), (137, .iastore, 1), (138, .return_, 1)]
def pm_112 : pMeth := (⟨"RateShapesModel", "takeRow", "(I)V"⟩, prog_8_method_17_code, 5, none, 6, pc_112)
def pc_113 : List (Nat × Instr × Nat) := [(0, .aload_n 0, 1), (1, .invokevirtual 116, 3), (4, .istore_n 1, 1), (5, .aload_n 0, 1), (6, .invokevirtual 86, 3), (9, .ifCond .ne 5, 3), (12, .iconst (-1), 1), (13, .ireturn, 1), (14, .aload_n 0, 1), (15, .invokevirtual 90, 3), (18, .istore_n 2, 1), (19, .iload_n 2, 1), (20, .bipush 37, 2), (22, .if_icmp .ne 23, 3), (25, .aload_n 0, 1), (26, .dup, 1), (27, .getfield 80, 3), (30, .iconst 1, 1), (31, .iadd, 1), (32, .putfield 80, 3), (35, .aload_n 0, 1), (36, .iconst 1, 1), (37, .iload_n 1, 1), (38, .iconst (-1), 1), (39, .iconst (-1), 1), (40, .iconst (-1), 1), (41, .invokevirtual 119, 3), (44, .ireturn, 1), (45, .aload_n 0, 1), (46, .bipush 47, 2), (48, .invokevirtual 123, 3), (51, .aload_n 0, 1), (52, .invokevirtual 86, 3), (55, .ifCond .ne 5, 3), (58, .iconst (-1), 1), (59, .ireturn, 1), (60, .aload_n 0, 1), (61, .invokevirtual 90, 3), (64, .istore_n 3, 1), (65, .iload_n 3, 1), (66, .bipush 65, 2), (68, .if_icmp .lt 9, 3), (71, .iload_n 3, 1), (72, .bipush 72, 2), (74, .if_icmp .le 13, 3), (77, .aload_n 0, 1), (78, .aload_n 0, 1), (79, .getfield 80, 3), (82, .invokevirtual 94, 3), (85, .iconst (-1), 1), (86, .ireturn, 1), (87, .aload_n 0, 1), (88, .dup, 1), (89, .getfield 80, 3), (92, .iconst 1, 1), (93, .iadd, 1), (94, .putfield 80, 3), (97, .aload_n 0, 1), (98, .iconst 2, 1), (99, .iload_n 1, 1), (100, .iload_n 3, 1), (101, .bipush 65, 2), (103, .isub, 1), (104, .iconst (-1), 1), (105, .iconst (-1), 1), (106, .invokevirtual 119, 3), (109, .ireturn, 1)]
def pm_113 : pMeth := (⟨"RateShapesModel", "takeNumber", "()I"⟩, prog_8_method_16_code, 4, some .int, 6, pc_113)
def pc_114 : List (Nat × Instr × Nat) := [(0, .aload_n 0, 1), (1, .getfield 80, 3), (4, .istore_n 1, 1), (5, .aload_n 0, 1), (6, .iload_n 1, 1), (7, .invokevirtual 102, 3), (10, .istore_n 2, 1), (11, .iload_n 2, 1), (12, .iconst 5, 1), (13, .if_icmp .le 10, 3), (16, .aload_n 0, 1), (17, .iload_n 1, 1), (18, .invokevirtual 94, 3), (21, .iconst 0, 1), (22, .ireturn, 1), (23, .aload_n 0, 1), (24, .iload_n 1, 1), (25, .iload_n 2, 1), (26, .iadd, 1), (27, .putfield 80, 3), (30, .sipush 1000, 3), (33, .aload_n 0, 1), (34, .iload_n 1, 1), (35, .iload_n 2, 1), (36, .invokevirtual 106, 3), (39, .imul, 1), (40, .istore_n 3, 1), (41, .aload_n 0, 1), (42, .getfield 80, 3), (45, .aload_n 0, 1), (46, .getfield 77, 3), (49, .if_icmp .eq 17, 3), (52, .aload_n 0, 1), (53, .getfield 7, 3), (56, .aload_n 0, 1), (57, .getfield 80, 3), (60, .iaload, 1), (61, .bipush 46, 2), (63, .if_icmp .eq 5, 3), (66, .iload_n 3, 1), (67, .ireturn, 1), (68, .aload_n 0, 1), (69, .aload_n 0, 1), (70, .getfield 80, 3), (73, .iconst 1, 1), (74, .iadd, 1), (75, .invokevirtual 102, 3), (78, .istore 4, 2), (80, .iload 4, 2), (82, .iconst 1, 1), (83, .if_icmp .lt 9, 3), (86, .iload 4, 2), (88, .iconst 3, 1), (89, .if_icmp .le 10, 3), (92, .aload_n 0, 1), (93, .iload_n 1, 1), (94, .invokevirtual 94, 3), (97, .iconst 0, 1), (98, .ireturn, 1), (99, .aload_n 0, 1), (100, .aload_n 0, 1), (101, .getfield 80, 3), (104, .iconst 1, 1), (105, .iadd, 1), (106, .iload 4, 2), (108, .invokevirtual 106, 3), (111, .istore 5, 2), (113, .aload_n 0, 1), (114, .dup, 1), (115, .getfield 80, 3), (118, .iconst 1, 1), (119, .iload 4, 2), (121, .iadd, 1), (122, .iadd, 1), (123, .putfield 80, 3), (126, .iload_n 3, 1), (127, .iload 4, 2), (129, .iconst 1, 1), (130, .if_icmp .ne 11, 3), (133, .bipush 100, 2), (135, .iload 5, 2), (137, .imul, 1), (138, .goto 19, 3), (141, .iload 4, 2), (143, .iconst 2, 1), (144, .if_icmp .ne 11, 3), (147, .bipush 10, 2), (149, .iload 5, 2), (151, .imul, 1), (152, .goto 5, 3), (155, .iload 5, 2), (157, .iadd, 1), (158, .ireturn, 1)]
def pm_114 : pMeth := (⟨"RateShapesModel", "thousandths", "()I"⟩, prog_8_method_13_code, 6, some .int, 6, pc_114)
def pc_115 : List (Nat × Instr × Nat) := [(0, .aload_n 0, 1), (1, .getfield 132, 3), (4, .iconst 1, 1), (5, .isub, 1), (6, .istore_n 2, 1), (7, .aload_n 0, 1), (8, .getfield 43, 3), (11, .iload_n 2, 1), (12, .aload_n 0, 1), (13, .getfield 46, 3), (16, .iload_n 2, 1), (17, .iaload, 1), (18, .ifCond .ne 7, 3), (21, .iload_n 1, 1), (22, .goto 22, 3), (25, .aload_n 0, 1), (26, .aload_n 0, 1), (27, .getfield 46, 3), (30, .iload_n 2, 1), (31, .iaload, 1), (32, .iconst 0, 1), (33, .iconst (-1), 1), (34, .aload_n 0, 1), (35, .getfield 43, 3), (38, .iload_n 2, 1), (39, .iaload, 1), (40, .iload_n 1, 1), (41, .invokevirtual 119, 3), (44, .iastore, 1), (45, .aload_n 0, 1), (46, .getfield 46, 3), (49, .iload_n 2, 1), (50, .iconst 0, 1), (51, .iastore, 1), (52, .return_, 1)]
def pm_115 : pMeth := (⟨"RateShapesModel", "joins", "(I)V"⟩, prog_8_method_23_code, 3, none, 6, pc_115)
def pc_116 : List (Nat × Instr × Nat) := [(0, .aload_n 0, 1), (1, .invokevirtual 90, 3), (4, .istore_n 1, 1), (5, .aload_n 0, 1), (6, .getfield 132, 3), (9, .iconst 1, 1), (10, .isub, 1), (11, .istore_n 2, 1), (12, .iload_n 1, 1), (13, .bipush 43, 2), (15, .if_icmp .eq 9, 3), (18, .iload_n 1, 1), (19, .bipush 45, 2), (21, .if_icmp .ne 45, 3), (24, .aload_n 0, 1), (25, .aload_n 0, 1), (26, .getfield 80, 3), (29, .invokevirtual 155, 3), (32, .ifCond .ne 5, 3), (35, .iconst 0, 1), (36, .ireturn, 1), (37, .aload_n 0, 1), (38, .getfield 46, 3), (41, .iload_n 2, 1), (42, .iload_n 1, 1), (43, .bipush 43, 2), (45, .if_icmp .ne 7, 3), (48, .iconst 3, 1), (49, .goto 4, 3), (52, .iconst 4, 1), (53, .iastore, 1), (54, .aload_n 0, 1), (55, .dup, 1), (56, .getfield 80, 3), (59, .iconst 1, 1), (60, .iadd, 1), (61, .putfield 80, 3), (64, .iconst 1, 1), (65, .ireturn, 1), (66, .aload_n 0, 1), (67, .getfield 37, 3), (70, .iload_n 2, 1), (71, .iaload, 1), (72, .iconst 5, 1), (73, .if_icmp .eq 14, 3), (76, .aload_n 0, 1), (77, .getfield 37, 3), (80, .iload_n 2, 1), (81, .iaload, 1), (82, .bipush 6, 2), (84, .if_icmp .ne 7, 3), (87, .iconst 1, 1), (88, .goto 4, 3), (91, .iconst 0, 1), (92, .istore_n 3, 1), (93, .iload_n 1, 1), (94, .bipush 44, 2), (96, .if_icmp .ne 48, 3), (99, .iload_n 3, 1), (100, .ifCond .eq 44, 3), (103, .aload_n 0, 1), (104, .getfield 40, 3), (107, .iload_n 2, 1), (108, .iaload, 1), (109, .iconst (-1), 1), (110, .if_icmp .ne 34, 3), (113, .aload_n 0, 1), (114, .getfield 40, 3), (117, .iload_n 2, 1), (118, .aload_n 0, 1), (119, .getfield 43, 3), (122, .iload_n 2, 1), (123, .iaload, 1), (124, .iastore, 1), (125, .aload_n 0, 1), (126, .getfield 43, 3), (129, .iload_n 2, 1), (130, .iconst (-1), 1), (131, .iastore, 1), (132, .aload_n 0, 1), (133, .dup, 1), (134, .getfield 80, 3), (137, .iconst 1, 1), (138, .iadd, 1), (139, .putfield 80, 3), (142, .iconst 1, 1), (143, .ireturn, 1), (144, .iload_n 1, 1), (145, .bipush 41, 2), (147, .if_icmp .ne 91, 3), (150, .aload_n 0, 1), (151, .getfield 37, 3), (154, .iload_n 2, 1), (155, .iaload, 1), (156, .bipush 8, 2), (158, .if_icmp .eq 17, 3), (161, .iload_n 3, 1), (162, .ifCond .eq 76, 3), (165, .aload_n 0, 1), (166, .getfield 40, 3), (169, .iload_n 2, 1), (170, .iaload, 1), (171, .iconst (-1), 1), (172, .if_icmp .eq 66, 3), (175, .aload_n 0, 1), (176, .dup, 1), (177, .getfield 80, 3), (180, .iconst 1, 1), (181, .iadd, 1), (182, .putfield 80, 3), (185, .aload_n 0, 1), (186, .dup, 1), (187, .getfield 132, 3), (190, .iconst 1, 1), (191, .isub, 1), (192, .putfield 132, 3), (195, .aload_n 0, 1), (196, .iload_n 3, 1), (197, .ifCond .eq 30, 3), (200, .aload_n 0, 1), (201, .aload_n 0, 1), (202, .getfield 37, 3), (205, .iload_n 2, 1), (206, .iaload, 1), (207, .iconst 0, 1), (208, .iconst (-1), 1), (209, .aload_n 0, 1), (210, .getfield 40, 3), (213, .iload_n 2, 1), (214, .iaload, 1), (215, .aload_n 0, 1), (216, .getfield 43, 3), (219, .iload_n 2, 1), (220, .iaload, 1), (221, .invokevirtual 119, 3), (224, .goto 9, 3), (227, .aload_n 0, 1), (228, .getfield 43, 3), (231, .iload_n 2, 1), (232, .iaload, 1), (233, .invokevirtual 171, 3), (236, .iconst 0, 1), (237, .ireturn, 1), (238, .iload_n 1, 1), (239, .iconst (-1), 1), (240, .if_icmp .ne 7, 3), (243, .iload_n 2, 1), (244, .ifCond .le 23, 3), (247, .aload_n 0, 1), (248, .iload_n 1, 1), (249, .iconst (-1), 1), (250, .if_icmp .ne 10, 3), (253, .aload_n 0, 1), (254, .getfield 77, 3), (257, .goto 7, 3), (260, .aload_n 0, 1), (261, .getfield 80, 3), (264, .invokevirtual 94, 3), (267, .iconst 0, 1), (268, .ireturn, 1)]
def pm_116 : pMeth := (⟨"RateShapesModel", "takeBehind", "()Z"⟩, prog_8_method_24_code, 4, some .boolean, 6, pc_116)
def pc_117 : List (Nat × Instr × Nat) := [(0, .iconst 0, 1), (1, .istore_n 2, 1), (2, .iconst 1, 1), (3, .istore_n 3, 1), (4, .aload_n 0, 1), (5, .getfield 49, 3), (8, .iconst 0, 1), (9, .iload_n 1, 1), (10, .iastore, 1), (11, .iload_n 3, 1), (12, .ifCond .le 243, 3), (15, .iinc 3 (-1), 3), (18, .aload_n 0, 1), (19, .getfield 49, 3), (22, .iload_n 3, 1), (23, .iaload, 1), (24, .istore 4, 2), (26, .aload_n 0, 1), (27, .getfield 52, 3), (30, .iload 4, 2), (32, .iload_n 2, 1), (33, .iastore, 1), (34, .aload_n 0, 1), (35, .getfield 13, 3), (38, .bipush 60, 2), (40, .iload_n 2, 1), (41, .iadd, 1), (42, .aload_n 0, 1), (43, .getfield 13, 3), (46, .iload 4, 2), (48, .iaload, 1), (49, .iastore, 1), (50, .aload_n 0, 1), (51, .getfield 16, 3), (54, .bipush 60, 2), (56, .iload_n 2, 1), (57, .iadd, 1), (58, .aload_n 0, 1), (59, .getfield 16, 3), (62, .iload 4, 2), (64, .iaload, 1), (65, .iastore, 1), (66, .aload_n 0, 1), (67, .getfield 19, 3), (70, .bipush 60, 2), (72, .iload_n 2, 1), (73, .iadd, 1), (74, .aload_n 0, 1), (75, .getfield 19, 3), (78, .iload 4, 2), (80, .iaload, 1), (81, .iastore, 1), (82, .aload_n 0, 1), (83, .getfield 22, 3), (86, .bipush 60, 2), (88, .iload_n 2, 1), (89, .iadd, 1), (90, .aload_n 0, 1), (91, .getfield 22, 3), (94, .iload 4, 2), (96, .iaload, 1), (97, .iastore, 1), (98, .aload_n 0, 1), (99, .getfield 25, 3), (102, .bipush 60, 2), (104, .iload_n 2, 1), (105, .iadd, 1), (106, .aload_n 0, 1), (107, .getfield 25, 3), (110, .iload 4, 2), (112, .iaload, 1), (113, .iastore, 1), (114, .aload_n 0, 1), (115, .getfield 28, 3), (118, .bipush 60, 2), (120, .iload_n 2, 1), (121, .iadd, 1), (122, .aload_n 0, 1), (123, .getfield 28, 3), (126, .iload 4, 2), (128, .iaload, 1), (129, .iastore, 1), (130, .iconst 0, 1), (131, .istore 5, 2), (133, .iload 5, 2), (135, .aload_n 0, 1), (136, .getfield 28, 3), (139, .iload 4, 2), (141, .iaload, 1), (142, .if_icmp .ge 65, 3), (145, .aload_n 0, 1), (146, .getfield 31, 3), (149, .bipush 6, 2), (151, .bipush 60, 2), (153, .iload_n 2, 1), (154, .iadd, 1), (155, .imul, 1), (156, .iload 5, 2), (158, .iadd, 1), (159, .aload_n 0, 1), (160, .getfield 31, 3), (163, .bipush 6, 2), (165, .iload 4, 2), (167, .imul, 1), (168, .iload 5, 2), (170, .iadd, 1), (171, .iaload, 1), (172, .iastore, 1), (173, .aload_n 0, 1), (174, .getfield 34, 3), (177, .bipush 6, 2), (179, .bipush 60, 2), (181, .iload_n 2, 1), (182, .iadd, 1), (183, .imul, 1), (184, .iload 5, 2), (186, .iadd, 1), (187, .aload_n 0, 1), (188, .getfield 34, 3), (191, .bipush 6, 2), (193, .iload 4, 2), (195, .imul, 1), (196, .iload 5, 2), (198, .iadd, 1), (199, .iaload, 1), (200, .iastore, 1), (201, .iinc 5 1, 3), (204, .goto (-71), 3), (207, .iinc 2 1, 3), (210, .aload_n 0, 1), (211, .getfield 22, 3), (214, .iload 4, 2), (216, .iaload, 1), (217, .iconst (-1), 1), (218, .if_icmp .eq 34, 3), (221, .aload_n 0, 1), (222, .getfield 49, 3), (225, .iload_n 3, 1), (226, .aload_n 0, 1), (227, .getfield 25, 3), (230, .iload 4, 2), (232, .iaload, 1), (233, .iastore, 1), (234, .aload_n 0, 1), (235, .getfield 49, 3), (238, .iload_n 3, 1), (239, .iconst 1, 1), (240, .iadd, 1), (241, .aload_n 0, 1), (242, .getfield 22, 3), (245, .iload 4, 2), (247, .iaload, 1), (248, .iastore, 1), (249, .iinc 3 2, 3), (252, .goto (-241), 3), (255, .bipush 60, 2), (257, .istore 4, 2), (259, .iload 4, 2), (261, .bipush 60, 2), (263, .iload_n 2, 1), (264, .iadd, 1), (265, .if_icmp .ge 58, 3), (268, .aload_n 0, 1), (269, .getfield 22, 3), (272, .iload 4, 2), (274, .iaload, 1), (275, .iconst (-1), 1), (276, .if_icmp .eq 41, 3), (279, .aload_n 0, 1), (280, .getfield 22, 3), (283, .iload 4, 2), (285, .aload_n 0, 1), (286, .getfield 52, 3), (289, .aload_n 0, 1), (290, .getfield 22, 3), (293, .iload 4, 2), (295, .iaload, 1), (296, .iaload, 1), (297, .iastore, 1), (298, .aload_n 0, 1), (299, .getfield 25, 3), (302, .iload 4, 2), (304, .aload_n 0, 1), (305, .getfield 52, 3), (308, .aload_n 0, 1), (309, .getfield 25, 3), (312, .iload 4, 2), (314, .iaload, 1), (315, .iaload, 1), (316, .iastore, 1), (317, .iinc 4 1, 3), (320, .goto (-61), 3), (323, .aload_n 0, 1), (324, .iload_n 2, 1), (325, .putfield 174, 3), (328, .return_, 1)]
def pm_117 : pMeth := (⟨"RateShapesModel", "numberAll", "(I)V"⟩, prog_8_method_25_code, 6, none, 6, pc_117)
def pc_118 : List (Nat × Instr × Nat) := [(0, .aload_n 0, 1), (1, .iconst 0, 1), (2, .putfield 73, 3), (5, .lload_n 1, 1), (6, .lconst 0, 1), (7, .lcmp, 1), (8, .ifCond .lt 11, 3), (11, .lload_n 1, 1), (12, .ldc2_w 189, 3), (15, .lcmp, 1), (16, .ifCond .le 5, 3), (19, .iconst 0, 1), (20, .ireturn, 1), (21, .aload_n 0, 1), (22, .lload_n 1, 1), (23, .putfield 191, 3), (26, .iconst 1, 1), (27, .ireturn, 1)]
def pm_118 : pMeth := (⟨"RateShapesModel", "price", "(J)Z"⟩, prog_8_method_27_code, 3, some .boolean, 6, pc_118)
def pc_119 : List (Nat × Instr × Nat) := [(0, .aload_n 0, 1), (1, .iconst 0, 1), (2, .putfield 73, 3), (5, .iload_n 1, 1), (6, .invokestatic 195, 3), (9, .ifCond .eq 19, 3), (12, .lload_n 2, 1), (13, .ldc2_w 71, 3), (16, .lcmp, 1), (17, .ifCond .lt 11, 3), (20, .lload_n 2, 1), (21, .ldc2_w 189, 3), (24, .lcmp, 1), (25, .ifCond .le 5, 3), (28, .iconst 0, 1), (29, .ireturn, 1), (30, .aload_n 0, 1), (31, .getfield 55, 3), (34, .iload_n 1, 1), (35, .lload_n 2, 1), (36, .lastore, 1), (37, .iconst 1, 1), (38, .ireturn, 1)]
def pm_119 : pMeth := (⟨"RateShapesModel", "amount", "(IJ)Z"⟩, prog_8_method_29_code, 4, some .boolean, 6, pc_119)
def pc_120 : List (Nat × Instr × Nat) := [(0, .iload_n 0, 1), (1, .ifCond .lt 13, 3), (4, .iload_n 0, 1), (5, .bipush 8, 2), (7, .if_icmp .ge 7, 3), (10, .iconst 1, 1), (11, .goto 4, 3), (14, .iconst 0, 1), (15, .ireturn, 1)]
def pm_120 : pMeth := (⟨"RateShapesModel", "isUnit", "(I)Z"⟩, prog_8_method_28_code, 1, some .boolean, 6, pc_120)
def pc_121 : List (Nat × Instr × Nat) := [(0, .aload_n 0, 1), (1, .iconst 0, 1), (2, .putfield 73, 3), (5, .iload_n 1, 1), (6, .invokestatic 195, 3), (9, .ifCond .eq 21, 3), (12, .iload_n 2, 1), (13, .invokestatic 195, 3), (16, .ifCond .eq 14, 3), (19, .iload_n 3, 1), (20, .ifCond .lt 10, 3), (23, .iload_n 3, 1), (24, .sipush 1000, 3), (27, .if_icmp .le 5, 3), (30, .iconst 0, 1), (31, .ireturn, 1), (32, .iload_n 2, 1), (33, .istore 4, 2), (35, .iconst 0, 1), (36, .istore 5, 2), (38, .iload 5, 2), (40, .bipush 8, 2), (42, .if_icmp .ge 47, 3), (45, .iload_n 3, 1), (46, .ifCond .le 43, 3), (49, .iload 4, 2), (51, .iload_n 1, 1), (52, .if_icmp .ne 5, 3), (55, .iconst 0, 1), (56, .ireturn, 1), (57, .aload_n 0, 1), (58, .getfield 62, 3), (61, .iload 4, 2), (63, .iaload, 1), (64, .ifCond .ne 10, 3), (67, .bipush 8, 2), (69, .istore 5, 2), (71, .goto 12, 3), (74, .aload_n 0, 1), (75, .getfield 59, 3), (78, .iload 4, 2), (80, .iaload, 1), (81, .istore 4, 2), (83, .iinc 5 1, 3), (86, .goto (-48), 3), (89, .aload_n 0, 1), (90, .getfield 59, 3), (93, .iload_n 1, 1), (94, .iload_n 2, 1), (95, .iastore, 1), (96, .aload_n 0, 1), (97, .getfield 62, 3), (100, .iload_n 1, 1), (101, .iload_n 3, 1), (102, .iastore, 1), (103, .iconst 1, 1), (104, .ireturn, 1)]
def pm_121 : pMeth := (⟨"RateShapesModel", "convert", "(III)Z"⟩, prog_8_method_30_code, 6, some .boolean, 6, pc_121)
def pc_122 : List (Nat × Instr × Nat) := [(0, .aload_n 0, 1), (1, .iload_n 1, 1), (2, .ifCond .eq 8, 3), (5, .iload_n 1, 1), (6, .iconst 1, 1), (7, .if_icmp .ne 7, 3), (10, .iconst 0, 1), (11, .goto 4, 3), (14, .iconst 1, 1), (15, .putfield 73, 3), (18, .aload_n 0, 1), (19, .getfield 73, 3), (22, .ifCond .ne 11, 3), (25, .aload_n 0, 1), (26, .iconst 2, 1), (27, .invokevirtual 219, 3), (30, .ifCond .ne 5, 3), (33, .lconst 0, 1), (34, .lreturn, 1), (35, .aload_n 0, 1), (36, .invokevirtual 222, 3), (39, .lstore_n 2, 1), (40, .ldc2_w 202, 3), (43, .lstore 4, 2), (45, .lload 4, 2), (47, .lconst 0, 1), (48, .lcmp, 1), (49, .ifCond .eq 19, 3), (52, .lload_n 2, 1), (53, .lload 4, 2), (55, .lrem, 1), (56, .lstore 6, 2), (58, .lload 4, 2), (60, .lstore_n 2, 1), (61, .lload 6, 2), (63, .lstore 4, 2), (65, .goto (-20), 3), (68, .iload_n 1, 1), (69, .ifCond .ne 12, 3), (72, .aload_n 0, 1), (73, .invokevirtual 222, 3), (76, .lload_n 2, 1), (77, .ldiv, 1), (78, .goto 8, 3), (81, .ldc2_w 202, 3), (84, .lload_n 2, 1), (85, .ldiv, 1), (86, .lreturn, 1)]
def pm_122 : pMeth := (⟨"RateShapesModel", "value", "(I)J"⟩, prog_8_method_37_code, 8, some .long, 6, pc_122)
def pc_123 : List (Nat × Instr × Nat) := [(0, .aload_n 0, 1), (1, .aload_n 0, 1), (2, .getfield 174, 3), (5, .ifCond .ne 7, 3), (8, .iload_n 1, 1), (9, .goto 18, 3), (12, .aload_n 0, 1), (13, .iconst 0, 1), (14, .invokevirtual 216, 3), (17, .ifCond .ne 9, 3), (20, .iload_n 1, 1), (21, .iconst 1, 1), (22, .iadd, 1), (23, .goto 4, 3), (26, .iconst 0, 1), (27, .putfield 73, 3), (30, .aload_n 0, 1), (31, .getfield 73, 3), (34, .ifCond .ne 7, 3), (37, .iconst 1, 1), (38, .goto 4, 3), (41, .iconst 0, 1), (42, .ireturn, 1)]
def pm_123 : pMeth := (⟨"RateShapesModel", "valued", "(I)Z"⟩, prog_8_method_35_code, 2, some .boolean, 6, pc_123)
def pc_124 : List (Nat × Instr × Nat) := [(0, .aload_n 0, 1), (1, .iload_n 1, 1), (2, .invokevirtual 204, 3), (5, .istore_n 2, 1), (6, .iload_n 2, 1), (7, .iconst 1, 1), (8, .isub, 1), (9, .istore_n 3, 1), (10, .iload_n 3, 1), (11, .iload_n 1, 1), (12, .if_icmp .lt 272, 3), (15, .bipush 60, 2), (17, .iload_n 3, 1), (18, .iadd, 1), (19, .istore 4, 2), (21, .aload_n 0, 1), (22, .getfield 13, 3), (25, .iload 4, 2), (27, .iaload, 1), (28, .iconst 2, 1), (29, .if_icmp .ne 54, 3), (32, .aload_n 0, 1), (33, .aload_n 0, 1), (34, .getfield 19, 3), (37, .iload 4, 2), (39, .iaload, 1), (40, .invokevirtual 207, 3), (43, .lstore 5, 2), (45, .lload 5, 2), (47, .lconst 0, 1), (48, .lcmp, 1), (49, .ifCond .lt 12, 3), (52, .lload 5, 2), (54, .ldc2_w 189, 3), (57, .lcmp, 1), (58, .ifCond .le 5, 3), (61, .iconst 0, 1), (62, .ireturn, 1), (63, .aload_n 0, 1), (64, .getfield 65, 3), (67, .iload_n 3, 1), (68, .aload_n 0, 1), (69, .getfield 16, 3), (72, .iload 4, 2), (74, .iaload, 1), (75, .i2l, 1), (76, .lload 5, 2), (78, .lmul, 1), (79, .lastore, 1), (80, .goto 198, 3), (83, .aload_n 0, 1), (84, .getfield 13, 3), (87, .iload 4, 2), (89, .iaload, 1), (90, .iconst 1, 1), (91, .if_icmp .ne 29, 3), (94, .aload_n 0, 1), (95, .getfield 65, 3), (98, .iload_n 3, 1), (99, .aload_n 0, 1), (100, .getfield 191, 3), (103, .aload_n 0, 1), (104, .getfield 16, 3), (107, .iload 4, 2), (109, .iaload, 1), (110, .i2l, 1), (111, .lmul, 1), (112, .ldc2_w 211, 3), (115, .lmul, 1), (116, .lastore, 1), (117, .goto 161, 3), (120, .aload_n 0, 1), (121, .getfield 13, 3), (124, .iload 4, 2), (126, .iaload, 1), (127, .bipush 7, 2), (129, .if_icmp .ne 18, 3), (132, .aload_n 0, 1), (133, .getfield 65, 3), (136, .iload_n 3, 1), (137, .aload_n 0, 1), (138, .iload 4, 2), (140, .invokevirtual 213, 3), (143, .lastore, 1), (144, .goto 134, 3), (147, .aload_n 0, 1), (148, .getfield 13, 3), (151, .iload 4, 2), (153, .iaload, 1), (154, .ifCond .ne 13, 3), (157, .aload_n 0, 1), (158, .getfield 65, 3), (161, .iload_n 3, 1), (162, .lconst 0, 1), (163, .lastore, 1), (164, .goto 114, 3), (167, .aload_n 0, 1), (168, .getfield 65, 3), (171, .aload_n 0, 1), (172, .getfield 22, 3), (175, .iload 4, 2), (177, .iaload, 1), (178, .laload, 1), (179, .lstore 5, 2), (181, .aload_n 0, 1), (182, .getfield 65, 3), (185, .aload_n 0, 1), (186, .getfield 25, 3), (189, .iload 4, 2), (191, .iaload, 1), (192, .laload, 1), (193, .lstore 7, 2), (195, .aload_n 0, 1), (196, .getfield 65, 3), (199, .iload_n 3, 1), (200, .aload_n 0, 1), (201, .getfield 13, 3), (204, .iload 4, 2), (206, .iaload, 1), (207, .iconst 3, 1), (208, .if_icmp .ne 11, 3), (211, .lload 5, 2), (213, .lload 7, 2), (215, .ladd, 1), (216, .goto 61, 3), (219, .aload_n 0, 1), (220, .getfield 13, 3), (223, .iload 4, 2), (225, .iaload, 1), (226, .iconst 4, 1), (227, .if_icmp .ne 11, 3), (230, .lload 5, 2), (232, .lload 7, 2), (234, .lsub, 1), (235, .goto 42, 3), (238, .aload_n 0, 1), (239, .getfield 13, 3), (242, .iload 4, 2), (244, .iaload, 1), (245, .iconst 5, 1), (246, .if_icmp .ne 7, 3), (249, .iconst 1, 1), (250, .goto 4, 3), (253, .iconst 0, 1), (254, .lload 5, 2), (256, .lload 7, 2), (258, .lcmp, 1), (259, .ifCond .ge 7, 3), (262, .iconst 1, 1), (263, .goto 4, 3), (266, .iconst 0, 1), (267, .if_icmp .ne 8, 3), (270, .lload 5, 2), (272, .goto 5, 3), (275, .lload 7, 2), (277, .lastore, 1), (278, .iinc 3 (-1), 3), (281, .goto (-271), 3), (284, .iconst 1, 1), (285, .ireturn, 1)]
def pm_124 : pMeth := (⟨"RateShapesModel", "reckon", "(I)Z"⟩, prog_8_method_33_code, 9, some .boolean, 6, pc_124)
def pc_125 : List (Nat × Instr × Nat) := [(0, .iload_n 1, 1), (1, .istore_n 2, 1), (2, .aload_n 0, 1), (3, .getfield 25, 3), (6, .bipush 60, 2), (8, .iload_n 2, 1), (9, .iadd, 1), (10, .iaload, 1), (11, .iconst (-1), 1), (12, .if_icmp .eq 16, 3), (15, .aload_n 0, 1), (16, .getfield 25, 3), (19, .bipush 60, 2), (21, .iload_n 2, 1), (22, .iadd, 1), (23, .iaload, 1), (24, .istore_n 2, 1), (25, .goto (-23), 3), (28, .iload_n 2, 1), (29, .iconst 1, 1), (30, .iadd, 1), (31, .ireturn, 1)]
def pm_125 : pMeth := (⟨"RateShapesModel", "behind", "(I)I"⟩, prog_8_method_34_code, 3, some .int, 6, pc_125)
def pc_126 : List (Nat × Instr × Nat) := [(0, .lconst 1, 1), (1, .lstore_n 2, 1), (2, .iload_n 1, 1), (3, .istore 4, 2), (5, .aload_n 0, 1), (6, .getfield 55, 3), (9, .iload 4, 2), (11, .laload, 1), (12, .ldc2_w 71, 3), (15, .lcmp, 1), (16, .ifCond .ne 63, 3), (19, .aload_n 0, 1), (20, .getfield 62, 3), (23, .iload 4, 2), (25, .iaload, 1), (26, .ifCond .ne 7, 3), (29, .ldc2_w 71, 3), (32, .lreturn, 1), (33, .lload_n 2, 1), (34, .aload_n 0, 1), (35, .getfield 62, 3), (38, .iload 4, 2), (40, .iaload, 1), (41, .i2l, 1), (42, .lmul, 1), (43, .ldc2_w 189, 3), (46, .lcmp, 1), (47, .ifCond .le 9, 3), (50, .ldc2_w 198, 3), (53, .goto 13, 3), (56, .lload_n 2, 1), (57, .aload_n 0, 1), (58, .getfield 62, 3), (61, .iload 4, 2), (63, .iaload, 1), (64, .i2l, 1), (65, .lmul, 1), (66, .lstore_n 2, 1), (67, .aload_n 0, 1), (68, .getfield 59, 3), (71, .iload 4, 2), (73, .iaload, 1), (74, .istore 4, 2), (76, .goto (-71), 3), (79, .aload_n 0, 1), (80, .getfield 55, 3), (83, .iload 4, 2), (85, .laload, 1), (86, .lconst 0, 1), (87, .lcmp, 1), (88, .ifCond .ne 5, 3), (91, .lconst 0, 1), (92, .lreturn, 1), (93, .lload_n 2, 1), (94, .ldc2_w 189, 3), (97, .lcmp, 1), (98, .ifCond .gt 19, 3), (101, .aload_n 0, 1), (102, .getfield 55, 3), (105, .iload 4, 2), (107, .laload, 1), (108, .lload_n 2, 1), (109, .lmul, 1), (110, .ldc2_w 189, 3), (113, .lcmp, 1), (114, .ifCond .le 9, 3), (117, .ldc2_w 198, 3), (120, .goto 12, 3), (123, .aload_n 0, 1), (124, .getfield 55, 3), (127, .iload 4, 2), (129, .laload, 1), (130, .lload_n 2, 1), (131, .lmul, 1), (132, .lreturn, 1)]
def pm_126 : pMeth := (⟨"RateShapesModel", "amountOf", "(I)J"⟩, prog_8_method_31_code, 5, some .long, 6, pc_126)
def pc_127 : List (Nat × Instr × Nat) := [(0, .aload_n 0, 1), (1, .getfield 191, 3), (4, .lconst 0, 1), (5, .lcmp, 1), (6, .ifCond .ne 7, 3), (9, .lconst 0, 1), (10, .goto 19, 3), (13, .aload_n 0, 1), (14, .getfield 16, 3), (17, .iload_n 1, 1), (18, .iaload, 1), (19, .i2l, 1), (20, .ldc2_w 200, 3), (23, .lmul, 1), (24, .aload_n 0, 1), (25, .getfield 191, 3), (28, .ldiv, 1), (29, .lstore_n 2, 1), (30, .lconst 0, 1), (31, .lstore 4, 2), (33, .iconst 0, 1), (34, .istore 6, 2), (36, .iload 6, 2), (38, .aload_n 0, 1), (39, .getfield 28, 3), (42, .iload_n 1, 1), (43, .iaload, 1), (44, .if_icmp .ge 51, 3), (47, .aload_n 0, 1), (48, .getfield 191, 3), (51, .lconst 0, 1), (52, .lcmp, 1), (53, .ifCond .eq 21, 3), (56, .aload_n 0, 1), (57, .getfield 31, 3), (60, .bipush 6, 2), (62, .iload_n 1, 1), (63, .imul, 1), (64, .iload 6, 2), (66, .iadd, 1), (67, .iaload, 1), (68, .i2l, 1), (69, .lload_n 2, 1), (70, .lcmp, 1), (71, .ifCond .gt 18, 3), (74, .aload_n 0, 1), (75, .getfield 34, 3), (78, .bipush 6, 2), (80, .iload_n 1, 1), (81, .imul, 1), (82, .iload 6, 2), (84, .iadd, 1), (85, .iaload, 1), (86, .i2l, 1), (87, .lstore 4, 2), (89, .iinc 6 1, 3), (92, .goto (-56), 3), (95, .lload 4, 2), (97, .ldc2_w 202, 3), (100, .lmul, 1), (101, .lreturn, 1)]
def pm_127 : pMeth := (⟨"RateShapesModel", "stepOf", "(I)J"⟩, prog_8_method_32_code, 7, some .long, 6, pc_127)
def pc_128 : List (Nat × Instr × Nat) := [(0, .aload_n 0, 1), (1, .getfield 65, 3), (4, .iconst 0, 1), (5, .laload, 1), (6, .lconst 0, 1), (7, .lcmp, 1), (8, .ifCond .ge 7, 3), (11, .lconst 0, 1), (12, .goto 9, 3), (15, .aload_n 0, 1), (16, .getfield 65, 3), (19, .iconst 0, 1), (20, .laload, 1), (21, .lreturn, 1)]
def pm_128 : pMeth := (⟨"RateShapesModel", "rate", "()J"⟩, prog_8_method_36_code, 1, some .long, 6, pc_128)
def pc_129 : List (Nat × Instr × Nat) := [(0, .aload_n 0, 1), (1, .iload_n 1, 1), (2, .ifCond .lt 12, 3), (5, .iload_n 1, 1), (6, .iconst 3, 1), (7, .if_icmp .gt 7, 3), (10, .iconst 0, 1), (11, .goto 4, 3), (14, .iconst 1, 1), (15, .putfield 73, 3), (18, .aload_n 0, 1), (19, .getfield 73, 3), (22, .ifCond .ne 11, 3), (25, .aload_n 0, 1), (26, .iconst 2, 1), (27, .invokevirtual 219, 3), (30, .ifCond .ne 5, 3), (33, .lconst 0, 1), (34, .lreturn, 1), (35, .aload_n 0, 1), (36, .invokevirtual 222, 3), (39, .lstore_n 2, 1), (40, .iload_n 1, 1), (41, .ifCond .ne 9, 3), (44, .lload_n 2, 1), (45, .ldc2_w 202, 3), (48, .ldiv, 1), (49, .lreturn, 1), (50, .iload_n 1, 1), (51, .iconst 1, 1), (52, .if_icmp .ne 13, 3), (55, .lload_n 2, 1), (56, .ldc2_w 226, 3), (59, .ladd, 1), (60, .ldc2_w 202, 3), (63, .ldiv, 1), (64, .lreturn, 1), (65, .iload_n 1, 1), (66, .iconst 2, 1), (67, .if_icmp .ne 15, 3), (70, .lload_n 2, 1), (71, .ldc2_w 228, 3), (74, .ladd, 1), (75, .ldc2_w 202, 3), (78, .ldiv, 1), (79, .goto 12, 3), (82, .lload_n 2, 1), (83, .ldc2_w 230, 3), (86, .ldiv, 1), (87, .ldc2_w 211, 3), (90, .lmul, 1), (91, .lreturn, 1)]
def pm_129 : pMeth := (⟨"RateShapesModel", "cents", "(I)J"⟩, prog_8_method_38_code, 4, some .long, 6, pc_129)
def pc_130 : List (Nat × Instr × Nat) := [(0, .aload_n 0, 1), (1, .iload_n 1, 1), (2, .ifCond .lt 20, 3), (5, .iload_n 1, 1), (6, .aload_n 0, 1), (7, .getfield 174, 3), (10, .if_icmp .ge 12, 3), (13, .iload_n 2, 1), (14, .ifCond .lt 8, 3), (17, .iload_n 2, 1), (18, .iconst 5, 1), (19, .if_icmp .le 7, 3), (22, .iconst 1, 1), (23, .goto 4, 3), (26, .iconst 0, 1), (27, .putfield 73, 3), (30, .aload_n 0, 1), (31, .getfield 73, 3), (34, .ifCond .eq 5, 3), (37, .iconst 0, 1), (38, .ireturn, 1), (39, .bipush 60, 2), (41, .iload_n 1, 1), (42, .iadd, 1), (43, .istore_n 3, 1), (44, .iload_n 2, 1), (45, .tableswitch 70 0 4 #[35, 42, 49, 56, 63], 35), (80, .aload_n 0, 1), (81, .getfield 13, 3), (84, .iload_n 3, 1), (85, .iaload, 1), (86, .ireturn, 1), (87, .aload_n 0, 1), (88, .getfield 16, 3), (91, .iload_n 3, 1), (92, .iaload, 1), (93, .ireturn, 1), (94, .aload_n 0, 1), (95, .getfield 19, 3), (98, .iload_n 3, 1), (99, .iaload, 1), (100, .ireturn, 1), (101, .aload_n 0, 1), (102, .getfield 22, 3), (105, .iload_n 3, 1), (106, .iaload, 1), (107, .ireturn, 1), (108, .aload_n 0, 1), (109, .getfield 25, 3), (112, .iload_n 3, 1), (113, .iaload, 1), (114, .ireturn, 1), (115, .aload_n 0, 1), (116, .getfield 28, 3), (119, .iload_n 3, 1), (120, .iaload, 1), (121, .ireturn, 1)]
def pm_130 : pMeth := (⟨"RateShapesModel", "node", "(II)I"⟩, prog_8_method_39_code, 4, some .int, 6, pc_130)
def pc_131 : List (Nat × Instr × Nat) := [(0, .aload_n 0, 1), (1, .iload_n 1, 1), (2, .ifCond .lt 11, 3), (5, .iload_n 1, 1), (6, .aload_n 0, 1), (7, .getfield 174, 3), (10, .if_icmp .lt 7, 3), (13, .iconst 1, 1), (14, .goto 16, 3), (17, .aload_n 0, 1), (18, .iload_n 1, 1), (19, .invokevirtual 216, 3), (22, .ifCond .ne 7, 3), (25, .iconst 2, 1), (26, .goto 4, 3), (29, .iconst 0, 1), (30, .putfield 73, 3), (33, .aload_n 0, 1), (34, .getfield 73, 3), (37, .ifCond .eq 7, 3), (40, .lconst 0, 1), (41, .goto 9, 3), (44, .aload_n 0, 1), (45, .getfield 65, 3), (48, .iload_n 1, 1), (49, .laload, 1), (50, .lreturn, 1)]
def pm_131 : pMeth := (⟨"RateShapesModel", "part", "(I)J"⟩, prog_8_method_40_code, 2, some .long, 6, pc_131)
def pc_132 : List (Nat × Instr × Nat) := [(0, .aload_n 0, 1), (1, .iconst 0, 1), (2, .putfield 73, 3), (5, .iconst 0, 1), (6, .istore_n 2, 1), (7, .iconst 0, 1), (8, .istore_n 3, 1), (9, .iload_n 3, 1), (10, .bipush 8, 2), (12, .if_icmp .ge 86, 3), (15, .iconst 0, 1), (16, .istore 4, 2), (18, .bipush 60, 2), (20, .istore 5, 2), (22, .iload 5, 2), (24, .bipush 60, 2), (26, .aload_n 0, 1), (27, .getfield 174, 3), (30, .iadd, 1), (31, .if_icmp .ge 34, 3), (34, .aload_n 0, 1), (35, .getfield 13, 3), (38, .iload 5, 2), (40, .iaload, 1), (41, .iconst 2, 1), (42, .if_icmp .ne 17, 3), (45, .aload_n 0, 1), (46, .getfield 19, 3), (49, .iload 5, 2), (51, .iaload, 1), (52, .iload_n 3, 1), (53, .if_icmp .ne 6, 3), (56, .iconst 1, 1), (57, .istore 4, 2), (59, .iinc 5 1, 3), (62, .goto (-40), 3), (65, .iload 4, 2), (67, .ifCond .eq 25, 3), (70, .aload_n 0, 1), (71, .iload_n 3, 1), (72, .invokevirtual 207, 3), (75, .ldc2_w 71, 3), (78, .lcmp, 1), (79, .ifCond .ne 13, 3), (82, .iload_n 2, 1), (83, .iload_n 1, 1), (84, .if_icmp .ne 5, 3), (87, .iload_n 3, 1), (88, .ireturn, 1), (89, .iinc 2 1, 3), (92, .iinc 3 1, 3), (95, .goto (-86), 3), (98, .iconst (-1), 1), (99, .ireturn, 1)]
def pm_132 : pMeth := (⟨"RateShapesModel", "missing", "(I)I"⟩, prog_8_method_41_code, 6, some .int, 6, pc_132)
def pc_133 : List (Nat × Instr × Nat) := [(0, .aload_n 0, 1), (1, .aload_n 0, 1), (2, .getfield 174, 3), (5, .ifCond .ne 7, 3), (8, .iconst 1, 1), (9, .goto 4, 3), (12, .iconst 0, 1), (13, .putfield 73, 3), (16, .aload_n 0, 1), (17, .getfield 73, 3), (20, .ifCond .eq 5, 3), (23, .iconst 0, 1), (24, .ireturn, 1), (25, .aload_n 0, 1), (26, .iconst 0, 1), (27, .putfield 232, 3), (30, .iconst 1, 1), (31, .istore_n 1, 1), (32, .aload_n 0, 1), (33, .getfield 49, 3), (36, .iconst 0, 1), (37, .iconst 0, 1), (38, .iastore, 1), (39, .iload_n 1, 1), (40, .ifCond .le 37, 3), (43, .iinc 1 (-1), 3), (46, .aload_n 0, 1), (47, .getfield 49, 3), (50, .iload_n 1, 1), (51, .iaload, 1), (52, .istore_n 2, 1), (53, .iload_n 2, 1), (54, .ifCond .ge 13, 3), (57, .aload_n 0, 1), (58, .iconst (-1), 1), (59, .iload_n 2, 1), (60, .isub, 1), (61, .invokevirtual 235, 3), (64, .goto 10, 3), (67, .aload_n 0, 1), (68, .iload_n 2, 1), (69, .iload_n 1, 1), (70, .invokevirtual 260, 3), (73, .istore_n 1, 1), (74, .goto (-35), 3), (77, .aload_n 0, 1), (78, .getfield 232, 3), (81, .ireturn, 1)]
def pm_133 : pMeth := (⟨"RateShapesModel", "print", "()I"⟩, prog_8_method_49_code, 3, some .int, 6, pc_133)
def pc_134 : List (Nat × Instr × Nat) := [(0, .aload_n 0, 1), (1, .getfield 68, 3), (4, .aload_n 0, 1), (5, .getfield 232, 3), (8, .iload_n 1, 1), (9, .iastore, 1), (10, .aload_n 0, 1), (11, .dup, 1), (12, .getfield 232, 3), (15, .iconst 1, 1), (16, .iadd, 1), (17, .putfield 232, 3), (20, .return_, 1)]
def pm_134 : pMeth := (⟨"RateShapesModel", "put", "(I)V"⟩, prog_8_method_42_code, 2, none, 6, pc_134)
def pc_135 : List (Nat × Instr × Nat) := [(0, .bipush 60, 2), (2, .iload_n 1, 1), (3, .iadd, 1), (4, .istore_n 3, 1), (5, .aload_n 0, 1), (6, .getfield 13, 3), (9, .iload_n 3, 1), (10, .iaload, 1), (11, .ifCond .ne 13, 3), (14, .aload_n 0, 1), (15, .ldc2_w 151, 3), (18, .invokevirtual 243, 3), (21, .goto 183, 3), (24, .aload_n 0, 1), (25, .getfield 13, 3), (28, .iload_n 3, 1), (29, .iaload, 1), (30, .bipush 7, 2), (32, .if_icmp .ne 11, 3), (35, .aload_n 0, 1), (36, .iload_n 3, 1), (37, .invokevirtual 247, 3), (40, .goto 164, 3), (43, .aload_n 0, 1), (44, .getfield 13, 3), (47, .iload_n 3, 1), (48, .iaload, 1), (49, .iconst 2, 1), (50, .if_icmp .gt 54, 3), (53, .aload_n 0, 1), (54, .aload_n 0, 1), (55, .getfield 16, 3), (58, .iload_n 3, 1), (59, .iaload, 1), (60, .invokevirtual 250, 3), (63, .aload_n 0, 1), (64, .getfield 13, 3), (67, .iload_n 3, 1), (68, .iaload, 1), (69, .iconst 1, 1), (70, .if_icmp .ne 12, 3), (73, .aload_n 0, 1), (74, .bipush 37, 2), (76, .invokevirtual 235, 3), (79, .goto 125, 3), (82, .aload_n 0, 1), (83, .bipush 47, 2), (85, .invokevirtual 235, 3), (88, .aload_n 0, 1), (89, .bipush 65, 2), (91, .aload_n 0, 1), (92, .getfield 19, 3), (95, .iload_n 3, 1), (96, .iaload, 1), (97, .iadd, 1), (98, .invokevirtual 235, 3), (101, .goto 103, 3), (104, .aload_n 0, 1), (105, .getfield 13, 3), (108, .iload_n 3, 1), (109, .iaload, 1), (110, .iconst 5, 1), (111, .if_icmp .lt 86, 3), (114, .aload_n 0, 1), (115, .aload_n 0, 1), (116, .getfield 13, 3), (119, .iload_n 3, 1), (120, .iaload, 1), (121, .iconst 5, 1), (122, .if_icmp .ne 9, 3), (125, .ldc2_w 253, 3), (128, .goto 6, 3), (131, .ldc2_w 255, 3), (134, .invokevirtual 243, 3), (137, .aload_n 0, 1), (138, .getfield 49, 3), (141, .iload_n 2, 1), (142, .bipush (-42), 2), (144, .iastore, 1), (145, .aload_n 0, 1), (146, .getfield 49, 3), (149, .iload_n 2, 1), (150, .iconst 1, 1), (151, .iadd, 1), (152, .aload_n 0, 1), (153, .getfield 25, 3), (156, .iload_n 3, 1), (157, .iaload, 1), (158, .iastore, 1), (159, .aload_n 0, 1), (160, .getfield 49, 3), (163, .iload_n 2, 1), (164, .iconst 2, 1), (165, .iadd, 1), (166, .bipush (-33), 2), (168, .iastore, 1), (169, .aload_n 0, 1), (170, .getfield 49, 3), (173, .iload_n 2, 1), (174, .iconst 3, 1), (175, .iadd, 1), (176, .bipush (-45), 2), (178, .iastore, 1), (179, .aload_n 0, 1), (180, .getfield 49, 3), (183, .iload_n 2, 1), (184, .iconst 4, 1), (185, .iadd, 1), (186, .aload_n 0, 1), (187, .getfield 22, 3), (190, .iload_n 3, 1), (191, .iaload, 1), (192, .iastore, 1), (193, .iload_n 2, 1), (194, .iconst 5, 1), (195, .iadd, 1), (196, .ireturn, 1), (197, .aload_n 0, 1), (198, .iload_n 3, 1), (199, .iload_n 2, 1), (200, .invokevirtual 257, 3), (203, .ireturn, 1), (204, .iload_n 2, 1), (205, .ireturn, 1)]
def pm_135 : pMeth := (⟨"RateShapesModel", "putNode", "(II)I"⟩, prog_8_method_47_code, 4, some .int, 6, pc_135)
def pc_136 : List (Nat × Instr × Nat) := [(0, .bipush 56, 2), (2, .istore_n 3, 1), (3, .iload_n 3, 1), (4, .ifCond .lt 33, 3), (7, .lload_n 1, 1), (8, .iload_n 3, 1), (9, .lushr, 1), (10, .ldc2_w 138, 3), (13, .land, 1), (14, .lconst 0, 1), (15, .lcmp, 1), (16, .ifCond .eq 15, 3), (19, .aload_n 0, 1), (20, .lload_n 1, 1), (21, .iload_n 3, 1), (22, .lushr, 1), (23, .ldc2_w 138, 3), (26, .land, 1), (27, .l2i, 1), (28, .invokevirtual 235, 3), (31, .iinc 3 (-8), 3), (34, .goto (-31), 3), (37, .return_, 1)]
def pm_136 : pMeth := (⟨"RateShapesModel", "putWord", "(J)V"⟩, prog_8_method_45_code, 4, none, 6, pc_136)
def pc_137 : List (Nat × Instr × Nat) := [(0, .aload_n 0, 1), (1, .ldc2_w 241, 3), (4, .invokevirtual 243, 3), (7, .aload_n 0, 1), (8, .aload_n 0, 1), (9, .getfield 16, 3), (12, .iload_n 1, 1), (13, .iaload, 1), (14, .invokevirtual 238, 3), (17, .iconst 0, 1), (18, .istore_n 2, 1), (19, .iload_n 2, 1), (20, .aload_n 0, 1), (21, .getfield 28, 3), (24, .iload_n 1, 1), (25, .iaload, 1), (26, .if_icmp .ge 66, 3), (29, .aload_n 0, 1), (30, .iload_n 2, 1), (31, .ifCond .ne 8, 3), (34, .bipush 58, 2), (36, .goto 5, 3), (39, .bipush 44, 2), (41, .invokevirtual 235, 3), (44, .aload_n 0, 1), (45, .bipush 32, 2), (47, .invokevirtual 235, 3), (50, .aload_n 0, 1), (51, .aload_n 0, 1), (52, .getfield 31, 3), (55, .bipush 6, 2), (57, .iload_n 1, 1), (58, .imul, 1), (59, .iload_n 2, 1), (60, .iadd, 1), (61, .iaload, 1), (62, .invokevirtual 238, 3), (65, .aload_n 0, 1), (66, .bipush 61, 2), (68, .invokevirtual 235, 3), (71, .aload_n 0, 1), (72, .aload_n 0, 1), (73, .getfield 34, 3), (76, .bipush 6, 2), (78, .iload_n 1, 1), (79, .imul, 1), (80, .iload_n 2, 1), (81, .iadd, 1), (82, .iaload, 1), (83, .invokevirtual 238, 3), (86, .iinc 2 1, 3), (89, .goto (-70), 3), (92, .aload_n 0, 1), (93, .bipush 41, 2), (95, .invokevirtual 235, 3), (98, .return_, 1)]
def pm_137 : pMeth := (⟨"RateShapesModel", "putSteps", "(I)V"⟩, prog_8_method_46_code, 3, none, 6, pc_137)
def pc_138 : List (Nat × Instr × Nat) := [(0, .iconst 1, 1), (1, .istore_n 2, 1), (2, .iload_n 1, 1), (3, .iload_n 2, 1), (4, .idiv, 1), (5, .bipush 9, 2), (7, .if_icmp .le 11, 3), (10, .iload_n 2, 1), (11, .bipush 10, 2), (13, .imul, 1), (14, .istore_n 2, 1), (15, .goto (-13), 3), (18, .iload_n 2, 1), (19, .istore_n 3, 1), (20, .iload_n 3, 1), (21, .ifCond .le 24, 3), (24, .aload_n 0, 1), (25, .bipush 48, 2), (27, .iload_n 1, 1), (28, .iload_n 3, 1), (29, .idiv, 1), (30, .bipush 10, 2), (32, .irem, 1), (33, .iadd, 1), (34, .invokevirtual 235, 3), (37, .iload_n 3, 1), (38, .bipush 10, 2), (40, .idiv, 1), (41, .istore_n 3, 1), (42, .goto (-22), 3), (45, .return_, 1)]
def pm_138 : pMeth := (⟨"RateShapesModel", "putWhole", "(I)V"⟩, prog_8_method_43_code, 4, none, 6, pc_138)
def pc_139 : List (Nat × Instr × Nat) := [(0, .aload_n 0, 1), (1, .iload_n 1, 1), (2, .sipush 1000, 3), (5, .idiv, 1), (6, .invokevirtual 238, 3), (9, .iload_n 1, 1), (10, .sipush 1000, 3), (13, .irem, 1), (14, .istore_n 2, 1), (15, .iload_n 2, 1), (16, .ifCond .ne 4, 3), (19, .return_, 1), (20, .aload_n 0, 1), (21, .bipush 46, 2), (23, .invokevirtual 235, 3), (26, .bipush 100, 2), (28, .istore_n 3, 1), (29, .iload_n 3, 1), (30, .ifCond .le 29, 3), (33, .iload_n 2, 1), (34, .ifCond .le 25, 3), (37, .aload_n 0, 1), (38, .bipush 48, 2), (40, .iload_n 2, 1), (41, .iload_n 3, 1), (42, .idiv, 1), (43, .iadd, 1), (44, .invokevirtual 235, 3), (47, .iload_n 2, 1), (48, .iload_n 3, 1), (49, .irem, 1), (50, .istore_n 2, 1), (51, .iload_n 3, 1), (52, .bipush 10, 2), (54, .idiv, 1), (55, .istore_n 3, 1), (56, .goto (-27), 3), (59, .return_, 1)]
def pm_139 : pMeth := (⟨"RateShapesModel", "putNumber", "(I)V"⟩, prog_8_method_44_code, 4, none, 6, pc_139)
def pc_140 : List (Nat × Instr × Nat) := [(0, .iload_n 2, 1), (1, .istore_n 3, 1), (2, .aload_n 0, 1), (3, .getfield 13, 3), (6, .bipush 60, 2), (8, .aload_n 0, 1), (9, .getfield 25, 3), (12, .iload_n 1, 1), (13, .iaload, 1), (14, .iadd, 1), (15, .iaload, 1), (16, .iconst 3, 1), (17, .if_icmp .eq 21, 3), (20, .aload_n 0, 1), (21, .getfield 13, 3), (24, .bipush 60, 2), (26, .aload_n 0, 1), (27, .getfield 25, 3), (30, .iload_n 1, 1), (31, .iaload, 1), (32, .iadd, 1), (33, .iaload, 1), (34, .iconst 4, 1), (35, .if_icmp .ne 7, 3), (38, .iconst 1, 1), (39, .goto 4, 3), (42, .iconst 0, 1), (43, .istore 4, 2), (45, .iload 4, 2), (47, .ifCond .eq 14, 3), (50, .aload_n 0, 1), (51, .getfield 49, 3), (54, .iload_n 3, 1), (55, .bipush (-42), 2), (57, .iastore, 1), (58, .iinc 3 1, 3), (61, .aload_n 0, 1), (62, .getfield 49, 3), (65, .iload_n 3, 1), (66, .aload_n 0, 1), (67, .getfield 25, 3), (70, .iload_n 1, 1), (71, .iaload, 1), (72, .iastore, 1), (73, .iinc 3 1, 3), (76, .iload 4, 2), (78, .ifCond .eq 14, 3), (81, .aload_n 0, 1), (82, .getfield 49, 3), (85, .iload_n 3, 1), (86, .bipush (-41), 2), (88, .iastore, 1), (89, .iinc 3 1, 3), (92, .aload_n 0, 1), (93, .getfield 49, 3), (96, .iload_n 3, 1), (97, .bipush (-33), 2), (99, .iastore, 1), (100, .aload_n 0, 1), (101, .getfield 49, 3), (104, .iload_n 3, 1), (105, .iconst 1, 1), (106, .iadd, 1), (107, .iconst (-1), 1), (108, .aload_n 0, 1), (109, .getfield 13, 3), (112, .iload_n 1, 1), (113, .iaload, 1), (114, .iconst 3, 1), (115, .if_icmp .ne 8, 3), (118, .bipush 43, 2), (120, .goto 5, 3), (123, .bipush 45, 2), (125, .isub, 1), (126, .iastore, 1), (127, .aload_n 0, 1), (128, .getfield 49, 3), (131, .iload_n 3, 1), (132, .iconst 2, 1), (133, .iadd, 1), (134, .bipush (-33), 2), (136, .iastore, 1), (137, .aload_n 0, 1), (138, .getfield 49, 3), (141, .iload_n 3, 1), (142, .iconst 3, 1), (143, .iadd, 1), (144, .aload_n 0, 1), (145, .getfield 22, 3), (148, .iload_n 1, 1), (149, .iaload, 1), (150, .iastore, 1), (151, .iload_n 3, 1), (152, .iconst 4, 1), (153, .iadd, 1), (154, .ireturn, 1)]
def pm_140 : pMeth := (⟨"RateShapesModel", "putTwo", "(II)I"⟩, prog_8_method_48_code, 5, some .int, 6, pc_140)
def pc_141 : List (Nat × Instr × Nat) := [(0, .aload_n 0, 1), (1, .iload_n 1, 1), (2, .ifCond .lt 11, 3), (5, .iload_n 1, 1), (6, .aload_n 0, 1), (7, .getfield 232, 3), (10, .if_icmp .lt 7, 3), (13, .iconst 1, 1), (14, .goto 4, 3), (17, .iconst 0, 1), (18, .putfield 73, 3), (21, .aload_n 0, 1), (22, .getfield 73, 3), (25, .ifCond .eq 7, 3), (28, .iconst 0, 1), (29, .goto 9, 3), (32, .aload_n 0, 1), (33, .getfield 68, 3), (36, .iload_n 1, 1), (37, .iaload, 1), (38, .ireturn, 1)]
def pm_141 : pMeth := (⟨"RateShapesModel", "at", "(I)I"⟩, prog_8_method_50_code, 2, some .int, 6, pc_141)
def pc_142 : List (Nat × Instr × Nat) := [(0, .lload_n 1, 1), (1, .lconst 0, 1), (2, .lcmp, 1), (3, .ifCond .lt 29, 3), (6, .lload_n 1, 1), (7, .ldc2_w 263, 3), (10, .lcmp, 1), (11, .ifCond .gt 21, 3), (14, .lload_n 3, 1), (15, .lconst 0, 1), (16, .lcmp, 1), (17, .ifCond .lt 15, 3), (20, .lload_n 3, 1), (21, .ldc2_w 263, 3), (24, .lcmp, 1), (25, .ifCond .gt 7, 3), (28, .iconst 1, 1), (29, .goto 4, 3), (32, .iconst 0, 1), (33, .istore 5, 2), (35, .aload_n 0, 1), (36, .iload 5, 2), (38, .ifCond .ne 7, 3), (41, .iconst 1, 1), (42, .goto 14, 3), (45, .lload_n 3, 1), (46, .lconst 0, 1), (47, .lcmp, 1), (48, .ifCond .ne 7, 3), (51, .iconst 2, 1), (52, .goto 4, 3), (55, .iconst 0, 1), (56, .putfield 73, 3), (59, .aload_n 0, 1), (60, .getfield 73, 3), (63, .ifCond .eq 7, 3), (66, .lconst 0, 1), (67, .goto 10, 3), (70, .lload_n 1, 1), (71, .ldc2_w 200, 3), (74, .lmul, 1), (75, .lload_n 3, 1), (76, .ldiv, 1), (77, .lreturn, 1)]
def pm_142 : pMeth := (⟨"RateShapesModel", "step", "(JJ)J"⟩, prog_8_method_51_code, 6, some .long, 6, pc_142)
def pc_143 : List (Nat × Instr × Nat) := [(0, .aload_n 0, 1), (1, .iconst 0, 1), (2, .putfield 73, 3), (5, .iload_n 1, 1), (6, .tableswitch 61 0 3 #[30, 35, 40, 45], 30), (36, .aload_n 0, 1), (37, .getfield 77, 3), (40, .ireturn, 1), (41, .aload_n 0, 1), (42, .getfield 174, 3), (45, .ireturn, 1), (46, .aload_n 0, 1), (47, .getfield 232, 3), (50, .ireturn, 1), (51, .aload_n 0, 1), (52, .getfield 174, 3), (55, .ifCond .ne 7, 3), (58, .iconst 0, 1), (59, .goto 7, 3), (62, .aload_n 0, 1), (63, .getfield 177, 3), (66, .ireturn, 1), (67, .iconst (-1), 1), (68, .ireturn, 1)]
def pm_143 : pMeth := (⟨"RateShapesModel", "count", "(I)I"⟩, prog_8_method_52_code, 2, some .int, 6, pc_143)
def pc_144 : List (Nat × Instr × Nat) := [(0, .new 8, 3), (3, .dup, 1), (4, .invokespecial 45, 3), (7, .astore_n 1, 1), (8, .new 46, 3), (11, .dup, 1), (12, .invokespecial 48, 3), (15, .astore_n 2, 1), (16, .iconst 1, 1), (17, .newarray .long, 2), (19, .astore_n 3, 1), (20, .iconst 0, 1), (21, .istore 4, 2), (23, .iload 4, 2), (25, .aload_n 0, 1), (26, .arraylength, 1), (27, .iconst 5, 1), (28, .isub, 1), (29, .if_icmp .gt 812, 3), (32, .aload_n 0, 1), (33, .iload 4, 2), (35, .iaload, 1), (36, .bipush 15, 2), (38, .iand, 1), (39, .tableswitch 796 0 13 #[69, 94, 107, 164, 233, 282, 337, 392, 460, 515, 540, 584, 640, 771], 69), (108, .aload_n 1, 1), (109, .aload_n 0, 1), (110, .iload 4, 2), (112, .iconst 1, 1), (113, .iadd, 1), (114, .iaload, 1), (115, .invokevirtual 49, 3), (118, .aload_n 2, 1), (119, .aload_n 0, 1), (120, .iload 4, 2), (122, .iconst 1, 1), (123, .iadd, 1), (124, .iaload, 1), (125, .invokevirtual 53, 3), (128, .if_icmp .eq 707, 3), (131, .iconst 0, 1), (132, .ireturn, 1), (133, .aload_n 1, 1), (134, .invokevirtual 54, 3), (137, .aload_n 2, 1), (138, .invokevirtual 57, 3), (141, .if_icmp .eq 694, 3), (144, .iconst 0, 1), (145, .ireturn, 1), (146, .aload_n 1, 1), (147, .aload_n 0, 1), (148, .iload 4, 2), (150, .iconst 1, 1), (151, .iadd, 1), (152, .iaload, 1), (153, .i2l, 1), (154, .bipush 32, 2), (156, .lshl, 1), (157, .aload_n 0, 1), (158, .iload 4, 2), (160, .iconst 2, 1), (161, .iadd, 1), (162, .iaload, 1), (163, .i2l, 1), (164, .ldc2_w 58, 3), (167, .land, 1), (168, .lor, 1), (169, .invokevirtual 60, 3), (172, .aload_n 2, 1), (173, .aload_n 0, 1), (174, .iload 4, 2), (176, .iconst 1, 1), (177, .iadd, 1), (178, .iaload, 1), (179, .i2l, 1), (180, .bipush 32, 2), (182, .lshl, 1), (183, .aload_n 0, 1), (184, .iload 4, 2), (186, .iconst 2, 1), (187, .iadd, 1), (188, .iaload, 1), (189, .i2l, 1), (190, .ldc2_w 58, 3), (193, .land, 1), (194, .lor, 1), (195, .invokevirtual 64, 3), (198, .if_icmp .eq 637, 3), (201, .iconst 0, 1), (202, .ireturn, 1), (203, .aload_n 1, 1), (204, .aload_n 0, 1), (205, .iload 4, 2), (207, .iconst 1, 1), (208, .iadd, 1), (209, .iaload, 1), (210, .aload_n 0, 1), (211, .iload 4, 2), (213, .iconst 2, 1), (214, .iadd, 1), (215, .iaload, 1), (216, .i2l, 1), (217, .bipush 32, 2), (219, .lshl, 1), (220, .aload_n 0, 1), (221, .iload 4, 2), (223, .iconst 3, 1), (224, .iadd, 1), (225, .iaload, 1), (226, .i2l, 1), (227, .ldc2_w 58, 3), (230, .land, 1), (231, .lor, 1), (232, .invokevirtual 65, 3), (235, .aload_n 2, 1), (236, .aload_n 0, 1), (237, .iload 4, 2), (239, .iconst 1, 1), (240, .iadd, 1), (241, .iaload, 1), (242, .aload_n 0, 1), (243, .iload 4, 2), (245, .iconst 2, 1), (246, .iadd, 1), (247, .iaload, 1), (248, .i2l, 1), (249, .bipush 32, 2), (251, .lshl, 1), (252, .aload_n 0, 1), (253, .iload 4, 2), (255, .iconst 3, 1), (256, .iadd, 1), (257, .iaload, 1), (258, .i2l, 1), (259, .ldc2_w 58, 3), (262, .land, 1), (263, .lor, 1), (264, .invokevirtual 69, 3), (267, .if_icmp .eq 568, 3), (270, .iconst 0, 1), (271, .ireturn, 1), (272, .aload_n 1, 1), (273, .aload_n 0, 1), (274, .iload 4, 2), (276, .iconst 1, 1), (277, .iadd, 1), (278, .iaload, 1), (279, .aload_n 0, 1), (280, .iload 4, 2), (282, .iconst 2, 1), (283, .iadd, 1), (284, .iaload, 1), (285, .aload_n 0, 1), (286, .iload 4, 2), (288, .iconst 3, 1), (289, .iadd, 1), (290, .iaload, 1), (291, .invokevirtual 70, 3), (294, .aload_n 2, 1), (295, .aload_n 0, 1), (296, .iload 4, 2), (298, .iconst 1, 1), (299, .iadd, 1), (300, .iaload, 1), (301, .aload_n 0, 1), (302, .iload 4, 2), (304, .iconst 2, 1), (305, .iadd, 1), (306, .iaload, 1), (307, .aload_n 0, 1), (308, .iload 4, 2), (310, .iconst 3, 1), (311, .iadd, 1), (312, .iaload, 1), (313, .invokevirtual 74, 3), (316, .if_icmp .eq 519, 3), (319, .iconst 0, 1), (320, .ireturn, 1), (321, .aload_n 1, 1), (322, .aload_n 0, 1), (323, .iload 4, 2), (325, .iconst 1, 1), (326, .iadd, 1), (327, .iaload, 1), (328, .aload_n 3, 1), (329, .invokestatic 75, 3), (332, .istore 5, 2), (334, .aload_n 2, 1), (335, .aload_n 0, 1), (336, .iload 4, 2), (338, .iconst 1, 1), (339, .iadd, 1), (340, .iaload, 1), (341, .invokevirtual 80, 3), (344, .lstore 6, 2), (346, .aload_n 2, 1), (347, .invokevirtual 81, 3), (350, .iload 5, 2), (352, .if_icmp .eq 5, 3), (355, .iconst 0, 1), (356, .ireturn, 1), (357, .iload 5, 2), (359, .ifCond .ne 14, 3), (362, .aload_n 3, 1), (363, .iconst 0, 1), (364, .laload, 1), (365, .lload 6, 2), (367, .lcmp, 1), (368, .ifCond .eq 5, 3), (371, .iconst 0, 1), (372, .ireturn, 1), (373, .goto 462, 3), (376, .aload_n 1, 1), (377, .aload_n 0, 1), (378, .iload 4, 2), (380, .iconst 1, 1), (381, .iadd, 1), (382, .iaload, 1), (383, .aload_n 3, 1), (384, .invokestatic 84, 3), (387, .istore 5, 2), (389, .aload_n 2, 1), (390, .aload_n 0, 1), (391, .iload 4, 2), (393, .iconst 1, 1), (394, .iadd, 1), (395, .iaload, 1), (396, .invokevirtual 86, 3), (399, .lstore 6, 2), (401, .aload_n 2, 1), (402, .invokevirtual 81, 3), (405, .iload 5, 2), (407, .if_icmp .eq 5, 3), (410, .iconst 0, 1), (411, .ireturn, 1), (412, .iload 5, 2), (414, .ifCond .ne 14, 3), (417, .aload_n 3, 1), (418, .iconst 0, 1), (419, .laload, 1), (420, .lload 6, 2), (422, .lcmp, 1), (423, .ifCond .eq 5, 3), (426, .iconst 0, 1), (427, .ireturn, 1), (428, .goto 407, 3), (431, .aload_n 1, 1), (432, .aload_n 0, 1), (433, .iload 4, 2), (435, .iconst 1, 1), (436, .iadd, 1), (437, .iaload, 1), (438, .aload_n 0, 1), (439, .iload 4, 2), (441, .iconst 2, 1), (442, .iadd, 1), (443, .iaload, 1), (444, .aload_n 3, 1), (445, .invokestatic 87, 3), (448, .istore 5, 2), (450, .aload_n 2, 1), (451, .aload_n 0, 1), (452, .iload 4, 2), (454, .iconst 1, 1), (455, .iadd, 1), (456, .iaload, 1), (457, .aload_n 0, 1), (458, .iload 4, 2), (460, .iconst 2, 1), (461, .iadd, 1), (462, .iaload, 1), (463, .invokevirtual 90, 3), (466, .istore 6, 2), (468, .aload_n 2, 1), (469, .invokevirtual 81, 3), (472, .iload 5, 2), (474, .if_icmp .eq 5, 3), (477, .iconst 0, 1), (478, .ireturn, 1), (479, .iload 5, 2), (481, .ifCond .ne 15, 3), (484, .aload_n 3, 1), (485, .iconst 0, 1), (486, .laload, 1), (487, .iload 6, 2), (489, .i2l, 1), (490, .lcmp, 1), (491, .ifCond .eq 5, 3), (494, .iconst 0, 1), (495, .ireturn, 1), (496, .goto 339, 3), (499, .aload_n 1, 1), (500, .aload_n 0, 1), (501, .iload 4, 2), (503, .iconst 1, 1), (504, .iadd, 1), (505, .iaload, 1), (506, .aload_n 3, 1), (507, .invokestatic 91, 3), (510, .istore 5, 2), (512, .aload_n 2, 1), (513, .aload_n 0, 1), (514, .iload 4, 2), (516, .iconst 1, 1), (517, .iadd, 1), (518, .iaload, 1), (519, .invokevirtual 93, 3), (522, .lstore 6, 2), (524, .aload_n 2, 1), (525, .invokevirtual 81, 3), (528, .iload 5, 2), (530, .if_icmp .eq 5, 3), (533, .iconst 0, 1), (534, .ireturn, 1), (535, .iload 5, 2), (537, .ifCond .ne 14, 3), (540, .aload_n 3, 1), (541, .iconst 0, 1), (542, .laload, 1), (543, .lload 6, 2), (545, .lcmp, 1), (546, .ifCond .eq 5, 3), (549, .iconst 0, 1), (550, .ireturn, 1), (551, .goto 284, 3), (554, .aload_n 1, 1), (555, .aload_n 0, 1), (556, .iload 4, 2), (558, .iconst 1, 1), (559, .iadd, 1), (560, .iaload, 1), (561, .invokevirtual 94, 3), (564, .aload_n 2, 1), (565, .aload_n 0, 1), (566, .iload 4, 2), (568, .iconst 1, 1), (569, .iadd, 1), (570, .iaload, 1), (571, .invokevirtual 97, 3), (574, .if_icmp .eq 261, 3), (577, .iconst 0, 1), (578, .ireturn, 1), (579, .aload_n 1, 1), (580, .aload_n 3, 1), (581, .invokestatic 98, 3), (584, .istore 5, 2), (586, .aload_n 2, 1), (587, .invokevirtual 101, 3), (590, .istore 6, 2), (592, .aload_n 2, 1), (593, .invokevirtual 81, 3), (596, .iload 5, 2), (598, .if_icmp .eq 5, 3), (601, .iconst 0, 1), (602, .ireturn, 1), (603, .iload 5, 2), (605, .ifCond .ne 15, 3), (608, .aload_n 3, 1), (609, .iconst 0, 1), (610, .laload, 1), (611, .iload 6, 2), (613, .i2l, 1), (614, .lcmp, 1), (615, .ifCond .eq 5, 3), (618, .iconst 0, 1), (619, .ireturn, 1), (620, .goto 215, 3), (623, .aload_n 1, 1), (624, .aload_n 0, 1), (625, .iload 4, 2), (627, .iconst 1, 1), (628, .iadd, 1), (629, .iaload, 1), (630, .aload_n 3, 1), (631, .invokestatic 102, 3), (634, .istore 5, 2), (636, .aload_n 2, 1), (637, .aload_n 0, 1), (638, .iload 4, 2), (640, .iconst 1, 1), (641, .iadd, 1), (642, .iaload, 1), (643, .invokevirtual 104, 3), (646, .istore 6, 2), (648, .aload_n 2, 1), (649, .invokevirtual 81, 3), (652, .iload 5, 2), (654, .if_icmp .eq 5, 3), (657, .iconst 0, 1), (658, .ireturn, 1), (659, .iload 5, 2), (661, .ifCond .ne 15, 3), (664, .aload_n 3, 1), (665, .iconst 0, 1), (666, .laload, 1), (667, .iload 6, 2), (669, .i2l, 1), (670, .lcmp, 1), (671, .ifCond .eq 5, 3), (674, .iconst 0, 1), (675, .ireturn, 1), (676, .goto 159, 3), (679, .aload_n 1, 1), (680, .aload_n 0, 1), (681, .iload 4, 2), (683, .iconst 1, 1), (684, .iadd, 1), (685, .iaload, 1), (686, .i2l, 1), (687, .bipush 32, 2), (689, .lshl, 1), (690, .aload_n 0, 1), (691, .iload 4, 2), (693, .iconst 2, 1), (694, .iadd, 1), (695, .iaload, 1), (696, .i2l, 1), (697, .ldc2_w 58, 3), (700, .land, 1), (701, .lor, 1), (702, .aload_n 0, 1), (703, .iload 4, 2), (705, .iconst 3, 1), (706, .iadd, 1), (707, .iaload, 1), (708, .i2l, 1), (709, .bipush 32, 2), (711, .lshl, 1), (712, .aload_n 0, 1), (713, .iload 4, 2), (715, .iconst 4, 1), (716, .iadd, 1), (717, .iaload, 1), (718, .i2l, 1), (719, .ldc2_w 58, 3), (722, .land, 1), (723, .lor, 1), (724, .aload_n 3, 1), (725, .invokestatic 105, 3), (728, .istore 5, 2), (730, .aload_n 2, 1), (731, .aload_n 0, 1), (732, .iload 4, 2), (734, .iconst 1, 1), (735, .iadd, 1), (736, .iaload, 1), (737, .i2l, 1), (738, .bipush 32, 2), (740, .lshl, 1), (741, .aload_n 0, 1), (742, .iload 4, 2), (744, .iconst 2, 1), (745, .iadd, 1), (746, .iaload, 1), (747, .i2l, 1), (748, .ldc2_w 58, 3), (751, .land, 1), (752, .lor, 1), (753, .aload_n 0, 1), (754, .iload 4, 2), (756, .iconst 3, 1), (757, .iadd, 1), (758, .iaload, 1), (759, .i2l, 1), (760, .bipush 32, 2), (762, .lshl, 1), (763, .aload_n 0, 1), (764, .iload 4, 2), (766, .iconst 4, 1), (767, .iadd, 1), (768, .iaload, 1), (769, .i2l, 1), (770, .ldc2_w 58, 3), (773, .land, 1), (774, .lor, 1), (775, .invokevirtual 108, 3), (778, .lstore 6, 2), (780, .aload_n 2, 1), (781, .invokevirtual 81, 3), (784, .iload 5, 2), (786, .if_icmp .eq 5, 3), (789, .iconst 0, 1), (790, .ireturn, 1), (791, .iload 5, 2), (793, .ifCond .ne 14, 3), (796, .aload_n 3, 1), (797, .iconst 0, 1), (798, .laload, 1), (799, .lload 6, 2), (801, .lcmp, 1), (802, .ifCond .eq 5, 3), (805, .iconst 0, 1), (806, .ireturn, 1), (807, .goto 28, 3), (810, .aload_n 1, 1), (811, .aload_n 0, 1), (812, .iload 4, 2), (814, .iconst 1, 1), (815, .iadd, 1), (816, .iaload, 1), (817, .invokevirtual 109, 3), (820, .aload_n 2, 1), (821, .aload_n 0, 1), (822, .iload 4, 2), (824, .iconst 1, 1), (825, .iadd, 1), (826, .iaload, 1), (827, .invokevirtual 112, 3), (830, .if_icmp .eq 5, 3), (833, .iconst 0, 1), (834, .ireturn, 1), (835, .iinc 4 5, 3), (838, .goto (-815), 3), (841, .iconst 1, 1), (842, .ireturn, 1)]
def pm_144 : pMeth := (⟨"RateShapesLaw", "law", "([I)Z"⟩, code, 8, some .boolean, 12, pc_144)
def pm_z : pMeth := (⟨"", "", ""⟩, ⟨#[]⟩, 0, none, 0, [])
def p_ML : List pMeth := [pm_0, pm_1, pm_2, pm_3, pm_4, pm_5, pm_6, pm_7, pm_8, pm_9, pm_10, pm_11, pm_12, pm_13, pm_14, pm_15, pm_16, pm_17, pm_18, pm_19, pm_20, pm_21, pm_22, pm_23, pm_24, pm_25, pm_26, pm_27, pm_28, pm_29, pm_30, pm_31, pm_32, pm_33, pm_34, pm_35, pm_36, pm_37, pm_38, pm_39, pm_40, pm_41, pm_42, pm_43, pm_44, pm_45, pm_46, pm_47, pm_48, pm_49, pm_50, pm_51, pm_52, pm_53, pm_54, pm_55, pm_56, pm_57, pm_58, pm_59, pm_60, pm_61, pm_62, pm_63, pm_64, pm_65, pm_66, pm_67, pm_68, pm_69, pm_70, pm_71, pm_72, pm_73, pm_74, pm_75, pm_76, pm_77, pm_78, pm_79, pm_80, pm_81, pm_82, pm_83, pm_84, pm_85, pm_86, pm_87, pm_88, pm_89, pm_90, pm_91, pm_92, pm_93, pm_94, pm_95, pm_96, pm_97, pm_98, pm_99, pm_100, pm_101, pm_102, pm_103, pm_104, pm_105, pm_106, pm_107, pm_108, pm_109, pm_110, pm_111, pm_112, pm_113, pm_114, pm_115, pm_116, pm_117, pm_118, pm_119, pm_120, pm_121, pm_122, pm_123, pm_124, pm_125, pm_126, pm_127, pm_128, pm_129, pm_130, pm_131, pm_132, pm_133, pm_134, pm_135, pm_136, pm_137, pm_138, pm_139, pm_140, pm_141, pm_142, pm_143, pm_144]
def p_me (mi : Nat) : pMeth := (p_ML[mi]?).getD pm_z
def p_y (mi : Nat) : MethodName := (p_me mi).1
def p_bytes (mi : Nat) : ByteArray := (p_me mi).2.1
def p_maxL (mi : Nat) : Nat := (p_me mi).2.2.1
def p_rty (mi : Nat) : Option FieldType := (p_me mi).2.2.2.1
def p_own (mi : Nat) : Nat := (p_me mi).2.2.2.2.1
def p_find {α : Type} (k : Nat) : List (Nat × α) → Option α
  | [] => none
  | (j, a) :: t => bif Nat.beq j k then some a else p_find k t
def p_code (mi pc : Nat) : Option (Instr × Nat) := p_find pc (p_me mi).2.2.2.2.2
def p_two2 {α : Type} (L : List (Nat × List (Nat × α))) (o i : Nat) : Option α := match p_find o L with
  | some l => p_find i l
  | none => none
def p_cnL : List (Nat × String) := [(0, "RateShapes$Printer"), (1, "RateShapes$Reader"), (2, "RateShapes$Tree"), (3, "RateShapes$Units"), (4, "RateShapes$Values"), (5, "RateShapes"), (6, "RateShapesModel"), (7, "java/lang/IllegalArgumentException"), (8, "java/lang/IllegalStateException"), (9, "java/lang/UnsupportedOperationException"), (10, "java/lang/IndexOutOfBoundsException"), (11, "java/lang/ArithmeticException"), (12, "RateShapesLaw"), (13, "java/util/Arrays"), (14, "java/lang/Math"), (15, "java/lang/String"), (16, "java/lang/StringLatin1"), (17, "jdk/internal/util/Preconditions")]
def p_cn (o : Nat) : String := (p_find o p_cnL).getD ""
def p_ctorL : List Nat := [0, 1, 2, 3, 5, 6, 92]
def p_ctor (mi : Nat) : Bool := p_ctorL.any (fun k => Nat.beq k mi)
def p_instL : List (Nat × Nat) := [(7, 5), (8, 1), (9, 5), (10, 1), (11, 2), (12, 1), (13, 1), (14, 1), (15, 1), (16, 1), (17, 1), (18, 2), (20, 1), (21, 1), (22, 1), (23, 1), (24, 1), (25, 2), (26, 2), (27, 2), (28, 1), (29, 1), (37, 1), (38, 2), (39, 2), (40, 1), (41, 1), (42, 2), (43, 1), (44, 2), (46, 2), (47, 2), (48, 1), (49, 5), (50, 5), (51, 3), (53, 5), (54, 3), (55, 3), (56, 5), (57, 2), (58, 3), (60, 5), (62, 5), (63, 5), (64, 5), (65, 4), (66, 4), (68, 4), (72, 5), (74, 5), (76, 5), (78, 5), (79, 0), (80, 0), (81, 0), (82, 0), (83, 0), (84, 0), (85, 0), (86, 0), (87, 0), (89, 5), (91, 5), (93, 6), (94, 6), (95, 6), (96, 6), (97, 6), (98, 6), (99, 6), (100, 6), (102, 6), (103, 6), (104, 6), (105, 6), (106, 6), (107, 6), (108, 6), (109, 6), (111, 6), (112, 6), (113, 6), (114, 6), (115, 6), (116, 6), (117, 6), (118, 6), (119, 6), (121, 6), (122, 6), (123, 6), (124, 6), (125, 6), (126, 6), (127, 6), (128, 6), (129, 6), (130, 6), (131, 6), (132, 6), (133, 6), (134, 6), (135, 6), (136, 6), (137, 6), (138, 6), (139, 6), (140, 6), (141, 6), (142, 6), (143, 6)]
def p_inst (mi : Nat) : Option Nat := p_find mi p_instL
def p_sL : List Nat := [30, 31, 32, 33]
def p_isS (mi : Nat) : Bool := p_sL.any (fun k => Nat.beq k mi)
def p_sfldL : List (Nat × List (Nat × Nat)) := [(15, [(9, 0), (15, 1)])]
def p_sfld (o i : Nat) : Option Nat := p_two2 p_sfldL o i
def p_statL : List (Nat × List (Nat × Nat)) := [(15, [(38, 0), (1053, 1)])]
def p_stat (o i : Nat) : Option Nat := p_two2 p_statL o i
def p_fldL : List (Nat × List (Nat × Nat × Nat)) := [(0, [(9, (0, 0)), (15, (0, 1)), (29, (2, 0)), (38, (2, 1)), (48, (2, 2)), (70, (2, 3)), (73, (2, 4)), (83, (2, 5)), (86, (2, 6)), (91, (2, 7)), (94, (2, 8))]), (1, [(9, (1, 1)), (15, (1, 0)), (19, (1, 2)), (28, (1, 3)), (31, (1, 4)), (42, (2, 10))]), (2, [(9, (2, 0)), (15, (2, 1)), (18, (2, 2)), (21, (2, 3)), (24, (2, 4)), (27, (2, 5)), (30, (2, 6)), (33, (2, 7)), (36, (2, 8)), (39, (2, 9)), (43, (2, 10)), (46, (2, 11))]), (3, [(9, (3, 0)), (15, (3, 1)), (19, (3, 2))]), (4, [(9, (4, 0)), (15, (4, 1)), (19, (2, 10)), (25, (2, 0)), (29, (2, 1)), (34, (2, 2)), (53, (2, 3)), (56, (2, 4)), (74, (2, 5)), (77, (2, 6)), (80, (2, 7)), (85, (2, 8))]), (5, [(12, (5, 0)), (21, (5, 1)), (28, (5, 2)), (35, (5, 3)), (42, (5, 4)), (46, (5, 5)), (101, (2, 0)), (105, (2, 1)), (108, (2, 2)), (111, (2, 3)), (114, (2, 4)), (117, (2, 6)), (134, (2, 10)), (147, (0, 1)), (152, (0, 0)), (166, (1, 2)), (167, (2, 11)), (179, (4, 1)), (188, (4, 0))]), (6, [(7, (6, 0)), (13, (6, 5)), (16, (6, 6)), (19, (6, 7)), (22, (6, 8)), (25, (6, 9)), (28, (6, 10)), (31, (6, 11)), (34, (6, 12)), (37, (6, 18)), (40, (6, 19)), (43, (6, 20)), (46, (6, 21)), (49, (6, 23)), (52, (6, 24)), (55, (6, 26)), (59, (6, 27)), (62, (6, 28)), (65, (6, 29)), (68, (6, 30)), (73, (6, 4)), (77, (6, 1)), (80, (6, 2)), (83, (6, 3)), (110, (6, 14)), (113, (6, 13)), (132, (6, 22)), (135, (6, 17)), (174, (6, 15)), (177, (6, 16)), (191, (6, 25)), (232, (6, 31))])]
def p_fld (o i : Nat) : Option (Nat × Nat) := p_two2 p_fldL o i
def p_fty (ci f : Nat) : FieldType := match ci with
  | 0 => tyX0 f
  | 1 => tyX1 f
  | 2 => tyX2 f
  | 3 => tyX3 f
  | 4 => tyX4 f
  | 5 => tyX5 f
  | 6 => tyX6 f
  | _ => .int
def p_fin (ci f : Nat) : Bool := match ci with
  | 0 => (TX0 f).2.2.2
  | 1 => (TX1 f).2.2.2
  | 2 => (TX2 f).2.2.2
  | 3 => (TX3 f).2.2.2
  | 4 => (TX4 f).2.2.2
  | 5 => (TX5 f).2.2.2
  | 6 => (TX6 f).2.2.2
  | _ => false
def p_csl (ci : Nat) : Nat := (p_find ci [(0, 2), (1, 5), (2, 12), (3, 3), (4, 2), (5, 6), (6, 32), (7, 6), (8, 6), (9, 6), (10, 6), (11, 6)]).getD 0
def p_mtVL : List (Nat × List (Nat × Nat × Nat)) := [(0, [(19, (80, 4)), (23, (39, 2)), (34, (81, 2)), (41, (83, 2)), (45, (82, 2)), (53, (85, 5)), (61, (86, 5)), (66, (87, 3)), (80, (84, 2)), (98, (30, 1)), (103, (32, 2))]), (1, [(23, (11, 1)), (34, (12, 2)), (38, (48, 1)), (45, (14, 1)), (48, (17, 2)), (51, (13, 2)), (54, (15, 1)), (62, (25, 1)), (65, (46, 3)), (69, (38, 4)), (73, (16, 2)), (76, (21, 1)), (79, (28, 1)), (82, (26, 4)), (86, (37, 3)), (90, (40, 2)), (93, (43, 2)), (96, (20, 2)), (99, (22, 1)), (102, (18, 2)), (106, (41, 1)), (109, (42, 3)), (112, (44, 4)), (115, (23, 1)), (118, (24, 2)), (123, (29, 3)), (133, (30, 1)), (137, (32, 2))]), (2, [(49, (25, 1)), (53, (27, 5)), (57, (39, 2)), (61, (47, 2))]), (3, [(36, (55, 3))]), (4, [(37, (58, 2)), (43, (66, 4)), (59, (68, 5))]), (5, [(50, (8, 2)), (54, (10, 1)), (60, (51, 3)), (64, (54, 4)), (75, (63, 1)), (93, (39, 2)), (122, (64, 2)), (126, (57, 2)), (129, (58, 2)), (143, (79, 2)), (175, (65, 4))]), (6, [(86, (98, 1)), (90, (100, 1)), (94, (97, 2)), (102, (109, 2)), (106, (111, 3)), (116, (114, 1)), (119, (105, 6)), (123, (107, 2)), (126, (108, 1)), (129, (112, 2)), (145, (103, 4)), (155, (104, 2)), (158, (106, 1)), (161, (96, 3)), (165, (102, 1)), (168, (113, 1)), (171, (115, 2)), (180, (99, 1)), (183, (116, 1)), (186, (117, 2)), (204, (125, 2)), (207, (126, 2)), (213, (127, 2)), (216, (124, 2)), (219, (123, 2)), (222, (128, 1)), (235, (134, 2)), (238, (138, 2)), (243, (136, 2)), (247, (137, 2)), (250, (139, 2)), (257, (140, 3)), (260, (135, 3))]), (12, [(7, (62, 2)), (19, (72, 2)), (22, (74, 3)), (28, (76, 2)), (31, (78, 1)), (35, (89, 2)), (39, (91, 3)), (49, (7, 2)), (53, (94, 2)), (54, (9, 1)), (57, (95, 1)), (60, (49, 2)), (64, (118, 2)), (65, (50, 3)), (69, (119, 3)), (70, (53, 4)), (74, (121, 4)), (80, (122, 2)), (81, (93, 1)), (86, (129, 2)), (90, (130, 3)), (93, (131, 2)), (94, (56, 2)), (97, (132, 2)), (101, (133, 1)), (104, (141, 2)), (108, (142, 3)), (109, (60, 2)), (112, (143, 2))]), (15, [(335, (31, 1)), (492, (33, 1))])]
def p_mtV (o i : Nat) : Option (Nat × Nat) := p_two2 p_mtVL o i
def p_mtSL : List (Nat × List (Nat × Nat × Nat)) := [(1, [(58, (45, 1))]), (2, [(65, (19, 2))]), (3, [(24, (4, 2)), (32, (52, 1)), (42, (59, 2))]), (4, [(47, (67, 3)), (65, (59, 2)), (71, (69, 2))]), (5, [(81, (70, 2)), (170, (69, 2))]), (6, [(98, (110, 1)), (140, (101, 1)), (195, (120, 1))]), (12, [(75, (61, 3)), (84, (71, 3)), (87, (73, 4)), (91, (75, 3)), (98, (77, 2)), (102, (88, 3)), (105, (90, 4))]), (15, [(495, (34, 2)), (1059, (36, 3))]), (16, [(9, (35, 2))])]
def p_mtS (o i : Nat) : Option (Nat × Nat) := p_two2 p_mtSL o i
def p_mtIL : List (Nat × List (Nat × Nat × Nat)) := [(5, [(11, (1, 1)), (18, (2, 2)), (27, (3, 1)), (34, (5, 1)), (41, (6, 1))]), (12, [(45, (0, 1)), (48, (92, 1))])]
def p_mtI (o i : Nat) : Option (Nat × Nat) := p_two2 p_mtIL o i
def p_extL : List (Nat × List (Nat × Nat)) := [(0, [(3, 0)]), (1, [(3, 0)]), (2, [(3, 0)]), (3, [(3, 0)]), (4, [(3, 0)]), (5, [(3, 0)]), (6, [(1, 0)])]
def p_ext (o i : Nat) : Option Nat := p_two2 p_extL o i
def p_newL : List (Nat × List (Nat × Nat × List Value)) := [(5, [(9, (2, [.null, .null, .null, .null, .null, .null, .null, .null, .null, .int 0, .int 0, .int 0])), (16, (1, [.null, .null, .int 0, .int 0, .int 0])), (25, (3, [.null, .null, .null])), (32, (4, [.null, .null])), (39, (0, [.null, .int 0]))]), (12, [(8, (5, [.null, .null, .null, .null, .null, .long 0])), (46, (6, [.null, .int 0, .int 0, .int 0, .int 0, .null, .null, .null, .null, .null, .null, .null, .null, .int 0, .int 0, .int 0, .int 0, .int 0, .null, .null, .null, .null, .int 0, .null, .null, .long 0, .null, .null, .null, .null, .null, .int 0]))])]
def p_new (o i : Nat) : Option (Nat × List Value) := p_two2 p_newL o i
def p_exnL : List (Nat × List (Nat × Nat)) := [(5, [(68, 7), (96, 10), (138, 8), (159, 11), (183, 9)]), (12, [(13, 7), (15, 8), (17, 9), (26, 10), (43, 11)])]
def p_exn (o i : Nat) : Option Nat := p_two2 p_exnL o i
def p_intL : List (Nat × List (Nat × Int32)) := [(0, [(97, (100000))])]
def p_int (o i : Nat) : Option Int32 := p_two2 p_intL o i
def p_lngL : List (Nat × List (Nat × Int64)) := [(3, [(22, (-1)), (30, (100000000)), (40, (100000001))]), (4, [(32, (10)), (51, (1000000)), (63, (100000000)), (83, (100))]), (5, [(58, (100000000)), (79, (1000000)), (87, (500000)), (89, (10000000)), (91, (10)), (132, (-1)), (155, (1000000000)), (164, (100))]), (6, [(71, (-1)), (138, (255)), (143, (7170414)), (149, (7168376)), (151, (1718773093)), (153, (1937007984)), (189, (100000000)), (198, (100000001)), (200, (100)), (202, (1000000)), (211, (10)), (226, (500000)), (228, (999999)), (230, (10000000)), (241, (495874043944)), (253, (1835626024)), (255, (1835104296)), (263, (1000000000))]), (12, [(58, (4294967295))])]
def p_lng (o i : Nat) : Option Int64 := p_two2 p_lngL o i
def p_strL : List (Nat × List (Nat × Nat)) := [(0, [(32, 0), (51, 10), (57, 11), (59, 12), (64, 14), (76, 13), (78, 15), (89, 16)]), (1, [(121, 0), (127, 1), (129, 2), (131, 3)]), (5, [(70, 4), (85, 7), (98, 8), (120, 9), (140, 5), (150, 17), (157, 18), (161, 19), (185, 6)])]
def p_str (o i : Nat) : Option Nat := p_two2 p_strL o i
def p_lits : Nat := 20
def p_litL : List (List Int32) := [[102, 114, 101, 101], [109, 105, 110], [109, 97, 120], [115, 116, 101, 112], [110, 111, 32, 115, 117, 99, 104, 32, 115, 105, 100, 101], [110, 111, 32, 116, 114, 101, 101], [97, 32, 117, 110, 105, 116, 32, 104, 97, 115, 32, 110, 111, 32, 97, 109, 111, 117, 110, 116, 44, 32, 111, 114, 32, 116, 111, 111, 32, 109, 117, 99, 104], [110, 111, 32, 115, 117, 99, 104, 32, 114, 117, 108, 101], [110, 111, 32, 115, 117, 99, 104, 32, 110, 111, 100, 101], [110, 111, 32, 115, 117, 99, 104, 32, 119, 104, 97, 116], [32, 43, 32], [32, 45, 32], [109, 105, 110, 40], [44, 32], [109, 97, 120, 40], [115, 116, 101, 112, 40], [58, 32], [110, 111, 32, 115, 117, 99, 104, 32, 115, 105, 103, 110], [110, 111, 116, 32, 48, 32, 46, 46, 32, 49, 48, 48, 48, 48, 48, 48, 48, 48, 48], [112, 114, 105, 99, 101, 32, 48]]
def p_slen (j : Nat) : Nat := (p_litL.getD j []).length
def p_schr (j k : Nat) : Int32 := (p_litL.getD j []).getD k 0
def p_exiL : List (Nat × Nat × Nat) := [(5, 72, 7), (5, 142, 8), (5, 187, 9), (5, 100, 10), (5, 163, 11)]
def p_exi (o ci j q : Nat) : Bool := p_exiL.any (fun z => Nat.beq z.1 o && Nat.beq z.2.1 q && Nat.beq z.2.2 ci) && (p_str o j).isSome
def p_rawL : List (Nat × List (Nat × Nat × Nat × Nat)) := [(61, [(0, 8, 11, 13), (0, 8, 14, 15), (0, 8, 17, 17)]), (71, [(0, 8, 11, 13), (0, 8, 14, 15), (0, 8, 17, 17)]), (73, [(0, 10, 13, 26)]), (75, [(0, 8, 11, 26), (0, 8, 14, 17)]), (77, [(0, 8, 11, 15)]), (88, [(0, 9, 12, 26)]), (90, [(0, 10, 13, 13), (0, 10, 17, 43)])]
def p_raw (mi : Nat) : List (Nat × Nat × Nat × Nat) := (p_find mi p_rawL).getD []
def p_hhL : List (Nat × List (Nat × Nat × Nat × Nat)) := [(61, [(0, 8, 11, 7), (0, 8, 14, 8), (0, 8, 17, 9)]), (71, [(0, 8, 11, 7), (0, 8, 14, 8), (0, 8, 17, 9)]), (73, [(0, 10, 13, 10)]), (75, [(0, 8, 11, 10), (0, 8, 14, 9)]), (77, [(0, 8, 11, 8)]), (88, [(0, 9, 12, 10)]), (90, [(0, 10, 13, 7), (0, 10, 17, 11)])]
def p_hh (mi : Nat) : List (Nat × Nat × Nat × Nat) := (p_find mi p_hhL).getD []
end
section
/-! lengths of instructions -/
def p_len : Instr → Nat
  | .bipush _ => 2
  | .sipush _ => 3
  | .ldc _ => 2
  | .ldc2_w _ => 3
  | .iload _ => 2
  | .lload _ => 2
  | .aload _ => 2
  | .istore _ => 2
  | .lstore _ => 2
  | .astore _ => 2
  | .iinc _ _ => 3
  | .goto _ => 3
  | .getfield _ => 3
  | .putfield _ => 3
  | .new _ => 3
  | .newarray _ => 2
  | .invokevirtual _ => 3
  | .invokestatic _ => 3
  | .invokespecial _ => 3
  | .ifCond _ _ => 3
  | .if_icmp _ _ => 3
  | .getstatic _ => 3
  | .putstatic _ => 3
  | .ldc_w _ => 3
  | .checkcast _ => 3
  | .instanceof _ => 3
  | .anewarray _ => 3
  | .ifnull _ => 3
  | .ifnonnull _ => 3
  | _ => 1
def p_sw : Instr → Bool
  | .tableswitch _ _ _ _ => true
  | .lookupswitch _ _ => true
  | _ => false
end
section
/-! ===== the tables are right: by program (tools/gen3.py) ===== -/
theorem p_find_mem {α : Type} {k : Nat} {a : α} : ∀ {L : List (Nat × α)}, p_find k L = some a → (k, a) ∈ L := by
  intro L
  induction L with
  | nil => intro h; cases h
  | cons q t ih =>
    intro h
    obtain ⟨j, b⟩ := q
    unfold p_find at h
    cases hj : Nat.beq j k with
    | true =>
      rw [hj] at h
      dsimp only [cond_true] at h
      rw [Nat.eq_of_beq_eq_true hj, Option.some.inj h]
      exact List.mem_cons_self
    | false =>
      rw [hj] at h
      exact List.mem_cons_of_mem _ (ih h)
theorem p_two2_mem {α : Type} {L : List (Nat × List (Nat × α))} {o i : Nat} {a : α} (h : p_two2 L o i = some a) : ∃ l, (o, l) ∈ L ∧ (i, a) ∈ l := by
  unfold p_two2 at h
  cases hl : p_find o L with
  | none => rw [hl] at h; cases h
  | some l => rw [hl] at h; exact ⟨l, p_find_mem hl, p_find_mem h⟩
def p_all2 {α : Type} (L : List (Nat × List (Nat × α))) (P : Nat → Nat → α → Prop) : Prop := ∀ q ∈ L, ∀ z ∈ q.2, P q.1 z.1 z.2
theorem p_all2_ok {α : Type} {L : List (Nat × List (Nat × α))} {P : Nat → Nat → α → Prop} (hP : p_all2 L P) {o i : Nat} {a : α} (h : p_two2 L o i = some a) : P o i a := by
  obtain ⟨l, h1, h2⟩ := p_two2_mem h
  exact hP (o, l) h1 (i, a) h2
def p_dok (c : ByteArray) (q : Nat × Instr × Nat) : Bool := decide (decode c q.1 = .ok q.2) && (p_sw q.2.1 || Nat.beq q.2.2 (p_len q.2.1))
def p_vok (q : pMeth) : Prop := q.2.2.2.2.2.all (p_dok q.2.1) = true
end
section
theorem v_0 : p_vok pm_0 := by unfold p_vok; decide +kernel
theorem v_1 : p_vok pm_1 := by unfold p_vok; decide +kernel
theorem v_2 : p_vok pm_2 := by unfold p_vok; decide +kernel
theorem v_3 : p_vok pm_3 := by unfold p_vok; decide +kernel
theorem v_4 : p_vok pm_4 := by unfold p_vok; decide +kernel
theorem v_5 : p_vok pm_5 := by unfold p_vok; decide +kernel
theorem v_6 : p_vok pm_6 := by unfold p_vok; decide +kernel
theorem v_7 : p_vok pm_7 := by unfold p_vok; decide +kernel
theorem v_8 : p_vok pm_8 := by unfold p_vok; decide +kernel
theorem v_9 : p_vok pm_9 := by unfold p_vok; decide +kernel
theorem v_10 : p_vok pm_10 := by unfold p_vok; decide +kernel
theorem v_11 : p_vok pm_11 := by unfold p_vok; decide +kernel
theorem v_12 : p_vok pm_12 := by unfold p_vok; decide +kernel
theorem v_13 : p_vok pm_13 := by unfold p_vok; decide +kernel
theorem v_14 : p_vok pm_14 := by unfold p_vok; decide +kernel
theorem v_15 : p_vok pm_15 := by unfold p_vok; decide +kernel
theorem v_16 : p_vok pm_16 := by unfold p_vok; decide +kernel
theorem v_17 : p_vok pm_17 := by unfold p_vok; decide +kernel
theorem v_18 : p_vok pm_18 := by unfold p_vok; decide +kernel
theorem v_19 : p_vok pm_19 := by unfold p_vok; decide +kernel
theorem v_20 : p_vok pm_20 := by unfold p_vok; decide +kernel
theorem v_21 : p_vok pm_21 := by unfold p_vok; decide +kernel
theorem v_22 : p_vok pm_22 := by unfold p_vok; decide +kernel
theorem v_23 : p_vok pm_23 := by unfold p_vok; decide +kernel
theorem v_24 : p_vok pm_24 := by unfold p_vok; decide +kernel
theorem v_25 : p_vok pm_25 := by unfold p_vok; decide +kernel
theorem v_26 : p_vok pm_26 := by unfold p_vok; decide +kernel
theorem v_27 : p_vok pm_27 := by unfold p_vok; decide +kernel
theorem v_28 : p_vok pm_28 := by unfold p_vok; decide +kernel
theorem v_29 : p_vok pm_29 := by unfold p_vok; decide +kernel
theorem v_30 : p_vok pm_30 := by unfold p_vok; decide +kernel
theorem v_31 : p_vok pm_31 := by unfold p_vok; decide +kernel
theorem v_32 : p_vok pm_32 := by unfold p_vok; decide +kernel
theorem v_33 : p_vok pm_33 := by unfold p_vok; decide +kernel
theorem v_34 : p_vok pm_34 := by unfold p_vok; decide +kernel
theorem v_35 : p_vok pm_35 := by unfold p_vok; decide +kernel
theorem v_36 : p_vok pm_36 := by unfold p_vok; decide +kernel
theorem v_37 : p_vok pm_37 := by unfold p_vok; decide +kernel
theorem v_38 : p_vok pm_38 := by unfold p_vok; decide +kernel
theorem v_39 : p_vok pm_39 := by unfold p_vok; decide +kernel
theorem v_40 : p_vok pm_40 := by unfold p_vok; decide +kernel
theorem v_41 : p_vok pm_41 := by unfold p_vok; decide +kernel
theorem v_42 : p_vok pm_42 := by unfold p_vok; decide +kernel
theorem v_43 : p_vok pm_43 := by unfold p_vok; decide +kernel
end
section
theorem v_44 : p_vok pm_44 := by unfold p_vok; decide +kernel
theorem v_45 : p_vok pm_45 := by unfold p_vok; decide +kernel
theorem v_46 : p_vok pm_46 := by unfold p_vok; decide +kernel
theorem v_47 : p_vok pm_47 := by unfold p_vok; decide +kernel
theorem v_48 : p_vok pm_48 := by unfold p_vok; decide +kernel
theorem v_49 : p_vok pm_49 := by unfold p_vok; decide +kernel
theorem v_50 : p_vok pm_50 := by unfold p_vok; decide +kernel
theorem v_51 : p_vok pm_51 := by unfold p_vok; decide +kernel
theorem v_52 : p_vok pm_52 := by unfold p_vok; decide +kernel
theorem v_53 : p_vok pm_53 := by unfold p_vok; decide +kernel
theorem v_54 : p_vok pm_54 := by unfold p_vok; decide +kernel
theorem v_55 : p_vok pm_55 := by unfold p_vok; decide +kernel
theorem v_56 : p_vok pm_56 := by unfold p_vok; decide +kernel
theorem v_57 : p_vok pm_57 := by unfold p_vok; decide +kernel
theorem v_58 : p_vok pm_58 := by unfold p_vok; decide +kernel
theorem v_59 : p_vok pm_59 := by unfold p_vok; decide +kernel
theorem v_60 : p_vok pm_60 := by unfold p_vok; decide +kernel
theorem v_61 : p_vok pm_61 := by unfold p_vok; decide +kernel
theorem v_62 : p_vok pm_62 := by unfold p_vok; decide +kernel
theorem v_63 : p_vok pm_63 := by unfold p_vok; decide +kernel
theorem v_64 : p_vok pm_64 := by unfold p_vok; decide +kernel
theorem v_65 : p_vok pm_65 := by unfold p_vok; decide +kernel
theorem v_66 : p_vok pm_66 := by unfold p_vok; decide +kernel
theorem v_67 : p_vok pm_67 := by unfold p_vok; decide +kernel
theorem v_68 : p_vok pm_68 := by unfold p_vok; decide +kernel
theorem v_69 : p_vok pm_69 := by unfold p_vok; decide +kernel
theorem v_70 : p_vok pm_70 := by unfold p_vok; decide +kernel
theorem v_71 : p_vok pm_71 := by unfold p_vok; decide +kernel
theorem v_72 : p_vok pm_72 := by unfold p_vok; decide +kernel
theorem v_73 : p_vok pm_73 := by unfold p_vok; decide +kernel
theorem v_74 : p_vok pm_74 := by unfold p_vok; decide +kernel
theorem v_75 : p_vok pm_75 := by unfold p_vok; decide +kernel
theorem v_76 : p_vok pm_76 := by unfold p_vok; decide +kernel
theorem v_77 : p_vok pm_77 := by unfold p_vok; decide +kernel
theorem v_78 : p_vok pm_78 := by unfold p_vok; decide +kernel
theorem v_79 : p_vok pm_79 := by unfold p_vok; decide +kernel
theorem v_80 : p_vok pm_80 := by unfold p_vok; decide +kernel
end
section
theorem v_81 : p_vok pm_81 := by unfold p_vok; decide +kernel
theorem v_82 : p_vok pm_82 := by unfold p_vok; decide +kernel
theorem v_83 : p_vok pm_83 := by unfold p_vok; decide +kernel
theorem v_84 : p_vok pm_84 := by unfold p_vok; decide +kernel
theorem v_85 : p_vok pm_85 := by unfold p_vok; decide +kernel
theorem v_86 : p_vok pm_86 := by unfold p_vok; decide +kernel
theorem v_87 : p_vok pm_87 := by unfold p_vok; decide +kernel
theorem v_88 : p_vok pm_88 := by unfold p_vok; decide +kernel
theorem v_89 : p_vok pm_89 := by unfold p_vok; decide +kernel
theorem v_90 : p_vok pm_90 := by unfold p_vok; decide +kernel
theorem v_91 : p_vok pm_91 := by unfold p_vok; decide +kernel
theorem v_92 : p_vok pm_92 := by unfold p_vok; decide +kernel
theorem v_93 : p_vok pm_93 := by unfold p_vok; decide +kernel
theorem v_94 : p_vok pm_94 := by unfold p_vok; decide +kernel
theorem v_95 : p_vok pm_95 := by unfold p_vok; decide +kernel
theorem v_96 : p_vok pm_96 := by unfold p_vok; decide +kernel
theorem v_97 : p_vok pm_97 := by unfold p_vok; decide +kernel
theorem v_98 : p_vok pm_98 := by unfold p_vok; decide +kernel
theorem v_99 : p_vok pm_99 := by unfold p_vok; decide +kernel
theorem v_100 : p_vok pm_100 := by unfold p_vok; decide +kernel
theorem v_101 : p_vok pm_101 := by unfold p_vok; decide +kernel
theorem v_102 : p_vok pm_102 := by unfold p_vok; decide +kernel
theorem v_103 : p_vok pm_103 := by unfold p_vok; decide +kernel
theorem v_104 : p_vok pm_104 := by unfold p_vok; decide +kernel
theorem v_105 : p_vok pm_105 := by unfold p_vok; decide +kernel
theorem v_106 : p_vok pm_106 := by unfold p_vok; decide +kernel
theorem v_107 : p_vok pm_107 := by unfold p_vok; decide +kernel
theorem v_108 : p_vok pm_108 := by unfold p_vok; decide +kernel
theorem v_109 : p_vok pm_109 := by unfold p_vok; decide +kernel
theorem v_110 : p_vok pm_110 := by unfold p_vok; decide +kernel
theorem v_111 : p_vok pm_111 := by unfold p_vok; decide +kernel
end
section
theorem v_112 : p_vok pm_112 := by unfold p_vok; decide +kernel
theorem v_113 : p_vok pm_113 := by unfold p_vok; decide +kernel
theorem v_114 : p_vok pm_114 := by unfold p_vok; decide +kernel
theorem v_115 : p_vok pm_115 := by unfold p_vok; decide +kernel
def pc_116_0 : List (Nat × Instr × Nat) := [(0, .aload_n 0, 1), (1, .invokevirtual 90, 3), (4, .istore_n 1, 1), (5, .aload_n 0, 1), (6, .getfield 132, 3), (9, .iconst 1, 1), (10, .isub, 1), (11, .istore_n 2, 1), (12, .iload_n 1, 1), (13, .bipush 43, 2), (15, .if_icmp .eq 9, 3), (18, .iload_n 1, 1), (19, .bipush 45, 2), (21, .if_icmp .ne 45, 3), (24, .aload_n 0, 1), (25, .aload_n 0, 1), (26, .getfield 80, 3), (29, .invokevirtual 155, 3), (32, .ifCond .ne 5, 3), (35, .iconst 0, 1), (36, .ireturn, 1), (37, .aload_n 0, 1), (38, .getfield 46, 3), (41, .iload_n 2, 1), (42, .iload_n 1, 1), (43, .bipush 43, 2), (45, .if_icmp .ne 7, 3), (48, .iconst 3, 1), (49, .goto 4, 3), (52, .iconst 4, 1), (53, .iastore, 1), (54, .aload_n 0, 1), (55, .dup, 1), (56, .getfield 80, 3), (59, .iconst 1, 1), (60, .iadd, 1), (61, .putfield 80, 3), (64, .iconst 1, 1), (65, .ireturn, 1), (66, .aload_n 0, 1), (67, .getfield 37, 3), (70, .iload_n 2, 1), (71, .iaload, 1), (72, .iconst 5, 1), (73, .if_icmp .eq 14, 3), (76, .aload_n 0, 1), (77, .getfield 37, 3), (80, .iload_n 2, 1), (81, .iaload, 1), (82, .bipush 6, 2), (84, .if_icmp .ne 7, 3), (87, .iconst 1, 1), (88, .goto 4, 3), (91, .iconst 0, 1), (92, .istore_n 3, 1), (93, .iload_n 1, 1), (94, .bipush 44, 2), (96, .if_icmp .ne 48, 3), (99, .iload_n 3, 1), (100, .ifCond .eq 44, 3), (103, .aload_n 0, 1), (104, .getfield 40, 3), (107, .iload_n 2, 1), (108, .iaload, 1), (109, .iconst (-1), 1), (110, .if_icmp .ne 34, 3), (113, .aload_n 0, 1), (114, .getfield 40, 3), (117, .iload_n 2, 1), (118, .aload_n 0, 1), (119, .getfield 43, 3), (122, .iload_n 2, 1), (123, .iaload, 1), (124, .iastore, 1), (125, .aload_n 0, 1), (126, .getfield 43, 3), (129, .iload_n 2, 1), (130, .iconst (-1), 1), (131, .iastore, 1), (132, .aload_n 0, 1), (133, .dup, 1), (134, .getfield 80, 3), (137, .iconst 1, 1), (138, .iadd, 1), (139, .putfield 80, 3), (142, .iconst 1, 1), (143, .ireturn, 1), (144, .iload_n 1, 1), (145, .bipush 41, 2), (147, .if_icmp .ne 91, 3)]
theorem v_116_0 : (pc_116_0).all (p_dok prog_8_method_24_code) = true := by decide +kernel
def pc_116_1 : List (Nat × Instr × Nat) := [(150, .aload_n 0, 1), (151, .getfield 37, 3), (154, .iload_n 2, 1), (155, .iaload, 1), (156, .bipush 8, 2), (158, .if_icmp .eq 17, 3), (161, .iload_n 3, 1), (162, .ifCond .eq 76, 3), (165, .aload_n 0, 1), (166, .getfield 40, 3), (169, .iload_n 2, 1), (170, .iaload, 1), (171, .iconst (-1), 1), (172, .if_icmp .eq 66, 3), (175, .aload_n 0, 1), (176, .dup, 1), (177, .getfield 80, 3), (180, .iconst 1, 1), (181, .iadd, 1), (182, .putfield 80, 3), (185, .aload_n 0, 1), (186, .dup, 1), (187, .getfield 132, 3), (190, .iconst 1, 1), (191, .isub, 1), (192, .putfield 132, 3), (195, .aload_n 0, 1), (196, .iload_n 3, 1), (197, .ifCond .eq 30, 3), (200, .aload_n 0, 1), (201, .aload_n 0, 1), (202, .getfield 37, 3), (205, .iload_n 2, 1), (206, .iaload, 1), (207, .iconst 0, 1), (208, .iconst (-1), 1), (209, .aload_n 0, 1), (210, .getfield 40, 3), (213, .iload_n 2, 1), (214, .iaload, 1), (215, .aload_n 0, 1), (216, .getfield 43, 3), (219, .iload_n 2, 1), (220, .iaload, 1), (221, .invokevirtual 119, 3), (224, .goto 9, 3), (227, .aload_n 0, 1), (228, .getfield 43, 3), (231, .iload_n 2, 1), (232, .iaload, 1), (233, .invokevirtual 171, 3), (236, .iconst 0, 1), (237, .ireturn, 1), (238, .iload_n 1, 1), (239, .iconst (-1), 1), (240, .if_icmp .ne 7, 3), (243, .iload_n 2, 1), (244, .ifCond .le 23, 3), (247, .aload_n 0, 1), (248, .iload_n 1, 1), (249, .iconst (-1), 1), (250, .if_icmp .ne 10, 3), (253, .aload_n 0, 1), (254, .getfield 77, 3), (257, .goto 7, 3), (260, .aload_n 0, 1), (261, .getfield 80, 3), (264, .invokevirtual 94, 3), (267, .iconst 0, 1), (268, .ireturn, 1)]
theorem v_116_1 : (pc_116_1).all (p_dok prog_8_method_24_code) = true := by decide +kernel
set_option maxRecDepth 100000 in
theorem v_116 : p_vok pm_116 := by
  show (pc_116_0 ++ (pc_116_1)).all (p_dok prog_8_method_24_code) = true
  simp only [List.all_append, Bool.and_eq_true]
  exact ⟨v_116_0, v_116_1⟩
def pc_117_0 : List (Nat × Instr × Nat) := [(0, .iconst 0, 1), (1, .istore_n 2, 1), (2, .iconst 1, 1), (3, .istore_n 3, 1), (4, .aload_n 0, 1), (5, .getfield 49, 3), (8, .iconst 0, 1), (9, .iload_n 1, 1), (10, .iastore, 1), (11, .iload_n 3, 1), (12, .ifCond .le 243, 3), (15, .iinc 3 (-1), 3), (18, .aload_n 0, 1), (19, .getfield 49, 3), (22, .iload_n 3, 1), (23, .iaload, 1), (24, .istore 4, 2), (26, .aload_n 0, 1), (27, .getfield 52, 3), (30, .iload 4, 2), (32, .iload_n 2, 1), (33, .iastore, 1), (34, .aload_n 0, 1), (35, .getfield 13, 3), (38, .bipush 60, 2), (40, .iload_n 2, 1), (41, .iadd, 1), (42, .aload_n 0, 1), (43, .getfield 13, 3), (46, .iload 4, 2), (48, .iaload, 1), (49, .iastore, 1), (50, .aload_n 0, 1), (51, .getfield 16, 3), (54, .bipush 60, 2), (56, .iload_n 2, 1), (57, .iadd, 1), (58, .aload_n 0, 1), (59, .getfield 16, 3), (62, .iload 4, 2), (64, .iaload, 1), (65, .iastore, 1), (66, .aload_n 0, 1), (67, .getfield 19, 3), (70, .bipush 60, 2), (72, .iload_n 2, 1), (73, .iadd, 1), (74, .aload_n 0, 1), (75, .getfield 19, 3), (78, .iload 4, 2), (80, .iaload, 1), (81, .iastore, 1), (82, .aload_n 0, 1), (83, .getfield 22, 3), (86, .bipush 60, 2), (88, .iload_n 2, 1), (89, .iadd, 1), (90, .aload_n 0, 1), (91, .getfield 22, 3), (94, .iload 4, 2), (96, .iaload, 1), (97, .iastore, 1), (98, .aload_n 0, 1), (99, .getfield 25, 3), (102, .bipush 60, 2), (104, .iload_n 2, 1), (105, .iadd, 1), (106, .aload_n 0, 1), (107, .getfield 25, 3), (110, .iload 4, 2), (112, .iaload, 1), (113, .iastore, 1), (114, .aload_n 0, 1), (115, .getfield 28, 3), (118, .bipush 60, 2), (120, .iload_n 2, 1), (121, .iadd, 1), (122, .aload_n 0, 1), (123, .getfield 28, 3), (126, .iload 4, 2), (128, .iaload, 1), (129, .iastore, 1), (130, .iconst 0, 1), (131, .istore 5, 2), (133, .iload 5, 2), (135, .aload_n 0, 1), (136, .getfield 28, 3), (139, .iload 4, 2), (141, .iaload, 1), (142, .if_icmp .ge 65, 3)]
theorem v_117_0 : (pc_117_0).all (p_dok prog_8_method_25_code) = true := by decide +kernel
def pc_117_1 : List (Nat × Instr × Nat) := [(145, .aload_n 0, 1), (146, .getfield 31, 3), (149, .bipush 6, 2), (151, .bipush 60, 2), (153, .iload_n 2, 1), (154, .iadd, 1), (155, .imul, 1), (156, .iload 5, 2), (158, .iadd, 1), (159, .aload_n 0, 1), (160, .getfield 31, 3), (163, .bipush 6, 2), (165, .iload 4, 2), (167, .imul, 1), (168, .iload 5, 2), (170, .iadd, 1), (171, .iaload, 1), (172, .iastore, 1), (173, .aload_n 0, 1), (174, .getfield 34, 3), (177, .bipush 6, 2), (179, .bipush 60, 2), (181, .iload_n 2, 1), (182, .iadd, 1), (183, .imul, 1), (184, .iload 5, 2), (186, .iadd, 1), (187, .aload_n 0, 1), (188, .getfield 34, 3), (191, .bipush 6, 2), (193, .iload 4, 2), (195, .imul, 1), (196, .iload 5, 2), (198, .iadd, 1), (199, .iaload, 1), (200, .iastore, 1), (201, .iinc 5 1, 3), (204, .goto (-71), 3), (207, .iinc 2 1, 3), (210, .aload_n 0, 1), (211, .getfield 22, 3), (214, .iload 4, 2), (216, .iaload, 1), (217, .iconst (-1), 1), (218, .if_icmp .eq 34, 3), (221, .aload_n 0, 1), (222, .getfield 49, 3), (225, .iload_n 3, 1), (226, .aload_n 0, 1), (227, .getfield 25, 3), (230, .iload 4, 2), (232, .iaload, 1), (233, .iastore, 1), (234, .aload_n 0, 1), (235, .getfield 49, 3), (238, .iload_n 3, 1), (239, .iconst 1, 1), (240, .iadd, 1), (241, .aload_n 0, 1), (242, .getfield 22, 3), (245, .iload 4, 2), (247, .iaload, 1), (248, .iastore, 1), (249, .iinc 3 2, 3), (252, .goto (-241), 3), (255, .bipush 60, 2), (257, .istore 4, 2), (259, .iload 4, 2), (261, .bipush 60, 2), (263, .iload_n 2, 1), (264, .iadd, 1), (265, .if_icmp .ge 58, 3), (268, .aload_n 0, 1), (269, .getfield 22, 3), (272, .iload 4, 2), (274, .iaload, 1), (275, .iconst (-1), 1), (276, .if_icmp .eq 41, 3), (279, .aload_n 0, 1), (280, .getfield 22, 3), (283, .iload 4, 2), (285, .aload_n 0, 1), (286, .getfield 52, 3), (289, .aload_n 0, 1), (290, .getfield 22, 3), (293, .iload 4, 2), (295, .iaload, 1), (296, .iaload, 1), (297, .iastore, 1), (298, .aload_n 0, 1)]
theorem v_117_1 : (pc_117_1).all (p_dok prog_8_method_25_code) = true := by decide +kernel
def pc_117_2 : List (Nat × Instr × Nat) := [(299, .getfield 25, 3), (302, .iload 4, 2), (304, .aload_n 0, 1), (305, .getfield 52, 3), (308, .aload_n 0, 1), (309, .getfield 25, 3), (312, .iload 4, 2), (314, .iaload, 1), (315, .iaload, 1), (316, .iastore, 1), (317, .iinc 4 1, 3), (320, .goto (-61), 3), (323, .aload_n 0, 1), (324, .iload_n 2, 1), (325, .putfield 174, 3), (328, .return_, 1)]
theorem v_117_2 : (pc_117_2).all (p_dok prog_8_method_25_code) = true := by decide +kernel
set_option maxRecDepth 100000 in
theorem v_117 : p_vok pm_117 := by
  show (pc_117_0 ++ (pc_117_1 ++ (pc_117_2))).all (p_dok prog_8_method_25_code) = true
  simp only [List.all_append, Bool.and_eq_true]
  exact ⟨v_117_0, v_117_1, v_117_2⟩
theorem v_118 : p_vok pm_118 := by unfold p_vok; decide +kernel
theorem v_119 : p_vok pm_119 := by unfold p_vok; decide +kernel
theorem v_120 : p_vok pm_120 := by unfold p_vok; decide +kernel
theorem v_121 : p_vok pm_121 := by unfold p_vok; decide +kernel
theorem v_122 : p_vok pm_122 := by unfold p_vok; decide +kernel
theorem v_123 : p_vok pm_123 := by unfold p_vok; decide +kernel
end
section
def pc_124_0 : List (Nat × Instr × Nat) := [(0, .aload_n 0, 1), (1, .iload_n 1, 1), (2, .invokevirtual 204, 3), (5, .istore_n 2, 1), (6, .iload_n 2, 1), (7, .iconst 1, 1), (8, .isub, 1), (9, .istore_n 3, 1), (10, .iload_n 3, 1), (11, .iload_n 1, 1), (12, .if_icmp .lt 272, 3), (15, .bipush 60, 2), (17, .iload_n 3, 1), (18, .iadd, 1), (19, .istore 4, 2), (21, .aload_n 0, 1), (22, .getfield 13, 3), (25, .iload 4, 2), (27, .iaload, 1), (28, .iconst 2, 1), (29, .if_icmp .ne 54, 3), (32, .aload_n 0, 1), (33, .aload_n 0, 1), (34, .getfield 19, 3), (37, .iload 4, 2), (39, .iaload, 1), (40, .invokevirtual 207, 3), (43, .lstore 5, 2), (45, .lload 5, 2), (47, .lconst 0, 1), (48, .lcmp, 1), (49, .ifCond .lt 12, 3), (52, .lload 5, 2), (54, .ldc2_w 189, 3), (57, .lcmp, 1), (58, .ifCond .le 5, 3), (61, .iconst 0, 1), (62, .ireturn, 1), (63, .aload_n 0, 1), (64, .getfield 65, 3), (67, .iload_n 3, 1), (68, .aload_n 0, 1), (69, .getfield 16, 3), (72, .iload 4, 2), (74, .iaload, 1), (75, .i2l, 1), (76, .lload 5, 2), (78, .lmul, 1), (79, .lastore, 1), (80, .goto 198, 3), (83, .aload_n 0, 1), (84, .getfield 13, 3), (87, .iload 4, 2), (89, .iaload, 1), (90, .iconst 1, 1), (91, .if_icmp .ne 29, 3), (94, .aload_n 0, 1), (95, .getfield 65, 3), (98, .iload_n 3, 1), (99, .aload_n 0, 1), (100, .getfield 191, 3), (103, .aload_n 0, 1), (104, .getfield 16, 3), (107, .iload 4, 2), (109, .iaload, 1), (110, .i2l, 1), (111, .lmul, 1), (112, .ldc2_w 211, 3), (115, .lmul, 1), (116, .lastore, 1), (117, .goto 161, 3), (120, .aload_n 0, 1), (121, .getfield 13, 3), (124, .iload 4, 2), (126, .iaload, 1), (127, .bipush 7, 2), (129, .if_icmp .ne 18, 3), (132, .aload_n 0, 1), (133, .getfield 65, 3), (136, .iload_n 3, 1), (137, .aload_n 0, 1), (138, .iload 4, 2), (140, .invokevirtual 213, 3), (143, .lastore, 1), (144, .goto 134, 3), (147, .aload_n 0, 1), (148, .getfield 13, 3), (151, .iload 4, 2), (153, .iaload, 1), (154, .ifCond .ne 13, 3)]
theorem v_124_0 : (pc_124_0).all (p_dok prog_8_method_33_code) = true := by decide +kernel
def pc_124_1 : List (Nat × Instr × Nat) := [(157, .aload_n 0, 1), (158, .getfield 65, 3), (161, .iload_n 3, 1), (162, .lconst 0, 1), (163, .lastore, 1), (164, .goto 114, 3), (167, .aload_n 0, 1), (168, .getfield 65, 3), (171, .aload_n 0, 1), (172, .getfield 22, 3), (175, .iload 4, 2), (177, .iaload, 1), (178, .laload, 1), (179, .lstore 5, 2), (181, .aload_n 0, 1), (182, .getfield 65, 3), (185, .aload_n 0, 1), (186, .getfield 25, 3), (189, .iload 4, 2), (191, .iaload, 1), (192, .laload, 1), (193, .lstore 7, 2), (195, .aload_n 0, 1), (196, .getfield 65, 3), (199, .iload_n 3, 1), (200, .aload_n 0, 1), (201, .getfield 13, 3), (204, .iload 4, 2), (206, .iaload, 1), (207, .iconst 3, 1), (208, .if_icmp .ne 11, 3), (211, .lload 5, 2), (213, .lload 7, 2), (215, .ladd, 1), (216, .goto 61, 3), (219, .aload_n 0, 1), (220, .getfield 13, 3), (223, .iload 4, 2), (225, .iaload, 1), (226, .iconst 4, 1), (227, .if_icmp .ne 11, 3), (230, .lload 5, 2), (232, .lload 7, 2), (234, .lsub, 1), (235, .goto 42, 3), (238, .aload_n 0, 1), (239, .getfield 13, 3), (242, .iload 4, 2), (244, .iaload, 1), (245, .iconst 5, 1), (246, .if_icmp .ne 7, 3), (249, .iconst 1, 1), (250, .goto 4, 3), (253, .iconst 0, 1), (254, .lload 5, 2), (256, .lload 7, 2), (258, .lcmp, 1), (259, .ifCond .ge 7, 3), (262, .iconst 1, 1), (263, .goto 4, 3), (266, .iconst 0, 1), (267, .if_icmp .ne 8, 3), (270, .lload 5, 2), (272, .goto 5, 3), (275, .lload 7, 2), (277, .lastore, 1), (278, .iinc 3 (-1), 3), (281, .goto (-271), 3), (284, .iconst 1, 1), (285, .ireturn, 1)]
theorem v_124_1 : (pc_124_1).all (p_dok prog_8_method_33_code) = true := by decide +kernel
set_option maxRecDepth 100000 in
theorem v_124 : p_vok pm_124 := by
  show (pc_124_0 ++ (pc_124_1)).all (p_dok prog_8_method_33_code) = true
  simp only [List.all_append, Bool.and_eq_true]
  exact ⟨v_124_0, v_124_1⟩
theorem v_125 : p_vok pm_125 := by unfold p_vok; decide +kernel
theorem v_126 : p_vok pm_126 := by unfold p_vok; decide +kernel
theorem v_127 : p_vok pm_127 := by unfold p_vok; decide +kernel
theorem v_128 : p_vok pm_128 := by unfold p_vok; decide +kernel
theorem v_129 : p_vok pm_129 := by unfold p_vok; decide +kernel
theorem v_130 : p_vok pm_130 := by unfold p_vok; decide +kernel
theorem v_131 : p_vok pm_131 := by unfold p_vok; decide +kernel
theorem v_132 : p_vok pm_132 := by unfold p_vok; decide +kernel
theorem v_133 : p_vok pm_133 := by unfold p_vok; decide +kernel
theorem v_134 : p_vok pm_134 := by unfold p_vok; decide +kernel
def pc_135_0 : List (Nat × Instr × Nat) := [(0, .bipush 60, 2), (2, .iload_n 1, 1), (3, .iadd, 1), (4, .istore_n 3, 1), (5, .aload_n 0, 1), (6, .getfield 13, 3), (9, .iload_n 3, 1), (10, .iaload, 1), (11, .ifCond .ne 13, 3), (14, .aload_n 0, 1), (15, .ldc2_w 151, 3), (18, .invokevirtual 243, 3), (21, .goto 183, 3), (24, .aload_n 0, 1), (25, .getfield 13, 3), (28, .iload_n 3, 1), (29, .iaload, 1), (30, .bipush 7, 2), (32, .if_icmp .ne 11, 3), (35, .aload_n 0, 1), (36, .iload_n 3, 1), (37, .invokevirtual 247, 3), (40, .goto 164, 3), (43, .aload_n 0, 1), (44, .getfield 13, 3), (47, .iload_n 3, 1), (48, .iaload, 1), (49, .iconst 2, 1), (50, .if_icmp .gt 54, 3), (53, .aload_n 0, 1), (54, .aload_n 0, 1), (55, .getfield 16, 3), (58, .iload_n 3, 1), (59, .iaload, 1), (60, .invokevirtual 250, 3), (63, .aload_n 0, 1), (64, .getfield 13, 3), (67, .iload_n 3, 1), (68, .iaload, 1), (69, .iconst 1, 1), (70, .if_icmp .ne 12, 3), (73, .aload_n 0, 1), (74, .bipush 37, 2), (76, .invokevirtual 235, 3), (79, .goto 125, 3), (82, .aload_n 0, 1), (83, .bipush 47, 2), (85, .invokevirtual 235, 3), (88, .aload_n 0, 1), (89, .bipush 65, 2), (91, .aload_n 0, 1), (92, .getfield 19, 3), (95, .iload_n 3, 1), (96, .iaload, 1), (97, .iadd, 1), (98, .invokevirtual 235, 3), (101, .goto 103, 3), (104, .aload_n 0, 1), (105, .getfield 13, 3), (108, .iload_n 3, 1), (109, .iaload, 1), (110, .iconst 5, 1), (111, .if_icmp .lt 86, 3), (114, .aload_n 0, 1), (115, .aload_n 0, 1), (116, .getfield 13, 3), (119, .iload_n 3, 1), (120, .iaload, 1), (121, .iconst 5, 1), (122, .if_icmp .ne 9, 3), (125, .ldc2_w 253, 3), (128, .goto 6, 3), (131, .ldc2_w 255, 3), (134, .invokevirtual 243, 3), (137, .aload_n 0, 1), (138, .getfield 49, 3), (141, .iload_n 2, 1), (142, .bipush (-42), 2), (144, .iastore, 1), (145, .aload_n 0, 1), (146, .getfield 49, 3), (149, .iload_n 2, 1), (150, .iconst 1, 1), (151, .iadd, 1), (152, .aload_n 0, 1), (153, .getfield 25, 3), (156, .iload_n 3, 1), (157, .iaload, 1), (158, .iastore, 1), (159, .aload_n 0, 1)]
theorem v_135_0 : (pc_135_0).all (p_dok prog_8_method_47_code) = true := by decide +kernel
def pc_135_1 : List (Nat × Instr × Nat) := [(160, .getfield 49, 3), (163, .iload_n 2, 1), (164, .iconst 2, 1), (165, .iadd, 1), (166, .bipush (-33), 2), (168, .iastore, 1), (169, .aload_n 0, 1), (170, .getfield 49, 3), (173, .iload_n 2, 1), (174, .iconst 3, 1), (175, .iadd, 1), (176, .bipush (-45), 2), (178, .iastore, 1), (179, .aload_n 0, 1), (180, .getfield 49, 3), (183, .iload_n 2, 1), (184, .iconst 4, 1), (185, .iadd, 1), (186, .aload_n 0, 1), (187, .getfield 22, 3), (190, .iload_n 3, 1), (191, .iaload, 1), (192, .iastore, 1), (193, .iload_n 2, 1), (194, .iconst 5, 1), (195, .iadd, 1), (196, .ireturn, 1), (197, .aload_n 0, 1), (198, .iload_n 3, 1), (199, .iload_n 2, 1), (200, .invokevirtual 257, 3), (203, .ireturn, 1), (204, .iload_n 2, 1), (205, .ireturn, 1)]
theorem v_135_1 : (pc_135_1).all (p_dok prog_8_method_47_code) = true := by decide +kernel
set_option maxRecDepth 100000 in
theorem v_135 : p_vok pm_135 := by
  show (pc_135_0 ++ (pc_135_1)).all (p_dok prog_8_method_47_code) = true
  simp only [List.all_append, Bool.and_eq_true]
  exact ⟨v_135_0, v_135_1⟩
theorem v_136 : p_vok pm_136 := by unfold p_vok; decide +kernel
theorem v_137 : p_vok pm_137 := by unfold p_vok; decide +kernel
theorem v_138 : p_vok pm_138 := by unfold p_vok; decide +kernel
theorem v_139 : p_vok pm_139 := by unfold p_vok; decide +kernel
theorem v_140 : p_vok pm_140 := by unfold p_vok; decide +kernel
theorem v_141 : p_vok pm_141 := by unfold p_vok; decide +kernel
theorem v_142 : p_vok pm_142 := by unfold p_vok; decide +kernel
theorem v_143 : p_vok pm_143 := by unfold p_vok; decide +kernel
end
section
def pc_144_0 : List (Nat × Instr × Nat) := [(0, .new 8, 3), (3, .dup, 1), (4, .invokespecial 45, 3), (7, .astore_n 1, 1), (8, .new 46, 3), (11, .dup, 1), (12, .invokespecial 48, 3), (15, .astore_n 2, 1), (16, .iconst 1, 1), (17, .newarray .long, 2), (19, .astore_n 3, 1), (20, .iconst 0, 1), (21, .istore 4, 2), (23, .iload 4, 2), (25, .aload_n 0, 1), (26, .arraylength, 1), (27, .iconst 5, 1), (28, .isub, 1), (29, .if_icmp .gt 812, 3), (32, .aload_n 0, 1), (33, .iload 4, 2), (35, .iaload, 1), (36, .bipush 15, 2), (38, .iand, 1), (39, .tableswitch 796 0 13 #[69, 94, 107, 164, 233, 282, 337, 392, 460, 515, 540, 584, 640, 771], 69), (108, .aload_n 1, 1), (109, .aload_n 0, 1), (110, .iload 4, 2), (112, .iconst 1, 1), (113, .iadd, 1), (114, .iaload, 1), (115, .invokevirtual 49, 3), (118, .aload_n 2, 1), (119, .aload_n 0, 1), (120, .iload 4, 2), (122, .iconst 1, 1), (123, .iadd, 1), (124, .iaload, 1), (125, .invokevirtual 53, 3), (128, .if_icmp .eq 707, 3), (131, .iconst 0, 1), (132, .ireturn, 1), (133, .aload_n 1, 1), (134, .invokevirtual 54, 3), (137, .aload_n 2, 1), (138, .invokevirtual 57, 3), (141, .if_icmp .eq 694, 3), (144, .iconst 0, 1), (145, .ireturn, 1), (146, .aload_n 1, 1), (147, .aload_n 0, 1), (148, .iload 4, 2), (150, .iconst 1, 1), (151, .iadd, 1), (152, .iaload, 1), (153, .i2l, 1), (154, .bipush 32, 2), (156, .lshl, 1), (157, .aload_n 0, 1), (158, .iload 4, 2), (160, .iconst 2, 1), (161, .iadd, 1), (162, .iaload, 1), (163, .i2l, 1), (164, .ldc2_w 58, 3), (167, .land, 1), (168, .lor, 1), (169, .invokevirtual 60, 3), (172, .aload_n 2, 1), (173, .aload_n 0, 1), (174, .iload 4, 2), (176, .iconst 1, 1), (177, .iadd, 1), (178, .iaload, 1), (179, .i2l, 1), (180, .bipush 32, 2), (182, .lshl, 1), (183, .aload_n 0, 1), (184, .iload 4, 2), (186, .iconst 2, 1), (187, .iadd, 1), (188, .iaload, 1), (189, .i2l, 1), (190, .ldc2_w 58, 3), (193, .land, 1), (194, .lor, 1), (195, .invokevirtual 64, 3), (198, .if_icmp .eq 637, 3), (201, .iconst 0, 1), (202, .ireturn, 1)]
theorem v_144_0 : (pc_144_0).all (p_dok code) = true := by decide +kernel
def pc_144_1 : List (Nat × Instr × Nat) := [(203, .aload_n 1, 1), (204, .aload_n 0, 1), (205, .iload 4, 2), (207, .iconst 1, 1), (208, .iadd, 1), (209, .iaload, 1), (210, .aload_n 0, 1), (211, .iload 4, 2), (213, .iconst 2, 1), (214, .iadd, 1), (215, .iaload, 1), (216, .i2l, 1), (217, .bipush 32, 2), (219, .lshl, 1), (220, .aload_n 0, 1), (221, .iload 4, 2), (223, .iconst 3, 1), (224, .iadd, 1), (225, .iaload, 1), (226, .i2l, 1), (227, .ldc2_w 58, 3), (230, .land, 1), (231, .lor, 1), (232, .invokevirtual 65, 3), (235, .aload_n 2, 1), (236, .aload_n 0, 1), (237, .iload 4, 2), (239, .iconst 1, 1), (240, .iadd, 1), (241, .iaload, 1), (242, .aload_n 0, 1), (243, .iload 4, 2), (245, .iconst 2, 1), (246, .iadd, 1), (247, .iaload, 1), (248, .i2l, 1), (249, .bipush 32, 2), (251, .lshl, 1), (252, .aload_n 0, 1), (253, .iload 4, 2), (255, .iconst 3, 1), (256, .iadd, 1), (257, .iaload, 1), (258, .i2l, 1), (259, .ldc2_w 58, 3), (262, .land, 1), (263, .lor, 1), (264, .invokevirtual 69, 3), (267, .if_icmp .eq 568, 3), (270, .iconst 0, 1), (271, .ireturn, 1), (272, .aload_n 1, 1), (273, .aload_n 0, 1), (274, .iload 4, 2), (276, .iconst 1, 1), (277, .iadd, 1), (278, .iaload, 1), (279, .aload_n 0, 1), (280, .iload 4, 2), (282, .iconst 2, 1), (283, .iadd, 1), (284, .iaload, 1), (285, .aload_n 0, 1), (286, .iload 4, 2), (288, .iconst 3, 1), (289, .iadd, 1), (290, .iaload, 1), (291, .invokevirtual 70, 3), (294, .aload_n 2, 1), (295, .aload_n 0, 1), (296, .iload 4, 2), (298, .iconst 1, 1), (299, .iadd, 1), (300, .iaload, 1), (301, .aload_n 0, 1), (302, .iload 4, 2), (304, .iconst 2, 1), (305, .iadd, 1), (306, .iaload, 1), (307, .aload_n 0, 1), (308, .iload 4, 2), (310, .iconst 3, 1), (311, .iadd, 1), (312, .iaload, 1), (313, .invokevirtual 74, 3), (316, .if_icmp .eq 519, 3), (319, .iconst 0, 1), (320, .ireturn, 1), (321, .aload_n 1, 1), (322, .aload_n 0, 1)]
theorem v_144_1 : (pc_144_1).all (p_dok code) = true := by decide +kernel
def pc_144_2 : List (Nat × Instr × Nat) := [(323, .iload 4, 2), (325, .iconst 1, 1), (326, .iadd, 1), (327, .iaload, 1), (328, .aload_n 3, 1), (329, .invokestatic 75, 3), (332, .istore 5, 2), (334, .aload_n 2, 1), (335, .aload_n 0, 1), (336, .iload 4, 2), (338, .iconst 1, 1), (339, .iadd, 1), (340, .iaload, 1), (341, .invokevirtual 80, 3), (344, .lstore 6, 2), (346, .aload_n 2, 1), (347, .invokevirtual 81, 3), (350, .iload 5, 2), (352, .if_icmp .eq 5, 3), (355, .iconst 0, 1), (356, .ireturn, 1), (357, .iload 5, 2), (359, .ifCond .ne 14, 3), (362, .aload_n 3, 1), (363, .iconst 0, 1), (364, .laload, 1), (365, .lload 6, 2), (367, .lcmp, 1), (368, .ifCond .eq 5, 3), (371, .iconst 0, 1), (372, .ireturn, 1), (373, .goto 462, 3), (376, .aload_n 1, 1), (377, .aload_n 0, 1), (378, .iload 4, 2), (380, .iconst 1, 1), (381, .iadd, 1), (382, .iaload, 1), (383, .aload_n 3, 1), (384, .invokestatic 84, 3), (387, .istore 5, 2), (389, .aload_n 2, 1), (390, .aload_n 0, 1), (391, .iload 4, 2), (393, .iconst 1, 1), (394, .iadd, 1), (395, .iaload, 1), (396, .invokevirtual 86, 3), (399, .lstore 6, 2), (401, .aload_n 2, 1), (402, .invokevirtual 81, 3), (405, .iload 5, 2), (407, .if_icmp .eq 5, 3), (410, .iconst 0, 1), (411, .ireturn, 1), (412, .iload 5, 2), (414, .ifCond .ne 14, 3), (417, .aload_n 3, 1), (418, .iconst 0, 1), (419, .laload, 1), (420, .lload 6, 2), (422, .lcmp, 1), (423, .ifCond .eq 5, 3), (426, .iconst 0, 1), (427, .ireturn, 1), (428, .goto 407, 3), (431, .aload_n 1, 1), (432, .aload_n 0, 1), (433, .iload 4, 2), (435, .iconst 1, 1), (436, .iadd, 1), (437, .iaload, 1), (438, .aload_n 0, 1), (439, .iload 4, 2), (441, .iconst 2, 1), (442, .iadd, 1), (443, .iaload, 1), (444, .aload_n 3, 1), (445, .invokestatic 87, 3), (448, .istore 5, 2), (450, .aload_n 2, 1), (451, .aload_n 0, 1), (452, .iload 4, 2), (454, .iconst 1, 1), (455, .iadd, 1), (456, .iaload, 1), (457, .aload_n 0, 1), (458, .iload 4, 2), (460, .iconst 2, 1), (461, .iadd, 1)]
theorem v_144_2 : (pc_144_2).all (p_dok code) = true := by decide +kernel
def pc_144_3 : List (Nat × Instr × Nat) := [(462, .iaload, 1), (463, .invokevirtual 90, 3), (466, .istore 6, 2), (468, .aload_n 2, 1), (469, .invokevirtual 81, 3), (472, .iload 5, 2), (474, .if_icmp .eq 5, 3), (477, .iconst 0, 1), (478, .ireturn, 1), (479, .iload 5, 2), (481, .ifCond .ne 15, 3), (484, .aload_n 3, 1), (485, .iconst 0, 1), (486, .laload, 1), (487, .iload 6, 2), (489, .i2l, 1), (490, .lcmp, 1), (491, .ifCond .eq 5, 3), (494, .iconst 0, 1), (495, .ireturn, 1), (496, .goto 339, 3), (499, .aload_n 1, 1), (500, .aload_n 0, 1), (501, .iload 4, 2), (503, .iconst 1, 1), (504, .iadd, 1), (505, .iaload, 1), (506, .aload_n 3, 1), (507, .invokestatic 91, 3), (510, .istore 5, 2), (512, .aload_n 2, 1), (513, .aload_n 0, 1), (514, .iload 4, 2), (516, .iconst 1, 1), (517, .iadd, 1), (518, .iaload, 1), (519, .invokevirtual 93, 3), (522, .lstore 6, 2), (524, .aload_n 2, 1), (525, .invokevirtual 81, 3), (528, .iload 5, 2), (530, .if_icmp .eq 5, 3), (533, .iconst 0, 1), (534, .ireturn, 1), (535, .iload 5, 2), (537, .ifCond .ne 14, 3), (540, .aload_n 3, 1), (541, .iconst 0, 1), (542, .laload, 1), (543, .lload 6, 2), (545, .lcmp, 1), (546, .ifCond .eq 5, 3), (549, .iconst 0, 1), (550, .ireturn, 1), (551, .goto 284, 3), (554, .aload_n 1, 1), (555, .aload_n 0, 1), (556, .iload 4, 2), (558, .iconst 1, 1), (559, .iadd, 1), (560, .iaload, 1), (561, .invokevirtual 94, 3), (564, .aload_n 2, 1), (565, .aload_n 0, 1), (566, .iload 4, 2), (568, .iconst 1, 1), (569, .iadd, 1), (570, .iaload, 1), (571, .invokevirtual 97, 3), (574, .if_icmp .eq 261, 3), (577, .iconst 0, 1), (578, .ireturn, 1), (579, .aload_n 1, 1), (580, .aload_n 3, 1), (581, .invokestatic 98, 3), (584, .istore 5, 2), (586, .aload_n 2, 1), (587, .invokevirtual 101, 3), (590, .istore 6, 2), (592, .aload_n 2, 1), (593, .invokevirtual 81, 3), (596, .iload 5, 2), (598, .if_icmp .eq 5, 3), (601, .iconst 0, 1), (602, .ireturn, 1), (603, .iload 5, 2), (605, .ifCond .ne 15, 3), (608, .aload_n 3, 1), (609, .iconst 0, 1), (610, .laload, 1)]
theorem v_144_3 : (pc_144_3).all (p_dok code) = true := by decide +kernel
end
section
def pc_144_4 : List (Nat × Instr × Nat) := [(611, .iload 6, 2), (613, .i2l, 1), (614, .lcmp, 1), (615, .ifCond .eq 5, 3), (618, .iconst 0, 1), (619, .ireturn, 1), (620, .goto 215, 3), (623, .aload_n 1, 1), (624, .aload_n 0, 1), (625, .iload 4, 2), (627, .iconst 1, 1), (628, .iadd, 1), (629, .iaload, 1), (630, .aload_n 3, 1), (631, .invokestatic 102, 3), (634, .istore 5, 2), (636, .aload_n 2, 1), (637, .aload_n 0, 1), (638, .iload 4, 2), (640, .iconst 1, 1), (641, .iadd, 1), (642, .iaload, 1), (643, .invokevirtual 104, 3), (646, .istore 6, 2), (648, .aload_n 2, 1), (649, .invokevirtual 81, 3), (652, .iload 5, 2), (654, .if_icmp .eq 5, 3), (657, .iconst 0, 1), (658, .ireturn, 1), (659, .iload 5, 2), (661, .ifCond .ne 15, 3), (664, .aload_n 3, 1), (665, .iconst 0, 1), (666, .laload, 1), (667, .iload 6, 2), (669, .i2l, 1), (670, .lcmp, 1), (671, .ifCond .eq 5, 3), (674, .iconst 0, 1), (675, .ireturn, 1), (676, .goto 159, 3), (679, .aload_n 1, 1), (680, .aload_n 0, 1), (681, .iload 4, 2), (683, .iconst 1, 1), (684, .iadd, 1), (685, .iaload, 1), (686, .i2l, 1), (687, .bipush 32, 2), (689, .lshl, 1), (690, .aload_n 0, 1), (691, .iload 4, 2), (693, .iconst 2, 1), (694, .iadd, 1), (695, .iaload, 1), (696, .i2l, 1), (697, .ldc2_w 58, 3), (700, .land, 1), (701, .lor, 1), (702, .aload_n 0, 1), (703, .iload 4, 2), (705, .iconst 3, 1), (706, .iadd, 1), (707, .iaload, 1), (708, .i2l, 1), (709, .bipush 32, 2), (711, .lshl, 1), (712, .aload_n 0, 1), (713, .iload 4, 2), (715, .iconst 4, 1), (716, .iadd, 1), (717, .iaload, 1), (718, .i2l, 1), (719, .ldc2_w 58, 3), (722, .land, 1), (723, .lor, 1), (724, .aload_n 3, 1), (725, .invokestatic 105, 3), (728, .istore 5, 2), (730, .aload_n 2, 1), (731, .aload_n 0, 1), (732, .iload 4, 2), (734, .iconst 1, 1), (735, .iadd, 1), (736, .iaload, 1), (737, .i2l, 1), (738, .bipush 32, 2), (740, .lshl, 1), (741, .aload_n 0, 1)]
theorem v_144_4 : (pc_144_4).all (p_dok code) = true := by decide +kernel
def pc_144_5 : List (Nat × Instr × Nat) := [(742, .iload 4, 2), (744, .iconst 2, 1), (745, .iadd, 1), (746, .iaload, 1), (747, .i2l, 1), (748, .ldc2_w 58, 3), (751, .land, 1), (752, .lor, 1), (753, .aload_n 0, 1), (754, .iload 4, 2), (756, .iconst 3, 1), (757, .iadd, 1), (758, .iaload, 1), (759, .i2l, 1), (760, .bipush 32, 2), (762, .lshl, 1), (763, .aload_n 0, 1), (764, .iload 4, 2), (766, .iconst 4, 1), (767, .iadd, 1), (768, .iaload, 1), (769, .i2l, 1), (770, .ldc2_w 58, 3), (773, .land, 1), (774, .lor, 1), (775, .invokevirtual 108, 3), (778, .lstore 6, 2), (780, .aload_n 2, 1), (781, .invokevirtual 81, 3), (784, .iload 5, 2), (786, .if_icmp .eq 5, 3), (789, .iconst 0, 1), (790, .ireturn, 1), (791, .iload 5, 2), (793, .ifCond .ne 14, 3), (796, .aload_n 3, 1), (797, .iconst 0, 1), (798, .laload, 1), (799, .lload 6, 2), (801, .lcmp, 1), (802, .ifCond .eq 5, 3), (805, .iconst 0, 1), (806, .ireturn, 1), (807, .goto 28, 3), (810, .aload_n 1, 1), (811, .aload_n 0, 1), (812, .iload 4, 2), (814, .iconst 1, 1), (815, .iadd, 1), (816, .iaload, 1), (817, .invokevirtual 109, 3), (820, .aload_n 2, 1), (821, .aload_n 0, 1), (822, .iload 4, 2), (824, .iconst 1, 1), (825, .iadd, 1), (826, .iaload, 1), (827, .invokevirtual 112, 3), (830, .if_icmp .eq 5, 3), (833, .iconst 0, 1), (834, .ireturn, 1), (835, .iinc 4 5, 3), (838, .goto (-815), 3), (841, .iconst 1, 1), (842, .ireturn, 1)]
theorem v_144_5 : (pc_144_5).all (p_dok code) = true := by decide +kernel
set_option maxRecDepth 100000 in
theorem v_144 : p_vok pm_144 := by
  show (pc_144_0 ++ (pc_144_1 ++ (pc_144_2 ++ (pc_144_3 ++ (pc_144_4 ++ (pc_144_5)))))).all (p_dok code) = true
  simp only [List.all_append, Bool.and_eq_true]
  exact ⟨v_144_0, v_144_1, v_144_2, v_144_3, v_144_4, v_144_5⟩
end
section
def p_ML_0 : List pMeth := [pm_0, pm_1, pm_2, pm_3, pm_4, pm_5, pm_6, pm_7, pm_8, pm_9, pm_10, pm_11, pm_12, pm_13, pm_14, pm_15, pm_16, pm_17, pm_18, pm_19, pm_20, pm_21, pm_22, pm_23]
theorem v_all_0 : ∀ q ∈ p_ML_0, p_vok q := List.forall_mem_cons.mpr ⟨v_0, List.forall_mem_cons.mpr ⟨v_1, List.forall_mem_cons.mpr ⟨v_2, List.forall_mem_cons.mpr ⟨v_3, List.forall_mem_cons.mpr ⟨v_4, List.forall_mem_cons.mpr ⟨v_5, List.forall_mem_cons.mpr ⟨v_6, List.forall_mem_cons.mpr ⟨v_7, List.forall_mem_cons.mpr ⟨v_8, List.forall_mem_cons.mpr ⟨v_9, List.forall_mem_cons.mpr ⟨v_10, List.forall_mem_cons.mpr ⟨v_11, List.forall_mem_cons.mpr ⟨v_12, List.forall_mem_cons.mpr ⟨v_13, List.forall_mem_cons.mpr ⟨v_14, List.forall_mem_cons.mpr ⟨v_15, List.forall_mem_cons.mpr ⟨v_16, List.forall_mem_cons.mpr ⟨v_17, List.forall_mem_cons.mpr ⟨v_18, List.forall_mem_cons.mpr ⟨v_19, List.forall_mem_cons.mpr ⟨v_20, List.forall_mem_cons.mpr ⟨v_21, List.forall_mem_cons.mpr ⟨v_22, List.forall_mem_cons.mpr ⟨v_23, fun _ h => absurd h List.not_mem_nil⟩⟩⟩⟩⟩⟩⟩⟩⟩⟩⟩⟩⟩⟩⟩⟩⟩⟩⟩⟩⟩⟩⟩⟩
def p_ML_1 : List pMeth := [pm_24, pm_25, pm_26, pm_27, pm_28, pm_29, pm_30, pm_31, pm_32, pm_33, pm_34, pm_35, pm_36, pm_37, pm_38, pm_39, pm_40, pm_41, pm_42, pm_43, pm_44, pm_45, pm_46, pm_47]
theorem v_all_1 : ∀ q ∈ p_ML_1, p_vok q := List.forall_mem_cons.mpr ⟨v_24, List.forall_mem_cons.mpr ⟨v_25, List.forall_mem_cons.mpr ⟨v_26, List.forall_mem_cons.mpr ⟨v_27, List.forall_mem_cons.mpr ⟨v_28, List.forall_mem_cons.mpr ⟨v_29, List.forall_mem_cons.mpr ⟨v_30, List.forall_mem_cons.mpr ⟨v_31, List.forall_mem_cons.mpr ⟨v_32, List.forall_mem_cons.mpr ⟨v_33, List.forall_mem_cons.mpr ⟨v_34, List.forall_mem_cons.mpr ⟨v_35, List.forall_mem_cons.mpr ⟨v_36, List.forall_mem_cons.mpr ⟨v_37, List.forall_mem_cons.mpr ⟨v_38, List.forall_mem_cons.mpr ⟨v_39, List.forall_mem_cons.mpr ⟨v_40, List.forall_mem_cons.mpr ⟨v_41, List.forall_mem_cons.mpr ⟨v_42, List.forall_mem_cons.mpr ⟨v_43, List.forall_mem_cons.mpr ⟨v_44, List.forall_mem_cons.mpr ⟨v_45, List.forall_mem_cons.mpr ⟨v_46, List.forall_mem_cons.mpr ⟨v_47, fun _ h => absurd h List.not_mem_nil⟩⟩⟩⟩⟩⟩⟩⟩⟩⟩⟩⟩⟩⟩⟩⟩⟩⟩⟩⟩⟩⟩⟩⟩
def p_ML_2 : List pMeth := [pm_48, pm_49, pm_50, pm_51, pm_52, pm_53, pm_54, pm_55, pm_56, pm_57, pm_58, pm_59, pm_60, pm_61, pm_62, pm_63, pm_64, pm_65, pm_66, pm_67, pm_68, pm_69, pm_70, pm_71]
theorem v_all_2 : ∀ q ∈ p_ML_2, p_vok q := List.forall_mem_cons.mpr ⟨v_48, List.forall_mem_cons.mpr ⟨v_49, List.forall_mem_cons.mpr ⟨v_50, List.forall_mem_cons.mpr ⟨v_51, List.forall_mem_cons.mpr ⟨v_52, List.forall_mem_cons.mpr ⟨v_53, List.forall_mem_cons.mpr ⟨v_54, List.forall_mem_cons.mpr ⟨v_55, List.forall_mem_cons.mpr ⟨v_56, List.forall_mem_cons.mpr ⟨v_57, List.forall_mem_cons.mpr ⟨v_58, List.forall_mem_cons.mpr ⟨v_59, List.forall_mem_cons.mpr ⟨v_60, List.forall_mem_cons.mpr ⟨v_61, List.forall_mem_cons.mpr ⟨v_62, List.forall_mem_cons.mpr ⟨v_63, List.forall_mem_cons.mpr ⟨v_64, List.forall_mem_cons.mpr ⟨v_65, List.forall_mem_cons.mpr ⟨v_66, List.forall_mem_cons.mpr ⟨v_67, List.forall_mem_cons.mpr ⟨v_68, List.forall_mem_cons.mpr ⟨v_69, List.forall_mem_cons.mpr ⟨v_70, List.forall_mem_cons.mpr ⟨v_71, fun _ h => absurd h List.not_mem_nil⟩⟩⟩⟩⟩⟩⟩⟩⟩⟩⟩⟩⟩⟩⟩⟩⟩⟩⟩⟩⟩⟩⟩⟩
def p_ML_3 : List pMeth := [pm_72, pm_73, pm_74, pm_75, pm_76, pm_77, pm_78, pm_79, pm_80, pm_81, pm_82, pm_83, pm_84, pm_85, pm_86, pm_87, pm_88, pm_89, pm_90, pm_91, pm_92, pm_93, pm_94, pm_95]
theorem v_all_3 : ∀ q ∈ p_ML_3, p_vok q := List.forall_mem_cons.mpr ⟨v_72, List.forall_mem_cons.mpr ⟨v_73, List.forall_mem_cons.mpr ⟨v_74, List.forall_mem_cons.mpr ⟨v_75, List.forall_mem_cons.mpr ⟨v_76, List.forall_mem_cons.mpr ⟨v_77, List.forall_mem_cons.mpr ⟨v_78, List.forall_mem_cons.mpr ⟨v_79, List.forall_mem_cons.mpr ⟨v_80, List.forall_mem_cons.mpr ⟨v_81, List.forall_mem_cons.mpr ⟨v_82, List.forall_mem_cons.mpr ⟨v_83, List.forall_mem_cons.mpr ⟨v_84, List.forall_mem_cons.mpr ⟨v_85, List.forall_mem_cons.mpr ⟨v_86, List.forall_mem_cons.mpr ⟨v_87, List.forall_mem_cons.mpr ⟨v_88, List.forall_mem_cons.mpr ⟨v_89, List.forall_mem_cons.mpr ⟨v_90, List.forall_mem_cons.mpr ⟨v_91, List.forall_mem_cons.mpr ⟨v_92, List.forall_mem_cons.mpr ⟨v_93, List.forall_mem_cons.mpr ⟨v_94, List.forall_mem_cons.mpr ⟨v_95, fun _ h => absurd h List.not_mem_nil⟩⟩⟩⟩⟩⟩⟩⟩⟩⟩⟩⟩⟩⟩⟩⟩⟩⟩⟩⟩⟩⟩⟩⟩
def p_ML_4 : List pMeth := [pm_96, pm_97, pm_98, pm_99, pm_100, pm_101, pm_102, pm_103, pm_104, pm_105, pm_106, pm_107, pm_108, pm_109, pm_110, pm_111, pm_112, pm_113, pm_114, pm_115, pm_116, pm_117, pm_118, pm_119]
theorem v_all_4 : ∀ q ∈ p_ML_4, p_vok q := List.forall_mem_cons.mpr ⟨v_96, List.forall_mem_cons.mpr ⟨v_97, List.forall_mem_cons.mpr ⟨v_98, List.forall_mem_cons.mpr ⟨v_99, List.forall_mem_cons.mpr ⟨v_100, List.forall_mem_cons.mpr ⟨v_101, List.forall_mem_cons.mpr ⟨v_102, List.forall_mem_cons.mpr ⟨v_103, List.forall_mem_cons.mpr ⟨v_104, List.forall_mem_cons.mpr ⟨v_105, List.forall_mem_cons.mpr ⟨v_106, List.forall_mem_cons.mpr ⟨v_107, List.forall_mem_cons.mpr ⟨v_108, List.forall_mem_cons.mpr ⟨v_109, List.forall_mem_cons.mpr ⟨v_110, List.forall_mem_cons.mpr ⟨v_111, List.forall_mem_cons.mpr ⟨v_112, List.forall_mem_cons.mpr ⟨v_113, List.forall_mem_cons.mpr ⟨v_114, List.forall_mem_cons.mpr ⟨v_115, List.forall_mem_cons.mpr ⟨v_116, List.forall_mem_cons.mpr ⟨v_117, List.forall_mem_cons.mpr ⟨v_118, List.forall_mem_cons.mpr ⟨v_119, fun _ h => absurd h List.not_mem_nil⟩⟩⟩⟩⟩⟩⟩⟩⟩⟩⟩⟩⟩⟩⟩⟩⟩⟩⟩⟩⟩⟩⟩⟩
def p_ML_5 : List pMeth := [pm_120, pm_121, pm_122, pm_123, pm_124, pm_125, pm_126, pm_127, pm_128, pm_129, pm_130, pm_131, pm_132, pm_133, pm_134, pm_135, pm_136, pm_137, pm_138, pm_139, pm_140, pm_141, pm_142, pm_143]
theorem v_all_5 : ∀ q ∈ p_ML_5, p_vok q := List.forall_mem_cons.mpr ⟨v_120, List.forall_mem_cons.mpr ⟨v_121, List.forall_mem_cons.mpr ⟨v_122, List.forall_mem_cons.mpr ⟨v_123, List.forall_mem_cons.mpr ⟨v_124, List.forall_mem_cons.mpr ⟨v_125, List.forall_mem_cons.mpr ⟨v_126, List.forall_mem_cons.mpr ⟨v_127, List.forall_mem_cons.mpr ⟨v_128, List.forall_mem_cons.mpr ⟨v_129, List.forall_mem_cons.mpr ⟨v_130, List.forall_mem_cons.mpr ⟨v_131, List.forall_mem_cons.mpr ⟨v_132, List.forall_mem_cons.mpr ⟨v_133, List.forall_mem_cons.mpr ⟨v_134, List.forall_mem_cons.mpr ⟨v_135, List.forall_mem_cons.mpr ⟨v_136, List.forall_mem_cons.mpr ⟨v_137, List.forall_mem_cons.mpr ⟨v_138, List.forall_mem_cons.mpr ⟨v_139, List.forall_mem_cons.mpr ⟨v_140, List.forall_mem_cons.mpr ⟨v_141, List.forall_mem_cons.mpr ⟨v_142, List.forall_mem_cons.mpr ⟨v_143, fun _ h => absurd h List.not_mem_nil⟩⟩⟩⟩⟩⟩⟩⟩⟩⟩⟩⟩⟩⟩⟩⟩⟩⟩⟩⟩⟩⟩⟩⟩
def p_ML_6 : List pMeth := [pm_144]
theorem v_all_6 : ∀ q ∈ p_ML_6, p_vok q := List.forall_mem_cons.mpr ⟨v_144, fun _ h => absurd h List.not_mem_nil⟩
set_option maxRecDepth 100000 in
theorem p_ML_eq : p_ML = p_ML_0 ++ (p_ML_1 ++ (p_ML_2 ++ (p_ML_3 ++ (p_ML_4 ++ (p_ML_5 ++ (p_ML_6)))))) := rfl
theorem v_all : ∀ q ∈ p_ML, p_vok q := by
  intro q hq
  rw [p_ML_eq] at hq
  rcases List.mem_append.mp hq with hq | hq
  · exact v_all_0 q hq
  rcases List.mem_append.mp hq with hq | hq
  · exact v_all_1 q hq
  rcases List.mem_append.mp hq with hq | hq
  · exact v_all_2 q hq
  rcases List.mem_append.mp hq with hq | hq
  · exact v_all_3 q hq
  rcases List.mem_append.mp hq with hq | hq
  · exact v_all_4 q hq
  rcases List.mem_append.mp hq with hq | hq
  · exact v_all_5 q hq
  exact v_all_6 q hq
theorem v_z : p_vok pm_z := rfl
theorem p_me_ok (mi : Nat) : p_vok (p_me mi) := by
  unfold p_me
  cases h : p_ML[mi]? with
  | none => exact v_z
  | some q => exact v_all q (List.mem_of_getElem? h)
theorem p_code_ok {mi pc len : Nat} {ins : Instr} (h : p_code mi pc = some (ins, len)) : decode (p_bytes mi) pc = .ok (ins, len) ∧ (p_sw ins = false → len = p_len ins) := by
  have h1 := p_find_mem h
  have h2 := List.all_eq_true.mp (p_me_ok mi) _ h1
  unfold p_dok at h2
  rw [Bool.and_eq_true, Bool.or_eq_true, decide_eq_true_eq] at h2
  refine ⟨h2.1, fun hs => ?_⟩
  rcases h2.2 with h3 | h3
  · dsimp only at h3
    rw [hs] at h3
    cases h3
  · exact Nat.eq_of_beq_eq_true h3
theorem p_tt {w : Cond} (k : Nat) (h : tables_1[k]? = some w) : w ∈ lw_tbl := List.mem_append_right _ (List.mem_of_getElem? h)
theorem p_t {w : Cond} (k : Nat) (h : tables_1[k]? = some w) (hg : goodWord w = true := by first | rfl | decide +kernel) : w ∈ lw_g := List.mem_filter.mpr ⟨p_tt k h, hg⟩
def p_clok (ci : Nat) (q : vw_C) : Prop := (∀ w ∈ u_ws q.1 q.2.1 q.2.2, w ∈ lw_g) ∧ (∀ k, k < q.2.2 → parseFieldDescriptor (q.2.1 k).2.2.1 = some (p_fty ci k)) ∧ (∀ a, a < q.2.2 → ∀ b, b < q.2.2 → a ≠ b → (q.2.1 a).2.1 ≠ (q.2.1 b).2.1) ∧ (∀ f, p_fin ci f = (q.2.1 f).2.2.2 ∨ q.2.2 = 0) ∧ (∀ f, f < q.2.2 → (q.2.1 f).1 = p_cn ci)
theorem p_emp {C : String} : ∀ w ∈ u_ws C TE 0, w ∈ lw_g := fun w h => by simp [u_ws] at h
theorem p_cl_ok : ∀ ci q, vwCl[ci]? = some q → p_clok ci q := by
  intro ci q h
  match ci, h with
  | 0, h => cases h; exact ⟨inX0, tyX0_ok, nmX0, fun f => Or.inl rfl, by decide +kernel⟩
  | 1, h => cases h; exact ⟨inX1, tyX1_ok, nmX1, fun f => Or.inl rfl, by decide +kernel⟩
  | 2, h => cases h; exact ⟨inX2, tyX2_ok, nmX2, fun f => Or.inl rfl, by decide +kernel⟩
  | 3, h => cases h; exact ⟨inX3, tyX3_ok, nmX3, fun f => Or.inl rfl, by decide +kernel⟩
  | 4, h => cases h; exact ⟨inX4, tyX4_ok, nmX4, fun f => Or.inl rfl, by decide +kernel⟩
  | 5, h => cases h; exact ⟨inX5, tyX5_ok, nmX5, fun f => Or.inl rfl, by decide +kernel⟩
  | 6, h => cases h; exact ⟨inX6, tyX6_ok, nmX6, fun f => Or.inl rfl, by decide +kernel⟩
  | 7, h => cases h; exact ⟨p_emp, fun k hk => absurd hk (Nat.not_lt_zero _), fun a ha => absurd ha (Nat.not_lt_zero _), fun f => Or.inr rfl, fun f hf => absurd hf (Nat.not_lt_zero _)⟩
  | 8, h => cases h; exact ⟨p_emp, fun k hk => absurd hk (Nat.not_lt_zero _), fun a ha => absurd ha (Nat.not_lt_zero _), fun f => Or.inr rfl, fun f hf => absurd hf (Nat.not_lt_zero _)⟩
  | 9, h => cases h; exact ⟨p_emp, fun k hk => absurd hk (Nat.not_lt_zero _), fun a ha => absurd ha (Nat.not_lt_zero _), fun f => Or.inr rfl, fun f hf => absurd hf (Nat.not_lt_zero _)⟩
  | 10, h => cases h; exact ⟨p_emp, fun k hk => absurd hk (Nat.not_lt_zero _), fun a ha => absurd ha (Nat.not_lt_zero _), fun f => Or.inr rfl, fun f hf => absurd hf (Nat.not_lt_zero _)⟩
  | 11, h => cases h; exact ⟨p_emp, fun k hk => absurd hk (Nat.not_lt_zero _), fun a ha => absurd ha (Nat.not_lt_zero _), fun f => Or.inr rfl, fun f hf => absurd hf (Nat.not_lt_zero _)⟩
  | ci + 12, h => simp [vwCl] at h
def p_fldP (o i : Nat) (a : Nat × Nat) : Prop := ∃ q : vw_C, vwCl[a.1]? = some q ∧ a.2 < q.2.2 ∧ Cond.fieldLink (p_cn o) i (q.2.1 a.2).1 (q.2.1 a.2).2.1 (q.2.1 a.2).2.2.1 ∈ lw_g
theorem f_0_9 : p_fldP 0 9 (0, 0) := ⟨_, rfl, by decide, p_t 168 (by decide +kernel)⟩
theorem f_0_15 : p_fldP 0 15 (0, 1) := ⟨_, rfl, by decide, p_t 170 (by decide +kernel)⟩
theorem f_0_29 : p_fldP 0 29 (2, 0) := ⟨_, rfl, by decide, p_t 38 (by decide +kernel)⟩
theorem f_0_38 : p_fldP 0 38 (2, 1) := ⟨_, rfl, by decide, p_t 42 (by decide +kernel)⟩
theorem f_0_48 : p_fldP 0 48 (2, 2) := ⟨_, rfl, by decide, p_t 46 (by decide +kernel)⟩
theorem f_0_70 : p_fldP 0 70 (2, 3) := ⟨_, rfl, by decide, p_t 50 (by decide +kernel)⟩
theorem f_0_73 : p_fldP 0 73 (2, 4) := ⟨_, rfl, by decide, p_t 54 (by decide +kernel)⟩
theorem f_0_83 : p_fldP 0 83 (2, 5) := ⟨_, rfl, by decide, p_t 58 (by decide +kernel)⟩
theorem f_0_86 : p_fldP 0 86 (2, 6) := ⟨_, rfl, by decide, p_t 61 (by decide +kernel)⟩
theorem f_0_91 : p_fldP 0 91 (2, 7) := ⟨_, rfl, by decide, p_t 65 (by decide +kernel)⟩
theorem f_0_94 : p_fldP 0 94 (2, 8) := ⟨_, rfl, by decide, p_t 68 (by decide +kernel)⟩
theorem f_1_9 : p_fldP 1 9 (1, 1) := ⟨_, rfl, by decide, p_t 109 (by decide +kernel)⟩
theorem f_1_15 : p_fldP 1 15 (1, 0) := ⟨_, rfl, by decide, p_t 108 (by decide +kernel)⟩
theorem f_1_19 : p_fldP 1 19 (1, 2) := ⟨_, rfl, by decide, p_t 110 (by decide +kernel)⟩
theorem f_1_28 : p_fldP 1 28 (1, 3) := ⟨_, rfl, by decide, p_t 112 (by decide +kernel)⟩
theorem f_1_31 : p_fldP 1 31 (1, 4) := ⟨_, rfl, by decide, p_t 113 (by decide +kernel)⟩
theorem f_1_42 : p_fldP 1 42 (2, 10) := ⟨_, rfl, by decide, p_t 72 (by decide +kernel)⟩
theorem f_2_9 : p_fldP 2 9 (2, 0) := ⟨_, rfl, by decide, p_t 36 (by decide +kernel)⟩
theorem f_2_15 : p_fldP 2 15 (2, 1) := ⟨_, rfl, by decide, p_t 40 (by decide +kernel)⟩
theorem f_2_18 : p_fldP 2 18 (2, 2) := ⟨_, rfl, by decide, p_t 44 (by decide +kernel)⟩
theorem f_2_21 : p_fldP 2 21 (2, 3) := ⟨_, rfl, by decide, p_t 48 (by decide +kernel)⟩
theorem f_2_24 : p_fldP 2 24 (2, 4) := ⟨_, rfl, by decide, p_t 52 (by decide +kernel)⟩
theorem f_2_27 : p_fldP 2 27 (2, 5) := ⟨_, rfl, by decide, p_t 56 (by decide +kernel)⟩
theorem f_2_30 : p_fldP 2 30 (2, 6) := ⟨_, rfl, by decide, p_t 59 (by decide +kernel)⟩
theorem f_2_33 : p_fldP 2 33 (2, 7) := ⟨_, rfl, by decide, p_t 63 (by decide +kernel)⟩
theorem f_2_36 : p_fldP 2 36 (2, 8) := ⟨_, rfl, by decide, p_t 66 (by decide +kernel)⟩
theorem f_2_39 : p_fldP 2 39 (2, 9) := ⟨_, rfl, by decide, p_t 69 (by decide +kernel)⟩
theorem f_2_43 : p_fldP 2 43 (2, 10) := ⟨_, rfl, by decide, p_t 71 (by decide +kernel)⟩
theorem f_2_46 : p_fldP 2 46 (2, 11) := ⟨_, rfl, by decide, p_t 74 (by decide +kernel)⟩
theorem f_3_9 : p_fldP 3 9 (3, 0) := ⟨_, rfl, by decide, p_t 135 (by decide +kernel)⟩
theorem f_3_15 : p_fldP 3 15 (3, 1) := ⟨_, rfl, by decide, p_t 136 (by decide +kernel)⟩
theorem f_3_19 : p_fldP 3 19 (3, 2) := ⟨_, rfl, by decide, p_t 137 (by decide +kernel)⟩
theorem f_4_9 : p_fldP 4 9 (4, 0) := ⟨_, rfl, by decide, p_t 152 (by decide +kernel)⟩
theorem f_4_15 : p_fldP 4 15 (4, 1) := ⟨_, rfl, by decide, p_t 154 (by decide +kernel)⟩
theorem f_4_19 : p_fldP 4 19 (2, 10) := ⟨_, rfl, by decide, p_t 70 (by decide +kernel)⟩
theorem f_4_25 : p_fldP 4 25 (2, 0) := ⟨_, rfl, by decide, p_t 37 (by decide +kernel)⟩
theorem f_4_29 : p_fldP 4 29 (2, 1) := ⟨_, rfl, by decide, p_t 41 (by decide +kernel)⟩
theorem f_4_34 : p_fldP 4 34 (2, 2) := ⟨_, rfl, by decide, p_t 45 (by decide +kernel)⟩
theorem f_4_53 : p_fldP 4 53 (2, 3) := ⟨_, rfl, by decide, p_t 49 (by decide +kernel)⟩
theorem f_4_56 : p_fldP 4 56 (2, 4) := ⟨_, rfl, by decide, p_t 53 (by decide +kernel)⟩
theorem f_4_74 : p_fldP 4 74 (2, 5) := ⟨_, rfl, by decide, p_t 57 (by decide +kernel)⟩
theorem f_4_77 : p_fldP 4 77 (2, 6) := ⟨_, rfl, by decide, p_t 60 (by decide +kernel)⟩
theorem f_4_80 : p_fldP 4 80 (2, 7) := ⟨_, rfl, by decide, p_t 64 (by decide +kernel)⟩
theorem f_4_85 : p_fldP 4 85 (2, 8) := ⟨_, rfl, by decide, p_t 67 (by decide +kernel)⟩
theorem f_5_12 : p_fldP 5 12 (5, 0) := ⟨_, rfl, by decide, p_t 177 (by decide +kernel)⟩
theorem f_5_21 : p_fldP 5 21 (5, 1) := ⟨_, rfl, by decide, p_t 178 (by decide +kernel)⟩
theorem f_5_28 : p_fldP 5 28 (5, 2) := ⟨_, rfl, by decide, p_t 179 (by decide +kernel)⟩
theorem f_5_35 : p_fldP 5 35 (5, 3) := ⟨_, rfl, by decide, p_t 180 (by decide +kernel)⟩
theorem f_5_42 : p_fldP 5 42 (5, 4) := ⟨_, rfl, by decide, p_t 181 (by decide +kernel)⟩
theorem f_5_46 : p_fldP 5 46 (5, 5) := ⟨_, rfl, by decide, p_t 182 (by decide +kernel)⟩
theorem f_5_101 : p_fldP 5 101 (2, 0) := ⟨_, rfl, by decide, p_t 39 (by decide +kernel)⟩
theorem f_5_105 : p_fldP 5 105 (2, 1) := ⟨_, rfl, by decide, p_t 43 (by decide +kernel)⟩
theorem f_5_108 : p_fldP 5 108 (2, 2) := ⟨_, rfl, by decide, p_t 47 (by decide +kernel)⟩
theorem f_5_111 : p_fldP 5 111 (2, 3) := ⟨_, rfl, by decide, p_t 51 (by decide +kernel)⟩
theorem f_5_114 : p_fldP 5 114 (2, 4) := ⟨_, rfl, by decide, p_t 55 (by decide +kernel)⟩
theorem f_5_117 : p_fldP 5 117 (2, 6) := ⟨_, rfl, by decide, p_t 62 (by decide +kernel)⟩
theorem f_5_134 : p_fldP 5 134 (2, 10) := ⟨_, rfl, by decide, p_t 73 (by decide +kernel)⟩
theorem f_5_147 : p_fldP 5 147 (0, 1) := ⟨_, rfl, by decide, p_t 171 (by decide +kernel)⟩
theorem f_5_152 : p_fldP 5 152 (0, 0) := ⟨_, rfl, by decide, p_t 169 (by decide +kernel)⟩
theorem f_5_166 : p_fldP 5 166 (1, 2) := ⟨_, rfl, by decide, p_t 111 (by decide +kernel)⟩
theorem f_5_167 : p_fldP 5 167 (2, 11) := ⟨_, rfl, by decide, p_t 75 (by decide +kernel)⟩
theorem f_5_179 : p_fldP 5 179 (4, 1) := ⟨_, rfl, by decide, p_t 155 (by decide +kernel)⟩
theorem f_5_188 : p_fldP 5 188 (4, 0) := ⟨_, rfl, by decide, p_t 153 (by decide +kernel)⟩
theorem f_6_7 : p_fldP 6 7 (6, 0) := ⟨_, rfl, by decide, p_t 727 (by decide +kernel)⟩
theorem f_6_13 : p_fldP 6 13 (6, 5) := ⟨_, rfl, by decide, p_t 732 (by decide +kernel)⟩
theorem f_6_16 : p_fldP 6 16 (6, 6) := ⟨_, rfl, by decide, p_t 733 (by decide +kernel)⟩
theorem f_6_19 : p_fldP 6 19 (6, 7) := ⟨_, rfl, by decide, p_t 734 (by decide +kernel)⟩
theorem f_6_22 : p_fldP 6 22 (6, 8) := ⟨_, rfl, by decide, p_t 735 (by decide +kernel)⟩
theorem f_6_25 : p_fldP 6 25 (6, 9) := ⟨_, rfl, by decide, p_t 736 (by decide +kernel)⟩
theorem f_6_28 : p_fldP 6 28 (6, 10) := ⟨_, rfl, by decide, p_t 737 (by decide +kernel)⟩
theorem f_6_31 : p_fldP 6 31 (6, 11) := ⟨_, rfl, by decide, p_t 738 (by decide +kernel)⟩
theorem f_6_34 : p_fldP 6 34 (6, 12) := ⟨_, rfl, by decide, p_t 739 (by decide +kernel)⟩
theorem f_6_37 : p_fldP 6 37 (6, 18) := ⟨_, rfl, by decide, p_t 745 (by decide +kernel)⟩
theorem f_6_40 : p_fldP 6 40 (6, 19) := ⟨_, rfl, by decide, p_t 746 (by decide +kernel)⟩
theorem f_6_43 : p_fldP 6 43 (6, 20) := ⟨_, rfl, by decide, p_t 747 (by decide +kernel)⟩
theorem f_6_46 : p_fldP 6 46 (6, 21) := ⟨_, rfl, by decide, p_t 748 (by decide +kernel)⟩
theorem f_6_49 : p_fldP 6 49 (6, 23) := ⟨_, rfl, by decide, p_t 750 (by decide +kernel)⟩
theorem f_6_52 : p_fldP 6 52 (6, 24) := ⟨_, rfl, by decide, p_t 751 (by decide +kernel)⟩
theorem f_6_55 : p_fldP 6 55 (6, 26) := ⟨_, rfl, by decide, p_t 753 (by decide +kernel)⟩
theorem f_6_59 : p_fldP 6 59 (6, 27) := ⟨_, rfl, by decide, p_t 754 (by decide +kernel)⟩
theorem f_6_62 : p_fldP 6 62 (6, 28) := ⟨_, rfl, by decide, p_t 755 (by decide +kernel)⟩
theorem f_6_65 : p_fldP 6 65 (6, 29) := ⟨_, rfl, by decide, p_t 756 (by decide +kernel)⟩
theorem f_6_68 : p_fldP 6 68 (6, 30) := ⟨_, rfl, by decide, p_t 757 (by decide +kernel)⟩
theorem f_6_73 : p_fldP 6 73 (6, 4) := ⟨_, rfl, by decide, p_t 731 (by decide +kernel)⟩
theorem f_6_77 : p_fldP 6 77 (6, 1) := ⟨_, rfl, by decide, p_t 728 (by decide +kernel)⟩
theorem f_6_80 : p_fldP 6 80 (6, 2) := ⟨_, rfl, by decide, p_t 729 (by decide +kernel)⟩
theorem f_6_83 : p_fldP 6 83 (6, 3) := ⟨_, rfl, by decide, p_t 730 (by decide +kernel)⟩
theorem f_6_110 : p_fldP 6 110 (6, 14) := ⟨_, rfl, by decide, p_t 741 (by decide +kernel)⟩
theorem f_6_113 : p_fldP 6 113 (6, 13) := ⟨_, rfl, by decide, p_t 740 (by decide +kernel)⟩
theorem f_6_132 : p_fldP 6 132 (6, 22) := ⟨_, rfl, by decide, p_t 749 (by decide +kernel)⟩
theorem f_6_135 : p_fldP 6 135 (6, 17) := ⟨_, rfl, by decide, p_t 744 (by decide +kernel)⟩
theorem f_6_174 : p_fldP 6 174 (6, 15) := ⟨_, rfl, by decide, p_t 742 (by decide +kernel)⟩
theorem f_6_177 : p_fldP 6 177 (6, 16) := ⟨_, rfl, by decide, p_t 743 (by decide +kernel)⟩
theorem f_6_191 : p_fldP 6 191 (6, 25) := ⟨_, rfl, by decide, p_t 752 (by decide +kernel)⟩
theorem f_6_232 : p_fldP 6 232 (6, 31) := ⟨_, rfl, by decide, p_t 758 (by decide +kernel)⟩
theorem p_fldA : p_all2 p_fldL p_fldP := List.forall_mem_cons.mpr ⟨List.forall_mem_cons.mpr ⟨f_0_9, List.forall_mem_cons.mpr ⟨f_0_15, List.forall_mem_cons.mpr ⟨f_0_29, List.forall_mem_cons.mpr ⟨f_0_38, List.forall_mem_cons.mpr ⟨f_0_48, List.forall_mem_cons.mpr ⟨f_0_70, List.forall_mem_cons.mpr ⟨f_0_73, List.forall_mem_cons.mpr ⟨f_0_83, List.forall_mem_cons.mpr ⟨f_0_86, List.forall_mem_cons.mpr ⟨f_0_91, List.forall_mem_cons.mpr ⟨f_0_94, fun _ h => absurd h List.not_mem_nil⟩⟩⟩⟩⟩⟩⟩⟩⟩⟩⟩, List.forall_mem_cons.mpr ⟨List.forall_mem_cons.mpr ⟨f_1_9, List.forall_mem_cons.mpr ⟨f_1_15, List.forall_mem_cons.mpr ⟨f_1_19, List.forall_mem_cons.mpr ⟨f_1_28, List.forall_mem_cons.mpr ⟨f_1_31, List.forall_mem_cons.mpr ⟨f_1_42, fun _ h => absurd h List.not_mem_nil⟩⟩⟩⟩⟩⟩, List.forall_mem_cons.mpr ⟨List.forall_mem_cons.mpr ⟨f_2_9, List.forall_mem_cons.mpr ⟨f_2_15, List.forall_mem_cons.mpr ⟨f_2_18, List.forall_mem_cons.mpr ⟨f_2_21, List.forall_mem_cons.mpr ⟨f_2_24, List.forall_mem_cons.mpr ⟨f_2_27, List.forall_mem_cons.mpr ⟨f_2_30, List.forall_mem_cons.mpr ⟨f_2_33, List.forall_mem_cons.mpr ⟨f_2_36, List.forall_mem_cons.mpr ⟨f_2_39, List.forall_mem_cons.mpr ⟨f_2_43, List.forall_mem_cons.mpr ⟨f_2_46, fun _ h => absurd h List.not_mem_nil⟩⟩⟩⟩⟩⟩⟩⟩⟩⟩⟩⟩, List.forall_mem_cons.mpr ⟨List.forall_mem_cons.mpr ⟨f_3_9, List.forall_mem_cons.mpr ⟨f_3_15, List.forall_mem_cons.mpr ⟨f_3_19, fun _ h => absurd h List.not_mem_nil⟩⟩⟩, List.forall_mem_cons.mpr ⟨List.forall_mem_cons.mpr ⟨f_4_9, List.forall_mem_cons.mpr ⟨f_4_15, List.forall_mem_cons.mpr ⟨f_4_19, List.forall_mem_cons.mpr ⟨f_4_25, List.forall_mem_cons.mpr ⟨f_4_29, List.forall_mem_cons.mpr ⟨f_4_34, List.forall_mem_cons.mpr ⟨f_4_53, List.forall_mem_cons.mpr ⟨f_4_56, List.forall_mem_cons.mpr ⟨f_4_74, List.forall_mem_cons.mpr ⟨f_4_77, List.forall_mem_cons.mpr ⟨f_4_80, List.forall_mem_cons.mpr ⟨f_4_85, fun _ h => absurd h List.not_mem_nil⟩⟩⟩⟩⟩⟩⟩⟩⟩⟩⟩⟩, List.forall_mem_cons.mpr ⟨List.forall_mem_cons.mpr ⟨f_5_12, List.forall_mem_cons.mpr ⟨f_5_21, List.forall_mem_cons.mpr ⟨f_5_28, List.forall_mem_cons.mpr ⟨f_5_35, List.forall_mem_cons.mpr ⟨f_5_42, List.forall_mem_cons.mpr ⟨f_5_46, List.forall_mem_cons.mpr ⟨f_5_101, List.forall_mem_cons.mpr ⟨f_5_105, List.forall_mem_cons.mpr ⟨f_5_108, List.forall_mem_cons.mpr ⟨f_5_111, List.forall_mem_cons.mpr ⟨f_5_114, List.forall_mem_cons.mpr ⟨f_5_117, List.forall_mem_cons.mpr ⟨f_5_134, List.forall_mem_cons.mpr ⟨f_5_147, List.forall_mem_cons.mpr ⟨f_5_152, List.forall_mem_cons.mpr ⟨f_5_166, List.forall_mem_cons.mpr ⟨f_5_167, List.forall_mem_cons.mpr ⟨f_5_179, List.forall_mem_cons.mpr ⟨f_5_188, fun _ h => absurd h List.not_mem_nil⟩⟩⟩⟩⟩⟩⟩⟩⟩⟩⟩⟩⟩⟩⟩⟩⟩⟩⟩, List.forall_mem_cons.mpr ⟨List.forall_mem_cons.mpr ⟨f_6_7, List.forall_mem_cons.mpr ⟨f_6_13, List.forall_mem_cons.mpr ⟨f_6_16, List.forall_mem_cons.mpr ⟨f_6_19, List.forall_mem_cons.mpr ⟨f_6_22, List.forall_mem_cons.mpr ⟨f_6_25, List.forall_mem_cons.mpr ⟨f_6_28, List.forall_mem_cons.mpr ⟨f_6_31, List.forall_mem_cons.mpr ⟨f_6_34, List.forall_mem_cons.mpr ⟨f_6_37, List.forall_mem_cons.mpr ⟨f_6_40, List.forall_mem_cons.mpr ⟨f_6_43, List.forall_mem_cons.mpr ⟨f_6_46, List.forall_mem_cons.mpr ⟨f_6_49, List.forall_mem_cons.mpr ⟨f_6_52, List.forall_mem_cons.mpr ⟨f_6_55, List.forall_mem_cons.mpr ⟨f_6_59, List.forall_mem_cons.mpr ⟨f_6_62, List.forall_mem_cons.mpr ⟨f_6_65, List.forall_mem_cons.mpr ⟨f_6_68, List.forall_mem_cons.mpr ⟨f_6_73, List.forall_mem_cons.mpr ⟨f_6_77, List.forall_mem_cons.mpr ⟨f_6_80, List.forall_mem_cons.mpr ⟨f_6_83, List.forall_mem_cons.mpr ⟨f_6_110, List.forall_mem_cons.mpr ⟨f_6_113, List.forall_mem_cons.mpr ⟨f_6_132, List.forall_mem_cons.mpr ⟨f_6_135, List.forall_mem_cons.mpr ⟨f_6_174, List.forall_mem_cons.mpr ⟨f_6_177, List.forall_mem_cons.mpr ⟨f_6_191, List.forall_mem_cons.mpr ⟨f_6_232, fun _ h => absurd h List.not_mem_nil⟩⟩⟩⟩⟩⟩⟩⟩⟩⟩⟩⟩⟩⟩⟩⟩⟩⟩⟩⟩⟩⟩⟩⟩⟩⟩⟩⟩⟩⟩⟩⟩, fun _ h => absurd h List.not_mem_nil⟩⟩⟩⟩⟩⟩⟩
theorem p_fld_ok {o i ci f : Nat} (h : p_fld o i = some (ci, f)) : ∃ C T N, vwCl[ci]? = some (C, T, N) ∧ (∀ w ∈ u_ws C T N, w ∈ lw_g) ∧ f < N ∧ Cond.fieldLink (p_cn o) i (T f).1 (T f).2.1 (T f).2.2.1 ∈ lw_g ∧ (∀ k, k < N → parseFieldDescriptor (T k).2.2.1 = some (p_fty ci k)) ∧ (∀ a, a < N → ∀ b, b < N → a ≠ b → (T a).2.1 ≠ (T b).2.1) ∧ p_fin ci f = (T f).2.2.2 ∧ (T f).1 = p_cn ci := by
  obtain ⟨⟨C, T, N⟩, h1, h2, h3⟩ := p_all2_ok p_fldA h
  obtain ⟨g1, g2, g3, g4, g5⟩ := p_cl_ok ci _ h1
  refine ⟨C, T, N, h1, g1, h2, h3, g2, g3, ?_, g5 f h2⟩
  rcases g4 f with g | g
  · exact g
  · dsimp only at g h2
    omega
def p_newP (o i : Nat) (a : Nat × List Value) : Prop := ∃ q : vw_C, vwCl[a.1]? = some q ∧ Cond.classLink (p_cn o) i q.1 ∈ lw_g ∧ Cond.instantiable q.1 (p_csl a.1) ∈ lw_g ∧ Cond.initialized q.1 ∈ lw_g ∧ (∀ j, j < q.2.2 → defaultValue (p_fty a.1 j) = vp_V a.2 j) ∧ ∀ v ∈ a.2, v = .null ∨ v = .int 0 ∨ v = .long 0
theorem n_5_9 : p_newP 5 9 (2, [.null, .null, .null, .null, .null, .null, .null, .null, .null, .int 0, .int 0, .int 0]) := ⟨_, rfl, p_t 30 (by decide +kernel), p_t 31 (by decide +kernel), p_t 2 (by decide +kernel), by decide +kernel, by decide +kernel⟩
theorem n_5_16 : p_newP 5 16 (1, [.null, .null, .int 0, .int 0, .int 0]) := ⟨_, rfl, p_t 102 (by decide +kernel), p_t 103 (by decide +kernel), p_t 3 (by decide +kernel), by decide +kernel, by decide +kernel⟩
theorem n_5_25 : p_newP 5 25 (3, [.null, .null, .null]) := ⟨_, rfl, p_t 125 (by decide +kernel), p_t 126 (by decide +kernel), p_t 4 (by decide +kernel), by decide +kernel, by decide +kernel⟩
theorem n_5_32 : p_newP 5 32 (4, [.null, .null]) := ⟨_, rfl, p_t 146 (by decide +kernel), p_t 147 (by decide +kernel), p_t 6 (by decide +kernel), by decide +kernel, by decide +kernel⟩
theorem n_5_39 : p_newP 5 39 (0, [.null, .int 0]) := ⟨_, rfl, p_t 162 (by decide +kernel), p_t 163 (by decide +kernel), p_t 7 (by decide +kernel), by decide +kernel, by decide +kernel⟩
theorem n_12_8 : p_newP 12 8 (5, [.null, .null, .null, .null, .null, .long 0]) := ⟨_, rfl, p_t 22 (by decide +kernel), p_t 23 (by decide +kernel), p_t 1 (by decide +kernel), by decide +kernel, by decide +kernel⟩
theorem n_12_46 : p_newP 12 46 (6, [.null, .int 0, .int 0, .int 0, .int 0, .null, .null, .null, .null, .null, .null, .null, .null, .int 0, .int 0, .int 0, .int 0, .int 0, .null, .null, .null, .null, .int 0, .null, .null, .long 0, .null, .null, .null, .null, .null, .int 0]) := ⟨_, rfl, p_t 720 (by decide +kernel), p_t 721 (by decide +kernel), p_t 8 (by decide +kernel), by decide +kernel, by decide +kernel⟩
theorem p_newA : p_all2 p_newL p_newP := List.forall_mem_cons.mpr ⟨List.forall_mem_cons.mpr ⟨n_5_9, List.forall_mem_cons.mpr ⟨n_5_16, List.forall_mem_cons.mpr ⟨n_5_25, List.forall_mem_cons.mpr ⟨n_5_32, List.forall_mem_cons.mpr ⟨n_5_39, fun _ h => absurd h List.not_mem_nil⟩⟩⟩⟩⟩, List.forall_mem_cons.mpr ⟨List.forall_mem_cons.mpr ⟨n_12_8, List.forall_mem_cons.mpr ⟨n_12_46, fun _ h => absurd h List.not_mem_nil⟩⟩, fun _ h => absurd h List.not_mem_nil⟩⟩
def p_intP (o i : Nat) (a : Int32) : Prop := Cond.constant (p_cn o) i a ∈ lw_g
def p_lngP (o i : Nat) (a : Int64) : Prop := Cond.constantLong (p_cn o) i a ∈ lw_g
theorem ki_0_97 : p_intP 0 97 (100000) := p_t 665 (by decide +kernel)
theorem p_intA : p_all2 p_intL p_intP := List.forall_mem_cons.mpr ⟨List.forall_mem_cons.mpr ⟨ki_0_97, fun _ h => absurd h List.not_mem_nil⟩, fun _ h => absurd h List.not_mem_nil⟩
theorem p_int_ok {o i : Nat} {v : Int32} (h : p_int o i = some v) : Cond.constant (p_cn o) i v ∈ lw_g := p_all2_ok p_intA h
theorem kl_3_22 : p_lngP 3 22 (-1) := p_t 131 (by decide +kernel)
theorem kl_3_30 : p_lngP 3 30 (100000000) := p_t 401 (by decide +kernel)
theorem kl_3_40 : p_lngP 3 40 (100000001) := p_t 429 (by decide +kernel)
theorem kl_4_32 : p_lngP 4 32 (10) := p_t 545 (by decide +kernel)
theorem kl_4_51 : p_lngP 4 51 (1000000) := p_t 556 (by decide +kernel)
theorem kl_4_63 : p_lngP 4 63 (100000000) := p_t 551 (by decide +kernel)
theorem kl_4_83 : p_lngP 4 83 (100) := p_t 555 (by decide +kernel)
theorem kl_5_58 : p_lngP 5 58 (100000000) := p_t 392 (by decide +kernel)
theorem kl_5_79 : p_lngP 5 79 (1000000) := p_t 582 (by decide +kernel)
theorem kl_5_87 : p_lngP 5 87 (500000) := p_t 594 (by decide +kernel)
theorem kl_5_89 : p_lngP 5 89 (10000000) := p_t 595 (by decide +kernel)
theorem kl_5_91 : p_lngP 5 91 (10) := p_t 596 (by decide +kernel)
theorem kl_5_132 : p_lngP 5 132 (-1) := p_t 433 (by decide +kernel)
theorem kl_5_155 : p_lngP 5 155 (1000000000) := p_t 701 (by decide +kernel)
theorem kl_5_164 : p_lngP 5 164 (100) := p_t 719 (by decide +kernel)
theorem kl_6_71 : p_lngP 6 71 (-1) := p_t 726 (by decide +kernel)
theorem kl_6_138 : p_lngP 6 138 (255) := p_t 868 (by decide +kernel)
theorem kl_6_143 : p_lngP 6 143 (7170414) := p_t 863 (by decide +kernel)
theorem kl_6_149 : p_lngP 6 149 (7168376) := p_t 869 (by decide +kernel)
theorem kl_6_151 : p_lngP 6 151 (1718773093) := p_t 870 (by decide +kernel)
theorem kl_6_153 : p_lngP 6 153 (1937007984) := p_t 871 (by decide +kernel)
theorem kl_6_189 : p_lngP 6 189 (100000000) := p_t 931 (by decide +kernel)
theorem kl_6_198 : p_lngP 6 198 (100000001) := p_t 963 (by decide +kernel)
theorem kl_6_200 : p_lngP 6 200 (100) := p_t 969 (by decide +kernel)
theorem kl_6_202 : p_lngP 6 202 (1000000) := p_t 970 (by decide +kernel)
theorem kl_6_211 : p_lngP 6 211 (10) := p_t 964 (by decide +kernel)
theorem kl_6_226 : p_lngP 6 226 (500000) := p_t 979 (by decide +kernel)
theorem kl_6_228 : p_lngP 6 228 (999999) := p_t 980 (by decide +kernel)
theorem kl_6_230 : p_lngP 6 230 (10000000) := p_t 981 (by decide +kernel)
theorem kl_6_241 : p_lngP 6 241 (495874043944) := p_t 1014 (by decide +kernel)
theorem kl_6_253 : p_lngP 6 253 (1835626024) := p_t 1023 (by decide +kernel)
theorem kl_6_255 : p_lngP 6 255 (1835104296) := p_t 1024 (by decide +kernel)
theorem kl_6_263 : p_lngP 6 263 (1000000000) := p_t 1037 (by decide +kernel)
theorem kl_12_58 : p_lngP 12 58 (4294967295) := p_t 1042 (by decide +kernel)
theorem p_lngA : p_all2 p_lngL p_lngP := List.forall_mem_cons.mpr ⟨List.forall_mem_cons.mpr ⟨kl_3_22, List.forall_mem_cons.mpr ⟨kl_3_30, List.forall_mem_cons.mpr ⟨kl_3_40, fun _ h => absurd h List.not_mem_nil⟩⟩⟩, List.forall_mem_cons.mpr ⟨List.forall_mem_cons.mpr ⟨kl_4_32, List.forall_mem_cons.mpr ⟨kl_4_51, List.forall_mem_cons.mpr ⟨kl_4_63, List.forall_mem_cons.mpr ⟨kl_4_83, fun _ h => absurd h List.not_mem_nil⟩⟩⟩⟩, List.forall_mem_cons.mpr ⟨List.forall_mem_cons.mpr ⟨kl_5_58, List.forall_mem_cons.mpr ⟨kl_5_79, List.forall_mem_cons.mpr ⟨kl_5_87, List.forall_mem_cons.mpr ⟨kl_5_89, List.forall_mem_cons.mpr ⟨kl_5_91, List.forall_mem_cons.mpr ⟨kl_5_132, List.forall_mem_cons.mpr ⟨kl_5_155, List.forall_mem_cons.mpr ⟨kl_5_164, fun _ h => absurd h List.not_mem_nil⟩⟩⟩⟩⟩⟩⟩⟩, List.forall_mem_cons.mpr ⟨List.forall_mem_cons.mpr ⟨kl_6_71, List.forall_mem_cons.mpr ⟨kl_6_138, List.forall_mem_cons.mpr ⟨kl_6_143, List.forall_mem_cons.mpr ⟨kl_6_149, List.forall_mem_cons.mpr ⟨kl_6_151, List.forall_mem_cons.mpr ⟨kl_6_153, List.forall_mem_cons.mpr ⟨kl_6_189, List.forall_mem_cons.mpr ⟨kl_6_198, List.forall_mem_cons.mpr ⟨kl_6_200, List.forall_mem_cons.mpr ⟨kl_6_202, List.forall_mem_cons.mpr ⟨kl_6_211, List.forall_mem_cons.mpr ⟨kl_6_226, List.forall_mem_cons.mpr ⟨kl_6_228, List.forall_mem_cons.mpr ⟨kl_6_230, List.forall_mem_cons.mpr ⟨kl_6_241, List.forall_mem_cons.mpr ⟨kl_6_253, List.forall_mem_cons.mpr ⟨kl_6_255, List.forall_mem_cons.mpr ⟨kl_6_263, fun _ h => absurd h List.not_mem_nil⟩⟩⟩⟩⟩⟩⟩⟩⟩⟩⟩⟩⟩⟩⟩⟩⟩⟩, List.forall_mem_cons.mpr ⟨List.forall_mem_cons.mpr ⟨kl_12_58, fun _ h => absurd h List.not_mem_nil⟩, fun _ h => absurd h List.not_mem_nil⟩⟩⟩⟩⟩
theorem p_lng_ok {o i : Nat} {v : Int64} (h : p_lng o i = some v) : Cond.constantLong (p_cn o) i v ∈ lw_g := p_all2_ok p_lngA h
theorem p_arr_int : Cond.arrayClass .int ∈ lw_g := p_t 101 (by decide +kernel)
theorem p_arr_long : Cond.arrayClass .long ∈ lw_g := p_t 145 (by decide +kernel)
theorem p_arr_boolean : Cond.arrayClass .boolean ∈ lw_g := p_t 161 (by decide +kernel)
theorem p_good {w : Cond} (h : w ∈ lw_g) : (w.onTables && w.keeps) = true ∨ ∃ ty, w = .arrayClass ty := good_of_word (List.mem_filter.mp h).2
end
section
/-! the word of a method's code -/
def p_word (mi : Nat) : Cond := match p_raw mi with
  | [] => .code (p_y mi) (p_bytes mi) (p_maxL mi) (p_rty mi)
  | t => .codeWith (p_y mi) (p_bytes mi) (p_maxL mi) (p_rty mi) t
def p_ws (mi : Nat) : List Cond := p_word mi :: lw_g
theorem p_named {mi : Nat} {args : Array Value} {s : State} (h : (p_word mi).before args s = true) : ∃ mk, s.methodNamed? (p_y mi) = some mk := by
  unfold p_word at h
  split at h
  · exact Cond.code_named h
  · obtain ⟨mk, meth, c, h1, -⟩ := Cond.codeWith_spec h
    exact ⟨mk, h1⟩
/-- what the word of a method's code says -/
theorem p_word_spec {mi : Nat} {args : Array Value} {s : State} (h : (p_word mi).before args s = true) : ∃ mk meth c, s.methodNamed? (p_y mi) = some mk ∧ s.vm.method? mk = some meth ∧ meth.code = some c ∧ c.code = p_bytes mi ∧ c.maxLocals = p_maxL mi ∧ meth.sig.returnType = p_rty mi ∧ meth.locks = false ∧ c.exceptionTable.toList.map (fun h => (h.startPc, h.endPc, h.handlerPc, h.catchType)) = p_raw mi ∧ parseMethodDescriptor (p_y mi).desc = some meth.sig := by
  have hn0 := p_named h
  unfold p_word at h
  split at h
  · next hr =>
    obtain ⟨mk, hn⟩ := hn0
    obtain ⟨meth, c, h1, h2, h3, h4, h5, h6, h7, h8⟩ := Cond.code_spec hn h
    refine ⟨mk, meth, c, hn, h1, h2, h3, h4, h5, h6, ?_, h8⟩
    rw [hr]
    have : c.exceptionTable = #[] := Array.isEmpty_iff.mp h7
    rw [this]
    rfl
  · obtain ⟨mk, meth, c, h1, h2, h3, h4, h5, h6, h7, h8, h9⟩ := Cond.codeWith_spec h
    exact ⟨mk, meth, c, h1, h2, h3, h4, h5, h7, h8, h6, h9⟩
end
section
/-! ===== calls: the tables are right: by program (tools/gen4.py) ===== -/
theorem p_tl {w : Cond} (k : Nat) (h : (k2_sels lw_privs)[k]? = some w) (hg : goodWord w = true := by first | rfl | decide +kernel) : w ∈ lw_g := List.mem_filter.mpr ⟨List.mem_append_left _ (List.mem_of_getElem? h), hg⟩
def p_nestW : List Cond := [.methodLinkNest "RateShapes" 11 ⟨"RateShapes$Tree", "<init>", "()V"⟩ "RateShapes", .methodLinkNest "RateShapes" 34 ⟨"RateShapes$Values", "<init>", "()V"⟩ "RateShapes", .methodLinkNest "RateShapes" 41 ⟨"RateShapes$Printer", "<init>", "()V"⟩ "RateShapes"]
def p_mok (cm : Nat) : Prop := p_word cm ∈ lw_g ∧ Cond.initialized (p_y cm).cls ∈ lw_g ∧ p_maxL cm ≤ 41 ∧ plainFor (p_y cm) = true ∧ ((p_y cm).cls ≠ "java/lang/invoke/MethodHandle" ∧ (p_y cm).cls ≠ "java/lang/invoke/VarHandle")
def p_npar (cm n : Nat) : Prop := (parseMethodDescriptor (p_y cm).desc).map (fun d => d.parameters.length) = some n
def p_siteV (o i : Nat) (a : Nat × Nat) : Prop := p_mok a.1 ∧ Cond.methodLink (p_cn o) i (p_y a.1) ∈ lw_g ∧ Cond.instanceMethod (p_y a.1) ∈ lw_g ∧ Cond.selects (p_y a.1).cls (p_y a.1) (p_y a.1) ∈ lw_g ∧ ((∃ ci q, p_inst a.1 = some ci ∧ p_isS a.1 = false ∧ vwCl[ci]? = some q ∧ q.1 = (p_y a.1).cls) ∨ (p_isS a.1 = true ∧ (p_y a.1).cls = "java/lang/String")) ∧ (∃ n, p_npar a.1 n ∧ a.2 = n + 1)
def p_siteS (o i : Nat) (a : Nat × Nat) : Prop := p_mok a.1 ∧ Cond.methodLink (p_cn o) i (p_y a.1) ∈ lw_g ∧ Cond.static (p_y a.1) ∈ lw_g ∧ p_npar a.1 a.2
def p_siteI (o i : Nat) (a : Nat × Nat) : Prop := p_mok a.1 ∧ (Cond.methodLink (p_cn o) i (p_y a.1) ∈ lw_g ∨ ∃ host, Cond.methodLinkNest (p_cn o) i (p_y a.1) host ∈ p_nestW) ∧ Cond.instanceMethod (p_y a.1) ∈ lw_g ∧ (p_y a.1).name = "<init>" ∧ p_raw a.1 = [] ∧ p_rty a.1 = none ∧ (∃ n, p_npar a.1 n ∧ a.2 = n + 1)
theorem mo_0 : p_mok 0 := ⟨p_t 26 (by decide +kernel), p_t 1 (by decide +kernel), by decide +kernel, by decide +kernel, by decide +kernel, by decide +kernel⟩
theorem mo_1 : p_mok 1 := ⟨p_t 34 (by decide +kernel), p_t 2 (by decide +kernel), by decide +kernel, by decide +kernel, by decide +kernel, by decide +kernel⟩
theorem mo_2 : p_mok 2 := ⟨p_t 106 (by decide +kernel), p_t 3 (by decide +kernel), by decide +kernel, by decide +kernel, by decide +kernel, by decide +kernel⟩
theorem mo_3 : p_mok 3 := ⟨p_t 129 (by decide +kernel), p_t 4 (by decide +kernel), by decide +kernel, by decide +kernel, by decide +kernel, by decide +kernel⟩
theorem mo_4 : p_mok 4 := ⟨p_t 134 (by decide +kernel), p_t 5 (by decide +kernel), by decide +kernel, by decide +kernel, by decide +kernel, by decide +kernel⟩
theorem mo_5 : p_mok 5 := ⟨p_t 150 (by decide +kernel), p_t 6 (by decide +kernel), by decide +kernel, by decide +kernel, by decide +kernel, by decide +kernel⟩
theorem mo_6 : p_mok 6 := ⟨p_t 166 (by decide +kernel), p_t 7 (by decide +kernel), by decide +kernel, by decide +kernel, by decide +kernel, by decide +kernel⟩
theorem mo_7 : p_mok 7 := ⟨p_t 199 (by decide +kernel), p_t 1 (by decide +kernel), by decide +kernel, by decide +kernel, by decide +kernel, by decide +kernel⟩
theorem mo_8 : p_mok 8 := ⟨p_t 203 (by decide +kernel), p_t 3 (by decide +kernel), by decide +kernel, by decide +kernel, by decide +kernel, by decide +kernel⟩
theorem mo_9 : p_mok 9 := ⟨p_t 207 (by decide +kernel), p_t 1 (by decide +kernel), by decide +kernel, by decide +kernel, by decide +kernel, by decide +kernel⟩
theorem mo_10 : p_mok 10 := ⟨p_t 211 (by decide +kernel), p_t 3 (by decide +kernel), by decide +kernel, by decide +kernel, by decide +kernel, by decide +kernel⟩
theorem mo_11 : p_mok 11 := ⟨p_t 215 (by decide +kernel), p_t 2 (by decide +kernel), by decide +kernel, by decide +kernel, by decide +kernel, by decide +kernel⟩
theorem mo_12 : p_mok 12 := ⟨p_t 219 (by decide +kernel), p_t 3 (by decide +kernel), by decide +kernel, by decide +kernel, by decide +kernel, by decide +kernel⟩
theorem mo_13 : p_mok 13 := ⟨p_t 223 (by decide +kernel), p_t 3 (by decide +kernel), by decide +kernel, by decide +kernel, by decide +kernel, by decide +kernel⟩
theorem mo_14 : p_mok 14 := ⟨p_t 227 (by decide +kernel), p_t 3 (by decide +kernel), by decide +kernel, by decide +kernel, by decide +kernel, by decide +kernel⟩
theorem mo_15 : p_mok 15 := ⟨p_t 231 (by decide +kernel), p_t 3 (by decide +kernel), by decide +kernel, by decide +kernel, by decide +kernel, by decide +kernel⟩
theorem mo_16 : p_mok 16 := ⟨p_t 235 (by decide +kernel), p_t 3 (by decide +kernel), by decide +kernel, by decide +kernel, by decide +kernel, by decide +kernel⟩
theorem mo_17 : p_mok 17 := ⟨p_t 239 (by decide +kernel), p_t 3 (by decide +kernel), by decide +kernel, by decide +kernel, by decide +kernel, by decide +kernel⟩
theorem mo_18 : p_mok 18 := ⟨p_t 243 (by decide +kernel), p_t 2 (by decide +kernel), by decide +kernel, by decide +kernel, by decide +kernel, by decide +kernel⟩
theorem mo_19 : p_mok 19 := ⟨p_t 246 (by decide +kernel), p_t 9 (by decide +kernel), by decide +kernel, by decide +kernel, by decide +kernel, by decide +kernel⟩
theorem mo_20 : p_mok 20 := ⟨p_t 250 (by decide +kernel), p_t 3 (by decide +kernel), by decide +kernel, by decide +kernel, by decide +kernel, by decide +kernel⟩
theorem mo_21 : p_mok 21 := ⟨p_t 254 (by decide +kernel), p_t 3 (by decide +kernel), by decide +kernel, by decide +kernel, by decide +kernel, by decide +kernel⟩
theorem mo_22 : p_mok 22 := ⟨p_t 258 (by decide +kernel), p_t 3 (by decide +kernel), by decide +kernel, by decide +kernel, by decide +kernel, by decide +kernel⟩
theorem mo_23 : p_mok 23 := ⟨p_t 262 (by decide +kernel), p_t 3 (by decide +kernel), by decide +kernel, by decide +kernel, by decide +kernel, by decide +kernel⟩
theorem mo_24 : p_mok 24 := ⟨p_t 266 (by decide +kernel), p_t 3 (by decide +kernel), by decide +kernel, by decide +kernel, by decide +kernel, by decide +kernel⟩
theorem mo_25 : p_mok 25 := ⟨p_t 270 (by decide +kernel), p_t 2 (by decide +kernel), by decide +kernel, by decide +kernel, by decide +kernel, by decide +kernel⟩
theorem mo_26 : p_mok 26 := ⟨p_t 274 (by decide +kernel), p_t 2 (by decide +kernel), by decide +kernel, by decide +kernel, by decide +kernel, by decide +kernel⟩
theorem mo_27 : p_mok 27 := ⟨p_t 279 (by decide +kernel), p_t 2 (by decide +kernel), by decide +kernel, by decide +kernel, by decide +kernel, by decide +kernel⟩
theorem mo_28 : p_mok 28 := ⟨p_t 283 (by decide +kernel), p_t 3 (by decide +kernel), by decide +kernel, by decide +kernel, by decide +kernel, by decide +kernel⟩
theorem mo_29 : p_mok 29 := ⟨p_t 288 (by decide +kernel), p_t 3 (by decide +kernel), by decide +kernel, by decide +kernel, by decide +kernel, by decide +kernel⟩
theorem mo_30 : p_mok 30 := ⟨p_t 292 (by decide +kernel), p_t 10 (by decide +kernel), by decide +kernel, by decide +kernel, by decide +kernel, by decide +kernel⟩
theorem mo_31 : p_mok 31 := ⟨p_t 296 (by decide +kernel), p_t 10 (by decide +kernel), by decide +kernel, by decide +kernel, by decide +kernel, by decide +kernel⟩
theorem mo_32 : p_mok 32 := ⟨p_t 302 (by decide +kernel), p_t 10 (by decide +kernel), by decide +kernel, by decide +kernel, by decide +kernel, by decide +kernel⟩
theorem mo_33 : p_mok 33 := ⟨p_t 306 (by decide +kernel), p_t 10 (by decide +kernel), by decide +kernel, by decide +kernel, by decide +kernel, by decide +kernel⟩
theorem mo_34 : p_mok 34 := ⟨p_t 309 (by decide +kernel), p_t 11 (by decide +kernel), by decide +kernel, by decide +kernel, by decide +kernel, by decide +kernel⟩
theorem mo_35 : p_mok 35 := ⟨p_t 312 (by decide +kernel), p_t 10 (by decide +kernel), by decide +kernel, by decide +kernel, by decide +kernel, by decide +kernel⟩
theorem mo_36 : p_mok 36 := ⟨p_t 317 (by decide +kernel), p_t 12 (by decide +kernel), by decide +kernel, by decide +kernel, by decide +kernel, by decide +kernel⟩
theorem mo_37 : p_mok 37 := ⟨p_t 343 (by decide +kernel), p_t 3 (by decide +kernel), by decide +kernel, by decide +kernel, by decide +kernel, by decide +kernel⟩
theorem mo_38 : p_mok 38 := ⟨p_t 347 (by decide +kernel), p_t 2 (by decide +kernel), by decide +kernel, by decide +kernel, by decide +kernel, by decide +kernel⟩
theorem mo_39 : p_mok 39 := ⟨p_t 351 (by decide +kernel), p_t 2 (by decide +kernel), by decide +kernel, by decide +kernel, by decide +kernel, by decide +kernel⟩
theorem mo_40 : p_mok 40 := ⟨p_t 355 (by decide +kernel), p_t 3 (by decide +kernel), by decide +kernel, by decide +kernel, by decide +kernel, by decide +kernel⟩
theorem mo_41 : p_mok 41 := ⟨p_t 359 (by decide +kernel), p_t 3 (by decide +kernel), by decide +kernel, by decide +kernel, by decide +kernel, by decide +kernel⟩
theorem mo_42 : p_mok 42 := ⟨p_t 363 (by decide +kernel), p_t 2 (by decide +kernel), by decide +kernel, by decide +kernel, by decide +kernel, by decide +kernel⟩
theorem mo_43 : p_mok 43 := ⟨p_t 367 (by decide +kernel), p_t 3 (by decide +kernel), by decide +kernel, by decide +kernel, by decide +kernel, by decide +kernel⟩
theorem mo_44 : p_mok 44 := ⟨p_t 371 (by decide +kernel), p_t 2 (by decide +kernel), by decide +kernel, by decide +kernel, by decide +kernel, by decide +kernel⟩
theorem mo_45 : p_mok 45 := ⟨p_t 374 (by decide +kernel), p_t 3 (by decide +kernel), by decide +kernel, by decide +kernel, by decide +kernel, by decide +kernel⟩
theorem mo_46 : p_mok 46 := ⟨p_t 378 (by decide +kernel), p_t 2 (by decide +kernel), by decide +kernel, by decide +kernel, by decide +kernel, by decide +kernel⟩
theorem mo_47 : p_mok 47 := ⟨p_t 382 (by decide +kernel), p_t 2 (by decide +kernel), by decide +kernel, by decide +kernel, by decide +kernel, by decide +kernel⟩
theorem mo_48 : p_mok 48 := ⟨p_t 386 (by decide +kernel), p_t 3 (by decide +kernel), by decide +kernel, by decide +kernel, by decide +kernel, by decide +kernel⟩
theorem mo_49 : p_mok 49 := ⟨p_t 391 (by decide +kernel), p_t 1 (by decide +kernel), by decide +kernel, by decide +kernel, by decide +kernel, by decide +kernel⟩
theorem mo_50 : p_mok 50 := ⟨p_t 396 (by decide +kernel), p_t 1 (by decide +kernel), by decide +kernel, by decide +kernel, by decide +kernel, by decide +kernel⟩
theorem mo_51 : p_mok 51 := ⟨p_t 400 (by decide +kernel), p_t 4 (by decide +kernel), by decide +kernel, by decide +kernel, by decide +kernel, by decide +kernel⟩
theorem mo_52 : p_mok 52 := ⟨p_t 404 (by decide +kernel), p_t 4 (by decide +kernel), by decide +kernel, by decide +kernel, by decide +kernel, by decide +kernel⟩
theorem mo_53 : p_mok 53 := ⟨p_t 408 (by decide +kernel), p_t 1 (by decide +kernel), by decide +kernel, by decide +kernel, by decide +kernel, by decide +kernel⟩
theorem mo_54 : p_mok 54 := ⟨p_t 412 (by decide +kernel), p_t 4 (by decide +kernel), by decide +kernel, by decide +kernel, by decide +kernel, by decide +kernel⟩
theorem mo_55 : p_mok 55 := ⟨p_t 416 (by decide +kernel), p_t 4 (by decide +kernel), by decide +kernel, by decide +kernel, by decide +kernel, by decide +kernel⟩
theorem mo_56 : p_mok 56 := ⟨p_t 420 (by decide +kernel), p_t 1 (by decide +kernel), by decide +kernel, by decide +kernel, by decide +kernel, by decide +kernel⟩
theorem mo_57 : p_mok 57 := ⟨p_t 424 (by decide +kernel), p_t 2 (by decide +kernel), by decide +kernel, by decide +kernel, by decide +kernel, by decide +kernel⟩
theorem mo_58 : p_mok 58 := ⟨p_t 428 (by decide +kernel), p_t 4 (by decide +kernel), by decide +kernel, by decide +kernel, by decide +kernel, by decide +kernel⟩
theorem mo_59 : p_mok 59 := ⟨p_t 432 (by decide +kernel), p_t 9 (by decide +kernel), by decide +kernel, by decide +kernel, by decide +kernel, by decide +kernel⟩
theorem mo_60 : p_mok 60 := ⟨p_t 437 (by decide +kernel), p_t 1 (by decide +kernel), by decide +kernel, by decide +kernel, by decide +kernel, by decide +kernel⟩
theorem mo_61 : p_mok 61 := ⟨p_t 440 (by decide +kernel), p_t 0 (by decide +kernel), by decide +kernel, by decide +kernel, by decide +kernel, by decide +kernel⟩
theorem mo_62 : p_mok 62 := ⟨p_t 447 (by decide +kernel), p_t 1 (by decide +kernel), by decide +kernel, by decide +kernel, by decide +kernel, by decide +kernel⟩
theorem mo_63 : p_mok 63 := ⟨p_t 520 (by decide +kernel), p_t 1 (by decide +kernel), by decide +kernel, by decide +kernel, by decide +kernel, by decide +kernel⟩
theorem mo_64 : p_mok 64 := ⟨p_t 540 (by decide +kernel), p_t 1 (by decide +kernel), by decide +kernel, by decide +kernel, by decide +kernel, by decide +kernel⟩
theorem mo_65 : p_mok 65 := ⟨p_t 544 (by decide +kernel), p_t 6 (by decide +kernel), by decide +kernel, by decide +kernel, by decide +kernel, by decide +kernel⟩
theorem mo_66 : p_mok 66 := ⟨p_t 550 (by decide +kernel), p_t 6 (by decide +kernel), by decide +kernel, by decide +kernel, by decide +kernel, by decide +kernel⟩
theorem mo_67 : p_mok 67 := ⟨p_t 554 (by decide +kernel), p_t 6 (by decide +kernel), by decide +kernel, by decide +kernel, by decide +kernel, by decide +kernel⟩
theorem mo_68 : p_mok 68 := ⟨p_t 560 (by decide +kernel), p_t 6 (by decide +kernel), by decide +kernel, by decide +kernel, by decide +kernel, by decide +kernel⟩
theorem mo_69 : p_mok 69 := ⟨p_t 564 (by decide +kernel), p_t 9 (by decide +kernel), by decide +kernel, by decide +kernel, by decide +kernel, by decide +kernel⟩
theorem mo_70 : p_mok 70 := ⟨p_t 585 (by decide +kernel), p_t 1 (by decide +kernel), by decide +kernel, by decide +kernel, by decide +kernel, by decide +kernel⟩
theorem mo_71 : p_mok 71 := ⟨p_t 588 (by decide +kernel), p_t 0 (by decide +kernel), by decide +kernel, by decide +kernel, by decide +kernel, by decide +kernel⟩
theorem mo_72 : p_mok 72 := ⟨p_t 592 (by decide +kernel), p_t 1 (by decide +kernel), by decide +kernel, by decide +kernel, by decide +kernel, by decide +kernel⟩
theorem mo_73 : p_mok 73 := ⟨p_t 599 (by decide +kernel), p_t 0 (by decide +kernel), by decide +kernel, by decide +kernel, by decide +kernel, by decide +kernel⟩
theorem mo_74 : p_mok 74 := ⟨p_t 604 (by decide +kernel), p_t 1 (by decide +kernel), by decide +kernel, by decide +kernel, by decide +kernel, by decide +kernel⟩
theorem mo_75 : p_mok 75 := ⟨p_t 625 (by decide +kernel), p_t 0 (by decide +kernel), by decide +kernel, by decide +kernel, by decide +kernel, by decide +kernel⟩
theorem mo_76 : p_mok 76 := ⟨p_t 629 (by decide +kernel), p_t 1 (by decide +kernel), by decide +kernel, by decide +kernel, by decide +kernel, by decide +kernel⟩
theorem mo_77 : p_mok 77 := ⟨p_t 632 (by decide +kernel), p_t 0 (by decide +kernel), by decide +kernel, by decide +kernel, by decide +kernel, by decide +kernel⟩
theorem mo_78 : p_mok 78 := ⟨p_t 636 (by decide +kernel), p_t 1 (by decide +kernel), by decide +kernel, by decide +kernel, by decide +kernel, by decide +kernel⟩
theorem mo_79 : p_mok 79 := ⟨p_t 640 (by decide +kernel), p_t 7 (by decide +kernel), by decide +kernel, by decide +kernel, by decide +kernel, by decide +kernel⟩
theorem mo_80 : p_mok 80 := ⟨p_t 644 (by decide +kernel), p_t 7 (by decide +kernel), by decide +kernel, by decide +kernel, by decide +kernel, by decide +kernel⟩
theorem mo_81 : p_mok 81 := ⟨p_t 650 (by decide +kernel), p_t 7 (by decide +kernel), by decide +kernel, by decide +kernel, by decide +kernel, by decide +kernel⟩
theorem mo_82 : p_mok 82 := ⟨p_t 656 (by decide +kernel), p_t 7 (by decide +kernel), by decide +kernel, by decide +kernel, by decide +kernel, by decide +kernel⟩
theorem mo_83 : p_mok 83 := ⟨p_t 660 (by decide +kernel), p_t 7 (by decide +kernel), by decide +kernel, by decide +kernel, by decide +kernel, by decide +kernel⟩
theorem mo_84 : p_mok 84 := ⟨p_t 664 (by decide +kernel), p_t 7 (by decide +kernel), by decide +kernel, by decide +kernel, by decide +kernel, by decide +kernel⟩
theorem mo_85 : p_mok 85 := ⟨p_t 670 (by decide +kernel), p_t 7 (by decide +kernel), by decide +kernel, by decide +kernel, by decide +kernel, by decide +kernel⟩
theorem mo_86 : p_mok 86 := ⟨p_t 676 (by decide +kernel), p_t 7 (by decide +kernel), by decide +kernel, by decide +kernel, by decide +kernel, by decide +kernel⟩
theorem mo_87 : p_mok 87 := ⟨p_t 682 (by decide +kernel), p_t 7 (by decide +kernel), by decide +kernel, by decide +kernel, by decide +kernel, by decide +kernel⟩
theorem mo_88 : p_mok 88 := ⟨p_t 687 (by decide +kernel), p_t 0 (by decide +kernel), by decide +kernel, by decide +kernel, by decide +kernel, by decide +kernel⟩
theorem mo_89 : p_mok 89 := ⟨p_t 691 (by decide +kernel), p_t 1 (by decide +kernel), by decide +kernel, by decide +kernel, by decide +kernel, by decide +kernel⟩
theorem mo_90 : p_mok 90 := ⟨p_t 695 (by decide +kernel), p_t 0 (by decide +kernel), by decide +kernel, by decide +kernel, by decide +kernel, by decide +kernel⟩
theorem mo_91 : p_mok 91 := ⟨p_t 700 (by decide +kernel), p_t 1 (by decide +kernel), by decide +kernel, by decide +kernel, by decide +kernel, by decide +kernel⟩
theorem mo_92 : p_mok 92 := ⟨p_t 724 (by decide +kernel), p_t 8 (by decide +kernel), by decide +kernel, by decide +kernel, by decide +kernel, by decide +kernel⟩
theorem mo_93 : p_mok 93 := ⟨p_t 827 (by decide +kernel), p_t 8 (by decide +kernel), by decide +kernel, by decide +kernel, by decide +kernel, by decide +kernel⟩
theorem mo_94 : p_mok 94 := ⟨p_t 831 (by decide +kernel), p_t 8 (by decide +kernel), by decide +kernel, by decide +kernel, by decide +kernel, by decide +kernel⟩
theorem mo_95 : p_mok 95 := ⟨p_t 835 (by decide +kernel), p_t 8 (by decide +kernel), by decide +kernel, by decide +kernel, by decide +kernel, by decide +kernel⟩
theorem mo_96 : p_mok 96 := ⟨p_t 839 (by decide +kernel), p_t 8 (by decide +kernel), by decide +kernel, by decide +kernel, by decide +kernel, by decide +kernel⟩
theorem mo_97 : p_mok 97 := ⟨p_t 843 (by decide +kernel), p_t 8 (by decide +kernel), by decide +kernel, by decide +kernel, by decide +kernel, by decide +kernel⟩
theorem mo_98 : p_mok 98 := ⟨p_t 847 (by decide +kernel), p_t 8 (by decide +kernel), by decide +kernel, by decide +kernel, by decide +kernel, by decide +kernel⟩
theorem mo_99 : p_mok 99 := ⟨p_t 851 (by decide +kernel), p_t 8 (by decide +kernel), by decide +kernel, by decide +kernel, by decide +kernel, by decide +kernel⟩
theorem mo_100 : p_mok 100 := ⟨p_t 855 (by decide +kernel), p_t 8 (by decide +kernel), by decide +kernel, by decide +kernel, by decide +kernel, by decide +kernel⟩
theorem mo_101 : p_mok 101 := ⟨p_t 858 (by decide +kernel), p_t 8 (by decide +kernel), by decide +kernel, by decide +kernel, by decide +kernel, by decide +kernel⟩
theorem mo_102 : p_mok 102 := ⟨p_t 862 (by decide +kernel), p_t 8 (by decide +kernel), by decide +kernel, by decide +kernel, by decide +kernel, by decide +kernel⟩
theorem mo_103 : p_mok 103 := ⟨p_t 867 (by decide +kernel), p_t 8 (by decide +kernel), by decide +kernel, by decide +kernel, by decide +kernel, by decide +kernel⟩
theorem mo_104 : p_mok 104 := ⟨p_t 875 (by decide +kernel), p_t 8 (by decide +kernel), by decide +kernel, by decide +kernel, by decide +kernel, by decide +kernel⟩
theorem mo_105 : p_mok 105 := ⟨p_t 879 (by decide +kernel), p_t 8 (by decide +kernel), by decide +kernel, by decide +kernel, by decide +kernel, by decide +kernel⟩
theorem mo_106 : p_mok 106 := ⟨p_t 883 (by decide +kernel), p_t 8 (by decide +kernel), by decide +kernel, by decide +kernel, by decide +kernel, by decide +kernel⟩
theorem mo_107 : p_mok 107 := ⟨p_t 887 (by decide +kernel), p_t 8 (by decide +kernel), by decide +kernel, by decide +kernel, by decide +kernel, by decide +kernel⟩
theorem mo_108 : p_mok 108 := ⟨p_t 891 (by decide +kernel), p_t 8 (by decide +kernel), by decide +kernel, by decide +kernel, by decide +kernel, by decide +kernel⟩
theorem mo_109 : p_mok 109 := ⟨p_t 895 (by decide +kernel), p_t 8 (by decide +kernel), by decide +kernel, by decide +kernel, by decide +kernel, by decide +kernel⟩
theorem mo_110 : p_mok 110 := ⟨p_t 898 (by decide +kernel), p_t 8 (by decide +kernel), by decide +kernel, by decide +kernel, by decide +kernel, by decide +kernel⟩
theorem mo_111 : p_mok 111 := ⟨p_t 902 (by decide +kernel), p_t 8 (by decide +kernel), by decide +kernel, by decide +kernel, by decide +kernel, by decide +kernel⟩
theorem mo_112 : p_mok 112 := ⟨p_t 906 (by decide +kernel), p_t 8 (by decide +kernel), by decide +kernel, by decide +kernel, by decide +kernel, by decide +kernel⟩
theorem mo_113 : p_mok 113 := ⟨p_t 910 (by decide +kernel), p_t 8 (by decide +kernel), by decide +kernel, by decide +kernel, by decide +kernel, by decide +kernel⟩
theorem mo_114 : p_mok 114 := ⟨p_t 914 (by decide +kernel), p_t 8 (by decide +kernel), by decide +kernel, by decide +kernel, by decide +kernel, by decide +kernel⟩
theorem mo_115 : p_mok 115 := ⟨p_t 918 (by decide +kernel), p_t 8 (by decide +kernel), by decide +kernel, by decide +kernel, by decide +kernel, by decide +kernel⟩
theorem mo_116 : p_mok 116 := ⟨p_t 922 (by decide +kernel), p_t 8 (by decide +kernel), by decide +kernel, by decide +kernel, by decide +kernel, by decide +kernel⟩
theorem mo_117 : p_mok 117 := ⟨p_t 926 (by decide +kernel), p_t 8 (by decide +kernel), by decide +kernel, by decide +kernel, by decide +kernel, by decide +kernel⟩
theorem mo_118 : p_mok 118 := ⟨p_t 930 (by decide +kernel), p_t 8 (by decide +kernel), by decide +kernel, by decide +kernel, by decide +kernel, by decide +kernel⟩
theorem mo_119 : p_mok 119 := ⟨p_t 935 (by decide +kernel), p_t 8 (by decide +kernel), by decide +kernel, by decide +kernel, by decide +kernel, by decide +kernel⟩
theorem mo_120 : p_mok 120 := ⟨p_t 938 (by decide +kernel), p_t 8 (by decide +kernel), by decide +kernel, by decide +kernel, by decide +kernel, by decide +kernel⟩
theorem mo_121 : p_mok 121 := ⟨p_t 942 (by decide +kernel), p_t 8 (by decide +kernel), by decide +kernel, by decide +kernel, by decide +kernel, by decide +kernel⟩
theorem mo_122 : p_mok 122 := ⟨p_t 946 (by decide +kernel), p_t 8 (by decide +kernel), by decide +kernel, by decide +kernel, by decide +kernel, by decide +kernel⟩
theorem mo_123 : p_mok 123 := ⟨p_t 950 (by decide +kernel), p_t 8 (by decide +kernel), by decide +kernel, by decide +kernel, by decide +kernel, by decide +kernel⟩
theorem mo_124 : p_mok 124 := ⟨p_t 954 (by decide +kernel), p_t 8 (by decide +kernel), by decide +kernel, by decide +kernel, by decide +kernel, by decide +kernel⟩
theorem mo_125 : p_mok 125 := ⟨p_t 958 (by decide +kernel), p_t 8 (by decide +kernel), by decide +kernel, by decide +kernel, by decide +kernel, by decide +kernel⟩
theorem mo_126 : p_mok 126 := ⟨p_t 962 (by decide +kernel), p_t 8 (by decide +kernel), by decide +kernel, by decide +kernel, by decide +kernel, by decide +kernel⟩
theorem mo_127 : p_mok 127 := ⟨p_t 968 (by decide +kernel), p_t 8 (by decide +kernel), by decide +kernel, by decide +kernel, by decide +kernel, by decide +kernel⟩
theorem mo_128 : p_mok 128 := ⟨p_t 974 (by decide +kernel), p_t 8 (by decide +kernel), by decide +kernel, by decide +kernel, by decide +kernel, by decide +kernel⟩
theorem mo_129 : p_mok 129 := ⟨p_t 978 (by decide +kernel), p_t 8 (by decide +kernel), by decide +kernel, by decide +kernel, by decide +kernel, by decide +kernel⟩
theorem mo_130 : p_mok 130 := ⟨p_t 985 (by decide +kernel), p_t 8 (by decide +kernel), by decide +kernel, by decide +kernel, by decide +kernel, by decide +kernel⟩
theorem mo_131 : p_mok 131 := ⟨p_t 989 (by decide +kernel), p_t 8 (by decide +kernel), by decide +kernel, by decide +kernel, by decide +kernel, by decide +kernel⟩
theorem mo_132 : p_mok 132 := ⟨p_t 993 (by decide +kernel), p_t 8 (by decide +kernel), by decide +kernel, by decide +kernel, by decide +kernel, by decide +kernel⟩
theorem mo_133 : p_mok 133 := ⟨p_t 997 (by decide +kernel), p_t 8 (by decide +kernel), by decide +kernel, by decide +kernel, by decide +kernel, by decide +kernel⟩
theorem mo_134 : p_mok 134 := ⟨p_t 1001 (by decide +kernel), p_t 8 (by decide +kernel), by decide +kernel, by decide +kernel, by decide +kernel, by decide +kernel⟩
theorem mo_135 : p_mok 135 := ⟨p_t 1005 (by decide +kernel), p_t 8 (by decide +kernel), by decide +kernel, by decide +kernel, by decide +kernel, by decide +kernel⟩
theorem mo_136 : p_mok 136 := ⟨p_t 1009 (by decide +kernel), p_t 8 (by decide +kernel), by decide +kernel, by decide +kernel, by decide +kernel, by decide +kernel⟩
theorem mo_137 : p_mok 137 := ⟨p_t 1013 (by decide +kernel), p_t 8 (by decide +kernel), by decide +kernel, by decide +kernel, by decide +kernel, by decide +kernel⟩
theorem mo_138 : p_mok 138 := ⟨p_t 1018 (by decide +kernel), p_t 8 (by decide +kernel), by decide +kernel, by decide +kernel, by decide +kernel, by decide +kernel⟩
theorem mo_139 : p_mok 139 := ⟨p_t 1022 (by decide +kernel), p_t 8 (by decide +kernel), by decide +kernel, by decide +kernel, by decide +kernel, by decide +kernel⟩
theorem mo_140 : p_mok 140 := ⟨p_t 1028 (by decide +kernel), p_t 8 (by decide +kernel), by decide +kernel, by decide +kernel, by decide +kernel, by decide +kernel⟩
theorem mo_141 : p_mok 141 := ⟨p_t 1032 (by decide +kernel), p_t 8 (by decide +kernel), by decide +kernel, by decide +kernel, by decide +kernel, by decide +kernel⟩
theorem mo_142 : p_mok 142 := ⟨p_t 1036 (by decide +kernel), p_t 8 (by decide +kernel), by decide +kernel, by decide +kernel, by decide +kernel, by decide +kernel⟩
theorem mo_143 : p_mok 143 := ⟨p_t 1041 (by decide +kernel), p_t 8 (by decide +kernel), by decide +kernel, by decide +kernel, by decide +kernel, by decide +kernel⟩
end
section
theorem ti_12_45 : p_siteI 12 45 (0, 1) := ⟨mo_0, Or.inl (p_t 24 (by decide +kernel)), p_t 25 (by decide +kernel), by decide +kernel, by decide +kernel, by decide +kernel, ⟨0, by unfold p_npar; decide +kernel, rfl⟩⟩
theorem ti_5_11 : p_siteI 5 11 (1, 1) := ⟨mo_1, Or.inr ⟨"RateShapes", by decide +kernel⟩, p_t 33 (by decide +kernel), by decide +kernel, by decide +kernel, by decide +kernel, ⟨0, by unfold p_npar; decide +kernel, rfl⟩⟩
theorem ti_5_18 : p_siteI 5 18 (2, 2) := ⟨mo_2, Or.inl (p_t 104 (by decide +kernel)), p_t 105 (by decide +kernel), by decide +kernel, by decide +kernel, by decide +kernel, ⟨1, by unfold p_npar; decide +kernel, rfl⟩⟩
theorem ti_5_27 : p_siteI 5 27 (3, 1) := ⟨mo_3, Or.inl (p_t 127 (by decide +kernel)), p_t 128 (by decide +kernel), by decide +kernel, by decide +kernel, by decide +kernel, ⟨0, by unfold p_npar; decide +kernel, rfl⟩⟩
theorem ts_3_24 : p_siteS 3 24 (4, 2) := ⟨mo_4, p_t 132 (by decide +kernel), p_t 133 (by decide +kernel), by unfold p_npar; decide +kernel⟩
theorem ti_5_34 : p_siteI 5 34 (5, 1) := ⟨mo_5, Or.inr ⟨"RateShapes", by decide +kernel⟩, p_t 149 (by decide +kernel), by decide +kernel, by decide +kernel, by decide +kernel, ⟨0, by unfold p_npar; decide +kernel, rfl⟩⟩
theorem ti_5_41 : p_siteI 5 41 (6, 1) := ⟨mo_6, Or.inr ⟨"RateShapes", by decide +kernel⟩, p_t 165 (by decide +kernel), by decide +kernel, by decide +kernel, by decide +kernel, ⟨0, by unfold p_npar; decide +kernel, rfl⟩⟩
theorem tv_12_49 : p_siteV 12 49 (7, 2) := ⟨mo_7, p_t 196 (by decide +kernel), p_t 197 (by decide +kernel), p_t 198 (by decide +kernel), Or.inl ⟨5, _, by decide +kernel, by decide +kernel, rfl, by decide +kernel⟩, ⟨1, by unfold p_npar; decide +kernel, rfl⟩⟩
theorem tv_5_50 : p_siteV 5 50 (8, 2) := ⟨mo_8, p_t 200 (by decide +kernel), p_t 201 (by decide +kernel), p_t 202 (by decide +kernel), Or.inl ⟨1, _, by decide +kernel, by decide +kernel, rfl, by decide +kernel⟩, ⟨1, by unfold p_npar; decide +kernel, rfl⟩⟩
theorem tv_12_54 : p_siteV 12 54 (9, 1) := ⟨mo_9, p_t 204 (by decide +kernel), p_t 205 (by decide +kernel), p_t 206 (by decide +kernel), Or.inl ⟨5, _, by decide +kernel, by decide +kernel, rfl, by decide +kernel⟩, ⟨0, by unfold p_npar; decide +kernel, rfl⟩⟩
theorem tv_5_54 : p_siteV 5 54 (10, 1) := ⟨mo_10, p_t 208 (by decide +kernel), p_t 209 (by decide +kernel), p_t 210 (by decide +kernel), Or.inl ⟨1, _, by decide +kernel, by decide +kernel, rfl, by decide +kernel⟩, ⟨0, by unfold p_npar; decide +kernel, rfl⟩⟩
theorem tv_1_23 : p_siteV 1 23 (11, 1) := ⟨mo_11, p_t 212 (by decide +kernel), p_t 213 (by decide +kernel), p_t 214 (by decide +kernel), Or.inl ⟨2, _, by decide +kernel, by decide +kernel, rfl, by decide +kernel⟩, ⟨0, by unfold p_npar; decide +kernel, rfl⟩⟩
theorem tv_1_34 : p_siteV 1 34 (12, 2) := ⟨mo_12, p_t 216 (by decide +kernel), p_t 218 (by decide +kernel), p_tl 0 (by decide +kernel), Or.inl ⟨1, _, by decide +kernel, by decide +kernel, rfl, by decide +kernel⟩, ⟨1, by unfold p_npar; decide +kernel, rfl⟩⟩
theorem tv_1_51 : p_siteV 1 51 (13, 2) := ⟨mo_13, p_t 220 (by decide +kernel), p_t 222 (by decide +kernel), p_tl 1 (by decide +kernel), Or.inl ⟨1, _, by decide +kernel, by decide +kernel, rfl, by decide +kernel⟩, ⟨1, by unfold p_npar; decide +kernel, rfl⟩⟩
theorem tv_1_45 : p_siteV 1 45 (14, 1) := ⟨mo_14, p_t 224 (by decide +kernel), p_t 226 (by decide +kernel), p_tl 2 (by decide +kernel), Or.inl ⟨1, _, by decide +kernel, by decide +kernel, rfl, by decide +kernel⟩, ⟨0, by unfold p_npar; decide +kernel, rfl⟩⟩
theorem tv_1_54 : p_siteV 1 54 (15, 1) := ⟨mo_15, p_t 228 (by decide +kernel), p_t 230 (by decide +kernel), p_tl 3 (by decide +kernel), Or.inl ⟨1, _, by decide +kernel, by decide +kernel, rfl, by decide +kernel⟩, ⟨0, by unfold p_npar; decide +kernel, rfl⟩⟩
theorem tv_1_73 : p_siteV 1 73 (16, 2) := ⟨mo_16, p_t 232 (by decide +kernel), p_t 234 (by decide +kernel), p_tl 4 (by decide +kernel), Or.inl ⟨1, _, by decide +kernel, by decide +kernel, rfl, by decide +kernel⟩, ⟨1, by unfold p_npar; decide +kernel, rfl⟩⟩
theorem tv_1_48 : p_siteV 1 48 (17, 2) := ⟨mo_17, p_t 236 (by decide +kernel), p_t 238 (by decide +kernel), p_tl 5 (by decide +kernel), Or.inl ⟨1, _, by decide +kernel, by decide +kernel, rfl, by decide +kernel⟩, ⟨1, by unfold p_npar; decide +kernel, rfl⟩⟩
theorem tv_1_102 : p_siteV 1 102 (18, 2) := ⟨mo_18, p_t 240 (by decide +kernel), p_t 241 (by decide +kernel), p_t 242 (by decide +kernel), Or.inl ⟨2, _, by decide +kernel, by decide +kernel, rfl, by decide +kernel⟩, ⟨1, by unfold p_npar; decide +kernel, rfl⟩⟩
theorem ts_2_65 : p_siteS 2 65 (19, 2) := ⟨mo_19, p_t 244 (by decide +kernel), p_t 245 (by decide +kernel), by unfold p_npar; decide +kernel⟩
theorem tv_1_96 : p_siteV 1 96 (20, 2) := ⟨mo_20, p_t 247 (by decide +kernel), p_t 249 (by decide +kernel), p_tl 6 (by decide +kernel), Or.inl ⟨1, _, by decide +kernel, by decide +kernel, rfl, by decide +kernel⟩, ⟨1, by unfold p_npar; decide +kernel, rfl⟩⟩
theorem tv_1_76 : p_siteV 1 76 (21, 1) := ⟨mo_21, p_t 251 (by decide +kernel), p_t 253 (by decide +kernel), p_tl 7 (by decide +kernel), Or.inl ⟨1, _, by decide +kernel, by decide +kernel, rfl, by decide +kernel⟩, ⟨0, by unfold p_npar; decide +kernel, rfl⟩⟩
theorem tv_1_99 : p_siteV 1 99 (22, 1) := ⟨mo_22, p_t 255 (by decide +kernel), p_t 257 (by decide +kernel), p_tl 8 (by decide +kernel), Or.inl ⟨1, _, by decide +kernel, by decide +kernel, rfl, by decide +kernel⟩, ⟨0, by unfold p_npar; decide +kernel, rfl⟩⟩
theorem tv_1_115 : p_siteV 1 115 (23, 1) := ⟨mo_23, p_t 259 (by decide +kernel), p_t 261 (by decide +kernel), p_tl 9 (by decide +kernel), Or.inl ⟨1, _, by decide +kernel, by decide +kernel, rfl, by decide +kernel⟩, ⟨0, by unfold p_npar; decide +kernel, rfl⟩⟩
theorem tv_1_118 : p_siteV 1 118 (24, 2) := ⟨mo_24, p_t 263 (by decide +kernel), p_t 265 (by decide +kernel), p_tl 10 (by decide +kernel), Or.inl ⟨1, _, by decide +kernel, by decide +kernel, rfl, by decide +kernel⟩, ⟨1, by unfold p_npar; decide +kernel, rfl⟩⟩
theorem tv_1_62 : p_siteV 1 62 (25, 1) := ⟨mo_25, p_t 267 (by decide +kernel), p_t 268 (by decide +kernel), p_t 269 (by decide +kernel), Or.inl ⟨2, _, by decide +kernel, by decide +kernel, rfl, by decide +kernel⟩, ⟨0, by unfold p_npar; decide +kernel, rfl⟩⟩
theorem tv_1_82 : p_siteV 1 82 (26, 4) := ⟨mo_26, p_t 271 (by decide +kernel), p_t 272 (by decide +kernel), p_t 273 (by decide +kernel), Or.inl ⟨2, _, by decide +kernel, by decide +kernel, rfl, by decide +kernel⟩, ⟨3, by unfold p_npar; decide +kernel, rfl⟩⟩
theorem tv_2_49 : p_siteV 2 49 (25, 1) := ⟨mo_25, p_t 275 (by decide +kernel), p_t 268 (by decide +kernel), p_t 269 (by decide +kernel), Or.inl ⟨2, _, by decide +kernel, by decide +kernel, rfl, by decide +kernel⟩, ⟨0, by unfold p_npar; decide +kernel, rfl⟩⟩
theorem tv_2_53 : p_siteV 2 53 (27, 5) := ⟨mo_27, p_t 276 (by decide +kernel), p_t 278 (by decide +kernel), p_tl 11 (by decide +kernel), Or.inl ⟨2, _, by decide +kernel, by decide +kernel, rfl, by decide +kernel⟩, ⟨4, by unfold p_npar; decide +kernel, rfl⟩⟩
theorem tv_1_79 : p_siteV 1 79 (28, 1) := ⟨mo_28, p_t 280 (by decide +kernel), p_t 282 (by decide +kernel), p_tl 12 (by decide +kernel), Or.inl ⟨1, _, by decide +kernel, by decide +kernel, rfl, by decide +kernel⟩, ⟨0, by unfold p_npar; decide +kernel, rfl⟩⟩
theorem tv_1_123 : p_siteV 1 123 (29, 3) := ⟨mo_29, p_t 285 (by decide +kernel), p_t 287 (by decide +kernel), p_tl 13 (by decide +kernel), Or.inl ⟨1, _, by decide +kernel, by decide +kernel, rfl, by decide +kernel⟩, ⟨2, by unfold p_npar; decide +kernel, rfl⟩⟩
theorem tv_1_133 : p_siteV 1 133 (30, 1) := ⟨mo_30, p_t 289 (by decide +kernel), p_t 290 (by decide +kernel), p_t 291 (by decide +kernel), Or.inr ⟨by decide +kernel, by decide +kernel⟩, ⟨0, by unfold p_npar; decide +kernel, rfl⟩⟩
theorem tv_15_335 : p_siteV 15 335 (31, 1) := ⟨mo_31, p_t 293 (by decide +kernel), p_t 294 (by decide +kernel), p_t 295 (by decide +kernel), Or.inr ⟨by decide +kernel, by decide +kernel⟩, ⟨0, by unfold p_npar; decide +kernel, rfl⟩⟩
theorem tv_1_137 : p_siteV 1 137 (32, 2) := ⟨mo_32, p_t 299 (by decide +kernel), p_t 300 (by decide +kernel), p_t 301 (by decide +kernel), Or.inr ⟨by decide +kernel, by decide +kernel⟩, ⟨1, by unfold p_npar; decide +kernel, rfl⟩⟩
theorem tv_15_492 : p_siteV 15 492 (33, 1) := ⟨mo_33, p_t 303 (by decide +kernel), p_t 304 (by decide +kernel), p_t 305 (by decide +kernel), Or.inr ⟨by decide +kernel, by decide +kernel⟩, ⟨0, by unfold p_npar; decide +kernel, rfl⟩⟩
theorem ts_15_495 : p_siteS 15 495 (34, 2) := ⟨mo_34, p_t 307 (by decide +kernel), p_t 308 (by decide +kernel), by unfold p_npar; decide +kernel⟩
theorem ts_16_9 : p_siteS 16 9 (35, 2) := ⟨mo_35, p_t 310 (by decide +kernel), p_t 311 (by decide +kernel), by unfold p_npar; decide +kernel⟩
theorem ts_15_1059 : p_siteS 15 1059 (36, 3) := ⟨mo_36, p_t 315 (by decide +kernel), p_t 316 (by decide +kernel), by unfold p_npar; decide +kernel⟩
theorem tv_1_86 : p_siteV 1 86 (37, 3) := ⟨mo_37, p_t 340 (by decide +kernel), p_t 342 (by decide +kernel), p_tl 14 (by decide +kernel), Or.inl ⟨1, _, by decide +kernel, by decide +kernel, rfl, by decide +kernel⟩, ⟨2, by unfold p_npar; decide +kernel, rfl⟩⟩
theorem tv_1_69 : p_siteV 1 69 (38, 4) := ⟨mo_38, p_t 344 (by decide +kernel), p_t 345 (by decide +kernel), p_t 346 (by decide +kernel), Or.inl ⟨2, _, by decide +kernel, by decide +kernel, rfl, by decide +kernel⟩, ⟨3, by unfold p_npar; decide +kernel, rfl⟩⟩
theorem tv_2_57 : p_siteV 2 57 (39, 2) := ⟨mo_39, p_t 348 (by decide +kernel), p_t 349 (by decide +kernel), p_t 350 (by decide +kernel), Or.inl ⟨2, _, by decide +kernel, by decide +kernel, rfl, by decide +kernel⟩, ⟨1, by unfold p_npar; decide +kernel, rfl⟩⟩
theorem tv_1_90 : p_siteV 1 90 (40, 2) := ⟨mo_40, p_t 352 (by decide +kernel), p_t 354 (by decide +kernel), p_tl 15 (by decide +kernel), Or.inl ⟨1, _, by decide +kernel, by decide +kernel, rfl, by decide +kernel⟩, ⟨1, by unfold p_npar; decide +kernel, rfl⟩⟩
theorem tv_1_106 : p_siteV 1 106 (41, 1) := ⟨mo_41, p_t 356 (by decide +kernel), p_t 358 (by decide +kernel), p_tl 16 (by decide +kernel), Or.inl ⟨1, _, by decide +kernel, by decide +kernel, rfl, by decide +kernel⟩, ⟨0, by unfold p_npar; decide +kernel, rfl⟩⟩
theorem tv_1_109 : p_siteV 1 109 (42, 3) := ⟨mo_42, p_t 360 (by decide +kernel), p_t 361 (by decide +kernel), p_t 362 (by decide +kernel), Or.inl ⟨2, _, by decide +kernel, by decide +kernel, rfl, by decide +kernel⟩, ⟨2, by unfold p_npar; decide +kernel, rfl⟩⟩
theorem tv_1_93 : p_siteV 1 93 (43, 2) := ⟨mo_43, p_t 364 (by decide +kernel), p_t 366 (by decide +kernel), p_tl 17 (by decide +kernel), Or.inl ⟨1, _, by decide +kernel, by decide +kernel, rfl, by decide +kernel⟩, ⟨1, by unfold p_npar; decide +kernel, rfl⟩⟩
theorem tv_1_112 : p_siteV 1 112 (44, 4) := ⟨mo_44, p_t 368 (by decide +kernel), p_t 369 (by decide +kernel), p_t 370 (by decide +kernel), Or.inl ⟨2, _, by decide +kernel, by decide +kernel, rfl, by decide +kernel⟩, ⟨3, by unfold p_npar; decide +kernel, rfl⟩⟩
theorem ts_1_58 : p_siteS 1 58 (45, 1) := ⟨mo_45, p_t 372 (by decide +kernel), p_t 373 (by decide +kernel), by unfold p_npar; decide +kernel⟩
theorem tv_1_65 : p_siteV 1 65 (46, 3) := ⟨mo_46, p_t 375 (by decide +kernel), p_t 376 (by decide +kernel), p_t 377 (by decide +kernel), Or.inl ⟨2, _, by decide +kernel, by decide +kernel, rfl, by decide +kernel⟩, ⟨2, by unfold p_npar; decide +kernel, rfl⟩⟩
theorem tv_2_61 : p_siteV 2 61 (47, 2) := ⟨mo_47, p_t 379 (by decide +kernel), p_t 381 (by decide +kernel), p_tl 18 (by decide +kernel), Or.inl ⟨2, _, by decide +kernel, by decide +kernel, rfl, by decide +kernel⟩, ⟨1, by unfold p_npar; decide +kernel, rfl⟩⟩
theorem tv_1_38 : p_siteV 1 38 (48, 1) := ⟨mo_48, p_t 383 (by decide +kernel), p_t 385 (by decide +kernel), p_tl 19 (by decide +kernel), Or.inl ⟨1, _, by decide +kernel, by decide +kernel, rfl, by decide +kernel⟩, ⟨0, by unfold p_npar; decide +kernel, rfl⟩⟩
theorem tv_12_60 : p_siteV 12 60 (49, 2) := ⟨mo_49, p_t 388 (by decide +kernel), p_t 389 (by decide +kernel), p_t 390 (by decide +kernel), Or.inl ⟨5, _, by decide +kernel, by decide +kernel, rfl, by decide +kernel⟩, ⟨1, by unfold p_npar; decide +kernel, rfl⟩⟩
theorem tv_12_65 : p_siteV 12 65 (50, 3) := ⟨mo_50, p_t 393 (by decide +kernel), p_t 394 (by decide +kernel), p_t 395 (by decide +kernel), Or.inl ⟨5, _, by decide +kernel, by decide +kernel, rfl, by decide +kernel⟩, ⟨2, by unfold p_npar; decide +kernel, rfl⟩⟩
theorem tv_5_60 : p_siteV 5 60 (51, 3) := ⟨mo_51, p_t 397 (by decide +kernel), p_t 398 (by decide +kernel), p_t 399 (by decide +kernel), Or.inl ⟨3, _, by decide +kernel, by decide +kernel, rfl, by decide +kernel⟩, ⟨2, by unfold p_npar; decide +kernel, rfl⟩⟩
theorem ts_3_32 : p_siteS 3 32 (52, 1) := ⟨mo_52, p_t 402 (by decide +kernel), p_t 403 (by decide +kernel), by unfold p_npar; decide +kernel⟩
theorem tv_12_70 : p_siteV 12 70 (53, 4) := ⟨mo_53, p_t 405 (by decide +kernel), p_t 406 (by decide +kernel), p_t 407 (by decide +kernel), Or.inl ⟨5, _, by decide +kernel, by decide +kernel, rfl, by decide +kernel⟩, ⟨3, by unfold p_npar; decide +kernel, rfl⟩⟩
theorem tv_5_64 : p_siteV 5 64 (54, 4) := ⟨mo_54, p_t 409 (by decide +kernel), p_t 410 (by decide +kernel), p_t 411 (by decide +kernel), Or.inl ⟨3, _, by decide +kernel, by decide +kernel, rfl, by decide +kernel⟩, ⟨3, by unfold p_npar; decide +kernel, rfl⟩⟩
theorem tv_3_36 : p_siteV 3 36 (55, 3) := ⟨mo_55, p_t 413 (by decide +kernel), p_t 415 (by decide +kernel), p_tl 20 (by decide +kernel), Or.inl ⟨3, _, by decide +kernel, by decide +kernel, rfl, by decide +kernel⟩, ⟨2, by unfold p_npar; decide +kernel, rfl⟩⟩
theorem tv_12_94 : p_siteV 12 94 (56, 2) := ⟨mo_56, p_t 417 (by decide +kernel), p_t 418 (by decide +kernel), p_t 419 (by decide +kernel), Or.inl ⟨5, _, by decide +kernel, by decide +kernel, rfl, by decide +kernel⟩, ⟨1, by unfold p_npar; decide +kernel, rfl⟩⟩
theorem tv_5_126 : p_siteV 5 126 (57, 2) := ⟨mo_57, p_t 421 (by decide +kernel), p_t 422 (by decide +kernel), p_t 423 (by decide +kernel), Or.inl ⟨2, _, by decide +kernel, by decide +kernel, rfl, by decide +kernel⟩, ⟨1, by unfold p_npar; decide +kernel, rfl⟩⟩
theorem tv_5_129 : p_siteV 5 129 (58, 2) := ⟨mo_58, p_t 425 (by decide +kernel), p_t 426 (by decide +kernel), p_t 427 (by decide +kernel), Or.inl ⟨3, _, by decide +kernel, by decide +kernel, rfl, by decide +kernel⟩, ⟨1, by unfold p_npar; decide +kernel, rfl⟩⟩
theorem ts_3_42 : p_siteS 3 42 (59, 2) := ⟨mo_59, p_t 430 (by decide +kernel), p_t 431 (by decide +kernel), by unfold p_npar; decide +kernel⟩
theorem tv_12_109 : p_siteV 12 109 (60, 2) := ⟨mo_60, p_t 434 (by decide +kernel), p_t 435 (by decide +kernel), p_t 436 (by decide +kernel), Or.inl ⟨5, _, by decide +kernel, by decide +kernel, rfl, by decide +kernel⟩, ⟨1, by unfold p_npar; decide +kernel, rfl⟩⟩
theorem ts_12_75 : p_siteS 12 75 (61, 3) := ⟨mo_61, p_t 438 (by decide +kernel), p_t 439 (by decide +kernel), by unfold p_npar; decide +kernel⟩
theorem tv_12_7 : p_siteV 12 7 (62, 2) := ⟨mo_62, p_t 444 (by decide +kernel), p_t 445 (by decide +kernel), p_t 446 (by decide +kernel), Or.inl ⟨5, _, by decide +kernel, by decide +kernel, rfl, by decide +kernel⟩, ⟨1, by unfold p_npar; decide +kernel, rfl⟩⟩
theorem tv_5_75 : p_siteV 5 75 (63, 1) := ⟨mo_63, p_t 517 (by decide +kernel), p_t 519 (by decide +kernel), p_tl 22 (by decide +kernel), Or.inl ⟨5, _, by decide +kernel, by decide +kernel, rfl, by decide +kernel⟩, ⟨0, by unfold p_npar; decide +kernel, rfl⟩⟩
theorem tv_5_122 : p_siteV 5 122 (64, 2) := ⟨mo_64, p_t 537 (by decide +kernel), p_t 539 (by decide +kernel), p_tl 23 (by decide +kernel), Or.inl ⟨5, _, by decide +kernel, by decide +kernel, rfl, by decide +kernel⟩, ⟨1, by unfold p_npar; decide +kernel, rfl⟩⟩
theorem tv_5_175 : p_siteV 5 175 (65, 4) := ⟨mo_65, p_t 541 (by decide +kernel), p_t 542 (by decide +kernel), p_t 543 (by decide +kernel), Or.inl ⟨4, _, by decide +kernel, by decide +kernel, rfl, by decide +kernel⟩, ⟨3, by unfold p_npar; decide +kernel, rfl⟩⟩
theorem tv_4_37 : p_siteV 4 37 (58, 2) := ⟨mo_58, p_t 546 (by decide +kernel), p_t 426 (by decide +kernel), p_t 427 (by decide +kernel), Or.inl ⟨3, _, by decide +kernel, by decide +kernel, rfl, by decide +kernel⟩, ⟨1, by unfold p_npar; decide +kernel, rfl⟩⟩
theorem tv_4_43 : p_siteV 4 43 (66, 4) := ⟨mo_66, p_t 547 (by decide +kernel), p_t 549 (by decide +kernel), p_tl 24 (by decide +kernel), Or.inl ⟨4, _, by decide +kernel, by decide +kernel, rfl, by decide +kernel⟩, ⟨3, by unfold p_npar; decide +kernel, rfl⟩⟩
theorem ts_4_47 : p_siteS 4 47 (67, 3) := ⟨mo_67, p_t 552 (by decide +kernel), p_t 553 (by decide +kernel), by unfold p_npar; decide +kernel⟩
theorem tv_4_59 : p_siteV 4 59 (68, 5) := ⟨mo_68, p_t 557 (by decide +kernel), p_t 559 (by decide +kernel), p_tl 25 (by decide +kernel), Or.inl ⟨4, _, by decide +kernel, by decide +kernel, rfl, by decide +kernel⟩, ⟨4, by unfold p_npar; decide +kernel, rfl⟩⟩
theorem ts_4_65 : p_siteS 4 65 (59, 2) := ⟨mo_59, p_t 561 (by decide +kernel), p_t 431 (by decide +kernel), by unfold p_npar; decide +kernel⟩
theorem ts_4_71 : p_siteS 4 71 (69, 2) := ⟨mo_69, p_t 562 (by decide +kernel), p_t 563 (by decide +kernel), by unfold p_npar; decide +kernel⟩
theorem ts_5_170 : p_siteS 5 170 (69, 2) := ⟨mo_69, p_t 581 (by decide +kernel), p_t 563 (by decide +kernel), by unfold p_npar; decide +kernel⟩
theorem ts_5_81 : p_siteS 5 81 (70, 2) := ⟨mo_70, p_t 583 (by decide +kernel), p_t 584 (by decide +kernel), by unfold p_npar; decide +kernel⟩
theorem ts_12_84 : p_siteS 12 84 (71, 3) := ⟨mo_71, p_t 586 (by decide +kernel), p_t 587 (by decide +kernel), by unfold p_npar; decide +kernel⟩
theorem tv_12_19 : p_siteV 12 19 (72, 2) := ⟨mo_72, p_t 589 (by decide +kernel), p_t 590 (by decide +kernel), p_t 591 (by decide +kernel), Or.inl ⟨5, _, by decide +kernel, by decide +kernel, rfl, by decide +kernel⟩, ⟨1, by unfold p_npar; decide +kernel, rfl⟩⟩
theorem ts_12_87 : p_siteS 12 87 (73, 4) := ⟨mo_73, p_t 597 (by decide +kernel), p_t 598 (by decide +kernel), by unfold p_npar; decide +kernel⟩
theorem tv_12_22 : p_siteV 12 22 (74, 3) := ⟨mo_74, p_t 601 (by decide +kernel), p_t 602 (by decide +kernel), p_t 603 (by decide +kernel), Or.inl ⟨5, _, by decide +kernel, by decide +kernel, rfl, by decide +kernel⟩, ⟨2, by unfold p_npar; decide +kernel, rfl⟩⟩
theorem tv_5_93 : p_siteV 5 93 (39, 2) := ⟨mo_39, p_t 605 (by decide +kernel), p_t 349 (by decide +kernel), p_t 350 (by decide +kernel), Or.inl ⟨2, _, by decide +kernel, by decide +kernel, rfl, by decide +kernel⟩, ⟨1, by unfold p_npar; decide +kernel, rfl⟩⟩
theorem ts_12_91 : p_siteS 12 91 (75, 3) := ⟨mo_75, p_t 623 (by decide +kernel), p_t 624 (by decide +kernel), by unfold p_npar; decide +kernel⟩
theorem tv_12_28 : p_siteV 12 28 (76, 2) := ⟨mo_76, p_t 626 (by decide +kernel), p_t 627 (by decide +kernel), p_t 628 (by decide +kernel), Or.inl ⟨5, _, by decide +kernel, by decide +kernel, rfl, by decide +kernel⟩, ⟨1, by unfold p_npar; decide +kernel, rfl⟩⟩
theorem ts_12_98 : p_siteS 12 98 (77, 2) := ⟨mo_77, p_t 630 (by decide +kernel), p_t 631 (by decide +kernel), by unfold p_npar; decide +kernel⟩
theorem tv_12_31 : p_siteV 12 31 (78, 1) := ⟨mo_78, p_t 633 (by decide +kernel), p_t 634 (by decide +kernel), p_t 635 (by decide +kernel), Or.inl ⟨5, _, by decide +kernel, by decide +kernel, rfl, by decide +kernel⟩, ⟨0, by unfold p_npar; decide +kernel, rfl⟩⟩
theorem tv_5_143 : p_siteV 5 143 (79, 2) := ⟨mo_79, p_t 637 (by decide +kernel), p_t 638 (by decide +kernel), p_t 639 (by decide +kernel), Or.inl ⟨0, _, by decide +kernel, by decide +kernel, rfl, by decide +kernel⟩, ⟨1, by unfold p_npar; decide +kernel, rfl⟩⟩
theorem tv_0_19 : p_siteV 0 19 (80, 4) := ⟨mo_80, p_t 641 (by decide +kernel), p_t 643 (by decide +kernel), p_tl 26 (by decide +kernel), Or.inl ⟨0, _, by decide +kernel, by decide +kernel, rfl, by decide +kernel⟩, ⟨3, by unfold p_npar; decide +kernel, rfl⟩⟩
theorem tv_0_23 : p_siteV 0 23 (39, 2) := ⟨mo_39, p_t 645 (by decide +kernel), p_t 349 (by decide +kernel), p_t 350 (by decide +kernel), Or.inl ⟨2, _, by decide +kernel, by decide +kernel, rfl, by decide +kernel⟩, ⟨1, by unfold p_npar; decide +kernel, rfl⟩⟩
theorem tv_0_34 : p_siteV 0 34 (81, 2) := ⟨mo_81, p_t 647 (by decide +kernel), p_t 649 (by decide +kernel), p_tl 27 (by decide +kernel), Or.inl ⟨0, _, by decide +kernel, by decide +kernel, rfl, by decide +kernel⟩, ⟨1, by unfold p_npar; decide +kernel, rfl⟩⟩
theorem tv_0_98 : p_siteV 0 98 (30, 1) := ⟨mo_30, p_t 651 (by decide +kernel), p_t 290 (by decide +kernel), p_t 291 (by decide +kernel), Or.inr ⟨by decide +kernel, by decide +kernel⟩, ⟨0, by unfold p_npar; decide +kernel, rfl⟩⟩
theorem tv_0_103 : p_siteV 0 103 (32, 2) := ⟨mo_32, p_t 652 (by decide +kernel), p_t 300 (by decide +kernel), p_t 301 (by decide +kernel), Or.inr ⟨by decide +kernel, by decide +kernel⟩, ⟨1, by unfold p_npar; decide +kernel, rfl⟩⟩
theorem tv_0_45 : p_siteV 0 45 (82, 2) := ⟨mo_82, p_t 653 (by decide +kernel), p_t 655 (by decide +kernel), p_tl 28 (by decide +kernel), Or.inl ⟨0, _, by decide +kernel, by decide +kernel, rfl, by decide +kernel⟩, ⟨1, by unfold p_npar; decide +kernel, rfl⟩⟩
theorem tv_0_41 : p_siteV 0 41 (83, 2) := ⟨mo_83, p_t 657 (by decide +kernel), p_t 659 (by decide +kernel), p_tl 29 (by decide +kernel), Or.inl ⟨0, _, by decide +kernel, by decide +kernel, rfl, by decide +kernel⟩, ⟨1, by unfold p_npar; decide +kernel, rfl⟩⟩
theorem tv_0_80 : p_siteV 0 80 (84, 2) := ⟨mo_84, p_t 661 (by decide +kernel), p_t 663 (by decide +kernel), p_tl 30 (by decide +kernel), Or.inl ⟨0, _, by decide +kernel, by decide +kernel, rfl, by decide +kernel⟩, ⟨1, by unfold p_npar; decide +kernel, rfl⟩⟩
theorem tv_0_53 : p_siteV 0 53 (85, 5) := ⟨mo_85, p_t 667 (by decide +kernel), p_t 669 (by decide +kernel), p_tl 31 (by decide +kernel), Or.inl ⟨0, _, by decide +kernel, by decide +kernel, rfl, by decide +kernel⟩, ⟨4, by unfold p_npar; decide +kernel, rfl⟩⟩
theorem tv_0_61 : p_siteV 0 61 (86, 5) := ⟨mo_86, p_t 673 (by decide +kernel), p_t 675 (by decide +kernel), p_tl 32 (by decide +kernel), Or.inl ⟨0, _, by decide +kernel, by decide +kernel, rfl, by decide +kernel⟩, ⟨4, by unfold p_npar; decide +kernel, rfl⟩⟩
theorem tv_0_66 : p_siteV 0 66 (87, 3) := ⟨mo_87, p_t 679 (by decide +kernel), p_t 681 (by decide +kernel), p_tl 33 (by decide +kernel), Or.inl ⟨0, _, by decide +kernel, by decide +kernel, rfl, by decide +kernel⟩, ⟨2, by unfold p_npar; decide +kernel, rfl⟩⟩
theorem ts_12_102 : p_siteS 12 102 (88, 3) := ⟨mo_88, p_t 685 (by decide +kernel), p_t 686 (by decide +kernel), by unfold p_npar; decide +kernel⟩
theorem tv_12_35 : p_siteV 12 35 (89, 2) := ⟨mo_89, p_t 688 (by decide +kernel), p_t 689 (by decide +kernel), p_t 690 (by decide +kernel), Or.inl ⟨5, _, by decide +kernel, by decide +kernel, rfl, by decide +kernel⟩, ⟨1, by unfold p_npar; decide +kernel, rfl⟩⟩
theorem ts_12_105 : p_siteS 12 105 (90, 4) := ⟨mo_90, p_t 693 (by decide +kernel), p_t 694 (by decide +kernel), by unfold p_npar; decide +kernel⟩
theorem tv_12_39 : p_siteV 12 39 (91, 3) := ⟨mo_91, p_t 697 (by decide +kernel), p_t 698 (by decide +kernel), p_t 699 (by decide +kernel), Or.inl ⟨5, _, by decide +kernel, by decide +kernel, rfl, by decide +kernel⟩, ⟨2, by unfold p_npar; decide +kernel, rfl⟩⟩
theorem ti_12_48 : p_siteI 12 48 (92, 1) := ⟨mo_92, Or.inl (p_t 722 (by decide +kernel)), p_t 723 (by decide +kernel), by decide +kernel, by decide +kernel, by decide +kernel, ⟨0, by unfold p_npar; decide +kernel, rfl⟩⟩
theorem tv_12_81 : p_siteV 12 81 (93, 1) := ⟨mo_93, p_t 824 (by decide +kernel), p_t 825 (by decide +kernel), p_t 826 (by decide +kernel), Or.inl ⟨6, _, by decide +kernel, by decide +kernel, rfl, by decide +kernel⟩, ⟨0, by unfold p_npar; decide +kernel, rfl⟩⟩
theorem tv_12_53 : p_siteV 12 53 (94, 2) := ⟨mo_94, p_t 828 (by decide +kernel), p_t 829 (by decide +kernel), p_t 830 (by decide +kernel), Or.inl ⟨6, _, by decide +kernel, by decide +kernel, rfl, by decide +kernel⟩, ⟨1, by unfold p_npar; decide +kernel, rfl⟩⟩
theorem tv_12_57 : p_siteV 12 57 (95, 1) := ⟨mo_95, p_t 832 (by decide +kernel), p_t 833 (by decide +kernel), p_t 834 (by decide +kernel), Or.inl ⟨6, _, by decide +kernel, by decide +kernel, rfl, by decide +kernel⟩, ⟨0, by unfold p_npar; decide +kernel, rfl⟩⟩
theorem tv_6_161 : p_siteV 6 161 (96, 3) := ⟨mo_96, p_t 836 (by decide +kernel), p_t 838 (by decide +kernel), p_tl 34 (by decide +kernel), Or.inl ⟨6, _, by decide +kernel, by decide +kernel, rfl, by decide +kernel⟩, ⟨2, by unfold p_npar; decide +kernel, rfl⟩⟩
theorem tv_6_94 : p_siteV 6 94 (97, 2) := ⟨mo_97, p_t 840 (by decide +kernel), p_t 842 (by decide +kernel), p_tl 35 (by decide +kernel), Or.inl ⟨6, _, by decide +kernel, by decide +kernel, rfl, by decide +kernel⟩, ⟨1, by unfold p_npar; decide +kernel, rfl⟩⟩
theorem tv_6_86 : p_siteV 6 86 (98, 1) := ⟨mo_98, p_t 844 (by decide +kernel), p_t 846 (by decide +kernel), p_tl 36 (by decide +kernel), Or.inl ⟨6, _, by decide +kernel, by decide +kernel, rfl, by decide +kernel⟩, ⟨0, by unfold p_npar; decide +kernel, rfl⟩⟩
theorem tv_6_180 : p_siteV 6 180 (99, 1) := ⟨mo_99, p_t 848 (by decide +kernel), p_t 850 (by decide +kernel), p_tl 37 (by decide +kernel), Or.inl ⟨6, _, by decide +kernel, by decide +kernel, rfl, by decide +kernel⟩, ⟨0, by unfold p_npar; decide +kernel, rfl⟩⟩
theorem tv_6_90 : p_siteV 6 90 (100, 1) := ⟨mo_100, p_t 852 (by decide +kernel), p_t 854 (by decide +kernel), p_tl 38 (by decide +kernel), Or.inl ⟨6, _, by decide +kernel, by decide +kernel, rfl, by decide +kernel⟩, ⟨0, by unfold p_npar; decide +kernel, rfl⟩⟩
theorem ts_6_140 : p_siteS 6 140 (101, 1) := ⟨mo_101, p_t 856 (by decide +kernel), p_t 857 (by decide +kernel), by unfold p_npar; decide +kernel⟩
theorem tv_6_165 : p_siteV 6 165 (102, 1) := ⟨mo_102, p_t 859 (by decide +kernel), p_t 861 (by decide +kernel), p_tl 39 (by decide +kernel), Or.inl ⟨6, _, by decide +kernel, by decide +kernel, rfl, by decide +kernel⟩, ⟨0, by unfold p_npar; decide +kernel, rfl⟩⟩
theorem tv_6_145 : p_siteV 6 145 (103, 4) := ⟨mo_103, p_t 864 (by decide +kernel), p_t 866 (by decide +kernel), p_tl 40 (by decide +kernel), Or.inl ⟨6, _, by decide +kernel, by decide +kernel, rfl, by decide +kernel⟩, ⟨3, by unfold p_npar; decide +kernel, rfl⟩⟩
theorem tv_6_155 : p_siteV 6 155 (104, 2) := ⟨mo_104, p_t 872 (by decide +kernel), p_t 874 (by decide +kernel), p_tl 41 (by decide +kernel), Or.inl ⟨6, _, by decide +kernel, by decide +kernel, rfl, by decide +kernel⟩, ⟨1, by unfold p_npar; decide +kernel, rfl⟩⟩
theorem tv_6_119 : p_siteV 6 119 (105, 6) := ⟨mo_105, p_t 876 (by decide +kernel), p_t 878 (by decide +kernel), p_tl 42 (by decide +kernel), Or.inl ⟨6, _, by decide +kernel, by decide +kernel, rfl, by decide +kernel⟩, ⟨5, by unfold p_npar; decide +kernel, rfl⟩⟩
theorem tv_6_158 : p_siteV 6 158 (106, 1) := ⟨mo_106, p_t 880 (by decide +kernel), p_t 882 (by decide +kernel), p_tl 43 (by decide +kernel), Or.inl ⟨6, _, by decide +kernel, by decide +kernel, rfl, by decide +kernel⟩, ⟨0, by unfold p_npar; decide +kernel, rfl⟩⟩
theorem tv_6_123 : p_siteV 6 123 (107, 2) := ⟨mo_107, p_t 884 (by decide +kernel), p_t 886 (by decide +kernel), p_tl 44 (by decide +kernel), Or.inl ⟨6, _, by decide +kernel, by decide +kernel, rfl, by decide +kernel⟩, ⟨1, by unfold p_npar; decide +kernel, rfl⟩⟩
theorem tv_6_126 : p_siteV 6 126 (108, 1) := ⟨mo_108, p_t 888 (by decide +kernel), p_t 890 (by decide +kernel), p_tl 45 (by decide +kernel), Or.inl ⟨6, _, by decide +kernel, by decide +kernel, rfl, by decide +kernel⟩, ⟨0, by unfold p_npar; decide +kernel, rfl⟩⟩
theorem tv_6_102 : p_siteV 6 102 (109, 2) := ⟨mo_109, p_t 892 (by decide +kernel), p_t 894 (by decide +kernel), p_tl 46 (by decide +kernel), Or.inl ⟨6, _, by decide +kernel, by decide +kernel, rfl, by decide +kernel⟩, ⟨1, by unfold p_npar; decide +kernel, rfl⟩⟩
theorem ts_6_98 : p_siteS 6 98 (110, 1) := ⟨mo_110, p_t 896 (by decide +kernel), p_t 897 (by decide +kernel), by unfold p_npar; decide +kernel⟩
theorem tv_6_106 : p_siteV 6 106 (111, 3) := ⟨mo_111, p_t 899 (by decide +kernel), p_t 901 (by decide +kernel), p_tl 47 (by decide +kernel), Or.inl ⟨6, _, by decide +kernel, by decide +kernel, rfl, by decide +kernel⟩, ⟨2, by unfold p_npar; decide +kernel, rfl⟩⟩
theorem tv_6_129 : p_siteV 6 129 (112, 2) := ⟨mo_112, p_t 903 (by decide +kernel), p_t 905 (by decide +kernel), p_tl 48 (by decide +kernel), Or.inl ⟨6, _, by decide +kernel, by decide +kernel, rfl, by decide +kernel⟩, ⟨1, by unfold p_npar; decide +kernel, rfl⟩⟩
theorem tv_6_168 : p_siteV 6 168 (113, 1) := ⟨mo_113, p_t 907 (by decide +kernel), p_t 909 (by decide +kernel), p_tl 49 (by decide +kernel), Or.inl ⟨6, _, by decide +kernel, by decide +kernel, rfl, by decide +kernel⟩, ⟨0, by unfold p_npar; decide +kernel, rfl⟩⟩
theorem tv_6_116 : p_siteV 6 116 (114, 1) := ⟨mo_114, p_t 911 (by decide +kernel), p_t 913 (by decide +kernel), p_tl 50 (by decide +kernel), Or.inl ⟨6, _, by decide +kernel, by decide +kernel, rfl, by decide +kernel⟩, ⟨0, by unfold p_npar; decide +kernel, rfl⟩⟩
theorem tv_6_171 : p_siteV 6 171 (115, 2) := ⟨mo_115, p_t 915 (by decide +kernel), p_t 917 (by decide +kernel), p_tl 51 (by decide +kernel), Or.inl ⟨6, _, by decide +kernel, by decide +kernel, rfl, by decide +kernel⟩, ⟨1, by unfold p_npar; decide +kernel, rfl⟩⟩
theorem tv_6_183 : p_siteV 6 183 (116, 1) := ⟨mo_116, p_t 919 (by decide +kernel), p_t 921 (by decide +kernel), p_tl 52 (by decide +kernel), Or.inl ⟨6, _, by decide +kernel, by decide +kernel, rfl, by decide +kernel⟩, ⟨0, by unfold p_npar; decide +kernel, rfl⟩⟩
theorem tv_6_186 : p_siteV 6 186 (117, 2) := ⟨mo_117, p_t 923 (by decide +kernel), p_t 925 (by decide +kernel), p_tl 53 (by decide +kernel), Or.inl ⟨6, _, by decide +kernel, by decide +kernel, rfl, by decide +kernel⟩, ⟨1, by unfold p_npar; decide +kernel, rfl⟩⟩
theorem tv_12_64 : p_siteV 12 64 (118, 2) := ⟨mo_118, p_t 927 (by decide +kernel), p_t 928 (by decide +kernel), p_t 929 (by decide +kernel), Or.inl ⟨6, _, by decide +kernel, by decide +kernel, rfl, by decide +kernel⟩, ⟨1, by unfold p_npar; decide +kernel, rfl⟩⟩
theorem tv_12_69 : p_siteV 12 69 (119, 3) := ⟨mo_119, p_t 932 (by decide +kernel), p_t 933 (by decide +kernel), p_t 934 (by decide +kernel), Or.inl ⟨6, _, by decide +kernel, by decide +kernel, rfl, by decide +kernel⟩, ⟨2, by unfold p_npar; decide +kernel, rfl⟩⟩
theorem ts_6_195 : p_siteS 6 195 (120, 1) := ⟨mo_120, p_t 936 (by decide +kernel), p_t 937 (by decide +kernel), by unfold p_npar; decide +kernel⟩
theorem tv_12_74 : p_siteV 12 74 (121, 4) := ⟨mo_121, p_t 939 (by decide +kernel), p_t 940 (by decide +kernel), p_t 941 (by decide +kernel), Or.inl ⟨6, _, by decide +kernel, by decide +kernel, rfl, by decide +kernel⟩, ⟨3, by unfold p_npar; decide +kernel, rfl⟩⟩
theorem tv_12_80 : p_siteV 12 80 (122, 2) := ⟨mo_122, p_t 943 (by decide +kernel), p_t 944 (by decide +kernel), p_t 945 (by decide +kernel), Or.inl ⟨6, _, by decide +kernel, by decide +kernel, rfl, by decide +kernel⟩, ⟨1, by unfold p_npar; decide +kernel, rfl⟩⟩
theorem tv_6_219 : p_siteV 6 219 (123, 2) := ⟨mo_123, p_t 947 (by decide +kernel), p_t 949 (by decide +kernel), p_tl 54 (by decide +kernel), Or.inl ⟨6, _, by decide +kernel, by decide +kernel, rfl, by decide +kernel⟩, ⟨1, by unfold p_npar; decide +kernel, rfl⟩⟩
theorem tv_6_216 : p_siteV 6 216 (124, 2) := ⟨mo_124, p_t 951 (by decide +kernel), p_t 953 (by decide +kernel), p_tl 55 (by decide +kernel), Or.inl ⟨6, _, by decide +kernel, by decide +kernel, rfl, by decide +kernel⟩, ⟨1, by unfold p_npar; decide +kernel, rfl⟩⟩
theorem tv_6_204 : p_siteV 6 204 (125, 2) := ⟨mo_125, p_t 955 (by decide +kernel), p_t 957 (by decide +kernel), p_tl 56 (by decide +kernel), Or.inl ⟨6, _, by decide +kernel, by decide +kernel, rfl, by decide +kernel⟩, ⟨1, by unfold p_npar; decide +kernel, rfl⟩⟩
theorem tv_6_207 : p_siteV 6 207 (126, 2) := ⟨mo_126, p_t 959 (by decide +kernel), p_t 961 (by decide +kernel), p_tl 57 (by decide +kernel), Or.inl ⟨6, _, by decide +kernel, by decide +kernel, rfl, by decide +kernel⟩, ⟨1, by unfold p_npar; decide +kernel, rfl⟩⟩
theorem tv_6_213 : p_siteV 6 213 (127, 2) := ⟨mo_127, p_t 965 (by decide +kernel), p_t 967 (by decide +kernel), p_tl 58 (by decide +kernel), Or.inl ⟨6, _, by decide +kernel, by decide +kernel, rfl, by decide +kernel⟩, ⟨1, by unfold p_npar; decide +kernel, rfl⟩⟩
theorem tv_6_222 : p_siteV 6 222 (128, 1) := ⟨mo_128, p_t 971 (by decide +kernel), p_t 973 (by decide +kernel), p_tl 59 (by decide +kernel), Or.inl ⟨6, _, by decide +kernel, by decide +kernel, rfl, by decide +kernel⟩, ⟨0, by unfold p_npar; decide +kernel, rfl⟩⟩
theorem tv_12_86 : p_siteV 12 86 (129, 2) := ⟨mo_129, p_t 975 (by decide +kernel), p_t 976 (by decide +kernel), p_t 977 (by decide +kernel), Or.inl ⟨6, _, by decide +kernel, by decide +kernel, rfl, by decide +kernel⟩, ⟨1, by unfold p_npar; decide +kernel, rfl⟩⟩
theorem tv_12_90 : p_siteV 12 90 (130, 3) := ⟨mo_130, p_t 982 (by decide +kernel), p_t 983 (by decide +kernel), p_t 984 (by decide +kernel), Or.inl ⟨6, _, by decide +kernel, by decide +kernel, rfl, by decide +kernel⟩, ⟨2, by unfold p_npar; decide +kernel, rfl⟩⟩
theorem tv_12_93 : p_siteV 12 93 (131, 2) := ⟨mo_131, p_t 986 (by decide +kernel), p_t 987 (by decide +kernel), p_t 988 (by decide +kernel), Or.inl ⟨6, _, by decide +kernel, by decide +kernel, rfl, by decide +kernel⟩, ⟨1, by unfold p_npar; decide +kernel, rfl⟩⟩
theorem tv_12_97 : p_siteV 12 97 (132, 2) := ⟨mo_132, p_t 990 (by decide +kernel), p_t 991 (by decide +kernel), p_t 992 (by decide +kernel), Or.inl ⟨6, _, by decide +kernel, by decide +kernel, rfl, by decide +kernel⟩, ⟨1, by unfold p_npar; decide +kernel, rfl⟩⟩
theorem tv_12_101 : p_siteV 12 101 (133, 1) := ⟨mo_133, p_t 994 (by decide +kernel), p_t 995 (by decide +kernel), p_t 996 (by decide +kernel), Or.inl ⟨6, _, by decide +kernel, by decide +kernel, rfl, by decide +kernel⟩, ⟨0, by unfold p_npar; decide +kernel, rfl⟩⟩
theorem tv_6_235 : p_siteV 6 235 (134, 2) := ⟨mo_134, p_t 998 (by decide +kernel), p_t 1000 (by decide +kernel), p_tl 60 (by decide +kernel), Or.inl ⟨6, _, by decide +kernel, by decide +kernel, rfl, by decide +kernel⟩, ⟨1, by unfold p_npar; decide +kernel, rfl⟩⟩
theorem tv_6_260 : p_siteV 6 260 (135, 3) := ⟨mo_135, p_t 1002 (by decide +kernel), p_t 1004 (by decide +kernel), p_tl 61 (by decide +kernel), Or.inl ⟨6, _, by decide +kernel, by decide +kernel, rfl, by decide +kernel⟩, ⟨2, by unfold p_npar; decide +kernel, rfl⟩⟩
theorem tv_6_243 : p_siteV 6 243 (136, 2) := ⟨mo_136, p_t 1006 (by decide +kernel), p_t 1008 (by decide +kernel), p_tl 62 (by decide +kernel), Or.inl ⟨6, _, by decide +kernel, by decide +kernel, rfl, by decide +kernel⟩, ⟨1, by unfold p_npar; decide +kernel, rfl⟩⟩
theorem tv_6_247 : p_siteV 6 247 (137, 2) := ⟨mo_137, p_t 1010 (by decide +kernel), p_t 1012 (by decide +kernel), p_tl 63 (by decide +kernel), Or.inl ⟨6, _, by decide +kernel, by decide +kernel, rfl, by decide +kernel⟩, ⟨1, by unfold p_npar; decide +kernel, rfl⟩⟩
theorem tv_6_238 : p_siteV 6 238 (138, 2) := ⟨mo_138, p_t 1015 (by decide +kernel), p_t 1017 (by decide +kernel), p_tl 64 (by decide +kernel), Or.inl ⟨6, _, by decide +kernel, by decide +kernel, rfl, by decide +kernel⟩, ⟨1, by unfold p_npar; decide +kernel, rfl⟩⟩
theorem tv_6_250 : p_siteV 6 250 (139, 2) := ⟨mo_139, p_t 1019 (by decide +kernel), p_t 1021 (by decide +kernel), p_tl 65 (by decide +kernel), Or.inl ⟨6, _, by decide +kernel, by decide +kernel, rfl, by decide +kernel⟩, ⟨1, by unfold p_npar; decide +kernel, rfl⟩⟩
theorem tv_6_257 : p_siteV 6 257 (140, 3) := ⟨mo_140, p_t 1025 (by decide +kernel), p_t 1027 (by decide +kernel), p_tl 66 (by decide +kernel), Or.inl ⟨6, _, by decide +kernel, by decide +kernel, rfl, by decide +kernel⟩, ⟨2, by unfold p_npar; decide +kernel, rfl⟩⟩
theorem tv_12_104 : p_siteV 12 104 (141, 2) := ⟨mo_141, p_t 1029 (by decide +kernel), p_t 1030 (by decide +kernel), p_t 1031 (by decide +kernel), Or.inl ⟨6, _, by decide +kernel, by decide +kernel, rfl, by decide +kernel⟩, ⟨1, by unfold p_npar; decide +kernel, rfl⟩⟩
theorem tv_12_108 : p_siteV 12 108 (142, 3) := ⟨mo_142, p_t 1033 (by decide +kernel), p_t 1034 (by decide +kernel), p_t 1035 (by decide +kernel), Or.inl ⟨6, _, by decide +kernel, by decide +kernel, rfl, by decide +kernel⟩, ⟨2, by unfold p_npar; decide +kernel, rfl⟩⟩
theorem tv_12_112 : p_siteV 12 112 (143, 2) := ⟨mo_143, p_t 1038 (by decide +kernel), p_t 1039 (by decide +kernel), p_t 1040 (by decide +kernel), Or.inl ⟨6, _, by decide +kernel, by decide +kernel, rfl, by decide +kernel⟩, ⟨1, by unfold p_npar; decide +kernel, rfl⟩⟩
theorem p_mtVA : p_all2 p_mtVL p_siteV := List.forall_mem_cons.mpr ⟨List.forall_mem_cons.mpr ⟨tv_0_19, List.forall_mem_cons.mpr ⟨tv_0_23, List.forall_mem_cons.mpr ⟨tv_0_34, List.forall_mem_cons.mpr ⟨tv_0_41, List.forall_mem_cons.mpr ⟨tv_0_45, List.forall_mem_cons.mpr ⟨tv_0_53, List.forall_mem_cons.mpr ⟨tv_0_61, List.forall_mem_cons.mpr ⟨tv_0_66, List.forall_mem_cons.mpr ⟨tv_0_80, List.forall_mem_cons.mpr ⟨tv_0_98, List.forall_mem_cons.mpr ⟨tv_0_103, fun _ h => absurd h List.not_mem_nil⟩⟩⟩⟩⟩⟩⟩⟩⟩⟩⟩, List.forall_mem_cons.mpr ⟨List.forall_mem_cons.mpr ⟨tv_1_23, List.forall_mem_cons.mpr ⟨tv_1_34, List.forall_mem_cons.mpr ⟨tv_1_38, List.forall_mem_cons.mpr ⟨tv_1_45, List.forall_mem_cons.mpr ⟨tv_1_48, List.forall_mem_cons.mpr ⟨tv_1_51, List.forall_mem_cons.mpr ⟨tv_1_54, List.forall_mem_cons.mpr ⟨tv_1_62, List.forall_mem_cons.mpr ⟨tv_1_65, List.forall_mem_cons.mpr ⟨tv_1_69, List.forall_mem_cons.mpr ⟨tv_1_73, List.forall_mem_cons.mpr ⟨tv_1_76, List.forall_mem_cons.mpr ⟨tv_1_79, List.forall_mem_cons.mpr ⟨tv_1_82, List.forall_mem_cons.mpr ⟨tv_1_86, List.forall_mem_cons.mpr ⟨tv_1_90, List.forall_mem_cons.mpr ⟨tv_1_93, List.forall_mem_cons.mpr ⟨tv_1_96, List.forall_mem_cons.mpr ⟨tv_1_99, List.forall_mem_cons.mpr ⟨tv_1_102, List.forall_mem_cons.mpr ⟨tv_1_106, List.forall_mem_cons.mpr ⟨tv_1_109, List.forall_mem_cons.mpr ⟨tv_1_112, List.forall_mem_cons.mpr ⟨tv_1_115, List.forall_mem_cons.mpr ⟨tv_1_118, List.forall_mem_cons.mpr ⟨tv_1_123, List.forall_mem_cons.mpr ⟨tv_1_133, List.forall_mem_cons.mpr ⟨tv_1_137, fun _ h => absurd h List.not_mem_nil⟩⟩⟩⟩⟩⟩⟩⟩⟩⟩⟩⟩⟩⟩⟩⟩⟩⟩⟩⟩⟩⟩⟩⟩⟩⟩⟩⟩, List.forall_mem_cons.mpr ⟨List.forall_mem_cons.mpr ⟨tv_2_49, List.forall_mem_cons.mpr ⟨tv_2_53, List.forall_mem_cons.mpr ⟨tv_2_57, List.forall_mem_cons.mpr ⟨tv_2_61, fun _ h => absurd h List.not_mem_nil⟩⟩⟩⟩, List.forall_mem_cons.mpr ⟨List.forall_mem_cons.mpr ⟨tv_3_36, fun _ h => absurd h List.not_mem_nil⟩, List.forall_mem_cons.mpr ⟨List.forall_mem_cons.mpr ⟨tv_4_37, List.forall_mem_cons.mpr ⟨tv_4_43, List.forall_mem_cons.mpr ⟨tv_4_59, fun _ h => absurd h List.not_mem_nil⟩⟩⟩, List.forall_mem_cons.mpr ⟨List.forall_mem_cons.mpr ⟨tv_5_50, List.forall_mem_cons.mpr ⟨tv_5_54, List.forall_mem_cons.mpr ⟨tv_5_60, List.forall_mem_cons.mpr ⟨tv_5_64, List.forall_mem_cons.mpr ⟨tv_5_75, List.forall_mem_cons.mpr ⟨tv_5_93, List.forall_mem_cons.mpr ⟨tv_5_122, List.forall_mem_cons.mpr ⟨tv_5_126, List.forall_mem_cons.mpr ⟨tv_5_129, List.forall_mem_cons.mpr ⟨tv_5_143, List.forall_mem_cons.mpr ⟨tv_5_175, fun _ h => absurd h List.not_mem_nil⟩⟩⟩⟩⟩⟩⟩⟩⟩⟩⟩, List.forall_mem_cons.mpr ⟨List.forall_mem_cons.mpr ⟨tv_6_86, List.forall_mem_cons.mpr ⟨tv_6_90, List.forall_mem_cons.mpr ⟨tv_6_94, List.forall_mem_cons.mpr ⟨tv_6_102, List.forall_mem_cons.mpr ⟨tv_6_106, List.forall_mem_cons.mpr ⟨tv_6_116, List.forall_mem_cons.mpr ⟨tv_6_119, List.forall_mem_cons.mpr ⟨tv_6_123, List.forall_mem_cons.mpr ⟨tv_6_126, List.forall_mem_cons.mpr ⟨tv_6_129, List.forall_mem_cons.mpr ⟨tv_6_145, List.forall_mem_cons.mpr ⟨tv_6_155, List.forall_mem_cons.mpr ⟨tv_6_158, List.forall_mem_cons.mpr ⟨tv_6_161, List.forall_mem_cons.mpr ⟨tv_6_165, List.forall_mem_cons.mpr ⟨tv_6_168, List.forall_mem_cons.mpr ⟨tv_6_171, List.forall_mem_cons.mpr ⟨tv_6_180, List.forall_mem_cons.mpr ⟨tv_6_183, List.forall_mem_cons.mpr ⟨tv_6_186, List.forall_mem_cons.mpr ⟨tv_6_204, List.forall_mem_cons.mpr ⟨tv_6_207, List.forall_mem_cons.mpr ⟨tv_6_213, List.forall_mem_cons.mpr ⟨tv_6_216, List.forall_mem_cons.mpr ⟨tv_6_219, List.forall_mem_cons.mpr ⟨tv_6_222, List.forall_mem_cons.mpr ⟨tv_6_235, List.forall_mem_cons.mpr ⟨tv_6_238, List.forall_mem_cons.mpr ⟨tv_6_243, List.forall_mem_cons.mpr ⟨tv_6_247, List.forall_mem_cons.mpr ⟨tv_6_250, List.forall_mem_cons.mpr ⟨tv_6_257, List.forall_mem_cons.mpr ⟨tv_6_260, fun _ h => absurd h List.not_mem_nil⟩⟩⟩⟩⟩⟩⟩⟩⟩⟩⟩⟩⟩⟩⟩⟩⟩⟩⟩⟩⟩⟩⟩⟩⟩⟩⟩⟩⟩⟩⟩⟩⟩, List.forall_mem_cons.mpr ⟨List.forall_mem_cons.mpr ⟨tv_12_7, List.forall_mem_cons.mpr ⟨tv_12_19, List.forall_mem_cons.mpr ⟨tv_12_22, List.forall_mem_cons.mpr ⟨tv_12_28, List.forall_mem_cons.mpr ⟨tv_12_31, List.forall_mem_cons.mpr ⟨tv_12_35, List.forall_mem_cons.mpr ⟨tv_12_39, List.forall_mem_cons.mpr ⟨tv_12_49, List.forall_mem_cons.mpr ⟨tv_12_53, List.forall_mem_cons.mpr ⟨tv_12_54, List.forall_mem_cons.mpr ⟨tv_12_57, List.forall_mem_cons.mpr ⟨tv_12_60, List.forall_mem_cons.mpr ⟨tv_12_64, List.forall_mem_cons.mpr ⟨tv_12_65, List.forall_mem_cons.mpr ⟨tv_12_69, List.forall_mem_cons.mpr ⟨tv_12_70, List.forall_mem_cons.mpr ⟨tv_12_74, List.forall_mem_cons.mpr ⟨tv_12_80, List.forall_mem_cons.mpr ⟨tv_12_81, List.forall_mem_cons.mpr ⟨tv_12_86, List.forall_mem_cons.mpr ⟨tv_12_90, List.forall_mem_cons.mpr ⟨tv_12_93, List.forall_mem_cons.mpr ⟨tv_12_94, List.forall_mem_cons.mpr ⟨tv_12_97, List.forall_mem_cons.mpr ⟨tv_12_101, List.forall_mem_cons.mpr ⟨tv_12_104, List.forall_mem_cons.mpr ⟨tv_12_108, List.forall_mem_cons.mpr ⟨tv_12_109, List.forall_mem_cons.mpr ⟨tv_12_112, fun _ h => absurd h List.not_mem_nil⟩⟩⟩⟩⟩⟩⟩⟩⟩⟩⟩⟩⟩⟩⟩⟩⟩⟩⟩⟩⟩⟩⟩⟩⟩⟩⟩⟩⟩, List.forall_mem_cons.mpr ⟨List.forall_mem_cons.mpr ⟨tv_15_335, List.forall_mem_cons.mpr ⟨tv_15_492, fun _ h => absurd h List.not_mem_nil⟩⟩, fun _ h => absurd h List.not_mem_nil⟩⟩⟩⟩⟩⟩⟩⟩⟩
theorem p_mtSA : p_all2 p_mtSL p_siteS := List.forall_mem_cons.mpr ⟨List.forall_mem_cons.mpr ⟨ts_1_58, fun _ h => absurd h List.not_mem_nil⟩, List.forall_mem_cons.mpr ⟨List.forall_mem_cons.mpr ⟨ts_2_65, fun _ h => absurd h List.not_mem_nil⟩, List.forall_mem_cons.mpr ⟨List.forall_mem_cons.mpr ⟨ts_3_24, List.forall_mem_cons.mpr ⟨ts_3_32, List.forall_mem_cons.mpr ⟨ts_3_42, fun _ h => absurd h List.not_mem_nil⟩⟩⟩, List.forall_mem_cons.mpr ⟨List.forall_mem_cons.mpr ⟨ts_4_47, List.forall_mem_cons.mpr ⟨ts_4_65, List.forall_mem_cons.mpr ⟨ts_4_71, fun _ h => absurd h List.not_mem_nil⟩⟩⟩, List.forall_mem_cons.mpr ⟨List.forall_mem_cons.mpr ⟨ts_5_81, List.forall_mem_cons.mpr ⟨ts_5_170, fun _ h => absurd h List.not_mem_nil⟩⟩, List.forall_mem_cons.mpr ⟨List.forall_mem_cons.mpr ⟨ts_6_98, List.forall_mem_cons.mpr ⟨ts_6_140, List.forall_mem_cons.mpr ⟨ts_6_195, fun _ h => absurd h List.not_mem_nil⟩⟩⟩, List.forall_mem_cons.mpr ⟨List.forall_mem_cons.mpr ⟨ts_12_75, List.forall_mem_cons.mpr ⟨ts_12_84, List.forall_mem_cons.mpr ⟨ts_12_87, List.forall_mem_cons.mpr ⟨ts_12_91, List.forall_mem_cons.mpr ⟨ts_12_98, List.forall_mem_cons.mpr ⟨ts_12_102, List.forall_mem_cons.mpr ⟨ts_12_105, fun _ h => absurd h List.not_mem_nil⟩⟩⟩⟩⟩⟩⟩, List.forall_mem_cons.mpr ⟨List.forall_mem_cons.mpr ⟨ts_15_495, List.forall_mem_cons.mpr ⟨ts_15_1059, fun _ h => absurd h List.not_mem_nil⟩⟩, List.forall_mem_cons.mpr ⟨List.forall_mem_cons.mpr ⟨ts_16_9, fun _ h => absurd h List.not_mem_nil⟩, fun _ h => absurd h List.not_mem_nil⟩⟩⟩⟩⟩⟩⟩⟩⟩
theorem p_mtIA : p_all2 p_mtIL p_siteI := List.forall_mem_cons.mpr ⟨List.forall_mem_cons.mpr ⟨ti_5_11, List.forall_mem_cons.mpr ⟨ti_5_18, List.forall_mem_cons.mpr ⟨ti_5_27, List.forall_mem_cons.mpr ⟨ti_5_34, List.forall_mem_cons.mpr ⟨ti_5_41, fun _ h => absurd h List.not_mem_nil⟩⟩⟩⟩⟩, List.forall_mem_cons.mpr ⟨List.forall_mem_cons.mpr ⟨ti_12_45, List.forall_mem_cons.mpr ⟨ti_12_48, fun _ h => absurd h List.not_mem_nil⟩⟩, fun _ h => absurd h List.not_mem_nil⟩⟩
def p_sfldP (o i : Nat) (a : Nat) : Prop := (a = 0 ∧ Cond.fieldLink (p_cn o) i "java/lang/String" "value" "[B" ∈ lw_g) ∨ (a = 1 ∧ Cond.fieldLink (p_cn o) i "java/lang/String" "coder" "B" ∈ lw_g)
def p_statP (o i : Nat) (a : Nat) : Prop := (a = 0 ∧ Cond.fieldLink (p_cn o) i "java/lang/String" "COMPACT_STRINGS" "Z" ∈ lw_g) ∨ (a = 1 ∧ Cond.fieldLink (p_cn o) i "jdk/internal/util/Preconditions" "SIOOBE_FORMATTER" "Ljava/util/function/BiFunction;" ∈ lw_g)
theorem sf_15_9 : p_sfldP 15 9 0 := Or.inl ⟨rfl, p_t 1044 (by decide +kernel)⟩
theorem sf_15_15 : p_sfldP 15 15 1 := Or.inr ⟨rfl, p_t 1045 (by decide +kernel)⟩
theorem p_sfldA : p_all2 p_sfldL p_sfldP := List.forall_mem_cons.mpr ⟨List.forall_mem_cons.mpr ⟨sf_15_9, List.forall_mem_cons.mpr ⟨sf_15_15, fun _ h => absurd h List.not_mem_nil⟩⟩, fun _ h => absurd h List.not_mem_nil⟩
theorem sx_15_38 : p_statP 15 38 0 := Or.inl ⟨rfl, p_t 297 (by decide +kernel)⟩
theorem sx_15_1053 : p_statP 15 1053 1 := Or.inr ⟨rfl, p_t 313 (by decide +kernel)⟩
theorem p_statA : p_all2 p_statL p_statP := List.forall_mem_cons.mpr ⟨List.forall_mem_cons.mpr ⟨sx_15_38, List.forall_mem_cons.mpr ⟨sx_15_1053, fun _ h => absurd h List.not_mem_nil⟩⟩, fun _ h => absurd h List.not_mem_nil⟩
def p_ext0P (o i : Nat) (a : Nat) : Prop := a = 0 → Cond.methodLink (p_cn o) i Lib.objectInit ∈ lw_g
theorem e_5_3 : p_ext0P 5 3 0 := fun _ => p_t 27 (by decide +kernel)
theorem e_2_3 : p_ext0P 2 3 0 := fun _ => p_t 35 (by decide +kernel)
theorem e_1_3 : p_ext0P 1 3 0 := fun _ => p_t 107 (by decide +kernel)
theorem e_3_3 : p_ext0P 3 3 0 := fun _ => p_t 130 (by decide +kernel)
theorem e_4_3 : p_ext0P 4 3 0 := fun _ => p_t 151 (by decide +kernel)
theorem e_0_3 : p_ext0P 0 3 0 := fun _ => p_t 167 (by decide +kernel)
theorem e_6_1 : p_ext0P 6 1 0 := fun _ => p_t 725 (by decide +kernel)
theorem p_extA : p_all2 p_extL p_ext0P := List.forall_mem_cons.mpr ⟨List.forall_mem_cons.mpr ⟨e_0_3, fun _ h => absurd h List.not_mem_nil⟩, List.forall_mem_cons.mpr ⟨List.forall_mem_cons.mpr ⟨e_1_3, fun _ h => absurd h List.not_mem_nil⟩, List.forall_mem_cons.mpr ⟨List.forall_mem_cons.mpr ⟨e_2_3, fun _ h => absurd h List.not_mem_nil⟩, List.forall_mem_cons.mpr ⟨List.forall_mem_cons.mpr ⟨e_3_3, fun _ h => absurd h List.not_mem_nil⟩, List.forall_mem_cons.mpr ⟨List.forall_mem_cons.mpr ⟨e_4_3, fun _ h => absurd h List.not_mem_nil⟩, List.forall_mem_cons.mpr ⟨List.forall_mem_cons.mpr ⟨e_5_3, fun _ h => absurd h List.not_mem_nil⟩, List.forall_mem_cons.mpr ⟨List.forall_mem_cons.mpr ⟨e_6_1, fun _ h => absurd h List.not_mem_nil⟩, fun _ h => absurd h List.not_mem_nil⟩⟩⟩⟩⟩⟩⟩
theorem p_ext0_ok {o i : Nat} (h : p_ext o i = some 0) : Cond.methodLink (p_cn o) i Lib.objectInit ∈ lw_g := p_all2_ok p_extA h rfl
theorem p_own_cls : ∀ q ∈ p_ML, p_cn q.2.2.2.2.1 = q.1.cls := by decide +kernel
theorem p_y_cls {cm : Nat} (h : cm < p_ML.length) : p_cn (p_own cm) = (p_y cm).cls := by
  have e : p_ML[cm]? = some p_ML[cm] := List.getElem?_eq_getElem h
  unfold p_own p_y p_me
  rw [e]
  exact p_own_cls _ (List.getElem_mem h)
theorem p_nest_in : ∀ w ∈ p_nestW, w ∈ lw_tbl := List.forall_mem_cons.mpr ⟨p_tt 32 (by decide +kernel), List.forall_mem_cons.mpr ⟨p_tt 148 (by decide +kernel), List.forall_mem_cons.mpr ⟨p_tt 164 (by decide +kernel), fun _ h => absurd h List.not_mem_nil⟩⟩⟩
end
section
/-! ===== THE PURE MACHINE: cells by their numbers, no addresses. '.ref k': cell k of the list; '.retAddr 0': the script; '.retAddr (j + 1)': literal j ===== -/
abbrev pE : Type := (FieldType × vp_A) ⊕ (Nat × List Value)
abbrev pL : Type := List (Option Value)
abbrev pX : Type := Nat × (Nat → Int32)
abbrev pT : Type := Nat × pL × List Value × List pE
abbrev pR : Type := ((Option Value) ⊕ Nat) × List pE
def p_get : pL → Nat → Option Value
  | [], _ => none
  | o :: _, 0 => o
  | _ :: t, i + 1 => p_get t i
def p_put : pL → Nat → Option Value → pL
  | [], _, _ => []
  | _ :: t, 0, v => v :: t
  | o :: t, i + 1, v => o :: p_put t i v
def p_two : Option Value → Bool
  | some (.long _) => true
  | some (.double _) => true
  | _ => false
def p_clr (ls : pL) : Nat → pL
  | 0 => ls
  | i + 1 => bif p_two (p_get ls i) then p_put ls i none else ls
def p_st1 (ls : pL) (i : Nat) (v : Value) : pL := p_put (p_clr ls i) i (some v)
def p_st2 (ls : pL) (i : Nat) (v : Value) : pL := p_put (p_put (p_clr ls i) i (some v)) (i + 1) none
/-- the locals at a method's entry -/
def p_args : List Value → pL
  | [] => []
  | .long x :: t => some (.long x) :: none :: p_args t
  | .double x :: t => some (.double x) :: none :: p_args t
  | v :: t => some v :: p_args t
def p_pad : Nat → pL → pL
  | 0, l => l
  | n + 1, [] => none :: p_pad n []
  | n + 1, o :: t => o :: p_pad n t
def p_in0 (mi : Nat) (as : List Value) : pL := p_pad (p_maxL mi) (p_args as)
def p_tgt (pc : Nat) (off : Int) : Nat := ((pc : Int) + off).toNat
/-- n values off the stack, the last pushed last -/
def p_pop : Nat → List Value → List Value → Option (List Value × List Value)
  | 0, acc, st => some (acc, st)
  | _ + 1, _, [] => none
  | n + 1, acc, v :: st => p_pop n (v :: acc) st
def p_words : List Value → Nat
  | [] => 0
  | .long _ :: t => p_words t + 2
  | .double _ :: t => p_words t + 2
  | _ :: t => p_words t + 1
def p_isref : Value → Bool
  | .ref _ => true
  | .null => true
  | .retAddr _ => true
  | _ => false
/-- what a field of a type takes -/
def p_fits : FieldType → Value → Bool
  | .int, .int _ => true
  | .long, .long _ => true
  | .object _, v => p_isref v
  | .array _, v => p_isref v
  | _, _ => false
def p_fget (h : List pE) (k ci f : Nat) : Option Value :=
  match h[k]? with
  | some (.inr (cj, fs)) => bif Nat.beq ci cj then fs[f]? else none
  | _ => none
def p_fput (h : List pE) (k ci f : Nat) (v : Value) : Option (List pE) :=
  match h[k]? with
  | some (.inr (cj, fs)) => bif Nat.beq ci cj && Nat.blt f fs.length then some (h.set k (.inr (cj, fs.set f v))) else none
  | _ => none
def p_aty : FieldType → Bool
  | .int => true
  | .long => true
  | .boolean => true
  | _ => false
def p_inI (i : Int32) (n : Nat) : Prop := ¬ (i < 0 ∨ n ≤ i.toNatClampNeg)
/-- instructions of the stack alone -/
def p_alu (ins : Instr) (st : List Value) : Option (List Value × Prop) :=
  match ins with
  | .iadd => match st with
    | .int y :: .int x :: r => some (.int (x + y) :: r, True)
    | _ => none
  | .isub => match st with
    | .int y :: .int x :: r => some (.int (x - y) :: r, True)
    | _ => none
  | .imul => match st with
    | .int y :: .int x :: r => some (.int (x * y) :: r, True)
    | _ => none
  | .idiv => match st with
    | .int y :: .int x :: r => some (.int (x / y) :: r, ¬ y = 0)
    | _ => none
  | .irem => match st with
    | .int y :: .int x :: r => some (.int (x - x / y * y) :: r, ¬ y = 0)
    | _ => none
  | .ineg => match st with
    | .int x :: r => some (.int (-x) :: r, True)
    | _ => none
  | .iand => match st with
    | .int y :: .int x :: r => some (.int (x &&& y) :: r, True)
    | _ => none
  | .ior => match st with
    | .int y :: .int x :: r => some (.int (x ||| y) :: r, True)
    | _ => none
  | .ixor => match st with
    | .int y :: .int x :: r => some (.int (x ^^^ y) :: r, True)
    | _ => none
  | .ishl => match st with
    | .int y :: .int x :: r => some (.int (x <<< (y &&& 31)) :: r, True)
    | _ => none
  | .ishr => match st with
    | .int y :: .int x :: r => some (.int (x >>> (y &&& 31)) :: r, True)
    | _ => none
  | .ladd => match st with
    | .long y :: .long x :: r => some (.long (x + y) :: r, True)
    | _ => none
  | .lsub => match st with
    | .long y :: .long x :: r => some (.long (x - y) :: r, True)
    | _ => none
  | .lmul => match st with
    | .long y :: .long x :: r => some (.long (x * y) :: r, True)
    | _ => none
  | .ldiv => match st with
    | .long y :: .long x :: r => some (.long (x / y) :: r, ¬ y = 0)
    | _ => none
  | .lrem => match st with
    | .long y :: .long x :: r => some (.long (x - x / y * y) :: r, ¬ y = 0)
    | _ => none
  | .lneg => match st with
    | .long x :: r => some (.long (-x) :: r, True)
    | _ => none
  | .land => match st with
    | .long y :: .long x :: r => some (.long (x &&& y) :: r, True)
    | _ => none
  | .lor => match st with
    | .long y :: .long x :: r => some (.long (x ||| y) :: r, True)
    | _ => none
  | .lxor => match st with
    | .long y :: .long x :: r => some (.long (x ^^^ y) :: r, True)
    | _ => none
  | .lshl => match st with
    | .int y :: .long x :: r => some (.long (x <<< (y.toInt64 &&& 63)) :: r, True)
    | _ => none
  | .lshr => match st with
    | .int y :: .long x :: r => some (.long (x >>> (y.toInt64 &&& 63)) :: r, True)
    | _ => none
  | .lushr => match st with
    | .int y :: .long x :: r => some (.long (x.toUInt64 >>> (y.toInt64.toUInt64 &&& Int64.toUInt64 63)).toInt64 :: r, True)
    | _ => none
  | .i2l => match st with
    | .int x :: r => some (.long x.toInt64 :: r, True)
    | _ => none
  | .l2i => match st with
    | .long x :: r => some (.int x.toInt32 :: r, True)
    | _ => none
  | .i2c => match st with
    | .int x :: r => some (.int (x.toUInt32 % 65536).toInt32 :: r, True)
    | _ => none
  | .lcmp => match st with
    | .long y :: .long x :: r => some (.int (lg_cmp x y) :: r, True)
    | _ => none
  | .dup => match st with
    | v :: r => some (v :: v :: r, v.category = 1)
    | _ => none
  | .pop => match st with
    | v :: r => some (r, v.category = 1)
    | _ => none
  | .dup_x1 => match st with
    | v :: w :: r => some (v :: w :: v :: r, v.category = 1 ∧ w.category = 1)
    | _ => none
  | .dup_x2 => match st with
    | v :: w :: z :: r => some (v :: w :: z :: v :: r, v.category = 1 ∧ w.category = 1 ∧ z.category = 1)
    | _ => none
  | .dup2 => match st with
    | .long x :: r => some (.long x :: .long x :: r, True)
    | v :: w :: r => some (v :: w :: v :: w :: r, v.category = 1 ∧ w.category = 1)
    | _ => none
  | .pop2 => match st with
    | .long _ :: r => some (r, True)
    | _ => none
  | _ => none
/-- one plain instruction: the next state, and what must hold for it -/
def p_step (X : pX) (d mi pc : Nat) (ls : pL) (st : List Value) (h : List pE) (ins : Instr) (len : Nat) : Option (pT × Prop) :=
  match ins with
  | .iconst n => some ((pc + len, ls, .int (Int32.ofInt n) :: st, h), True)
  | .bipush n => some ((pc + len, ls, .int (Int8.ofInt n).toInt32 :: st, h), True)
  | .sipush n => some ((pc + len, ls, .int (Int16.ofInt n).toInt32 :: st, h), True)
  | .lconst n => some ((pc + len, ls, .long (Int64.ofNat (n : Nat)) :: st, h), True)
  | .aconst_null => some ((pc + len, ls, .null :: st, h), True)
  | .ldc i => match p_int (p_own mi) i with
    | some v => some ((pc + len, ls, .int v :: st, h), True)
    | none => match p_str (p_own mi) i with
      | some j => some ((pc + len, ls, .retAddr (j + 1) :: st, h), True)
      | none => none
  | .ldc2_w i => match p_lng (p_own mi) i with
    | some v => some ((pc + len, ls, .long v :: st, h), True)
    | none => none
  | .iload i => match p_get ls i with
    | some (.int x) => some ((pc + len, ls, .int x :: st, h), True)
    | _ => none
  | .iload_n i => match p_get ls (i : Nat) with
    | some (.int x) => some ((pc + len, ls, .int x :: st, h), True)
    | _ => none
  | .lload i => match p_get ls i with
    | some (.long x) => some ((pc + len, ls, .long x :: st, h), True)
    | _ => none
  | .lload_n i => match p_get ls (i : Nat) with
    | some (.long x) => some ((pc + len, ls, .long x :: st, h), True)
    | _ => none
  | .aload i => match p_get ls i with
    | some (.ref x) => some ((pc + len, ls, .ref x :: st, h), True)
    | some (.retAddr x) => some ((pc + len, ls, .retAddr x :: st, h), True)
    | _ => none
  | .aload_n i => match p_get ls (i : Nat) with
    | some (.ref x) => some ((pc + len, ls, .ref x :: st, h), True)
    | some (.retAddr x) => some ((pc + len, ls, .retAddr x :: st, h), True)
    | _ => none
  | .istore i => match st with
    | .int x :: r => bif Nat.blt i ls.length then some ((pc + len, p_st1 ls i (.int x), r, h), True) else none
    | _ => none
  | .istore_n i => match st with
    | .int x :: r => bif Nat.blt (i : Nat) ls.length then some ((pc + len, p_st1 ls (i : Nat) (.int x), r, h), True) else none
    | _ => none
  | .lstore i => match st with
    | .long x :: r => bif Nat.blt (i + 1) ls.length then some ((pc + len, p_st2 ls i (.long x), r, h), True) else none
    | _ => none
  | .lstore_n i => match st with
    | .long x :: r => bif Nat.blt ((i : Nat) + 1) ls.length then some ((pc + len, p_st2 ls (i : Nat) (.long x), r, h), True) else none
    | _ => none
  | .astore i => match st with
    | .ref x :: r => bif Nat.blt i ls.length then some ((pc + len, p_st1 ls i (.ref x), r, h), True) else none
    | _ => none
  | .astore_n i => match st with
    | .ref x :: r => bif Nat.blt (i : Nat) ls.length then some ((pc + len, p_st1 ls (i : Nat) (.ref x), r, h), True) else none
    | _ => none
  | .iinc i n => match p_get ls i with
    | some (.int x) => bif Nat.blt i ls.length then some ((pc + len, p_st1 ls i (.int (x + Int32.ofInt n)), st, h), True) else none
    | _ => none
  | .goto off => some ((p_tgt pc off, ls, st, h), 0 ≤ (pc : Int) + off)
  | .getfield i => match st with
    | .ref k :: r => match p_fld (p_own mi) i with
      | some (ci, f) => match p_fget h k ci f with
        | some v => some ((pc + len, ls, v :: r, h), True)
        | none => none
      | none => none
    | .retAddr (j + 1) :: r => match p_sfld (p_own mi) i with
      | some 0 => some ((pc + len, ls, .retAddr (p_lits + 1 + j) :: r, h), j < p_lits)
      | some 1 => some ((pc + len, ls, .int 0 :: r, h), j < p_lits)
      | _ => none
    | _ => none
  | .putfield i => match st with
    | v :: .ref k :: r => match p_fld (p_own mi) i with
      | some (ci, f) => bif p_fits (p_fty ci f) v && (!(p_fin ci f) || (p_ctor mi && Nat.beq ci (p_own mi))) then (match p_fput h k ci f v with
        | some h' => some ((pc + len, ls, r, h'), True)
        | none => none) else none
      | none => none
    | _ => none
  | .iaload => match st with
    | .int i :: .ref k :: r => match h[k]? with
      | some (.inl (.int, n, .inl f)) => some ((pc + len, ls, .int (f i.toNatClampNeg) :: r, h), p_inI i n)
      | _ => none
    | .int i :: .retAddr 0 :: r => some ((pc + len, ls, .int (X.2 i.toNatClampNeg) :: r, h), p_inI i X.1)
    | _ => none
  | .iastore => match st with
    | .int x :: .int i :: .ref k :: r => match h[k]? with
      | some (.inl (.int, n, .inl f)) => some ((pc + len, ls, r, h.set k (.inl (.int, n, .inl (upd f i.toNatClampNeg x)))), p_inI i n)
      | _ => none
    | _ => none
  | .laload => match st with
    | .int i :: .ref k :: r => match h[k]? with
      | some (.inl (.long, n, .inr (.inl f))) => some ((pc + len, ls, .long (f i.toNatClampNeg) :: r, h), p_inI i n)
      | _ => none
    | _ => none
  | .lastore => match st with
    | .long x :: .int i :: .ref k :: r => match h[k]? with
      | some (.inl (.long, n, .inr (.inl f))) => some ((pc + len, ls, r, h.set k (.inl (.long, n, .inr (.inl (vp_updL f i.toNatClampNeg x))))), p_inI i n)
      | _ => none
    | _ => none
  | .baload => match st with
    | .int i :: .ref k :: r => match h[k]? with
      | some (.inl (.boolean, n, .inl f)) => some ((pc + len, ls, .int (f i.toNatClampNeg) :: r, h), p_inI i n)
      | _ => none
    | .int i :: .retAddr (k + 1) :: r => some ((pc + len, ls, .int (p_schr (k - p_lits) i.toNatClampNeg) :: r, h), p_lits ≤ k ∧ k - p_lits < p_lits ∧ p_inI i (p_slen (k - p_lits)))
    | _ => none
  | .bastore => match st with
    | .int x :: .int i :: .ref k :: r => match h[k]? with
      | some (.inl (.boolean, n, .inl f)) => some ((pc + len, ls, r, h.set k (.inl (.boolean, n, .inl (upd f i.toNatClampNeg (vp_nar .boolean x))))), p_inI i n)
      | _ => none
    | _ => none
  | .arraylength => match st with
    | .ref k :: r => match h[k]? with
      | some (.inl (ty, a)) => bif p_aty ty then some ((pc + len, ls, .int (Int32.ofNat a.1) :: r, h), True) else none
      | _ => none
    | .retAddr 0 :: r => some ((pc + len, ls, .int (Int32.ofNat X.1) :: r, h), True)
    | .retAddr (k + 1) :: r => some ((pc + len, ls, .int (Int32.ofNat (p_slen (k - p_lits))) :: r, h), p_lits ≤ k ∧ k - p_lits < p_lits)
    | _ => none
  | .newarray t => match st with
    | .int n :: r => match t with
      | .int => some ((pc + len, ls, .ref h.length :: r, h ++ [.inl (.int, n.toNatClampNeg, .inl (fun _ => 0))]), ¬ n < 0 ∧ n.toNatClampNeg * 8 ≤ 536870912)
      | .long => some ((pc + len, ls, .ref h.length :: r, h ++ [.inl (.long, n.toNatClampNeg, .inr (.inl (fun _ => 0)))]), ¬ n < 0 ∧ n.toNatClampNeg * 8 ≤ 536870912)
      | .boolean => some ((pc + len, ls, .ref h.length :: r, h ++ [.inl (.boolean, n.toNatClampNeg, .inl (fun _ => 0))]), ¬ n < 0 ∧ n.toNatClampNeg * 8 ≤ 536870912)
      | _ => none
    | _ => none
  | .new i => match p_new (p_own mi) i with
    | some (ci, fs) => some ((pc + len, ls, .ref h.length :: st, h ++ [.inr (ci, fs)]), True)
    | none => none
  | .invokespecial i => match p_ext (p_own mi) i with
    | some 0 => match st with
      | .ref _ :: r => some ((pc + len, ls, r, h), 1 ≤ d ∧ p_words r ≤ 8)
      | _ => none
    | _ => none
  | .getstatic i => match p_stat (p_own mi) i with
    | some 0 => some ((pc + len, ls, .int 1 :: st, h), True)
    | some 1 => some ((pc + len, ls, .float 0 :: st, h), True)
    | _ => none
  | _ => match p_alu ins st with
    | some (st', C) => some ((pc + len, ls, st', h), C)
    | none => none
/-- the branches: condition, where to if it holds, where to else, the stack behind it -/
def p_br (c : ClassFile.Cond) (x y : Int32) : Prop := match c with
  | .eq => x = y
  | .ne => ¬ x = y
  | .lt => x < y
  | .ge => y ≤ x
  | .gt => y < x
  | .le => x ≤ y
def p_jmp (pc : Nat) (ins : Instr) (st : List Value) : Option (Prop × Nat × Nat × List Value × Prop) :=
  match ins with
  | .ifCond c off => match st with
    | .int x :: r => some (p_br c x 0, p_tgt pc off, pc + 3, r, 0 ≤ (pc : Int) + off)
    | _ => none
  | .if_icmp c off => match st with
    | .int y :: .int x :: r => some (p_br c x y, p_tgt pc off, pc + 3, r, 0 ≤ (pc : Int) + off)
    | _ => none
  | _ => none
/-- the switches -/
def p_tsw (dflt lo hi : Int) (offs : Array Int) (x : Int32) : Int := if x.toInt < lo ∨ hi < x.toInt then dflt else (offs[(x.toInt - lo).toNat]?).getD dflt
def p_swi (pc : Nat) (ins : Instr) (st : List Value) : Option (Nat × List Value × Prop) :=
  match ins with
  | .tableswitch dflt lo hi offs => match st with
    | .int x :: r => some (p_tgt pc (p_tsw dflt lo hi offs x), r, 0 ≤ (pc : Int) + p_tsw dflt lo hi offs x ∧ (x.toInt < lo ∨ hi < x.toInt ∨ (x.toInt - lo).toNat < offs.size))
    | _ => none
  | .lookupswitch dflt ps => match st with
    | .int x :: r => some (p_tgt pc (Op.lookupswitch.offset ps.toList dflt x.toInt), r, 0 ≤ (pc : Int) + Op.lookupswitch.offset ps.toList dflt x.toInt ∧ (ps.toList.zip (ps.toList.drop 1)).all (fun (a, next) => a.1 < next.1) = true)
    | _ => none
  | _ => none
def p_ret (mi : Nat) (ins : Instr) (st : List Value) : Option (Option Value × Prop) :=
  match ins with
  | .return_ => match st with
    | [] => some (none, p_rty mi = none)
    | _ => none
  | .ireturn => match st with
    | [.int x] => some (some (.int x), p_rty mi = some .int ∨ (∃ ty, p_rty mi = some ty ∧ narrow ty (.int x) = .int x))
    | _ => none
  | .lreturn => match st with
    | [.long x] => some (some (.long x), p_rty mi = some .long)
    | _ => none
  | _ => none
def p_hfind (ci pc : Nat) : List (Nat × Nat × Nat × Nat) → Option Nat
  | [] => none
  | (a, b, t, cj) :: r => bif Nat.ble a pc && Nat.blt pc b && Nat.beq ci cj then some t else p_hfind ci pc r
def p_exk (ci : Nat) : Bool := Nat.ble 7 ci && Nat.ble ci 11
def p_hdl (mi pc k : Nat) (h : List pE) : Option Nat := match h[k]? with
  | some (.inr (ci, _)) => bif p_exk ci then p_hfind ci pc (p_hh mi) else none
  | _ => none
/-- the method that an instruction calls, and how many values it takes -/
def p_calls (mi : Nat) (ins : Instr) : Option (Nat × Nat) :=
  match ins with
  | .invokevirtual i => p_mtV (p_own mi) i
  | .invokestatic i => p_mtS (p_own mi) i
  | .invokespecial i => p_mtI (p_own mi) i
  | _ => none
/-- 'throw new E(text)', all of it, from its 'new' on: the kind of what is thrown -/
def p_thr (mi pc : Nat) (ins : Instr) : Option Nat :=
  match ins with
  | .new i => match p_exn (p_own mi) i with
    | none => none
    | some ci => match p_code mi (pc + 3) with
      | some (.dup, 1) => match p_code mi (pc + 4) with
        | some (.ldc j, 2) => match p_code mi (pc + 6) with
          | some (.invokespecial q, 3) => match p_code mi (pc + 9) with
            | some (.athrow, 1) => bif p_exi (p_own mi) ci j q then some ci else none
            | _ => none
          | _ => none
        | _ => none
      | _ => none
  | _ => none
def p_hdref : List Value → Bool
  | .ref _ :: _ => true
  | _ => false
/-- the receiver is an object of the method's own kind -/
def p_hdlit : List Value → Bool
  | .retAddr (j + 1) :: _ => Nat.blt j p_lits
  | _ => false
def p_recv (cm : Nat) (as : List Value) (h : List pE) : Bool := Nat.ble (p_args as).length (p_maxL cm) && bif p_isS cm then p_hdlit as else match p_inst cm with
  | none => !(p_ctor cm) || p_hdref as
  | some ci => match as with
    | .ref k :: _ => match h[k]? with
      | some (.inr (cj, _)) => Nat.beq ci cj
      | _ => false
    | _ => false
abbrev pF : Type := Nat → Nat → Nat → pL → List Value → List pE → Option pR
noncomputable def p_if {α : Type} (C : Prop) (a b : α) : α := @ite α C (Classical.propDecidable C) a b
theorem p_if_t {α : Type} {C : Prop} {a b : α} (h : C) : p_if C a b = a := by unfold p_if; exact if_pos h
theorem p_if_f {α : Type} {C : Prop} {a b : α} (h : ¬ C) : p_if C a b = b := by unfold p_if; exact if_neg h
noncomputable def p_F (X : pX) (f : pF) : pF := fun d mi pc ls st h =>
  match p_code mi pc with
  | none => none
  | some (ins, len) =>
    match p_calls mi ins with
    | some (cm, na) => (match d with
      | 0 => none
      | d' + 1 => (match p_pop na [] st with
        | none => none
        | some (as, rest) => bif p_recv cm as h && Nat.ble (p_words rest) 8 && Nat.beq len 3 then
            (match f d' cm 0 (p_in0 cm as) [] h with
            | none => none
            | some (.inl v, h1) => f (d' + 1) mi (pc + 3) ls (v.toList ++ rest) h1
            | some (.inr k, h1) => (match p_hdl mi pc k h1 with
              | some t => f (d' + 1) mi t ls [.ref k] h1
              | none => p_if (p_hh mi = []) (some (.inr k, h1)) none))
          else none))
    | none => (match p_ret mi ins st with
      | some (v, C) => p_if C (some (.inl v, h)) none
      | none => (match p_jmp pc ins st with
        | some (c, t, e, r, C) => p_if C (p_if c (f d mi t ls r h) (f d mi e ls r h)) none
        | none => (match p_swi pc ins st with
          | some (t, r, C) => p_if C (f d mi t ls r h) none
          | none => (match p_thr mi pc ins with
            | some ci => p_if (8 ≤ d ∧ p_words st ≤ 4 ∧ p_hh mi = []) (some (.inr h.length, h ++ [.inr (ci, [])])) none
            | none => (match p_step X d mi pc ls st h ins len with
              | none => none
              | some ((pc', ls', st', h'), C) => p_if C (f d mi pc' ls' st' h') none)))))
noncomputable def p_ex (X : pX) : Nat → pF
  | 0 => fun _ _ _ _ _ _ => none
  | n + 1 => p_F X (p_ex X n)
/-! more fuel does no harm -/
theorem p_if_mono {α : Type} {C : Prop} {a b : Option α} {r : α} (h : p_if C a none = some r) (hab : a = some r → b = some r) : p_if C b none = some r := by
  by_cases hC : C
  · rw [p_if_t hC] at h ⊢; exact hab h
  · rw [p_if_f hC] at h; cases h
theorem p_F_mono (X : pX) {f g : pF} (hfg : ∀ d mi pc ls st h r, f d mi pc ls st h = some r → g d mi pc ls st h = some r) {d mi pc : Nat} {ls : pL} {st : List Value} {h : List pE} {r : pR} (hh : p_F X f d mi pc ls st h = some r) : p_F X g d mi pc ls st h = some r := by
  unfold p_F at hh ⊢
  cases hc : p_code mi pc with
  | none => rw [hc] at hh; cases hh
  | some q =>
    obtain ⟨ins, len⟩ := q
    rw [hc] at hh
    dsimp only at hh ⊢
    cases h1 : p_calls mi ins with
    | some q =>
      obtain ⟨cm, na⟩ := q
      rw [h1] at hh
      dsimp only at hh ⊢
      cases d with
      | zero => cases hh
      | succ d' =>
        dsimp only at hh ⊢
        cases h2 : p_pop na [] st with
        | none => rw [h2] at hh; cases hh
        | some q =>
          obtain ⟨as, rest⟩ := q
          rw [h2] at hh
          dsimp only at hh ⊢
          cases h3 : (p_recv cm as h && Nat.ble (p_words rest) 8 && Nat.beq len 3) with
          | false => rw [h3] at hh; cases hh
          | true =>
            rw [h3] at hh
            dsimp only [cond_true] at hh ⊢
            cases h4 : f d' cm 0 (p_in0 cm as) [] h with
            | none => rw [h4] at hh; cases hh
            | some q =>
              rw [h4] at hh
              rw [hfg _ _ _ _ _ _ _ h4]
              obtain ⟨q1, h1⟩ := q
              cases q1 with
              | inl v =>
                dsimp only at hh ⊢
                exact hfg _ _ _ _ _ _ _ hh
              | inr k =>
                dsimp only at hh ⊢
                cases h5 : p_hdl mi pc k h1 with
                | none => rw [h5] at hh; exact hh
                | some t =>
                  rw [h5] at hh
                  dsimp only at hh ⊢
                  exact hfg _ _ _ _ _ _ _ hh
    | none =>
      rw [h1] at hh
      dsimp only at hh ⊢
      cases h2 : p_ret mi ins st with
      | some q => obtain ⟨v, C⟩ := q; rw [h2] at hh; exact hh
      | none =>
        rw [h2] at hh
        dsimp only at hh ⊢
        cases h3 : p_jmp pc ins st with
        | some q =>
          obtain ⟨c, t, e, r', C⟩ := q
          rw [h3] at hh
          dsimp only at hh ⊢
          refine p_if_mono hh (fun hh => ?_)
          by_cases hc : c
          · rw [p_if_t hc] at hh ⊢; exact hfg _ _ _ _ _ _ _ hh
          · rw [p_if_f hc] at hh ⊢; exact hfg _ _ _ _ _ _ _ hh
        | none =>
          rw [h3] at hh
          dsimp only at hh ⊢
          cases h4 : p_swi pc ins st with
          | some q =>
            obtain ⟨t, r', C⟩ := q
            rw [h4] at hh
            dsimp only at hh ⊢
            exact p_if_mono hh (fun hh => hfg _ _ _ _ _ _ _ hh)
          | none =>
            rw [h4] at hh
            dsimp only at hh ⊢
            cases h6 : p_thr mi pc ins with
            | some ci => rw [h6] at hh; exact hh
            | none =>
              rw [h6] at hh
              dsimp only at hh ⊢
              cases h5 : p_step X d mi pc ls st h ins len with
              | none => rw [h5] at hh; cases hh
              | some q =>
                obtain ⟨⟨pc', ls', st', h'⟩, C⟩ := q
                rw [h5] at hh
                dsimp only at hh ⊢
                exact p_if_mono hh (fun hh => hfg _ _ _ _ _ _ _ hh)
theorem p_ex_succ (X : pX) : ∀ (n d mi pc : Nat) (ls : pL) (st : List Value) (h : List pE) (r : pR), p_ex X n d mi pc ls st h = some r → p_ex X (n + 1) d mi pc ls st h = some r := by
  intro n
  induction n with
  | zero => intro d mi pc ls st h r hh; cases hh
  | succ n ih => intro d mi pc ls st h r hh; exact p_F_mono X ih hh
theorem p_ex_le (X : pX) {n n' : Nat} (hn : n ≤ n') {d mi pc : Nat} {ls : pL} {st : List Value} {h : List pE} {r : pR} (hh : p_ex X n d mi pc ls st h = some r) : p_ex X n' d mi pc ls st h = some r := by
  induction hn with
  | refl => exact hh
  | step _ ih => exact p_ex_succ X _ _ _ _ _ _ _ _ ih
/-- the machine, from here, ends in Q -/
def p_E (X : pX) (d mi pc : Nat) (ls : pL) (st : List Value) (h : List pE) (Q : pR → Prop) : Prop := ∃ n r, p_ex X n d mi pc ls st h = some r ∧ Q r
/-- a method, called -/
def p_M (X : pX) (d mi : Nat) (as : List Value) (h : List pE) (Q : pR → Prop) : Prop := p_E X d mi 0 (p_in0 mi as) [] h Q
theorem p_E.mono {X : pX} {d mi pc : Nat} {ls : pL} {st : List Value} {h : List pE} {Q Q' : pR → Prop} (k : p_E X d mi pc ls st h Q) (hq : ∀ r, Q r → Q' r) : p_E X d mi pc ls st h Q' := by
  obtain ⟨n, r, h1, h2⟩ := k
  exact ⟨n, r, h1, hq r h2⟩
def p_plain (mi : Nat) (ins : Instr) : Bool := match ins with
  | .invokevirtual i => (p_mtV (p_own mi) i).isNone
  | .invokestatic i => (p_mtS (p_own mi) i).isNone
  | .invokespecial i => (p_mtI (p_own mi) i).isNone
  | .return_ => false
  | .ireturn => false
  | .lreturn => false
  | .ifCond _ _ => false
  | .if_icmp _ _ => false
  | .tableswitch _ _ _ _ => false
  | .lookupswitch _ _ => false
  | .new i => (p_exn (p_own mi) i).isNone
  | .athrow => false
  | _ => true
theorem p_plain_ok {mi : Nat} {ins : Instr} (h : p_plain mi ins = true) (pc : Nat) (st : List Value) : p_calls mi ins = none ∧ p_ret mi ins st = none ∧ p_jmp pc ins st = none ∧ p_swi pc ins st = none ∧ p_thr mi pc ins = none := by
  cases ins <;> simp_all [p_plain, p_calls, p_ret, p_jmp, p_swi, p_thr]
def p_one (X : pX) (d mi pc : Nat) (ls : pL) (st : List Value) (h : List pE) : Option (pT × Prop) :=
  match p_code mi pc with
  | none => none
  | some (ins, len) => bif p_plain mi ins then p_step X d mi pc ls st h ins len else none
/-- a stretch of plain instructions -/
def p_run (X : pX) (d mi : Nat) : Nat → Nat → pL → List Value → List pE → Option (pT × Prop)
  | 0, pc, ls, st, h => some ((pc, ls, st, h), True)
  | K + 1, pc, ls, st, h => match p_one X d mi pc ls st h with
    | none => none
    | some ((pc', ls', st', h'), C) => match p_run X d mi K pc' ls' st' h' with
      | none => none
      | some (s, C') => some (s, C ∧ C')
theorem R_one {X : pX} {d mi pc pc' : Nat} {ls ls' : pL} {st st' : List Value} {h h' : List pE} {C : Prop} {Q : pR → Prop} (hs : p_one X d mi pc ls st h = some ((pc', ls', st', h'), C)) (hC : C) (k : p_E X d mi pc' ls' st' h' Q) : p_E X d mi pc ls st h Q := by
  obtain ⟨n, r, h1, h2⟩ := k
  refine ⟨n + 1, r, ?_, h2⟩
  unfold p_one at hs
  show p_F X (p_ex X n) d mi pc ls st h = some r
  unfold p_F
  cases hc : p_code mi pc with
  | none => rw [hc] at hs; cases hs
  | some q =>
    obtain ⟨ins, len⟩ := q
    rw [hc] at hs
    dsimp only at hs ⊢
    cases hp : p_plain mi ins with
    | false => rw [hp] at hs; cases hs
    | true =>
      rw [hp] at hs
      dsimp only [cond_true] at hs
      obtain ⟨g1, g2, g3, g4, g5⟩ := p_plain_ok hp pc st
      rw [g1, g2, g3, g4, g5, hs]
      dsimp only
      rw [p_if_t hC]
      exact h1
theorem R_run {X : pX} {d mi : Nat} (K : Nat) {pc pc' : Nat} {ls ls' : pL} {st st' : List Value} {h h' : List pE} {C : Prop} {Q : pR → Prop} (hs : p_run X d mi K pc ls st h = some ((pc', ls', st', h'), C)) (hC : C) (k : p_E X d mi pc' ls' st' h' Q) : p_E X d mi pc ls st h Q := by
  induction K generalizing pc ls st h C with
  | zero => cases hs; exact k
  | succ K ih =>
    unfold p_run at hs
    cases h1 : p_one X d mi pc ls st h with
    | none => rw [h1] at hs; cases hs
    | some q =>
      obtain ⟨⟨pc1, ls1, st1, hh1⟩, C1⟩ := q
      rw [h1] at hs
      dsimp only at hs
      cases h2 : p_run X d mi K pc1 ls1 st1 hh1 with
      | none => rw [h2] at hs; cases hs
      | some q =>
        obtain ⟨s2, C2⟩ := q
        rw [h2] at hs
        dsimp only at hs
        cases hs
        exact R_one h1 hC.1 (ih h2 hC.2)
theorem R_jmp {X : pX} {d mi pc t e len : Nat} {ins : Instr} {ls : pL} {st r : List Value} {h : List pE} {c C : Prop} {Q : pR → Prop} (hc : p_code mi pc = some (ins, len)) (hj : p_jmp pc ins st = some (c, t, e, r, C)) (hC : C) (kt : c → p_E X d mi t ls r h Q) (kf : ¬ c → p_E X d mi e ls r h Q) : p_E X d mi pc ls st h Q := by
  have g : p_calls mi ins = none ∧ p_ret mi ins st = none := by
    cases ins <;> simp_all [p_calls, p_ret, p_jmp]
  have key : ∀ n, p_F X (p_ex X n) d mi pc ls st h = p_if c (p_ex X n d mi t ls r h) (p_ex X n d mi e ls r h) := by
    intro n
    unfold p_F
    rw [hc]
    dsimp only
    rw [g.1, g.2, hj]
    dsimp only
    rw [p_if_t hC]
  by_cases hq : c
  · obtain ⟨n, r', h1, h2⟩ := kt hq
    exact ⟨n + 1, r', by show p_F X (p_ex X n) d mi pc ls st h = some r'; rw [key, p_if_t hq]; exact h1, h2⟩
  · obtain ⟨n, r', h1, h2⟩ := kf hq
    exact ⟨n + 1, r', by show p_F X (p_ex X n) d mi pc ls st h = some r'; rw [key, p_if_f hq]; exact h1, h2⟩
theorem R_swi {X : pX} {d mi pc t len : Nat} {ins : Instr} {ls : pL} {st r : List Value} {h : List pE} {C : Prop} {Q : pR → Prop} (hc : p_code mi pc = some (ins, len)) (hj : p_swi pc ins st = some (t, r, C)) (hC : C) (k : p_E X d mi t ls r h Q) : p_E X d mi pc ls st h Q := by
  have g : p_calls mi ins = none ∧ p_ret mi ins st = none ∧ p_jmp pc ins st = none := by
    cases ins <;> simp_all [p_calls, p_ret, p_jmp, p_swi]
  obtain ⟨n, r', h1, h2⟩ := k
  refine ⟨n + 1, r', ?_, h2⟩
  show p_F X (p_ex X n) d mi pc ls st h = some r'
  unfold p_F
  rw [hc]
  dsimp only
  rw [g.1, g.2.1, g.2.2, hj]
  dsimp only
  rw [p_if_t hC]
  exact h1
theorem R_ret {X : pX} {d mi pc len : Nat} {ins : Instr} {ls : pL} {st : List Value} {h : List pE} {v : Option Value} {C : Prop} {Q : pR → Prop} (hc : p_code mi pc = some (ins, len)) (hj : p_ret mi ins st = some (v, C)) (hC : C) (k : Q (.inl v, h)) : p_E X d mi pc ls st h Q := by
  have g : p_calls mi ins = none := by
    cases ins <;> simp_all [p_calls, p_ret]
  refine ⟨1, (.inl v, h), ?_, k⟩
  show p_F X (p_ex X 0) d mi pc ls st h = some (.inl v, h)
  unfold p_F
  rw [hc]
  dsimp only
  rw [g, hj]
  dsimp only
  rw [p_if_t hC]
theorem R_call {X : pX} {d mi pc cm na : Nat} {ins : Instr} {ls : pL} {st as rest : List Value} {h : List pE} {Q : pR → Prop} (hc : p_code mi pc = some (ins, 3)) (hm : p_calls mi ins = some (cm, na)) (hp : p_pop na [] st = some (as, rest)) (hr : (p_recv cm as h && Nat.ble (p_words rest) 8) = true)
    (k : p_M X d cm as h (fun q => match q.1 with
      | .inl v => p_E X (d + 1) mi (pc + 3) ls (v.toList ++ rest) q.2 Q
      | .inr x => (match p_hdl mi pc x q.2 with
        | some t => p_E X (d + 1) mi t ls [.ref x] q.2 Q
        | none => p_hh mi = [] ∧ Q q))) : p_E X (d + 1) mi pc ls st h Q := by
  obtain ⟨n, ⟨q1, h1⟩, e1, e2⟩ := k
  have key : ∀ n', n ≤ n' → ∀ r, (match q1 with
      | .inl v => p_ex X n' (d + 1) mi (pc + 3) ls (v.toList ++ rest) h1
      | .inr x => (match p_hdl mi pc x h1 with
        | some t => p_ex X n' (d + 1) mi t ls [.ref x] h1
        | none => p_if (p_hh mi = []) (some (.inr x, h1)) none)) = some r → p_ex X (n' + 1) (d + 1) mi pc ls st h = some r := by
    intro n' hn r hr2
    have e3 := p_ex_le X hn e1
    show p_F X (p_ex X n') (d + 1) mi pc ls st h = some r
    unfold p_F
    rw [hc]
    dsimp only
    rw [hm]
    dsimp only
    rw [hp]
    dsimp only
    rw [hr]
    simp only [Bool.true_and, Nat.beq_refl, cond_true]
    rw [e3]
    cases q1 with
    | inl v => exact hr2
    | inr x => exact hr2
  cases q1 with
  | inl v =>
    obtain ⟨n2, r, g1, g2⟩ := e2
    exact ⟨max n n2 + 1, r, key _ (Nat.le_max_left _ _) r (p_ex_le X (Nat.le_max_right _ _) g1), g2⟩
  | inr x =>
    dsimp only at e2
    cases hh : p_hdl mi pc x h1 with
    | none =>
      rw [hh] at e2
      exact ⟨n + 1, (.inr x, h1), key n (Nat.le_refl _) _ (by dsimp only; rw [hh]; exact p_if_t e2.1), e2.2⟩
    | some t =>
      rw [hh] at e2
      obtain ⟨n2, r, g1, g2⟩ := e2
      exact ⟨max n n2 + 1, r, key _ (Nat.le_max_left _ _) r (by dsimp only; rw [hh]; exact p_ex_le X (Nat.le_max_right _ _) g1), g2⟩
/-- a throw -/
theorem R_thr {X : pX} {d mi pc ci len : Nat} {ins : Instr} {ls : pL} {st : List Value} {h : List pE} {Q : pR → Prop} (hc : p_code mi pc = some (ins, len)) (ht : p_thr mi pc ins = some ci) (hC : 8 ≤ d ∧ p_words st ≤ 4 ∧ p_hh mi = []) (k : Q (.inr h.length, h ++ [.inr (ci, [])])) : p_E X d mi pc ls st h Q := by
  have g : p_calls mi ins = none ∧ p_ret mi ins st = none ∧ p_jmp pc ins st = none ∧ p_swi pc ins st = none := by
    cases ins <;> simp_all [p_calls, p_ret, p_jmp, p_swi, p_thr]
  refine ⟨1, (.inr h.length, h ++ [.inr (ci, [])]), ?_, k⟩
  show p_F X (p_ex X 0) d mi pc ls st h = some _
  unfold p_F
  rw [hc]
  dsimp only
  rw [g.1, g.2.1, g.2.2.1, g.2.2.2, ht]
  dsimp only
  rw [p_if_t hC]
/-- a call that returns -/
theorem R_callr {X : pX} {d mi pc cm na : Nat} {ins : Instr} {ls : pL} {st as rest : List Value} {h h1 : List pE} {v : Option Value} {Q : pR → Prop} (hc : p_code mi pc = some (ins, 3)) (hm : p_calls mi ins = some (cm, na)) (hp : p_pop na [] st = some (as, rest)) (hr : (p_recv cm as h && Nat.ble (p_words rest) 8) = true)
    (hM : p_M X d cm as h (fun q => q = (.inl v, h1))) (k : p_E X (d + 1) mi (pc + 3) ls (v.toList ++ rest) h1 Q) : p_E X (d + 1) mi pc ls st h Q :=
  R_call hc hm hp hr (hM.mono (fun q e => by subst e; exact k))
end
section
/-! ===== THE PURE MACHINE AND THE MACHINE: how cells, values, locals are held ===== -/
def c_V (base : Nat) (ex : Nat → Nat) : Value → Value
  | .ref k => .ref (base + k)
  | .retAddr j => .ref (ex j)
  | .int x => .int x
  | .long x => .long x
  | .float _ => if ex 100000 = 0 then .null else .ref (ex 100001)
  | .double x => .double x
  | .null => .null
theorem c_V_cat (base : Nat) (ex : Nat → Nat) (v : Value) : (c_V base ex v).category = v.category := by
  cases v <;> first | rfl | (show (if ex 100000 = 0 then Value.null else Value.ref (ex 100001)).category = 1; split <;> rfl)
def c_E (base : Nat) (ex : Nat → Nat) (cA : FieldType → ClassId) : pE → va_E
  | .inl (ty, a) => .inl (cA ty, a)
  | .inr (ci, fs) => .inr (ci, fs.map (c_V base ex))
/-- the heap holds the cells, one behind the other from base on, and nothing above them -/
def P_R (D : va_G) (base : Nat) (ex : Nat → Nat) (cA : FieldType → ClassId) (h : List pE) (H : Heap) : Prop := H.size = base + h.length ∧ ∀ (k : Nat) (e : pE), h[k]? = some e → va_at D vwCl (base + k, c_E base ex cA e) H
theorem P_R.set {D : va_G} {base : Nat} {ex : Nat → Nat} {cA : FieldType → ClassId} {h : List pE} {H H1 : Heap} (hP : P_R D base ex cA h H) {k : Nat} {e : pE} (hat : va_at D vwCl (base + k, c_E base ex cA e) H1) (hz : H1.size = H.size) (oq : ∀ q : Nat, q ≠ base + k → H1[q]? = H[q]?) : P_R D base ex cA (h.set k e) H1 := by
  refine ⟨by rw [hz, List.length_set]; exact hP.1, fun j e' hj => ?_⟩
  by_cases hjk : k = j
  · subst hjk
    rw [List.getElem?_set_self' ] at hj
    cases hh : h[k]? with
    | none => rw [hh] at hj; cases hj
    | some q => rw [hh] at hj; cases hj; exact hat
  · rw [List.getElem?_set_ne hjk] at hj
    exact (hP.2 j e' hj).kept (oq _ (by omega))
theorem P_R.push {D : va_G} {base : Nat} {ex : Nat → Nat} {cA : FieldType → ClassId} {h : List pE} {H H1 : Heap} (hP : P_R D base ex cA h H) {e : pE} (hat : va_at D vwCl (base + h.length, c_E base ex cA e) H1) (hz : H1.size = H.size + 1) (oq : ∀ q : Nat, q < H.size → H1[q]? = H[q]?) : P_R D base ex cA (h ++ [e]) H1 := by
  refine ⟨by rw [hz, List.length_append, hP.1]; simp; omega, fun j e' hj => ?_⟩
  by_cases hl : j < h.length
  · rw [List.getElem?_append_left hl] at hj
    exact (hP.2 j e' hj).kept (oq _ (by rw [hP.1]; omega))
  · rw [List.getElem?_append_right (by omega)] at hj
    have hz : j - h.length < 1 := (List.getElem?_eq_some_iff.mp hj).1
    have hj0 : j = h.length := by omega
    subst hj0
    rw [Nat.sub_self] at hj
    cases hj
    exact hat
/-- the locals as the kit's rows have them -/
def c_L (base : Nat) (ex : Nat → Nat) : Nat → pL → List (Nat × Value)
  | _, [] => []
  | i, none :: t => c_L base ex (i + 1) t
  | i, some v :: t => (i, c_V base ex v) :: c_L base ex (i + 1) t
theorem c_L_mem {base : Nat} {ex : Nat → Nat} : ∀ (ls : pL) (i j : Nat) (w : Value), (j, w) ∈ c_L base ex i ls ↔ ∃ (k : Nat) (v : Value), j = i + k ∧ p_get ls k = some v ∧ w = c_V base ex v := by
  intro ls
  induction ls with
  | nil =>
    intro i j w
    simp [c_L, p_get]
  | cons o t ih =>
    intro i j w
    cases o with
    | none =>
      show (j, w) ∈ c_L base ex (i + 1) t ↔ _
      rw [ih]
      constructor
      · rintro ⟨k, v, h1, h2, h3⟩
        exact ⟨k + 1, v, by omega, h2, h3⟩
      · rintro ⟨k, v, h1, h2, h3⟩
        cases k with
        | zero => cases h2
        | succ k => exact ⟨k, v, by omega, h2, h3⟩
    | some v0 =>
      show (j, w) ∈ (i, c_V base ex v0) :: c_L base ex (i + 1) t ↔ _
      rw [List.mem_cons, ih]
      constructor
      · rintro (h | ⟨k, v, h1, h2, h3⟩)
        · cases h
          exact ⟨0, v0, by omega, rfl, rfl⟩
        · exact ⟨k + 1, v, by omega, h2, h3⟩
      · rintro ⟨k, v, h1, h2, h3⟩
        cases k with
        | zero =>
          cases h2
          left
          rw [h3, h1]
          rfl
        | succ k => exact Or.inr ⟨k, v, by omega, h2, h3⟩
theorem p_put_len : ∀ (ls : pL) (i : Nat) (o : Option Value), (p_put ls i o).length = ls.length := by
  intro ls
  induction ls with
  | nil => intro i o; rfl
  | cons a t ih =>
    intro i o
    cases i with
    | zero => rfl
    | succ i => show (p_put t i o).length + 1 = t.length + 1; rw [ih]
theorem p_get_put : ∀ (ls : pL) (i j : Nat) (o : Option Value) (v : Value), p_get (p_put ls i o) j = some v → (j = i ∧ o = some v) ∨ (j ≠ i ∧ p_get ls j = some v) := by
  intro ls
  induction ls with
  | nil => intro i j o v h; cases h
  | cons a t ih =>
    intro i j o v h
    cases i with
    | zero =>
      cases j with
      | zero => exact Or.inl ⟨rfl, h⟩
      | succ j => exact Or.inr ⟨by omega, h⟩
    | succ i =>
      cases j with
      | zero => exact Or.inr ⟨by omega, h⟩
      | succ j =>
        rcases ih i j o v h with ⟨h1, h2⟩ | ⟨h1, h2⟩
        · exact Or.inl ⟨by omega, h2⟩
        · exact Or.inr ⟨by omega, h2⟩
theorem p_clr_succ (ls : pL) (i : Nat) : p_clr ls (i + 1) = bif p_two (p_get ls i) then p_put ls i none else ls := rfl
theorem p_clr_len (ls : pL) (i : Nat) : (p_clr ls i).length = ls.length := by
  cases i with
  | zero => rfl
  | succ i =>
    rw [p_clr_succ]
    cases p_two (p_get ls i) with
    | false => rfl
    | true => exact p_put_len ls i none
theorem p_two_cat {v : Value} (h : v.category = 2) : p_two (some v) = true := by
  cases v <;> first | rfl | (simp [Value.category] at h)
theorem p_get_clr {ls : pL} {i j : Nat} {v : Value} (h : p_get (p_clr ls i) j = some v) : p_get ls j = some v ∧ (j + 1 = i → ¬ v.category = 2) := by
  cases i with
  | zero => exact ⟨h, fun z => by omega⟩
  | succ i =>
    rw [p_clr_succ] at h
    cases h2 : p_two (p_get ls i) with
    | false =>
      rw [h2] at h
      dsimp only [cond_false] at h
      refine ⟨h, fun z hv => ?_⟩
      have hij : j = i := by omega
      subst hij
      rw [h, p_two_cat hv] at h2
      cases h2
    | true =>
      rw [h2] at h
      dsimp only [cond_true] at h
      rcases p_get_put ls i j none v h with ⟨-, h1⟩ | ⟨h1, h3⟩
      · cases h1
      · exact ⟨h3, fun z => by omega⟩
/-- the frame's locals hold the pure ones -/
def P_L (base : Nat) (ex : Nat → Nat) (nL : Nat) (ls : pL) (lsA : Array Slot) : Prop := ls.length = nL ∧ lv_has lsA nL (c_L base ex 0 ls)
theorem P_L.get {base nL : Nat} {ex : Nat → Nat} {ls : pL} {lsA : Array Slot} (h : P_L base ex nL ls lsA) {i : Nat} {v : Value} (hi : p_get ls i = some v) : lsA[i]? = some (.val (c_V base ex v)) :=
  h.2.2.2 (i, c_V base ex v) ((c_L_mem ls 0 i _).mpr ⟨i, v, by omega, hi, rfl⟩)
theorem P_L.st1 {base nL : Nat} {ex : Nat → Nat} {ls : pL} {lsA lsB : Array Slot} (h : P_L base ex nL ls lsA) {i : Nat} {v : Value} (hB : lv_has lsB nL ((i, c_V base ex v) :: (c_L base ex 0 ls).filter (fun q => !(q.1 == i) && !(q.1 + 1 == i && q.2.category == 2)))) : P_L base ex nL (p_st1 ls i v) lsB := by
  refine ⟨by unfold p_st1; rw [p_put_len, p_clr_len]; exact h.1, hB.1, hB.2.1, fun q hq => ?_⟩
  obtain ⟨j, w⟩ := q
  obtain ⟨k, v', h1, h2, h3⟩ := (c_L_mem _ 0 j w).mp hq
  have hk : j = k := by omega
  subst hk
  refine hB.2.2 (j, w) ?_
  rcases p_get_put _ i j (some v) v' h2 with ⟨e1, e2⟩ | ⟨e1, e2⟩
  · cases e2
    rw [h3, e1]
    exact List.mem_cons_self
  · obtain ⟨g1, g2⟩ := p_get_clr e2
    refine List.mem_cons_of_mem _ (List.mem_filter.mpr ⟨(c_L_mem ls 0 j w).mpr ⟨j, v', by omega, g1, h3⟩, ?_⟩)
    rw [h3]
    simp only [c_V_cat]
    by_cases hj : j + 1 = i
    · simp [e1, g2 hj]
    · simp [e1, hj]
theorem P_L.st2 {base nL : Nat} {ex : Nat → Nat} {ls : pL} {lsA lsB : Array Slot} (h : P_L base ex nL ls lsA) {i : Nat} {v : Value} (hB : lv_has lsB nL ((i, c_V base ex v) :: (c_L base ex 0 ls).filter (fun q => !(q.1 == i) && (!(q.1 == i + 1) && !(q.1 + 1 == i && q.2.category == 2))))) : P_L base ex nL (p_st2 ls i v) lsB := by
  refine ⟨by unfold p_st2; rw [p_put_len, p_put_len, p_clr_len]; exact h.1, hB.1, hB.2.1, fun q hq => ?_⟩
  obtain ⟨j, w⟩ := q
  obtain ⟨k, v', h1, h2, h3⟩ := (c_L_mem _ 0 j w).mp hq
  have hk : j = k := by omega
  subst hk
  refine hB.2.2 (j, w) ?_
  rcases p_get_put _ (i + 1) j none v' h2 with ⟨e1, e2⟩ | ⟨e0, e2⟩
  · cases e2
  · rcases p_get_put _ i j (some v) v' e2 with ⟨e1, e2⟩ | ⟨e1, e2⟩
    · cases e2
      rw [h3, e1]
      exact List.mem_cons_self
    · obtain ⟨g1, g2⟩ := p_get_clr e2
      refine List.mem_cons_of_mem _ (List.mem_filter.mpr ⟨(c_L_mem ls 0 j w).mpr ⟨j, v', by omega, g1, h3⟩, ?_⟩)
      rw [h3]
      simp only [c_V_cat]
      by_cases hj : j + 1 = i
      · simp [e0, e1, g2 hj]
      · simp [e0, e1, hj]
/-- a method's entry -/
theorem p_pad_get : ∀ (n : Nat) (l : pL) (k : Nat) (v : Value), p_get (p_pad n l) k = some v → p_get l k = some v := by
  intro n
  induction n with
  | zero => intro l k v h; exact h
  | succ n ih =>
    intro l k v h
    cases l with
    | nil =>
      cases k with
      | zero => cases h
      | succ k => exact absurd (ih [] k v h) (by simp [p_get])
    | cons o t =>
      cases k with
      | zero => exact h
      | succ k => exact ih t k v h
theorem p_pad_len : ∀ (n : Nat) (l : pL), l.length ≤ n → (p_pad n l).length = n := by
  intro n
  induction n with
  | zero => intro l h; cases l with
    | nil => rfl
    | cons o t => simp at h
  | succ n ih =>
    intro l h
    cases l with
    | nil => show (p_pad n []).length + 1 = n + 1; rw [ih [] (by simp)]
    | cons o t => show (p_pad n t).length + 1 = n + 1; rw [ih t (by simpa using h)]
theorem p_args_mem {base : Nat} {ex : Nat → Nat} : ∀ (as : List Value) (i k : Nat) (v : Value), p_get (p_args as) k = some v → (i + k, c_V base ex v) ∈ lv_args i (as.map (c_V base ex)) := by
  intro as
  induction as with
  | nil => intro i k v h; cases h
  | cons a t ih =>
    intro i k v h
    show _ ∈ (i, c_V base ex a) :: lv_args (if (c_V base ex a).category = 2 then i + 2 else i + 1) (t.map (c_V base ex))
    rw [c_V_cat]
    cases a with
    | long x =>
      rw [if_pos (show (Value.long x).category = 2 from rfl)]
      cases k with
      | zero => cases h; exact List.mem_cons_self
      | succ k =>
        cases k with
        | zero => cases h
        | succ k =>
          refine List.mem_cons_of_mem _ ?_
          have := ih (i + 2) k v h
          rw [show i + (k + 1 + 1) = i + 2 + k by omega]
          exact this
    | double x =>
      rw [if_pos (show (Value.double x).category = 2 from rfl)]
      cases k with
      | zero => cases h; exact List.mem_cons_self
      | succ k =>
        cases k with
        | zero => cases h
        | succ k =>
          refine List.mem_cons_of_mem _ ?_
          have := ih (i + 2) k v h
          rw [show i + (k + 1 + 1) = i + 2 + k by omega]
          exact this
    | _ =>
      rw [if_neg (by simp [Value.category])]
      cases k with
      | zero => cases h; exact List.mem_cons_self
      | succ k =>
        refine List.mem_cons_of_mem _ ?_
        have := ih (i + 1) k v h
        rw [show i + (k + 1) = i + 1 + k by omega]
        exact this
theorem p_args_len {base : Nat} {ex : Nat → Nat} : ∀ (as : List Value), (lg_sl (as.map (c_V base ex))).length = (p_args as).length := by
  intro as
  induction as with
  | nil => rfl
  | cons a t ih =>
    show ((if (c_V base ex a).category = 2 then [Slot.val (c_V base ex a), .second] else [.val (c_V base ex a)]) ++ lg_sl (t.map (c_V base ex))).length = _
    rw [c_V_cat]
    cases a <;> simp [Value.category, p_args, ih] <;> omega
theorem P_L_entry {base n : Nat} {ex : Nat → Nat} {as : List Value} (hl : (p_args as).length ≤ n) : P_L base ex n (p_pad n (p_args as)) ((lg_sl (as.map (c_V base ex)) ++ List.replicate (n - (lg_sl (as.map (c_V base ex))).length) Slot.unset).toArray) := by
  have h1 := lv_entry (as.map (c_V base ex)) (n := n) (by rw [p_args_len]; exact hl)
  refine ⟨p_pad_len _ _ hl, h1.1, h1.2.1, fun q hq => ?_⟩
  obtain ⟨j, w⟩ := q
  obtain ⟨k, v, e1, e2, e3⟩ := (c_L_mem _ 0 j w).mp hq
  have e4 := p_args_mem (base := base) (ex := ex) as 0 k v (p_pad_get _ _ _ _ e2)
  rw [e3, e1]
  exact h1.2.2 _ e4
end
section
section PS1
variable {p : Program} {l : Launch} {e : Env} {R : Room} {s : State} {m : MethodId} {args : Array Value} {below : List Frame} {meth : Method} {c : Code} {H : Heap} {locs : List Loc} {cells slots : Nat} {Q : State → Prop}
variable {base : Nat} {ex : Nat → Nat} {lsA : Array Slot}
set_option maxHeartbeats 4000000 in
theorem p_alu_ok (hx : p.tables.exec = Jvm.exec) {cc : ByteArray} (hb : c.code = cc) {pc : Nat} {ins : Instr} (hd : decode cc pc = .ok (ins, 1)) {st st' : List Value} {Co : Prop} (hs : p_alu ins st = some (st', Co)) (hC : Co) (kk : W p l e R s m args below meth c H locs cells slots Q (F0 m (pc + 1) lsA (st'.map (c_V base ex)))) : W p l e R s m args below meth c H locs cells slots Q (F0 m pc lsA (st.map (c_V base ex))) := by
  cases ins with
  | iadd =>
    dsimp only [p_alu] at hs
    split at hs
    · cases hs; exact lv_iadd hx hb hd kk
    · cases hs
  | isub =>
    dsimp only [p_alu] at hs
    split at hs
    · cases hs; exact lv_isub hx hb hd kk
    · cases hs
  | imul =>
    dsimp only [p_alu] at hs
    split at hs
    · cases hs; exact lv_imul hx hb hd kk
    · cases hs
  | idiv =>
    dsimp only [p_alu] at hs
    split at hs
    · cases hs; exact lv_idiv hx hb hd hC kk
    · cases hs
  | irem =>
    dsimp only [p_alu] at hs
    split at hs
    · cases hs; exact lv_irem hx hb hd hC kk
    · cases hs
  | ineg =>
    dsimp only [p_alu] at hs
    split at hs
    · cases hs; exact lv_ineg hx hb hd kk
    · cases hs
  | iand =>
    dsimp only [p_alu] at hs
    split at hs
    · cases hs; exact lv_iand hx hb hd kk
    · cases hs
  | ior =>
    dsimp only [p_alu] at hs
    split at hs
    · cases hs; exact lv_ior hx hb hd kk
    · cases hs
  | ixor =>
    dsimp only [p_alu] at hs
    split at hs
    · cases hs; exact lv_ixor hx hb hd kk
    · cases hs
  | ishl =>
    dsimp only [p_alu] at hs
    split at hs
    · cases hs; exact lv_ishl hx hb hd kk
    · cases hs
  | ishr =>
    dsimp only [p_alu] at hs
    split at hs
    · cases hs; exact lv_ishr hx hb hd kk
    · cases hs
  | ladd =>
    dsimp only [p_alu] at hs
    split at hs
    · cases hs; exact lv_ladd hx hb hd kk
    · cases hs
  | lsub =>
    dsimp only [p_alu] at hs
    split at hs
    · cases hs; exact lv_lsub hx hb hd kk
    · cases hs
  | lmul =>
    dsimp only [p_alu] at hs
    split at hs
    · cases hs; exact lv_lmul hx hb hd kk
    · cases hs
  | ldiv =>
    dsimp only [p_alu] at hs
    split at hs
    · cases hs; exact lv_ldiv hx hb hd hC kk
    · cases hs
  | lrem =>
    dsimp only [p_alu] at hs
    split at hs
    · cases hs; exact lv_lrem hx hb hd hC kk
    · cases hs
  | lneg =>
    dsimp only [p_alu] at hs
    split at hs
    · cases hs; exact lv_lneg hx hb hd kk
    · cases hs
  | land =>
    dsimp only [p_alu] at hs
    split at hs
    · cases hs; exact lv_land hx hb hd kk
    · cases hs
  | lor =>
    dsimp only [p_alu] at hs
    split at hs
    · cases hs; exact lv_lor hx hb hd kk
    · cases hs
  | lxor =>
    dsimp only [p_alu] at hs
    split at hs
    · cases hs; exact lv_lxor hx hb hd kk
    · cases hs
  | lshl =>
    dsimp only [p_alu] at hs
    split at hs
    · cases hs; exact lv_lshl hx hb hd rfl kk
    · cases hs
  | lshr =>
    dsimp only [p_alu] at hs
    split at hs
    · cases hs; exact lv_lshr hx hb hd rfl kk
    · cases hs
  | lushr =>
    dsimp only [p_alu] at hs
    split at hs
    · cases hs; exact lv_lushr hx hb hd rfl kk
    · cases hs
  | i2l =>
    dsimp only [p_alu] at hs
    split at hs
    · cases hs; exact lv_i2l hx hb hd rfl kk
    · cases hs
  | l2i =>
    dsimp only [p_alu] at hs
    split at hs
    · cases hs; exact lv_l2i hx hb hd rfl kk
    · cases hs
  | i2c =>
    dsimp only [p_alu] at hs
    split at hs
    · cases hs; exact lv_i2c hx hb hd rfl kk
    · cases hs
  | lcmp =>
    dsimp only [p_alu] at hs
    split at hs
    · cases hs; exact W.lcmp hx hb hd kk
    · cases hs
  | dup =>
    dsimp only [p_alu] at hs
    split at hs
    · cases hs; exact lv_dup hx hb hd ((c_V_cat base ex _).trans hC) kk
    · cases hs
  | pop =>
    dsimp only [p_alu] at hs
    split at hs
    · cases hs; exact lv_pop hx hb hd ((c_V_cat base ex _).trans hC) kk
    · cases hs
  | dup_x1 =>
    dsimp only [p_alu] at hs
    split at hs
    · cases hs; exact lv_dup_x1 hx hb hd ((c_V_cat base ex _).trans hC.1) ((c_V_cat base ex _).trans hC.2) kk
    · cases hs
  | dup_x2 =>
    dsimp only [p_alu] at hs
    split at hs
    · cases hs; exact lv_dup_x2 hx hb hd ((c_V_cat base ex _).trans hC.1) ((c_V_cat base ex _).trans hC.2.1) ((c_V_cat base ex _).trans hC.2.2) kk
    · cases hs
  | dup2 =>
    dsimp only [p_alu] at hs
    split at hs
    · cases hs; exact lv_dup2_2 (va := .long _) hx hb hd rfl kk
    · cases hs; exact lv_dup2_11 hx hb hd ((c_V_cat base ex _).trans hC.1) ((c_V_cat base ex _).trans hC.2) kk
    · cases hs
  | pop2 =>
    dsimp only [p_alu] at hs
    split at hs
    · cases hs; exact lv_pop2_2 (va := .long _) hx hb hd rfl kk
    · cases hs
  | _ => cases hs
end PS1
end
section
/-! ===== what lies outside the pure cells: the script, the literals, four statics ===== -/
abbrev p_A (base : Nat) : Nat → Prop := fun q => base ≤ q
def p_lenL : List Nat := p_litL.map List.length
def P_LS (C n d : String) (A : Nat → Prop) (U : State) (H : Heap) : Prop := ∃ (k0 : ClassId) (k : Class) (i : Nat) (f : Field) (a : Nat) (cell : Cell), U.vm.findClass C = some k0 ∧ U.fieldFound? C n d = some (k0, k, i, f) ∧ f.isStatic = true ∧ k.statics = some a ∧ H[a]? = some cell ∧ cell.vm.isStatics = true ∧ cell.cls = k0 ∧ f.slot < cell.slots.size ∧ k.staticTypes[f.slot]? = some f.type ∧ ¬ A a
theorem P_LS.moved {C n d : String} {A : Nat → Prop} {u U : State} {H : Heap} (hvm : u.vm.Alike U.vm) (h : P_LS C n d A u H) : P_LS C n d A U H := by
  obtain ⟨k0, k, i, f, a, cell, h0, h1, h2, h3, h4, h5, h6, h7, h8, h9⟩ := h
  obtain ⟨k', hi', he⟩ := State.fieldFound?_setVm hvm h1
  exact ⟨k0, k', i, f, a, cell, by rw [hvm.findClass]; exact h0, hi', h2, by rw [he]; exact h3, h4, h5, h6, h7, by rw [he]; exact h8, h9⟩
theorem P_LS.kept {C n d : String} {A : Nat → Prop} {U : State} {H H1 : Heap} (h : P_LS C n d A U H) (hq : ∀ a : Nat, a < H.size → ¬ A a → H1[a]? = H[a]?) : P_LS C n d A U H1 := by
  obtain ⟨k0, k, i, f, a, cell, h0, h1, h2, h3, h4, h5, h6, h7, h8, h9⟩ := h
  exact ⟨k0, k, i, f, a, cell, h0, h1, h2, h3, by rw [hq a (Array.getElem?_eq_some_iff.mp h4).1 h9]; exact h4, h5, h6, h7, h8, h9⟩
theorem P_LS.use {C n d : String} {A : Nat → Prop} {s : State} {args : Array Value} (h : P_LS C n d A s s.heap) : (Cond.laysStatic C n d).before args s = true := by
  obtain ⟨k0, k, i, f, a, cell, h0, h1, h2, h3, h4, h5, h6, h7, h8, h9⟩ := h
  simp [Cond.before, Cond.holds, Cond.value, h0, h1, h2, h3, h4, h5, h6, h7, h8]
theorem P_LS.of {C n d : String} {A : Nat → Prop} {s : State} {args : Array Value} (hl : (Cond.laysStatic C n d).before args s = true) (hA : ∀ a : Nat, a < s.heap.size → ¬ A a) : P_LS C n d A s s.heap := by
  obtain ⟨c, k, i, f, a, cell, hc, hi, hst, ha, hcell, hs, hcls, hlt, hty⟩ := Cond.laysStatic_spec hl
  exact ⟨c, k, i, f, a, cell, hc, hi, hst, ha, hcell, hs, hcls, hlt, hty, hA a (Array.getElem?_eq_some_iff.mp hcell).1⟩
def p_dcW : List Cond := [.declares (Bundle.initS "java/lang/RuntimeException"), .declares (Bundle.initS "java/lang/Exception"), .declares (Bundle.initS Bundle.tN), .castable RE0 RE0, .castable RE1 RE1, .castable RE2 RE2, .castable RE3 RE3, .castable RE4 RE4]
theorem p_dc_form : ∀ w ∈ p_dcW, (∃ z, w = .declares z) ∨ (∃ a b, w = .castable a b) := by
  intro w hw
  simp only [p_dcW, List.mem_cons, List.not_mem_nil, or_false] at hw
  rcases hw with h | h | h | h | h | h | h | h <;> first | exact Or.inl ⟨_, h⟩ | exact Or.inr ⟨_, _, h⟩
def P_X (X : pX) (base : Nat) (ex : Nat → Nat) (U : State) (H : Heap) : Prop :=
  va_X (ex 0) X.1 X.2 U H ∧ ex 0 < base ∧ vk_S p_lits p_lenL p_litL (fun j => ex (j + 1)) (fun j => ex (p_lits + 1 + j)) (p_A base) U H ∧ (∀ o i j, p_str o i = some j → ∃ tx, vk_R (p_cn o) i tx (ex (j + 1)) U) ∧
  va_Zq "java/lang/Throwable" "UNASSIGNED_STACK" "[Ljava/lang/StackTraceElement;" (p_A base) U H ∧ va_Zq "java/lang/Throwable" "SUPPRESSED_SENTINEL" "Ljava/util/List;" (p_A base) U H ∧
  va_Z "java/lang/String" "COMPACT_STRINGS" "Z" (.int 1) (p_A base) U H ∧ va_Z "jdk/internal/util/Preconditions" "SIOOBE_FORMATTER" "Ljava/util/function/BiFunction;" (if ex 100000 = 0 then .null else .ref (ex 100001)) (p_A base) U H ∧ (∀ w ∈ p_nestW, va_Nw w U) ∧ (∀ ci cj, p_exk ci = true → p_exk cj = true → ci ≠ cj → va_Nc (p_cn ci) (p_cn cj) U) ∧
  P_LS "java/lang/Throwable" "UNASSIGNED_STACK" "[Ljava/lang/StackTraceElement;" (p_A base) U H ∧ P_LS "java/lang/Throwable" "SUPPRESSED_SENTINEL" "Ljava/util/List;" (p_A base) U H ∧ (∀ w ∈ p_dcW, va_Nw w U)
theorem p_nest_form : ∀ w ∈ p_nestW, ∃ a b c d, w = .methodLinkNest a b c d := by
  intro w hw
  simp only [p_nestW, List.mem_cons, List.not_mem_nil, or_false] at hw
  rcases hw with h | h | h <;> exact ⟨_, _, _, _, h⟩
theorem P_X.warm {X : pX} {base : Nat} {ex : Nat → Nat} {s U : State} {H : Heap} (hW : s.WarmedH U.vm) (h : P_X X base ex s H) : P_X X base ex U H := by
  obtain ⟨h1, h2, h3, h4, h5, h6, h7, h8, h9, h11, h12, h13, h14⟩ := h
  refine ⟨va_X.moved hW.alike h1, h2, vk_S.moved hW.alike h3, fun o i j hj => ?_, va_Zq.moved hW.alike h5, va_Zq.moved hW.alike h6, va_Z.moved hW.alike h7, va_Z.moved hW.alike h8, fun w hw => ?_, fun ci cj z1 z2 z3 => va_Nc.moved hW.alike (h11 ci cj z1 z2 z3), P_LS.moved hW.alike h12, P_LS.moved hW.alike h13, fun w hw => ?_⟩
  rotate_left 2
  · rcases p_dc_form w hw with ⟨z, rfl⟩ | ⟨a, b, rfl⟩
    · exact va_Nw.warmD hW (h14 _ hw)
    · exact va_Nw.warmC hW (h14 _ hw)
  rotate_left
  · obtain ⟨a, b, c, d, rfl⟩ := p_nest_form w hw
    exact va_Nw.warmM hW (h9 _ hw)
  obtain ⟨tx, h⟩ := h4 o i j hj
  exact ⟨tx, vk_R.warm hW h⟩
theorem P_X.same {X : pX} {base : Nat} {ex : Nat → Nat} {s U : State} {H : Heap} (hv : U.vm = s.vm) (h : P_X X base ex s H) : P_X X base ex U H := by
  have ha : s.vm.Alike U.vm := by rw [hv]; exact Vm.Alike.refl _
  obtain ⟨h1, h2, h3, h4, h5, h6, h7, h8, h9, h11, h12, h13, h14⟩ := h
  refine ⟨va_X.moved ha h1, h2, vk_S.moved ha h3, fun o i j hj => ?_, va_Zq.moved ha h5, va_Zq.moved ha h6, va_Z.moved ha h7, va_Z.moved ha h8, fun w hw => ?_, fun ci cj z1 z2 z3 => va_Nc.moved ha (h11 ci cj z1 z2 z3), P_LS.moved ha h12, P_LS.moved ha h13, fun w hw => ?_⟩
  rotate_left 2
  · rcases p_dc_form w hw with ⟨z, rfl⟩ | ⟨a, b, rfl⟩
    · exact va_Nw.same rfl hv.symm (h14 _ hw)
    · exact va_Nw.same rfl hv.symm (h14 _ hw)
  rotate_left
  · obtain ⟨a, b, c, d, rfl⟩ := p_nest_form w hw
    exact va_Nw.same rfl hv.symm (h9 _ hw)
  obtain ⟨tx, h⟩ := h4 o i j hj
  exact ⟨tx, vk_R.same hv h⟩
theorem P_X.kept {X : pX} {base : Nat} {ex : Nat → Nat} {U : State} {H0 H : Heap} {locs : List Loc} (h : P_X X base ex U H0) (hS : va_S (p_A base) H0 H locs) : P_X X base ex U H := by
  have hq : ∀ a : Nat, a < H0.size → ¬ p_A base a → H[a]? = H0[a]? := hS.2.1
  obtain ⟨h1, h2, h3, h4, h5, h6, h7, h8, h9, h11, h12, h13, h14⟩ := h
  refine ⟨va_X.kept h1 (hq _ ?_ (Nat.not_le.mpr h2)), h2, vk_S.kept h3 hq, h4, va_Zq.kept h5 hq, va_Zq.kept h6 hq, va_Z.kept h7 hq, va_Z.kept h8 hq, h9, h11, P_LS.kept h12 hq, P_LS.kept h13 hq, h14⟩
  obtain ⟨scr, h10, -⟩ := h1
  exact (Array.getElem?_eq_some_iff.mp h10).1
end
section
/-! ===== the context of a walked method, and its plain instructions ===== -/
abbrev c_T (cA : FieldType → ClassId) : List (ClassId × FieldType) := [(cA .int, .int), (cA .long, .long), (cA .boolean, .boolean)]
def P_C (X : pX) (D : va_G) (base : Nat) (ex : Nat → Nat) (cA : FieldType → ClassId) (p : Program) (s : State) (m : MethodId) (args : Array Value) (meth : Method) (c : Code) (mi : Nat) : Prop :=
  p.tables.exec = Jvm.exec ∧ c.code = p_bytes mi ∧ (∀ w ∈ lw_g, w.before args s = true) ∧ s.vm.findClass (p_cn (p_own mi)) = some m.cls ∧ meth.sig.returnType = p_rty mi ∧ c.maxLocals = p_maxL mi ∧ meth.locks = false ∧ (p_ctor mi = true → meth.name = "<init>") ∧ va_K D vwCl (c_T cA) s ∧ base ≤ s.heap.size ∧ P_X X base ex s s.heap ∧ c.exceptionTable.toList.map (fun h => (h.startPc, h.endPc, h.handlerPc, h.catchType)) = p_raw mi ∧ ∃ h00, P_R D base ex cA h00 s.heap
def p_sz : pE → Nat
  | .inl (_, a) => a.1
  | .inr (ci, _) => p_csl ci
def p_S : List pE → Nat
  | [] => 0
  | e :: t => p_sz e + p_S t
theorem p_S_app : ∀ (a b : List pE), p_S (a ++ b) = p_S a + p_S b := by
  intro a b
  induction a with
  | nil => simp [p_S]
  | cons e t ih => simp [p_S, ih, Nat.add_assoc]
theorem p_S_set : ∀ (h : List pE) (k : Nat) (e e0 : pE), h[k]? = some e0 → p_sz e = p_sz e0 → p_S (h.set k e) = p_S h := by
  intro h
  induction h with
  | nil => intro k e e0 hk; simp at hk
  | cons a t ih =>
    intro k e e0 hk hz
    cases k with
    | zero =>
      simp at hk
      subst hk
      simp [p_S, hz]
    | succ k =>
      simp at hk
      simp [p_S, ih k e e0 hk hz]
theorem p_new_ok {base : Nat} {ex : Nat → Nat} {o i ci : Nat} {fs : List Value} (h : p_new o i = some (ci, fs)) : ∃ C T N n, vwCl[ci]? = some (C, T, N) ∧ (∀ w ∈ u_ws C T N, w ∈ lw_g) ∧ (∀ k, k < N → parseFieldDescriptor (T k).2.2.1 = some (p_fty ci k)) ∧ Cond.classLink (p_cn o) i C ∈ lw_g ∧ Cond.instantiable C n ∈ lw_g ∧ Cond.initialized C ∈ lw_g ∧ (∀ j, j < N → defaultValue (p_fty ci j) = vp_V (fs.map (c_V base ex)) j) ∧ p_csl ci = n := by
  obtain ⟨⟨C, T, N⟩, h1, h2, h3, h4, h5, h6⟩ := p_all2_ok p_newA h
  obtain ⟨g1, g2, g3, g4, g5⟩ := p_cl_ok ci _ h1
  have hm : ∀ (l : List Value), (∀ v ∈ l, v = .null ∨ v = .int 0 ∨ v = .long 0) → l.map (c_V base ex) = l := by
    intro l
    induction l with
    | nil => intro _; rfl
    | cons v t ih =>
      intro hl
      rw [List.map_cons, ih (fun w hw => hl w (List.mem_cons_of_mem _ hw))]
      rcases hl v List.mem_cons_self with e | e | e <;> rw [e] <;> rfl
  have hm := hm fs h6
  exact ⟨C, T, N, _, h1, g1, g2, h2, h3, h4, by rw [hm]; exact h5, rfl⟩
section PS2
variable {p : Program} {l : Launch} {e : Env} {R : Room} {s : State} {m : MethodId} {args : Array Value} {below : List Frame} {meth : Method} {c : Code} {H : Heap} {locs : List Loc} {cells slots : Nat} {Q : State → Prop}
variable {D : va_G} {base : Nat} {ex : Nat → Nat} {cA : FieldType → ClassId} {X : pX} {lsA : Array Slot} {ls : pL} {h : List pE} {pc : Nat} {rest : List Value} {cc : ByteArray}
theorem c_T_arr (hK : va_K D vwCl (c_T cA) s) {ty : FieldType} (h : ty = .int ∨ ty = .long ∨ ty = .boolean) : ArrOfT s (cA ty) ty := by
  rcases h with rfl | rfl | rfl
  · exact (hK.2 0 _ rfl).1
  · exact (hK.2 1 _ rfl).1
  · exact (hK.2 2 _ rfl).1
theorem p_inI_arr {i : Int32} {n : Nat} {cI : ClassId} {f : Nat → Value} (h : p_inI i n) : ¬ (i < 0 ∨ (arrV cI n f).slots.size ≤ i.toNatClampNeg) := by
  rw [arrV_size]; exact h
theorem p_inI_lt {i : Int32} {n : Nat} (h : p_inI i n) : i.toNatClampNeg < n := Nat.not_le.mp fun q => h (Or.inr q)
/-- fields -/
theorem s_get (hx : p.tables.exec = Jvm.exec) (hb : c.code = cc) {own C : String} {T : u_T} {N ci index f k : Nat} (hts : ∀ w ∈ lw_g, w.before args s = true) (hin : ∀ w ∈ u_ws C T N, w ∈ lw_g) (hown : s.vm.findClass own = some m.cls) (hK : va_K D vwCl (c_T cA) s) (hP : P_R D base ex cA h H) {fs : List Value} (he : h[k]? = some (.inr (ci, fs))) (hc : vwCl[ci]? = some (C, T, N)) (hf : f < N) (hlink : Cond.fieldLink own index (T f).1 (T f).2.1 (T f).2.2.1 ∈ lw_g) {v : Value} (hv : fs[f]? = some v) (hd : decode cc pc = .ok (.getfield index, 3))
    (kk : W p l e R s m args below meth c H locs cells slots Q (F0 m (pc + 3) lsA (c_V base ex v :: rest))) : W p l e R s m args below meth c H locs cells slots Q (F0 m pc lsA (.ref (base + k) :: rest)) := by
  obtain ⟨r, h1, cell, q1, q2, q3, q4⟩ := hP.2 k _ he
  have hr : r = (C, T, N) := Option.some.inj (h1.symm.trans hc)
  subst hr
  obtain ⟨hS, hfc, kC, hkC, hkind⟩ := hK.1 ci _ hc
  obtain ⟨cf, kf, fi, fd, hi, hsl⟩ := hS f hf
  refine W.getf hx hb hown (hts _ hlink) hi (u_facts hfc hkC (u_lays hts hin hf) hi).1 q1 (by rw [q3]; exact fun h => by cases h) (v := c_V base ex v) ?_ rfl rfl hd kk
  rw [hsl, q4 f hf]
  simp [vp_V, hv]
theorem p_fits_ok {ty : FieldType} {v : Value} (h : p_fits ty v = true) : narrow ty (c_V base ex v) = c_V base ex v ∧ fits ty (c_V base ex v) = true := by
  cases ty <;> cases v <;> first | exact ⟨rfl, rfl⟩ | cases h
theorem s_put (hx : p.tables.exec = Jvm.exec) (hb : c.code = cc) {own C : String} {T : u_T} {N ci index f k : Nat} (hts : ∀ w ∈ lw_g, w.before args s = true) (hin : ∀ w ∈ u_ws C T N, w ∈ lw_g) (ty0 : Nat → FieldType) (hty : ∀ k, k < N → parseFieldDescriptor (T k).2.2.1 = some (ty0 k)) (hnm : ∀ a, a < N → ∀ b, b < N → a ≠ b → (T a).2.1 ≠ (T b).2.1) (hown : s.vm.findClass own = some m.cls) (hK : va_K D vwCl (c_T cA) s) (hP : P_R D base ex cA h H) (hS0 : va_S (p_A base) s.heap H locs) {fs : List Value} (he : h[k]? = some (.inr (ci, fs))) (hc : vwCl[ci]? = some (C, T, N)) (hf : f < N) (hlink : Cond.fieldLink own index (T f).1 (T f).2.1 (T f).2.2.1 ∈ lw_g) (hfin : (T f).2.2.2 = true → meth.name = "<init>" ∧ (T f).1 = own) {v : Value} (hfit : p_fits (ty0 f) v = true) (hl : f < fs.length) (hd : decode cc pc = .ok (.putfield index, 3))
    (kk : ∀ (H1 : Heap) (locs1 : List Loc), P_R D base ex cA (h.set k (.inr (ci, fs.set f v))) H1 → va_S (p_A base) s.heap H1 locs1 → W p l e R s m args below meth c H1 locs1 cells slots Q (F0 m (pc + 3) lsA rest)) : W p l e R s m args below meth c H locs cells slots Q (F0 m pc lsA (c_V base ex v :: .ref (base + k) :: rest)) := by
  have hap := va_apart (own := own) hts hin ty0 hty hnm hK hc
  obtain ⟨hn, hft⟩ := p_fits_ok (base := base) (ex := ex) hfit
  obtain ⟨r, h1, cell, q1, q2, q3, q4⟩ := hP.2 k _ he
  have hr : r = (C, T, N) := Option.some.inj (h1.symm.trans hc)
  subst hr
  obtain ⟨hS, hfc, kC, hkC, hkind⟩ := hK.1 ci _ hc
  obtain ⟨cf, kf, fi, fd, hi, hsl⟩ := hS f hf
  have hlay := hts _ (hin _ (u_in_lay hf))
  have hst := (u_facts hfc hkC (u_lays hts hin hf) hi).1
  have key : ∀ H' : Heap, H'[base + k]? = some (cell.setSlot (D.2 ci f) (c_V base ex v)) → H'.size = H.size → (∀ q, q ≠ base + k → H'[q]? = H[q]?) → W p l e R s m args below meth c H' (locs ++ [⟨base + k, D.2 ci f⟩]) cells slots Q (F0 m (pc + 3) lsA rest) := by
    intro H' e1 e2 e3
    refine kk H' _ (hP.set (e := .inr (ci, fs.set f v)) ?_ e2 e3) (hS0.put e2 e3 (Nat.le_add_right _ _))
    refine ⟨_, hc, t_OB.to (V := updV (vp_V (fs.map (c_V base ex))) f (c_V base ex v)) ⟨_, e1, q2, q3, t_set q4 hap hf _⟩ (fun j _ => ?_)⟩
    rw [vp_updV_set (by rw [List.length_map]; exact hl)]
    show vp_V ((fs.map (c_V base ex)).set f (c_V base ex v)) j = vp_V ((fs.set f v).map (c_V base ex)) j
    rw [List.map_set]
  unfold u_lay at hlay
  by_cases hF : (T f).2.2.2 = true
  · rw [if_pos hF] at hlay
    obtain ⟨hm1, hm2⟩ := hfin hF
    have hcf : m.cls = cf := by
      obtain ⟨_, _, c', _, _, _, -, -, hf', -, -, -, hown2, -⟩ := Cond.laysFinal_spec hlay
      have e1 : c' = cf := by have := hi.symm.trans hf'; simp at this; exact this.1.symm
      rw [hm2] at hown2
      rw [← e1]; exact Option.some.inj (hown.symm.trans hown2)
    have h6 := u_fits hfc hkC hkind (Or.inr hlay) hi (hty f hf) hn hft
    refine W.putFinK hx hb hown (hts _ hlink) hi hst hcf hm1 (by rw [q2]; exact h6) q1 q3 (by rw [hsl]; exact k2_hasslot (q4 f hf)) rfl rfl hd fun H' e1 e2 e3 => ?_
    rw [hsl] at e1 ⊢
    exact key H' e1 e2 e3
  · rw [if_neg hF] at hlay
    have h6 := u_store hfc hkC hkind hlay hi (hty f hf) hn hft
    refine W.putK hx hb (f := fd) ⟨hown, hts _ hlink, ⟨_, _, _, hi⟩, hst⟩ (by rw [q2]; exact h6) q1 q3 (by rw [hsl]; exact k2_hasslot (q4 f hf)) rfl rfl hd fun H' e1 e2 e3 => ?_
    rw [hsl] at e1 ⊢
    exact key H' e1 e2 e3
/-- arrays -/
theorem s_upi (cI : ClassId) (n : Nat) (f : Nat → Int32) (k : Nat) (x : Int32) : (arrV cI n (fun j => .int (f j))).setSlot k (.int x) = vp_cell cI (n, .inl (upd f k x)) := by
  rw [arrV_store, vp_cell_i]
  congr 1
  funext q
  by_cases hq : q = k
  · subst hq; simp [updV, upd]
  · simp [updV, upd, hq]
theorem s_upl (cI : ClassId) (n : Nat) (f : Nat → Int64) (k : Nat) (x : Int64) : (arrV cI n (fun j => .long (f j))).setSlot k (.long x) = vp_cell cI (n, .inr (.inl (vp_updL f k x))) := by
  rw [arrV_store, vp_cell_l]
  congr 1
  funext q
  by_cases hq : q = k
  · subst hq; simp [updV, vp_updL]
  · simp [updV, vp_updL, hq]
theorem s_iald (hx : p.tables.exec = Jvm.exec) (hb : c.code = cc) (hK : va_K D vwCl (c_T cA) s) (hP : P_R D base ex cA h H) {k n : Nat} {f : Nat → Int32} (he : h[k]? = some (.inl (.int, n, .inl f))) {i : Int32} (hi : p_inI i n) (hd : decode cc pc = .ok (.iaload, 1)) (kk : W p l e R s m args below meth c H locs cells slots Q (F0 m (pc + 1) lsA (.int (f i.toNatClampNeg) :: rest))) : W p l e R s m args below meth c H locs cells slots Q (F0 m pc lsA (.int i :: .ref (base + k) :: rest)) :=
  W.iald (v := .int (f i.toNatClampNeg)) hx hb (hP.2 k _ he) (c_T_arr hK (Or.inl rfl) n (fun j => .int (f j))) (fun q => by cases q) (p_inI_arr hi) (by show (arrV _ _ _).slots[_]? = _; rw [arrV_read _ _ (p_inI_lt hi)]) rfl rfl hd kk
theorem s_lald (hx : p.tables.exec = Jvm.exec) (hb : c.code = cc) (hK : va_K D vwCl (c_T cA) s) (hP : P_R D base ex cA h H) {k n : Nat} {f : Nat → Int64} (he : h[k]? = some (.inl (.long, n, .inr (.inl f)))) {i : Int32} (hi : p_inI i n) (hd : decode cc pc = .ok (.laload, 1)) (kk : W p l e R s m args below meth c H locs cells slots Q (F0 m (pc + 1) lsA (.long (f i.toNatClampNeg) :: rest))) : W p l e R s m args below meth c H locs cells slots Q (F0 m pc lsA (.int i :: .ref (base + k) :: rest)) :=
  W.lald (v := .long (f i.toNatClampNeg)) hx hb (hP.2 k _ he) (c_T_arr hK (Or.inr (Or.inl rfl)) n (fun j => .long (f j))) (fun q => by cases q) (p_inI_arr hi) (by show (arrV _ _ _).slots[_]? = _; rw [arrV_read _ _ (p_inI_lt hi)]) rfl rfl hd kk
theorem s_zald (hx : p.tables.exec = Jvm.exec) (hb : c.code = cc) (hK : va_K D vwCl (c_T cA) s) (hP : P_R D base ex cA h H) {k n : Nat} {f : Nat → Int32} (he : h[k]? = some (.inl (.boolean, n, .inl f))) {i : Int32} (hi : p_inI i n) (hd : decode cc pc = .ok (.baload, 1)) (kk : W p l e R s m args below meth c H locs cells slots Q (F0 m (pc + 1) lsA (.int (f i.toNatClampNeg) :: rest))) : W p l e R s m args below meth c H locs cells slots Q (F0 m pc lsA (.int i :: .ref (base + k) :: rest)) :=
  W.zald (v := .int (f i.toNatClampNeg)) hx hb (hP.2 k _ he) (c_T_arr hK (Or.inr (Or.inr rfl)) n (fun j => .int (f j))) (fun q => by cases q) (p_inI_arr hi) (by show (arrV _ _ _).slots[_]? = _; rw [arrV_read _ _ (p_inI_lt hi)]) rfl rfl hd kk
theorem s_iast (hx : p.tables.exec = Jvm.exec) (hb : c.code = cc) (hK : va_K D vwCl (c_T cA) s) (hP : P_R D base ex cA h H) (hS : va_S (p_A base) s.heap H locs) {k n : Nat} {f : Nat → Int32} (he : h[k]? = some (.inl (.int, n, .inl f))) {i x : Int32} (hi : p_inI i n) (hd : decode cc pc = .ok (.iastore, 1)) (kk : ∀ (H1 : Heap) (locs1 : List Loc), P_R D base ex cA (h.set k (.inl (.int, n, .inl (upd f i.toNatClampNeg x)))) H1 → va_S (p_A base) s.heap H1 locs1 → W p l e R s m args below meth c H1 locs1 cells slots Q (F0 m (pc + 1) lsA rest)) : W p l e R s m args below meth c H locs cells slots Q (F0 m pc lsA (.int x :: .int i :: .ref (base + k) :: rest)) := by
  refine W.iast hx hb (hP.2 k _ he) (c_T_arr hK (Or.inl rfl) n (fun j => .int (f j))) (fun q => by cases q) (p_inI_arr hi) rfl rfl hd fun H1 e1 z oq => ?_
  refine kk H1 _ (hP.set ?_ z oq) (hS.put z oq (Nat.le_add_right _ _))
  exact e1.trans (congrArg some (s_upi _ _ _ _ _))
theorem s_last (hx : p.tables.exec = Jvm.exec) (hb : c.code = cc) (hK : va_K D vwCl (c_T cA) s) (hP : P_R D base ex cA h H) (hS : va_S (p_A base) s.heap H locs) {k n : Nat} {f : Nat → Int64} (he : h[k]? = some (.inl (.long, n, .inr (.inl f)))) {i : Int32} {x : Int64} (hi : p_inI i n) (hd : decode cc pc = .ok (.lastore, 1)) (kk : ∀ (H1 : Heap) (locs1 : List Loc), P_R D base ex cA (h.set k (.inl (.long, n, .inr (.inl (vp_updL f i.toNatClampNeg x))))) H1 → va_S (p_A base) s.heap H1 locs1 → W p l e R s m args below meth c H1 locs1 cells slots Q (F0 m (pc + 1) lsA rest)) : W p l e R s m args below meth c H locs cells slots Q (F0 m pc lsA (.long x :: .int i :: .ref (base + k) :: rest)) := by
  refine W.last hx hb (hP.2 k _ he) (c_T_arr hK (Or.inr (Or.inl rfl)) n (fun j => .long (f j))) (fun q => by cases q) (p_inI_arr hi) rfl rfl hd fun H1 e1 z oq => ?_
  refine kk H1 _ (hP.set ?_ z oq) (hS.put z oq (Nat.le_add_right _ _))
  exact e1.trans (congrArg some (s_upl _ _ _ _ _))
theorem p_nar_z (x : Int32) : narrow .boolean (.int x) = .int (vp_nar .boolean x) := rfl
theorem s_zast (hx : p.tables.exec = Jvm.exec) (hb : c.code = cc) (hK : va_K D vwCl (c_T cA) s) (hP : P_R D base ex cA h H) (hS : va_S (p_A base) s.heap H locs) {k n : Nat} {f : Nat → Int32} (he : h[k]? = some (.inl (.boolean, n, .inl f))) {i x : Int32} (hi : p_inI i n) (hd : decode cc pc = .ok (.bastore, 1)) (kk : ∀ (H1 : Heap) (locs1 : List Loc), P_R D base ex cA (h.set k (.inl (.boolean, n, .inl (upd f i.toNatClampNeg (vp_nar .boolean x))))) H1 → va_S (p_A base) s.heap H1 locs1 → W p l e R s m args below meth c H1 locs1 cells slots Q (F0 m (pc + 1) lsA rest)) : W p l e R s m args below meth c H locs cells slots Q (F0 m pc lsA (.int x :: .int i :: .ref (base + k) :: rest)) := by
  refine W.zast hx hb (hP.2 k _ he) (c_T_arr hK (Or.inr (Or.inr rfl)) n (fun j => .int (f j))) (fun q => by cases q) (p_inI_arr hi) rfl rfl hd fun H1 e1 z oq => ?_
  refine kk H1 _ (hP.set ?_ z oq) (hS.put z oq (Nat.le_add_right _ _))
  exact e1.trans (congrArg some (s_upi _ _ _ _ _))
theorem s_alen (hx : p.tables.exec = Jvm.exec) (hb : c.code = cc) (hK : va_K D vwCl (c_T cA) s) (hP : P_R D base ex cA h H) {k : Nat} {ty : FieldType} {a : vp_A} (he : h[k]? = some (.inl (ty, a))) (hty : ty = .int ∨ ty = .long ∨ ty = .boolean) (hd : decode cc pc = .ok (.arraylength, 1)) (kk : W p l e R s m args below meth c H locs cells slots Q (F0 m (pc + 1) lsA (.int (Int32.ofNat a.1) :: rest))) : W p l e R s m args below meth c H locs cells slots Q (F0 m pc lsA (.ref (base + k) :: rest)) := by
  have hA := c_T_arr hK hty
  obtain ⟨n, f⟩ := a
  have hc : ∃ z : Nat → Value, vp_cell (cA ty) (n, f) = arrV (cA ty) n z := by
    rcases f with f | f | f | f | f <;> first | exact ⟨_, vp_cell_i _ _ _⟩ | exact ⟨_, vp_cell_l _ _ _⟩ | exact ⟨_, vp_cell_f _ _ _⟩ | exact ⟨_, vp_cell_d _ _ _⟩ | exact ⟨_, vp_cell_q _ _ _⟩
  obtain ⟨z, hz⟩ := hc
  have hh : H[base + k]? = some (arrV (cA ty) n z) := by rw [← hz]; exact hP.2 k _ he
  exact W.alen hx hb hh (hA n z) (by rw [arrV_size]) rfl rfl hd kk
theorem s_newa (hx : p.tables.exec = Jvm.exec) (hb : c.code = cc) (hK : va_K D vwCl (c_T cA) s) (hP : P_R D base ex cA h H) (hS : va_S (p_A base) s.heap H locs) {t : ArrayType} {ty : FieldType} (ht : newarray.typeOf t = ty) (hcA : s.vm.findClass ("[" ++ ty.toString) = some (cA ty)) (harr : (Cond.arrayClass ty).before args s = true) {n : Int32} {a0 : vp_A} (ha : ∀ cI : ClassId, vp_cell cI a0 = arrV cI n.toNatClampNeg (fun _ => defaultValue ty)) (hn : ¬ n < 0) (hbytes : n.toNatClampNeg * componentBytes ty ≤ 536870912) (hcells : cells + 1 ≤ R.cells) (hslots : slots + n.toNatClampNeg ≤ R.slots) (hd : decode cc pc = .ok (.newarray t, 2))
    (kk : ∀ H1 : Heap, P_R D base ex cA (h ++ [.inl (ty, a0)]) H1 → va_S (p_A base) s.heap H1 locs → W p l e R s m args below meth c H1 locs (cells + 1) (slots + n.toNatClampNeg) Q (F0 m (pc + 2) lsA (.ref (base + h.length) :: rest))) : W p l e R s m args below meth c H locs cells slots Q (F0 m pc lsA (.int n :: rest)) := by
  subst ht
  refine va_newaK hx hb harr rfl hd rfl hn rfl hbytes hcells hslots (h := base + h.length) hP.1 (fun H1 cI e1 e2 e3 _ e5 => ?_)
  have hcI : cI = cA (newarray.typeOf t) := Option.some.inj (e5.symm.trans hcA)
  subst hcI
  refine kk H1 (hP.push ?_ (by rw [e2, hP.1]) (fun q hq => e3 q (by rw [← hP.1]; exact hq))) ⟨?_, fun q h1 h2 => ?_, hS.2.2⟩
  · show H1[base + h.length]? = some (vp_cell _ _)
    rw [ha]
    exact e1
  · rw [e2, ← hP.1]
    exact Nat.le_succ_of_le hS.1
  · rw [e3 q (by rw [← hP.1]; exact Nat.lt_of_lt_of_le h1 hS.1)]
    exact hS.2.1 q h1 h2
theorem s_new (hx : p.tables.exec = Jvm.exec) (hb : c.code = cc) {own C : String} {T : u_T} {N ci index n : Nat} (hts : ∀ w ∈ lw_g, w.before args s = true) (hin : ∀ w ∈ u_ws C T N, w ∈ lw_g) (ty0 : Nat → FieldType) (hty : ∀ k, k < N → parseFieldDescriptor (T k).2.2.1 = some (ty0 k)) (hown : s.vm.findClass own = some m.cls) (hK : va_K D vwCl (c_T cA) s) (hP : P_R D base ex cA h H) (hS : va_S (p_A base) s.heap H locs) (hc : vwCl[ci]? = some (C, T, N)) (hcl : Cond.classLink own index C ∈ lw_g) (hins : Cond.instantiable C n ∈ lw_g) (hini : Cond.initialized C ∈ lw_g) {fs : List Value} (hfs : ∀ j, j < N → defaultValue (ty0 j) = vp_V (fs.map (c_V base ex)) j) (hcells : cells + 1 ≤ R.cells) (hslots : slots + n ≤ R.slots) (hd : decode cc pc = .ok (.new index, 3))
    (kk : ∀ H1 : Heap, P_R D base ex cA (h ++ [.inr (ci, fs)]) H1 → va_S (p_A base) s.heap H1 locs → W p l e R s m args below meth c H1 locs (cells + 1) (slots + n) Q (F0 m (pc + 3) lsA (.ref (base + h.length) :: rest))) : W p l e R s m args below meth c H locs cells slots Q (F0 m pc lsA rest) := by
  have hKn := hK.1 ci _ hc
  refine W.newcK hx hb hown (hts _ hcl) (hts _ hins) (hts _ hini) rfl hd hcells hslots (h := base + h.length) hKn.2.1 hP.1 (fun H1 kC hkC e1 e2 e3 => ?_)
  refine kk H1 (hP.push ?_ (by rw [e2, hP.1]) (fun q hq => e3 q (by rw [← hP.1]; exact hq))) ⟨?_, fun q h1 h2 => ?_, hS.2.2⟩
  · exact ⟨_, hc, (u_born ty0 hts hin hKn hkC e1 hty).to hfs⟩
  · rw [e2, ← hP.1]
    exact Nat.le_succ_of_le hS.1
  · rw [e3 q (by rw [← hP.1]; exact Nat.lt_of_lt_of_le h1 hS.1)]
    exact hS.2.1 q h1 h2
end PS2
end
section
/-! what a turn of the pure machine was -/
theorem p_if_inv {α : Type} {C : Prop} {a : Option α} {r : α} (h : p_if C a none = some r) : C ∧ a = some r := by
  by_cases hC : C
  · rw [p_if_t hC] at h; exact ⟨hC, h⟩
  · rw [p_if_f hC] at h; cases h
def P_call (f : pF) (d mi pc : Nat) (ls : pL) (st : List Value) (h : List pE) (r : pR) (ins : Instr) (len : Nat) : Prop :=
  ∃ (cm na d' : Nat) (as rest : List Value) (q : (Option Value) ⊕ Nat) (h1 : List pE), p_calls mi ins = some (cm, na) ∧ d = d' + 1 ∧ p_pop na [] st = some (as, rest) ∧ p_recv cm as h = true ∧ p_words rest ≤ 8 ∧ len = 3 ∧ f d' cm 0 (p_in0 cm as) [] h = some (q, h1) ∧
    ((∃ v, q = .inl v ∧ f d mi (pc + 3) ls (v.toList ++ rest) h1 = some r) ∨ (∃ k, q = .inr k ∧ ((∃ t, p_hdl mi pc k h1 = some t ∧ f d mi t ls [.ref k] h1 = some r) ∨ (p_hdl mi pc k h1 = none ∧ p_hh mi = [] ∧ r = (.inr k, h1)))))
def P_turn (X : pX) (f : pF) (d mi pc : Nat) (ls : pL) (st : List Value) (h : List pE) (r : pR) (ins : Instr) (len : Nat) : Prop :=
  P_call f d mi pc ls st h r ins len ∨
  (∃ (v : Option Value) (C : Prop), p_ret mi ins st = some (v, C) ∧ C ∧ r = (.inl v, h)) ∨
  (∃ (c : Prop) (t e : Nat) (r' : List Value) (C : Prop), p_jmp pc ins st = some (c, t, e, r', C) ∧ C ∧ ((c ∧ f d mi t ls r' h = some r) ∨ (¬ c ∧ f d mi e ls r' h = some r))) ∨
  (∃ (t : Nat) (r' : List Value) (C : Prop), p_swi pc ins st = some (t, r', C) ∧ C ∧ f d mi t ls r' h = some r) ∨
  (∃ ci : Nat, p_thr mi pc ins = some ci ∧ (8 ≤ d ∧ p_words st ≤ 4 ∧ p_hh mi = []) ∧ r = (.inr h.length, h ++ [.inr (ci, [])])) ∨
  (∃ (pc' : Nat) (ls' : pL) (st' : List Value) (h' : List pE) (C : Prop), p_step X d mi pc ls st h ins len = some ((pc', ls', st', h'), C) ∧ C ∧ f d mi pc' ls' st' h' = some r)
theorem p_F_inv (X : pX) {f : pF} {d mi pc : Nat} {ls : pL} {st : List Value} {h : List pE} {r : pR} (hh : p_F X f d mi pc ls st h = some r) : ∃ ins len, p_code mi pc = some (ins, len) ∧ P_turn X f d mi pc ls st h r ins len := by
  unfold p_F at hh
  cases hc : p_code mi pc with
  | none => rw [hc] at hh; cases hh
  | some q =>
    obtain ⟨ins, len⟩ := q
    refine ⟨ins, len, rfl, ?_⟩
    rw [hc] at hh
    dsimp only at hh
    cases h1 : p_calls mi ins with
    | some q =>
      obtain ⟨cm, na⟩ := q
      rw [h1] at hh
      dsimp only at hh
      cases d with
      | zero => cases hh
      | succ d' =>
        dsimp only at hh
        cases h2 : p_pop na [] st with
        | none => rw [h2] at hh; cases hh
        | some q =>
          obtain ⟨as, rest⟩ := q
          rw [h2] at hh
          dsimp only at hh
          cases h3 : (p_recv cm as h && Nat.ble (p_words rest) 8 && Nat.beq len 3) with
          | false => rw [h3] at hh; cases hh
          | true =>
            rw [h3] at hh
            dsimp only [cond_true] at hh
            rw [Bool.and_eq_true, Bool.and_eq_true] at h3
            cases h4 : f d' cm 0 (p_in0 cm as) [] h with
            | none => rw [h4] at hh; cases hh
            | some q =>
              rw [h4] at hh
              obtain ⟨q1, h5⟩ := q
              refine Or.inl ⟨cm, na, d', as, rest, q1, h5, h1, rfl, h2, h3.1.1, Nat.le_of_ble_eq_true h3.1.2, Nat.eq_of_beq_eq_true h3.2, h4, ?_⟩
              cases q1 with
              | inl v => exact Or.inl ⟨v, rfl, hh⟩
              | inr k =>
                dsimp only at hh
                refine Or.inr ⟨k, rfl, ?_⟩
                cases h6 : p_hdl mi pc k h5 with
                | none =>
                  rw [h6] at hh
                  obtain ⟨g1, g2⟩ := p_if_inv hh
                  cases g2
                  exact Or.inr ⟨rfl, g1, rfl⟩
                | some t => rw [h6] at hh; exact Or.inl ⟨t, rfl, hh⟩
    | none =>
      rw [h1] at hh
      dsimp only at hh
      cases h2 : p_ret mi ins st with
      | some q =>
        obtain ⟨v, C⟩ := q
        rw [h2] at hh
        dsimp only at hh
        obtain ⟨hC, hr⟩ := p_if_inv hh
        cases hr
        exact Or.inr (Or.inl ⟨v, C, h2, hC, rfl⟩)
      | none =>
        rw [h2] at hh
        dsimp only at hh
        cases h3 : p_jmp pc ins st with
        | some q =>
          obtain ⟨c, t, e, r', C⟩ := q
          rw [h3] at hh
          dsimp only at hh
          obtain ⟨hC, hr⟩ := p_if_inv hh
          refine Or.inr (Or.inr (Or.inl ⟨c, t, e, r', C, h3, hC, ?_⟩))
          by_cases hq : c
          · rw [p_if_t hq] at hr; exact Or.inl ⟨hq, hr⟩
          · rw [p_if_f hq] at hr; exact Or.inr ⟨hq, hr⟩
        | none =>
          rw [h3] at hh
          dsimp only at hh
          cases h4 : p_swi pc ins st with
          | some q =>
            obtain ⟨t, r', C⟩ := q
            rw [h4] at hh
            dsimp only at hh
            obtain ⟨hC, hr⟩ := p_if_inv hh
            exact Or.inr (Or.inr (Or.inr (Or.inl ⟨t, r', C, h4, hC, hr⟩)))
          | none =>
            rw [h4] at hh
            dsimp only at hh
            cases h6 : p_thr mi pc ins with
            | some ci =>
              rw [h6] at hh
              dsimp only at hh
              obtain ⟨hC, hr⟩ := p_if_inv hh
              cases hr
              exact Or.inr (Or.inr (Or.inr (Or.inr (Or.inl ⟨ci, h6, hC, rfl⟩))))
            | none =>
              rw [h6] at hh
              dsimp only at hh
              cases h5 : p_step X d mi pc ls st h ins len with
              | none => rw [h5] at hh; cases hh
              | some q =>
                obtain ⟨⟨pc', ls', st', h'⟩, C⟩ := q
                rw [h5] at hh
                dsimp only at hh
                obtain ⟨hC, hr⟩ := p_if_inv hh
                exact Or.inr (Or.inr (Or.inr (Or.inr (Or.inr ⟨pc', ls', st', h', C, h5, hC, hr⟩))))
/-! the cells only grow -/
theorem p_fput_ok {h h' : List pE} {k ci f : Nat} {v : Value} (hh : p_fput h k ci f v = some h') : ∃ fs, h[k]? = some (.inr (ci, fs)) ∧ f < fs.length ∧ h' = h.set k (.inr (ci, fs.set f v)) := by
  unfold p_fput at hh
  split at hh
  · next cj fs he =>
    cases hc : (Nat.beq ci cj && Nat.blt f fs.length) with
    | false => rw [hc] at hh; cases hh
    | true =>
      rw [hc] at hh
      rw [Bool.and_eq_true] at hc
      cases hh
      have e1 : ci = cj := Nat.eq_of_beq_eq_true hc.1
      subst e1
      exact ⟨fs, he, Nat.le_of_ble_eq_true hc.2, rfl⟩
  · cases hh
theorem p_fget_ok {h : List pE} {k ci f : Nat} {v : Value} (hh : p_fget h k ci f = some v) : ∃ fs, h[k]? = some (.inr (ci, fs)) ∧ fs[f]? = some v := by
  unfold p_fget at hh
  split at hh
  · next cj fs he =>
    cases hc : Nat.beq ci cj with
    | false => rw [hc] at hh; cases hh
    | true =>
      rw [hc] at hh
      have e1 : ci = cj := Nat.eq_of_beq_eq_true hc
      subst e1
      exact ⟨fs, he, hh⟩
  · cases hh
theorem p_blt {a b : Nat} (h : Nat.blt a b = true) : a < b := Nat.le_of_ble_eq_true h
theorem p_aty_ok {ty : FieldType} (h : p_aty ty = true) : ty = .int ∨ ty = .long ∨ ty = .boolean := by
  cases ty <;> simp_all [p_aty]
def p_le (h h' : List pE) : Prop := h.length ≤ h'.length ∧ p_S h ≤ p_S h'
theorem p_le_rf (h : List pE) : p_le h h := ⟨Nat.le_refl _, Nat.le_refl _⟩
theorem p_le_tr {a b c : List pE} (h1 : p_le a b) (h2 : p_le b c) : p_le a c := ⟨Nat.le_trans h1.1 h2.1, Nat.le_trans h1.2 h2.2⟩
theorem p_le_set {h : List pE} {k : Nat} {e e0 : pE} (h0 : h[k]? = some e0) (hz : p_sz e = p_sz e0) : p_le h (h.set k e) := ⟨by rw [List.length_set]; exact Nat.le_refl _, by rw [p_S_set h k e e0 h0 hz]; exact Nat.le_refl _⟩
theorem p_le_app (h b : List pE) : p_le h (h ++ b) := ⟨by rw [List.length_append]; exact Nat.le_add_right _ _, by rw [p_S_app]; exact Nat.le_add_right _ _⟩
set_option maxHeartbeats 4000000 in
theorem p_step_le {X : pX} {d mi pc pc' len : Nat} {ls ls' : pL} {st st' : List Value} {h h' : List pE} {ins : Instr} {C : Prop} (hs : p_step X d mi pc ls st h ins len = some ((pc', ls', st', h'), C)) : p_le h h' := by
  unfold p_step at hs
  simp only [cond_eq_ite] at hs
  split at hs
  all_goals (repeat' (first | (cases hs; exact p_le_rf _) | (cases hs; done) | (cases hs; exact p_le_app _ _) | (cases hs; rename_i heq; exact p_le_set heq rfl) | (cases hs; obtain ⟨fs, g1, g2, g3⟩ := p_fput_ok (by assumption); subst g3; exact p_le_set g1 rfl) | split at hs))
theorem p_ex_grow (X : pX) : ∀ (n d mi pc : Nat) (ls : pL) (st : List Value) (h : List pE) (r : pR), p_ex X n d mi pc ls st h = some r → p_le h r.2 := by
  intro n
  induction n with
  | zero => intro d mi pc ls st h r hh; cases hh
  | succ n ih =>
    intro d mi pc ls st h r hh
    obtain ⟨ins, len, hc, ht⟩ := p_F_inv X hh
    rcases ht with ⟨cm, na, d', as, rest, q, h1, -, -, -, -, -, -, h8, h9⟩ | ⟨v, C, -, -, h3⟩ | ⟨c, t, e, r', C, -, -, h3⟩ | ⟨t, r', C, -, -, h3⟩ | ⟨ci, -, -, h3⟩ | ⟨pc', ls', st', h', C, h1, -, h3⟩
    · have g := ih _ _ _ _ _ _ _ h8
      rcases h9 with ⟨v, -, h10⟩ | ⟨k, -, ⟨t, -, h10⟩ | ⟨-, -, h10⟩⟩
      · exact p_le_tr g (ih _ _ _ _ _ _ _ h10)
      · exact p_le_tr g (ih _ _ _ _ _ _ _ h10)
      · rw [h10]; exact g
    · rw [h3]; exact p_le_rf _
    · rcases h3 with ⟨-, h3⟩ | ⟨-, h3⟩ <;> exact ih _ _ _ _ _ _ _ h3
    · exact ih _ _ _ _ _ _ _ h3
    · rw [h3]; exact p_le_app _ _
    · exact p_le_tr (p_step_le h1) (ih _ _ _ _ _ _ _ h3)
end
section
/-! ===== literals and Object's own constructor ===== -/
theorem p_oi : Cond.instanceMethod Lib.objectInit ∈ lw_g := p_t 28 (by decide +kernel)
theorem p_oc : Cond.code Lib.objectInit ⟨#[0xb1]⟩ 1 none ∈ lw_g := p_t 29 (by decide +kernel)
theorem p_lenL_eq (j : Nat) : p_lenL.getD j 0 = p_slen j := by
  unfold p_lenL p_slen
  rw [List.getD_eq_getElem?_getD, List.getD_eq_getElem?_getD, List.getElem?_map]
  cases p_litL[j]? <;> rfl
section PEX
variable {p : Program} {l : Launch} {e : Env} {R : Room} {s : State} {m : MethodId} {args : Array Value} {below : List Frame} {meth : Method} {c : Code} {H : Heap} {locs : List Loc} {cells slots : Nat} {Q : State → Prop}
variable {D : va_G} {base : Nat} {ex : Nat → Nat} {cA : FieldType → ClassId} {X : pX} {lsA : Array Slot} {ls : pL} {pc d mi o i j : Nat} {rest : List Value} {cc : ByteArray}
theorem s_ldcS (hx : p.tables.exec = Jvm.exec) (hb : c.code = cc) (hown : s.vm.findClass (p_cn o) = some m.cls) (hX : P_X X base ex s s.heap) (hj : p_str o i = some j) (hd : decode cc pc = .ok (.ldc i, 2)) (kk : W p l e R s m args below meth c H locs cells slots Q (F0 m (pc + 2) lsA (.ref (ex (j + 1)) :: rest))) : W p l e R s m args below meth c H locs cells slots Q (F0 m pc lsA rest) := by
  obtain ⟨tx, h⟩ := hX.2.2.2.1 _ _ _ hj
  exact va_ldcS hx hb hown h hd kk
theorem p_room0 (h : p_words rest ≤ 8) : 2 * (F0 m pc lsA (rest.map (c_V base ex))).monitorRoom + ((rest.map (c_V base ex)).map fun v => v.category).sum ≤ 8 := by
  have e : ((rest.map (c_V base ex)).map fun v => v.category).sum = p_words rest := by
    clear h
    induction rest with
    | nil => rfl
    | cons v t ih =>
      simp only [List.map_cons, List.sum_cons, ih, c_V_cat]
      cases v <;> simp [p_words, Value.category] <;> omega
  exact lv_room (by rw [e]; exact h)
theorem s_objInit (hx : p.tables.exec = Jvm.exec) (hb : c.code = cc) (hts : ∀ w ∈ lw_g, w.before args s = true) (hown : s.vm.findClass (p_cn o) = some m.cls) (hml : c.maxLocals = p_maxL mi) (hL : P_L base ex (p_maxL mi) ls lsA) (hlink : Cond.methodLink (p_cn o) i Lib.objectInit ∈ lw_g) (hR : d ≤ R.frames ∧ 60 * d ≤ R.locals) (hC : 1 ≤ d ∧ p_words rest ≤ 8) {k : Nat} (hd : decode cc pc = .ok (.invokespecial i, 3)) (kk : W p l e R s m args below meth c H locs cells slots Q (F0 m (pc + 3) lsA (rest.map (c_V base ex)))) : W p l e R s m args below meth c H locs cells slots Q (F0 m pc lsA (.ref k :: rest.map (c_V base ex))) := by
  have h8 := p_room0 (m := m) (pc := pc) (lsA := lsA) (base := base) (ex := ex) hC.2
  have h9 : 2 * (F0 m pc lsA (.ref k :: rest.map (c_V base ex))).monitorRoom + ((rest.map (c_V base ex)).map fun v => v.category).sum ≤ 8 := h8
  exact W.objInit hx hb hown (hts _ hlink) (hts _ p_oi) (hts _ p_oc) rfl (by rw [hml]; exact hL.2.1) rfl hd (by omega) (by omega) kk
end PEX
end
section
/-! ===== the step into a callee ===== -/
/-- from the frame g (its arguments popped: 'rest'), one step noted in the tables, the callee's body follows -/
def P_go (p : Program) (l : Launch) (e : Env) (R : Room) (s : State) (m : MethodId) (args : Array Value) (below : List Frame) (meth : Method) (c : Code) (T : State) (locs : List Loc) (cells slots : Nat) (g : JFrame) (rest : List Value) (y : MethodName) (a : Array Value) : Prop :=
  ∃ (mk : MethodId) (vm₁ : Vm), s.methodNamed? y = some mk ∧ Stand p l e R s m args below meth c (T.setVm vm₁) locs cells slots ∧ ∀ target, (∀ acts, Steps p.tables e below (doInvoke e ((T.setVm vm₁).setTop { g with stack := rest }) acts mk a).1 target) → Steps p.tables e below (T.setTop g) target
section PIN
variable {p : Program} {l : Launch} {e : Env} {R : Room} {s : State} {m : MethodId} {args : Array Value} {below : List Frame} {meth : Method} {c : Code} {T : State} {locs : List Loc} {cells slots : Nat}
theorem i_virt (X : Stand p l e R s m args below meth c T locs cells slots) (hexec : p.tables.exec = Jvm.exec) {own C : String} {index : Nat} {y : MethodName} (hown : s.vm.findClass own = some m.cls) (hlink : (Cond.methodLink own index y).before args s = true) (hinst : (Cond.instanceMethod y).before args s = true) (hsel : (Cond.selects C y y).before args s = true)
    (hy : y.cls ≠ "java/lang/invoke/MethodHandle" ∧ y.cls ≠ "java/lang/invoke/VarHandle") {b : Addr} {cellB : Cell} (hcell : T.heap[b]? = some cellB) (hobj : cellB.vm.isStatics = false) (hcls : s.vm.findClass C = some cellB.cls)
    {g : JFrame} (hg : g.method = m) {argsL rest : List Value} (hlen : ∀ mk methM, s.methodNamed? y = some mk → s.vm.method? mk = some methM → argsL.length = methM.sig.parameters.length) (hstack : g.stack = argsL.reverse ++ .ref b :: rest) (hdg : decode c.code g.pc = .ok (.invokevirtual index, 3)) :
    P_go p l e R s m args below meth c T locs cells slots g rest y (Value.ref b :: argsL).toArray := by
  obtain ⟨mk, methM, hnamed, hmethM, hstM, habM⟩ := Cond.instanceMethod_spec hinst
  obtain ⟨c2, r2, m2, q1, q2, q3, q4, kP, hkP, hkPi⟩ := Cond.selects_spec hsel
  cases hcls.symm.trans q1
  cases (State.methodFound?_of_named hnamed hy).symm.trans q2
  cases hnamed.symm.trans q3
  have hselP : selectMethod e.platform s.vm cellB.cls mk = .method mk := by rw [Launch.admits_selectMethod X.admits]; exact q4
  obtain ⟨vm₁, X₁, hstep₁⟩ := X.invokevirtual hexec hown hlink hnamed hmethM hstM hkP hkPi hy (a := b) (cell := cellB) hcell
    (fun z h => by rw [h] at hobj; cases hobj) hselP hmethM habM hkP hkPi (g := g) hg (argsL := argsL) (rest := rest) (hlen _ _ hnamed hmethM) hstack hdg
  exact ⟨mk, vm₁, hnamed, X₁, hstep₁⟩
theorem i_virtN (X : Stand p l e R s m args below meth c T locs cells slots) (hexec : p.tables.exec = Jvm.exec) {own C host : String} {index : Nat} {y : MethodName} (hown : s.vm.findClass own = some m.cls) (hlink : (Cond.methodLinkNest own index y host).before args s = true) (hinst : (Cond.instanceMethod y).before args s = true) (hsel : (Cond.selects C y y).before args s = true)
    (hy : y.cls ≠ "java/lang/invoke/MethodHandle" ∧ y.cls ≠ "java/lang/invoke/VarHandle") {b : Addr} {cellB : Cell} (hcell : T.heap[b]? = some cellB) (hobj : cellB.vm.isStatics = false) (hcls : s.vm.findClass C = some cellB.cls)
    {g : JFrame} (hg : g.method = m) {argsL rest : List Value} (hlen : ∀ mk methM, s.methodNamed? y = some mk → s.vm.method? mk = some methM → argsL.length = methM.sig.parameters.length) (hstack : g.stack = argsL.reverse ++ .ref b :: rest) (hdg : decode c.code g.pc = .ok (.invokevirtual index, 3)) :
    P_go p l e R s m args below meth c T locs cells slots g rest y (Value.ref b :: argsL).toArray := by
  obtain ⟨mk, methM, hnamed, hmethM, hstM, habM⟩ := Cond.instanceMethod_spec hinst
  obtain ⟨c2, r2, m2, q1, q2, q3, q4, kP, hkP, hkPi⟩ := Cond.selects_spec hsel
  cases hcls.symm.trans q1
  cases (State.methodFound?_of_named hnamed hy).symm.trans q2
  cases hnamed.symm.trans q3
  have hselP : selectMethod e.platform s.vm cellB.cls mk = .method mk := by rw [Launch.admits_selectMethod X.admits]; exact q4
  obtain ⟨vm₁, X₁, hstep₁⟩ := X.invokevirtualNest hexec hown hlink hnamed hmethM hstM hkP hkPi hy (a := b) (cell := cellB) hcell
    (fun z h => by rw [h] at hobj; cases hobj) hselP hmethM habM hkP hkPi (g := g) hg (argsL := argsL) (rest := rest) (hlen _ _ hnamed hmethM) hstack hdg
  exact ⟨mk, vm₁, hnamed, X₁, hstep₁⟩
theorem i_stat (X : Stand p l e R s m args below meth c T locs cells slots) (hexec : p.tables.exec = Jvm.exec) {own : String} {index : Nat} {y : MethodName} (hown : s.vm.findClass own = some m.cls) (hlink : (Cond.methodLink own index y).before args s = true) (hstat : (Cond.static y).before args s = true) (hinit : (Cond.initialized y.cls).before args s = true)
    (hy : y.cls ≠ "java/lang/invoke/MethodHandle" ∧ y.cls ≠ "java/lang/invoke/VarHandle") {mk : MethodId} {methM : Method} (hnamed : s.methodNamed? y = some mk) (hmethM : s.vm.method? mk = some methM)
    {g : JFrame} (hg : g.method = m) {argsL rest : List Value} (hlen : argsL.length = methM.sig.parameters.length) (hstack : g.stack = argsL.reverse ++ rest) (hdg : decode c.code g.pc = .ok (.invokestatic index, 3)) :
    P_go p l e R s m args below meth c T locs cells slots g rest y argsL.toArray := by
  have hstatic : methM.isStatic = true := Cond.static_spec hnamed hmethM hstat
  obtain ⟨kP, hkP, -⟩ := className_of_methodNamed hnamed
  have hinitP : kP.init = .initialized := Cond.initialized_spec (findClass_of_methodNamed hnamed) hkP hinit
  obtain ⟨vm₁, X₁, hstep₁⟩ := X.invokestatic hexec hown hlink hnamed hmethM hstatic hkP hinitP hy (g := g) hg (argsL := argsL) (rest := rest) hlen hstack hdg
  exact ⟨mk, vm₁, hnamed, X₁, hstep₁⟩
theorem i_statN (X : Stand p l e R s m args below meth c T locs cells slots) (hexec : p.tables.exec = Jvm.exec) {own host : String} {index : Nat} {y : MethodName} (hown : s.vm.findClass own = some m.cls) (hlink : (Cond.methodLinkNest own index y host).before args s = true) (hstat : (Cond.static y).before args s = true) (hinit : (Cond.initialized y.cls).before args s = true)
    (hy : y.cls ≠ "java/lang/invoke/MethodHandle" ∧ y.cls ≠ "java/lang/invoke/VarHandle") {mk : MethodId} {methM : Method} (hnamed : s.methodNamed? y = some mk) (hmethM : s.vm.method? mk = some methM)
    {g : JFrame} (hg : g.method = m) {argsL rest : List Value} (hlen : argsL.length = methM.sig.parameters.length) (hstack : g.stack = argsL.reverse ++ rest) (hdg : decode c.code g.pc = .ok (.invokestatic index, 3)) :
    P_go p l e R s m args below meth c T locs cells slots g rest y argsL.toArray := by
  have hstatic : methM.isStatic = true := Cond.static_spec hnamed hmethM hstat
  obtain ⟨kP, hkP, -⟩ := className_of_methodNamed hnamed
  have hinitP : kP.init = .initialized := Cond.initialized_spec (findClass_of_methodNamed hnamed) hkP hinit
  obtain ⟨vm₁, X₁, hstep₁⟩ := X.invokestaticNest hexec hown hlink hnamed hmethM hstatic hkP hinitP hy (g := g) hg (argsL := argsL) (rest := rest) hlen hstack hdg
  exact ⟨mk, vm₁, hnamed, X₁, hstep₁⟩
theorem i_init (X : Stand p l e R s m args below meth c T locs cells slots) (hexec : p.tables.exec = Jvm.exec) {own : String} {index : Nat} {y : MethodName} {bytes : ByteArray} {maxL : Nat} (hown : s.vm.findClass own = some m.cls) (hy1 : y.name = "<init>") (hlink : (Cond.methodLink own index y).before args s = true) (hinst : (Cond.instanceMethod y).before args s = true)
    (hcode : (Cond.code y bytes maxL none).before args s = true) (hy : y.cls ≠ "java/lang/invoke/MethodHandle" ∧ y.cls ≠ "java/lang/invoke/VarHandle")
    {g : JFrame} (hg : g.method = m) {a : Addr} {argsL rest : List Value} (hlen : ∀ sig, parseMethodDescriptor y.desc = some sig → argsL.length = sig.parameters.length) (hstack : g.stack = argsL.reverse ++ .ref a :: rest) (hdg : decode c.code g.pc = .ok (.invokespecial index, 3)) :
    P_go p l e R s m args below meth c T locs cells slots g rest y (Value.ref a :: argsL).toArray := by
  subst hg
  have hpl : e.platform.magicAccessors = ({} : Platform).magicAccessors := by rw [X.admits.platform]
  obtain ⟨mk, methM, cM, kP, vm₁, hnamed, hmethM, hcodeM, -, hlocalsM, -, hkP, -, hW₁, hstep₁⟩ := Steps.initColdArgs (e := e) X.here hexec X.warmed hpl hown hy1 hy hlink hinst hcode (f := g) rfl hlen hstack hdg
  exact ⟨mk, vm₁, hnamed, X.noted hW₁, hstep₁⟩
theorem i_initN (X : Stand p l e R s m args below meth c T locs cells slots) (hexec : p.tables.exec = Jvm.exec) {own host : String} {index : Nat} {y : MethodName} {bytes : ByteArray} {maxL : Nat} (hown : s.vm.findClass own = some m.cls) (hy1 : y.name = "<init>") (hlink : (Cond.methodLinkNest own index y host).before args s = true) (hinst : (Cond.instanceMethod y).before args s = true)
    (hcode : (Cond.code y bytes maxL none).before args s = true) (hy : y.cls ≠ "java/lang/invoke/MethodHandle" ∧ y.cls ≠ "java/lang/invoke/VarHandle")
    {g : JFrame} (hg : g.method = m) {a : Addr} {argsL rest : List Value} (hlen : ∀ sig, parseMethodDescriptor y.desc = some sig → argsL.length = sig.parameters.length) (hstack : g.stack = argsL.reverse ++ .ref a :: rest) (hdg : decode c.code g.pc = .ok (.invokespecial index, 3)) :
    P_go p l e R s m args below meth c T locs cells slots g rest y (Value.ref a :: argsL).toArray := by
  subst hg
  have hpl : e.platform.magicAccessors = ({} : Platform).magicAccessors := by rw [X.admits.platform]
  obtain ⟨mk, methM, cM, kP, vm₁, hnamed, hmethM, hcodeM, -, hlocalsM, -, hkP, -, hW₁, hstep₁⟩ := Steps.initColdArgsNest (e := e) X.here hexec X.warmed hpl hown hy1 hy hlink hinst hcode (f := g) rfl hlen hstack hdg
  exact ⟨mk, vm₁, hnamed, X.noted hW₁, hstep₁⟩
end PIN
end
section
/-! ===== the step into a callee, out of the tables ===== -/
theorem p_pop_spec : ∀ (n : Nat) (acc st as rest : List Value), p_pop n acc st = some (as, rest) → ∃ t, as = t ++ acc ∧ st = t.reverse ++ rest ∧ t.length = n := by
  intro n
  induction n with
  | zero => intro acc st as rest h; cases h; exact ⟨[], rfl, rfl, rfl⟩
  | succ n ih =>
    intro acc st as rest h
    cases st with
    | nil => cases h
    | cons v st =>
      obtain ⟨t, h1, h2, h3⟩ := ih (v :: acc) st as rest h
      refine ⟨t ++ [v], ?_, ?_, ?_⟩
      · rw [h1]; simp
      · rw [h2]; simp
      · simp [h3]
theorem p_ctor_name {cm : Nat} (h : p_ctor cm = true) : (p_y cm).name = "<init>" := by
  obtain ⟨k, hk, e⟩ := List.any_eq_true.mp h
  have e := Nat.eq_of_beq_eq_true e
  subst e
  revert hk
  have : ∀ k ∈ p_ctorL, (p_y k).name = "<init>" := by decide +kernel
  exact this k
theorem p_recv_len {cm : Nat} {as : List Value} {h : List pE} (hr : p_recv cm as h = true) : (p_args as).length ≤ p_maxL cm := by
  unfold p_recv at hr
  rw [Bool.and_eq_true] at hr
  exact Nat.le_of_ble_eq_true hr.1
theorem p_recv_lit {cm : Nat} {as : List Value} {h : List pE} (hr : p_recv cm as h = true) (hs : p_isS cm = true) : ∃ j t, as = .retAddr (j + 1) :: t ∧ j < p_lits := by
  unfold p_recv at hr
  rw [hs] at hr
  rw [Bool.and_eq_true] at hr
  have h2 : p_hdlit as = true := hr.2
  unfold p_hdlit at h2
  split at h2
  · next j t => exact ⟨j, t, rfl, p_blt h2⟩
  · cases h2
theorem p_recv_at {cm ci : Nat} {as : List Value} {h : List pE} (hr : p_recv cm as h = true) (hs : p_isS cm = false) (hi : p_inst cm = some ci) : ∃ k t fs, as = .ref k :: t ∧ h[k]? = some (.inr (ci, fs)) := by
  unfold p_recv at hr
  rw [hs] at hr
  rw [Bool.and_eq_true, hi] at hr
  obtain ⟨-, hr⟩ := hr
  dsimp only [cond_false] at hr
  split at hr
  · next k t =>
    split at hr
    · next cj fs he =>
      have e := Nat.eq_of_beq_eq_true hr
      subst e
      exact ⟨k, t, fs, rfl, he⟩
    · cases hr
  · cases hr
theorem p_raw_none : ∀ k, p_raw k ≠ [] → k < p_ML.length := by
  intro k hk
  refine Nat.lt_of_not_le (fun hle => hk ?_)
  unfold p_raw
  cases h : p_find k p_rawL with
  | none => rfl
  | some q =>
    exfalso
    have hm := p_find_mem h
    have : ∀ z ∈ p_rawL, z.1 < p_ML.length := by decide +kernel
    exact absurd (this _ hm) (Nat.not_lt.mpr hle)
theorem p_mtV_lt : ∀ q ∈ p_mtVL, ∀ z ∈ q.2, z.2.1 < p_ML.length := by decide +kernel
theorem p_mtS_lt : ∀ q ∈ p_mtSL, ∀ z ∈ q.2, z.2.1 < p_ML.length := by decide +kernel
theorem p_mtI_lt : ∀ q ∈ p_mtIL, ∀ z ∈ q.2, z.2.1 < p_ML.length := by decide +kernel
theorem p_mth_in {mi cm na : Nat} {ins : Instr} (h : p_calls mi ins = some (cm, na)) : p_word cm ∈ lw_g ∧ Cond.initialized (p_y cm).cls ∈ lw_g ∧ p_maxL cm ≤ 41 ∧ plainFor (p_y cm) = true ∧ cm < p_ML.length := by
  unfold p_calls at h
  split at h
  · obtain ⟨⟨g1, g2, g3, g4, -⟩, -⟩ := p_all2_ok p_mtVA h
    obtain ⟨l, a1, a2⟩ := p_two2_mem h
    exact ⟨g1, g2, g3, g4, p_mtV_lt _ a1 _ a2⟩
  · obtain ⟨⟨g1, g2, g3, g4, -⟩, -⟩ := p_all2_ok p_mtSA h
    obtain ⟨l, a1, a2⟩ := p_two2_mem h
    exact ⟨g1, g2, g3, g4, p_mtS_lt _ a1 _ a2⟩
  · obtain ⟨⟨g1, g2, g3, g4, -⟩, -⟩ := p_all2_ok p_mtIA h
    obtain ⟨l, a1, a2⟩ := p_two2_mem h
    exact ⟨g1, g2, g3, g4, p_mtI_lt _ a1 _ a2⟩
  · cases h
theorem p_mtI_ctor0 : ∀ q ∈ p_mtIL, ∀ z ∈ q.2, p_ctor z.2.1 = true ∧ p_inst z.2.1 = none ∧ p_isS z.2.1 = false := by decide +kernel
theorem p_mtI_ctor {cm na : Nat} (o i : Nat) (h : p_mtI o i = some (cm, na)) : p_ctor cm = true ∧ p_inst cm = none ∧ p_isS cm = false := by
  obtain ⟨l, a1, a2⟩ := p_two2_mem h
  exact p_mtI_ctor0 _ a1 _ a2
theorem p_npar_sig {cm n : Nat} (h : p_npar cm n) {sig : MethodDescriptor} (hs : parseMethodDescriptor (p_y cm).desc = some sig) : n = sig.parameters.length := by
  unfold p_npar at h
  rw [hs] at h
  exact (Option.some.inj h).symm
theorem p_nest_at {X : pX} {base : Nat} {ex : Nat → Nat} {s : State} {args : Array Value} {o host : String} {i : Nat} {y : MethodName} (hX : P_X X base ex s s.heap) (h : Cond.methodLinkNest o i y host ∈ p_nestW) : (Cond.methodLinkNest o i y host).before args s = true := va_Nw.use rfl (hX.2.2.2.2.2.2.2.2.1 _ h)
section PGO
variable {p : Program} {l : Launch} {e : Env} {R : Room} {s : State} {m : MethodId} {args : Array Value} {below : List Frame} {meth : Method} {c : Code} {T : State} {locs : List Loc} {cells slots : Nat}
variable {D : va_G} {base : Nat} {ex : Nat → Nat} {cA : FieldType → ClassId} {X : pX} {lsA : Array Slot} {st as rest : List Value} {h : List pE} {mi pc cm na : Nat} {ins : Instr}
set_option maxHeartbeats 1000000 in
theorem p_go_ok (C : P_C X D base ex cA p s m args meth c mi) (hc : p_code mi pc = some (ins, 3)) (hm : p_calls mi ins = some (cm, na)) (hp : p_pop na [] st = some (as, rest)) (hr : p_recv cm as h = true) (hP : P_R D base ex cA h T.heap) (hST : va_S (p_A base) s.heap T.heap locs) (X0 : Stand p l e R s m args below meth c T locs cells slots) :
    P_go p l e R s m args below meth c T locs cells slots (F0 m pc lsA (st.map (c_V base ex))) (rest.map (c_V base ex)) (p_y cm) (as.map (c_V base ex)).toArray := by
  obtain ⟨hx, hb, hts, hown, hret, hml, hlk, hctor, hK, hbase, hX, hraw, hh00⟩ := C
  have hd : decode c.code pc = .ok (ins, 3) := by rw [hb]; exact (p_code_ok hc).1
  obtain ⟨t0, a1, a2, a3⟩ := p_pop_spec na [] st as rest hp
  rw [List.append_nil] at a1
  subst a1
  obtain ⟨gw, gi, gl, gp, gm⟩ := p_mth_in hm
  cases ins with
  | invokevirtual i =>
    obtain ⟨⟨-, -, -, -, g5⟩, b1, b2, b3, bb, ⟨n, b7, b8⟩⟩ := p_all2_ok p_mtVA hm
    have hlen : ∀ (v : Value) (t : List Value), as = v :: t → ∀ mk methM, s.methodNamed? (p_y cm) = some mk → s.vm.method? mk = some methM → (t.map (c_V base ex)).length = methM.sig.parameters.length := by
      intro v t et mk methM z1 z2
      obtain ⟨mk', meth', c', y1, y2, -, -, -, -, -, -, y3⟩ := p_word_spec (hts _ gw)
      cases z1.symm.trans y1
      cases z2.symm.trans y2
      rw [List.length_map, ← p_npar_sig b7 y3]
      rw [et] at a3
      simp only [List.length_cons] at a3
      dsimp only at b8
      omega
    rcases bb with ⟨ci, q, b4, b0, b5, b6⟩ | ⟨b0, b6⟩
    · obtain ⟨k, t, fs, e1, e2⟩ := p_recv_at hr b0 b4
      have hlen2 := hlen _ _ e1
      subst e1
      obtain ⟨r, h1, cell, q1, q2, q3, q4⟩ := hP.2 k _ e2
      have hr2 : r = q := Option.some.inj (h1.symm.trans b5)
      subst hr2
      obtain ⟨-, hfc, -⟩ := hK.1 ci _ b5
      refine i_virt X0 hx hown (hts _ b1) (hts _ b2) (hts _ b3) g5 (b := base + k) (cellB := cell) q1 (by rw [q3]; rfl) (by rw [← b6, q2]; exact hfc) rfl (argsL := t.map (c_V base ex)) hlen2 ?_ hd
      rw [a2]
      simp [c_V]
    · obtain ⟨j, t, e1, e2⟩ := p_recv_lit hr b0
      have hlen2 := hlen _ _ e1
      subst e1
      obtain ⟨cell, q1, q2, q3⟩ := vk_recv hX.2.2.1 e2 hST
      refine i_virt X0 hx hown (hts _ b1) (hts _ b2) (hts _ b3) g5 (b := ex (j + 1)) (cellB := cell) q1 q2 (by rw [b6]; exact q3) rfl (argsL := t.map (c_V base ex)) hlen2 ?_ hd
      rw [a2]
      simp [c_V]
  | invokestatic i =>
    obtain ⟨⟨-, -, -, -, g5⟩, b1, b2, b3⟩ := p_all2_ok p_mtSA hm
    obtain ⟨mk', meth', c', y1, y2, -, -, -, -, -, -, y3⟩ := p_word_spec (hts _ gw)
    refine i_stat X0 hx hown (hts _ b1) (hts _ b2) (hts _ gi) g5 y1 y2 rfl (argsL := as.map (c_V base ex)) ?_ ?_ hd
    · rw [List.length_map, ← p_npar_sig b3 y3]
      exact a3
    · rw [a2]
      simp
  | invokespecial i =>
    obtain ⟨⟨-, -, -, -, g5⟩, b1, b2, b3, b4, b5, ⟨n, b7, b8⟩⟩ := p_all2_ok p_mtIA hm
    have hcode : (Cond.code (p_y cm) (p_bytes cm) (p_maxL cm) none).before args s = true := by
      have := hts _ gw
      unfold p_word at this
      rw [b4, b5] at this
      exact this
    cases as with
    | nil => dsimp only at b8; simp at a3; omega
    | cons v t =>
      have hv : ∃ a, c_V base ex v = .ref a := by
        have hc2 := p_mtI_ctor _ _ hm
        unfold p_recv at hr
        rw [hc2.2.2] at hr
        rw [Bool.and_eq_true, hc2.2.1, hc2.1] at hr
        have h3 := hr.2
        dsimp only [cond_false] at h3
        cases v <;> first | exact ⟨_, rfl⟩ | cases h3
      obtain ⟨a, ha⟩ := hv
      have hl : ∀ sig, parseMethodDescriptor (p_y cm).desc = some sig → (t.map (c_V base ex)).length = sig.parameters.length := by
        intro sig hs
        rw [List.length_map, ← p_npar_sig b7 hs]
        simp only [List.length_cons] at a3
        dsimp only at b8
        omega
      rw [List.map_cons, ha]
      rcases b1 with b1 | ⟨host, b1⟩
      · exact i_init X0 hx hown b3 (hts _ b1) (hts _ b2) hcode g5 rfl hl (by rw [a2]; simp [ha]) hd
      · exact i_initN X0 hx hown b3 (p_nest_at hX b1) (hts _ b2) hcode g5 rfl hl (by rw [a2]; simp [ha]) hd
  | _ => cases hm
end PGO
end
section
/-! one plain instruction, walked -/
section PS3
variable {p : Program} {l : Launch} {e : Env} {R : Room} {s : State} {m : MethodId} {args : Array Value} {below : List Frame} {meth : Method} {c : Code} {H : Heap} {locs : List Loc} {cells slots : Nat} {Q : State → Prop}
variable {D : va_G} {base : Nat} {ex : Nat → Nat} {cA : FieldType → ClassId} {X : pX} {lsA : Array Slot} {ls ls' : pL} {st st' : List Value} {h h' : List pE} {d mi pc pc' len : Nat} {ins : Instr} {Co : Prop}
/-- what comes behind an instruction -/
def P_K (p : Program) (l : Launch) (e : Env) (R : Room) (s : State) (m : MethodId) (args : Array Value) (below : List Frame) (meth : Method) (c : Code) (D : va_G) (base : Nat) (ex : Nat → Nat) (cA : FieldType → ClassId) (nL cells slots : Nat) (h : List pE) (Q : State → Prop) (pc' : Nat) (ls' : pL) (st' : List Value) (h' : List pE) : Prop :=
  ∀ (H1 : Heap) (locs1 : List Loc) (lsB : Array Slot) (cells1 slots1 : Nat), cells1 = cells + (h'.length - h.length) → slots1 = slots + (p_S h' - p_S h) → P_R D base ex cA h' H1 → va_S (p_A base) s.heap H1 locs1 → P_L base ex nL ls' lsB → W p l e R s m args below meth c H1 locs1 cells1 slots1 Q (F0 m pc' lsB (st'.map (c_V base ex)))
theorem P_K.same {nL : Nat} (kk : P_K p l e R s m args below meth c D base ex cA nL cells slots h Q pc' ls' st' h) (hP : P_R D base ex cA h H) (hS : va_S (p_A base) s.heap H locs) {lsB : Array Slot} (hL : P_L base ex nL ls' lsB) : W p l e R s m args below meth c H locs cells slots Q (F0 m pc' lsB (st'.map (c_V base ex))) :=
  kk H locs lsB cells slots (by rw [Nat.sub_self, Nat.add_zero]) (by rw [Nat.sub_self, Nat.add_zero]) hP hS hL
theorem P_K_upd {nL k : Nat} {x x0 : pE} (kk : P_K p l e R s m args below meth c D base ex cA nL cells slots h Q pc' ls' st' (h.set k x)) (h0 : h[k]? = some x0) (hz : p_sz x = p_sz x0) {H1 : Heap} {locs1 : List Loc} (hP : P_R D base ex cA (h.set k x) H1) (hS : va_S (p_A base) s.heap H1 locs1) {lsB : Array Slot} (hL : P_L base ex nL ls' lsB) : W p l e R s m args below meth c H1 locs1 cells slots Q (F0 m pc' lsB (st'.map (c_V base ex))) :=
  kk H1 locs1 lsB cells slots (by rw [List.length_set, Nat.sub_self, Nat.add_zero]) (by rw [p_S_set h k x x0 h0 hz, Nat.sub_self, Nat.add_zero]) hP hS hL
set_option maxHeartbeats 4000000 in
theorem p_step_ok (C : P_C X D base ex cA p s m args meth c mi) (hd : decode (p_bytes mi) pc = .ok (ins, len)) (hlen : p_sw ins = false → len = p_len ins) (hs : p_step X d mi pc ls st h ins len = some ((pc', ls', st', h'), Co)) (hC : Co) (hP : P_R D base ex cA h H) (hS : va_S (p_A base) s.heap H locs) (hL : P_L base ex (p_maxL mi) ls lsA) (hR : d ≤ R.frames ∧ 60 * d ≤ R.locals) (hc1 : cells + (h'.length - h.length) ≤ R.cells) (hc2 : slots + (p_S h' - p_S h) ≤ R.slots)
    (kk : P_K p l e R s m args below meth c D base ex cA (p_maxL mi) cells slots h Q pc' ls' st' h') : W p l e R s m args below meth c H locs cells slots Q (F0 m pc lsA (st.map (c_V base ex))) := by
  obtain ⟨hx, hb, hts, hown, hret, hml, hlk, hctor, hK, hbase, hX, hraw, hh00⟩ := C
  have hsw : p_sw ins = false := by
    cases hq : p_sw ins with
    | false => rfl
    | true => cases ins <;> first | (cases hq; done) | (dsimp only [p_step, p_alu] at hs; cases hs; done)
  have hlen := hlen hsw
  subst hlen
  clear hsw
  cases ins with
  | iconst n =>
    dsimp only [p_step, p_len] at hs
    cases hs
    exact lv_iconst hx hb hd rfl (kk.same hP hS hL)
  | bipush n =>
    dsimp only [p_step, p_len] at hs
    cases hs
    exact lv_bipush hx hb hd rfl (kk.same hP hS hL)
  | sipush n =>
    dsimp only [p_step, p_len] at hs
    cases hs
    exact lv_sipush hx hb hd rfl (kk.same hP hS hL)
  | lconst n =>
    dsimp only [p_step, p_len] at hs
    cases hs
    exact lv_lconst hx hb hd rfl (kk.same hP hS hL)
  | aconst_null =>
    dsimp only [p_step, p_len] at hs
    cases hs
    exact lv_null hx hb hd (kk.same hP hS hL)
  | ldc i =>
    dsimp only [p_step, p_len] at hs
    split at hs
    · next v hv => cases hs; exact lv_ldc hx hb hown (hts _ (p_int_ok hv)) hd (kk.same hP hS hL)
    · split at hs
      · next j hj => cases hs; exact s_ldcS hx hb hown hX hj hd (kk.same hP hS hL)
      · cases hs
  | ldc2_w i =>
    dsimp only [p_step, p_len] at hs
    split at hs
    · next v hv => cases hs; exact lv_ldc2 hx hb hown (hts _ (p_lng_ok hv)) hd (kk.same hP hS hL)
    · cases hs
  | iload i =>
    dsimp only [p_step, p_len] at hs
    split at hs
    · next x hx2 => cases hs; exact lv_iload hx hb hd (hL.get hx2) (kk.same hP hS hL)
    · cases hs
  | iload_n i =>
    dsimp only [p_step, p_len] at hs
    split at hs
    · next x hx2 => cases hs; exact lv_iload_n hx hb hd rfl (hL.get hx2) (kk.same hP hS hL)
    · cases hs
  | lload i =>
    dsimp only [p_step, p_len] at hs
    split at hs
    · next x hx2 => cases hs; exact lv_lload hx hb hd (hL.get hx2) (kk.same hP hS hL)
    · cases hs
  | lload_n i =>
    dsimp only [p_step, p_len] at hs
    split at hs
    · next x hx2 => cases hs; exact lv_lload_n hx hb hd rfl (hL.get hx2) (kk.same hP hS hL)
    · cases hs
  | aload i =>
    dsimp only [p_step, p_len] at hs
    split at hs
    · next x hx2 => cases hs; exact lv_aload hx hb hd (hL.get hx2) (kk.same hP hS hL)
    · next x hx2 => cases hs; exact lv_aload hx hb hd (hL.get hx2) (kk.same hP hS hL)
    · cases hs
  | aload_n i =>
    dsimp only [p_step, p_len] at hs
    split at hs
    · next x hx2 => cases hs; exact lv_aload_n hx hb hd rfl (hL.get hx2) (kk.same hP hS hL)
    · next x hx2 => cases hs; exact lv_aload_n hx hb hd rfl (hL.get hx2) (kk.same hP hS hL)
    · cases hs
  | istore i =>
    dsimp only [p_step, p_len] at hs
    split at hs
    · next x r =>
      cases hlt : Nat.blt i ls.length with
      | false => rw [hlt] at hs; cases hs
      | true =>
        rw [hlt] at hs
        cases hs
        have hlt2 := p_blt hlt
        rw [hL.1] at hlt2
        exact lv_istore hx hb hd hL.2 hlt2 rfl (fun lsB hB => kk.same hP hS (hL.st1 hB))
    · cases hs
  | istore_n i =>
    dsimp only [p_step, p_len] at hs
    split at hs
    · next x r =>
      cases hlt : Nat.blt (i : Nat) ls.length with
      | false => rw [hlt] at hs; cases hs
      | true =>
        rw [hlt] at hs
        cases hs
        have hlt2 := p_blt hlt
        rw [hL.1] at hlt2
        exact lv_istore_n hx hb hd rfl hL.2 hlt2 rfl (fun lsB hB => kk.same hP hS (hL.st1 hB))
    · cases hs
  | lstore i =>
    dsimp only [p_step, p_len] at hs
    split at hs
    · next x r =>
      cases hlt : Nat.blt (i + 1) ls.length with
      | false => rw [hlt] at hs; cases hs
      | true =>
        rw [hlt] at hs
        cases hs
        have hlt2 := p_blt hlt
        rw [hL.1] at hlt2
        exact lv_lstore hx hb hd hL.2 hlt2 rfl (fun lsB hB => kk.same hP hS (hL.st2 hB))
    · cases hs
  | lstore_n i =>
    dsimp only [p_step, p_len] at hs
    split at hs
    · next x r =>
      cases hlt : Nat.blt ((i : Nat) + 1) ls.length with
      | false => rw [hlt] at hs; cases hs
      | true =>
        rw [hlt] at hs
        cases hs
        have hlt2 := p_blt hlt
        rw [hL.1] at hlt2
        exact lv_lstore_n hx hb hd rfl hL.2 hlt2 rfl (fun lsB hB => kk.same hP hS (hL.st2 hB))
    · cases hs
  | astore i =>
    dsimp only [p_step, p_len] at hs
    split at hs
    · next x r =>
      cases hlt : Nat.blt i ls.length with
      | false => rw [hlt] at hs; cases hs
      | true =>
        rw [hlt] at hs
        cases hs
        have hlt2 := p_blt hlt
        rw [hL.1] at hlt2
        exact lv_astore hx hb hd hL.2 hlt2 rfl (fun lsB hB => kk.same hP hS (hL.st1 hB))
    · cases hs
  | astore_n i =>
    dsimp only [p_step, p_len] at hs
    split at hs
    · next x r =>
      cases hlt : Nat.blt (i : Nat) ls.length with
      | false => rw [hlt] at hs; cases hs
      | true =>
        rw [hlt] at hs
        cases hs
        have hlt2 := p_blt hlt
        rw [hL.1] at hlt2
        exact lv_astore_n hx hb hd rfl hL.2 hlt2 rfl (fun lsB hB => kk.same hP hS (hL.st1 hB))
    · cases hs
  | iinc i n =>
    dsimp only [p_step, p_len] at hs
    split at hs
    · next x hx2 =>
      cases hlt : Nat.blt i ls.length with
      | false => rw [hlt] at hs; cases hs
      | true =>
        rw [hlt] at hs
        cases hs
        have hlt2 := p_blt hlt
        rw [hL.1] at hlt2
        obtain ⟨k, hk⟩ := List.getElem?_of_mem ((c_L_mem (base := base) (ex := ex) ls 0 i _).mpr ⟨i, .int x, by omega, hx2, rfl⟩)
        exact lv_iinc hx hb hd hL.2 (k := k) hk rfl hlt2 rfl (fun lsB hB => kk.same hP hS (hL.st1 (v := .int (x + Int32.ofInt n)) hB))
    · cases hs
  | goto off =>
    dsimp only [p_step, p_len] at hs
    cases hs
    exact lv_goto hx hb hd (Int.toNat_of_nonneg hC).symm (kk.same hP hS hL)
  | getfield i =>
    dsimp only [p_step, p_len] at hs
    split at hs
    · next k r =>
      split at hs
      · next ci f hf =>
        split at hs
        · next v hv =>
          cases hs
          obtain ⟨C, T, N, g1, g2, g3, g4, g5, g6, g7, g8⟩ := p_fld_ok hf
          obtain ⟨fs, k1, k2⟩ := p_fget_ok hv
          exact s_get hx hb hts g2 hown hK hP k1 g1 g3 g4 k2 hd (kk.same hP hS hL)
        · cases hs
      · cases hs
    · next j r =>
      split at hs
      · next hf =>
        cases hs
        rcases p_all2_ok p_sfldA hf with ⟨-, hl⟩ | ⟨hz, -⟩
        · exact vk_getf (o := "java/lang/String") (ref := "java/lang/String") hx hb (hX.2.2.1.1 j hC).2.2.1 hS hown (hts _ hl) (fun _ h => h) hd (kk.same hP hS hL)
        · cases hz
      · next hf =>
        cases hs
        rcases p_all2_ok p_sfldA hf with ⟨hz, -⟩ | ⟨-, hl⟩
        · cases hz
        · exact vk_getf (o := "java/lang/String") (ref := "java/lang/String") hx hb (hX.2.2.1.1 j hC).2.1 hS hown (hts _ hl) (fun _ h => h) hd (kk.same hP hS hL)
      · cases hs
    · cases hs
  | putfield i =>
    dsimp only [p_step, p_len] at hs
    split at hs
    · next v k r =>
      split at hs
      · next ci f hf =>
        cases hfit : (p_fits (p_fty ci f) v && (!(p_fin ci f) || (p_ctor mi && Nat.beq ci (p_own mi)))) with
        | false => rw [hfit] at hs; cases hs
        | true =>
          rw [hfit] at hs
          dsimp only [cond_true] at hs
          rw [Bool.and_eq_true] at hfit
          split at hs
          · next h1 hv =>
            cases hs
            obtain ⟨C, T, N, g1, g2, g3, g4, g5, g6, g7, g8⟩ := p_fld_ok hf
            obtain ⟨fs, k1, k2, k3⟩ := p_fput_ok hv
            subst k3
            refine s_put hx hb hts g2 (p_fty ci) g5 g6 hown hK hP hS k1 g1 g3 g4 (fun hF => ?_) hfit.1 k2 hd (fun H1 locs1 hP1 hS1 => P_K_upd kk k1 rfl hP1 hS1 hL)
            have h2 := hfit.2
            rw [g7, hF] at h2
            simp only [Bool.not_true, Bool.false_or, Bool.and_eq_true] at h2
            exact ⟨hctor h2.1, by rw [g8, Nat.eq_of_beq_eq_true h2.2]⟩
          · cases hs
      · cases hs
    · cases hs
  | iaload =>
    dsimp only [p_step, p_len] at hs
    split at hs
    · next i k r =>
      split at hs
      · next n f he => cases hs; exact s_iald hx hb hK hP he hC hd (kk.same hP hS hL)
      · cases hs
    · next i r => cases hs; exact va_sld hx hb hX.1 (Nat.lt_of_lt_of_le hX.2.1 hbase) (Nat.not_le.mpr hX.2.1) hS hC hd (kk.same hP hS hL)
    · cases hs
  | laload =>
    dsimp only [p_step, p_len] at hs
    split at hs
    · next i k r =>
      split at hs
      · next n f he => cases hs; exact s_lald hx hb hK hP he hC hd (kk.same hP hS hL)
      · cases hs
    · cases hs
  | baload =>
    dsimp only [p_step, p_len] at hs
    split at hs
    · next i k r =>
      split at hs
      · next n f he => cases hs; exact s_zald hx hb hK hP he hC hd (kk.same hP hS hL)
      · cases hs
    · next i k r =>
      cases hs
      have hT := (hX.2.2.1.1 (k - p_lits) hC.2.1).2.2.2
      have hT : va_T .byte (ex (p_lits + 1 + (k - p_lits))) (p_lenL.getD (k - p_lits) 0) (fun j => .int ((p_litL.getD (k - p_lits) []).getD j 0)) (p_A base) s s.heap := hT
      rw [show p_lits + 1 + (k - p_lits) = k + 1 by have := hC.1; omega, p_lenL_eq] at hT
      exact va_tb hx hb hT hS hC.2.2 rfl hd (kk.same hP hS hL)
    · cases hs
  | iastore =>
    dsimp only [p_step, p_len] at hs
    split at hs
    · next x i k r =>
      split at hs
      · next n f he => cases hs; exact s_iast hx hb hK hP hS he hC hd (fun H1 locs1 hP1 hS1 => P_K_upd kk he rfl hP1 hS1 hL)
      · cases hs
    · cases hs
  | lastore =>
    dsimp only [p_step, p_len] at hs
    split at hs
    · next x i k r =>
      split at hs
      · next n f he => cases hs; exact s_last hx hb hK hP hS he hC hd (fun H1 locs1 hP1 hS1 => P_K_upd kk he rfl hP1 hS1 hL)
      · cases hs
    · cases hs
  | bastore =>
    dsimp only [p_step, p_len] at hs
    split at hs
    · next x i k r =>
      split at hs
      · next n f he => cases hs; exact s_zast hx hb hK hP hS he hC hd (fun H1 locs1 hP1 hS1 => P_K_upd kk he rfl hP1 hS1 hL)
      · cases hs
    · cases hs
  | arraylength =>
    dsimp only [p_step, p_len] at hs
    split at hs
    · next k r =>
      split at hs
      · next ty a he =>
        cases hty : p_aty ty with
        | false => rw [hty] at hs; cases hs
        | true =>
          rw [hty] at hs
          cases hs
          exact s_alen hx hb hK hP he (p_aty_ok hty) hd (kk.same hP hS hL)
      · cases hs
    · next r => cases hs; exact va_slen hx hb hX.1 (Nat.lt_of_lt_of_le hX.2.1 hbase) (Nat.not_le.mpr hX.2.1) hS hd (kk.same hP hS hL)
    · next k r =>
      cases hs
      have hT := (hX.2.2.1.1 (k - p_lits) hC.2).2.2.2
      have hT : va_T .byte (ex (p_lits + 1 + (k - p_lits))) (p_lenL.getD (k - p_lits) 0) (fun j => .int ((p_litL.getD (k - p_lits) []).getD j 0)) (p_A base) s s.heap := hT
      rw [show p_lits + 1 + (k - p_lits) = k + 1 by have := hC.1; omega, p_lenL_eq] at hT
      exact va_tlen hx hb hT hS rfl hd (kk.same hP hS hL)
    · cases hs
  | newarray t =>
    dsimp only [p_step, p_len] at hs
    split at hs
    · next n r =>
      cases t with
      | int =>
        cases hs
        have e1 : (h ++ [(.inl (.int, n.toNatClampNeg, .inl (fun _ => 0)) : pE)]).length - h.length = 1 := by simp
        have e2 : p_S (h ++ [(.inl (.int, n.toNatClampNeg, .inl (fun _ => 0)) : pE)]) - p_S h = n.toNatClampNeg := by rw [p_S_app]; simp [p_S, p_sz]
        rw [e1] at hc1
        rw [e2] at hc2
        exact s_newa (ty := .int) hx hb hK hP hS rfl (hK.2 0 _ rfl).2 (hts _ p_arr_int) (fun cI => rfl) hC.1 (Nat.le_trans (Nat.mul_le_mul_left _ (by decide)) hC.2) hc1 hc2 hd (fun H1 hP1 hS1 => kk H1 locs lsA _ _ (by rw [e1]) (by rw [e2]) hP1 hS1 hL)
      | long =>
        cases hs
        have e1 : (h ++ [(.inl (.long, n.toNatClampNeg, .inr (.inl (fun _ => 0))) : pE)]).length - h.length = 1 := by simp
        have e2 : p_S (h ++ [(.inl (.long, n.toNatClampNeg, .inr (.inl (fun _ => 0))) : pE)]) - p_S h = n.toNatClampNeg := by rw [p_S_app]; simp [p_S, p_sz]
        rw [e1] at hc1
        rw [e2] at hc2
        exact s_newa (ty := .long) hx hb hK hP hS rfl (hK.2 1 _ rfl).2 (hts _ p_arr_long) (fun cI => rfl) hC.1 (Nat.le_trans (Nat.mul_le_mul_left _ (by decide)) hC.2) hc1 hc2 hd (fun H1 hP1 hS1 => kk H1 locs lsA _ _ (by rw [e1]) (by rw [e2]) hP1 hS1 hL)
      | boolean =>
        cases hs
        have e1 : (h ++ [(.inl (.boolean, n.toNatClampNeg, .inl (fun _ => 0)) : pE)]).length - h.length = 1 := by simp
        have e2 : p_S (h ++ [(.inl (.boolean, n.toNatClampNeg, .inl (fun _ => 0)) : pE)]) - p_S h = n.toNatClampNeg := by rw [p_S_app]; simp [p_S, p_sz]
        rw [e1] at hc1
        rw [e2] at hc2
        exact s_newa (ty := .boolean) hx hb hK hP hS rfl (hK.2 2 _ rfl).2 (hts _ p_arr_boolean) (fun cI => rfl) hC.1 (Nat.le_trans (Nat.mul_le_mul_left _ (by decide)) hC.2) hc1 hc2 hd (fun H1 hP1 hS1 => kk H1 locs lsA _ _ (by rw [e1]) (by rw [e2]) hP1 hS1 hL)
      | _ => cases hs
    · cases hs
  | new i =>
    dsimp only [p_step, p_len] at hs
    split at hs
    · next ci fs hn =>
      cases hs
      obtain ⟨C, T, N, n, g1, g2, g3, g4, g5, g6, g7, g8⟩ := p_new_ok (base := base) (ex := ex) hn
      have e1 : (h ++ [(.inr (ci, fs) : pE)]).length - h.length = 1 := by simp
      have e2 : p_S (h ++ [(.inr (ci, fs) : pE)]) - p_S h = n := by rw [p_S_app]; simp [p_S, p_sz, g8]
      rw [e1] at hc1
      rw [e2] at hc2
      exact s_new hx hb hts g2 (p_fty ci) g3 hown hK hP hS g1 g4 g5 g6 g7 hc1 hc2 hd (fun H1 hP1 hS1 => kk H1 locs lsA _ _ (by rw [e1]) (by rw [e2]) hP1 hS1 hL)
    · cases hs
  | invokespecial i =>
    dsimp only [p_step, p_len] at hs
    split at hs
    · next he =>
      split at hs
      · next k r =>
        cases hs
        exact s_objInit (mi := mi) (d := d) hx hb hts hown hml hL (p_ext0_ok he) hR hC hd (kk.same hP hS hL)
      · cases hs
    · cases hs
  | getstatic i =>
    dsimp only [p_step, p_len] at hs
    split at hs
    · next hf =>
      cases hs
      rcases p_all2_ok p_statA hf with ⟨-, hl⟩ | ⟨hz, -⟩
      · exact va_gets (C := "java/lang/String") (ref := "java/lang/String") hx hb hX.2.2.2.2.2.2.1 hS hown (hts _ hl) (fun _ h => h) hd (kk.same hP hS hL)
      · cases hz
    · next hf =>
      cases hs
      rcases p_all2_ok p_statA hf with ⟨hz, -⟩ | ⟨-, hl⟩
      · cases hz
      · exact va_gets (C := "jdk/internal/util/Preconditions") (ref := "jdk/internal/util/Preconditions") hx hb hX.2.2.2.2.2.2.2.1 hS hown (hts _ hl) (fun _ h => h) hd (kk.same hP hS hL)
    · cases hs
  | _ =>
    dsimp only [p_step, p_len] at hs
    split at hs
    · next st1 C1 ha => first | (cases ha; done) | (cases hs; exact p_alu_ok hx hb hd ha hC (kk.same hP hS hL))
    · cases hs
end PS3
end
section
/-! branches and switches, walked -/
section PJM
variable {p : Program} {l : Launch} {e : Env} {R : Room} {s : State} {m : MethodId} {args : Array Value} {below : List Frame} {meth : Method} {c : Code} {H : Heap} {locs : List Loc} {cells slots : Nat} {Q : State → Prop}
variable {base : Nat} {ex : Nat → Nat} {lsA : Array Slot} {cc : ByteArray} {pc t t2 len : Nat} {ins : Instr} {st r : List Value} {q C : Prop}
theorem s_jmp (hx : p.tables.exec = Jvm.exec) (hb : c.code = cc) (hd : decode cc pc = .ok (ins, len)) (hlen : p_sw ins = false → len = p_len ins) (hj : p_jmp pc ins st = some (q, t, t2, r, C)) (hC : C) (kt : q → W p l e R s m args below meth c H locs cells slots Q (F0 m t lsA (r.map (c_V base ex)))) (kf : ¬ q → W p l e R s m args below meth c H locs cells slots Q (F0 m t2 lsA (r.map (c_V base ex)))) : W p l e R s m args below meth c H locs cells slots Q (F0 m pc lsA (st.map (c_V base ex))) := by
  have hsw : p_sw ins = false := by cases ins <;> first | rfl | cases hj
  have hlen := hlen hsw
  subst hlen
  clear hsw
  cases ins with
  | ifCond co off =>
    dsimp only [p_jmp] at hj
    split at hj
    · cases hj
      cases co with
      | eq => exact lv_if_eq hx hb hd (Int.toNat_of_nonneg hC).symm kt kf
      | ne => exact lv_if_ne hx hb hd (Int.toNat_of_nonneg hC).symm kt (fun z => kf (fun y => y z))
      | lt => exact lv_if_lt hx hb hd (Int.toNat_of_nonneg hC).symm kt kf
      | ge => exact lv_if_ge hx hb hd (Int.toNat_of_nonneg hC).symm kt kf
      | gt => exact lv_if_gt hx hb hd (Int.toNat_of_nonneg hC).symm kt kf
      | le => exact lv_if_le hx hb hd (Int.toNat_of_nonneg hC).symm kt kf
    · cases hj
  | if_icmp co off =>
    dsimp only [p_jmp] at hj
    split at hj
    · cases hj
      cases co with
      | eq => exact lv_icmp_eq hx hb hd (Int.toNat_of_nonneg hC).symm kt kf
      | ne => exact lv_icmp_ne hx hb hd (Int.toNat_of_nonneg hC).symm kt (fun z => kf (fun y => y z))
      | lt => exact lv_icmp_lt hx hb hd (Int.toNat_of_nonneg hC).symm kt kf
      | ge => exact lv_icmp_ge hx hb hd (Int.toNat_of_nonneg hC).symm kt kf
      | gt => exact lv_icmp_gt hx hb hd (Int.toNat_of_nonneg hC).symm kt kf
      | le => exact lv_icmp_le hx hb hd (Int.toNat_of_nonneg hC).symm kt kf
    · cases hj
  | _ => cases hj
theorem s_swi (hx : p.tables.exec = Jvm.exec) (hb : c.code = cc) (hd : decode cc pc = .ok (ins, len)) (hj : p_swi pc ins st = some (t, r, C)) (hC : C) (k : W p l e R s m args below meth c H locs cells slots Q (F0 m t lsA (r.map (c_V base ex)))) : W p l e R s m args below meth c H locs cells slots Q (F0 m pc lsA (st.map (c_V base ex))) := by
  cases ins with
  | tableswitch dflt lo hi offs =>
    dsimp only [p_swi] at hj
    split at hj
    · next x r0 =>
      cases hj
      obtain ⟨h1, h2⟩ := hC
      by_cases hout : x.toInt < lo ∨ hi < x.toInt
      · refine lv_tableOut hx hb hd hout ?_ k
        unfold p_tgt
        rw [Int.toNat_of_nonneg h1]
        unfold p_tsw
        rw [if_pos hout]
      · have h3 : (x.toInt - lo).toNat < offs.size := by
          rcases h2 with z | z | z
          · exact absurd (Or.inl z) hout
          · exact absurd (Or.inr z) hout
          · exact z
        refine lv_tableIn (off := offs[(x.toInt - lo).toNat]) hx hb hd (fun z => hout (Or.inl z)) (fun z => hout (Or.inr z)) (Array.getElem?_eq_getElem h3) ?_ k
        unfold p_tgt
        rw [Int.toNat_of_nonneg h1]
        unfold p_tsw
        rw [if_neg hout, Array.getElem?_eq_getElem h3]
        rfl
    · cases hj
  | lookupswitch dflt ps =>
    dsimp only [p_swi] at hj
    split at hj
    · next x r0 =>
      cases hj
      obtain ⟨h1, h2⟩ := hC
      exact lv_lookup hx hb hd h2 rfl (by unfold p_tgt; rw [Int.toNat_of_nonneg h1]) k
    · cases hj
  | _ => cases hj
end PJM
end
section
/-! ===== CALLS: a contract that may end either way ===== -/
def P_G (l : Launch) (y : MethodName) (ws : List Cond) (rm : Room) (Pc : Array Value → State → Prop) (Qc : Array Value → State → Outcome → State → Prop) (mc ms : Nat) (free : Addr → Prop) : Prop :=
  MetFree l y (headSpec ws rm) Pc (fun _ _ _ _ _ => True) (fun a st o t => Qc a st o t ∧ ∃ L, (st.WarmedH t.vm ∧ st.sameButNew ({ t with vm := st.vm } : State) L mc ms) ∧ ∀ q ∈ L, free q.base)
/-- the end of a walk, either way -/
def P_Q (below : List Frame) (Qc : Array Value → State → Outcome → State → Prop) (a : Array Value) (s : State) (mc ms : Nat) (free : Addr → Prop) : State → Prop := fun t =>
  ∃ o, t.status = .running ∧ Ended t below o ∧ Qc a s o t ∧ ∃ L, (s.WarmedH t.vm ∧ s.sameButNew ({ t with vm := s.vm } : State) L mc ms) ∧ ∀ q ∈ L, free q.base
theorem P_Q_of {below : List Frame} {Qc : Array Value → State → Outcome → State → Prop} {a : Array Value} {s t : State} {mc ms : Nat} {free : Addr → Prop} (h : MQ below Qc a s mc ms free t) : P_Q below Qc a s mc ms free t := by
  obtain ⟨o, h1, h2, h3, L, ⟨-, h4, h5⟩, h6⟩ := h
  exact ⟨o, h1, h2, h3, L, ⟨h4, h5⟩, h6⟩
section PEN
variable {p : Program} {l : Launch} {e : Env} {R : Room} {s : State} {m : MethodId} {args : Array Value} {below : List Frame} {meth : Method} {c : Code} {U : State} {locs : List Loc} {cells slots : Nat}
theorem p_enter (X : Stand p l e R s m args below meth c U locs cells slots) {g : JFrame} (hg : g.method = m) (hsize : g.locals.size = c.maxLocals) {ig : Instr} {len : Nat} (hdg : decode c.code g.pc = .ok (ig, len)) (hW : 2 * g.monitorRoom + (g.stack.map fun v => v.category).sum ≤ 8)
    {y : MethodName} {ws : List Cond} {rm : Room} {Pc : Array Value → State → Prop} {Qc : Array Value → State → Outcome → State → Prop} {mc ms maxL : Nat} {free : Addr → Prop} {a : Array Value} {mk : MethodId} (hn : U.methodNamed? y = some mk) {methY : Method} {cY : Code} (hmY : U.vm.method? mk = some methY) (hcY : methY.code = some cY) (hlY : cY.maxLocals = maxL) (hini : (Cond.initialized y.cls).before a U = true) (hM : P_G l y ws rm Pc Qc mc ms free)
    (hframes : rm.frames + 1 ≤ R.frames) (hlocals : 8 + (maxL + 11) + rm.locals ≤ R.locals) (hcl : cells + rm.cells ≤ R.cells) (hsl : slots + rm.slots ≤ R.slots) (hpre : (allAtoms ws).before a U = true) (hP : Pc a (U.calling g mk a)) :
    ∃ (o : Outcome) (T' t : State) (L : List Loc), Stand p l e R s m args below meth c T' (locs ++ L) (cells + mc) (slots + ms) ∧ (∀ q ∈ L, free q.base) ∧ T'.heap = t.heap ∧ T'.vm = t.vm ∧ Qc a (U.calling g mk a) o t ∧
      (∀ v, o = .returned v → Steps p.tables e below (doInvoke e (U.setTop g) [] mk a).1 (T'.setTop { g with pc := g.pc + len, stack := v.toList ++ g.stack })) ∧
      (∀ x, o = .threw x → Steps p.tables e below (doInvoke e (U.setTop g) [] mk a).1 ((T'.setTop g).pushFrame (.throwing x))) := by
  obtain ⟨kY, hkY, -⟩ := className_of_methodNamed hn
  have hinitY : kY.init = .initialized := Cond.initialized_spec (findClass_of_methodNamed hn) hkY hini
  have h : At U g.method c below := by rw [hg]; exact X.here
  have happ : (headSpec ws rm).appliesLoose y e.platform (U.calling g mk a) = true :=
    Spec.appliesLoose_calling (g := g) h hdg hn hkY hinitY
      (X.room_calling (g := g) (R' := (headSpec ws rm).room) hsize hmY hcY hframes (by rw [hlY]; show _ + (maxL + 11) + rm.locals ≤ _; omega) hcl hsl) hpre
  obtain ⟨mid, hmid⟩ := h.above
  have hfr : (U.setTop g).frames = (.java g :: mid) ++ below := by rw [State.frames_setTop' g h.top, hmid]; rfl
  obtain ⟨o, s₂, hsteps, -, hend, hq⟩ := Steps.callFree hM p X.admits X.cas X.clock (acts := []) hfr happ hP trivial
  obtain ⟨hq1, L, ⟨hW₂, e2, q2, q3, q4, q5, q6⟩, hL⟩ := hq
  have hq1 : Qc a (U.calling g mk a) o s₂ := hq1
  rw [State.frames_setTop' g h.top] at hend
  have e3 : s₂ = ({ (U.calling g mk a).setFrames s₂.frames with heap := s₂.heap, slotsUsed := s₂.slotsUsed } : State).setVm s₂.vm := by
    have : s₂ = ({ s₂ with vm := (U.calling g mk a).vm } : State).setVm s₂.vm := rfl
    rw [show ({ s₂ with vm := (U.calling g mk a).vm } : State) = _ from e2] at this
    exact this
  have hW' : U.WarmedH s₂.vm := hW₂
  obtain ⟨g₀, hg0⟩ := Option.isSome_iff_exists.mp h.top
  obtain ⟨r, hr⟩ := State.topJava?_eq_some.mp hg0
  have hr' : (({ U with heap := s₂.heap, slotsUsed := s₂.slotsUsed } : State).setVm s₂.vm).frames = .java g₀ :: r := hr
  have hsame : U.sameButNew ({ U with heap := s₂.heap, slotsUsed := s₂.slotsUsed } : State) L mc ms := by
    refine ⟨?_, q2, q3, q4, q5, q6⟩
    obtain ⟨t, ht, -⟩ := State.frames_cons hr
    show ({ U with heap := s₂.heap, slotsUsed := s₂.slotsUsed } : State) = { U.setFrames U.frames with heap := s₂.heap, slotsUsed := s₂.slotsUsed }
    rw [State.setFrames_self ht]
  subst hg
  refine ⟨o, ({ U with heap := s₂.heap, slotsUsed := s₂.slotsUsed } : State).setVm s₂.vm, s₂, L,
    ⟨X.admits, X.cas, X.clock, X.frames, X.room, X.hears, X.method, X.code, (X.here.setHeapUsed s₂.heap s₂.slotsUsed).setVm hW'.alike, X.tail, State.WarmedH.trans X.warmed hW', X.limits, X.bytes, X.same.trans (hsame.setVm s.vm)⟩, hL, rfl, rfl, hq1, fun v hv => ?_, fun x hx => ?_⟩
  · subst hv
    obtain ⟨c₂, i₂, len₂, hc₂, hd₂, hf₂⟩ := hend
    have hcc : c₂ = c := by
      have h1 : s₂.code? g.method = U.code? g.method := by
        rw [State.code?_eq, State.code?_eq, hW'.alike.method?]
      exact Option.some.inj (hc₂.symm.trans (h1.trans h.code))
    subst hcc
    have hlen : len₂ = len := by rw [hdg] at hd₂; cases hd₂; rfl
    subst hlen
    have hs₂ : s₂ = (({ U with heap := s₂.heap, slotsUsed := s₂.slotsUsed } : State).setVm s₂.vm).setTop { g with pc := g.pc + len₂, stack := v.toList ++ g.stack } := by
      refine e3.trans ?_
      rw [hf₂, State.calling_eq h.top, State.setFrames_setFrames, State.setTop_of_frames _ hr', hr]
      rfl
    rw [← hs₂]
    exact hsteps
  · subst hx
    have hf₂ : s₂.frames = .throwing x :: .java g :: U.frames.tail := hend
    have hs₂ : s₂ = ((({ U with heap := s₂.heap, slotsUsed := s₂.slotsUsed } : State).setVm s₂.vm).setTop g).pushFrame (.throwing x) := by
      refine e3.trans ?_
      rw [hf₂, State.calling_eq h.top, State.setFrames_setFrames, State.pushFrame, State.frames_setTop _ hr', State.setTop_of_frames _ hr', State.setFrames_setFrames, hr]
      rfl
    rw [← hs₂]
    exact hsteps
/-- the note 'a is thrown' over the frame g -/
def P_WT (p : Program) (l : Launch) (e : Env) (R : Room) (s : State) (m : MethodId) (args : Array Value) (below : List Frame) (meth : Method) (c : Code) (H : Heap) (locs : List Loc) (cells slots : Nat) (Q : State → Prop) (g : JFrame) (a : Addr) : Prop :=
  ∀ T : State, T.heap = H → Stand p l e R s m args below meth c T locs cells slots → ∃ t, Steps p.tables e below ((T.setTop g).pushFrame (.throwing a)) t ∧ Q t
variable {H : Heap} {Q : State → Prop} {pc : Nat} {lsA : Array Slot} {st : List Value}
theorem s_athrow (hx : p.tables.exec = Jvm.exec) {cc : ByteArray} (hb : c.code = cc) {a : Addr} (hd : decode cc pc = .ok (.athrow, 1)) (k : P_WT p l e R s m args below meth c H locs cells slots Q (F0 m pc lsA st) a) : W p l e R s m args below meth c H locs cells slots Q (F0 m pc lsA (.ref a :: st)) := by
  intro T hT X
  obtain ⟨t, h1, h2⟩ := k T hT X
  refine ⟨t, ?_, h2⟩
  subst hb
  jvm_step X.here [hx, hd, athrow.wp_sem]
  exact h1
theorem s_leave {Qc : Array Value → State → Outcome → State → Prop} {free : Addr → Prop} {a : Addr} (hlk : meth.locks = false) (hout : ∀ z ∈ c.exceptionTable.toList, covers z pc = false) (hq : ∀ t : State, t.heap = H → s.WarmedH t.vm → Qc args s (.threw a) t) (hf : ∀ q ∈ locs, free q.base) : P_WT p l e R s m args below meth c H locs cells slots (P_Q below Qc args s cells slots free) (F0 m pc lsA st) a := by
  intro T hT X
  obtain ⟨l1, l2, l3, l4, l5⟩ := X.leaveThrown a (g := F0 m pc lsA st) rfl rfl rfl hout hlk
  exact ⟨_, l1, .threw a, l2, l3, hq _ hT l4, locs, ⟨l4, l5⟩, hf⟩
theorem s_catch {a : Addr} {t : Nat} (hfind : ∀ T : State, T.heap = H → Stand p l e R s m args below meth c T locs cells slots → Finds e ((T.setTop (F0 m pc lsA st)).pushFrame (.throwing a)) (F0 m pc lsA st) a (.found t)) (k : W p l e R s m args below meth c H locs cells slots Q (F0 m t lsA [.ref a])) : P_WT p l e R s m args below meth c H locs cells slots Q (F0 m pc lsA st) a := by
  intro T hT X
  obtain ⟨u, h1, h2⟩ := k T hT X
  exact ⟨u, X.catchAt a (g := F0 m pc lsA st) rfl (hfind T hT X) h1, h2⟩
end PEN
end
section
/-! ===== a catch: the rows of the handler table one by one, their kinds linked by then or not yet ===== -/
section PCA
variable {e : Env} {f : JFrame} {a : Addr}
theorem p_rowNo {Q : Handler → Pre} {E : CtlPost} {d : Bool} {acts : List Action} {s : State} {z : ExceptionTableEntry} {t : List ExceptionTableEntry} {k : ClassId} {cell : Cell} (hz : covers z f.pc = true) (h0 : z.catchType ≠ 0) (hl : s.vm.ClassLinks e.platform f.method.cls z.catchType k) (hcell : s.heap[a]? = some cell) (hobj : ∀ q, cell.vm ≠ .statics q) (hk : ∃ q, s.vm.classes[cell.cls]? = some q) (hc : ∃ q, s.vm.classes[k]? = some q) (hno : s.vm.assignable cell.cls k = false) :
    wp (findHandler.go f a (z :: t)) Q E e d acts s ↔ wp (findHandler.go f a t) Q E e d acts (s.setVm (s.vm.noted f.method.cls z.catchType (.cls k))) := by
  simp only [covers] at hz
  obtain ⟨ha, ht⟩ := (resolveClass_links e.toSetting hl).op (op := VmOp.resolveClass f.method.cls z.catchType) rfl
  have hal : s.vm.Alike (s.vm.noted f.method.cls z.catchType (.cls k)) := (Vm.Alike.refl s.vm).noted _ _ _
  obtain ⟨k1, hk1⟩ := hk
  obtain ⟨k2, hk2⟩ := hc
  obtain ⟨q1, hq1, -⟩ := hal.2.2 _ _ hk1
  obtain ⟨q2, hq2, -⟩ := hal.2.2 _ _ hk2
  have hn : (s.vm.noted f.method.cls z.catchType (.cls k)).assignable cell.cls k = false := by rw [hal.assignable]; exact hno
  simp [findHandler.go, hz, h0, ha, ht, hcell, hobj, hq1, hq2, hn, VmOp.dirties, VmOp.acts]
theorem p_rowYes {Q : Handler → Pre} {E : CtlPost} {d : Bool} {acts : List Action} {s : State} {z : ExceptionTableEntry} {t : List ExceptionTableEntry} {k : ClassId} {cell : Cell} (hz : covers z f.pc = true) (h0 : z.catchType ≠ 0) (hl : s.vm.ClassLinks e.platform f.method.cls z.catchType k) (hcell : s.heap[a]? = some cell) (hobj : ∀ q, cell.vm ≠ .statics q) (hk : ∃ q, s.vm.classes[cell.cls]? = some q) (hc : ∃ q, s.vm.classes[k]? = some q) (hyes : s.vm.assignable cell.cls k = true) :
    wp (findHandler.go f a (z :: t)) Q E e d acts s ↔ Q (.found z.handlerPc) d acts (s.setVm (s.vm.noted f.method.cls z.catchType (.cls k))) := by
  simp only [covers] at hz
  obtain ⟨ha, ht⟩ := (resolveClass_links e.toSetting hl).op (op := VmOp.resolveClass f.method.cls z.catchType) rfl
  have hal : s.vm.Alike (s.vm.noted f.method.cls z.catchType (.cls k)) := (Vm.Alike.refl s.vm).noted _ _ _
  obtain ⟨k1, hk1⟩ := hk
  obtain ⟨k2, hk2⟩ := hc
  obtain ⟨q1, hq1, -⟩ := hal.2.2 _ _ hk1
  obtain ⟨q2, hq2, -⟩ := hal.2.2 _ _ hk2
  have hn : (s.vm.noted f.method.cls z.catchType (.cls k)).assignable cell.cls k = true := by rw [hal.assignable]; exact hyes
  simp [findHandler.go, hz, h0, ha, ht, hcell, hobj, hq1, hq2, hn, VmOp.dirties, VmOp.acts]
/-- what a row of the table is worth, at the method's start s₀, against a thrown object of the kind 'thrown' -/
def P_row (pl : Platform) (s₀ : State) (own : ClassId) (thrown : ClassId) (ci : Nat) (z : ExceptionTableEntry) (w : Nat × Nat × Nat × Nat) : Prop :=
  z.startPc = w.1 ∧ z.endPc = w.2.1 ∧ z.handlerPc = w.2.2.1 ∧ z.catchType ≠ 0 ∧ ∃ k : ClassId, s₀.vm.ClassLinks pl own z.catchType k ∧ s₀.vm.assignable thrown k = Nat.beq ci w.2.2.2
def P_rows (pl : Platform) (s₀ : State) (own : ClassId) (thrown : ClassId) (ci : Nat) : List ExceptionTableEntry → List (Nat × Nat × Nat × Nat) → Prop
  | [], [] => True
  | z :: zs, w :: ws => P_row pl s₀ own thrown ci z w ∧ P_rows pl s₀ own thrown ci zs ws
  | _, _ => False
theorem p_search {s₀ : State} {cell : Cell} {ci : Nat} (hobj : ∀ q, cell.vm ≠ .statics q) (hk0 : ∃ q, s₀.vm.classes[cell.cls]? = some q) {t : Nat} : ∀ (E0 : List ExceptionTableEntry) (hh : List (Nat × Nat × Nat × Nat)) (S : State), P_rows e.platform s₀ f.method.cls cell.cls ci E0 hh → s₀.WarmedH S.vm → S.heap[a]? = some cell → p_hfind ci f.pc hh = some t →
    ∃ vm', s₀.WarmedH vm' ∧ ∀ (Q : Handler → Pre) (E : CtlPost) (d : Bool) (acts : List Action), wp (findHandler.go f a E0) Q E e d acts S ↔ Q (.found t) d acts (S.setVm vm') := by
  obtain ⟨k0, hk0⟩ := hk0
  intro E0
  induction E0 with
  | nil =>
    intro hh S hf hW hc ht
    cases hh with
    | nil => cases ht
    | cons w ws => exact absurd hf (fun z => z)
  | cons z zs ih =>
    intro hh S hf hW hc ht
    cases hh with
    | nil => exact absurd hf (fun z => z)
    | cons w ws =>
      obtain ⟨hr, hrest⟩ := hf
      obtain ⟨r1, r2, r3, r4, k, r5, r6⟩ := hr
      obtain ⟨dk, _, _, kt, hd, _, _, _, _, hkt, _, hopen⟩ := r5.here
      obtain ⟨k0', hk0', -⟩ := hW.alike.2.2 _ _ hk0
      obtain ⟨kt', hkt', -⟩ := hW.alike.2.2 _ _ hkt
      obtain ⟨wa, wb, wt, wc⟩ := w
      dsimp only at r1 r2 r3 r6
      unfold p_hfind at ht
      by_cases hcov : covers z f.pc = true
      · have hcv : (Nat.ble wa f.pc && Nat.blt f.pc wb) = true := by
          simp only [covers, Bool.and_eq_true, decide_eq_true_eq] at hcov
          rw [Bool.and_eq_true]
          exact ⟨Nat.ble_eq_true_of_le (by rw [← r1]; exact hcov.1), Nat.ble_eq_true_of_le (by rw [← r2]; exact hcov.2)⟩
        rw [hcv, Bool.true_and] at ht
        cases hb : Nat.beq ci wc with
        | true =>
          rw [hb] at ht r6
          have e1 : wt = t := Option.some.inj ht
          refine ⟨_, hW.noted hd hopen (State.rightAt_cls r5), fun Q E d acts => ?_⟩
          rw [← e1, ← r3]
          exact p_rowYes hcov r4 (hW.classLinks r5) hc hobj ⟨k0', hk0'⟩ ⟨kt', hkt'⟩ (by rw [hW.alike.assignable]; exact r6)
        | false =>
          rw [hb] at ht r6
          obtain ⟨vm', hW', hq⟩ := ih ws (S.setVm (S.vm.noted f.method.cls z.catchType (.cls k))) hrest (hW.noted hd hopen (State.rightAt_cls r5)) hc ht
          refine ⟨vm', hW', fun Q E d acts => ?_⟩
          rw [p_rowNo hcov r4 (hW.classLinks r5) hc hobj ⟨k0', hk0'⟩ ⟨kt', hkt'⟩ (by rw [hW.alike.assignable]; exact r6)]
          exact hq Q E d acts
      · have hcv : (Nat.ble wa f.pc && Nat.blt f.pc wb) = false := by
          cases h9 : (Nat.ble wa f.pc && Nat.blt f.pc wb) with
          | false => rfl
          | true =>
            exfalso
            apply hcov
            rw [Bool.and_eq_true] at h9
            simp only [covers, Bool.and_eq_true, decide_eq_true_eq]
            exact ⟨by rw [r1]; exact Nat.le_of_ble_eq_true h9.1, by rw [r2]; exact Nat.le_of_ble_eq_true h9.2⟩
        rw [hcv, Bool.false_and] at ht
        obtain ⟨vm', hW', hq⟩ := ih ws S hrest hW hc ht
        refine ⟨vm', hW', fun Q E d acts => ?_⟩
        rw [Jvm.W.findHandler_go_skip (by simpa using hcov)]
        exact hq Q E d acts
theorem p_stepCatch {s : State} {r : List Frame} {pc : Nat} {vm' : Vm} (hfind : ∀ (Q : Handler → Pre) (E : CtlPost) (d : Bool) (acts : List Action), wp (findHandler f a) Q E e d acts s ↔ Q (.found pc) d acts (s.setVm vm')) :
    (stepThrowing e s a (.java f :: r)).Is ((s.setVm vm').setFrames (.java { f with pc := pc, stack := [.ref a] } :: r)) [] := by
  simp only [stepThrowing, searchFrame, vmDo]
  generalize hr : Sem.go _ e false [] s = res
  obtain ⟨as, rfl, ha⟩ := Sem.eq_ok_of hr (a := Handler.found pc) (s' := s.setVm vm') (acts' := []) (by simp [hfind _ _ _ _])
  exact ⟨rfl, ha⟩
theorem p_caughtTo {tb : Tables} {s target : State} {g : JFrame} {c : Code} {below : List Frame} (h : At s g.method c below) {pc : Nat} {vm' : Vm}
    (hfind : ∀ (Q : Handler → Pre) (E : CtlPost) (d : Bool) (acts : List Action), wp (findHandler g a) Q E e d acts ((s.setTop g).pushFrame (.throwing a)) ↔ Q (.found pc) d acts (((s.setTop g).pushFrame (.throwing a)).setVm vm')) (hrest : Steps tb e below ((s.setVm vm').setTop { g with pc := pc, stack := [.ref a] }) target) :
    Steps tb e below ((s.setTop g).pushFrame (.throwing a)) target := by
  obtain ⟨hgo, hw⟩ := h.throwing a
  refine Steps.head hgo hw ?_
  rw [stepThread_throwing (frames_entered h.top _), (p_stepCatch (s := (s.setTop g).pushFrame (.throwing a)) hfind).1]
  obtain ⟨g₀, hg⟩ := Option.isSome_iff_exists.mp h.top
  obtain ⟨r, hr⟩ := State.topJava?_eq_some.mp hg
  have hr' : (s.setVm vm').frames = .java g₀ :: r := hr
  rw [State.setTop_of_frames _ hr'] at hrest
  have key : ∀ (u : State) (F G : List Frame), ((u.setFrames F).setVm vm').setFrames G = (u.setVm vm').setFrames G := by
    intro u F G
    have h1 : (u.setFrames F).setVm vm' = (u.setVm vm').setFrames F := rfl
    rw [h1, State.setFrames_setFrames]
  rw [hr, List.tail_cons, State.pushFrame, key, State.setTop_of_frames _ hr, key]
  exact hrest
end PCA
end
section
/-! ===== the constructor of a thrown object: 'invokespecial E.<init>(String)', no trace ===== -/
section PXC
variable {p : Program} {l : Launch} {e : Env} {R : Room} {s : State} {m : MethodId} {args : Array Value} {below : List Frame} {meth : Method} {c : Code} {H : Heap} {locs : List Loc} {cells slots : Nat} {Q : State → Prop} {pc : Nat} {lsA : Array Slot} {rest : List Value}
set_option maxHeartbeats 2000000 in
theorem s_exinit (hx : p.tables.exec = Jvm.exec) {cc : ByteArray} (hb : c.code = cc) (htr : ∀ e : Env, l.admits e → e.platform.stackTraces = false) {own cls : String} {names : List String} {ic : Nat}
    (hown : s.vm.findClass own = some m.cls) (hcls : Bundle.fit cls = true) (hnames : ∀ n ∈ names, Bundle.fit n = true) (h : ∀ a ∈ Bundle.ownAtoms own ic cls names, a.before args s = true)
    (hlocs : ∀ z ∈ locs, ∀ cell, s.heap[z.base]? = some cell → cell.vm.isStatics = false) {a b : Addr} {cX : ClassId} {kX : Class} (hfoundX : s.vm.findClass cls = some cX) (hkX : s.vm.classes[cX]? = some kX) (hcell : H[a]? = some (blank cX kX)) (hnew : s.heap.size ≤ a)
    (hsize : lsA.size = c.maxLocals) (hd6 : decode cc pc = .ok (.invokespecial ic, 3)) (hRframes : names.length + 3 < R.frames) (hRlocals : ((Value.ref a :: rest).map fun v => v.category).sum + (13 * (names.length + 1) + 42) ≤ R.locals)
    (kk : ∀ H1 : Heap, H1.size = H.size → (∀ q : Nat, q ≠ a → H1[q]? = H[q]?) → (∃ ce : Cell, H1[a]? = some ce ∧ ce.cls = cX ∧ ce.vm = .none) → W p l e R s m args below meth c H1 locs cells slots Q (F0 m (pc + 3) lsA (.ref a :: rest))) :
    W p l e R s m args below meth c H locs cells slots Q (F0 m pc lsA (.ref b :: .ref a :: .ref a :: rest)) := by
  intro T hT X
  subst hb
  have htr := htr e X.admits
  have howns : e.platform.frameOwnsMonitors = true := by rw [X.admits.platform]
  have hfin : e.platform.finalization = false := by rw [X.admits.platform]
  have hpl : e.platform.magicAccessors = ({} : Platform).magicAccessors := by rw [X.admits.platform]
  have hcellT : T.heap[a]? = some (freshCell cX kX) := by rw [hT]; exact hcell
  have hmsg : (Value.ref b).isRef = true := rfl
  have a' : ∀ z, z ∈ Bundle.ownAtoms own ic cls names → z.holds args s none s [] = true := fun z hz => h z hz
  obtain ⟨Th, Z0, L, -, Y⟩ := ThrowableC.of_atoms (args := args) howns hfin hpl (fun z hz => h z (by simp [Bundle.ownAtoms, hz]))
  obtain ⟨Z, M, LZ, LM, hnZ⟩ := Init0T.ofS_atoms (args := args) hpl L Y (fun z hz => h z (by simp [Bundle.ownAtoms, hz]))
  obtain ⟨P1, Ps, hlen, L1, hL, hP1m, hlink1, hlink⟩ := Bundle.chainS (args := args) hpl hnZ names cls hcls hnames (fun z hz => h z (by simp [Bundle.ownAtoms, hz]))
  have hfound : s.vm.findClass cls = some P1.m.cls := findClass_of_methodNamed hP1m
  cases Option.some.inj (hfoundX.symm.trans hfound)
  obtain ⟨c1, kX', hc1, hk, hord, -, -, hn6⟩ := Cond.instantiable_spec (a' (.instantiable cls 6) (by simp [Bundle.ownAtoms]))
  cases Option.some.inj (hc1.symm.trans hfound)
  cases Option.some.inj (hkX.symm.trans hk)
  have hsel0 : selectMethod e.platform s.vm P1.m.cls Th.fill0 = .method Th.fill0 := by
    obtain ⟨c2, r2, m2, q1, q2, q3, q4, -⟩ := Cond.selects_spec (a' (.selects cls Bundle.tFill0 Bundle.tFill0) (by simp [Bundle.ownAtoms]))
    cases Option.some.inj (q1.symm.trans hfound)
    cases Option.some.inj (q2.symm.trans (State.methodFound?_of_named Y.fill0 (by decide)))
    cases Option.some.inj (q3.symm.trans Y.fill0)
    rw [Launch.admits_selectMethod X.admits]; exact q4
  have hselF : selectMethod e.platform s.vm P1.m.cls Th.fill = .method Th.fill := by
    obtain ⟨c2, r2, m2, q1, q2, q3, q4, -⟩ := Cond.selects_spec (a' (.selects cls Bundle.tFill Bundle.tFill) (by simp [Bundle.ownAtoms]))
    cases Option.some.inj (q1.symm.trans hfound)
    cases Option.some.inj (q2.symm.trans (State.methodFound?_of_named Y.fill (by decide)))
    cases Option.some.inj (q3.symm.trans Y.fill)
    rw [Launch.admits_selectMethod X.admits]; exact q4
  obtain ⟨cellS0, hcS0, hiss⟩ := Y.statics
  obtain ⟨u0, hu0⟩ := Cond.staticRefV Y.unassigned L.unassignedStatic L.statics hcS0 hiss (a' (.isRef (.static Bundle.tN "UNASSIGNED_STACK" Bundle.steD)) (by simp [Bundle.ownAtoms]))
  obtain ⟨sen, hsen⟩ := Cond.staticRefV Y.sentinel L.sentinelStatic L.statics hcS0 hiss (a' (.isRef (.static Bundle.tN "SUPPRESSED_SENTINEL" Bundle.listD)) (by simp [Bundle.ownAtoms]))
  obtain ⟨ci198, i198, fB, hk198, hg198, ha198, hsB, -, hnB, htB, hffB⟩ := Cond.ownField (t := .object "java/lang/Object") Y.found L.cls (by decide +kernel) (a' (.fieldLink Bundle.tN 198 Bundle.tN "backtrace" "Ljava/lang/Object;") (by simp [Bundle.ownAtoms])) (a' (.lays Bundle.tN Bundle.tN "backtrace" "Ljava/lang/Object;") (by simp [Bundle.ownAtoms])) e.platform hpl
  obtain ⟨cellS, hcS', heS, -, hkeep⟩ := X.same.2.2.2.2.2 Th.aS cellS0 hcS0
  have hcellS : T.heap[Th.aS]? = some cellS := hcS'
  have hout' : ∀ i, (⟨Th.aS, i⟩ : Loc) ∉ locs := fun i hmem => by
    have := hlocs _ hmem cellS0 hcS0
    rw [hiss] at this; cases this
  have hknownS : cellS.vm ≠ .unknown := by
    rw [heS]; intro hu
    rw [show cellS0.vm = .unknown from hu] at hiss
    cases hiss
  have hneS : Th.aS ≠ a := Nat.ne_of_lt (Nat.lt_of_lt_of_le (Array.getElem?_eq_some_iff.mp hcS0).1 hnew)
  obtain ⟨iM, hffM⟩ := Y.msg
  obtain ⟨tyC, dC, hdC, hdnC⟩ := Cond.laysAt hfound hk Y.cause (a' (.lays cls Bundle.tN "cause" "Ljava/lang/Throwable;") (by simp [Bundle.ownAtoms]))
  obtain ⟨tyS, dS, hdS, hdnS⟩ := Cond.laysAt hfound hk Y.stack (a' (.lays cls Bundle.tN "stackTrace" Bundle.steD) (by simp [Bundle.ownAtoms]))
  obtain ⟨tyP, dP, hdP, hdnP⟩ := Cond.laysAt hfound hk Y.supp (a' (.lays cls Bundle.tN "suppressedExceptions" Bundle.listD) (by simp [Bundle.ownAtoms]))
  obtain ⟨tyM, dM, hdM, hdnM⟩ := Cond.laysAt hfound hk hffM (a' (.lays cls Bundle.tN "detailMessage" "Ljava/lang/String;") (by simp [Bundle.ownAtoms]))
  obtain ⟨tyB, dB, hdB, hdnB⟩ := Cond.laysAt hfound hk hffB (a' (.lays cls Bundle.tN "backtrace" "Ljava/lang/Object;") (by simp [Bundle.ownAtoms]))
  have bC := Cond.laysApart hdB hdC hdnB hdnC (by rw [hnB, Y.causeName]; decide)
  have bS := Cond.laysApart hdB hdS hdnB hdnS (by rw [hnB, Y.stackName]; decide)
  have bP := Cond.laysApart hdB hdP hdnB hdnP (by rw [hnB, Y.suppName]; decide)
  have hskip : SkipFacts Th e.platform s (fun u => u) u0 ((preparedCellV Th.toThrowableT (freshCell P1.m.cls kX) a u0 sen).withEntry T.cur) :=
    ⟨{ ci198 := ci198, i198 := i198, fBack := fB }, ⟨hk198, hg198, ha198, hsB⟩, by
      have := fresh_default (c := P1.m.cls) tyB
      rw [htB] at this
      simpa [preparedCellV, Cell.setSlot, Cell.withEntry, Array.getElem?_setIfInBounds, bC, bS, bP, bC.symm, bS.symm, bP.symm, defaultValue] using this, fun _ _ => rfl⟩
  obtain ⟨tm, methC, cdC, kC, vm₁, hnC, -, -, -, -, -, -, -, hW₁, st1⟩ := Steps.initColdS (tb := p.tables) (e := e) (below := below) (s := s) (U := T) X.here hx X.warmed hpl hown (t := Bundle.initS cls) rfl rfl (Bundle.fit_spec hcls).2
    (a' (.methodLink own ic (Bundle.initS cls)) (by simp [Bundle.ownAtoms])) (h (.instanceMethod (Bundle.initS cls)) (by cases names <;> simp [Bundle.ownAtoms, Bundle.chainSAtoms, Bundle.passSAtoms])) (bytes := Bundle.six) (maxL := 2) (h (.code (Bundle.initS cls) Bundle.six 2 none) (by cases names <;> simp [Bundle.ownAtoms, Bundle.chainSAtoms, Bundle.passSAtoms]))
    (f := F0 m pc lsA (.ref b :: .ref a :: .ref a :: rest)) rfl (a := a) (msg := .ref b) (rest := .ref a :: rest) rfl hd6
  cases Option.some.inj (hnC.symm.trans hP1m)
  have X₁ := X.noted hW₁
  obtain ⟨vm₂, X₂, st2⟩ := X₁.ctorMessageOffV hx (g := F0 m pc lsA (.ref a :: rest)) rfl hsize Th L Z LZ M LM (P1 :: Ps)
    (fun P hP => by rcases List.mem_cons.mp hP with rfl | hP; exact L1; exact hL P hP) ⟨hlink1, hlink⟩ (u0 := u0) (sen := sen) (self := a) hmsg (cell := freshCell P1.m.cls kX) (cellS := cellS)
    hcellT (fun _ => by simp) (by simp) rfl rfl hsel0 hselF hcellS hneS hknownS (by rw [hkeep _ (hout' _)]; exact hu0) (by rw [hkeep _ (hout' _)]; exact hsen)
    (Takes.of_laid hk hord tyC (by rw [Y.causeType]; rfl)) (Takes.of_laid hk hord tyS (by rw [Y.stackType]; exact fits_refV_array _ u0)) (Takes.of_laid hk hord tyP (by rw [Y.suppType]; exact fits_refV_object _ sen))
    (Takes.of_laid hk hord tyM (by rw [Y.msgType]; exact fits_refV_object _ ⟨.ref b, hmsg⟩)) Y.objLocals hskip htr [] hd6
    (by simp only [List.length_cons, hlen]; omega) (by simp only [List.length_cons, hlen]; exact Nat.le_trans (Nat.le_of_eq (by omega)) hRlocals)
  have hlt : a < T.heap.size := (Array.getElem?_eq_some_iff.mp hcellT).1
  have X₃ := Stand.forget X₂ (fun y hy => by
    simp only [List.mem_cons, List.not_mem_nil, or_false] at hy
    rcases hy with rfl | rfl | rfl | rfl | rfl <;> exact hnew)
  obtain ⟨t, a1, b1⟩ := kk (T.heap.setIfInBounds a (plainBareV Th.toThrowableT (freshCell P1.m.cls kX) a u0 sen (.ref b))) (by rw [Array.size_setIfInBounds, hT]) (fun q hq => by rw [Array.getElem?_setIfInBounds_ne (Ne.symm hq), hT]) ⟨_, Array.getElem?_setIfInBounds_self_of_lt hlt, rfl, rfl⟩ _ rfl X₃
  refine ⟨t, st1 _ (fun acts => ?_), b1⟩
  rw [doInvoke_state]
  exact st2 _ a1
end PXC
end
section
theorem p_words_sum (base : Nat) (ex : Nat → Nat) : ∀ st : List Value, ((st.map (c_V base ex)).map fun v => v.category).sum = p_words st := by
  intro st
  induction st with
  | nil => rfl
  | cons v t ih =>
    simp only [List.map_cons, List.sum_cons, ih, c_V_cat]
    cases v <;> simp [p_words, Value.category] <;> omega
/-! ===== throw new E(text), walked ===== -/
theorem p_stref {C n d : String} {A : Nat → Prop} {s : State} {args : Array Value} (h : va_Zq C n d A s s.heap) : (Cond.isRef (.static C n d)).before args s = true := by
  rcases h with h | ⟨t, h⟩
  · obtain ⟨cf, kf, fi, f, a, cell, h1, h2, h3, h4, h5, h6, h7, -⟩ := h
    simp [Cond.before, Cond.holds, Cond.value, Term.eval, State.fieldNamed?, h1, h2, h4, h5, h6, h7, Value.isRef]
  · obtain ⟨cf, kf, fi, f, a, cell, h1, h2, h3, h4, h5, h6, h7, -⟩ := h
    simp [Cond.before, Cond.holds, Cond.value, Term.eval, State.fieldNamed?, h1, h2, h4, h5, h6, h7, Value.isRef]
theorem P_R.plain {D : va_G} {base : Nat} {ex : Nat → Nat} {cA : FieldType → ClassId} {h : List pE} {H : Heap} (hP : P_R D base ex cA h H) {q : Nat} (hq : base ≤ q) {cell : Cell} (hc : H[q]? = some cell) : cell.vm = .none := by
  have hlt : q < base + h.length := by rw [← hP.1]; exact (Array.getElem?_eq_some_iff.mp hc).1
  have hk : q - base < h.length := by omega
  have hat := hP.2 (q - base) h[q - base] (List.getElem?_eq_getElem hk)
  rw [show base + (q - base) = q by omega] at hat
  generalize h[q - base] = z at hat
  cases z with
  | inl z =>
    obtain ⟨ty, n, f⟩ := z
    have h1 : H[q]? = some (vp_cell (cA ty) (n, f)) := hat
    cases h1.symm.trans hc
    rcases f with f | f | f | f | f <;> rfl
  | inr z =>
    obtain ⟨r, -, cell', h1, -, h3, -⟩ := hat
    cases h1.symm.trans hc
    exact h3
def p_exN : List String := ["java/lang/RuntimeException", "java/lang/Exception"]
def p_exU : Cond := .isRef (.static Bundle.tN "UNASSIGNED_STACK" Bundle.steD)
def p_exS : Cond := .isRef (.static Bundle.tN "SUPPRESSED_SENTINEL" Bundle.listD)
def p_exU2 : Cond := .laysStatic Bundle.tN "UNASSIGNED_STACK" Bundle.steD
def p_exS2 : Cond := .laysStatic Bundle.tN "SUPPRESSED_SENTINEL" Bundle.listD
def p_exA (o q ci : Nat) : Prop := ∃ cls, vwCl[ci]? = some (cls, TE, 0) ∧ Bundle.fit cls = true ∧ (∀ w ∈ Bundle.ownAtoms (p_cn o) q cls p_exN, w ∈ lw_g ∨ w = p_exU ∨ w = p_exS ∨ w = p_exU2 ∨ w = p_exS2 ∨ w ∈ p_dcW) ∧ Cond.instantiable cls (p_csl ci) ∈ lw_g ∧ Cond.initialized cls ∈ lw_g
theorem p_exNf : ∀ n ∈ p_exN, Bundle.fit n = true := by decide +kernel
def p_exnP (o i : Nat) (a : Nat) : Prop := ∃ cls, vwCl[a]? = some (cls, TE, 0) ∧ Cond.classLink (p_cn o) i cls ∈ lw_g
theorem p_thr_inv {mi pc ci : Nat} {ins : Instr} (h : p_thr mi pc ins = some ci) : ∃ i j q sj, ins = .new i ∧ p_exn (p_own mi) i = some ci ∧ p_code mi (pc + 3) = some (.dup, 1) ∧ p_code mi (pc + 4) = some (.ldc j, 2) ∧ p_code mi (pc + 6) = some (.invokespecial q, 3) ∧ p_code mi (pc + 9) = some (.athrow, 1) ∧ (p_own mi, q, ci) ∈ p_exiL ∧ p_str (p_own mi) j = some sj := by
  unfold p_thr at h
  split at h
  · next i =>
    split at h
    · cases h
    · next cj h1 =>
      split at h
      · next h2 =>
        split at h
        · next j h3 =>
          split at h
          · next q h4 =>
            split at h
            · next h5 =>
              cases hb : p_exi (p_own mi) cj j q with
              | false => rw [hb] at h; cases h
              | true =>
                rw [hb] at h
                have e : cj = ci := Option.some.inj h
                subst e
                unfold p_exi at hb
                rw [Bool.and_eq_true] at hb
                obtain ⟨z, hz, hb1⟩ := List.any_eq_true.mp hb.1
                rw [Bool.and_eq_true, Bool.and_eq_true] at hb1
                obtain ⟨sj, hsj⟩ := Option.isSome_iff_exists.mp hb.2
                refine ⟨i, j, q, sj, rfl, h1, h2, h3, h4, h5, ?_, hsj⟩
                obtain ⟨z1, z2, z3⟩ := z
                have e1 := Nat.eq_of_beq_eq_true hb1.1.1
                have e2 := Nat.eq_of_beq_eq_true hb1.1.2
                have e3 := Nat.eq_of_beq_eq_true hb1.2
                dsimp only at e1 e2 e3
                rw [← e1, ← e2, ← e3]
                exact hz
            · cases h
          · cases h
        · cases h
      · cases h
  · cases h
end
section
theorem xa_7 : p_exA 5 72 7 := ⟨_, rfl, by decide +kernel, by decide +kernel, p_t 449 (by decide +kernel), p_t 17 (by decide +kernel)⟩
theorem xa_8 : p_exA 5 142 8 := ⟨_, rfl, by decide +kernel, by decide +kernel, p_t 522 (by decide +kernel), p_t 18 (by decide +kernel)⟩
theorem xa_9 : p_exA 5 187 9 := ⟨_, rfl, by decide +kernel, by decide +kernel, p_t 566 (by decide +kernel), p_t 19 (by decide +kernel)⟩
theorem xa_10 : p_exA 5 100 10 := ⟨_, rfl, by decide +kernel, by decide +kernel, p_t 607 (by decide +kernel), p_t 20 (by decide +kernel)⟩
theorem xa_11 : p_exA 5 163 11 := ⟨_, rfl, by decide +kernel, by decide +kernel, p_t 704 (by decide +kernel), p_t 21 (by decide +kernel)⟩
theorem p_exi_ok : ∀ z ∈ p_exiL, p_exA z.1 z.2.1 z.2.2 := List.forall_mem_cons.mpr ⟨xa_7, List.forall_mem_cons.mpr ⟨xa_8, List.forall_mem_cons.mpr ⟨xa_9, List.forall_mem_cons.mpr ⟨xa_10, List.forall_mem_cons.mpr ⟨xa_11, fun _ h => absurd h List.not_mem_nil⟩⟩⟩⟩⟩
theorem xn_12_13 : p_exnP 12 13 7 := ⟨_, rfl, p_t 441 (by decide +kernel)⟩
theorem xn_12_15 : p_exnP 12 15 8 := ⟨_, rfl, p_t 442 (by decide +kernel)⟩
theorem xn_12_17 : p_exnP 12 17 9 := ⟨_, rfl, p_t 443 (by decide +kernel)⟩
theorem xn_5_68 : p_exnP 5 68 7 := ⟨_, rfl, p_t 448 (by decide +kernel)⟩
theorem xn_5_138 : p_exnP 5 138 8 := ⟨_, rfl, p_t 521 (by decide +kernel)⟩
theorem xn_5_183 : p_exnP 5 183 9 := ⟨_, rfl, p_t 565 (by decide +kernel)⟩
theorem xn_12_26 : p_exnP 12 26 10 := ⟨_, rfl, p_t 600 (by decide +kernel)⟩
theorem xn_5_96 : p_exnP 5 96 10 := ⟨_, rfl, p_t 606 (by decide +kernel)⟩
theorem xn_12_43 : p_exnP 12 43 11 := ⟨_, rfl, p_t 696 (by decide +kernel)⟩
theorem xn_5_159 : p_exnP 5 159 11 := ⟨_, rfl, p_t 703 (by decide +kernel)⟩
theorem p_exnA : p_all2 p_exnL p_exnP := List.forall_mem_cons.mpr ⟨List.forall_mem_cons.mpr ⟨xn_5_68, List.forall_mem_cons.mpr ⟨xn_5_96, List.forall_mem_cons.mpr ⟨xn_5_138, List.forall_mem_cons.mpr ⟨xn_5_159, List.forall_mem_cons.mpr ⟨xn_5_183, fun _ h => absurd h List.not_mem_nil⟩⟩⟩⟩⟩, List.forall_mem_cons.mpr ⟨List.forall_mem_cons.mpr ⟨xn_12_13, List.forall_mem_cons.mpr ⟨xn_12_15, List.forall_mem_cons.mpr ⟨xn_12_17, List.forall_mem_cons.mpr ⟨xn_12_26, List.forall_mem_cons.mpr ⟨xn_12_43, fun _ h => absurd h List.not_mem_nil⟩⟩⟩⟩⟩, fun _ h => absurd h List.not_mem_nil⟩⟩
end
section
section PTH
variable {p : Program} {l : Launch} {e : Env} {R : Room} {s : State} {m : MethodId} {args : Array Value} {below : List Frame} {meth : Method} {c : Code} {H : Heap} {locs : List Loc} {cells slots : Nat} {Q : State → Prop}
variable {D : va_G} {base : Nat} {ex : Nat → Nat} {cA : FieldType → ClassId} {X : pX} {lsA : Array Slot} {ls : pL} {st : List Value} {h h0 : List pE} {mi pc ci d len : Nat} {ins : Instr}
set_option maxHeartbeats 2000000 in
theorem s_thrown (htr : ∀ e : Env, l.admits e → e.platform.stackTraces = false) (C : P_C X D base ex cA p s m args meth c mi) (hc : p_code mi pc = some (ins, len)) (ht : p_thr mi pc ins = some ci) (hC : 8 ≤ d ∧ p_words st ≤ 4 ∧ p_hh mi = []) (hP : P_R D base ex cA h H) (hS : va_S (p_A base) s.heap H locs) (hL : P_L base ex (p_maxL mi) ls lsA) (hR : d ≤ R.frames ∧ 60 * d ≤ R.locals) (hle0 : p_le h0 h) (hc1 : (h ++ [(.inr (ci, []) : pE)]).length - h0.length ≤ R.cells) (hc2 : p_S (h ++ [(.inr (ci, []) : pE)]) - p_S h0 ≤ R.slots)
    (hk : ∀ (H1 : Heap) (locs1 : List Loc) (pcr : Nat) (st1 : List Value), P_R D base ex cA (h ++ [.inr (ci, [])]) H1 → va_S (p_A base) s.heap H1 locs1 → P_WT p l e R s m args below meth c H1 locs1 ((h ++ [(.inr (ci, []) : pE)]).length - h0.length) (p_S (h ++ [(.inr (ci, []) : pE)]) - p_S h0) Q (F0 m pcr lsA st1) (base + h.length)) :
    W p l e R s m args below meth c H locs (h.length - h0.length) (p_S h - p_S h0) Q (F0 m pc lsA (st.map (c_V base ex))) := by
  obtain ⟨hx, hb, hts, hown, hret, hml, hlk, hctor, hK, hbase, hX, hraw, h00, hR00⟩ := C
  obtain ⟨i, j, q, sj, rfl, g1, g2, g3, g4, g5, g6, g7⟩ := p_thr_inv ht
  obtain ⟨cls, k1, k2, k3, k4, k5⟩ := p_exi_ok _ g6
  obtain ⟨cls', k6, k7⟩ := p_all2_ok p_exnA g1
  cases k1.symm.trans k6
  have hd := (p_code_ok hc).1
  have hl3 : len = 3 := (p_code_ok hc).2 rfl
  subst hl3
  obtain ⟨-, hfc, kC, hkC, hkind⟩ := hK.1 ci _ k1
  have a1 : (h ++ [(.inr (ci, []) : pE)]).length - h0.length = (h.length - h0.length) + 1 := by
    have := hle0.1
    simp only [List.length_append, List.length_cons, List.length_nil]
    omega
  have a2 : p_S (h ++ [(.inr (ci, []) : pE)]) - p_S h0 = (p_S h - p_S h0) + p_csl ci := by
    have := hle0.2
    rw [p_S_app]
    simp only [p_S, p_sz]
    omega
  rw [a1] at hc1 hk
  rw [a2] at hc2 hk
  refine W.newcK hx hb hown (hts _ k7) (hts _ k4) (hts _ k5) rfl hd hc1 hc2 (h := base + h.length) hfc hP.1 (fun H1 kX hkX e1 e2 e3 => ?_)
  refine W.eq (g2 := F0 m (pc + 3) lsA (.ref (base + h.length) :: st.map (c_V base ex))) rfl ?_
  refine lv_dup hx hb (p_code_ok g2).1 rfl ?_
  refine s_ldcS hx hb hown hX g7 (p_code_ok g3).1 ?_
  have hS1 : va_S (p_A base) s.heap H1 locs := by
    refine ⟨?_, fun q h1 h2 => ?_, hS.2.2⟩
    · rw [e2, ← hP.1]
      exact Nat.le_succ_of_le hS.1
    · rw [e3 q (by rw [← hP.1]; exact Nat.lt_of_lt_of_le h1 hS.1)]
      exact hS.2.1 q h1 h2
  have hw : ((Value.ref (base + h.length) :: st.map (c_V base ex)).map fun v => v.category).sum ≤ 5 := by
    have := p_words_sum base ex st
    simp only [List.map_cons, List.sum_cons]
    rw [this]
    show 1 + _ ≤ 5
    omega
  refine s_exinit (names := p_exN) hx hb htr hown k2 p_exNf (fun w hw2 => ?_) (fun z hz cell hcell => ?_) hfc hkX e1 (by rw [← hP.1]; exact hS.1) (by rw [hml]; exact hL.2.1) (p_code_ok g4).1 (by show 2 + 3 < _; omega) (by show _ + (13 * (2 + 1) + 42) ≤ _; omega) (fun H2 z1 z2 z3 => ?_)
  · obtain ⟨-, -, -, -, x5, x6, -, -, -, -, x12, x13, x14⟩ := hX
    rcases k3 w hw2 with k | k | k | k | k | k
    · exact hts w k
    · rw [k]; exact p_stref x5
    · rw [k]; exact p_stref x6
    · rw [k]; exact x12.use
    · rw [k]; exact x13.use
    · rcases p_dc_form w k with ⟨z, rfl⟩ | ⟨a, b, rfl⟩
      · exact va_Nw.use rfl (x14 _ k)
      · exact va_Nw.use rfl (x14 _ k)
  · rw [hR00.plain (hS.2.2 z hz) hcell]; rfl
  · obtain ⟨ce, y1, y2, y3⟩ := z3
    refine s_athrow hx hb (p_code_ok g5).1 ?_
    refine hk H2 locs (pc + 9) _ ⟨?_, fun k e9 hk9 => ?_⟩ ⟨?_, fun q9 h1 h2 => ?_, hS1.2.2⟩
    · rw [z1, e2, List.length_append, List.length_cons, List.length_nil]; omega
    · by_cases hkl : k < h.length
      · rw [List.getElem?_append_left hkl] at hk9
        refine (hP.2 k e9 hk9).kept ?_
        rw [z2 _ (by show base + k ≠ base + h.length; omega), e3 _ (by omega)]
      · rw [List.getElem?_append_right (by omega)] at hk9
        have hz : k - h.length < 1 := (List.getElem?_eq_some_iff.mp hk9).1
        have hk0 : k = h.length := by omega
        subst hk0
        rw [Nat.sub_self] at hk9
        cases hk9
        exact ⟨_, k1, ce, y1, y2, y3, fun k hk => absurd hk (Nat.not_lt_zero _)⟩
    · rw [z1]; exact hS1.1
    · rw [z2 q9 (by have := hS.1; rw [hP.1] at this; omega)]; exact hS1.2.1 q9 h1 h2
end PTH
end
section
/-! ===== a callee's throw, caught ===== -/
theorem p_find_map {α β : Type} (g : α → β) (k : Nat) : ∀ L : List (Nat × α), p_find k (L.map (fun q => (q.1, g q.2))) = (p_find k L).map g := by
  intro L
  induction L with
  | nil => rfl
  | cons q t ih =>
    obtain ⟨j, b⟩ := q
    show (bif Nat.beq j k then some (g b) else p_find k (t.map _)) = Option.map g (bif Nat.beq j k then some b else p_find k t)
    rw [ih]
    cases Nat.beq j k <;> rfl
def p_hw (r : Nat × Nat × Nat × Nat) : Nat × Nat × Nat × Nat := (r.1, r.2.1, r.2.2.1, (p_exn 12 r.2.2.2).getD 0)
theorem p_hhL_eq : p_hhL = p_rawL.map (fun q => (q.1, q.2.map p_hw)) := by decide +kernel
theorem p_hh_eq (mi : Nat) : p_hh mi = (p_raw mi).map p_hw := by
  unfold p_hh p_raw
  rw [p_hhL_eq, p_find_map (fun l : List (Nat × Nat × Nat × Nat) => l.map p_hw)]
  cases p_find mi p_rawL <;> rfl
theorem p_hh_raw {mi : Nat} (h : p_hh mi = []) : p_raw mi = [] := by
  rw [p_hh_eq] at h
  exact List.map_eq_nil_iff.mp h
def p_rawOK (r : Nat × Nat × Nat × Nat) : Prop := r.2.2.2 ≠ 0 ∧ ∃ cj, p_exn 12 r.2.2.2 = some cj ∧ p_exk cj = true
theorem p_rawA : ∀ q ∈ p_rawL, p_own q.1 = 12 ∧ ∀ r ∈ q.2, r.2.2.2 ≠ 0 ∧ (p_exn 12 r.2.2.2).isSome = true ∧ p_exk ((p_exn 12 r.2.2.2).getD 0) = true := by decide +kernel
theorem p_raw_ok {mi : Nat} {r : Nat × Nat × Nat × Nat} (h : r ∈ p_raw mi) : p_own mi = 12 ∧ p_rawOK r := by
  unfold p_raw at h
  cases hf : p_find mi p_rawL with
  | none => rw [hf] at h; cases h
  | some l =>
    rw [hf] at h
    obtain ⟨g1, g2⟩ := p_rawA _ (p_find_mem hf)
    obtain ⟨g3, g4, g5⟩ := g2 r h
    obtain ⟨cj, hcj⟩ := Option.isSome_iff_exists.mp g4
    rw [hcj] at g5
    exact ⟨g1, g3, cj, hcj, g5⟩
theorem p_exk_cl : ∀ ci, p_exk ci = true → ∃ cls, vwCl[ci]? = some (cls, TE, 0) ∧ cls = p_cn ci := by
  intro ci h
  unfold p_exk at h
  rw [Bool.and_eq_true] at h
  have h1 := Nat.le_of_ble_eq_true h.1
  have h2 := Nat.le_of_ble_eq_true h.2
  have : ci = 7 ∨ ci = 8 ∨ ci = 9 ∨ ci = 10 ∨ ci = 11 := by omega
  rcases this with rfl | rfl | rfl | rfl | rfl <;> exact ⟨_, rfl, by decide +kernel⟩
theorem p_asg_rf (vm : Vm) (k : ClassId) : vm.assignable k k = true := by
  show vm.assignableAux (255 + 1) k k = true
  rw [Vm.assignableAux]
  simp
section PCT
variable {p : Program} {l : Launch} {e : Env} {R : Room} {s : State} {m : MethodId} {args : Array Value} {below : List Frame} {meth : Method} {c : Code} {H : Heap} {locs : List Loc} {cells slots : Nat} {Q : State → Prop}
variable {D : va_G} {base : Nat} {ex : Nat → Nat} {cA : FieldType → ClassId} {X : pX} {lsA : Array Slot} {st : List Value} {h : List pE} {mi pc k t : Nat}
theorem p_asg (hK : va_K D vwCl (c_T cA) s) (hX : P_X X base ex s s.heap) {ci cj : Nat} (hi : p_exk ci = true) (hj : p_exk cj = true) : s.vm.assignable (D.1 ci) (D.1 cj) = Nat.beq ci cj := by
  by_cases hij : ci = cj
  · subst hij
    rw [p_asg_rf, Nat.beq_refl]
  · obtain ⟨a1, b1, b2⟩ := p_exk_cl ci hi
    obtain ⟨a2, b3, b4⟩ := p_exk_cl cj hj
    obtain ⟨-, f1, -⟩ := hK.1 ci _ b1
    obtain ⟨-, f2, -⟩ := hK.1 cj _ b3
    obtain ⟨c1, c2, z1, z2, z3⟩ := hX.2.2.2.2.2.2.2.2.2.1 ci cj hi hj hij
    rw [← b2] at z1
    rw [← b4] at z2
    cases f1.symm.trans z1
    cases f2.symm.trans z2
    rw [z3]
    cases hb : Nat.beq ci cj with
    | false => rfl
    | true => exact absurd (Nat.eq_of_beq_eq_true hb) hij
theorem p_rows_ok {pl : Platform} (hpl : pl.magicAccessors = ({} : Platform).magicAccessors) (hts : ∀ w ∈ lw_g, w.before args s = true) {own : ClassId} (hown : s.vm.findClass (p_cn 12) = some own) (hK : va_K D vwCl (c_T cA) s) (hX : P_X X base ex s s.heap) {ci : Nat} (hi : p_exk ci = true) : ∀ (E0 : List ExceptionTableEntry) (rw0 : List (Nat × Nat × Nat × Nat)), E0.map (fun h => (h.startPc, h.endPc, h.handlerPc, h.catchType)) = rw0 → (∀ r ∈ rw0, p_rawOK r) → P_rows pl s own (D.1 ci) ci E0 (rw0.map p_hw) := by
  intro E0
  induction E0 with
  | nil => intro rw0 h1 h2; subst h1; exact trivial
  | cons z zs ih =>
    intro rw0 h1 h2
    subst h1
    refine ⟨?_, ih _ rfl (fun r hr => h2 r (List.mem_cons_of_mem _ hr))⟩
    obtain ⟨g1, cj, g2, g3⟩ := h2 _ List.mem_cons_self
    dsimp only at g1 g2
    obtain ⟨cls, k1, k2⟩ := p_all2_ok p_exnA g2
    obtain ⟨c', hc', hcl⟩ := Cond.classLink_spec hown (hts _ k2) pl hpl
    obtain ⟨-, f1, -⟩ := hK.1 cj _ k1
    cases f1.symm.trans hc'
    refine ⟨rfl, rfl, rfl, g1, D.1 cj, hcl, ?_⟩
    show s.vm.assignable (D.1 ci) (D.1 cj) = Nat.beq ci ((p_exn 12 z.catchType).getD 0)
    rw [g2]
    exact p_asg hK hX hi g3
theorem s_caught (C : P_C X D base ex cA p s m args meth c mi) (he : p_hdl mi pc k h = some t) (hP : P_R D base ex cA h H) (kW : W p l e R s m args below meth c H locs cells slots Q (F0 m t lsA (([.ref k] : List Value).map (c_V base ex)))) : P_WT p l e R s m args below meth c H locs cells slots Q (F0 m pc lsA st) (base + k) := by
  obtain ⟨hx, hb, hts, hown, hret, hml, hlk, hctor, hK, hbase, hX, hraw, hh00⟩ := C
  intro T hT X0
  unfold p_hdl at he
  split at he
  · next ci fs hk =>
    cases hi : p_exk ci with
    | false => rw [hi] at he; cases he
    | true =>
      rw [hi] at he
      dsimp only [cond_true] at he
      obtain ⟨r, g1, cell, q1, q2, q3, q4⟩ := hP.2 k _ hk
      obtain ⟨-, -, kC, hkC, -⟩ := hK.1 ci _ g1
      have hne : p_raw mi ≠ [] := by
        intro hz
        rw [p_hh_eq, hz] at he
        cases he
      obtain ⟨r0, hr0⟩ := List.exists_mem_of_ne_nil _ hne
      have ho := (p_raw_ok hr0).1
      rw [ho] at hown
      have hpl : e.platform.magicAccessors = ({} : Platform).magicAccessors := by rw [X0.admits.platform]
      have hrows := p_rows_ok (pl := e.platform) hpl hts hown hK hX hi c.exceptionTable.toList (p_raw mi) hraw (fun r hr => (p_raw_ok hr).2)
      rw [← p_hh_eq] at hrows
      have hvm0 : ∀ z, cell.vm ≠ .statics z := fun z hz => by rw [q3] at hz; cases hz
      obtain ⟨vm', hW', hf⟩ := p_search (e := e) (f := F0 m pc lsA st) (a := base + k) (cell := cell) (s₀ := s) (ci := ci) hvm0 ⟨kC, by rw [q2]; exact hkC⟩ c.exceptionTable.toList (p_hh mi) ((T.setTop (F0 m pc lsA st)).pushFrame (.throwing (base + k))) (by rw [q2]; exact hrows) X0.warmed (by show T.heap[base + k]? = _; rw [hT]; exact q1) he
      obtain ⟨u, h1, h2⟩ := kW (T.setVm vm') hT (X0.noted hW')
      exact ⟨u, p_caughtTo X0.here (fun Q E d acts => by rw [Jvm.W.findHandler_eq (meth := meth) (code := c) X0.method' X0.code]; exact hf Q E d acts) h1, h2⟩
  · cases he
end PCT
end
section
/-! ===== THE PURE MACHINE IS SOUND: what it answers, the machine answers ===== -/
def c_O (base : Nat) (ex : Nat → Nat) : (Option Value) ⊕ Nat → Outcome
  | .inl v => .returned (v.map (c_V base ex))
  | .inr k => .threw (base + k)
def P_Pc (X : pX) (D : va_G) (base : Nat) (ex : Nat → Nat) (cA : FieldType → ClassId) (as : List Value) (h : List pE) : Array Value → State → Prop := fun v U => v = (as.map (c_V base ex)).toArray ∧ P_R D base ex cA h U.heap ∧ va_K D vwCl (c_T cA) U ∧ P_X X base ex U U.heap
def P_Qc (D : va_G) (base : Nat) (ex : Nat → Nat) (cA : FieldType → ClassId) (r : pR) : Array Value → State → Outcome → State → Prop := fun _ st o t => o = c_O base ex r.1 ∧ P_R D base ex cA r.2 t.heap ∧ va_F (p_A base) st t
def p_rm (d mc ms : Nat) : Room := { frames := d, cells := mc, slots := ms, locals := 60 * d }
theorem P_Pc_blind {X : pX} {D : va_G} {base : Nat} {ex : Nat → Nat} {cA : FieldType → ClassId} {as : List Value} {h : List pE} : FrameBlind (P_Pc X D base ex cA as h) := by
  intro a U g mk hp
  obtain ⟨h1, h2, h3, h4⟩ := hp
  exact ⟨h1, h2, va_K.moved (u := U) (U := U.calling g mk a) (Vm.Alike.refl U.vm) h3, P_X.same (s := U) (U := U.calling g mk a) rfl h4⟩
section PMA
variable {l : Launch} {X : pX} {D : va_G} {base : Nat} {ex : Nat → Nat} {cA : FieldType → ClassId}
/-- what follows at the end of a method's walk -/
def P_fin (p : Program) (l : Launch) (e : Env) (R : Room) (s : State) (m : MethodId) (args : Array Value) (below : List Frame) (meth : Method) (c : Code) (D : va_G) (base : Nat) (ex : Nat → Nat) (cA : FieldType → ClassId) (mi : Nat) (h0 : List pE) (r : pR) (Q : State → Prop) : Prop :=
  (∀ v, r.1 = .inl v → ∀ (H1 : Heap) (locs1 : List Loc) (lsB : Array Slot) (pcr : Nat) (ins : Instr) (st : List Value) (Co : Prop), p_code mi pcr = some (ins, 1) → p_ret mi ins st = some (v, Co) → Co → P_R D base ex cA r.2 H1 → va_S (p_A base) s.heap H1 locs1 → W p l e R s m args below meth c H1 locs1 (r.2.length - h0.length) (p_S r.2 - p_S h0) Q (F0 m pcr lsB (st.map (c_V base ex)))) ∧
  (∀ k, r.1 = .inr k → ∀ (H1 : Heap) (locs1 : List Loc) (lsB : Array Slot) (pcr : Nat) (st : List Value), p_hh mi = [] → P_R D base ex cA r.2 H1 → va_S (p_A base) s.heap H1 locs1 → P_WT p l e R s m args below meth c H1 locs1 (r.2.length - h0.length) (p_S r.2 - p_S h0) Q (F0 m pcr lsB st) (base + k))
variable {p : Program} {e : Env} {R : Room} {s : State} {m : MethodId} {args : Array Value} {below : List Frame} {meth : Method} {c : Code} {H : Heap} {locs : List Loc} {cells slots : Nat} {Q : State → Prop} {lsA : Array Slot} {mi pc cm na d' mc ms : Nat} {ins : Instr} {ls : pL} {st as rest : List Value} {h h1 : List pE} {q : (Option Value) ⊕ Nat}
set_option maxHeartbeats 1000000 in
theorem s_call (C : P_C X D base ex cA p s m args meth c mi) (hc : p_code mi pc = some (ins, 3)) (hm : p_calls mi ins = some (cm, na)) (hp : p_pop na [] st = some (as, rest)) (hr : p_recv cm as h = true) (hw : p_words rest ≤ 8) (hP : P_R D base ex cA h H) (hS : va_S (p_A base) s.heap H locs) (hL : P_L base ex (p_maxL mi) ls lsA)
    (hM : P_G l (p_y cm) (p_ws cm) (p_rm d' mc ms) (P_Pc X D base ex cA as h) (P_Qc D base ex cA (q, h1)) mc ms (p_A base)) (hR : d' + 1 ≤ R.frames ∧ 60 * (d' + 1) ≤ R.locals) (hcl : cells + mc ≤ R.cells) (hsl : slots + ms ≤ R.slots)
    (kr : ∀ v, q = .inl v → ∀ (H1 : Heap) (locs1 : List Loc), P_R D base ex cA h1 H1 → va_S (p_A base) s.heap H1 locs1 → W p l e R s m args below meth c H1 locs1 (cells + mc) (slots + ms) Q (F0 m (pc + 3) lsA ((v.toList ++ rest).map (c_V base ex))))
    (kt : ∀ k, q = .inr k → ∀ (H1 : Heap) (locs1 : List Loc), P_R D base ex cA h1 H1 → va_S (p_A base) s.heap H1 locs1 → P_WT p l e R s m args below meth c H1 locs1 (cells + mc) (slots + ms) Q (F0 m pc lsA (rest.map (c_V base ex))) (base + k)) :
    W p l e R s m args below meth c H locs cells slots Q (F0 m pc lsA (st.map (c_V base ex))) := by
  intro T hT X0
  obtain ⟨hx, hb, hts, hown, hret, hml, hlk, hctor, hK, hbase, hX, hraw, hh00⟩ := id C
  obtain ⟨gw, gi, gl, gp, gm⟩ := p_mth_in hm
  obtain ⟨mk, vm₁, hnamed, X₁, hstep⟩ := p_go_ok (lsA := lsA) C hc hm hp hr (by rw [hT]; exact hP) (by rw [hT]; exact hS) X0
  obtain ⟨mk', methY, cY, hn', hmY, hcY, hbY, hlY, -, -, -, -⟩ := p_word_spec (hts _ gw)
  cases hnamed.symm.trans hn'
  have hmY1 : (T.setVm vm₁).vm.method? mk = some methY := by rw [X₁.warmed.alike.method?]; exact hmY
  have hdg : decode c.code pc = .ok (ins, 3) := by rw [hb]; exact (p_code_ok hc).1
  obtain ⟨o, T', t, L, XT, hL2, e1, e2, ⟨ho, hP1, hF⟩, hret, hthr⟩ := p_enter X₁ (g := F0 m pc lsA (rest.map (c_V base ex))) rfl (by rw [hml]; exact hL.2.1) hdg (lv_room (by rw [p_words_sum]; exact hw)) (X₁.named hnamed) hmY1 hcY hlY (word_at X₁.warmed (p_good gi) (hts _ gi)) hM hR.1 (by show 8 + (p_maxL cm + 11) + 60 * d' ≤ _; omega) hcl hsl (a := (as.map (c_V base ex)).toArray) (atoms_intro (fun w hw2 => by
      rcases List.mem_cons.mp hw2 with h2 | h2
      · rw [h2]; exact word_at X₁.warmed (p_good gw) (hts _ gw)
      · exact word_at X₁.warmed (p_good h2) (hts _ h2))) (P_Pc_blind _ _ _ _ ⟨rfl, by show P_R D base ex cA h T.heap; rw [hT]; exact hP, va_K.moved X₁.warmed.alike hK, P_X.warm X₁.warmed (by show P_X X base ex s T.heap; rw [hT]; exact P_X.kept hX hS)⟩)
  have hheap : T.heap.size ≤ t.heap.size ∧ ∀ q : Nat, q < T.heap.size → ¬ p_A base q → t.heap[q]? = T.heap[q]? := hF
  have hS1 : va_S (p_A base) s.heap T'.heap (locs ++ L) := by
    rw [e1]
    rw [hT] at hheap
    refine ⟨Nat.le_trans hS.1 hheap.1, fun q h1 h2 => ?_, fun q hq => ?_⟩
    · rw [hheap.2 q (Nat.lt_of_lt_of_le h1 hS.1) h2]; exact hS.2.1 q h1 h2
    · rcases List.mem_append.mp hq with h | h
      · exact hS.2.2 q h
      · exact hL2 q h
  cases q with
  | inl v =>
    obtain ⟨t2, a1, b1⟩ := kr v rfl T'.heap (locs ++ L) (by rw [e1]; exact hP1) hS1 T' rfl XT
    refine ⟨t2, hstep _ (fun acts => ?_), b1⟩
    rw [doInvoke_state]
    refine (hret _ ho).trans ?_
    have ee : ((v.map (c_V base ex)).toList ++ rest.map (c_V base ex)) = (v.toList ++ rest).map (c_V base ex) := by cases v <;> rfl
    show Steps p.tables e below (T'.setTop (F0 m (pc + 3) lsA ((v.map (c_V base ex)).toList ++ rest.map (c_V base ex)))) t2
    rw [ee]
    exact a1
  | inr k =>
    obtain ⟨t2, a1, b1⟩ := kt k rfl T'.heap (locs ++ L) (by rw [e1]; exact hP1) hS1 T' rfl XT
    refine ⟨t2, hstep _ (fun acts => ?_), b1⟩
    rw [doInvoke_state]
    exact (hthr _ ho).trans a1
def P_snd (l : Launch) (X : pX) (D : va_G) (base : Nat) (ex : Nat → Nat) (cA : FieldType → ClassId) (f : pF) : Prop :=
  ∀ (d mi pc : Nat) (ls : pL) (st : List Value) (h : List pE) (r : pR), f d mi pc ls st h = some r → p_le h r.2 ∧
    ∀ (p : Program) (e : Env) (R : Room) (s : State) (m : MethodId) (args : Array Value) (below : List Frame) (meth : Method) (c : Code) (H : Heap) (locs : List Loc) (lsA : Array Slot) (h0 : List pE) (Q : State → Prop),
      P_C X D base ex cA p s m args meth c mi → P_R D base ex cA h H → va_S (p_A base) s.heap H locs → P_L base ex (p_maxL mi) ls lsA → d ≤ R.frames ∧ 60 * d ≤ R.locals → p_le h0 h → r.2.length - h0.length ≤ R.cells → p_S r.2 - p_S h0 ≤ R.slots → P_fin p l e R s m args below meth c D base ex cA mi h0 r Q →
      W p l e R s m args below meth c H locs (h.length - h0.length) (p_S h - p_S h0) Q (F0 m pc lsA (st.map (c_V base ex)))
theorem W_mono {Q' : State → Prop} {g : JFrame} (k : W p l e R s m args below meth c H locs cells slots Q g) (hq : ∀ t, Q t → Q' t) : W p l e R s m args below meth c H locs cells slots Q' g := by
  intro T hT X
  obtain ⟨t, a, b⟩ := k T hT X
  exact ⟨t, a, hq t b⟩
theorem p_nar_01 {x : Int32} (h : x = 0 ∨ x = 1) : narrow .boolean (.int x) = .int x := by
  rcases h with rfl | rfl <;> rfl
/-- the end of a method's walk -/
theorem p_fin_ok {h0 : List pE} {r : pR} (C : P_C X D base ex cA p s m args meth c mi) : P_fin p l e R s m args below meth c D base ex cA mi h0 r (P_Q below (P_Qc D base ex cA r) args s (r.2.length - h0.length) (p_S r.2 - p_S h0) (p_A base)) := by
  obtain ⟨hx, hb, hts, hown, hret, hml, hlk, hctor, hK, hbase, hX, hraw, hh00⟩ := C
  refine ⟨fun v hv H1 locs1 lsB pcr ins st Co hc hj hC hP hS => ?_, fun k hk H1 locs1 lsB pcr st hh hP hS => ?_⟩
  · refine W_mono (Q := MQ below (P_Qc D base ex cA r) args s (r.2.length - h0.length) (p_S r.2 - p_S h0) (p_A base)) ?_ (fun t ht => P_Q_of ht)
    have hq : ∀ t : State, t.heap = H1 → s.WarmedH t.vm → P_Qc D base ex cA r args s (.returned (v.map (c_V base ex))) t := fun t ht _ => ⟨by rw [hv]; rfl, by rw [ht]; exact hP, hS.F ht⟩
    have hd := (p_code_ok hc).1
    cases ins with
    | return_ =>
      dsimp only [p_ret] at hj
      split at hj
      · cases hj
        exact W.vret hx hb (hret.trans hC) hq hS.2.2 hd hlk
      · cases hj
    | ireturn =>
      dsimp only [p_ret] at hj
      split at hj
      · next x =>
        cases hj
        rcases hC with hC | ⟨ty, hC, h01⟩
        · exact W.iret hx hb (hret.trans hC) hq hS.2.2 hd hlk
        · exact W.zret hx hb (hret.trans hC) h01 hq hS.2.2 hd hlk
      · cases hj
    | lreturn =>
      dsimp only [p_ret] at hj
      split at hj
      · cases hj
        exact W.lret hx hb (hret.trans hC) hq hS.2.2 hd hlk
      · cases hj
    | _ => cases hj
  · refine s_leave hlk (fun z hz => ?_) (fun t ht _ => ⟨by rw [hk]; rfl, by rw [ht]; exact hP, hS.F ht⟩) hS.2.2
    have h1 : p_raw mi = [] := p_hh_raw hh
    rw [h1, List.map_eq_nil_iff] at hraw
    rw [hraw] at hz
    cases hz
/-- a contract out of a run of the pure machine -/
theorem p_contract {f : pF} (hf : P_snd l X D base ex cA f) {d : Nat} {r : pR} (hh : f d cm 0 (p_in0 cm as) [] h = some r) (hy : plainFor (p_y cm) = true) (hl : (p_args as).length ≤ p_maxL cm) (hcm : cm < p_ML.length) : P_G l (p_y cm) (p_ws cm) (p_rm d (r.2.length - h.length) (p_S r.2 - p_S h)) (P_Pc X D base ex cA as h) (P_Qc D base ex cA r) (r.2.length - h.length) (p_S r.2 - p_S h) (p_A base) := by
  refine MetFree.of_bodySF (code := p_bytes cm) (maxLocals := p_maxL cm) (ret := p_rty cm) hy ?_ ?_
  · intro args s m h hn
    obtain ⟨mk, meth, c, h1, h2, h3, h4, h5, h6, h7, -, -⟩ := p_word_spec (atoms_spec (ws := p_ws cm) h _ List.mem_cons_self)
    cases hn.symm.trans h1
    exact ⟨meth, c, h2, h3, h4, h5, h6, h7⟩
  · intro p e s m args below meth c s₁ B hml hP _
    obtain ⟨rfl, hR0, hK, hX⟩ := hP
    have hts := atoms_spec (ws := p_ws cm) B.pre
    have hh0 : s₁.heap = s.heap := by rw [B.state]; rfl
    obtain ⟨hle, hs⟩ := hf d cm 0 (p_in0 cm as) [] h r hh
    have hown : s.vm.findClass (p_y cm).cls = some m.cls := findClass_of_methodNamed B.named
    have hname : meth.name = (p_y cm).name := (name_of_methodNamed B.named B.method).1
    have X0 := Stand.of_body B
    obtain ⟨mk, meth2, c2, g1, g2, g3, g4, g5, g6, g7, g8, -⟩ := p_word_spec (hts _ List.mem_cons_self)
    cases B.named.symm.trans g1
    cases B.method.symm.trans g2
    cases X0.code.symm.trans g3
    have C : P_C X D base ex cA p s m ((as.map (c_V base ex)).toArray) meth c cm := ⟨B.exec, B.bytes, fun w hw => hts w (List.mem_cons_of_mem _ hw), by rw [p_y_cls hcm]; exact hown, B.returns, hml, B.notSynchronized, fun hc => by rw [hname]; exact p_ctor_name hc, hK, by rw [hR0.1]; exact Nat.le_add_right _ _, hX, g8, h, hR0⟩
    have hent := P_L_entry (base := base) (ex := ex) (n := p_maxL cm) hl
    have K := hs p e (p_rm d (r.2.length - h.length) (p_S r.2 - p_S h)) s m ((as.map (c_V base ex)).toArray) below meth c s.heap [] _ h (P_Q below (P_Qc D base ex cA r) ((as.map (c_V base ex)).toArray) s (r.2.length - h.length) (p_S r.2 - p_S h) (p_A base)) C hR0 va_S.rf hent ⟨Nat.le_refl _, Nat.le_refl _⟩ (p_le_rf h) (Nat.le_refl _) (Nat.le_refl _) (p_fin_ok C)
    rw [Nat.sub_self, Nat.sub_self] at K
    rw [List.map_nil, ← lg_entry_eq] at K
    obtain ⟨t, a1, o, b1, b2, b3⟩ := K s₁ hh0 X0
    exact ⟨t, o, a1, b1, b2, b3⟩
theorem p_ret_len {v : Option Value} {Co : Prop} (h : p_ret mi ins st = some (v, Co)) : p_sw ins = false ∧ p_len ins = 1 := by
  cases ins <;> first | exact ⟨rfl, rfl⟩ | cases h
/-- THE PURE MACHINE IS SOUND -/
theorem p_sound (htr : ∀ e : Env, l.admits e → e.platform.stackTraces = false) : ∀ n : Nat, P_snd l X D base ex cA (p_ex X n) := by
  intro n
  induction n with
  | zero => intro d mi pc ls st h r hh; cases hh
  | succ n ih =>
    intro d mi pc ls st h r hh
    refine ⟨p_ex_grow X (n + 1) d mi pc ls st h r hh, ?_⟩
    intro p e R s m args below meth c H locs lsA h0 Q C hP hS hL hR hle0 hc1 hc2 hfin
    obtain ⟨ins, len, hc, ht⟩ := p_F_inv X hh
    obtain ⟨hd, hlen⟩ := p_code_ok hc
    obtain ⟨hx, hb, hts, hown, hret, hml, hlk, hctor, hK, hbase, hX, hraw, hh00⟩ := id C
    rcases ht with ⟨cm, na, d', as, rest, q, h1, g1, g2, g3, g4, g5, g6, g7, g8⟩ | ⟨v, Co, g1, g2, g3⟩ | ⟨q, t, t2, r', Co, g1, g2, g3⟩ | ⟨t, r', Co, g1, g2, g3⟩ | ⟨ci, g1, g2, g3⟩ | ⟨pc', ls', st', h', Co, g1, g2, g3⟩
    · subst g2
      subst g6
      obtain ⟨gw, gi, gl, gp, gm⟩ := p_mth_in g1
      have le1 : p_le h h1 := (ih _ _ _ _ _ _ _ g7).1
      have hM := p_contract ih g7 gp (p_recv_len g4) gm
      have le2 : p_le h1 r.2 := by
        rcases g8 with ⟨v, -, g8⟩ | ⟨k, -, ⟨t, -, g8⟩ | ⟨-, -, g8⟩⟩
        · exact (ih _ _ _ _ _ _ _ g8).1
        · exact (ih _ _ _ _ _ _ _ g8).1
        · rw [g8]; exact p_le_rf _
      have a1 : h.length - h0.length + (h1.length - h.length) = h1.length - h0.length := by have := le1.1; have := hle0.1; omega
      have a2 : p_S h - p_S h0 + (p_S h1 - p_S h) = p_S h1 - p_S h0 := by have := le1.2; have := hle0.2; omega
      refine s_call C hc g1 g3 g4 g5 hP hS hL hM hR (by dsimp only; rw [a1]; have := le2.1; omega) (by dsimp only; rw [a2]; have := le2.2; omega) ?_ ?_
      · intro v hv H1 locs1 hP1 hS1
        rcases g8 with ⟨v', e1, g8⟩ | ⟨k, e1, -⟩
        · rw [hv] at e1
          cases e1
          dsimp only
          rw [a1, a2]
          exact (ih _ _ _ _ _ _ _ g8).2 p e R s m args below meth c H1 locs1 lsA h0 Q C hP1 hS1 hL hR (p_le_tr hle0 le1) hc1 hc2 hfin
        · rw [hv] at e1; cases e1
      · intro k hk H1 locs1 hP1 hS1
        rcases g8 with ⟨v', e1, -⟩ | ⟨k', e1, g8⟩
        · rw [hk] at e1; cases e1
        · rw [hk] at e1
          cases e1
          dsimp only
          rw [a1, a2]
          rcases g8 with ⟨t, e2, g8⟩ | ⟨e2, e3, g8⟩
          · exact s_caught C e2 hP1 ((ih _ _ _ _ _ _ _ g8).2 p e R s m args below meth c H1 locs1 lsA h0 Q C hP1 hS1 hL hR (p_le_tr hle0 le1) hc1 hc2 hfin)
          · subst g8
            exact hfin.2 k rfl H1 locs1 lsA pc _ e3 hP1 hS1
    · subst g3
      have hl1 : len = 1 := by
        obtain ⟨z1, z2⟩ := p_ret_len g1
        rw [hlen z1, z2]
      subst hl1
      exact hfin.1 v rfl H locs lsA pc ins st Co hc g1 g2 hP hS
    · refine s_jmp hx hb hd hlen g1 g2 (fun hq => ?_) (fun hq => ?_)
      · rcases g3 with ⟨-, g3⟩ | ⟨z, -⟩
        · exact (ih _ _ _ _ _ _ _ g3).2 p e R s m args below meth c H locs lsA h0 Q C hP hS hL hR hle0 hc1 hc2 hfin
        · exact absurd hq z
      · rcases g3 with ⟨z, -⟩ | ⟨-, g3⟩
        · exact absurd z hq
        · exact (ih _ _ _ _ _ _ _ g3).2 p e R s m args below meth c H locs lsA h0 Q C hP hS hL hR hle0 hc1 hc2 hfin
    · exact s_swi hx hb hd g1 g2 ((ih _ _ _ _ _ _ _ g3).2 p e R s m args below meth c H locs lsA h0 Q C hP hS hL hR hle0 hc1 hc2 hfin)
    · subst g3
      exact s_thrown htr C hc g1 g2 hP hS hL hR hle0 hc1 hc2 (fun H1 locs1 pcr st1 z1 z2 => hfin.2 _ rfl H1 locs1 lsA pcr st1 g2.2.2 z1 z2)
    · obtain ⟨le1, ih2⟩ := ih _ _ _ _ _ _ _ g3
      have le0 := p_step_le g1
      refine p_step_ok C hd hlen g1 g2 hP hS hL hR (by have := le1.1; have := le0.1; have := hle0.1; omega) (by have := le1.2; have := le0.2; have := hle0.2; omega) ?_
      intro H1 locs1 lsB cells1 slots1 e1 e2 hP1 hS1 hL1
      have a1 : cells1 = h'.length - h0.length := by have := le0.1; have := hle0.1; omega
      have a2 : slots1 = p_S h' - p_S h0 := by have := le0.2; have := hle0.2; omega
      rw [a1, a2]
      exact ih2 p e R s m args below meth c H1 locs1 lsB h0 Q C hP1 hS1 hL1 hR (p_le_tr hle0 le0) hc1 hc2 hfin
end PMA
end
