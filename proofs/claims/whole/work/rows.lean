section
-- ===== PART A: goes FIRST, ahead of the names: the tables' words, and 'selects' of the private methods out of them =====
/-- a private method of a class that the tables say can be made, by its rows of tables_1 -/
def lw_okq (q : MethodName × Nat) : Prop := (q.1.cls ≠ "java/lang/invoke/MethodHandle" ∧ q.1.cls ≠ "java/lang/invoke/VarHandle") ∧ Cond.instantiable q.1.cls q.2 ∈ tables_1 ∧ Cond.privateMethod q.1 ∈ tables_1 ∧ Cond.instanceMethod q.1 ∈ tables_1
theorem lw_p0 : lw_okq (⟨"EarChart", "rowOf", "(I)LEarChart$Row;"⟩, 11) := ⟨⟨by decide +kernel, by decide +kernel⟩, List.mem_of_getElem? (i := 10) (by decide +kernel), List.mem_of_getElem? (i := 171) (by decide +kernel), List.mem_of_getElem? (i := 172) (by decide +kernel)⟩
theorem lw_p1 : lw_okq (⟨"EarChart$Row", "append", "(I)I"⟩, 4) := ⟨⟨by decide +kernel, by decide +kernel⟩, List.mem_of_getElem? (i := 19) (by decide +kernel), List.mem_of_getElem? (i := 181) (by decide +kernel), List.mem_of_getElem? (i := 182) (by decide +kernel)⟩
theorem lw_p2 : lw_okq (⟨"EarChart$Row", "hasStep", "(I)Z"⟩, 4) := ⟨⟨by decide +kernel, by decide +kernel⟩, List.mem_of_getElem? (i := 19) (by decide +kernel), List.mem_of_getElem? (i := 193) (by decide +kernel), List.mem_of_getElem? (i := 194) (by decide +kernel)⟩
theorem lw_p3 : lw_okq (⟨"EarChart", "readShape", "(I)Z"⟩, 11) := ⟨⟨by decide +kernel, by decide +kernel⟩, List.mem_of_getElem? (i := 10) (by decide +kernel), List.mem_of_getElem? (i := 217) (by decide +kernel), List.mem_of_getElem? (i := 218) (by decide +kernel)⟩
theorem lw_p4 : lw_okq (⟨"EarChart$Shape", "read", "(LEarChart$Row;I)V"⟩, 8) := ⟨⟨by decide +kernel, by decide +kernel⟩, List.mem_of_getElem? (i := 45) (by decide +kernel), List.mem_of_getElem? (i := 221) (by decide +kernel), List.mem_of_getElem? (i := 222) (by decide +kernel)⟩
theorem lw_p5 : lw_okq (⟨"EarChart$Shape", "weighWays", "(LEarChart$Row;I)V"⟩, 8) := ⟨⟨by decide +kernel, by decide +kernel⟩, List.mem_of_getElem? (i := 45) (by decide +kernel), List.mem_of_getElem? (i := 225) (by decide +kernel), List.mem_of_getElem? (i := 226) (by decide +kernel)⟩
theorem lw_p6 : lw_okq (⟨"EarChart$Row", "hasWay", "(I)Z"⟩, 4) := ⟨⟨by decide +kernel, by decide +kernel⟩, List.mem_of_getElem? (i := 19) (by decide +kernel), List.mem_of_getElem? (i := 229) (by decide +kernel), List.mem_of_getElem? (i := 230) (by decide +kernel)⟩
theorem lw_p7 : lw_okq (⟨"EarChart$Row", "hasValue", "(I)Z"⟩, 4) := ⟨⟨by decide +kernel, by decide +kernel⟩, List.mem_of_getElem? (i := 19) (by decide +kernel), List.mem_of_getElem? (i := 233) (by decide +kernel), List.mem_of_getElem? (i := 234) (by decide +kernel)⟩
theorem lw_p8 : lw_okq (⟨"EarChart$Shape", "bestKind", "(III)I"⟩, 8) := ⟨⟨by decide +kernel, by decide +kernel⟩, List.mem_of_getElem? (i := 45) (by decide +kernel), List.mem_of_getElem? (i := 246) (by decide +kernel), List.mem_of_getElem? (i := 247) (by decide +kernel)⟩
theorem lw_p9 : lw_okq (⟨"EarChart$Shape", "costBehind", "(IIII)I"⟩, 8) := ⟨⟨by decide +kernel, by decide +kernel⟩, List.mem_of_getElem? (i := 45) (by decide +kernel), List.mem_of_getElem? (i := 250) (by decide +kernel), List.mem_of_getElem? (i := 251) (by decide +kernel)⟩
theorem lw_p10 : lw_okq (⟨"EarChart$Shape", "chooseKinds", "(LEarChart$Row;I)V"⟩, 8) := ⟨⟨by decide +kernel, by decide +kernel⟩, List.mem_of_getElem? (i := 45) (by decide +kernel), List.mem_of_getElem? (i := 254) (by decide +kernel), List.mem_of_getElem? (i := 255) (by decide +kernel)⟩
theorem lw_p11 : lw_okq (⟨"EarChart$Shape", "noteWay", "(III)V"⟩, 8) := ⟨⟨by decide +kernel, by decide +kernel⟩, List.mem_of_getElem? (i := 45) (by decide +kernel), List.mem_of_getElem? (i := 258) (by decide +kernel), List.mem_of_getElem? (i := 259) (by decide +kernel)⟩
theorem lw_p12 : lw_okq (⟨"EarChart$Shape", "findTurns", "(LEarChart$Row;)V"⟩, 8) := ⟨⟨by decide +kernel, by decide +kernel⟩, List.mem_of_getElem? (i := 45) (by decide +kernel), List.mem_of_getElem? (i := 262) (by decide +kernel), List.mem_of_getElem? (i := 263) (by decide +kernel)⟩
theorem lw_p13 : lw_okq (⟨"EarChart$Shape", "turnsAtStart", "(LEarChart$Row;I)Z"⟩, 8) := ⟨⟨by decide +kernel, by decide +kernel⟩, List.mem_of_getElem? (i := 45) (by decide +kernel), List.mem_of_getElem? (i := 266) (by decide +kernel), List.mem_of_getElem? (i := 267) (by decide +kernel)⟩
theorem lw_p14 : lw_okq (⟨"EarChart$Shape", "kindOfSpan", "(I)I"⟩, 8) := ⟨⟨by decide +kernel, by decide +kernel⟩, List.mem_of_getElem? (i := 45) (by decide +kernel), List.mem_of_getElem? (i := 270) (by decide +kernel), List.mem_of_getElem? (i := 271) (by decide +kernel)⟩
theorem lw_p15 : lw_okq (⟨"EarChart$Shape", "hasSpan", "(I)Z"⟩, 8) := ⟨⟨by decide +kernel, by decide +kernel⟩, List.mem_of_getElem? (i := 45) (by decide +kernel), List.mem_of_getElem? (i := 285) (by decide +kernel), List.mem_of_getElem? (i := 286) (by decide +kernel)⟩
def lw_privs_1 : List (MethodName × Nat) := [(⟨"EarChart", "rowOf", "(I)LEarChart$Row;"⟩, 11), (⟨"EarChart$Row", "append", "(I)I"⟩, 4), (⟨"EarChart$Row", "hasStep", "(I)Z"⟩, 4), (⟨"EarChart", "readShape", "(I)Z"⟩, 11), (⟨"EarChart$Shape", "read", "(LEarChart$Row;I)V"⟩, 8), (⟨"EarChart$Shape", "weighWays", "(LEarChart$Row;I)V"⟩, 8), (⟨"EarChart$Row", "hasWay", "(I)Z"⟩, 4), (⟨"EarChart$Row", "hasValue", "(I)Z"⟩, 4), (⟨"EarChart$Shape", "bestKind", "(III)I"⟩, 8), (⟨"EarChart$Shape", "costBehind", "(IIII)I"⟩, 8), (⟨"EarChart$Shape", "chooseKinds", "(LEarChart$Row;I)V"⟩, 8), (⟨"EarChart$Shape", "noteWay", "(III)V"⟩, 8), (⟨"EarChart$Shape", "findTurns", "(LEarChart$Row;)V"⟩, 8), (⟨"EarChart$Shape", "turnsAtStart", "(LEarChart$Row;I)Z"⟩, 8), (⟨"EarChart$Shape", "kindOfSpan", "(I)I"⟩, 8), (⟨"EarChart$Shape", "hasSpan", "(I)Z"⟩, 8)]
theorem lw_r1 : ∀ q ∈ lw_privs_1, lw_okq q := List.forall_mem_cons.mpr ⟨lw_p0, List.forall_mem_cons.mpr ⟨lw_p1, List.forall_mem_cons.mpr ⟨lw_p2, List.forall_mem_cons.mpr ⟨lw_p3, List.forall_mem_cons.mpr ⟨lw_p4, List.forall_mem_cons.mpr ⟨lw_p5, List.forall_mem_cons.mpr ⟨lw_p6, List.forall_mem_cons.mpr ⟨lw_p7, List.forall_mem_cons.mpr ⟨lw_p8, List.forall_mem_cons.mpr ⟨lw_p9, List.forall_mem_cons.mpr ⟨lw_p10, List.forall_mem_cons.mpr ⟨lw_p11, List.forall_mem_cons.mpr ⟨lw_p12, List.forall_mem_cons.mpr ⟨lw_p13, List.forall_mem_cons.mpr ⟨lw_p14, List.forall_mem_cons.mpr ⟨lw_p15, fun _ h => absurd h List.not_mem_nil⟩⟩⟩⟩⟩⟩⟩⟩⟩⟩⟩⟩⟩⟩⟩⟩
theorem lw_p16 : lw_okq (⟨"EarChart", "readMeeting", "(II)Z"⟩, 11) := ⟨⟨by decide +kernel, by decide +kernel⟩, List.mem_of_getElem? (i := 10) (by decide +kernel), List.mem_of_getElem? (i := 317) (by decide +kernel), List.mem_of_getElem? (i := 318) (by decide +kernel)⟩
theorem lw_p17 : lw_okq (⟨"EarChart$Meeting", "read", "(LEarChart$Row;LEarChart$Row;)V"⟩, 2) := ⟨⟨by decide +kernel, by decide +kernel⟩, List.mem_of_getElem? (i := 85) (by decide +kernel), List.mem_of_getElem? (i := 321) (by decide +kernel), List.mem_of_getElem? (i := 322) (by decide +kernel)⟩
theorem lw_p18 : lw_okq (⟨"EarChart", "lowestValue", "()I"⟩, 11) := ⟨⟨by decide +kernel, by decide +kernel⟩, List.mem_of_getElem? (i := 10) (by decide +kernel), List.mem_of_getElem? (i := 334) (by decide +kernel), List.mem_of_getElem? (i := 335) (by decide +kernel)⟩
theorem lw_p19 : lw_okq (⟨"EarChart$Row", "lowest", "()I"⟩, 4) := ⟨⟨by decide +kernel, by decide +kernel⟩, List.mem_of_getElem? (i := 19) (by decide +kernel), List.mem_of_getElem? (i := 339) (by decide +kernel), List.mem_of_getElem? (i := 340) (by decide +kernel)⟩
theorem lw_p20 : lw_okq (⟨"EarChart", "highestValue", "()I"⟩, 11) := ⟨⟨by decide +kernel, by decide +kernel⟩, List.mem_of_getElem? (i := 10) (by decide +kernel), List.mem_of_getElem? (i := 346) (by decide +kernel), List.mem_of_getElem? (i := 347) (by decide +kernel)⟩
theorem lw_p21 : lw_okq (⟨"EarChart$Row", "highest", "()I"⟩, 4) := ⟨⟨by decide +kernel, by decide +kernel⟩, List.mem_of_getElem? (i := 19) (by decide +kernel), List.mem_of_getElem? (i := 351) (by decide +kernel), List.mem_of_getElem? (i := 352) (by decide +kernel)⟩
theorem lw_p22 : lw_okq (⟨"EarChart", "heightAbove", "(ILEarChart$Row;I)I"⟩, 11) := ⟨⟨by decide +kernel, by decide +kernel⟩, List.mem_of_getElem? (i := 10) (by decide +kernel), List.mem_of_getElem? (i := 362) (by decide +kernel), List.mem_of_getElem? (i := 363) (by decide +kernel)⟩
theorem lw_p23 : lw_okq (⟨"EarChart", "readLaying", "(I)Z"⟩, 11) := ⟨⟨by decide +kernel, by decide +kernel⟩, List.mem_of_getElem? (i := 10) (by decide +kernel), List.mem_of_getElem? (i := 378) (by decide +kernel), List.mem_of_getElem? (i := 379) (by decide +kernel)⟩
theorem lw_p24 : lw_okq (⟨"EarChart$Laying", "find", "(II)V"⟩, 7) := ⟨⟨by decide +kernel, by decide +kernel⟩, List.mem_of_getElem? (i := 100) (by decide +kernel), List.mem_of_getElem? (i := 382) (by decide +kernel), List.mem_of_getElem? (i := 383) (by decide +kernel)⟩
theorem lw_p25 : lw_okq (⟨"EarChart$Laying", "tryFrom", "(II)V"⟩, 7) := ⟨⟨by decide +kernel, by decide +kernel⟩, List.mem_of_getElem? (i := 100) (by decide +kernel), List.mem_of_getElem? (i := 387) (by decide +kernel), List.mem_of_getElem? (i := 388) (by decide +kernel)⟩
theorem lw_p26 : lw_okq (⟨"EarChart$Laying", "isFree", "(II)Z"⟩, 7) := ⟨⟨by decide +kernel, by decide +kernel⟩, List.mem_of_getElem? (i := 100) (by decide +kernel), List.mem_of_getElem? (i := 394) (by decide +kernel), List.mem_of_getElem? (i := 395) (by decide +kernel)⟩
theorem lw_p27 : lw_okq (⟨"EarChart$Laying", "isHeard", "(I)Z"⟩, 7) := ⟨⟨by decide +kernel, by decide +kernel⟩, List.mem_of_getElem? (i := 100) (by decide +kernel), List.mem_of_getElem? (i := 407) (by decide +kernel), List.mem_of_getElem? (i := 408) (by decide +kernel)⟩
theorem lw_p28 : lw_okq (⟨"EarChart", "soundsAbove", "(II)Z"⟩, 11) := ⟨⟨by decide +kernel, by decide +kernel⟩, List.mem_of_getElem? (i := 10) (by decide +kernel), List.mem_of_getElem? (i := 411) (by decide +kernel), List.mem_of_getElem? (i := 412) (by decide +kernel)⟩
theorem lw_p29 : lw_okq (⟨"EarChart$Shape", "beatsOfSpan", "(II)I"⟩, 8) := ⟨⟨by decide +kernel, by decide +kernel⟩, List.mem_of_getElem? (i := 45) (by decide +kernel), List.mem_of_getElem? (i := 419) (by decide +kernel), List.mem_of_getElem? (i := 420) (by decide +kernel)⟩
theorem lw_p30 : lw_okq (⟨"EarChart$Shape", "allWays", "()I"⟩, 8) := ⟨⟨by decide +kernel, by decide +kernel⟩, List.mem_of_getElem? (i := 45) (by decide +kernel), List.mem_of_getElem? (i := 423) (by decide +kernel), List.mem_of_getElem? (i := 424) (by decide +kernel)⟩
theorem lw_p31 : lw_okq (⟨"EarChart$Shape", "waysOfSpan", "(I)I"⟩, 8) := ⟨⟨by decide +kernel, by decide +kernel⟩, List.mem_of_getElem? (i := 45) (by decide +kernel), List.mem_of_getElem? (i := 427) (by decide +kernel), List.mem_of_getElem? (i := 428) (by decide +kernel)⟩
def lw_privs_2 : List (MethodName × Nat) := [(⟨"EarChart", "readMeeting", "(II)Z"⟩, 11), (⟨"EarChart$Meeting", "read", "(LEarChart$Row;LEarChart$Row;)V"⟩, 2), (⟨"EarChart", "lowestValue", "()I"⟩, 11), (⟨"EarChart$Row", "lowest", "()I"⟩, 4), (⟨"EarChart", "highestValue", "()I"⟩, 11), (⟨"EarChart$Row", "highest", "()I"⟩, 4), (⟨"EarChart", "heightAbove", "(ILEarChart$Row;I)I"⟩, 11), (⟨"EarChart", "readLaying", "(I)Z"⟩, 11), (⟨"EarChart$Laying", "find", "(II)V"⟩, 7), (⟨"EarChart$Laying", "tryFrom", "(II)V"⟩, 7), (⟨"EarChart$Laying", "isFree", "(II)Z"⟩, 7), (⟨"EarChart$Laying", "isHeard", "(I)Z"⟩, 7), (⟨"EarChart", "soundsAbove", "(II)Z"⟩, 11), (⟨"EarChart$Shape", "beatsOfSpan", "(II)I"⟩, 8), (⟨"EarChart$Shape", "allWays", "()I"⟩, 8), (⟨"EarChart$Shape", "waysOfSpan", "(I)I"⟩, 8)]
theorem lw_r2 : ∀ q ∈ lw_privs_2, lw_okq q := List.forall_mem_cons.mpr ⟨lw_p16, List.forall_mem_cons.mpr ⟨lw_p17, List.forall_mem_cons.mpr ⟨lw_p18, List.forall_mem_cons.mpr ⟨lw_p19, List.forall_mem_cons.mpr ⟨lw_p20, List.forall_mem_cons.mpr ⟨lw_p21, List.forall_mem_cons.mpr ⟨lw_p22, List.forall_mem_cons.mpr ⟨lw_p23, List.forall_mem_cons.mpr ⟨lw_p24, List.forall_mem_cons.mpr ⟨lw_p25, List.forall_mem_cons.mpr ⟨lw_p26, List.forall_mem_cons.mpr ⟨lw_p27, List.forall_mem_cons.mpr ⟨lw_p28, List.forall_mem_cons.mpr ⟨lw_p29, List.forall_mem_cons.mpr ⟨lw_p30, List.forall_mem_cons.mpr ⟨lw_p31, fun _ h => absurd h List.not_mem_nil⟩⟩⟩⟩⟩⟩⟩⟩⟩⟩⟩⟩⟩⟩⟩⟩
theorem lw_p32 : lw_okq (⟨"EarChart", "markSought", "(LEarChart$Row;I)V"⟩, 11) := ⟨⟨by decide +kernel, by decide +kernel⟩, List.mem_of_getElem? (i := 10) (by decide +kernel), List.mem_of_getElem? (i := 447) (by decide +kernel), List.mem_of_getElem? (i := 448) (by decide +kernel)⟩
theorem lw_p33 : lw_okq (⟨"EarChart", "markTurns", "(LEarChart$Row;)V"⟩, 11) := ⟨⟨by decide +kernel, by decide +kernel⟩, List.mem_of_getElem? (i := 10) (by decide +kernel), List.mem_of_getElem? (i := 451) (by decide +kernel), List.mem_of_getElem? (i := 452) (by decide +kernel)⟩
theorem lw_p34 : lw_okq (⟨"EarChart", "markCrossings", "(LEarChart$Row;)V"⟩, 11) := ⟨⟨by decide +kernel, by decide +kernel⟩, List.mem_of_getElem? (i := 10) (by decide +kernel), List.mem_of_getElem? (i := 455) (by decide +kernel), List.mem_of_getElem? (i := 456) (by decide +kernel)⟩
theorem lw_p35 : lw_okq (⟨"EarChart", "markBehind", "(I)I"⟩, 11) := ⟨⟨by decide +kernel, by decide +kernel⟩, List.mem_of_getElem? (i := 10) (by decide +kernel), List.mem_of_getElem? (i := 459) (by decide +kernel), List.mem_of_getElem? (i := 460) (by decide +kernel)⟩
theorem lw_p36 : lw_okq (⟨"EarChart", "markAhead", "(I)I"⟩, 11) := ⟨⟨by decide +kernel, by decide +kernel⟩, List.mem_of_getElem? (i := 10) (by decide +kernel), List.mem_of_getElem? (i := 463) (by decide +kernel), List.mem_of_getElem? (i := 464) (by decide +kernel)⟩
theorem lw_p37 : lw_okq (⟨"EarChartModel", "adds", "(II)I"⟩, 28) := ⟨⟨by decide +kernel, by decide +kernel⟩, List.mem_of_getElem? (i := 467) (by decide +kernel), List.mem_of_getElem? (i := 565) (by decide +kernel), List.mem_of_getElem? (i := 566) (by decide +kernel)⟩
theorem lw_p38 : lw_okq (⟨"EarChartModel", "isStep", "(II)Z"⟩, 28) := ⟨⟨by decide +kernel, by decide +kernel⟩, List.mem_of_getElem? (i := 467) (by decide +kernel), List.mem_of_getElem? (i := 580) (by decide +kernel), List.mem_of_getElem? (i := 581) (by decide +kernel)⟩
theorem lw_p39 : lw_okq (⟨"EarChartModel", "valueAt", "(II)I"⟩, 28) := ⟨⟨by decide +kernel, by decide +kernel⟩, List.mem_of_getElem? (i := 467) (by decide +kernel), List.mem_of_getElem? (i := 600) (by decide +kernel), List.mem_of_getElem? (i := 601) (by decide +kernel)⟩
theorem lw_p40 : lw_okq (⟨"EarChartModel", "shapes", "(I)V"⟩, 28) := ⟨⟨by decide +kernel, by decide +kernel⟩, List.mem_of_getElem? (i := 467) (by decide +kernel), List.mem_of_getElem? (i := 608) (by decide +kernel), List.mem_of_getElem? (i := 609) (by decide +kernel)⟩
theorem lw_p41 : lw_okq (⟨"EarChartModel", "weighs", "(I)V"⟩, 28) := ⟨⟨by decide +kernel, by decide +kernel⟩, List.mem_of_getElem? (i := 467) (by decide +kernel), List.mem_of_getElem? (i := 612) (by decide +kernel), List.mem_of_getElem? (i := 613) (by decide +kernel)⟩
theorem lw_p42 : lw_okq (⟨"EarChartModel", "isWay", "(II)Z"⟩, 28) := ⟨⟨by decide +kernel, by decide +kernel⟩, List.mem_of_getElem? (i := 467) (by decide +kernel), List.mem_of_getElem? (i := 616) (by decide +kernel), List.mem_of_getElem? (i := 617) (by decide +kernel)⟩
theorem lw_p43 : lw_okq (⟨"EarChartModel", "hasValue", "(II)Z"⟩, 28) := ⟨⟨by decide +kernel, by decide +kernel⟩, List.mem_of_getElem? (i := 467) (by decide +kernel), List.mem_of_getElem? (i := 620) (by decide +kernel), List.mem_of_getElem? (i := 621) (by decide +kernel)⟩
theorem lw_p44 : lw_okq (⟨"EarChartModel", "wayCost", "(III)I"⟩, 28) := ⟨⟨by decide +kernel, by decide +kernel⟩, List.mem_of_getElem? (i := 467) (by decide +kernel), List.mem_of_getElem? (i := 625) (by decide +kernel), List.mem_of_getElem? (i := 626) (by decide +kernel)⟩
theorem lw_p45 : lw_okq (⟨"EarChartModel", "turnsIn", "(I)V"⟩, 28) := ⟨⟨by decide +kernel, by decide +kernel⟩, List.mem_of_getElem? (i := 467) (by decide +kernel), List.mem_of_getElem? (i := 645) (by decide +kernel), List.mem_of_getElem? (i := 646) (by decide +kernel)⟩
theorem lw_p46 : lw_okq (⟨"EarChartModel", "crosses", "(II)V"⟩, 28) := ⟨⟨by decide +kernel, by decide +kernel⟩, List.mem_of_getElem? (i := 467) (by decide +kernel), List.mem_of_getElem? (i := 664) (by decide +kernel), List.mem_of_getElem? (i := 665) (by decide +kernel)⟩
theorem lw_p47 : lw_okq (⟨"EarChartModel", "ends", "()Z"⟩, 28) := ⟨⟨by decide +kernel, by decide +kernel⟩, List.mem_of_getElem? (i := 467) (by decide +kernel), List.mem_of_getElem? (i := 677) (by decide +kernel), List.mem_of_getElem? (i := 678) (by decide +kernel)⟩
def lw_privs_3 : List (MethodName × Nat) := [(⟨"EarChart", "markSought", "(LEarChart$Row;I)V"⟩, 11), (⟨"EarChart", "markTurns", "(LEarChart$Row;)V"⟩, 11), (⟨"EarChart", "markCrossings", "(LEarChart$Row;)V"⟩, 11), (⟨"EarChart", "markBehind", "(I)I"⟩, 11), (⟨"EarChart", "markAhead", "(I)I"⟩, 11), (⟨"EarChartModel", "adds", "(II)I"⟩, 28), (⟨"EarChartModel", "isStep", "(II)Z"⟩, 28), (⟨"EarChartModel", "valueAt", "(II)I"⟩, 28), (⟨"EarChartModel", "shapes", "(I)V"⟩, 28), (⟨"EarChartModel", "weighs", "(I)V"⟩, 28), (⟨"EarChartModel", "isWay", "(II)Z"⟩, 28), (⟨"EarChartModel", "hasValue", "(II)Z"⟩, 28), (⟨"EarChartModel", "wayCost", "(III)I"⟩, 28), (⟨"EarChartModel", "turnsIn", "(I)V"⟩, 28), (⟨"EarChartModel", "crosses", "(II)V"⟩, 28), (⟨"EarChartModel", "ends", "()Z"⟩, 28)]
theorem lw_r3 : ∀ q ∈ lw_privs_3, lw_okq q := List.forall_mem_cons.mpr ⟨lw_p32, List.forall_mem_cons.mpr ⟨lw_p33, List.forall_mem_cons.mpr ⟨lw_p34, List.forall_mem_cons.mpr ⟨lw_p35, List.forall_mem_cons.mpr ⟨lw_p36, List.forall_mem_cons.mpr ⟨lw_p37, List.forall_mem_cons.mpr ⟨lw_p38, List.forall_mem_cons.mpr ⟨lw_p39, List.forall_mem_cons.mpr ⟨lw_p40, List.forall_mem_cons.mpr ⟨lw_p41, List.forall_mem_cons.mpr ⟨lw_p42, List.forall_mem_cons.mpr ⟨lw_p43, List.forall_mem_cons.mpr ⟨lw_p44, List.forall_mem_cons.mpr ⟨lw_p45, List.forall_mem_cons.mpr ⟨lw_p46, List.forall_mem_cons.mpr ⟨lw_p47, fun _ h => absurd h List.not_mem_nil⟩⟩⟩⟩⟩⟩⟩⟩⟩⟩⟩⟩⟩⟩⟩⟩
theorem lw_p48 : lw_okq (⟨"EarChartModel", "laying", "(I)I"⟩, 28) := ⟨⟨by decide +kernel, by decide +kernel⟩, List.mem_of_getElem? (i := 467) (by decide +kernel), List.mem_of_getElem? (i := 697) (by decide +kernel), List.mem_of_getElem? (i := 698) (by decide +kernel)⟩
theorem lw_p49 : lw_okq (⟨"EarChartModel", "slotCost", "(I)I"⟩, 28) := ⟨⟨by decide +kernel, by decide +kernel⟩, List.mem_of_getElem? (i := 467) (by decide +kernel), List.mem_of_getElem? (i := 702) (by decide +kernel), List.mem_of_getElem? (i := 703) (by decide +kernel)⟩
theorem lw_p50 : lw_okq (⟨"EarChartModel", "isLaid", "(I)Z"⟩, 28) := ⟨⟨by decide +kernel, by decide +kernel⟩, List.mem_of_getElem? (i := 467) (by decide +kernel), List.mem_of_getElem? (i := 706) (by decide +kernel), List.mem_of_getElem? (i := 707) (by decide +kernel)⟩
theorem lw_p51 : lw_okq (⟨"EarChartModel", "ways", "(I)I"⟩, 28) := ⟨⟨by decide +kernel, by decide +kernel⟩, List.mem_of_getElem? (i := 467) (by decide +kernel), List.mem_of_getElem? (i := 722) (by decide +kernel), List.mem_of_getElem? (i := 723) (by decide +kernel)⟩
theorem lw_p52 : lw_okq (⟨"EarChartModel", "isTurn", "(II)Z"⟩, 28) := ⟨⟨by decide +kernel, by decide +kernel⟩, List.mem_of_getElem? (i := 467) (by decide +kernel), List.mem_of_getElem? (i := 742) (by decide +kernel), List.mem_of_getElem? (i := 743) (by decide +kernel)⟩
theorem lw_p53 : lw_okq (⟨"EarChartModel", "isCross", "(II)Z"⟩, 28) := ⟨⟨by decide +kernel, by decide +kernel⟩, List.mem_of_getElem? (i := 467) (by decide +kernel), List.mem_of_getElem? (i := 746) (by decide +kernel), List.mem_of_getElem? (i := 747) (by decide +kernel)⟩
def lw_privs_4 : List (MethodName × Nat) := [(⟨"EarChartModel", "laying", "(I)I"⟩, 28), (⟨"EarChartModel", "slotCost", "(I)I"⟩, 28), (⟨"EarChartModel", "isLaid", "(I)Z"⟩, 28), (⟨"EarChartModel", "ways", "(I)I"⟩, 28), (⟨"EarChartModel", "isTurn", "(II)Z"⟩, 28), (⟨"EarChartModel", "isCross", "(II)Z"⟩, 28)]
theorem lw_r4 : ∀ q ∈ lw_privs_4, lw_okq q := List.forall_mem_cons.mpr ⟨lw_p48, List.forall_mem_cons.mpr ⟨lw_p49, List.forall_mem_cons.mpr ⟨lw_p50, List.forall_mem_cons.mpr ⟨lw_p51, List.forall_mem_cons.mpr ⟨lw_p52, List.forall_mem_cons.mpr ⟨lw_p53, fun _ h => absurd h List.not_mem_nil⟩⟩⟩⟩⟩⟩
def lw_privs : List (MethodName × Nat) := lw_privs_1 ++ (lw_privs_2 ++ (lw_privs_3 ++ (lw_privs_4)))
def lw_tbl : List Cond := k2_sels lw_privs ++ tables_1
theorem lw_privs_ok : ∀ q ∈ lw_privs, lw_okq q := by
  show ∀ q ∈ lw_privs_1 ++ (lw_privs_2 ++ (lw_privs_3 ++ (lw_privs_4))), lw_okq q
  exact List.forall_mem_append.mpr ⟨lw_r1, List.forall_mem_append.mpr ⟨lw_r2, List.forall_mem_append.mpr ⟨lw_r3, lw_r4⟩⟩⟩
end
section
/-! the machine seen from above: cells by their places from a base on, values with places for addresses -/
abbrev AC : Type := (Nat × vp_A) ⊕ (Nat × List Value)
def rv (b : Nat) : Value → Value
  | .ref a => .ref (b + a)
  | v => v
theorem rv_cat (b : Nat) (v : Value) : (rv b v).category = v.category := by cases v <;> rfl
theorem rv_rv (a b : Nat) (v : Value) : rv a (rv b v) = rv (a + b) v := by cases v <;> simp [rv, Nat.add_assoc]
theorem rv_rf (b : Nat) (r : Option Nat) : rv b (va_rf r) = va_rf (r.map (b + ·)) := by cases r <;> rfl
theorem rv_rvL (a b : Nat) (l : List Value) : (l.map (rv b)).map (rv a) = l.map (rv (a + b)) := by
  rw [List.map_map]
  exact List.map_congr_left (fun v _ => rv_rv a b v)
theorem rv_rvO (a b : Nat) (l : Option Value) : (l.map (rv b)).map (rv a) = l.map (rv (a + b)) := by cases l <;> simp [rv_rv]
def sa (b : Nat) (a : vp_A) : vp_A := match a with
  | (n, .inr (.inr (.inr (.inr f)))) => (n, .inr (.inr (.inr (.inr (fun j => (f j).map (b + ·))))))
  | a => a
def ec (b : Nat) (κ : Nat → ClassId) (c : AC) : va_E := match c with
  | .inl (t, a) => .inl (κ t, sa b a)
  | .inr (ci, fs) => .inr (ci, fs.map (rv b))
def sh (b : Nat) (c : AC) : AC := match c with
  | .inl (t, a) => .inl (t, sa b a)
  | .inr (ci, fs) => .inr (ci, fs.map (rv b))
theorem sa_sa (a b : Nat) (x : vp_A) : sa a (sa b x) = sa (a + b) x := by
  obtain ⟨n, f | f | f | f | f⟩ := x
  · rfl
  · rfl
  · rfl
  · rfl
  · show (n, _) = (n, _)
    congr 6
    funext j
    cases hf : f j <;> simp [hf, Nat.add_assoc]
theorem ec_sh (a b : Nat) (κ : Nat → ClassId) (c : AC) : ec a κ (sh b c) = ec (a + b) κ c := by
  rcases c with ⟨t, x⟩ | ⟨ci, fs⟩
  · show Sum.inl (κ t, sa a (sa b x)) = Sum.inl (κ t, sa (a + b) x)
    rw [sa_sa]
  · show Sum.inr (ci, (fs.map (rv b)).map (rv a)) = Sum.inr (ci, fs.map (rv (a + b)))
    rw [rv_rvL]
def wso (b : Nat) (κ : Nat → ClassId) (h : List AC) : va_W := h.mapIdx (fun i c => (b + i, ec b κ c))
theorem wso_get (b : Nat) (κ : Nat → ClassId) (h : List AC) (i : Nat) : (wso b κ h)[i]? = (h[i]?).map (fun c => (b + i, ec b κ c)) := by
  unfold wso
  rw [List.getElem?_mapIdx]
theorem wso_at {b : Nat} {κ : Nat → ClassId} {h : List AC} {i : Nat} {c : AC} (e : h[i]? = some c) : (wso b κ h)[i]? = some (b + i, ec b κ c) := by
  rw [wso_get, e]; rfl
theorem wso_of {b : Nat} {κ : Nat → ClassId} {h : List AC} {i : Nat} {q : Nat × va_E} (e : (wso b κ h)[i]? = some q) : ∃ c, h[i]? = some c ∧ q = (b + i, ec b κ c) := by
  rw [wso_get] at e
  cases hc : h[i]? with
  | none => rw [hc] at e; cases e
  | some c => rw [hc] at e; cases e; exact ⟨c, rfl, rfl⟩
theorem wso_len (b : Nat) (κ : Nat → ClassId) (h : List AC) : (wso b κ h).length = h.length := by
  unfold wso; rw [List.length_mapIdx]
theorem wso_set {b : Nat} {κ : Nat → ClassId} {h : List AC} {i : Nat} (c : AC) : (wso b κ h).set i (b + i, ec b κ c) = wso b κ (h.set i c) := by
  apply List.ext_getElem?
  intro j
  rw [List.getElem?_set, wso_get, wso_get, List.getElem?_set, wso_len]
  by_cases hj : i = j
  · subst hj
    by_cases hl : i < h.length <;> simp [hl]
  · simp [hj]
theorem wso_app {b : Nat} {κ : Nat → ClassId} {h : List AC} (c : AC) : wso b κ (h ++ [c]) = wso b κ h ++ [(b + h.length, ec b κ c)] := by
  unfold wso
  rw [List.mapIdx_append]
  simp
/-- what a method may write: its window, and what is made anew -/
def AX (b N0 x : Nat) : Nat → Prop := fun q => b ≤ q ∧ ¬ (b + N0 ≤ q ∧ q < b + N0 + x)
theorem wso_D {b N0 x : Nat} {κ : Nat → ClassId} {h : List AC} (hN : x = 0 ∨ h.length = N0) : va_D (AX b N0 x) (wso b κ h) := by
  refine ⟨fun i j p q hp hq e => ?_, fun k q hq => ?_⟩
  · obtain ⟨c1, -, rfl⟩ := wso_of hp
    obtain ⟨c2, -, rfl⟩ := wso_of hq
    have e : b + i = b + j := e
    omega
  · obtain ⟨c, hc, rfl⟩ := wso_of hq
    have hk : k < h.length := (List.getElem?_eq_some_iff.mp hc).1
    show b ≤ b + k ∧ ¬ (b + N0 ≤ b + k ∧ b + k < b + N0 + x)
    omega
abbrev tyk (κ : Nat → ClassId) : List (ClassId × FieldType) := [(κ 0, .int), (κ 1, .boolean), (κ 2, .object "EarChart$Row"), (κ 3, .array .int)]
/-! the tables' words hold at every later state too -/
def okW : Cond → Bool
  | .fieldLinkNest .. => true
  | .methodLinkNest .. => true
  | .arrayOver (.object _) => true
  | .arrayOver (.array .int) => true
  | w => goodWord w
def ktbl : List Cond := lw_tbl.filter okW
theorem k_mem {w : Cond} (h : w ∈ lw_tbl) (ho : okW w = true) : w ∈ ktbl := List.mem_filter.mpr ⟨h, ho⟩
theorem k_at {w : Cond} (i : Nat) (h : lw_tbl[i]? = some w) (ho : okW w = true) : w ∈ ktbl := k_mem (List.mem_of_getElem? h) ho
theorem okW_of {w : Cond} (h : w ∈ ktbl) : okW w = true := (List.mem_filter.mp h).2
def onT : Cond → Bool
  | .arrayClass _ => true
  | .arrayOver _ => true
  | w => w.onTables
theorem onT_all : ktbl.all onT = true := by decide +kernel
theorem onT_args {w : Cond} (hn : onT w = true) {A A' : Array Value} {U : State} (h : w.before A U = true) : w.before A' U = true := by
  cases w
  case arrayClass => exact h
  case arrayOver => exact h
  all_goals (refine va_tabs ?_ rfl h; exact hn)
theorem tb_args {A A' : Array Value} {U : State} (h : ∀ w ∈ ktbl, w.before A U = true) : ∀ w ∈ ktbl, w.before A' U = true := fun w hw => onT_args (List.all_eq_true.mp onT_all w hw) (h w hw)
theorem ao_moved {u U : State} (hvm : u.vm.Alike U.vm) (h : va_Nw (.arrayOver (.array .int)) u) : va_Nw (.arrayOver (.array .int)) U := by
  obtain ⟨comp, c, k, h1, h2, h3, h4, h5⟩ := arrayOver_specB h
  obtain ⟨k', hk', he⟩ := hvm.2.2 _ _ h3
  have hi : (U.vm.classes.findIdx? fun (x : Class) => match x.kind with | .array component _ => component == comp | _ => false) = some c := by
    have e1 := va_idx_bare U.vm comp
    have e2 := va_idx_bare u.vm comp
    have e3 : u.vm.bare = U.vm.bare := by first | exact hvm.bare_eq | exact hvm.bare_eq.symm
    rw [← e3] at e1
    exact e1.symm.trans (e2.trans h2)
  have hkind : k'.kind = .array comp (.array .int) := by rw [he]; exact h4
  have f1 : U.vm.findClass (FieldType.array .int).toString = some comp := by rw [hvm.findClass]; exact h1
  have f2 : U.vm.findClass ("[" ++ (FieldType.array .int).toString) = some c := by rw [hvm.findClass]; exact h5
  unfold va_Nw Cond.before Cond.holds
  simp only [Cond.value]
  rw [f1, Option.bind_some]
  refine (congrArg (fun o : Option Nat => (o.bind (fun c => (U.vm.classes[c]?).map fun (k : Class) => match k.kind with | .array _ ty => decide (ty = FieldType.array .int) && decide (U.vm.findClass ("[" ++ (FieldType.array .int).toString) = some c) | _ => false) == some true)) hi).trans ?_
  simp [hk', hkind, f2]
theorem tb_word {s U : State} (hW : s.WarmedH U.vm) {A A' : Array Value} {w : Cond} (ho : okW w = true) (h : w.before A s = true) : w.before A' U = true := by
  cases w
  case fieldLinkNest => exact va_Nw.use rfl (va_Nw.warmF hW (va_Nw.of rfl h))
  case methodLinkNest => exact va_Nw.use rfl (va_Nw.warmM hW (va_Nw.of rfl h))
  case arrayOver ty =>
    cases ty
    case object C => exact va_AO.use (va_AO.moved hW.alike (va_AO.of h))
    case array t =>
      cases t
      case int => exact ao_moved hW.alike h
      all_goals exact word_at hW (good_of_word ho) h
    all_goals exact word_at hW (good_of_word ho) h
  all_goals exact word_at hW (good_of_word ho) h
theorem tb_warm {s U : State} (hW : s.WarmedH U.vm) {A A' : Array Value} (h : ∀ w ∈ ktbl, w.before A s = true) : ∀ w ∈ ktbl, w.before A' U = true :=
  fun w hw => tb_word hW (okW_of hw) (h w hw)
end
section
def F_E : u_T := fun k => match k with
  | 0 => ("EarChart", "rows", "[LEarChart$Row;", true)
  | 1 => ("EarChart", "shape", "LEarChart$Shape;", true)
  | 2 => ("EarChart", "meeting", "LEarChart$Meeting;", true)
  | 3 => ("EarChart", "laying", "LEarChart$Laying;", true)
  | 4 => ("EarChart", "marks", "[Z", true)
  | 5 => ("EarChart", "part", "I", false)
  | 6 => ("EarChart", "grain", "I", false)
  | 7 => ("EarChart", "hide", "I", false)
  | 8 => ("EarChart", "late", "I", false)
  | 9 => ("EarChart", "walkRow", "I", false)
  | _ => ("EarChart", "walkStep", "I", false)
def ft_E : Nat → FieldType := fun k => match k with
  | 0 => (.array (.object "EarChart$Row"))
  | 1 => (.object "EarChart$Shape")
  | 2 => (.object "EarChart$Meeting")
  | 3 => (.object "EarChart$Laying")
  | 4 => (.array .boolean)
  | 5 => .int
  | 6 => .int
  | 7 => .int
  | 8 => .int
  | 9 => .int
  | _ => .int
theorem fn_E : ∀ a, a < 11 → ∀ b, b < 11 → a ≠ b → (F_E a).2.1 ≠ (F_E b).2.1 := by decide +kernel
theorem fo_E : ∀ k, k < 11 → parseFieldDescriptor (F_E k).2.2.1 = some (ft_E k) := by decide +kernel
theorem fi_E : ∀ w ∈ u_ws "EarChart" F_E 11, w ∈ ktbl := by decide +kernel
def F_R : u_T := fun k => match k with
  | 0 => ("EarChart$Row", "values", "[I", true)
  | 1 => ("EarChart$Row", "count", "I", false)
  | 2 => ("EarChart$Row", "miss", "I", false)
  | _ => ("EarChart$Row", "worth", "I", false)
def ft_R : Nat → FieldType := fun k => match k with
  | 0 => (.array .int)
  | 1 => .int
  | 2 => .int
  | _ => .int
theorem fn_R : ∀ a, a < 4 → ∀ b, b < 4 → a ≠ b → (F_R a).2.1 ≠ (F_R b).2.1 := by decide +kernel
theorem fo_R : ∀ k, k < 4 → parseFieldDescriptor (F_R k).2.2.1 = some (ft_R k) := by decide +kernel
theorem fi_R : ∀ w ∈ u_ws "EarChart$Row" F_R 4, w ∈ ktbl := by decide +kernel
def F_S : u_T := fun k => match k with
  | 0 => ("EarChart$Shape", "kinds", "[I", true)
  | 1 => ("EarChart$Shape", "firsts", "[I", true)
  | 2 => ("EarChart$Shape", "lasts", "[I", true)
  | 3 => ("EarChart$Shape", "turns", "[I", true)
  | 4 => ("EarChart$Shape", "costs", "[[I", true)
  | 5 => ("EarChart$Shape", "spanCount", "I", false)
  | 6 => ("EarChart$Shape", "turnCount", "I", false)
  | _ => ("EarChart$Shape", "total", "I", false)
def ft_S : Nat → FieldType := fun k => match k with
  | 0 => (.array .int)
  | 1 => (.array .int)
  | 2 => (.array .int)
  | 3 => (.array .int)
  | 4 => (.array (.array .int))
  | 5 => .int
  | 6 => .int
  | _ => .int
theorem fn_S : ∀ a, a < 8 → ∀ b, b < 8 → a ≠ b → (F_S a).2.1 ≠ (F_S b).2.1 := by decide +kernel
theorem fo_S : ∀ k, k < 8 → parseFieldDescriptor (F_S k).2.2.1 = some (ft_S k) := by decide +kernel
theorem fi_S : ∀ w ∈ u_ws "EarChart$Shape" F_S 8, w ∈ ktbl := by decide +kernel
def F_M : u_T := fun k => match k with
  | 0 => ("EarChart$Meeting", "steps", "[I", true)
  | _ => ("EarChart$Meeting", "count", "I", false)
def ft_M : Nat → FieldType := fun k => match k with
  | 0 => (.array .int)
  | _ => .int
theorem fn_M : ∀ a, a < 2 → ∀ b, b < 2 → a ≠ b → (F_M a).2.1 ≠ (F_M b).2.1 := by decide +kernel
theorem fo_M : ∀ k, k < 2 → parseFieldDescriptor (F_M k).2.2.1 = some (ft_M k) := by decide +kernel
theorem fi_M : ∀ w ∈ u_ws "EarChart$Meeting" F_M 2, w ∈ ktbl := by decide +kernel
def F_L : u_T := fun k => match k with
  | 0 => ("EarChart$Laying", "heights", "[I", true)
  | 1 => ("EarChart$Laying", "worths", "[I", true)
  | 2 => ("EarChart$Laying", "slots", "[I", true)
  | 3 => ("EarChart$Laying", "trial", "[I", true)
  | 4 => ("EarChart$Laying", "hide", "I", false)
  | 5 => ("EarChart$Laying", "late", "I", false)
  | _ => ("EarChart$Laying", "least", "I", false)
def ft_L : Nat → FieldType := fun k => match k with
  | 0 => (.array .int)
  | 1 => (.array .int)
  | 2 => (.array .int)
  | 3 => (.array .int)
  | 4 => .int
  | 5 => .int
  | _ => .int
theorem fn_L : ∀ a, a < 7 → ∀ b, b < 7 → a ≠ b → (F_L a).2.1 ≠ (F_L b).2.1 := by decide +kernel
theorem fo_L : ∀ k, k < 7 → parseFieldDescriptor (F_L k).2.2.1 = some (ft_L k) := by decide +kernel
theorem fi_L : ∀ w ∈ u_ws "EarChart$Laying" F_L 7, w ∈ ktbl := by decide +kernel
def F_T : u_T := fun k => match k with
  | 0 => ("EarChartModel", "many", "[I", true)
  | 1 => ("EarChartModel", "values", "[I", true)
  | 2 => ("EarChartModel", "miss", "[I", true)
  | 3 => ("EarChartModel", "worth", "[I", true)
  | 4 => ("EarChartModel", "part", "I", false)
  | 5 => ("EarChartModel", "walkRow", "I", false)
  | 6 => ("EarChartModel", "walkStep", "I", false)
  | 7 => ("EarChartModel", "kinds", "[I", true)
  | 8 => ("EarChartModel", "least", "[I", true)
  | 9 => ("EarChartModel", "all", "I", false)
  | 10 => ("EarChartModel", "spans", "I", false)
  | 11 => ("EarChartModel", "spanKind", "[I", true)
  | 12 => ("EarChartModel", "spanFirst", "[I", true)
  | 13 => ("EarChartModel", "spanLast", "[I", true)
  | 14 => ("EarChartModel", "turns", "I", false)
  | 15 => ("EarChartModel", "turnStep", "[I", true)
  | 16 => ("EarChartModel", "crossings", "I", false)
  | 17 => ("EarChartModel", "crossStep", "[I", true)
  | 18 => ("EarChartModel", "scale", "I", false)
  | 19 => ("EarChartModel", "hide", "I", false)
  | 20 => ("EarChartModel", "late", "I", false)
  | 21 => ("EarChartModel", "low", "I", false)
  | 22 => ("EarChartModel", "high", "I", false)
  | 23 => ("EarChartModel", "slots", "[I", true)
  | 24 => ("EarChartModel", "bestSlots", "[I", true)
  | 25 => ("EarChartModel", "heights", "[I", true)
  | 26 => ("EarChartModel", "beats", "[I", true)
  | _ => ("EarChartModel", "more", "[Z", true)
def ft_T : Nat → FieldType := fun k => match k with
  | 0 => (.array .int)
  | 1 => (.array .int)
  | 2 => (.array .int)
  | 3 => (.array .int)
  | 4 => .int
  | 5 => .int
  | 6 => .int
  | 7 => (.array .int)
  | 8 => (.array .int)
  | 9 => .int
  | 10 => .int
  | 11 => (.array .int)
  | 12 => (.array .int)
  | 13 => (.array .int)
  | 14 => .int
  | 15 => (.array .int)
  | 16 => .int
  | 17 => (.array .int)
  | 18 => .int
  | 19 => .int
  | 20 => .int
  | 21 => .int
  | 22 => .int
  | 23 => (.array .int)
  | 24 => (.array .int)
  | 25 => (.array .int)
  | 26 => (.array .int)
  | _ => (.array .boolean)
theorem fn_T : ∀ a, a < 28 → ∀ b, b < 28 → a ≠ b → (F_T a).2.1 ≠ (F_T b).2.1 := by decide +kernel
theorem fo_T : ∀ k, k < 28 → parseFieldDescriptor (F_T k).2.2.1 = some (ft_T k) := by decide +kernel
theorem fi_T : ∀ w ∈ u_ws "EarChartModel" F_T 28, w ∈ ktbl := by decide +kernel
abbrev kclasses : List vw_C := [("EarChart", F_E, 11), ("EarChart$Row", F_R, 4), ("EarChart$Shape", F_S, 8), ("EarChart$Meeting", F_M, 2), ("EarChart$Laying", F_L, 7), ("EarChartModel", F_T, 28)]
abbrev MI : Type := MethodName × ByteArray × Nat × Option FieldType
abbrev kE_init : MI := (⟨"EarChart", "<init>", "()V"⟩, prog_1_method_1_code, 2, (none : Option FieldType))
abbrev kE_value : MI := (⟨"EarChart", "value", "(II)I"⟩, prog_1_method_2_code, 4, (some FieldType.int))
abbrev kE_gap : MI := (⟨"EarChart", "gap", "(I)I"⟩, prog_1_method_3_code, 3, (some FieldType.int))
abbrev kE_put : MI := (⟨"EarChart", "put", "(III)Z"⟩, prog_1_method_4_code, 5, (some FieldType.boolean))
abbrev kE_clear : MI := (⟨"EarChart", "clear", "(I)I"⟩, prog_1_method_5_code, 4, (some FieldType.int))
abbrev kE_miss : MI := (⟨"EarChart", "miss", "(II)I"⟩, prog_1_method_6_code, 5, (some FieldType.int))
abbrev kE_part : MI := (⟨"EarChart", "part", "(I)I"⟩, prog_1_method_7_code, 3, (some FieldType.int))
abbrev kE_at : MI := (⟨"EarChart", "at", "(II)I"⟩, prog_1_method_8_code, 4, (some FieldType.int))
abbrev kE_spans : MI := (⟨"EarChart", "spans", "(I)I"⟩, prog_1_method_9_code, 2, (some FieldType.int))
abbrev kE_cost : MI := (⟨"EarChart", "cost", "(I)I"⟩, prog_1_method_10_code, 2, (some FieldType.int))
abbrev kE_span : MI := (⟨"EarChart", "span", "(III)I"⟩, prog_1_method_11_code, 4, (some FieldType.int))
abbrev kE_kind : MI := (⟨"EarChart", "kind", "(II)I"⟩, prog_1_method_12_code, 3, (some FieldType.int))
abbrev kE_turnsOf : MI := (⟨"EarChart", "turnsOf", "(I)I"⟩, prog_1_method_13_code, 2, (some FieldType.int))
abbrev kE_turn : MI := (⟨"EarChart", "turn", "(II)I"⟩, prog_1_method_14_code, 3, (some FieldType.int))
abbrev kE_sure : MI := (⟨"EarChart", "sure", "(III)I"⟩, prog_1_method_15_code, 4, (some FieldType.int))
abbrev kE_crossings : MI := (⟨"EarChart", "crossings", "(II)I"⟩, prog_1_method_16_code, 3, (some FieldType.int))
abbrev kE_crossing : MI := (⟨"EarChart", "crossing", "(III)I"⟩, prog_1_method_17_code, 4, (some FieldType.int))
abbrev kE_scale : MI := (⟨"EarChart", "scale", "(II)I"⟩, prog_1_method_18_code, 6, (some FieldType.int))
abbrev kE_height : MI := (⟨"EarChart", "height", "(II)I"⟩, prog_1_method_19_code, 4, (some FieldType.int))
abbrev kE_ear : MI := (⟨"EarChart", "ear", "(II)Z"⟩, prog_1_method_20_code, 3, (some FieldType.boolean))
abbrev kE_worth : MI := (⟨"EarChart", "worth", "(II)I"⟩, prog_1_method_21_code, 5, (some FieldType.int))
abbrev kE_lay : MI := (⟨"EarChart", "lay", "(I)I"⟩, prog_1_method_22_code, 2, (some FieldType.int))
abbrev kE_slot : MI := (⟨"EarChart", "slot", "(II)I"⟩, prog_1_method_23_code, 4, (some FieldType.int))
abbrev kE_hears : MI := (⟨"EarChart", "hears", "(III)I"⟩, prog_1_method_24_code, 4, (some FieldType.int))
abbrev kE_whole : MI := (⟨"EarChart", "whole", "(III)I"⟩, prog_1_method_25_code, 4, (some FieldType.int))
abbrev kE_walk : MI := (⟨"EarChart", "walk", "(II)Z"⟩, prog_1_method_26_code, 4, (some FieldType.boolean))
abbrev kE_where : MI := (⟨"EarChart", "where", "(I)I"⟩, prog_1_method_27_code, 2, (some FieldType.int))
abbrev kE_go : MI := (⟨"EarChart", "go", "(Z)I"⟩, prog_1_method_28_code, 4, (some FieldType.int))
abbrev kE_seek : MI := (⟨"EarChart", "seek", "(ZI)I"⟩, prog_1_method_29_code, 5, (some FieldType.int))
abbrev kE_within : MI := (⟨"EarChart", "within", "(III)Z"⟩, prog_1_method_30_code, 3, (some FieldType.boolean))
abbrev kE_isValue : MI := (⟨"EarChart", "isValue", "(I)Z"⟩, prog_1_method_31_code, 1, (some FieldType.boolean))
abbrev kE_rowOf : MI := (⟨"EarChart", "rowOf", "(I)LEarChart$Row;"⟩, prog_1_method_32_code, 2, (some (FieldType.object "EarChart$Row")))
abbrev kE_areTwoRows : MI := (⟨"EarChart", "areTwoRows", "(II)Z"⟩, prog_1_method_33_code, 2, (some FieldType.boolean))
abbrev kE_readShape : MI := (⟨"EarChart", "readShape", "(I)Z"⟩, prog_1_method_34_code, 3, (some FieldType.boolean))
abbrev kE_readMeeting : MI := (⟨"EarChart", "readMeeting", "(II)Z"⟩, prog_1_method_35_code, 3, (some FieldType.boolean))
abbrev kE_compareSurely : MI := (⟨"EarChart", "compareSurely", "(LEarChart$Row;LEarChart$Row;I)I"⟩, prog_1_method_36_code, 5, (some FieldType.int))
abbrev kE_lowestValue : MI := (⟨"EarChart", "lowestValue", "()I"⟩, prog_1_method_37_code, 3, (some FieldType.int))
abbrev kE_highestValue : MI := (⟨"EarChart", "highestValue", "()I"⟩, prog_1_method_38_code, 3, (some FieldType.int))
abbrev kE_heightAbove : MI := (⟨"EarChart", "heightAbove", "(ILEarChart$Row;I)I"⟩, prog_1_method_39_code, 4, (some FieldType.int))
abbrev kE_readLaying : MI := (⟨"EarChart", "readLaying", "(I)Z"⟩, prog_1_method_40_code, 4, (some FieldType.boolean))
abbrev kE_soundsAbove : MI := (⟨"EarChart", "soundsAbove", "(II)Z"⟩, prog_1_method_41_code, 5, (some FieldType.boolean))
abbrev kE_markSought : MI := (⟨"EarChart", "markSought", "(LEarChart$Row;I)V"⟩, prog_1_method_42_code, 4, (none : Option FieldType))
abbrev kE_markTurns : MI := (⟨"EarChart", "markTurns", "(LEarChart$Row;)V"⟩, prog_1_method_43_code, 3, (none : Option FieldType))
abbrev kE_markCrossings : MI := (⟨"EarChart", "markCrossings", "(LEarChart$Row;)V"⟩, prog_1_method_44_code, 4, (none : Option FieldType))
abbrev kE_markBehind : MI := (⟨"EarChart", "markBehind", "(I)I"⟩, prog_1_method_45_code, 3, (some FieldType.int))
abbrev kE_markAhead : MI := (⟨"EarChart", "markAhead", "(I)I"⟩, prog_1_method_46_code, 3, (some FieldType.int))
abbrev kT_init : MI := (⟨"EarChartModel", "<init>", "()V"⟩, prog_7_method_1_code, 1, (none : Option FieldType))
abbrev kT_isRow : MI := (⟨"EarChartModel", "isRow", "(I)Z"⟩, prog_7_method_2_code, 1, (some FieldType.boolean))
abbrev kT_isIn : MI := (⟨"EarChartModel", "isIn", "(III)Z"⟩, prog_7_method_3_code, 3, (some FieldType.boolean))
abbrev kT_isStep : MI := (⟨"EarChartModel", "isStep", "(II)Z"⟩, prog_7_method_4_code, 3, (some FieldType.boolean))
abbrev kT_hasValue : MI := (⟨"EarChartModel", "hasValue", "(II)Z"⟩, prog_7_method_5_code, 3, (some FieldType.boolean))
abbrev kT_valueAt : MI := (⟨"EarChartModel", "valueAt", "(II)I"⟩, prog_7_method_6_code, 3, (some FieldType.int))
abbrev kT_adds : MI := (⟨"EarChartModel", "adds", "(II)I"⟩, prog_7_method_7_code, 3, (some FieldType.int))
abbrev kT_value : MI := (⟨"EarChartModel", "value", "(II)I"⟩, prog_7_method_8_code, 3, (some FieldType.int))
abbrev kT_gap : MI := (⟨"EarChartModel", "gap", "(I)I"⟩, prog_7_method_9_code, 2, (some FieldType.int))
abbrev kT_put : MI := (⟨"EarChartModel", "put", "(III)Z"⟩, prog_7_method_10_code, 4, (some FieldType.boolean))
abbrev kT_clear : MI := (⟨"EarChartModel", "clear", "(I)I"⟩, prog_7_method_11_code, 3, (some FieldType.int))
abbrev kT_miss : MI := (⟨"EarChartModel", "miss", "(II)I"⟩, prog_7_method_12_code, 4, (some FieldType.int))
abbrev kT_part : MI := (⟨"EarChartModel", "part", "(I)I"⟩, prog_7_method_13_code, 3, (some FieldType.int))
abbrev kT_at : MI := (⟨"EarChartModel", "at", "(II)I"⟩, prog_7_method_14_code, 3, (some FieldType.int))
abbrev kT_isWay : MI := (⟨"EarChartModel", "isWay", "(II)Z"⟩, prog_7_method_15_code, 3, (some FieldType.boolean))
abbrev kT_wayCost : MI := (⟨"EarChartModel", "wayCost", "(III)I"⟩, prog_7_method_16_code, 5, (some FieldType.int))
abbrev kT_weighs : MI := (⟨"EarChartModel", "weighs", "(I)V"⟩, prog_7_method_17_code, 7, (none : Option FieldType))
abbrev kT_shapes : MI := (⟨"EarChartModel", "shapes", "(I)V"⟩, prog_7_method_18_code, 7, (none : Option FieldType))
abbrev kT_spans : MI := (⟨"EarChartModel", "spans", "(I)I"⟩, prog_7_method_19_code, 2, (some FieldType.int))
abbrev kT_cost : MI := (⟨"EarChartModel", "cost", "(I)I"⟩, prog_7_method_20_code, 2, (some FieldType.int))
abbrev kT_span : MI := (⟨"EarChartModel", "span", "(III)I"⟩, prog_7_method_21_code, 4, (some FieldType.int))
abbrev kT_kind : MI := (⟨"EarChartModel", "kind", "(II)I"⟩, prog_7_method_22_code, 3, (some FieldType.int))
abbrev kT_size : MI := (⟨"EarChartModel", "size", "(I)I"⟩, prog_7_method_23_code, 1, (some FieldType.int))
abbrev kT_turnsIn : MI := (⟨"EarChartModel", "turnsIn", "(I)V"⟩, prog_7_method_24_code, 4, (none : Option FieldType))
abbrev kT_turnsOf : MI := (⟨"EarChartModel", "turnsOf", "(I)I"⟩, prog_7_method_25_code, 2, (some FieldType.int))
abbrev kT_turn : MI := (⟨"EarChartModel", "turn", "(II)I"⟩, prog_7_method_26_code, 3, (some FieldType.int))
abbrev kT_sure : MI := (⟨"EarChartModel", "sure", "(III)I"⟩, prog_7_method_27_code, 6, (some FieldType.int))
abbrev kT_crosses : MI := (⟨"EarChartModel", "crosses", "(II)V"⟩, prog_7_method_28_code, 6, (none : Option FieldType))
abbrev kT_crossings : MI := (⟨"EarChartModel", "crossings", "(II)I"⟩, prog_7_method_29_code, 3, (some FieldType.int))
abbrev kT_crossing : MI := (⟨"EarChartModel", "crossing", "(III)I"⟩, prog_7_method_30_code, 4, (some FieldType.int))
abbrev kT_ends : MI := (⟨"EarChartModel", "ends", "()Z"⟩, prog_7_method_31_code, 5, (some FieldType.boolean))
abbrev kT_scale : MI := (⟨"EarChartModel", "scale", "(II)I"⟩, prog_7_method_32_code, 4, (some FieldType.int))
abbrev kT_height : MI := (⟨"EarChartModel", "height", "(II)I"⟩, prog_7_method_33_code, 3, (some FieldType.int))
abbrev kT_ear : MI := (⟨"EarChartModel", "ear", "(II)Z"⟩, prog_7_method_34_code, 3, (some FieldType.boolean))
abbrev kT_worth : MI := (⟨"EarChartModel", "worth", "(II)I"⟩, prog_7_method_35_code, 4, (some FieldType.int))
abbrev kT_isLaid : MI := (⟨"EarChartModel", "isLaid", "(I)Z"⟩, prog_7_method_36_code, 4, (some FieldType.boolean))
abbrev kT_slotCost : MI := (⟨"EarChartModel", "slotCost", "(I)I"⟩, prog_7_method_37_code, 4, (some FieldType.int))
abbrev kT_laying : MI := (⟨"EarChartModel", "laying", "(I)I"⟩, prog_7_method_38_code, 7, (some FieldType.int))
abbrev kT_lay : MI := (⟨"EarChartModel", "lay", "(I)I"⟩, prog_7_method_39_code, 2, (some FieldType.int))
abbrev kT_slot : MI := (⟨"EarChartModel", "slot", "(II)I"⟩, prog_7_method_40_code, 3, (some FieldType.int))
abbrev kT_hears : MI := (⟨"EarChartModel", "hears", "(III)I"⟩, prog_7_method_41_code, 6, (some FieldType.int))
abbrev kT_ways : MI := (⟨"EarChartModel", "ways", "(I)I"⟩, prog_7_method_42_code, 2, (some FieldType.int))
abbrev kT_whole : MI := (⟨"EarChartModel", "whole", "(III)I"⟩, prog_7_method_43_code, 9, (some FieldType.int))
abbrev kT_walk : MI := (⟨"EarChartModel", "walk", "(II)Z"⟩, prog_7_method_44_code, 3, (some FieldType.boolean))
abbrev kT_where : MI := (⟨"EarChartModel", "where", "(I)I"⟩, prog_7_method_45_code, 2, (some FieldType.int))
abbrev kT_go : MI := (⟨"EarChartModel", "go", "(Z)I"⟩, prog_7_method_46_code, 3, (some FieldType.int))
abbrev kT_isCross : MI := (⟨"EarChartModel", "isCross", "(II)Z"⟩, prog_7_method_47_code, 5, (some FieldType.boolean))
abbrev kT_isTurn : MI := (⟨"EarChartModel", "isTurn", "(II)Z"⟩, prog_7_method_48_code, 4, (some FieldType.boolean))
abbrev kT_seek : MI := (⟨"EarChartModel", "seek", "(ZI)I"⟩, prog_7_method_49_code, 6, (some FieldType.int))
abbrev kL_init : MI := (⟨"EarChart$Laying", "<init>", "()V"⟩, prog_2_method_1_code, 1, (none : Option FieldType))
abbrev kL_find : MI := (⟨"EarChart$Laying", "find", "(II)V"⟩, prog_2_method_2_code, 3, (none : Option FieldType))
abbrev kL_tryFrom : MI := (⟨"EarChart$Laying", "tryFrom", "(II)V"⟩, prog_2_method_3_code, 4, (none : Option FieldType))
abbrev kL_isFree : MI := (⟨"EarChart$Laying", "isFree", "(II)Z"⟩, prog_2_method_4_code, 4, (some FieldType.boolean))
abbrev kL_isHeard : MI := (⟨"EarChart$Laying", "isHeard", "(I)Z"⟩, prog_2_method_5_code, 2, (some FieldType.boolean))
abbrev kM_init : MI := (⟨"EarChart$Meeting", "<init>", "()V"⟩, prog_3_method_1_code, 1, (none : Option FieldType))
abbrev kM_read : MI := (⟨"EarChart$Meeting", "read", "(LEarChart$Row;LEarChart$Row;)V"⟩, prog_3_method_2_code, 6, (none : Option FieldType))
abbrev kR_init : MI := (⟨"EarChart$Row", "<init>", "()V"⟩, prog_4_method_1_code, 1, (none : Option FieldType))
abbrev kR_hasStep : MI := (⟨"EarChart$Row", "hasStep", "(I)Z"⟩, prog_4_method_2_code, 2, (some FieldType.boolean))
abbrev kR_hasValue : MI := (⟨"EarChart$Row", "hasValue", "(I)Z"⟩, prog_4_method_3_code, 2, (some FieldType.boolean))
abbrev kR_hasWay : MI := (⟨"EarChart$Row", "hasWay", "(I)Z"⟩, prog_4_method_4_code, 2, (some FieldType.boolean))
abbrev kR_append : MI := (⟨"EarChart$Row", "append", "(I)I"⟩, prog_4_method_5_code, 2, (some FieldType.int))
abbrev kR_lowest : MI := (⟨"EarChart$Row", "lowest", "()I"⟩, prog_4_method_6_code, 3, (some FieldType.int))
abbrev kR_highest : MI := (⟨"EarChart$Row", "highest", "()I"⟩, prog_4_method_7_code, 3, (some FieldType.int))
abbrev kS_init : MI := (⟨"EarChart$Shape", "<init>", "()V"⟩, prog_5_method_1_code, 1, (none : Option FieldType))
abbrev kS_read : MI := (⟨"EarChart$Shape", "read", "(LEarChart$Row;I)V"⟩, prog_5_method_2_code, 3, (none : Option FieldType))
abbrev kS_weighWays : MI := (⟨"EarChart$Shape", "weighWays", "(LEarChart$Row;I)V"⟩, prog_5_method_3_code, 6, (none : Option FieldType))
abbrev kS_costOfWay : MI := (⟨"EarChart$Shape", "costOfWay", "(II)I"⟩, prog_5_method_4_code, 2, (some FieldType.int))
abbrev kS_costBehind : MI := (⟨"EarChart$Shape", "costBehind", "(IIII)I"⟩, prog_5_method_5_code, 5, (some FieldType.int))
abbrev kS_bestKind : MI := (⟨"EarChart$Shape", "bestKind", "(III)I"⟩, prog_5_method_6_code, 6, (some FieldType.int))
abbrev kS_chooseKinds : MI := (⟨"EarChart$Shape", "chooseKinds", "(LEarChart$Row;I)V"⟩, prog_5_method_7_code, 6, (none : Option FieldType))
abbrev kS_noteWay : MI := (⟨"EarChart$Shape", "noteWay", "(III)V"⟩, prog_5_method_8_code, 4, (none : Option FieldType))
abbrev kS_findTurns : MI := (⟨"EarChart$Shape", "findTurns", "(LEarChart$Row;)V"⟩, prog_5_method_9_code, 3, (none : Option FieldType))
abbrev kS_turnsAtStart : MI := (⟨"EarChart$Shape", "turnsAtStart", "(LEarChart$Row;I)Z"⟩, prog_5_method_10_code, 6, (some FieldType.boolean))
abbrev kS_hasSpan : MI := (⟨"EarChart$Shape", "hasSpan", "(I)Z"⟩, prog_5_method_11_code, 2, (some FieldType.boolean))
abbrev kS_kindOfSpan : MI := (⟨"EarChart$Shape", "kindOfSpan", "(I)I"⟩, prog_5_method_12_code, 2, (some FieldType.int))
abbrev kS_waysOfSpan : MI := (⟨"EarChart$Shape", "waysOfSpan", "(I)I"⟩, prog_5_method_13_code, 2, (some FieldType.int))
abbrev kS_allWays : MI := (⟨"EarChart$Shape", "allWays", "()I"⟩, prog_5_method_14_code, 3, (some FieldType.int))
abbrev kS_beatsOfSpan : MI := (⟨"EarChart$Shape", "beatsOfSpan", "(II)I"⟩, prog_5_method_15_code, 10, (some FieldType.int))
end
