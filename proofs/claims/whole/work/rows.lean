section
-- ===== PART A: goes FIRST, ahead of the names: the tables' words, and 'selects' of the private methods out of them =====
/-- a private method of a class that the tables say can be made, by its rows of tables_1 -/
def lw_okq (q : MethodName × Nat) : Prop := (q.1.cls ≠ "java/lang/invoke/MethodHandle" ∧ q.1.cls ≠ "java/lang/invoke/VarHandle") ∧ Cond.instantiable q.1.cls q.2 ∈ tables_1 ∧ Cond.privateMethod q.1 ∈ tables_1 ∧ Cond.instanceMethod q.1 ∈ tables_1
theorem lw_p0 : lw_okq (⟨"EarChart", "rowOf", "(I)LEarChart$Row;"⟩, 11) := ⟨⟨by decide +kernel, by decide +kernel⟩, List.mem_of_getElem? (i := 10) (by decide +kernel), List.mem_of_getElem? (i := 171) (by decide +kernel), List.mem_of_getElem? (i := 172) (by decide +kernel)⟩
theorem lw_p1 : lw_okq (⟨"EarChart$Row", "append", "(I)I"⟩, 4) := ⟨⟨by decide +kernel, by decide +kernel⟩, List.mem_of_getElem? (i := 19) (by decide +kernel), List.mem_of_getElem? (i := 181) (by decide +kernel), List.mem_of_getElem? (i := 182) (by decide +kernel)⟩
theorem lw_p2 : lw_okq (⟨"EarChart$Row", "hasStep", "(I)Z"⟩, 4) := ⟨⟨by decide +kernel, by decide +kernel⟩, List.mem_of_getElem? (i := 19) (by decide +kernel), List.mem_of_getElem? (i := 193) (by decide +kernel), List.mem_of_getElem? (i := 194) (by decide +kernel)⟩
theorem lw_p3 : lw_okq (⟨"EarChart", "readShape", "(I)Z"⟩, 11) := ⟨⟨by decide +kernel, by decide +kernel⟩, List.mem_of_getElem? (i := 10) (by decide +kernel), List.mem_of_getElem? (i := 217) (by decide +kernel), List.mem_of_getElem? (i := 218) (by decide +kernel)⟩
theorem lw_p4 : lw_okq (⟨"EarChart$Shape", "read", "(LEarChart$Row;I)V"⟩, 8) := ⟨⟨by decide +kernel, by decide +kernel⟩, List.mem_of_getElem? (i := 45) (by decide +kernel), List.mem_of_getElem? (i := 221) (by decide +kernel), List.mem_of_getElem? (i := 222) (by decide +kernel)⟩
theorem lw_p5 : lw_okq (⟨"EarChart$Shape", "weighWays", "(LEarChart$Row;I)V"⟩, 8) := ⟨⟨by decide +kernel, by decide +kernel⟩, List.mem_of_getElem? (i := 45) (by decide +kernel), List.mem_of_getElem? (i := 225) (by decide +kernel), List.mem_of_getElem? (i := 226) (by decide +kernel)⟩
theorem lw_p6 : lw_okq (⟨"EarChart$Row", "hasWay", "(I)Z"⟩, 4) := ⟨⟨by decide +kernel, by decide +kernel⟩, List.mem_of_getElem? (i := 19) (by decide +kernel), List.mem_of_getElem? (i := 229) (by decide +kernel), List.mem_of_getElem? (i := 230) (by decide +kernel)⟩
theorem lw_p7 : lw_okq (⟨"EarChart$Row", "hasValue", "(I)Z"⟩, 4) := ⟨⟨by decide +kernel, by decide +kernel⟩, List.mem_of_getElem? (i := 19) (by decide +kernel), List.mem_of_getElem? (i := 233) (by decide +kernel), List.mem_of_getElem? (i := 234) (by decide +kernel)⟩
theorem lw_p8 : lw_okq (⟨"EarChart$Shape", "bestKind", "(III)I"⟩, 8) := ⟨⟨by decide +kernel, by decide +kernel⟩, List.mem_of_getElem? (i := 45) (by decide +kernel), List.mem_of_getElem? (i := 246) (by decide +kernel), List.mem_of_getElem? (i := 247) (by decide +kernel)⟩
theorem lw_p9 : lw_okq (⟨"EarChart$Shape", "costBehind", "(IIII)I"⟩, 8) := ⟨⟨by decide +kernel, by decide +kernel⟩, List.mem_of_getElem? (i := 45) (by decide +kernel), List.mem_of_getElem? (i := 250) (by decide +kernel), List.mem_of_getElem? (i := 251) (by decide +kernel)⟩
theorem lw_p10 : lw_okq (⟨"EarChart$Shape", "chooseKinds", "(LEarChart$Row;I)V"⟩, 8) := ⟨⟨by decide +kernel, by decide +kernel⟩, List.mem_of_getElem? (i := 45) (by decide +kernel), List.mem_of_getElem? (i := 254) (by decide +kernel), List.mem_of_getElem? (i := 255) (by decide +kernel)⟩
theorem lw_p11 : lw_okq (⟨"EarChart$Shape", "noteWay", "(III)V"⟩, 8) := ⟨⟨by decide +kernel, by decide +kernel⟩, List.mem_of_getElem? (i := 45) (by decide +kernel), List.mem_of_getElem? (i := 258) (by decide +kernel), List.mem_of_getElem? (i := 259) (by decide +kernel)⟩
theorem lw_p12 : lw_okq (⟨"EarChart$Shape", "findTurns", "(LEarChart$Row;)V"⟩, 8) := ⟨⟨by decide +kernel, by decide +kernel⟩, List.mem_of_getElem? (i := 45) (by decide +kernel), List.mem_of_getElem? (i := 262) (by decide +kernel), List.mem_of_getElem? (i := 263) (by decide +kernel)⟩
theorem lw_p13 : lw_okq (⟨"EarChart$Shape", "turnsAtStart", "(LEarChart$Row;I)Z"⟩, 8) := ⟨⟨by decide +kernel, by decide +kernel⟩, List.mem_of_getElem? (i := 45) (by decide +kernel), List.mem_of_getElem? (i := 266) (by decide +kernel), List.mem_of_getElem? (i := 267) (by decide +kernel)⟩
theorem lw_p14 : lw_okq (⟨"EarChart$Shape", "kindOfSpan", "(I)I"⟩, 8) := ⟨⟨by decide +kernel, by decide +kernel⟩, List.mem_of_getElem? (i := 45) (by decide +kernel), List.mem_of_getElem? (i := 270) (by decide +kernel), List.mem_of_getElem? (i := 271) (by decide +kernel)⟩
theorem lw_p15 : lw_okq (⟨"EarChart$Shape", "hasSpan", "(I)Z"⟩, 8) := ⟨⟨by decide +kernel, by decide +kernel⟩, List.mem_of_getElem? (i := 45) (by decide +kernel), List.mem_of_getElem? (i := 285) (by decide +kernel), List.mem_of_getElem? (i := 286) (by decide +kernel)⟩
def lw_privs_1 : List (MethodName × Nat) := [(⟨"EarChart", "rowOf", "(I)LEarChart$Row;"⟩, 11), (⟨"EarChart$Row", "append", "(I)I"⟩, 4), (⟨"EarChart$Row", "hasStep", "(I)Z"⟩, 4), (⟨"EarChart", "readShape", "(I)Z"⟩, 11), (⟨"EarChart$Shape", "read", "(LEarChart$Row;I)V"⟩, 8), (⟨"EarChart$Shape", "weighWays", "(LEarChart$Row;I)V"⟩, 8), (⟨"EarChart$Row", "hasWay", "(I)Z"⟩, 4), (⟨"EarChart$Row", "hasValue", "(I)Z"⟩, 4), (⟨"EarChart$Shape", "bestKind", "(III)I"⟩, 8), (⟨"EarChart$Shape", "costBehind", "(IIII)I"⟩, 8), (⟨"EarChart$Shape", "chooseKinds", "(LEarChart$Row;I)V"⟩, 8), (⟨"EarChart$Shape", "noteWay", "(III)V"⟩, 8), (⟨"EarChart$Shape", "findTurns", "(LEarChart$Row;)V"⟩, 8), (⟨"EarChart$Shape", "turnsAtStart", "(LEarChart$Row;I)Z"⟩, 8), (⟨"EarChart$Shape", "kindOfSpan", "(I)I"⟩, 8), (⟨"EarChart$Shape", "hasSpan", "(I)Z"⟩, 8)]
theorem lw_r1 : ∀ q ∈ lw_privs_1, lw_okq q := List.forall_mem_cons.mpr ⟨lw_p0, List.forall_mem_cons.mpr ⟨lw_p1, List.forall_mem_cons.mpr ⟨lw_p2, List.forall_mem_cons.mpr ⟨lw_p3, List.forall_mem_cons.mpr ⟨lw_p4, List.forall_mem_cons.mpr ⟨lw_p5, List.forall_mem_cons.mpr ⟨lw_p6, List.forall_mem_cons.mpr ⟨lw_p7, List.forall_mem_cons.mpr ⟨lw_p8, List.forall_mem_cons.mpr ⟨lw_p9, List.forall_mem_cons.mpr ⟨lw_p10, List.forall_mem_cons.mpr ⟨lw_p11, List.forall_mem_cons.mpr ⟨lw_p12, List.forall_mem_cons.mpr ⟨lw_p13, List.forall_mem_cons.mpr ⟨lw_p14, List.forall_mem_cons.mpr ⟨lw_p15, fun _ h => absurd h List.not_mem_nil⟩⟩⟩⟩⟩⟩⟩⟩⟩⟩⟩⟩⟩⟩⟩⟩
theorem lw_p16 : lw_okq (⟨"EarChart", "readMeeting", "(II)Z"⟩, 11) := ⟨⟨by decide +kernel, by decide +kernel⟩, List.mem_of_getElem? (i := 10) (by decide +kernel), List.mem_of_getElem? (i := 317) (by decide +kernel), List.mem_of_getElem? (i := 318) (by decide +kernel)⟩
theorem lw_p17 : lw_okq (⟨"EarChart$Meeting", "read", "(LEarChart$Row;LEarChart$Row;)V"⟩, 2) := ⟨⟨by decide +kernel, by decide +kernel⟩, List.mem_of_getElem? (i := 85) (by decide +kernel), List.mem_of_getElem? (i := 321) (by decide +kernel), List.mem_of_getElem? (i := 322) (by decide +kernel)⟩
theorem lw_p18 : lw_okq (⟨"EarChart", "lowestValue", "()I"⟩, 11) := ⟨⟨by decide +kernel, by decide +kernel⟩, List.mem_of_getElem? (i := 10) (by decide +kernel), List.mem_of_getElem? (i := 334) (by decide +kernel), List.mem_of_getElem? (i := 335) (by decide +kernel)⟩
theorem lw_p19 : lw_okq (⟨"EarChart$Row", "lowest", "()I"⟩, 4) := ⟨⟨by decide +kernel, by decide +kernel⟩, List.mem_of_getElem? (i := 19) (by decide +kernel), List.mem_of_getElem? (i := 339) (by decide +kernel), List.mem_of_getElem? (i := 340) (by decide +kernel)⟩
theorem lw_p20 : lw_okq (⟨"EarChart", "highestValue", "()I"⟩, 11) := ⟨⟨by decide +kernel, by decide +kernel⟩, List.mem_of_getElem? (i := 10) (by decide +kernel), List.mem_of_getElem? (i := 346) (by decide +kernel), List.mem_of_getElem? (i := 347) (by decide +kernel)⟩
theorem lw_p21 : lw_okq (⟨"EarChart$Row", "highest", "()I"⟩, 4) := ⟨⟨by decide +kernel, by decide +kernel⟩, List.mem_of_getElem? (i := 19) (by decide +kernel), List.mem_of_getElem? (i := 351) (by decide +kernel), List.mem_of_getElem? (i := 352) (by decide +kernel)⟩
theorem lw_p22 : lw_okq (⟨"EarChart", "heightAbove", "(ILEarChart$Row;I)I"⟩, 11) := ⟨⟨by decide +kernel, by decide +kernel⟩, List.mem_of_getElem? (i := 10) (by decide +kernel), List.mem_of_getElem? (i := 362) (by decide +kernel), List.mem_of_getElem? (i := 363) (by decide +kernel)⟩
theorem lw_p23 : lw_okq (⟨"EarChart", "readLaying", "(I)Z"⟩, 11) := ⟨⟨by decide +kernel, by decide +kernel⟩, List.mem_of_getElem? (i := 10) (by decide +kernel), List.mem_of_getElem? (i := 378) (by decide +kernel), List.mem_of_getElem? (i := 379) (by decide +kernel)⟩
theorem lw_p24 : lw_okq (⟨"EarChart$Laying", "find", "(II)V"⟩, 7) := ⟨⟨by decide +kernel, by decide +kernel⟩, List.mem_of_getElem? (i := 100) (by decide +kernel), List.mem_of_getElem? (i := 382) (by decide +kernel), List.mem_of_getElem? (i := 383) (by decide +kernel)⟩
theorem lw_p25 : lw_okq (⟨"EarChart$Laying", "tryFrom", "(II)V"⟩, 7) := ⟨⟨by decide +kernel, by decide +kernel⟩, List.mem_of_getElem? (i := 100) (by decide +kernel), List.mem_of_getElem? (i := 387) (by decide +kernel), List.mem_of_getElem? (i := 388) (by decide +kernel)⟩
theorem lw_p26 : lw_okq (⟨"EarChart$Laying", "isFree", "(II)Z"⟩, 7) := ⟨⟨by decide +kernel, by decide +kernel⟩, List.mem_of_getElem? (i := 100) (by decide +kernel), List.mem_of_getElem? (i := 394) (by decide +kernel), List.mem_of_getElem? (i := 395) (by decide +kernel)⟩
theorem lw_p27 : lw_okq (⟨"EarChart$Laying", "isHeard", "(I)Z"⟩, 7) := ⟨⟨by decide +kernel, by decide +kernel⟩, List.mem_of_getElem? (i := 100) (by decide +kernel), List.mem_of_getElem? (i := 407) (by decide +kernel), List.mem_of_getElem? (i := 408) (by decide +kernel)⟩
theorem lw_p28 : lw_okq (⟨"EarChart", "soundsAbove", "(II)Z"⟩, 11) := ⟨⟨by decide +kernel, by decide +kernel⟩, List.mem_of_getElem? (i := 10) (by decide +kernel), List.mem_of_getElem? (i := 411) (by decide +kernel), List.mem_of_getElem? (i := 412) (by decide +kernel)⟩
theorem lw_p29 : lw_okq (⟨"EarChart$Shape", "beatsOfSpan", "(II)I"⟩, 8) := ⟨⟨by decide +kernel, by decide +kernel⟩, List.mem_of_getElem? (i := 45) (by decide +kernel), List.mem_of_getElem? (i := 419) (by decide +kernel), List.mem_of_getElem? (i := 420) (by decide +kernel)⟩
theorem lw_p30 : lw_okq (⟨"EarChart$Shape", "allWays", "()I"⟩, 8) := ⟨⟨by decide +kernel, by decide +kernel⟩, List.mem_of_getElem? (i := 45) (by decide +kernel), List.mem_of_getElem? (i := 423) (by decide +kernel), List.mem_of_getElem? (i := 424) (by decide +kernel)⟩
theorem lw_p31 : lw_okq (⟨"EarChart$Shape", "waysOfSpan", "(I)I"⟩, 8) := ⟨⟨by decide +kernel, by decide +kernel⟩, List.mem_of_getElem? (i := 45) (by decide +kernel), List.mem_of_getElem? (i := 427) (by decide +kernel), List.mem_of_getElem? (i := 428) (by decide +kernel)⟩
def lw_privs_2 : List (MethodName × Nat) := [(⟨"EarChart", "readMeeting", "(II)Z"⟩, 11), (⟨"EarChart$Meeting", "read", "(LEarChart$Row;LEarChart$Row;)V"⟩, 2), (⟨"EarChart", "lowestValue", "()I"⟩, 11), (⟨"EarChart$Row", "lowest", "()I"⟩, 4), (⟨"EarChart", "highestValue", "()I"⟩, 11), (⟨"EarChart$Row", "highest", "()I"⟩, 4), (⟨"EarChart", "heightAbove", "(ILEarChart$Row;I)I"⟩, 11), (⟨"EarChart", "readLaying", "(I)Z"⟩, 11), (⟨"EarChart$Laying", "find", "(II)V"⟩, 7), (⟨"EarChart$Laying", "tryFrom", "(II)V"⟩, 7), (⟨"EarChart$Laying", "isFree", "(II)Z"⟩, 7), (⟨"EarChart$Laying", "isHeard", "(I)Z"⟩, 7), (⟨"EarChart", "soundsAbove", "(II)Z"⟩, 11), (⟨"EarChart$Shape", "beatsOfSpan", "(II)I"⟩, 8), (⟨"EarChart$Shape", "allWays", "()I"⟩, 8), (⟨"EarChart$Shape", "waysOfSpan", "(I)I"⟩, 8)]
theorem lw_r2 : ∀ q ∈ lw_privs_2, lw_okq q := List.forall_mem_cons.mpr ⟨lw_p16, List.forall_mem_cons.mpr ⟨lw_p17, List.forall_mem_cons.mpr ⟨lw_p18, List.forall_mem_cons.mpr ⟨lw_p19, List.forall_mem_cons.mpr ⟨lw_p20, List.forall_mem_cons.mpr ⟨lw_p21, List.forall_mem_cons.mpr ⟨lw_p22, List.forall_mem_cons.mpr ⟨lw_p23, List.forall_mem_cons.mpr ⟨lw_p24, List.forall_mem_cons.mpr ⟨lw_p25, List.forall_mem_cons.mpr ⟨lw_p26, List.forall_mem_cons.mpr ⟨lw_p27, List.forall_mem_cons.mpr ⟨lw_p28, List.forall_mem_cons.mpr ⟨lw_p29, List.forall_mem_cons.mpr ⟨lw_p30, List.forall_mem_cons.mpr ⟨lw_p31, fun _ h => absurd h List.not_mem_nil⟩⟩⟩⟩⟩⟩⟩⟩⟩⟩⟩⟩⟩⟩⟩⟩
theorem lw_p32 : lw_okq (⟨"EarChart", "markSought", "(LEarChart$Row;I)V"⟩, 11) := ⟨⟨by decide +kernel, by decide +kernel⟩, List.mem_of_getElem? (i := 10) (by decide +kernel), List.mem_of_getElem? (i := 447) (by decide +kernel), List.mem_of_getElem? (i := 448) (by decide +kernel)⟩
theorem lw_p33 : lw_okq (⟨"EarChart", "markTurns", "(LEarChart$Row;)V"⟩, 11) := ⟨⟨by decide +kernel, by decide +kernel⟩, List.mem_of_getElem? (i := 10) (by decide +kernel), List.mem_of_getElem? (i := 451) (by decide +kernel), List.mem_of_getElem? (i := 452) (by decide +kernel)⟩
theorem lw_p34 : lw_okq (⟨"EarChart", "markCrossings", "(LEarChart$Row;)V"⟩, 11) := ⟨⟨by decide +kernel, by decide +kernel⟩, List.mem_of_getElem? (i := 10) (by decide +kernel), List.mem_of_getElem? (i := 455) (by decide +kernel), List.mem_of_getElem? (i := 456) (by decide +kernel)⟩
theorem lw_p35 : lw_okq (⟨"EarChart", "markBehind", "(I)I"⟩, 11) := ⟨⟨by decide +kernel, by decide +kernel⟩, List.mem_of_getElem? (i := 10) (by decide +kernel), List.mem_of_getElem? (i := 459) (by decide +kernel), List.mem_of_getElem? (i := 460) (by decide +kernel)⟩
theorem lw_p36 : lw_okq (⟨"EarChart", "markAhead", "(I)I"⟩, 11) := ⟨⟨by decide +kernel, by decide +kernel⟩, List.mem_of_getElem? (i := 10) (by decide +kernel), List.mem_of_getElem? (i := 463) (by decide +kernel), List.mem_of_getElem? (i := 464) (by decide +kernel)⟩
theorem lw_p37 : lw_okq (⟨"EarChartModel", "adds", "(II)I"⟩, 28) := ⟨⟨by decide +kernel, by decide +kernel⟩, List.mem_of_getElem? (i := 467) (by decide +kernel), List.mem_of_getElem? (i := 565) (by decide +kernel), List.mem_of_getElem? (i := 566) (by decide +kernel)⟩
theorem lw_p38 : lw_okq (⟨"EarChartModel", "isStep", "(II)Z"⟩, 28) := ⟨⟨by decide +kernel, by decide +kernel⟩, List.mem_of_getElem? (i := 467) (by decide +kernel), List.mem_of_getElem? (i := 580) (by decide +kernel), List.mem_of_getElem? (i := 581) (by decide +kernel)⟩
theorem lw_p39 : lw_okq (⟨"EarChartModel", "valueAt", "(II)I"⟩, 28) := ⟨⟨by decide +kernel, by decide +kernel⟩, List.mem_of_getElem? (i := 467) (by decide +kernel), List.mem_of_getElem? (i := 600) (by decide +kernel), List.mem_of_getElem? (i := 601) (by decide +kernel)⟩
theorem lw_p40 : lw_okq (⟨"EarChartModel", "shapes", "(I)V"⟩, 28) := ⟨⟨by decide +kernel, by decide +kernel⟩, List.mem_of_getElem? (i := 467) (by decide +kernel), List.mem_of_getElem? (i := 608) (by decide +kernel), List.mem_of_getElem? (i := 609) (by decide +kernel)⟩
theorem lw_p41 : lw_okq (⟨"EarChartModel", "weighs", "(I)V"⟩, 28) := ⟨⟨by decide +kernel, by decide +kernel⟩, List.mem_of_getElem? (i := 467) (by decide +kernel), List.mem_of_getElem? (i := 612) (by decide +kernel), List.mem_of_getElem? (i := 613) (by decide +kernel)⟩
theorem lw_p42 : lw_okq (⟨"EarChartModel", "isWay", "(II)Z"⟩, 28) := ⟨⟨by decide +kernel, by decide +kernel⟩, List.mem_of_getElem? (i := 467) (by decide +kernel), List.mem_of_getElem? (i := 616) (by decide +kernel), List.mem_of_getElem? (i := 617) (by decide +kernel)⟩
theorem lw_p43 : lw_okq (⟨"EarChartModel", "hasValue", "(II)Z"⟩, 28) := ⟨⟨by decide +kernel, by decide +kernel⟩, List.mem_of_getElem? (i := 467) (by decide +kernel), List.mem_of_getElem? (i := 620) (by decide +kernel), List.mem_of_getElem? (i := 621) (by decide +kernel)⟩
theorem lw_p44 : lw_okq (⟨"EarChartModel", "wayCost", "(III)I"⟩, 28) := ⟨⟨by decide +kernel, by decide +kernel⟩, List.mem_of_getElem? (i := 467) (by decide +kernel), List.mem_of_getElem? (i := 625) (by decide +kernel), List.mem_of_getElem? (i := 626) (by decide +kernel)⟩
theorem lw_p45 : lw_okq (⟨"EarChartModel", "turnsIn", "(I)V"⟩, 28) := ⟨⟨by decide +kernel, by decide +kernel⟩, List.mem_of_getElem? (i := 467) (by decide +kernel), List.mem_of_getElem? (i := 645) (by decide +kernel), List.mem_of_getElem? (i := 646) (by decide +kernel)⟩
theorem lw_p46 : lw_okq (⟨"EarChartModel", "crosses", "(II)V"⟩, 28) := ⟨⟨by decide +kernel, by decide +kernel⟩, List.mem_of_getElem? (i := 467) (by decide +kernel), List.mem_of_getElem? (i := 664) (by decide +kernel), List.mem_of_getElem? (i := 665) (by decide +kernel)⟩
theorem lw_p47 : lw_okq (⟨"EarChartModel", "ends", "()Z"⟩, 28) := ⟨⟨by decide +kernel, by decide +kernel⟩, List.mem_of_getElem? (i := 467) (by decide +kernel), List.mem_of_getElem? (i := 677) (by decide +kernel), List.mem_of_getElem? (i := 678) (by decide +kernel)⟩
def lw_privs_3 : List (MethodName × Nat) := [(⟨"EarChart", "markSought", "(LEarChart$Row;I)V"⟩, 11), (⟨"EarChart", "markTurns", "(LEarChart$Row;)V"⟩, 11), (⟨"EarChart", "markCrossings", "(LEarChart$Row;)V"⟩, 11), (⟨"EarChart", "markBehind", "(I)I"⟩, 11), (⟨"EarChart", "markAhead", "(I)I"⟩, 11), (⟨"EarChartModel", "adds", "(II)I"⟩, 28), (⟨"EarChartModel", "isStep", "(II)Z"⟩, 28), (⟨"EarChartModel", "valueAt", "(II)I"⟩, 28), (⟨"EarChartModel", "shapes", "(I)V"⟩, 28), (⟨"EarChartModel", "weighs", "(I)V"⟩, 28), (⟨"EarChartModel", "isWay", "(II)Z"⟩, 28), (⟨"EarChartModel", "hasValue", "(II)Z"⟩, 28), (⟨"EarChartModel", "wayCost", "(III)I"⟩, 28), (⟨"EarChartModel", "turnsIn", "(I)V"⟩, 28), (⟨"EarChartModel", "crosses", "(II)V"⟩, 28), (⟨"EarChartModel", "ends", "()Z"⟩, 28)]
theorem lw_r3 : ∀ q ∈ lw_privs_3, lw_okq q := List.forall_mem_cons.mpr ⟨lw_p32, List.forall_mem_cons.mpr ⟨lw_p33, List.forall_mem_cons.mpr ⟨lw_p34, List.forall_mem_cons.mpr ⟨lw_p35, List.forall_mem_cons.mpr ⟨lw_p36, List.forall_mem_cons.mpr ⟨lw_p37, List.forall_mem_cons.mpr ⟨lw_p38, List.forall_mem_cons.mpr ⟨lw_p39, List.forall_mem_cons.mpr ⟨lw_p40, List.forall_mem_cons.mpr ⟨lw_p41, List.forall_mem_cons.mpr ⟨lw_p42, List.forall_mem_cons.mpr ⟨lw_p43, List.forall_mem_cons.mpr ⟨lw_p44, List.forall_mem_cons.mpr ⟨lw_p45, List.forall_mem_cons.mpr ⟨lw_p46, List.forall_mem_cons.mpr ⟨lw_p47, fun _ h => absurd h List.not_mem_nil⟩⟩⟩⟩⟩⟩⟩⟩⟩⟩⟩⟩⟩⟩⟩⟩
theorem lw_p48 : lw_okq (⟨"EarChartModel", "laying", "(I)I"⟩, 28) := ⟨⟨by decide +kernel, by decide +kernel⟩, List.mem_of_getElem? (i := 467) (by decide +kernel), List.mem_of_getElem? (i := 697) (by decide +kernel), List.mem_of_getElem? (i := 698) (by decide +kernel)⟩
theorem lw_p49 : lw_okq (⟨"EarChartModel", "slotCost", "(I)I"⟩, 28) := ⟨⟨by decide +kernel, by decide +kernel⟩, List.mem_of_getElem? (i := 467) (by decide +kernel), List.mem_of_getElem? (i := 702) (by decide +kernel), List.mem_of_getElem? (i := 703) (by decide +kernel)⟩
theorem lw_p50 : lw_okq (⟨"EarChartModel", "isLaid", "(I)Z"⟩, 28) := ⟨⟨by decide +kernel, by decide +kernel⟩, List.mem_of_getElem? (i := 467) (by decide +kernel), List.mem_of_getElem? (i := 706) (by decide +kernel), List.mem_of_getElem? (i := 707) (by decide +kernel)⟩
theorem lw_p51 : lw_okq (⟨"EarChartModel", "ways", "(I)I"⟩, 28) := ⟨⟨by decide +kernel, by decide +kernel⟩, List.mem_of_getElem? (i := 467) (by decide +kernel), List.mem_of_getElem? (i := 722) (by decide +kernel), List.mem_of_getElem? (i := 723) (by decide +kernel)⟩
theorem lw_p52 : lw_okq (⟨"EarChartModel", "isTurn", "(II)Z"⟩, 28) := ⟨⟨by decide +kernel, by decide +kernel⟩, List.mem_of_getElem? (i := 467) (by decide +kernel), List.mem_of_getElem? (i := 742) (by decide +kernel), List.mem_of_getElem? (i := 743) (by decide +kernel)⟩
theorem lw_p53 : lw_okq (⟨"EarChartModel", "isCross", "(II)Z"⟩, 28) := ⟨⟨by decide +kernel, by decide +kernel⟩, List.mem_of_getElem? (i := 467) (by decide +kernel), List.mem_of_getElem? (i := 746) (by decide +kernel), List.mem_of_getElem? (i := 747) (by decide +kernel)⟩
def lw_privs_4 : List (MethodName × Nat) := [(⟨"EarChartModel", "laying", "(I)I"⟩, 28), (⟨"EarChartModel", "slotCost", "(I)I"⟩, 28), (⟨"EarChartModel", "isLaid", "(I)Z"⟩, 28), (⟨"EarChartModel", "ways", "(I)I"⟩, 28), (⟨"EarChartModel", "isTurn", "(II)Z"⟩, 28), (⟨"EarChartModel", "isCross", "(II)Z"⟩, 28)]
theorem lw_r4 : ∀ q ∈ lw_privs_4, lw_okq q := List.forall_mem_cons.mpr ⟨lw_p48, List.forall_mem_cons.mpr ⟨lw_p49, List.forall_mem_cons.mpr ⟨lw_p50, List.forall_mem_cons.mpr ⟨lw_p51, List.forall_mem_cons.mpr ⟨lw_p52, List.forall_mem_cons.mpr ⟨lw_p53, fun _ h => absurd h List.not_mem_nil⟩⟩⟩⟩⟩⟩
def lw_privs : List (MethodName × Nat) := lw_privs_1 ++ (lw_privs_2 ++ (lw_privs_3 ++ (lw_privs_4)))
def lw_tbl : List Cond := k2_sels lw_privs ++ tables_1
theorem lw_privs_ok : ∀ q ∈ lw_privs, lw_okq q := by
  show ∀ q ∈ lw_privs_1 ++ (lw_privs_2 ++ (lw_privs_3 ++ (lw_privs_4))), lw_okq q
  exact List.forall_mem_append.mpr ⟨lw_r1, List.forall_mem_append.mpr ⟨lw_r2, List.forall_mem_append.mpr ⟨lw_r3, lw_r4⟩⟩⟩
end
section
/-! the machine seen from above: cells by their places from a base on, values with places for addresses -/
abbrev AC : Type := (Nat × vp_A) ⊕ (Nat × List Value)
def rv (b : Nat) : Value → Value
  | .ref a => .ref (b + a)
  | v => v
theorem rv_cat (b : Nat) (v : Value) : (rv b v).category = v.category := by cases v <;> rfl
theorem rv_rv (a b : Nat) (v : Value) : rv a (rv b v) = rv (a + b) v := by cases v <;> simp [rv, Nat.add_assoc]
theorem rv_rf (b : Nat) (r : Option Nat) : rv b (va_rf r) = va_rf (r.map (b + ·)) := by cases r <;> rfl
theorem rv_rvL (a b : Nat) (l : List Value) : (l.map (rv b)).map (rv a) = l.map (rv (a + b)) := by
  rw [List.map_map]
  exact List.map_congr_left (fun v _ => rv_rv a b v)
theorem rv_rvO (a b : Nat) (l : Option Value) : (l.map (rv b)).map (rv a) = l.map (rv (a + b)) := by cases l <;> simp [rv_rv]
def sa (b : Nat) (a : vp_A) : vp_A := match a with
  | (n, .inr (.inr (.inr (.inr f)))) => (n, .inr (.inr (.inr (.inr (fun j => (f j).map (b + ·))))))
  | a => a
def ec (b : Nat) (κ : Nat → ClassId) (c : AC) : va_E := match c with
  | .inl (t, a) => .inl (κ t, sa b a)
  | .inr (ci, fs) => .inr (ci, fs.map (rv b))
def sh (b : Nat) (c : AC) : AC := match c with
  | .inl (t, a) => .inl (t, sa b a)
  | .inr (ci, fs) => .inr (ci, fs.map (rv b))
theorem sa_sa (a b : Nat) (x : vp_A) : sa a (sa b x) = sa (a + b) x := by
  obtain ⟨n, f | f | f | f | f⟩ := x
  · rfl
  · rfl
  · rfl
  · rfl
  · show (n, _) = (n, _)
    congr 6
    funext j
    cases hf : f j <;> simp [hf, Nat.add_assoc]
theorem ec_sh (a b : Nat) (κ : Nat → ClassId) (c : AC) : ec a κ (sh b c) = ec (a + b) κ c := by
  rcases c with ⟨t, x⟩ | ⟨ci, fs⟩
  · show Sum.inl (κ t, sa a (sa b x)) = Sum.inl (κ t, sa (a + b) x)
    rw [sa_sa]
  · show Sum.inr (ci, (fs.map (rv b)).map (rv a)) = Sum.inr (ci, fs.map (rv (a + b)))
    rw [rv_rvL]
def wso (b : Nat) (κ : Nat → ClassId) (h : List AC) : va_W := h.mapIdx (fun i c => (b + i, ec b κ c))
theorem wso_get (b : Nat) (κ : Nat → ClassId) (h : List AC) (i : Nat) : (wso b κ h)[i]? = (h[i]?).map (fun c => (b + i, ec b κ c)) := by
  unfold wso
  rw [List.getElem?_mapIdx]
theorem wso_at {b : Nat} {κ : Nat → ClassId} {h : List AC} {i : Nat} {c : AC} (e : h[i]? = some c) : (wso b κ h)[i]? = some (b + i, ec b κ c) := by
  rw [wso_get, e]; rfl
theorem wso_of {b : Nat} {κ : Nat → ClassId} {h : List AC} {i : Nat} {q : Nat × va_E} (e : (wso b κ h)[i]? = some q) : ∃ c, h[i]? = some c ∧ q = (b + i, ec b κ c) := by
  rw [wso_get] at e
  cases hc : h[i]? with
  | none => rw [hc] at e; cases e
  | some c => rw [hc] at e; cases e; exact ⟨c, rfl, rfl⟩
theorem wso_len (b : Nat) (κ : Nat → ClassId) (h : List AC) : (wso b κ h).length = h.length := by
  unfold wso; rw [List.length_mapIdx]
theorem wso_set {b : Nat} {κ : Nat → ClassId} {h : List AC} {i : Nat} (c : AC) : (wso b κ h).set i (b + i, ec b κ c) = wso b κ (h.set i c) := by
  apply List.ext_getElem?
  intro j
  rw [List.getElem?_set, wso_get, wso_get, List.getElem?_set, wso_len]
  by_cases hj : i = j
  · subst hj
    by_cases hl : i < h.length <;> simp [hl]
  · simp [hj]
theorem wso_app {b : Nat} {κ : Nat → ClassId} {h : List AC} (c : AC) : wso b κ (h ++ [c]) = wso b κ h ++ [(b + h.length, ec b κ c)] := by
  unfold wso
  rw [List.mapIdx_append]
  simp
/-- what a method may write: its window, and what is made anew -/
def AX (al : Bool) (b N0 : Nat) : Nat → Prop := fun q => b ≤ q ∧ (al = false → q < b + N0)
theorem wso_D {al : Bool} {b N0 : Nat} {κ : Nat → ClassId} {h : List AC} (hN : al = false → h.length = N0) : va_D (AX al b N0) (wso b κ h) := by
  refine ⟨fun i j p q hp hq e => ?_, fun k q hq => ?_⟩
  · obtain ⟨c1, -, rfl⟩ := wso_of hp
    obtain ⟨c2, -, rfl⟩ := wso_of hq
    have e : b + i = b + j := e
    omega
  · obtain ⟨c, hc, rfl⟩ := wso_of hq
    have hk : k < h.length := (List.getElem?_eq_some_iff.mp hc).1
    refine ⟨Nat.le_add_right _ _, fun ha => ?_⟩
    have := hN ha
    show b + k < b + N0
    omega
abbrev tyk (κ : Nat → ClassId) : List (ClassId × FieldType) := [(κ 0, .int), (κ 1, .boolean), (κ 2, .object "EarChart$Row"), (κ 3, .array .int)]
/-! the tables' words hold at every later state too -/
def okW : Cond → Bool
  | .fieldLinkNest .. => true
  | .methodLinkNest .. => true
  | .arrayOver (.object _) => true
  | .arrayOver (.array .int) => true
  | w => goodWord w
def ktbl : List Cond := lw_tbl.filter okW
theorem k_mem {w : Cond} (h : w ∈ lw_tbl) (ho : okW w = true) : w ∈ ktbl := List.mem_filter.mpr ⟨h, ho⟩
theorem k_at {w : Cond} (i : Nat) (h : lw_tbl[i]? = some w) (ho : okW w = true) : w ∈ ktbl := k_mem (List.mem_of_getElem? h) ho
theorem okW_of {w : Cond} (h : w ∈ ktbl) : okW w = true := (List.mem_filter.mp h).2
def onT : Cond → Bool
  | .arrayClass _ => true
  | .arrayOver _ => true
  | w => w.onTables
theorem onT_all : ktbl.all onT = true := by decide +kernel
theorem onT_args {w : Cond} (hn : onT w = true) {A A' : Array Value} {U : State} (h : w.before A U = true) : w.before A' U = true := by
  cases w
  case arrayClass => exact h
  case arrayOver => exact h
  all_goals (refine va_tabs ?_ rfl h; exact hn)
theorem tb_args {A A' : Array Value} {U : State} (h : ∀ w ∈ ktbl, w.before A U = true) : ∀ w ∈ ktbl, w.before A' U = true := fun w hw => onT_args (List.all_eq_true.mp onT_all w hw) (h w hw)
theorem ao_moved {u U : State} (hvm : u.vm.Alike U.vm) (h : va_Nw (.arrayOver (.array .int)) u) : va_Nw (.arrayOver (.array .int)) U := by
  obtain ⟨comp, c, k, h1, h2, h3, h4, h5⟩ := arrayOver_specB h
  obtain ⟨k', hk', he⟩ := hvm.2.2 _ _ h3
  have hi : (U.vm.classes.findIdx? fun (x : Class) => match x.kind with | .array component _ => component == comp | _ => false) = some c := by
    have e1 := va_idx_bare U.vm comp
    have e2 := va_idx_bare u.vm comp
    have e3 : u.vm.bare = U.vm.bare := by first | exact hvm.bare_eq | exact hvm.bare_eq.symm
    rw [← e3] at e1
    exact e1.symm.trans (e2.trans h2)
  have hkind : k'.kind = .array comp (.array .int) := by rw [he]; exact h4
  have f1 : U.vm.findClass (FieldType.array .int).toString = some comp := by rw [hvm.findClass]; exact h1
  have f2 : U.vm.findClass ("[" ++ (FieldType.array .int).toString) = some c := by rw [hvm.findClass]; exact h5
  unfold va_Nw Cond.before Cond.holds
  simp only [Cond.value]
  rw [f1, Option.bind_some]
  refine (congrArg (fun o : Option Nat => (o.bind (fun c => (U.vm.classes[c]?).map fun (k : Class) => match k.kind with | .array _ ty => decide (ty = FieldType.array .int) && decide (U.vm.findClass ("[" ++ (FieldType.array .int).toString) = some c) | _ => false) == some true)) hi).trans ?_
  simp [hk', hkind, f2]
theorem tb_word {s U : State} (hW : s.WarmedH U.vm) {A A' : Array Value} {w : Cond} (ho : okW w = true) (h : w.before A s = true) : w.before A' U = true := by
  cases w
  case fieldLinkNest => exact va_Nw.use rfl (va_Nw.warmF hW (va_Nw.of rfl h))
  case methodLinkNest => exact va_Nw.use rfl (va_Nw.warmM hW (va_Nw.of rfl h))
  case arrayOver ty =>
    cases ty
    case object C => exact va_AO.use (va_AO.moved hW.alike (va_AO.of h))
    case array t =>
      cases t
      case int => exact ao_moved hW.alike h
      all_goals exact word_at hW (good_of_word ho) h
    all_goals exact word_at hW (good_of_word ho) h
  all_goals exact word_at hW (good_of_word ho) h
theorem tb_warm {s U : State} (hW : s.WarmedH U.vm) {A A' : Array Value} (h : ∀ w ∈ ktbl, w.before A s = true) : ∀ w ∈ ktbl, w.before A' U = true :=
  fun w hw => tb_word hW (okW_of hw) (h w hw)
end
section
def F_E : u_T := fun k => match k with
  | 0 => ("EarChart", "rows", "[LEarChart$Row;", true)
  | 1 => ("EarChart", "shape", "LEarChart$Shape;", true)
  | 2 => ("EarChart", "meeting", "LEarChart$Meeting;", true)
  | 3 => ("EarChart", "laying", "LEarChart$Laying;", true)
  | 4 => ("EarChart", "marks", "[Z", true)
  | 5 => ("EarChart", "part", "I", false)
  | 6 => ("EarChart", "grain", "I", false)
  | 7 => ("EarChart", "hide", "I", false)
  | 8 => ("EarChart", "late", "I", false)
  | 9 => ("EarChart", "walkRow", "I", false)
  | _ => ("EarChart", "walkStep", "I", false)
def ft_E : Nat → FieldType := fun k => match k with
  | 0 => (.array (.object "EarChart$Row"))
  | 1 => (.object "EarChart$Shape")
  | 2 => (.object "EarChart$Meeting")
  | 3 => (.object "EarChart$Laying")
  | 4 => (.array .boolean)
  | 5 => .int
  | 6 => .int
  | 7 => .int
  | 8 => .int
  | 9 => .int
  | _ => .int
theorem fn_E : ∀ a, a < 11 → ∀ b, b < 11 → a ≠ b → (F_E a).2.1 ≠ (F_E b).2.1 := by decide +kernel
theorem fo_E : ∀ k, k < 11 → parseFieldDescriptor (F_E k).2.2.1 = some (ft_E k) := by decide +kernel
theorem fi_E : ∀ w ∈ u_ws "EarChart" F_E 11, w ∈ ktbl := by decide +kernel
def F_R : u_T := fun k => match k with
  | 0 => ("EarChart$Row", "values", "[I", true)
  | 1 => ("EarChart$Row", "count", "I", false)
  | 2 => ("EarChart$Row", "miss", "I", false)
  | _ => ("EarChart$Row", "worth", "I", false)
def ft_R : Nat → FieldType := fun k => match k with
  | 0 => (.array .int)
  | 1 => .int
  | 2 => .int
  | _ => .int
theorem fn_R : ∀ a, a < 4 → ∀ b, b < 4 → a ≠ b → (F_R a).2.1 ≠ (F_R b).2.1 := by decide +kernel
theorem fo_R : ∀ k, k < 4 → parseFieldDescriptor (F_R k).2.2.1 = some (ft_R k) := by decide +kernel
theorem fi_R : ∀ w ∈ u_ws "EarChart$Row" F_R 4, w ∈ ktbl := by decide +kernel
def F_S : u_T := fun k => match k with
  | 0 => ("EarChart$Shape", "kinds", "[I", true)
  | 1 => ("EarChart$Shape", "firsts", "[I", true)
  | 2 => ("EarChart$Shape", "lasts", "[I", true)
  | 3 => ("EarChart$Shape", "turns", "[I", true)
  | 4 => ("EarChart$Shape", "costs", "[[I", true)
  | 5 => ("EarChart$Shape", "spanCount", "I", false)
  | 6 => ("EarChart$Shape", "turnCount", "I", false)
  | _ => ("EarChart$Shape", "total", "I", false)
def ft_S : Nat → FieldType := fun k => match k with
  | 0 => (.array .int)
  | 1 => (.array .int)
  | 2 => (.array .int)
  | 3 => (.array .int)
  | 4 => (.array (.array .int))
  | 5 => .int
  | 6 => .int
  | _ => .int
theorem fn_S : ∀ a, a < 8 → ∀ b, b < 8 → a ≠ b → (F_S a).2.1 ≠ (F_S b).2.1 := by decide +kernel
theorem fo_S : ∀ k, k < 8 → parseFieldDescriptor (F_S k).2.2.1 = some (ft_S k) := by decide +kernel
theorem fi_S : ∀ w ∈ u_ws "EarChart$Shape" F_S 8, w ∈ ktbl := by decide +kernel
def F_M : u_T := fun k => match k with
  | 0 => ("EarChart$Meeting", "steps", "[I", true)
  | _ => ("EarChart$Meeting", "count", "I", false)
def ft_M : Nat → FieldType := fun k => match k with
  | 0 => (.array .int)
  | _ => .int
theorem fn_M : ∀ a, a < 2 → ∀ b, b < 2 → a ≠ b → (F_M a).2.1 ≠ (F_M b).2.1 := by decide +kernel
theorem fo_M : ∀ k, k < 2 → parseFieldDescriptor (F_M k).2.2.1 = some (ft_M k) := by decide +kernel
theorem fi_M : ∀ w ∈ u_ws "EarChart$Meeting" F_M 2, w ∈ ktbl := by decide +kernel
def F_L : u_T := fun k => match k with
  | 0 => ("EarChart$Laying", "heights", "[I", true)
  | 1 => ("EarChart$Laying", "worths", "[I", true)
  | 2 => ("EarChart$Laying", "slots", "[I", true)
  | 3 => ("EarChart$Laying", "trial", "[I", true)
  | 4 => ("EarChart$Laying", "hide", "I", false)
  | 5 => ("EarChart$Laying", "late", "I", false)
  | _ => ("EarChart$Laying", "least", "I", false)
def ft_L : Nat → FieldType := fun k => match k with
  | 0 => (.array .int)
  | 1 => (.array .int)
  | 2 => (.array .int)
  | 3 => (.array .int)
  | 4 => .int
  | 5 => .int
  | _ => .int
theorem fn_L : ∀ a, a < 7 → ∀ b, b < 7 → a ≠ b → (F_L a).2.1 ≠ (F_L b).2.1 := by decide +kernel
theorem fo_L : ∀ k, k < 7 → parseFieldDescriptor (F_L k).2.2.1 = some (ft_L k) := by decide +kernel
theorem fi_L : ∀ w ∈ u_ws "EarChart$Laying" F_L 7, w ∈ ktbl := by decide +kernel
def F_T : u_T := fun k => match k with
  | 0 => ("EarChartModel", "many", "[I", true)
  | 1 => ("EarChartModel", "values", "[I", true)
  | 2 => ("EarChartModel", "miss", "[I", true)
  | 3 => ("EarChartModel", "worth", "[I", true)
  | 4 => ("EarChartModel", "part", "I", false)
  | 5 => ("EarChartModel", "walkRow", "I", false)
  | 6 => ("EarChartModel", "walkStep", "I", false)
  | 7 => ("EarChartModel", "kinds", "[I", true)
  | 8 => ("EarChartModel", "least", "[I", true)
  | 9 => ("EarChartModel", "all", "I", false)
  | 10 => ("EarChartModel", "spans", "I", false)
  | 11 => ("EarChartModel", "spanKind", "[I", true)
  | 12 => ("EarChartModel", "spanFirst", "[I", true)
  | 13 => ("EarChartModel", "spanLast", "[I", true)
  | 14 => ("EarChartModel", "turns", "I", false)
  | 15 => ("EarChartModel", "turnStep", "[I", true)
  | 16 => ("EarChartModel", "crossings", "I", false)
  | 17 => ("EarChartModel", "crossStep", "[I", true)
  | 18 => ("EarChartModel", "scale", "I", false)
  | 19 => ("EarChartModel", "hide", "I", false)
  | 20 => ("EarChartModel", "late", "I", false)
  | 21 => ("EarChartModel", "low", "I", false)
  | 22 => ("EarChartModel", "high", "I", false)
  | 23 => ("EarChartModel", "slots", "[I", true)
  | 24 => ("EarChartModel", "bestSlots", "[I", true)
  | 25 => ("EarChartModel", "heights", "[I", true)
  | 26 => ("EarChartModel", "beats", "[I", true)
  | _ => ("EarChartModel", "more", "[Z", true)
def ft_T : Nat → FieldType := fun k => match k with
  | 0 => (.array .int)
  | 1 => (.array .int)
  | 2 => (.array .int)
  | 3 => (.array .int)
  | 4 => .int
  | 5 => .int
  | 6 => .int
  | 7 => (.array .int)
  | 8 => (.array .int)
  | 9 => .int
  | 10 => .int
  | 11 => (.array .int)
  | 12 => (.array .int)
  | 13 => (.array .int)
  | 14 => .int
  | 15 => (.array .int)
  | 16 => .int
  | 17 => (.array .int)
  | 18 => .int
  | 19 => .int
  | 20 => .int
  | 21 => .int
  | 22 => .int
  | 23 => (.array .int)
  | 24 => (.array .int)
  | 25 => (.array .int)
  | 26 => (.array .int)
  | _ => (.array .boolean)
theorem fn_T : ∀ a, a < 28 → ∀ b, b < 28 → a ≠ b → (F_T a).2.1 ≠ (F_T b).2.1 := by decide +kernel
theorem fo_T : ∀ k, k < 28 → parseFieldDescriptor (F_T k).2.2.1 = some (ft_T k) := by decide +kernel
theorem fi_T : ∀ w ∈ u_ws "EarChartModel" F_T 28, w ∈ ktbl := by decide +kernel
abbrev kclasses : List vw_C := [("EarChart", F_E, 11), ("EarChart$Row", F_R, 4), ("EarChart$Shape", F_S, 8), ("EarChart$Meeting", F_M, 2), ("EarChart$Laying", F_L, 7), ("EarChartModel", F_T, 28)]
abbrev MI : Type := MethodName × ByteArray × Nat × Option FieldType
abbrev kE_init : MI := (⟨"EarChart", "<init>", "()V"⟩, prog_1_method_1_code, 2, (none : Option FieldType))
abbrev kE_value : MI := (⟨"EarChart", "value", "(II)I"⟩, prog_1_method_2_code, 4, (some FieldType.int))
abbrev kE_gap : MI := (⟨"EarChart", "gap", "(I)I"⟩, prog_1_method_3_code, 3, (some FieldType.int))
abbrev kE_put : MI := (⟨"EarChart", "put", "(III)Z"⟩, prog_1_method_4_code, 5, (some FieldType.boolean))
abbrev kE_clear : MI := (⟨"EarChart", "clear", "(I)I"⟩, prog_1_method_5_code, 4, (some FieldType.int))
abbrev kE_miss : MI := (⟨"EarChart", "miss", "(II)I"⟩, prog_1_method_6_code, 5, (some FieldType.int))
abbrev kE_part : MI := (⟨"EarChart", "part", "(I)I"⟩, prog_1_method_7_code, 3, (some FieldType.int))
abbrev kE_at : MI := (⟨"EarChart", "at", "(II)I"⟩, prog_1_method_8_code, 4, (some FieldType.int))
abbrev kE_spans : MI := (⟨"EarChart", "spans", "(I)I"⟩, prog_1_method_9_code, 2, (some FieldType.int))
abbrev kE_cost : MI := (⟨"EarChart", "cost", "(I)I"⟩, prog_1_method_10_code, 2, (some FieldType.int))
abbrev kE_span : MI := (⟨"EarChart", "span", "(III)I"⟩, prog_1_method_11_code, 4, (some FieldType.int))
abbrev kE_kind : MI := (⟨"EarChart", "kind", "(II)I"⟩, prog_1_method_12_code, 3, (some FieldType.int))
abbrev kE_turnsOf : MI := (⟨"EarChart", "turnsOf", "(I)I"⟩, prog_1_method_13_code, 2, (some FieldType.int))
abbrev kE_turn : MI := (⟨"EarChart", "turn", "(II)I"⟩, prog_1_method_14_code, 3, (some FieldType.int))
abbrev kE_sure : MI := (⟨"EarChart", "sure", "(III)I"⟩, prog_1_method_15_code, 4, (some FieldType.int))
abbrev kE_crossings : MI := (⟨"EarChart", "crossings", "(II)I"⟩, prog_1_method_16_code, 3, (some FieldType.int))
abbrev kE_crossing : MI := (⟨"EarChart", "crossing", "(III)I"⟩, prog_1_method_17_code, 4, (some FieldType.int))
abbrev kE_scale : MI := (⟨"EarChart", "scale", "(II)I"⟩, prog_1_method_18_code, 6, (some FieldType.int))
abbrev kE_height : MI := (⟨"EarChart", "height", "(II)I"⟩, prog_1_method_19_code, 4, (some FieldType.int))
abbrev kE_ear : MI := (⟨"EarChart", "ear", "(II)Z"⟩, prog_1_method_20_code, 3, (some FieldType.boolean))
abbrev kE_worth : MI := (⟨"EarChart", "worth", "(II)I"⟩, prog_1_method_21_code, 5, (some FieldType.int))
abbrev kE_lay : MI := (⟨"EarChart", "lay", "(I)I"⟩, prog_1_method_22_code, 2, (some FieldType.int))
abbrev kE_slot : MI := (⟨"EarChart", "slot", "(II)I"⟩, prog_1_method_23_code, 4, (some FieldType.int))
abbrev kE_hears : MI := (⟨"EarChart", "hears", "(III)I"⟩, prog_1_method_24_code, 4, (some FieldType.int))
abbrev kE_whole : MI := (⟨"EarChart", "whole", "(III)I"⟩, prog_1_method_25_code, 4, (some FieldType.int))
abbrev kE_walk : MI := (⟨"EarChart", "walk", "(II)Z"⟩, prog_1_method_26_code, 4, (some FieldType.boolean))
abbrev kE_where : MI := (⟨"EarChart", "where", "(I)I"⟩, prog_1_method_27_code, 2, (some FieldType.int))
abbrev kE_go : MI := (⟨"EarChart", "go", "(Z)I"⟩, prog_1_method_28_code, 4, (some FieldType.int))
abbrev kE_seek : MI := (⟨"EarChart", "seek", "(ZI)I"⟩, prog_1_method_29_code, 5, (some FieldType.int))
abbrev kE_within : MI := (⟨"EarChart", "within", "(III)Z"⟩, prog_1_method_30_code, 3, (some FieldType.boolean))
abbrev kE_isValue : MI := (⟨"EarChart", "isValue", "(I)Z"⟩, prog_1_method_31_code, 1, (some FieldType.boolean))
abbrev kE_rowOf : MI := (⟨"EarChart", "rowOf", "(I)LEarChart$Row;"⟩, prog_1_method_32_code, 2, (some (FieldType.object "EarChart$Row")))
abbrev kE_areTwoRows : MI := (⟨"EarChart", "areTwoRows", "(II)Z"⟩, prog_1_method_33_code, 2, (some FieldType.boolean))
abbrev kE_readShape : MI := (⟨"EarChart", "readShape", "(I)Z"⟩, prog_1_method_34_code, 3, (some FieldType.boolean))
abbrev kE_readMeeting : MI := (⟨"EarChart", "readMeeting", "(II)Z"⟩, prog_1_method_35_code, 3, (some FieldType.boolean))
abbrev kE_compareSurely : MI := (⟨"EarChart", "compareSurely", "(LEarChart$Row;LEarChart$Row;I)I"⟩, prog_1_method_36_code, 5, (some FieldType.int))
abbrev kE_lowestValue : MI := (⟨"EarChart", "lowestValue", "()I"⟩, prog_1_method_37_code, 3, (some FieldType.int))
abbrev kE_highestValue : MI := (⟨"EarChart", "highestValue", "()I"⟩, prog_1_method_38_code, 3, (some FieldType.int))
abbrev kE_heightAbove : MI := (⟨"EarChart", "heightAbove", "(ILEarChart$Row;I)I"⟩, prog_1_method_39_code, 4, (some FieldType.int))
abbrev kE_readLaying : MI := (⟨"EarChart", "readLaying", "(I)Z"⟩, prog_1_method_40_code, 4, (some FieldType.boolean))
abbrev kE_soundsAbove : MI := (⟨"EarChart", "soundsAbove", "(II)Z"⟩, prog_1_method_41_code, 5, (some FieldType.boolean))
abbrev kE_markSought : MI := (⟨"EarChart", "markSought", "(LEarChart$Row;I)V"⟩, prog_1_method_42_code, 4, (none : Option FieldType))
abbrev kE_markTurns : MI := (⟨"EarChart", "markTurns", "(LEarChart$Row;)V"⟩, prog_1_method_43_code, 3, (none : Option FieldType))
abbrev kE_markCrossings : MI := (⟨"EarChart", "markCrossings", "(LEarChart$Row;)V"⟩, prog_1_method_44_code, 4, (none : Option FieldType))
abbrev kE_markBehind : MI := (⟨"EarChart", "markBehind", "(I)I"⟩, prog_1_method_45_code, 3, (some FieldType.int))
abbrev kE_markAhead : MI := (⟨"EarChart", "markAhead", "(I)I"⟩, prog_1_method_46_code, 3, (some FieldType.int))
abbrev kT_init : MI := (⟨"EarChartModel", "<init>", "()V"⟩, prog_7_method_1_code, 1, (none : Option FieldType))
abbrev kT_isRow : MI := (⟨"EarChartModel", "isRow", "(I)Z"⟩, prog_7_method_2_code, 1, (some FieldType.boolean))
abbrev kT_isIn : MI := (⟨"EarChartModel", "isIn", "(III)Z"⟩, prog_7_method_3_code, 3, (some FieldType.boolean))
abbrev kT_isStep : MI := (⟨"EarChartModel", "isStep", "(II)Z"⟩, prog_7_method_4_code, 3, (some FieldType.boolean))
abbrev kT_hasValue : MI := (⟨"EarChartModel", "hasValue", "(II)Z"⟩, prog_7_method_5_code, 3, (some FieldType.boolean))
abbrev kT_valueAt : MI := (⟨"EarChartModel", "valueAt", "(II)I"⟩, prog_7_method_6_code, 3, (some FieldType.int))
abbrev kT_adds : MI := (⟨"EarChartModel", "adds", "(II)I"⟩, prog_7_method_7_code, 3, (some FieldType.int))
abbrev kT_value : MI := (⟨"EarChartModel", "value", "(II)I"⟩, prog_7_method_8_code, 3, (some FieldType.int))
abbrev kT_gap : MI := (⟨"EarChartModel", "gap", "(I)I"⟩, prog_7_method_9_code, 2, (some FieldType.int))
abbrev kT_put : MI := (⟨"EarChartModel", "put", "(III)Z"⟩, prog_7_method_10_code, 4, (some FieldType.boolean))
abbrev kT_clear : MI := (⟨"EarChartModel", "clear", "(I)I"⟩, prog_7_method_11_code, 3, (some FieldType.int))
abbrev kT_miss : MI := (⟨"EarChartModel", "miss", "(II)I"⟩, prog_7_method_12_code, 4, (some FieldType.int))
abbrev kT_part : MI := (⟨"EarChartModel", "part", "(I)I"⟩, prog_7_method_13_code, 3, (some FieldType.int))
abbrev kT_at : MI := (⟨"EarChartModel", "at", "(II)I"⟩, prog_7_method_14_code, 3, (some FieldType.int))
abbrev kT_isWay : MI := (⟨"EarChartModel", "isWay", "(II)Z"⟩, prog_7_method_15_code, 3, (some FieldType.boolean))
abbrev kT_wayCost : MI := (⟨"EarChartModel", "wayCost", "(III)I"⟩, prog_7_method_16_code, 5, (some FieldType.int))
abbrev kT_weighs : MI := (⟨"EarChartModel", "weighs", "(I)V"⟩, prog_7_method_17_code, 7, (none : Option FieldType))
abbrev kT_shapes : MI := (⟨"EarChartModel", "shapes", "(I)V"⟩, prog_7_method_18_code, 7, (none : Option FieldType))
abbrev kT_spans : MI := (⟨"EarChartModel", "spans", "(I)I"⟩, prog_7_method_19_code, 2, (some FieldType.int))
abbrev kT_cost : MI := (⟨"EarChartModel", "cost", "(I)I"⟩, prog_7_method_20_code, 2, (some FieldType.int))
abbrev kT_span : MI := (⟨"EarChartModel", "span", "(III)I"⟩, prog_7_method_21_code, 4, (some FieldType.int))
abbrev kT_kind : MI := (⟨"EarChartModel", "kind", "(II)I"⟩, prog_7_method_22_code, 3, (some FieldType.int))
abbrev kT_size : MI := (⟨"EarChartModel", "size", "(I)I"⟩, prog_7_method_23_code, 1, (some FieldType.int))
abbrev kT_turnsIn : MI := (⟨"EarChartModel", "turnsIn", "(I)V"⟩, prog_7_method_24_code, 4, (none : Option FieldType))
abbrev kT_turnsOf : MI := (⟨"EarChartModel", "turnsOf", "(I)I"⟩, prog_7_method_25_code, 2, (some FieldType.int))
abbrev kT_turn : MI := (⟨"EarChartModel", "turn", "(II)I"⟩, prog_7_method_26_code, 3, (some FieldType.int))
abbrev kT_sure : MI := (⟨"EarChartModel", "sure", "(III)I"⟩, prog_7_method_27_code, 6, (some FieldType.int))
abbrev kT_crosses : MI := (⟨"EarChartModel", "crosses", "(II)V"⟩, prog_7_method_28_code, 6, (none : Option FieldType))
abbrev kT_crossings : MI := (⟨"EarChartModel", "crossings", "(II)I"⟩, prog_7_method_29_code, 3, (some FieldType.int))
abbrev kT_crossing : MI := (⟨"EarChartModel", "crossing", "(III)I"⟩, prog_7_method_30_code, 4, (some FieldType.int))
abbrev kT_ends : MI := (⟨"EarChartModel", "ends", "()Z"⟩, prog_7_method_31_code, 5, (some FieldType.boolean))
abbrev kT_scale : MI := (⟨"EarChartModel", "scale", "(II)I"⟩, prog_7_method_32_code, 4, (some FieldType.int))
abbrev kT_height : MI := (⟨"EarChartModel", "height", "(II)I"⟩, prog_7_method_33_code, 3, (some FieldType.int))
abbrev kT_ear : MI := (⟨"EarChartModel", "ear", "(II)Z"⟩, prog_7_method_34_code, 3, (some FieldType.boolean))
abbrev kT_worth : MI := (⟨"EarChartModel", "worth", "(II)I"⟩, prog_7_method_35_code, 4, (some FieldType.int))
abbrev kT_isLaid : MI := (⟨"EarChartModel", "isLaid", "(I)Z"⟩, prog_7_method_36_code, 4, (some FieldType.boolean))
abbrev kT_slotCost : MI := (⟨"EarChartModel", "slotCost", "(I)I"⟩, prog_7_method_37_code, 4, (some FieldType.int))
abbrev kT_laying : MI := (⟨"EarChartModel", "laying", "(I)I"⟩, prog_7_method_38_code, 7, (some FieldType.int))
abbrev kT_lay : MI := (⟨"EarChartModel", "lay", "(I)I"⟩, prog_7_method_39_code, 2, (some FieldType.int))
abbrev kT_slot : MI := (⟨"EarChartModel", "slot", "(II)I"⟩, prog_7_method_40_code, 3, (some FieldType.int))
abbrev kT_hears : MI := (⟨"EarChartModel", "hears", "(III)I"⟩, prog_7_method_41_code, 6, (some FieldType.int))
abbrev kT_ways : MI := (⟨"EarChartModel", "ways", "(I)I"⟩, prog_7_method_42_code, 2, (some FieldType.int))
abbrev kT_whole : MI := (⟨"EarChartModel", "whole", "(III)I"⟩, prog_7_method_43_code, 9, (some FieldType.int))
abbrev kT_walk : MI := (⟨"EarChartModel", "walk", "(II)Z"⟩, prog_7_method_44_code, 3, (some FieldType.boolean))
abbrev kT_where : MI := (⟨"EarChartModel", "where", "(I)I"⟩, prog_7_method_45_code, 2, (some FieldType.int))
abbrev kT_go : MI := (⟨"EarChartModel", "go", "(Z)I"⟩, prog_7_method_46_code, 3, (some FieldType.int))
abbrev kT_isCross : MI := (⟨"EarChartModel", "isCross", "(II)Z"⟩, prog_7_method_47_code, 5, (some FieldType.boolean))
abbrev kT_isTurn : MI := (⟨"EarChartModel", "isTurn", "(II)Z"⟩, prog_7_method_48_code, 4, (some FieldType.boolean))
abbrev kT_seek : MI := (⟨"EarChartModel", "seek", "(ZI)I"⟩, prog_7_method_49_code, 6, (some FieldType.int))
abbrev kL_init : MI := (⟨"EarChart$Laying", "<init>", "()V"⟩, prog_2_method_1_code, 1, (none : Option FieldType))
abbrev kL_find : MI := (⟨"EarChart$Laying", "find", "(II)V"⟩, prog_2_method_2_code, 3, (none : Option FieldType))
abbrev kL_tryFrom : MI := (⟨"EarChart$Laying", "tryFrom", "(II)V"⟩, prog_2_method_3_code, 4, (none : Option FieldType))
abbrev kL_isFree : MI := (⟨"EarChart$Laying", "isFree", "(II)Z"⟩, prog_2_method_4_code, 4, (some FieldType.boolean))
abbrev kL_isHeard : MI := (⟨"EarChart$Laying", "isHeard", "(I)Z"⟩, prog_2_method_5_code, 2, (some FieldType.boolean))
abbrev kM_init : MI := (⟨"EarChart$Meeting", "<init>", "()V"⟩, prog_3_method_1_code, 1, (none : Option FieldType))
abbrev kM_read : MI := (⟨"EarChart$Meeting", "read", "(LEarChart$Row;LEarChart$Row;)V"⟩, prog_3_method_2_code, 6, (none : Option FieldType))
abbrev kR_init : MI := (⟨"EarChart$Row", "<init>", "()V"⟩, prog_4_method_1_code, 1, (none : Option FieldType))
abbrev kR_hasStep : MI := (⟨"EarChart$Row", "hasStep", "(I)Z"⟩, prog_4_method_2_code, 2, (some FieldType.boolean))
abbrev kR_hasValue : MI := (⟨"EarChart$Row", "hasValue", "(I)Z"⟩, prog_4_method_3_code, 2, (some FieldType.boolean))
abbrev kR_hasWay : MI := (⟨"EarChart$Row", "hasWay", "(I)Z"⟩, prog_4_method_4_code, 2, (some FieldType.boolean))
abbrev kR_append : MI := (⟨"EarChart$Row", "append", "(I)I"⟩, prog_4_method_5_code, 2, (some FieldType.int))
abbrev kR_lowest : MI := (⟨"EarChart$Row", "lowest", "()I"⟩, prog_4_method_6_code, 3, (some FieldType.int))
abbrev kR_highest : MI := (⟨"EarChart$Row", "highest", "()I"⟩, prog_4_method_7_code, 3, (some FieldType.int))
abbrev kS_init : MI := (⟨"EarChart$Shape", "<init>", "()V"⟩, prog_5_method_1_code, 1, (none : Option FieldType))
abbrev kS_read : MI := (⟨"EarChart$Shape", "read", "(LEarChart$Row;I)V"⟩, prog_5_method_2_code, 3, (none : Option FieldType))
abbrev kS_weighWays : MI := (⟨"EarChart$Shape", "weighWays", "(LEarChart$Row;I)V"⟩, prog_5_method_3_code, 6, (none : Option FieldType))
abbrev kS_costOfWay : MI := (⟨"EarChart$Shape", "costOfWay", "(II)I"⟩, prog_5_method_4_code, 2, (some FieldType.int))
abbrev kS_costBehind : MI := (⟨"EarChart$Shape", "costBehind", "(IIII)I"⟩, prog_5_method_5_code, 5, (some FieldType.int))
abbrev kS_bestKind : MI := (⟨"EarChart$Shape", "bestKind", "(III)I"⟩, prog_5_method_6_code, 6, (some FieldType.int))
abbrev kS_chooseKinds : MI := (⟨"EarChart$Shape", "chooseKinds", "(LEarChart$Row;I)V"⟩, prog_5_method_7_code, 6, (none : Option FieldType))
abbrev kS_noteWay : MI := (⟨"EarChart$Shape", "noteWay", "(III)V"⟩, prog_5_method_8_code, 4, (none : Option FieldType))
abbrev kS_findTurns : MI := (⟨"EarChart$Shape", "findTurns", "(LEarChart$Row;)V"⟩, prog_5_method_9_code, 3, (none : Option FieldType))
abbrev kS_turnsAtStart : MI := (⟨"EarChart$Shape", "turnsAtStart", "(LEarChart$Row;I)Z"⟩, prog_5_method_10_code, 6, (some FieldType.boolean))
abbrev kS_hasSpan : MI := (⟨"EarChart$Shape", "hasSpan", "(I)Z"⟩, prog_5_method_11_code, 2, (some FieldType.boolean))
abbrev kS_kindOfSpan : MI := (⟨"EarChart$Shape", "kindOfSpan", "(I)I"⟩, prog_5_method_12_code, 2, (some FieldType.int))
abbrev kS_waysOfSpan : MI := (⟨"EarChart$Shape", "waysOfSpan", "(I)I"⟩, prog_5_method_13_code, 2, (some FieldType.int))
abbrev kS_allWays : MI := (⟨"EarChart$Shape", "allWays", "()I"⟩, prog_5_method_14_code, 3, (some FieldType.int))
abbrev kS_beatsOfSpan : MI := (⟨"EarChart$Shape", "beatsOfSpan", "(II)I"⟩, prog_5_method_15_code, 10, (some FieldType.int))
end
section
/-! a method's walk from above, and its rows -/
def RL (al : Bool) (b : Nat) (D : va_G) (κ : Nat → ClassId) (h : List AC) (U : State) : Prop := (∀ w ∈ ktbl, w.before #[] U = true) ∧ va_K D kclasses (tyk κ) U ∧ va_P D kclasses (wso b κ h) U.heap ∧ (al = true → U.heap.size = b + h.length)
theorem RL.vm {al : Bool} {b : Nat} {D : va_G} {κ : Nat → ClassId} {h : List AC} {u U : State} (hW : u.WarmedH U.vm) (hh : U.heap = u.heap) (r : RL al b D κ h u) : RL al b D κ h U := ⟨tb_warm hW r.1, va_K.moved hW.alike r.2.1, by rw [hh]; exact r.2.2.1, by rw [hh]; exact r.2.2.2⟩
def rmD (d mc ms : Nat) : Room := { frames := d, cells := mc, slots := ms, locals := 64 * d }
abbrev QT : Type := Option Value → List AC → Prop
def QC (al : Bool) (b : Nat) (D : va_G) (κ : Nat → ClassId) (N0 : Nat) (Q : QT) : Array Value → State → Outcome → State → Prop := fun _ st o t => (∃ (r : Option Value) (h' : List AC), o = .returned (r.map (rv b)) ∧ Q r h' ∧ (al = false → h'.length = N0) ∧ RL al b D κ h' t) ∧ va_F (AX al b N0) st t
/-- the contract of a method from above: with these arguments and cells it returns, and Q holds of its answer and its cells -/
def AMet (M : MI) (al : Bool) (d mc ms : Nat) (as : List Value) (h : List AC) (Q : QT) : Prop :=
  ∀ (l : Launch) (b : Nat) (D : va_G) (κ : Nat → ClassId), Met l M.1 [.code M.1 M.2.1 M.2.2.1 M.2.2.2] (rmD d mc ms) (va_Pc (as.map (rv b)) (RL al b D κ h)) (QC al b D κ h.length Q) mc ms (AX al b h.length)
def lvl (b : Nat) (L : List (Option Value)) : List (Nat × Value) := (L.mapIdx (fun i o => o.map (fun v => (i, rv b v)))).filterMap id
theorem lvl_mem {b : Nat} {L : List (Option Value)} {q : Nat × Value} : q ∈ lvl b L ↔ ∃ v, L[q.1]? = some (some v) ∧ q.2 = rv b v := by
  unfold lvl
  rw [List.mem_filterMap]
  constructor
  · rintro ⟨o, ho, e⟩
    obtain ⟨i, hi⟩ := List.mem_iff_getElem?.mp ho
    rw [List.getElem?_mapIdx] at hi
    cases hL : L[i]? with
    | none => rw [hL] at hi; cases hi
    | some v0 =>
      rw [hL] at hi
      cases v0 with
      | none => cases hi; cases e
      | some v => cases hi; cases e; exact ⟨v, hL, rfl⟩
  · rintro ⟨v, h1, h2⟩
    refine ⟨some q, List.mem_iff_getElem?.mpr ⟨q.1, ?_⟩, rfl⟩
    rw [List.getElem?_mapIdx, h1]
    simp [← h2]
def lr (b : Nat) (ls : Array Slot) (nL : Nat) (L : List (Option Value)) : Prop := lv_has ls nL (lvl b L) ∧ ∀ (i : Nat) (v : Value), L[i]? = some (some v) → v.category = 1
theorem lr.at {b : Nat} {ls : Array Slot} {nL : Nat} {L : List (Option Value)} (h : lr b ls nL L) {i : Nat} {v : Value} (hi : L[i]? = some (some v)) : ls[i]? = some (.val (rv b v)) := h.1.2.2 (i, rv b v) (lvl_mem.mpr ⟨v, hi, rfl⟩)
theorem lr.st {b : Nat} {ls ls' : Array Slot} {nL : Nat} {L : List (Option Value)} (h : lr b ls nL L) {i : Nat} {v : Value} (hc : v.category = 1) (h' : lv_has ls' nL ((i, rv b v) :: (lvl b L).filter (fun q => !(q.1 == i) && !(q.1 + 1 == i && q.2.category == 2)))) : lr b ls' nL (L.set i (some v)) := by
  refine ⟨⟨h'.1, h'.2.1, fun q hq => ?_⟩, fun j w hj => ?_⟩
  · obtain ⟨w, h1, h2⟩ := lvl_mem.mp hq
    rw [List.getElem?_set] at h1
    by_cases e : i = q.1
    · rw [if_pos e] at h1
      split at h1
      · cases h1
        exact h'.2.2 q (by rw [show q = (i, rv b v) from Prod.ext e.symm h2]; exact List.mem_cons_self)
      · cases h1
    · rw [if_neg e] at h1
      refine h'.2.2 q (List.mem_cons_of_mem _ (List.mem_filter.mpr ⟨lvl_mem.mpr ⟨w, h1, h2⟩, ?_⟩))
      have hw := h.2 _ _ h1
      have h9 : q.2.category = 1 := by rw [h2, rv_cat, hw]
      simp [h9, Ne.symm e]
  · rw [List.getElem?_set] at hj
    by_cases e : i = j
    · rw [if_pos e] at hj
      split at hj
      · cases hj; exact hc
      · cases hj
    · rw [if_neg e] at hj
      exact h.2 _ _ hj
/-- what is fixed along a method's walk -/
def CX (M : MI) (al : Bool) (p : Program) (s : State) (m : MethodId) (args : Array Value) (meth : Method) (c : Code) (b : Nat) (D : va_G) (κ : Nat → ClassId) (N0 : Nat) : Prop :=
  p.tables.exec = Jvm.exec ∧ c.code = M.2.1 ∧ c.maxLocals = M.2.2.1 ∧ s.vm.findClass M.1.cls = some m.cls ∧ (∀ w ∈ ktbl, w.before args s = true) ∧ meth.sig.returnType = M.2.2.2 ∧ meth.locks = false ∧ meth.name = M.1.name ∧ va_K D kclasses (tyk κ) s ∧ (al = true → s.heap.size = b + N0)
/-- what moves -/
def DX (M : MI) (al : Bool) (s : State) (b : Nat) (D : va_G) (κ : Nat → ClassId) (N0 : Nat) (L : List (Option Value)) (h : List AC) (H : Heap) (locs : List Loc) (ls : Array Slot) : Prop :=
  (al = false → h.length = N0) ∧ va_P D kclasses (wso b κ h) H ∧ (al = true → H.size = b + h.length) ∧ va_S (AX al b N0) s.heap H locs ∧ lr b ls M.2.2.1 L
def AW (M : MI) (al : Bool) (d mc ms : Nat) (Q : QT) (k n : Nat) (pc : Nat) (L : List (Option Value)) (st : List Value) (h : List AC) : Prop :=
  ∀ (p : Program) (l : Launch) (e : Env) (s : State) (m : MethodId) (args : Array Value) (below : List Frame) (meth : Method) (c : Code) (b : Nat) (D : va_G) (κ : Nat → ClassId) (N0 : Nat) (H : Heap) (locs : List Loc) (ls : Array Slot), CX M al p s m args meth c b D κ N0 → DX M al s b D κ N0 L h H locs ls →
    W p l e (rmD d mc ms) s m args below meth c H locs k n (MQ below (QC al b D κ N0 Q) args s mc ms (AX al b N0)) (F0 m pc ls (st.map (rv b)))
theorem DX.D {M : MI} {al : Bool} {s : State} {b : Nat} {D : va_G} {κ : Nat → ClassId} {N0 : Nat} {L : List (Option Value)} {h : List AC} {H : Heap} {locs : List Loc} {ls : Array Slot} (X : DX M al s b D κ N0 L h H locs ls) : va_D (AX al b N0) (wso b κ h) := wso_D X.1
theorem lvargs_mem : ∀ (vs : List Value) (k : Nat), (∀ v ∈ vs, v.category = 1) → ∀ (j : Nat) (v : Value), vs[j]? = some v → (k + j, v) ∈ lv_args k vs
  | [], _, _, j, v, h => by simp at h
  | w :: vs, k, hc, j, v, h => by
    have hw : ¬ w.category = 2 := by rw [hc w List.mem_cons_self]; decide
    rw [lv_args, if_neg hw]
    cases j with
    | zero => simp at h; subst h; exact List.mem_cons_self
    | succ j =>
      have := lvargs_mem vs (k + 1) (fun v hv => hc v (List.mem_cons_of_mem _ hv)) j v (by simpa using h)
      rw [show k + (j + 1) = k + 1 + j by omega]
      exact List.mem_cons_of_mem _ this
theorem lgsl_len : ∀ (vs : List Value), (∀ v ∈ vs, v.category = 1) → (lg_sl vs).length = vs.length
  | [], _ => rfl
  | w :: vs, hc => by
    have hw : ¬ w.category = 2 := by rw [hc w List.mem_cons_self]; decide
    have := lgsl_len vs (fun v hv => hc v (List.mem_cons_of_mem _ hv))
    unfold lg_sl at this ⊢
    rw [List.flatMap_cons, if_neg hw, List.length_append, this]
    simp; omega
def L0 (M : MI) (as : List Value) : List (Option Value) := as.map some ++ List.replicate (M.2.2.1 - as.length) none
theorem AMet.of {M : MI} {al : Bool} {d mc ms : Nat} {as : List Value} {h : List AC} {Q : QT} (hy : plainName M.1.cls = true) (hc : ∀ v ∈ as, v.category = 1) (hL : as.length ≤ M.2.2.1)
    (k : AW M al d mc ms Q 0 0 0 (L0 M as) [] h) : AMet M al d mc ms as h Q := by
  intro l b D κ
  refine Met.ofW (cc := M.2.1) (maxL := M.2.2.1) (ret := M.2.2.2) (ws' := []) hy rfl ?_
  intro p e s m args below meth c s₁ B hml hv
  obtain ⟨rfl, hT, hK, hP, hsz⟩ := hv
  rw [lg_entry_eq]
  have hcr : ∀ v ∈ as.map (rv b), v.category = 1 := fun v hv => by
    obtain ⟨w, hw, rfl⟩ := List.mem_map.mp hv
    rw [rv_cat, hc w hw]
  have hlen := lgsl_len _ hcr
  have hl := lv_entry (as.map (rv b)) (n := M.2.2.1) (by rw [hlen, List.length_map]; exact hL)
  refine k p l e s m _ below meth c b D κ h.length s.heap [] _ ⟨B.exec, B.bytes, hml, findClass_of_methodNamed B.named, tb_args hT, B.returns, B.notSynchronized, (name_of_methodNamed B.named B.method).1, hK, hsz⟩ ⟨fun _ => rfl, hP, hsz, va_S.rf, ?_⟩
  have key : ∀ (i : Nat) (v : Value), (L0 M as)[i]? = some (some v) → as[i]? = some v := fun i v hi => by
    unfold L0 at hi
    by_cases hil : i < as.length
    · rw [List.getElem?_append_left (by simpa using hil)] at hi
      simpa using hi
    · rw [List.getElem?_append_right (by simpa using hil), List.getElem?_replicate] at hi
      split at hi <;> simp at hi
  refine ⟨⟨hl.1, hl.2.1, fun q hq => ?_⟩, fun i v hi => hc v (List.mem_of_getElem? (key i v hi))⟩
  obtain ⟨v, h1, h2⟩ := lvl_mem.mp hq
  refine hl.2.2 q ?_
  have := lvargs_mem _ 0 hcr q.1 (rv b v) (by rw [List.getElem?_map, key _ _ h1]; rfl)
  rw [show q = (0 + q.1, rv b v) from Prod.ext (by simp) h2]
  exact this
section AWR
variable {M : MI} {al : Bool} {d mc ms : Nat} {Q : QT} {k n : Nat} {pc : Nat} {L : List (Option Value)} {st : List Value} {h : List AC}
theorem aw_iconst {z : Int} {v : Int32} (hd : decode M.2.1 pc = .ok (.iconst z, 1)) (hv : Int32.ofInt z = v) (kk : AW M al d mc ms Q k n (pc + 1) L (.int v :: st) h) : AW M al d mc ms Q k n pc L st h :=
  fun p l e s m args below meth c b D κ N0 H locs ls C X => lv_iconst C.1 C.2.1 hd hv (kk p l e s m args below meth c b D κ N0 H locs ls C X)
theorem aw_bipush {z : Int} {v : Int32} (hd : decode M.2.1 pc = .ok (.bipush z, 2)) (hv : (Int8.ofInt z).toInt32 = v) (kk : AW M al d mc ms Q k n (pc + 2) L (.int v :: st) h) : AW M al d mc ms Q k n pc L st h :=
  fun p l e s m args below meth c b D κ N0 H locs ls C X => lv_bipush C.1 C.2.1 hd hv (kk p l e s m args below meth c b D κ N0 H locs ls C X)
theorem aw_sipush {z : Int} {v : Int32} (hd : decode M.2.1 pc = .ok (.sipush z, 3)) (hv : (Int16.ofInt z).toInt32 = v) (kk : AW M al d mc ms Q k n (pc + 3) L (.int v :: st) h) : AW M al d mc ms Q k n pc L st h :=
  fun p l e s m args below meth c b D κ N0 H locs ls C X => lv_sipush C.1 C.2.1 hd hv (kk p l e s m args below meth c b D κ N0 H locs ls C X)
theorem aw_ldc {i : Nat} {v : Int32} (hw : Cond.constant M.1.cls i v ∈ ktbl) (hd : decode M.2.1 pc = .ok (.ldc i, 2)) (kk : AW M al d mc ms Q k n (pc + 2) L (.int v :: st) h) : AW M al d mc ms Q k n pc L st h :=
  fun p l e s m args below meth c b D κ N0 H locs ls C X => lv_ldc C.1 C.2.1 C.2.2.2.1 (C.2.2.2.2.1 _ hw) hd (kk p l e s m args below meth c b D κ N0 H locs ls C X)
theorem aw_iload_n {i : Fin 4} {v : Int32} (hd : decode M.2.1 pc = .ok (.iload_n i, 1)) (hl : L[(i : Nat)]? = some (some (.int v))) (kk : AW M al d mc ms Q k n (pc + 1) L (.int v :: st) h) : AW M al d mc ms Q k n pc L st h :=
  fun p l e s m args below meth c b D κ N0 H locs ls C X => lv_iload_n C.1 C.2.1 hd rfl (X.2.2.2.2.at hl) (kk p l e s m args below meth c b D κ N0 H locs ls C X)
theorem aw_iload {i : Nat} {v : Int32} (hd : decode M.2.1 pc = .ok (.iload i, 2)) (hl : L[i]? = some (some (.int v))) (kk : AW M al d mc ms Q k n (pc + 2) L (.int v :: st) h) : AW M al d mc ms Q k n pc L st h :=
  fun p l e s m args below meth c b D κ N0 H locs ls C X => lv_iload C.1 C.2.1 hd (X.2.2.2.2.at hl) (kk p l e s m args below meth c b D κ N0 H locs ls C X)
theorem aw_aload_n {i : Fin 4} {r : Option Nat} (hd : decode M.2.1 pc = .ok (.aload_n i, 1)) (hl : L[(i : Nat)]? = some (some (va_rf r))) (kk : AW M al d mc ms Q k n (pc + 1) L (va_rf r :: st) h) : AW M al d mc ms Q k n pc L st h :=
  fun p l e s m args below meth c b D κ N0 H locs ls C X => by
    cases r with
    | none => exact lv_aload_nN C.1 C.2.1 hd rfl (X.2.2.2.2.at hl) (kk p l e s m args below meth c b D κ N0 H locs ls C X)
    | some a => exact lv_aload_n C.1 C.2.1 hd rfl (X.2.2.2.2.at hl) (kk p l e s m args below meth c b D κ N0 H locs ls C X)
theorem aw_aload_r {i : Fin 4} {a : Nat} (hd : decode M.2.1 pc = .ok (.aload_n i, 1)) (hl : L[(i : Nat)]? = some (some (.ref a))) (kk : AW M al d mc ms Q k n (pc + 1) L (.ref a :: st) h) : AW M al d mc ms Q k n pc L st h :=
  aw_aload_n (r := some a) hd hl kk
theorem aw_aload {i : Nat} {a : Nat} (hd : decode M.2.1 pc = .ok (.aload i, 2)) (hl : L[i]? = some (some (.ref a))) (kk : AW M al d mc ms Q k n (pc + 2) L (.ref a :: st) h) : AW M al d mc ms Q k n pc L st h :=
  fun p l e s m args below meth c b D κ N0 H locs ls C X => lv_aload C.1 C.2.1 hd (X.2.2.2.2.at hl) (kk p l e s m args below meth c b D κ N0 H locs ls C X)
theorem aw_istore_n {i : Fin 4} {v : Int32} (hd : decode M.2.1 pc = .ok (.istore_n i, 1)) (hn : (i : Nat) < M.2.2.1) (kk : AW M al d mc ms Q k n (pc + 1) (L.set i (some (.int v))) st h) : AW M al d mc ms Q k n pc L (.int v :: st) h :=
  fun p l e s m args below meth c b D κ N0 H locs ls C X => lv_istore_n C.1 C.2.1 hd rfl X.2.2.2.2.1 hn rfl (fun ls' h' => kk p l e s m args below meth c b D κ N0 H locs ls' C ⟨X.1, X.2.1, X.2.2.1, X.2.2.2.1, X.2.2.2.2.st (v := .int v) rfl h'⟩)
theorem aw_istore {i : Nat} {v : Int32} (hd : decode M.2.1 pc = .ok (.istore i, 2)) (hn : i < M.2.2.1) (kk : AW M al d mc ms Q k n (pc + 2) (L.set i (some (.int v))) st h) : AW M al d mc ms Q k n pc L (.int v :: st) h :=
  fun p l e s m args below meth c b D κ N0 H locs ls C X => lv_istore C.1 C.2.1 hd X.2.2.2.2.1 hn rfl (fun ls' h' => kk p l e s m args below meth c b D κ N0 H locs ls' C ⟨X.1, X.2.1, X.2.2.1, X.2.2.2.1, X.2.2.2.2.st (v := .int v) rfl h'⟩)
theorem aw_astore_n {i : Fin 4} {r : Option Nat} (hd : decode M.2.1 pc = .ok (.astore_n i, 1)) (hn : (i : Nat) < M.2.2.1) (kk : AW M al d mc ms Q k n (pc + 1) (L.set i (some (va_rf r))) st h) : AW M al d mc ms Q k n pc L (va_rf r :: st) h :=
  fun p l e s m args below meth c b D κ N0 H locs ls C X => by
    cases r with
    | none => exact lv_astore_nN C.1 C.2.1 hd rfl X.2.2.2.2.1 hn rfl (fun ls' h' => kk p l e s m args below meth c b D κ N0 H locs ls' C ⟨X.1, X.2.1, X.2.2.1, X.2.2.2.1, X.2.2.2.2.st (v := .null) rfl h'⟩)
    | some a => exact lv_astore_n C.1 C.2.1 hd rfl X.2.2.2.2.1 hn rfl (fun ls' h' => kk p l e s m args below meth c b D κ N0 H locs ls' C ⟨X.1, X.2.1, X.2.2.1, X.2.2.2.1, X.2.2.2.2.st (v := .ref a) rfl h'⟩)
theorem aw_astore {i : Nat} {r : Option Nat} (hd : decode M.2.1 pc = .ok (.astore i, 2)) (hn : i < M.2.2.1) (kk : AW M al d mc ms Q k n (pc + 2) (L.set i (some (va_rf r))) st h) : AW M al d mc ms Q k n pc L (va_rf r :: st) h :=
  fun p l e s m args below meth c b D κ N0 H locs ls C X => by
    cases r with
    | none => exact lv_astoreN C.1 C.2.1 hd X.2.2.2.2.1 hn rfl (fun ls' h' => kk p l e s m args below meth c b D κ N0 H locs ls' C ⟨X.1, X.2.1, X.2.2.1, X.2.2.2.1, X.2.2.2.2.st (v := .null) rfl h'⟩)
    | some a => exact lv_astore C.1 C.2.1 hd X.2.2.2.2.1 hn rfl (fun ls' h' => kk p l e s m args below meth c b D κ N0 H locs ls' C ⟨X.1, X.2.1, X.2.2.1, X.2.2.2.1, X.2.2.2.2.st (v := .ref a) rfl h'⟩)
theorem aw_iinc {i : Nat} {z : Int} {v w : Int32} (hd : decode M.2.1 pc = .ok (.iinc i z, 3)) (hl : L[i]? = some (some (.int v))) (hv : v + Int32.ofInt z = w) (hn : i < M.2.2.1) (kk : AW M al d mc ms Q k n (pc + 3) (L.set i (some (.int w))) st h) : AW M al d mc ms Q k n pc L st h :=
  fun p l e s m args below meth c b D κ N0 H locs ls C X => by
    obtain ⟨j, hj⟩ := List.mem_iff_getElem?.mp (lvl_mem (b := b) (L := L) (q := (i, .int v)).mpr ⟨.int v, hl, rfl⟩)
    exact lv_iinc C.1 C.2.1 hd X.2.2.2.2.1 hj hv hn rfl (fun ls' h' => kk p l e s m args below meth c b D κ N0 H locs ls' C ⟨X.1, X.2.1, X.2.2.1, X.2.2.2.1, X.2.2.2.2.st (v := .int w) rfl h'⟩)
theorem aw_iadd {v w : Int32} (hd : decode M.2.1 pc = .ok (.iadd, 1)) (kk : AW M al d mc ms Q k n (pc + 1) L (.int (v + w) :: st) h) : AW M al d mc ms Q k n pc L (.int w :: .int v :: st) h :=
  fun p l e s m args below meth c b D κ N0 H locs ls C X => lv_iadd C.1 C.2.1 hd (kk p l e s m args below meth c b D κ N0 H locs ls C X)
theorem aw_isub {v w : Int32} (hd : decode M.2.1 pc = .ok (.isub, 1)) (kk : AW M al d mc ms Q k n (pc + 1) L (.int (v - w) :: st) h) : AW M al d mc ms Q k n pc L (.int w :: .int v :: st) h :=
  fun p l e s m args below meth c b D κ N0 H locs ls C X => lv_isub C.1 C.2.1 hd (kk p l e s m args below meth c b D κ N0 H locs ls C X)
theorem aw_imul {v w : Int32} (hd : decode M.2.1 pc = .ok (.imul, 1)) (kk : AW M al d mc ms Q k n (pc + 1) L (.int (v * w) :: st) h) : AW M al d mc ms Q k n pc L (.int w :: .int v :: st) h :=
  fun p l e s m args below meth c b D κ N0 H locs ls C X => lv_imul C.1 C.2.1 hd (kk p l e s m args below meth c b D κ N0 H locs ls C X)
theorem aw_idiv {v w : Int32} (hd : decode M.2.1 pc = .ok (.idiv, 1)) (hw : ¬ w = 0) (kk : AW M al d mc ms Q k n (pc + 1) L (.int (v / w) :: st) h) : AW M al d mc ms Q k n pc L (.int w :: .int v :: st) h :=
  fun p l e s m args below meth c b D κ N0 H locs ls C X => lv_idiv C.1 C.2.1 hd hw (kk p l e s m args below meth c b D κ N0 H locs ls C X)
theorem aw_irem {v w : Int32} (hd : decode M.2.1 pc = .ok (.irem, 1)) (hw : ¬ w = 0) (kk : AW M al d mc ms Q k n (pc + 1) L (.int (v - v / w * w) :: st) h) : AW M al d mc ms Q k n pc L (.int w :: .int v :: st) h :=
  fun p l e s m args below meth c b D κ N0 H locs ls C X => lv_irem C.1 C.2.1 hd hw (kk p l e s m args below meth c b D κ N0 H locs ls C X)
theorem aw_ineg {v : Int32} (hd : decode M.2.1 pc = .ok (.ineg, 1)) (kk : AW M al d mc ms Q k n (pc + 1) L (.int (-v) :: st) h) : AW M al d mc ms Q k n pc L (.int v :: st) h :=
  fun p l e s m args below meth c b D κ N0 H locs ls C X => lv_ineg C.1 C.2.1 hd (kk p l e s m args below meth c b D κ N0 H locs ls C X)
theorem aw_dup {v : Value} (hd : decode M.2.1 pc = .ok (.dup, 1)) (hv : v.category = 1) (kk : AW M al d mc ms Q k n (pc + 1) L (v :: v :: st) h) : AW M al d mc ms Q k n pc L (v :: st) h :=
  fun p l e s m args below meth c b D κ N0 H locs ls C X => lv_dup C.1 C.2.1 hd ((rv_cat b v).trans hv) (kk p l e s m args below meth c b D κ N0 H locs ls C X)
theorem aw_dup2 {v w : Value} (hd : decode M.2.1 pc = .ok (.dup2, 1)) (hv : v.category = 1) (hw : w.category = 1) (kk : AW M al d mc ms Q k n (pc + 1) L (v :: w :: v :: w :: st) h) : AW M al d mc ms Q k n pc L (v :: w :: st) h :=
  fun p l e s m args below meth c b D κ N0 H locs ls C X => lv_dup2_11 C.1 C.2.1 hd ((rv_cat b v).trans hv) ((rv_cat b w).trans hw) (kk p l e s m args below meth c b D κ N0 H locs ls C X)
theorem aw_pop {v : Value} (hd : decode M.2.1 pc = .ok (.pop, 1)) (hv : v.category = 1) (kk : AW M al d mc ms Q k n (pc + 1) L st h) : AW M al d mc ms Q k n pc L (v :: st) h :=
  fun p l e s m args below meth c b D κ N0 H locs ls C X => lv_pop C.1 C.2.1 hd ((rv_cat b v).trans hv) (kk p l e s m args below meth c b D κ N0 H locs ls C X)
theorem aw_goto {off : Int} {tgt : Nat} (hd : decode M.2.1 pc = .ok (.goto off, 3)) (ht : (pc : Int) + off = (tgt : Int)) (kk : AW M al d mc ms Q k n tgt L st h) : AW M al d mc ms Q k n pc L st h :=
  fun p l e s m args below meth c b D κ N0 H locs ls C X => lv_goto C.1 C.2.1 hd ht (kk p l e s m args below meth c b D κ N0 H locs ls C X)
theorem aw_null (hd : decode M.2.1 pc = .ok (.aconst_null, 1)) (kk : AW M al d mc ms Q k n (pc + 1) L (.null :: st) h) : AW M al d mc ms Q k n pc L st h :=
  fun p l e s m args below meth c b D κ N0 H locs ls C X => lv_null C.1 C.2.1 hd (kk p l e s m args below meth c b D κ N0 H locs ls C X)
theorem aw_ifnonnull {r : Option Nat} {off : Int} {tgt : Nat} (hd : decode M.2.1 pc = .ok (.ifnonnull off, 3)) (ht : (pc : Int) + off = (tgt : Int)) (kt : (∀ a, r = some a → AW M al d mc ms Q k n tgt L st h)) (kf : r = none → AW M al d mc ms Q k n (pc + 3) L st h) : AW M al d mc ms Q k n pc L (va_rf r :: st) h :=
  fun p l e s m args below meth c b D κ N0 H locs ls C X => by
    cases r with
    | none => exact lv_ifnonnullN C.1 C.2.1 hd (kf rfl p l e s m args below meth c b D κ N0 H locs ls C X)
    | some a => exact lv_ifnonnull C.1 C.2.1 hd ht (kt a rfl p l e s m args below meth c b D κ N0 H locs ls C X)
theorem aw_ifnull {r : Option Nat} {off : Int} {tgt : Nat} (hd : decode M.2.1 pc = .ok (.ifnull off, 3)) (ht : (pc : Int) + off = (tgt : Int)) (kt : r = none → AW M al d mc ms Q k n tgt L st h) (kf : ∀ a, r = some a → AW M al d mc ms Q k n (pc + 3) L st h) : AW M al d mc ms Q k n pc L (va_rf r :: st) h :=
  fun p l e s m args below meth c b D κ N0 H locs ls C X => by
    cases r with
    | none => exact lv_ifnullN C.1 C.2.1 hd ht (kt rfl p l e s m args below meth c b D κ N0 H locs ls C X)
    | some a => exact lv_ifnull C.1 C.2.1 hd (kf a rfl p l e s m args below meth c b D κ N0 H locs ls C X)
theorem aw_icmp_eq {x y : Int32} {off : Int} {tgt : Nat} (hd : decode M.2.1 pc = .ok (.if_icmp .eq off, 3)) (ht : (pc : Int) + off = (tgt : Int)) (kt : x = y → AW M al d mc ms Q k n tgt L st h) (kf : ¬ x = y → AW M al d mc ms Q k n (pc + 3) L st h) : AW M al d mc ms Q k n pc L (.int y :: .int x :: st) h :=
  fun p l e s m args below meth c b D κ N0 H locs ls C X => lv_icmp_eq C.1 C.2.1 hd ht (fun q => kt q p l e s m args below meth c b D κ N0 H locs ls C X) (fun q => kf q p l e s m args below meth c b D κ N0 H locs ls C X)
theorem aw_if_eq {x : Int32} {off : Int} {tgt : Nat} (hd : decode M.2.1 pc = .ok (.ifCond .eq off, 3)) (ht : (pc : Int) + off = (tgt : Int)) (kt : x = 0 → AW M al d mc ms Q k n tgt L st h) (kf : ¬ x = 0 → AW M al d mc ms Q k n (pc + 3) L st h) : AW M al d mc ms Q k n pc L (.int x :: st) h :=
  fun p l e s m args below meth c b D κ N0 H locs ls C X => lv_if_eq C.1 C.2.1 hd ht (fun q => kt q p l e s m args below meth c b D κ N0 H locs ls C X) (fun q => kf q p l e s m args below meth c b D κ N0 H locs ls C X)
theorem aw_icmp_ne {x y : Int32} {off : Int} {tgt : Nat} (hd : decode M.2.1 pc = .ok (.if_icmp .ne off, 3)) (ht : (pc : Int) + off = (tgt : Int)) (kt : ¬ x = y → AW M al d mc ms Q k n tgt L st h) (kf : x = y → AW M al d mc ms Q k n (pc + 3) L st h) : AW M al d mc ms Q k n pc L (.int y :: .int x :: st) h :=
  fun p l e s m args below meth c b D κ N0 H locs ls C X => lv_icmp_ne C.1 C.2.1 hd ht (fun q => kt q p l e s m args below meth c b D κ N0 H locs ls C X) (fun q => kf q p l e s m args below meth c b D κ N0 H locs ls C X)
theorem aw_if_ne {x : Int32} {off : Int} {tgt : Nat} (hd : decode M.2.1 pc = .ok (.ifCond .ne off, 3)) (ht : (pc : Int) + off = (tgt : Int)) (kt : ¬ x = 0 → AW M al d mc ms Q k n tgt L st h) (kf : x = 0 → AW M al d mc ms Q k n (pc + 3) L st h) : AW M al d mc ms Q k n pc L (.int x :: st) h :=
  fun p l e s m args below meth c b D κ N0 H locs ls C X => lv_if_ne C.1 C.2.1 hd ht (fun q => kt q p l e s m args below meth c b D κ N0 H locs ls C X) (fun q => kf q p l e s m args below meth c b D κ N0 H locs ls C X)
theorem aw_icmp_lt {x y : Int32} {off : Int} {tgt : Nat} (hd : decode M.2.1 pc = .ok (.if_icmp .lt off, 3)) (ht : (pc : Int) + off = (tgt : Int)) (kt : x < y → AW M al d mc ms Q k n tgt L st h) (kf : ¬ x < y → AW M al d mc ms Q k n (pc + 3) L st h) : AW M al d mc ms Q k n pc L (.int y :: .int x :: st) h :=
  fun p l e s m args below meth c b D κ N0 H locs ls C X => lv_icmp_lt C.1 C.2.1 hd ht (fun q => kt q p l e s m args below meth c b D κ N0 H locs ls C X) (fun q => kf q p l e s m args below meth c b D κ N0 H locs ls C X)
theorem aw_if_lt {x : Int32} {off : Int} {tgt : Nat} (hd : decode M.2.1 pc = .ok (.ifCond .lt off, 3)) (ht : (pc : Int) + off = (tgt : Int)) (kt : x < 0 → AW M al d mc ms Q k n tgt L st h) (kf : ¬ x < 0 → AW M al d mc ms Q k n (pc + 3) L st h) : AW M al d mc ms Q k n pc L (.int x :: st) h :=
  fun p l e s m args below meth c b D κ N0 H locs ls C X => lv_if_lt C.1 C.2.1 hd ht (fun q => kt q p l e s m args below meth c b D κ N0 H locs ls C X) (fun q => kf q p l e s m args below meth c b D κ N0 H locs ls C X)
theorem aw_icmp_ge {x y : Int32} {off : Int} {tgt : Nat} (hd : decode M.2.1 pc = .ok (.if_icmp .ge off, 3)) (ht : (pc : Int) + off = (tgt : Int)) (kt : y ≤ x → AW M al d mc ms Q k n tgt L st h) (kf : ¬ y ≤ x → AW M al d mc ms Q k n (pc + 3) L st h) : AW M al d mc ms Q k n pc L (.int y :: .int x :: st) h :=
  fun p l e s m args below meth c b D κ N0 H locs ls C X => lv_icmp_ge C.1 C.2.1 hd ht (fun q => kt q p l e s m args below meth c b D κ N0 H locs ls C X) (fun q => kf q p l e s m args below meth c b D κ N0 H locs ls C X)
theorem aw_if_ge {x : Int32} {off : Int} {tgt : Nat} (hd : decode M.2.1 pc = .ok (.ifCond .ge off, 3)) (ht : (pc : Int) + off = (tgt : Int)) (kt : 0 ≤ x → AW M al d mc ms Q k n tgt L st h) (kf : ¬ 0 ≤ x → AW M al d mc ms Q k n (pc + 3) L st h) : AW M al d mc ms Q k n pc L (.int x :: st) h :=
  fun p l e s m args below meth c b D κ N0 H locs ls C X => lv_if_ge C.1 C.2.1 hd ht (fun q => kt q p l e s m args below meth c b D κ N0 H locs ls C X) (fun q => kf q p l e s m args below meth c b D κ N0 H locs ls C X)
theorem aw_icmp_gt {x y : Int32} {off : Int} {tgt : Nat} (hd : decode M.2.1 pc = .ok (.if_icmp .gt off, 3)) (ht : (pc : Int) + off = (tgt : Int)) (kt : y < x → AW M al d mc ms Q k n tgt L st h) (kf : ¬ y < x → AW M al d mc ms Q k n (pc + 3) L st h) : AW M al d mc ms Q k n pc L (.int y :: .int x :: st) h :=
  fun p l e s m args below meth c b D κ N0 H locs ls C X => lv_icmp_gt C.1 C.2.1 hd ht (fun q => kt q p l e s m args below meth c b D κ N0 H locs ls C X) (fun q => kf q p l e s m args below meth c b D κ N0 H locs ls C X)
theorem aw_if_gt {x : Int32} {off : Int} {tgt : Nat} (hd : decode M.2.1 pc = .ok (.ifCond .gt off, 3)) (ht : (pc : Int) + off = (tgt : Int)) (kt : 0 < x → AW M al d mc ms Q k n tgt L st h) (kf : ¬ 0 < x → AW M al d mc ms Q k n (pc + 3) L st h) : AW M al d mc ms Q k n pc L (.int x :: st) h :=
  fun p l e s m args below meth c b D κ N0 H locs ls C X => lv_if_gt C.1 C.2.1 hd ht (fun q => kt q p l e s m args below meth c b D κ N0 H locs ls C X) (fun q => kf q p l e s m args below meth c b D κ N0 H locs ls C X)
theorem aw_icmp_le {x y : Int32} {off : Int} {tgt : Nat} (hd : decode M.2.1 pc = .ok (.if_icmp .le off, 3)) (ht : (pc : Int) + off = (tgt : Int)) (kt : x ≤ y → AW M al d mc ms Q k n tgt L st h) (kf : ¬ x ≤ y → AW M al d mc ms Q k n (pc + 3) L st h) : AW M al d mc ms Q k n pc L (.int y :: .int x :: st) h :=
  fun p l e s m args below meth c b D κ N0 H locs ls C X => lv_icmp_le C.1 C.2.1 hd ht (fun q => kt q p l e s m args below meth c b D κ N0 H locs ls C X) (fun q => kf q p l e s m args below meth c b D κ N0 H locs ls C X)
theorem aw_if_le {x : Int32} {off : Int} {tgt : Nat} (hd : decode M.2.1 pc = .ok (.ifCond .le off, 3)) (ht : (pc : Int) + off = (tgt : Int)) (kt : x ≤ 0 → AW M al d mc ms Q k n tgt L st h) (kf : ¬ x ≤ 0 → AW M al d mc ms Q k n (pc + 3) L st h) : AW M al d mc ms Q k n pc L (.int x :: st) h :=
  fun p l e s m args below meth c b D κ N0 H locs ls C X => lv_if_le C.1 C.2.1 hd ht (fun q => kt q p l e s m args below meth c b D κ N0 H locs ls C X) (fun q => kf q p l e s m args below meth c b D κ N0 H locs ls C X)
end AWR
end
section
/-! rows that read and write cells, that return, call and make -/
def FG (own : String) (ix ci kf : Nat) : Prop := ∃ (C : String) (T : u_T) (N : Nat), kclasses[ci]? = some (C, T, N) ∧ (∀ w ∈ u_ws C T N, w ∈ ktbl) ∧ kf < N ∧ (Cond.fieldLink own ix (T kf).1 (T kf).2.1 (T kf).2.2.1 ∈ ktbl ∨ ∃ host, Cond.fieldLinkNest own ix (T kf).1 (T kf).2.1 (T kf).2.2.1 host ∈ ktbl)
def FP (fin : Bool) (own : String) (ix ci kf : Nat) (ty : FieldType) : Prop := ∃ (C : String) (T : u_T) (N : Nat) (ty0 : Nat → FieldType), kclasses[ci]? = some (C, T, N) ∧ (∀ w ∈ u_ws C T N, w ∈ ktbl) ∧ kf < N ∧ (∀ k, k < N → parseFieldDescriptor (T k).2.2.1 = some (ty0 k)) ∧ (∀ a, a < N → ∀ b, b < N → a ≠ b → (T a).2.1 ≠ (T b).2.1) ∧ (T kf).2.2.2 = fin ∧ ty0 kf = ty ∧ (fin = true → (T kf).1 = own) ∧ (Cond.fieldLink own ix (T kf).1 (T kf).2.1 (T kf).2.2.1 ∈ ktbl ∨ (fin = false ∧ ∃ host, Cond.fieldLinkNest own ix (T kf).1 (T kf).2.1 (T kf).2.2.1 host ∈ ktbl))
def okV (ty : FieldType) (v : Value) : Prop := ∀ b, narrow ty (rv b v) = rv b v ∧ fits ty (rv b v) = true
section AWH
variable {M : MI} {al : Bool} {d mc ms : Nat} {Q : QT} {k n : Nat} {pc : Nat} {L : List (Option Value)} {st : List Value} {h : List AC}
theorem aw_get {i ci kf ix : Nat} {fs : List Value} {v : Value} (f : FG M.1.cls ix ci kf) (hd : decode M.2.1 pc = .ok (.getfield ix, 3)) (he : h[i]? = some (.inr (ci, fs))) (hv : fs[kf]? = some v) (kk : AW M al d mc ms Q k n (pc + 3) L (v :: st) h) : AW M al d mc ms Q k n pc L (.ref i :: st) h :=
  fun p l e s m args below meth c b D κ N0 H locs ls C X => by
    obtain ⟨C0, T, N, hc, hin, hk, hl⟩ := f
    have hw := wso_at (b := b) (κ := κ) he
    have hv' : (fs.map (rv b))[kf]? = some (rv b v) := by rw [List.getElem?_map, hv]; rfl
    rcases hl with hl | ⟨host, hl⟩
    · exact va_get C.1 C.2.1 C.2.2.2.2.1 hin C.2.2.2.1 C.2.2.2.2.2.2.2.2.1 X.2.1 i hw hc kf hk (C.2.2.2.2.1 _ hl) (fun _ q => q) hv' hd (kk p l e s m args below meth c b D κ N0 H locs ls C X)
    · exact va_getN C.1 C.2.1 C.2.2.2.2.1 hin C.2.2.2.1 C.2.2.2.2.2.2.2.2.1 X.2.1 i hw hc kf hk (C.2.2.2.2.1 _ hl) (fun _ q => q) hv' hd (kk p l e s m args below meth c b D κ N0 H locs ls C X)
theorem DX.set {M : MI} {al : Bool} {s : State} {b : Nat} {D : va_G} {κ : Nat → ClassId} {N0 : Nat} {L : List (Option Value)} {h : List AC} {H H1 : Heap} {locs : List Loc} {ls : Array Slot} (X : DX M al s b D κ N0 L h H locs ls) {i : Nat} {c0 c1 : AC} (he : h[i]? = some c0) (ha : va_at D kclasses (b + i, ec b κ c1) H1) (z : H1.size = H.size) (oq : ∀ q : Nat, q ≠ b + i → H1[q]? = H[q]?) (j : Nat) : DX M al s b D κ N0 L (h.set i c1) H1 (locs ++ [⟨b + i, j⟩]) ls := by
  have hw := wso_at (b := b) (κ := κ) he
  refine ⟨fun q => by rw [List.length_set]; exact X.1 q, ?_, fun q => by rw [z, List.length_set]; exact X.2.2.1 q, X.2.2.2.1.put z oq (X.D.2 i _ hw), X.2.2.2.2⟩
  rw [← wso_set]
  exact X.2.1.set X.D hw ha oq
theorem aw_put {i ci kf ix : Nat} {fs : List Value} {v : Value} {ty : FieldType} (f : FP false M.1.cls ix ci kf ty) (hd : decode M.2.1 pc = .ok (.putfield ix, 3)) (he : h[i]? = some (.inr (ci, fs))) (hl : kf < fs.length) (hv : okV ty v) (kk : AW M al d mc ms Q k n (pc + 3) L st (h.set i (.inr (ci, fs.set kf v)))) : AW M al d mc ms Q k n pc L (v :: .ref i :: st) h :=
  fun p l e s m args below meth c b D κ N0 H locs ls C X => by
    obtain ⟨C0, T, N, ty0, hc, hin, hk, hty, hnm, hfin, hte, -, hlk⟩ := f
    have hw := wso_at (b := b) (κ := κ) he
    have hap := va_apart (own := M.1.cls) C.2.2.2.2.1 hin ty0 hty hnm C.2.2.2.2.2.2.2.2.1 hc
    obtain ⟨r, h1, cell, q1, q2, q3, q4⟩ := X.2.1 i _ hw
    have hr : r = (C0, T, N) := Option.some.inj (h1.symm.trans hc)
    subst hr
    obtain ⟨hS, hfc, kC, hkC, hkind⟩ := C.2.2.2.2.2.2.2.2.1.1 ci _ hc
    obtain ⟨cf, kf', fi, f, hi, hsl⟩ := hS kf hk
    have hlay := C.2.2.2.2.1 _ (hin _ (u_in_lay hk))
    unfold u_lay at hlay
    rw [if_neg (by rw [hfin]; decide)] at hlay
    have hst := (u_facts hfc hkC (u_lays C.2.2.2.2.1 hin hk) hi).1
    have h6 := u_store (v := rv b v) hfc hkC hkind hlay hi ((hty kf hk).trans (by rw [hte])) (hv b).1 (hv b).2
    have fin : ∀ H' : Heap, H'[b + i]? = some (cell.setSlot f.slot (rv b v)) → H'.size = H.size → (∀ q, q ≠ b + i → H'[q]? = H[q]?) → W p l e (rmD d mc ms) s m args below meth c H' (locs ++ [⟨b + i, f.slot⟩]) k n (MQ below (QC al b D κ N0 Q) args s mc ms (AX al b N0)) (F0 m (pc + 3) ls (st.map (rv b))) := fun H' e1 e2 e3 => by
      refine kk p l e s m args below meth c b D κ N0 H' _ ls C (X.set he ?_ e2 e3 _)
      refine ⟨_, hc, t_OB.to (V := updV (vp_V (fs.map (rv b))) kf (rv b v)) ⟨_, e1, q2, q3, ?_⟩ (fun j _ => ?_)⟩
      · rw [hsl]
        exact t_set q4 hap hk (rv b v)
      · rw [List.map_set]
        exact vp_updV_set (by simpa using hl) (rv b v) j
    rcases hlk with hlk | ⟨-, host, hlk⟩
    · exact W.putK C.1 C.2.1 (f := f) ⟨C.2.2.2.1, C.2.2.2.2.1 _ hlk, ⟨_, _, _, hi⟩, hst⟩ (by rw [q2]; exact h6) q1 q3 (by rw [hsl]; exact k2_hasslot (q4 kf hk)) rfl rfl hd fin
    · exact va_WputK C.1 C.2.1 (f := f) C.2.2.2.1 (C.2.2.2.2.1 _ hlk) hi hst (by rw [q2]; exact h6) q1 q3 (by rw [hsl]; exact k2_hasslot (q4 kf hk)) rfl rfl hd fin
theorem aw_putF {i ci kf ix : Nat} {fs : List Value} {v : Value} {ty : FieldType} (f : FP true M.1.cls ix ci kf ty) (hn2 : M.1.name = "<init>") (hd : decode M.2.1 pc = .ok (.putfield ix, 3)) (he : h[i]? = some (.inr (ci, fs))) (hl : kf < fs.length) (hv : okV ty v) (kk : AW M al d mc ms Q k n (pc + 3) L st (h.set i (.inr (ci, fs.set kf v)))) : AW M al d mc ms Q k n pc L (v :: .ref i :: st) h :=
  fun p l e s m args below meth c b D κ N0 H locs ls C X => by
    obtain ⟨C0, T, N, ty0, hc, hin, hk, hty, hnm, hfin, hte, hdecl, hlk⟩ := f
    have hdecl := hdecl rfl
    have hlk : Cond.fieldLink M.1.cls ix (T kf).1 (T kf).2.1 (T kf).2.2.1 ∈ ktbl := by
      rcases hlk with hlk | ⟨hx, -⟩
      · exact hlk
      · cases hx
    have hw := wso_at (b := b) (κ := κ) he
    have hap := va_apart (own := M.1.cls) C.2.2.2.2.1 hin ty0 hty hnm C.2.2.2.2.2.2.2.2.1 hc
    obtain ⟨r, h1, cell, q1, q2, q3, q4⟩ := X.2.1 i _ hw
    have hr : r = (C0, T, N) := Option.some.inj (h1.symm.trans hc)
    subst hr
    obtain ⟨hS, hfc, kC, hkC, hkind⟩ := C.2.2.2.2.2.2.2.2.1.1 ci _ hc
    obtain ⟨cf, kf', fi, f, hi, hsl⟩ := hS kf hk
    have hlay := C.2.2.2.2.1 _ (hin _ (u_in_lay hk))
    unfold u_lay at hlay
    rw [if_pos hfin] at hlay
    have hst := (u_facts hfc hkC (u_lays C.2.2.2.2.1 hin hk) hi).1
    have hcf : m.cls = cf := by
      obtain ⟨_, _, c', _, _, _, -, -, hf', -, -, -, hown2, -⟩ := Cond.laysFinal_spec hlay
      have e1 : c' = cf := by have := hi.symm.trans hf'; simp at this; exact this.1.symm
      rw [hdecl] at hown2
      rw [← e1]; exact Option.some.inj (C.2.2.2.1.symm.trans hown2)
    have h6 := u_fits (v := rv b v) hfc hkC hkind (Or.inr hlay) hi ((hty kf hk).trans (by rw [hte])) (hv b).1 (hv b).2
    refine W.putFinK C.1 C.2.1 C.2.2.2.1 (C.2.2.2.2.1 _ hlk) hi hst hcf (C.2.2.2.2.2.2.2.1.trans hn2) (by rw [q2]; exact h6) q1 q3 (by rw [hsl]; exact k2_hasslot (q4 kf hk)) rfl rfl hd fun H' e1 e2 e3 => ?_
    refine kk p l e s m args below meth c b D κ N0 H' _ ls C (X.set he ?_ e2 e3 _)
    refine ⟨_, hc, t_OB.to (V := updV (vp_V (fs.map (rv b))) kf (rv b v)) ⟨_, e1, q2, q3, ?_⟩ (fun j _ => ?_)⟩
    · rw [hsl]
      exact t_set q4 hap hk (rv b v)
    · rw [List.map_set]
      exact vp_updV_set (by simpa using hl) (rv b v) j
theorem aw_iald {i N : Nat} {f : Nat → Int32} {j : Int32} (hd : decode M.2.1 pc = .ok (.iaload, 1)) (he : h[i]? = some (.inl (0, N, .inl f))) (hj : vp_in j N) (kk : AW M al d mc ms Q k n (pc + 1) L (.int (f j.toNatClampNeg) :: st) h) : AW M al d mc ms Q k n pc L (.int j :: .ref i :: st) h :=
  fun p l e s m args below meth c b D κ N0 H locs ls C X => va_iald C.1 C.2.1 C.2.2.2.2.2.2.2.2.1 X.2.1 i 0 (wso_at he) rfl hj hd (kk p l e s m args below meth c b D κ N0 H locs ls C X)
theorem aw_zald {i N : Nat} {f : Nat → Int32} {j : Int32} (hd : decode M.2.1 pc = .ok (.baload, 1)) (he : h[i]? = some (.inl (1, N, .inl f))) (hj : vp_in j N) (kk : AW M al d mc ms Q k n (pc + 1) L (.int (f j.toNatClampNeg) :: st) h) : AW M al d mc ms Q k n pc L (.int j :: .ref i :: st) h :=
  fun p l e s m args below meth c b D κ N0 H locs ls C X => va_zald C.1 C.2.1 C.2.2.2.2.2.2.2.2.1 X.2.1 i 1 (wso_at he) rfl hj hd (kk p l e s m args below meth c b D κ N0 H locs ls C X)
theorem aw_iast {i N : Nat} {f : Nat → Int32} {j v : Int32} (hd : decode M.2.1 pc = .ok (.iastore, 1)) (he : h[i]? = some (.inl (0, N, .inl f))) (hj : vp_in j N) (kk : AW M al d mc ms Q k n (pc + 1) L st (h.set i (.inl (0, N, .inl (upd f j.toNatClampNeg v))))) : AW M al d mc ms Q k n pc L (.int v :: .int j :: .ref i :: st) h :=
  fun p l e s m args below meth c b D κ N0 H locs ls C X => by
    have ha : H[b + i]? = some (vp_cell (κ 0) (N, .inl f)) := X.2.1 i _ (wso_at he)
    refine W.iast C.1 C.2.1 ha ((C.2.2.2.2.2.2.2.2.1.2 0 _ rfl).1 N (fun j => .int (f j))) (fun q => by cases q) (by show ¬ (j < 0 ∨ (arrV _ _ _).slots.size ≤ _); rw [arrV_size]; exact hj) rfl rfl hd fun H1 e1 z oq => ?_
    refine kk p l e s m args below meth c b D κ N0 H1 _ ls C (X.set he ?_ z oq _)
    show H1[b + i]? = some (vp_cell (κ 0) (N, .inl (upd f j.toNatClampNeg v)))
    rw [e1, vp_cell_i, vp_cell_i, arrV_store]
    congr 2
    funext q
    by_cases hq : q = j.toNatClampNeg
    · subst hq
      simp [updV, upd]
    · simp [updV, upd, hq]
theorem aw_zast {i N : Nat} {f : Nat → Int32} {j v : Int32} (hd : decode M.2.1 pc = .ok (.bastore, 1)) (he : h[i]? = some (.inl (1, N, .inl f))) (hj : vp_in j N) (hv : v = 0 ∨ v = 1) (kk : AW M false d mc ms Q k n (pc + 1) L st (h.set i (.inl (1, N, .inl (upd f j.toNatClampNeg v))))) : AW M false d mc ms Q k n pc L (.int v :: .int j :: .ref i :: st) h :=
  fun p l e s m args below meth c b D κ N0 H locs ls C X => by
    have hn : vp_nar .boolean v = v := by rcases hv with rfl | rfl <;> decide
    refine va_zast C.1 C.2.1 C.2.2.2.2.2.2.2.2.1 X.2.1 X.D X.2.2.2.1 i 1 (wso_at he) rfl hj hd fun H1 locs1 hP1 hD1 hS1 => ?_
    refine kk p l e s m args below meth c b D κ N0 H1 locs1 ls C ⟨fun q => by rw [List.length_set]; exact X.1 q, ?_, fun q => (by cases q), hS1, X.2.2.2.2⟩
    rw [← wso_set]
    rw [hn] at hP1
    exact hP1
theorem aw_aald {i N t : Nat} {ty : FieldType} {f : Nat → Option Nat} {j : Int32} (ht : ∀ κ : Nat → ClassId, (tyk κ)[t]? = some (κ t, ty)) (hty : ty.isReference = true) (hd : decode M.2.1 pc = .ok (.aaload, 1)) (he : h[i]? = some (.inl (t, N, .inr (.inr (.inr (.inr f)))))) (hj : vp_in j N) (kk : AW M al d mc ms Q k n (pc + 1) L (va_rf (f j.toNatClampNeg) :: st) h) : AW M al d mc ms Q k n pc L (.int j :: .ref i :: st) h :=
  fun p l e s m args below meth c b D κ N0 H locs ls C X => by
    have hlt : j.toNatClampNeg < N := Nat.not_le.mp fun q => hj (Or.inr q)
    have ha : H[b + i]? = some (vp_cell (κ t) (N, .inr (.inr (.inr (.inr (fun q => (f q).map (b + ·))))))) := X.2.1 i _ (wso_at he)
    refine W.aald (v := rv b (va_rf (f j.toNatClampNeg))) (ty := ty) C.1 C.2.1 ha ((C.2.2.2.2.2.2.2.2.1.2 t _ (ht κ)).1 N (fun q => va_rf ((f q).map (b + ·)))) hty (fun q => by cases q) (by show ¬ (j < 0 ∨ (arrV _ _ _).slots.size ≤ _); rw [arrV_size]; exact hj) (by show (arrV _ _ _).slots[_]? = _; rw [arrV_read _ _ hlt, rv_rf]) rfl rfl hd (kk p l e s m args below meth c b D κ N0 H locs ls C X)
theorem aw_aast {i N a : Nat} {fs : List Value} {f : Nat → Option Nat} {j : Int32} (hd : decode M.2.1 pc = .ok (.aastore, 1)) (he : h[i]? = some (.inl (2, N, .inr (.inr (.inr (.inr f)))))) (hj : vp_in j N) (ha : h[a]? = some (.inr (1, fs))) (kk : AW M al d mc ms Q k n (pc + 1) L st (h.set i (.inl (2, N, .inr (.inr (.inr (.inr (va_up f j.toNatClampNeg (some a))))))))) : AW M al d mc ms Q k n pc L (.ref a :: .int j :: .ref i :: st) h :=
  fun p l e s m args below meth c b D κ N0 H locs ls C X => by
    have hlt : j.toNatClampNeg < N := Nat.not_le.mp fun q => hj (Or.inr q)
    have h0 : ¬ j < 0 := fun q => hj (Or.inl q)
    have hK := C.2.2.2.2.2.2.2.2.1
    obtain ⟨r', hr', cellV, g1, g2, g3, -⟩ := X.2.1 a _ (wso_at ha)
    have hcls := (hK.1 1 _ rfl).2
    obtain ⟨kA, comp, k1, k2, k3, -⟩ := (hK.2 2 _ rfl).2
    have hcomp : comp = D.1 1 := Option.some.inj (k3.symm.trans hcls.1)
    subst hcomp
    obtain ⟨kC, hkC, -⟩ := hcls.2
    have hcell : H[b + i]? = some (vp_cell (κ 2) (N, .inr (.inr (.inr (.inr (fun q => (f q).map (b + ·))))))) := X.2.1 i _ (wso_at he)
    refine W.aast C.1 C.2.1 hcell (fun q h => by cases h) (fun h => by cases h) k1 k2 rfl hkC ⟨h0, by show _ < (arrV _ _ _).slots.size; rw [arrV_size]; exact hlt⟩ g1 (fun q h => by rw [g3] at h; cases h) (by rw [g2]; exact hkC) (by rw [g2]; exact va_assign hcls) rfl rfl hd fun H1 e1 z oq => ?_
    refine kk p l e s m args below meth c b D κ N0 H1 _ ls C (X.set he ?_ z oq _)
    show H1[b + i]? = some (vp_cell (κ 2) (N, .inr (.inr (.inr (.inr (fun q => (va_up f j.toNatClampNeg (some a) q).map (b + ·)))))))
    rw [e1, vp_cell_q, vp_cell_q, arrV_store]
    congr 2
    funext q
    by_cases hq : q = j.toNatClampNeg
    · subst hq
      simp [updV, va_up, va_rf]
    · simp [updV, va_up, hq]
theorem aw_alen {i : Nat} {t : Nat} {ty : FieldType} {a : vp_A} (ht : ∀ κ : Nat → ClassId, (tyk κ)[t]? = some (κ t, ty)) (hd : decode M.2.1 pc = .ok (.arraylength, 1)) (he : h[i]? = some (.inl (t, a))) (kk : AW M al d mc ms Q k n (pc + 1) L (.int (Int32.ofNat a.1) :: st) h) : AW M al d mc ms Q k n pc L (.ref i :: st) h :=
  fun p l e s m args below meth c b D κ N0 H locs ls C X => va_alen C.1 C.2.1 C.2.2.2.2.2.2.2.2.1 X.2.1 i t (wso_at he) (ht κ) (by obtain ⟨n0, f | f | f | f | f⟩ := a <;> rfl) hd (kk p l e s m args below meth c b D κ N0 H locs ls C X)
theorem QC.mk {M : MI} {al : Bool} {p : Program} {s : State} {m : MethodId} {args : Array Value} {meth : Method} {c : Code} {b : Nat} {D : va_G} {κ : Nat → ClassId} {N0 : Nat} {L : List (Option Value)} {h : List AC} {H : Heap} {locs : List Loc} {ls : Array Slot} (C : CX M al p s m args meth c b D κ N0) (X : DX M al s b D κ N0 L h H locs ls) {Q : QT} {r : Option Value} (hq : Q r h) (t : State) (ht : t.heap = H) (hW : s.WarmedH t.vm) : QC al b D κ N0 Q args s (.returned (r.map (rv b))) t :=
  ⟨⟨r, h, rfl, hq, X.1, tb_warm hW C.2.2.2.2.1, va_K.moved hW.alike C.2.2.2.2.2.2.2.2.1, by rw [ht]; exact X.2.1, fun q => by rw [ht]; exact X.2.2.1 q⟩, X.2.2.2.1.F ht⟩
theorem aw_iret {v : Int32} (hr : M.2.2.2 = some .int) (hd : decode M.2.1 pc = .ok (.ireturn, 1)) (hq : Q (some (.int v)) h) : AW M al d k n Q k n pc L [.int v] h :=
  fun p l e s m args below meth c b D κ N0 H locs ls C X => W.iret C.1 C.2.1 (C.2.2.2.2.2.1.trans hr) (fun t ht hW => QC.mk C X hq t ht hW) X.2.2.2.1.2.2 hd C.2.2.2.2.2.2.1
theorem aw_zret {v : Int32} (hr : M.2.2.2 = some .boolean) (hv : v = 0 ∨ v = 1) (hd : decode M.2.1 pc = .ok (.ireturn, 1)) (hq : Q (some (.int v)) h) : AW M al d k n Q k n pc L [.int v] h :=
  fun p l e s m args below meth c b D κ N0 H locs ls C X => W.zret C.1 C.2.1 (C.2.2.2.2.2.1.trans hr) (by rcases hv with rfl | rfl <;> decide) (fun t ht hW => QC.mk C X hq t ht hW) X.2.2.2.1.2.2 hd C.2.2.2.2.2.2.1
theorem aw_vret (hr : M.2.2.2 = none) (hd : decode M.2.1 pc = .ok (.return_, 1)) (hq : Q none h) : AW M al d k n Q k n pc L [] h :=
  fun p l e s m args below meth c b D κ N0 H locs ls C X => W.vret C.1 C.2.1 (C.2.2.2.2.2.1.trans hr) (fun t ht hW => QC.mk C X (r := none) hq t ht hW) X.2.2.2.1.2.2 hd C.2.2.2.2.2.2.1
theorem aw_aret {r : Option Nat} {nm : String} (hr : M.2.2.2 = some (.object nm)) (hd : decode M.2.1 pc = .ok (.areturn, 1)) (hq : Q (some (va_rf r)) h) : AW M al d k n Q k n pc L [va_rf r] h :=
  fun p l e s m args below meth c b D κ N0 H locs ls C X => W.aret C.1 C.2.1 (C.2.2.2.2.2.1.trans hr) (Or.inl ⟨nm, rfl⟩) (by cases r with
    | none => exact Or.inl rfl
    | some a => exact Or.inr ⟨_, rfl⟩) (fun t ht hW => QC.mk C X hq t ht hW) X.2.2.2.1.2.2 hd C.2.2.2.2.2.2.1
theorem aw_widen {k' n' : Nat} (h1 : k ≤ k') (h2 : n ≤ n') (kk : AW M al d mc ms Q k' n' pc L st h) : AW M al d mc ms Q k n pc L st h :=
  fun p l e s m args below meth c b D κ N0 H locs ls C X => W.widen h1 h2 (kk p l e s m args below meth c b D κ N0 H locs ls C X)
end AWH
end
section
/-! calls of methods by their contracts from above, calls of the library, makings -/
def CB0 (M' : MI) (nP : Nat) : Prop := Cond.code M'.1 M'.2.1 M'.2.2.1 M'.2.2.2 ∈ ktbl ∧ Cond.initialized M'.1.cls ∈ ktbl ∧ (M'.1.cls ≠ "java/lang/invoke/MethodHandle" ∧ M'.1.cls ≠ "java/lang/invoke/VarHandle") ∧ (parseMethodDescriptor M'.1.desc).map (fun q => q.parameters.length) = some nP ∧ M'.2.2.1 ≤ 45
/-- the ways to call: 0 static, 1 an instance's method, 2 a constructor; of the own class or of a nest mate's -/
def CGk (kind : Nat) (own : String) (ix : Nat) (M' : MI) (nP : Nat) : Prop := CB0 M' nP ∧ (Cond.methodLink own ix M'.1 ∈ ktbl ∨ ∃ host, Cond.methodLinkNest own ix M'.1 host ∈ ktbl) ∧ (match kind with
  | 0 => Cond.static M'.1 ∈ ktbl
  | 1 => Cond.instanceMethod M'.1 ∈ ktbl ∧ Cond.selects M'.1.cls M'.1 M'.1 ∈ ktbl
  | _ => Cond.instanceMethod M'.1 ∈ ktbl ∧ M'.1.name = "<init>" ∧ M'.2.2.2 = none)
theorem RL.blind {al : Bool} {b : Nat} {D : va_G} {κ : Nat → ClassId} {h : List AC} {as : List Value} : FrameBlind (va_Pc (as.map (rv b)) (RL al b D κ h)) := by
  rintro a U g mk ⟨rfl, h1, h2, h3, h4⟩
  exact ⟨rfl, tb_warm (U := U.calling g mk _) (State.WarmedH.refl U) h1, va_K.moved (u := U) (U := U.calling g mk _) (Vm.Alike.refl U.vm) h2, h3, h4⟩
theorem cb_code {M' : MI} {nP : Nat} {s : State} {args : Array Value} (hts : ∀ w ∈ ktbl, w.before args s = true) (g : CB0 M' nP) : ∀ w ∈ [Cond.code M'.1 M'.2.1 M'.2.2.1 M'.2.2.2], ∀ (a' : Array Value) (U : State), s.WarmedH U.vm → w.before a' U = true := by
  intro w hw a' U hW
  rw [List.mem_singleton.mp hw]
  exact tb_word hW (okW_of g.1) (hts _ g.1)
theorem cb_len {M' : MI} {nP : Nat} (g : CB0 M' nP) : ∀ sig, parseMethodDescriptor M'.1.desc = some sig → nP = sig.parameters.length := fun sig q => by
  have h2 := g.2.2.2.1
  rw [q] at h2
  exact (Option.some.inj h2).symm
theorem sh_zero (c : AC) : sh 0 c = c := by
  rcases c with ⟨t, n, f | f | f | f | f⟩ | ⟨ci, fs⟩
  · rfl
  · rfl
  · rfl
  · rfl
  · show Sum.inl (t, n, _) = Sum.inl (t, n, _)
    congr 8
    funext j
    cases hf : f j <;> simp [hf]
  · show Sum.inr (ci, fs.map (rv 0)) = Sum.inr (ci, fs)
    congr 2
    have : fs.map (rv 0) = fs.map id := List.map_congr_left (fun v _ => by cases v <;> simp [rv])
    rw [this, List.map_id]
theorem sh_zeroL (h : List AC) : h.map (sh 0) = h := by
  have : h.map (sh 0) = h.map id := List.map_congr_left (fun c _ => sh_zero c)
  rw [this, List.map_id]
theorem rv_zeroL (l : List Value) : l.map (rv 0) = l := by
  have : l.map (rv 0) = l.map id := List.map_congr_left (fun v _ => by cases v <;> simp [rv])
  rw [this, List.map_id]
theorem rv_zeroO (l : Option Value) : l.map (rv 0) = l := by
  cases l with
  | none => rfl
  | some v => cases v <;> simp [rv]
section AWC
variable {M : MI} {al : Bool} {d mc ms : Nat} {Q : QT} {k n : Nat} {pc : Nat} {L : List (Option Value)} {st : List Value}
/-- the window: the callee's cells, in the callee's places, out of the caller's -/
theorem win_P {b : Nat} {D : va_G} {κ : Nat → ClassId} {pre hc post : List AC} {H : Heap} (hP : va_P D kclasses (wso b κ (pre ++ hc.map (sh pre.length) ++ post)) H) : va_P D kclasses (wso (b + pre.length) κ hc) H := by
  intro i q hq
  obtain ⟨c, hc1, rfl⟩ := wso_of hq
  have hil : i < hc.length := (List.getElem?_eq_some_iff.mp hc1).1
  have h1 : (pre ++ hc.map (sh pre.length) ++ post)[pre.length + i]? = some (sh pre.length c) := by
    rw [List.getElem?_append_left (by simp; omega), List.getElem?_append_right (by omega), List.getElem?_map, show pre.length + i - pre.length = i by omega, hc1]; rfl
  have := hP _ _ (wso_at (b := b) (κ := κ) h1)
  rw [ec_sh, ← Nat.add_assoc] at this
  exact this
theorem aw_ret_call {al : Bool} {pre hc post : List AC} {Q' : QT} {mc' ms' : Nat} {p : Program} {l : Launch} {e : Env} {s : State} {m : MethodId} {args : Array Value} {below : List Frame} {meth : Method} {c : Code} {b : Nat} {D : va_G} {κ : Nat → ClassId} {N0 : Nat} {H : Heap} {locs : List Loc} {ls : Array Slot} {st0 : List Value} {a : Array Value}
    (hpost : al = true → post = []) (C : CX M al p s m args meth c b D κ N0) (X : DX M al s b D κ N0 L (pre ++ hc.map (sh pre.length) ++ post) H locs ls)
    (hr : va_Run p l e (rmD d mc ms) s m args below meth c H locs k n mc' ms' (F0 m pc ls st0) (st.map (rv b)) (QC al (b + pre.length) D κ hc.length Q' a) (AX al (b + pre.length) hc.length))
    (kk : ∀ (r : Option Value) (hc' : List AC), Q' r hc' → (al = false → hc'.length = hc.length) → AW M al d mc ms Q (k + mc') (n + ms') (pc + 3) L ((r.map (rv pre.length)).toList ++ st) (pre ++ hc'.map (sh pre.length) ++ post)) :
    W p l e (rmD d mc ms) s m args below meth c H locs k n (MQ below (QC al b D κ N0 Q) args s mc ms (AX al b N0)) (F0 m pc ls st0) := by
  intro T hT S
  obtain ⟨v, st₀, t, T', Lo, h0, S', hL, e1, e2, ⟨⟨r, hc', hv, hq, hlen, hRL⟩, hF⟩, go⟩ := hr T hT S
  have hv : v = r.map (rv (b + pre.length)) := by
    have := hv
    cases this; rfl
  subst hv
  have hF : H.size ≤ t.heap.size ∧ ∀ q : Nat, q < H.size → ¬ AX al (b + pre.length) hc.length q → t.heap[q]? = H[q]? := by rw [← h0]; exact hF
  have hAA : ∀ q, AX al (b + pre.length) hc.length q → AX al b N0 q := fun q hq => by
    refine ⟨by have := hq.1; omega, fun ha => ?_⟩
    have h1 := hq.2 ha
    have h2 := X.1 ha
    simp at h2
    omega
  have hP1 : va_P D kclasses (wso b κ (pre ++ hc'.map (sh pre.length) ++ post)) t.heap := by
    intro i q hq9
    obtain ⟨c9, hc9, rfl⟩ := wso_of hq9
    by_cases hi : i < pre.length
    · rw [List.append_assoc, List.getElem?_append_left hi] at hc9
      have h1 : (pre ++ hc.map (sh pre.length) ++ post)[i]? = some c9 := by rw [List.append_assoc, List.getElem?_append_left hi]; exact hc9
      have h2 := X.2.1 _ _ (wso_at (b := b) (κ := κ) h1)
      exact h2.kept (hF.2 _ h2.lt (fun ha => by have := ha.1; simp at this; omega))
    · by_cases hi2 : i < pre.length + hc'.length
      · rw [List.getElem?_append_left (by simp; omega), List.getElem?_append_right (by omega), List.getElem?_map] at hc9
        cases h3 : hc'[i - pre.length]? with
        | none => rw [h3] at hc9; cases hc9
        | some c8 =>
          rw [h3] at hc9
          cases hc9
          have h4 := hRL.2.2.1 _ _ (wso_at (b := b + pre.length) (κ := κ) h3)
          rw [ec_sh]
          rw [show b + pre.length + (i - pre.length) = b + i by omega] at h4
          exact h4
      · cases hal : al with
        | true =>
          rw [hpost hal] at hc9
          simp at hc9
          have := (List.getElem?_eq_some_iff.mp hc9).1
          simp at this
          omega
        | false =>
          have hll := hlen hal
          have h1 : (pre ++ hc.map (sh pre.length) ++ post)[i]? = some c9 := by
            rw [List.getElem?_append_right (by simp; omega)] at hc9 ⊢
            simpa [hll] using hc9
          have h2 := X.2.1 _ _ (wso_at (b := b) (κ := κ) h1)
          refine h2.kept (hF.2 _ h2.lt (fun ha => ?_))
          have := ha.2 hal
          simp at this
          omega
  obtain ⟨t2, a1, b1⟩ := kk r hc' hq hlen p l e s m args below meth c b D κ N0 T'.heap (locs ++ Lo) ls C ⟨fun ha => by have h1 := X.1 ha; have h2 := hlen ha; simp at h1 ⊢; omega, by rw [e1]; exact hP1, fun ha => by
      rw [e1, hRL.2.2.2 ha, hpost ha]; simp; omega, ⟨Nat.le_trans X.2.2.2.1.1 (by rw [e1]; exact hF.1), fun q q1 q2 => by rw [e1, hF.2 q (Nat.lt_of_lt_of_le q1 X.2.2.2.1.1) (fun z => q2 (hAA q z))]; exact X.2.2.2.1.2.1 q q1 q2, fun q hq => by
        rcases List.mem_append.mp hq with h | h
        · exact X.2.2.2.1.2.2 q h
        · exact hAA _ (hL q h)⟩, X.2.2.2.2⟩ T' rfl S'
  refine ⟨t2, go t2 ?_, b1⟩
  have hst : (((r.map (rv pre.length)).toList ++ st).map (rv b)) = (r.map (rv (b + pre.length))).toList ++ st.map (rv b) := by
    cases r <;> simp [rv_rv]
  rw [hst] at a1
  exact a1
theorem cat_sum {b : Nat} (st : List Value) : ((st.map (rv b)).map fun v => v.category).sum = (st.map fun v => v.category).sum := by
  rw [List.map_map]
  congr 1
  exact List.map_congr_left (fun v _ => rv_cat b v)
/-- a call into a window of the cells -/
theorem aw_callW {kind ix nP d' mc' ms' : Nat} {M' : MI} {as : List Value} {pre hc post : List AC} {Q' : QT} {st0 : List Value} (g : CGk kind M.1.cls ix M' nP) (hM : AMet M' al d' mc' ms' as hc Q')
    (hd : decode M.2.1 pc = .ok ((match kind with | 0 => .invokestatic ix | 1 => .invokevirtual ix | _ => .invokespecial ix), 3)) (hk : kind < 3)
    (hthis : 0 < kind → ∃ (a : Nat) (as' : List Value), as = .ref a :: as' ∧ as'.length = nP ∧ (kind = 1 → ∃ ci fs q, hc[a]? = some (.inr (ci, fs)) ∧ kclasses[ci]? = some q ∧ q.1 = M'.1.cls)) (hlen : kind = 0 → as.length = nP)
    (hst : st0 = (as.map (rv pre.length)).reverse ++ st) (hW : (st.map fun v => v.category).sum ≤ 8) (hdd : d' + 1 ≤ d) (hf : k + mc' ≤ mc ∧ n + ms' ≤ ms) (hpost : al = true → post = [])
    (kk : ∀ (r : Option Value) (hc' : List AC), Q' r hc' → (al = false → hc'.length = hc.length) → AW M al d mc ms Q (k + mc') (n + ms') (pc + 3) L ((r.map (rv pre.length)).toList ++ st) (pre ++ hc'.map (sh pre.length) ++ post)) :
    AW M al d mc ms Q k n pc L st0 (pre ++ hc.map (sh pre.length) ++ post) :=
  fun p l e s m args below meth c b D κ N0 H locs ls C X => by
    obtain ⟨g0, gl, gk⟩ := g
    have hx := C.1
    have hb := C.2.1
    have hml := C.2.2.1
    have hown := C.2.2.2.1
    have hts := C.2.2.2.2.1
    have hK := C.2.2.2.2.2.2.2.2.1
    have hlo : 8 + (M'.2.2.1 + 11) + (rmD d' mc' ms').locals ≤ (rmD d mc ms).locals := by
      show 8 + (M'.2.2.1 + 11) + 64 * d' ≤ 64 * d
      have := g0.2.2.2.2
      omega
    have hfr : (rmD d' mc' ms').frames + 1 ≤ (rmD d mc ms).frames := hdd
    have hws := cb_code hts g0
    have hRL : ∀ U : State, U.heap = H → s.WarmedH U.vm → va_Pc (as.map (rv (b + pre.length))) (RL al (b + pre.length) D κ hc) (as.map (rv (b + pre.length))).toArray U := fun U hU hWm => by
      refine ⟨rfl, tb_warm hWm hts, va_K.moved hWm.alike hK, by rw [hU]; exact win_P X.2.1, fun ha => ?_⟩
      rw [hU, X.2.2.1 ha, hpost ha]; simp; omega
    have hM' := hM l (b + pre.length) D κ
    have hrm : 2 * (F0 m pc ls (st0.map (rv b))).monitorRoom + ((st.map (rv b)).map fun v => v.category).sum ≤ 8 := lv_room (by rw [cat_sum]; exact hW)
    have hsize : (F0 m pc ls (st0.map (rv b))).locals.size = M.2.2.1 := X.2.2.2.2.1.1
    have hstk : st0.map (rv b) = (as.map (rv (b + pre.length))).reverse ++ st.map (rv b) := by
      rw [hst, List.map_append, List.map_reverse, rv_rvL]
    match kind, hk with
    | 0, _ =>
      have hln : (as.map (rv (b + pre.length))).length = nP := by rw [List.length_map]; exact hlen rfl
      rcases gl with gl | ⟨host, gl⟩
      · exact aw_ret_call hpost C X (va_runS (nL := M.2.2.1) (Ts := ktbl) ⟨hx, hb, hml, hown, hts⟩ hM' ⟨⟨rfl, rfl, hfr, hlo, hws, List.mem_singleton.mpr rfl, hts _ g0.1, hts _ g0.2.1, g0.2.2.1, cb_len g0, hts _ gl⟩, hts _ gk⟩ ⟨RL.blind, hRL⟩ rfl hln hsize hstk hrm hd hf) kk
      · exact aw_ret_call hpost C X (va_runSN (nL := M.2.2.1) (Ts := ktbl) ⟨hx, hb, hml, hown, hts⟩ hM' ⟨⟨⟨rfl, rfl, hfr, hlo, hws, List.mem_singleton.mpr rfl⟩, hts _ g0.1, hts _ g0.2.1, g0.2.2.1, cb_len g0, hts _ gl⟩, hts _ gk, trivial⟩ ⟨RL.blind, hRL⟩ rfl hln hsize hstk hrm hd hf) kk
    | 1, _ =>
      obtain ⟨a, as', rfl, hln, hcl⟩ := hthis (by decide)
      obtain ⟨ci, fs, q, hca, hcq, hqc⟩ := hcl rfl
      have hln : (as'.map (rv (b + pre.length))).length = nP := by rw [List.length_map]; exact hln
      have hstk2 : st0.map (rv b) = (as'.map (rv (b + pre.length))).reverse ++ .ref (b + pre.length + a) :: st.map (rv b) := by
        rw [hstk]; simp [rv]
      have hrecv := va_recv hK (win_P X.2.1) hcq (wso_at (b := b + pre.length) (κ := κ) hca)
      rw [hqc] at hrecv
      rcases gl with gl | ⟨host, gl⟩
      · exact aw_ret_call hpost C X (va_runV (nL := M.2.2.1) (Ts := ktbl) ⟨hx, hb, hml, hown, hts⟩ hM' ⟨⟨rfl, rfl, hfr, hlo, hws, List.mem_singleton.mpr rfl, hts _ g0.1, hts _ g0.2.1, g0.2.2.1, cb_len g0, hts _ gl⟩, hts _ gk.1, hts _ gk.2⟩ ⟨RL.blind, hrecv, hRL⟩ rfl hln hsize hstk2 hrm hd hf) kk
      · exact aw_ret_call hpost C X (va_runVN (nL := M.2.2.1) (Ts := ktbl) ⟨hx, hb, hml, hown, hts⟩ hM' ⟨⟨⟨rfl, rfl, hfr, hlo, hws, List.mem_singleton.mpr rfl⟩, hts _ g0.1, hts _ g0.2.1, g0.2.2.1, cb_len g0, hts _ gl⟩, hts _ gk.1, hts _ gk.2⟩ ⟨RL.blind, hrecv, hRL⟩ rfl hln hsize hstk2 hrm hd hf) kk
    | 2, _ =>
      obtain ⟨a, as', rfl, hln, -⟩ := hthis (by decide)
      have hln : (as'.map (rv (b + pre.length))).length = nP := by rw [List.length_map]; exact hln
      have hstk2 : st0.map (rv b) = (as'.map (rv (b + pre.length))).reverse ++ .ref (b + pre.length + a) :: st.map (rv b) := by
        rw [hstk]; simp [rv]
      obtain ⟨gi, gn, gr⟩ := gk
      have hws2 : ∀ w ∈ [Cond.code M'.1 M'.2.1 M'.2.2.1 none], ∀ (a' : Array Value) (U : State), s.WarmedH U.vm → w.before a' U = true := by rw [← gr]; exact hws
      have hc2 : (Cond.code M'.1 M'.2.1 M'.2.2.1 none).before args s = true := by rw [← gr]; exact hts _ g0.1
      rw [gr] at hM'
      rcases gl with gl | ⟨host, gl⟩
      · exact aw_ret_call hpost C X (va_runI (nL := M.2.2.1) (Ts := ktbl) ⟨hx, hb, hml, hown, hts⟩ hM' ⟨⟨rfl, rfl, hfr, hlo, hws2, List.mem_singleton.mpr rfl, hc2, hts _ g0.2.1, g0.2.2.1, cb_len g0, hts _ gl⟩, gn, hts _ gi⟩ ⟨RL.blind, hRL⟩ rfl hln hsize hstk2 hrm hd hf) kk
      · exact aw_ret_call hpost C X (va_runIN (nL := M.2.2.1) (Ts := ktbl) ⟨hx, hb, hml, hown, hts⟩ hM' ⟨⟨⟨rfl, rfl, hfr, hlo, hws2, List.mem_singleton.mpr rfl⟩, hc2, hts _ g0.2.1, g0.2.2.1, cb_len g0, hts _ gl⟩, gn, hts _ gi⟩ ⟨RL.blind, hRL⟩ rfl hln hsize hstk2 hrm hd hf) kk
end AWC
end
section
/-! calls of one's own, shorter; the library's calls; makings -/
theorem kx_max : Cond.code Lib.Math.max.name Lib.Math.max.code 2 (some .int) ∈ ktbl := k_at 295 (by decide +kernel) (by decide +kernel)
theorem kx_min : Cond.code Lib.Math.min.name Lib.Math.min.code 2 (some .int) ∈ ktbl := k_at 329 (by decide +kernel) (by decide +kernel)
theorem kx_abs : Cond.code Lib.Math.abs.name Lib.Math.abs.code 1 (some .int) ∈ ktbl := k_at 298 (by decide +kernel) (by decide +kernel)
theorem kx_maxS : Cond.static Lib.Math.max.name ∈ ktbl := k_at 294 (by decide +kernel) (by decide +kernel)
theorem kx_minS : Cond.static Lib.Math.min.name ∈ ktbl := k_at 328 (by decide +kernel) (by decide +kernel)
theorem kx_absS : Cond.static Lib.Math.abs.name ∈ ktbl := k_at 297 (by decide +kernel) (by decide +kernel)
theorem kx_math : Cond.initialized "java/lang/Math" ∈ ktbl := k_at 61 (by decide +kernel) (by decide +kernel)
theorem kx_sys : Cond.initialized "java/lang/System" ∈ ktbl := k_at 62 (by decide +kernel) (by decide +kernel)
theorem kx_cpS : Cond.static arraycopyName ∈ ktbl := k_at 445 (by decide +kernel) (by decide +kernel)
theorem kx_cpN : Cond.native arraycopyName ∈ ktbl := k_at 446 (by decide +kernel) (by decide +kernel)
theorem kx_obI : Cond.instanceMethod Lib.objectInit ∈ ktbl := k_at 69 (by decide +kernel) (by decide +kernel)
theorem kx_obC : Cond.code Lib.objectInit ⟨#[0xb1]⟩ 1 none ∈ ktbl := k_at 70 (by decide +kernel) (by decide +kernel)
theorem kx_ai : Cond.arrayClass .int ∈ ktbl := by decide +kernel
theorem kx_az : Cond.arrayClass .boolean ∈ ktbl := by decide +kernel
theorem kx_ao : Cond.arrayOver (.object "EarChart$Row") ∈ ktbl := by decide +kernel
theorem kx_aoa : Cond.arrayOver (.array .int) ∈ ktbl := by decide +kernel
section AWM
variable {M : MI} {al : Bool} {d mc ms : Nat} {Q : QT} {k n : Nat} {pc : Nat} {L : List (Option Value)} {st : List Value} {h : List AC}
theorem aw_callG {kind ix nP d' mc' ms' : Nat} {M' : MI} {as : List Value} {Q' : QT} {st0 : List Value} (g : CGk kind M.1.cls ix M' nP) (hM : AMet M' al d' mc' ms' as h Q')
    (hd : decode M.2.1 pc = .ok ((match kind with | 0 => .invokestatic ix | 1 => .invokevirtual ix | _ => .invokespecial ix), 3)) (hk : kind < 3)
    (hthis : 0 < kind → ∃ (a : Nat) (as' : List Value), as = .ref a :: as' ∧ as'.length = nP ∧ (kind = 1 → ∃ ci fs q, h[a]? = some (.inr (ci, fs)) ∧ kclasses[ci]? = some q ∧ q.1 = M'.1.cls)) (hlen : kind = 0 → as.length = nP)
    (hst : st0 = as.reverse ++ st) (hW : (st.map fun v => v.category).sum ≤ 8) (hdd : d' + 1 ≤ d) (hf : k + mc' ≤ mc ∧ n + ms' ≤ ms)
    (kk : ∀ (r : Option Value) (h' : List AC), Q' r h' → (al = false → h'.length = h.length) → AW M al d mc ms Q (k + mc') (n + ms') (pc + 3) L (r.toList ++ st) h') :
    AW M al d mc ms Q k n pc L st0 h := by
  have e : h = [] ++ h.map (sh ([] : List AC).length) ++ [] := by simp [sh_zeroL]
  have := aw_callW (M := M) (al := al) (d := d) (mc := mc) (ms := ms) (Q := Q) (k := k) (n := n) (pc := pc) (L := L) (st := st) (pre := []) (hc := h) (post := []) (st0 := st0) g hM hd hk hthis hlen (by rw [hst]; show _ = (as.map (rv 0)).reverse ++ st; rw [rv_zeroL]) hW hdd hf (fun _ => rfl) (fun r hc' hq hl => by
    have := kk r hc' hq hl
    show AW M al d mc ms Q (k + mc') (n + ms') (pc + 3) L ((r.map (rv 0)).toList ++ st) ([] ++ hc'.map (sh 0) ++ [])
    rw [rv_zeroO, sh_zeroL]
    simpa using this)
  rw [← e] at this
  exact this
theorem aw_callS {ix nP d' mc' ms' : Nat} {M' : MI} {as : List Value} {Q' : QT} {st0 : List Value} (g : CGk 0 M.1.cls ix M' nP) (hM : AMet M' al d' mc' ms' as h Q') (hd : decode M.2.1 pc = .ok (.invokestatic ix, 3)) (hlen : as.length = nP)
    (hst : st0 = as.reverse ++ st) (hW : (st.map fun v => v.category).sum ≤ 8) (hdd : d' + 1 ≤ d) (hf : k + mc' ≤ mc ∧ n + ms' ≤ ms)
    (kk : ∀ (r : Option Value) (h' : List AC), Q' r h' → (al = false → h'.length = h.length) → AW M al d mc ms Q (k + mc') (n + ms') (pc + 3) L (r.toList ++ st) h') : AW M al d mc ms Q k n pc L st0 h :=
  aw_callG g hM hd (by decide) (fun q => absurd q (by decide)) (fun _ => hlen) hst hW hdd hf kk
theorem aw_callV {ix nP d' mc' ms' a ci : Nat} {M' : MI} {as : List Value} {fs : List Value} {Q' : QT} {st0 : List Value} {q : vw_C} (g : CGk 1 M.1.cls ix M' nP) (hM : AMet M' al d' mc' ms' (.ref a :: as) h Q') (hd : decode M.2.1 pc = .ok (.invokevirtual ix, 3)) (hlen : as.length = nP)
    (he : h[a]? = some (.inr (ci, fs))) (hc : kclasses[ci]? = some q) (hq : q.1 = M'.1.cls)
    (hst : st0 = (Value.ref a :: as).reverse ++ st) (hW : (st.map fun v => v.category).sum ≤ 8) (hdd : d' + 1 ≤ d) (hf : k + mc' ≤ mc ∧ n + ms' ≤ ms)
    (kk : ∀ (r : Option Value) (h' : List AC), Q' r h' → (al = false → h'.length = h.length) → AW M al d mc ms Q (k + mc') (n + ms') (pc + 3) L (r.toList ++ st) h') : AW M al d mc ms Q k n pc L st0 h :=
  aw_callG g hM hd (by decide) (fun _ => ⟨a, as, rfl, hlen, fun _ => ⟨ci, fs, q, he, hc, hq⟩⟩) (fun e => by cases e) hst hW hdd hf kk
theorem aw_callI {ix nP d' mc' ms' a : Nat} {M' : MI} {as : List Value} {Q' : QT} {st0 : List Value} (g : CGk 2 M.1.cls ix M' nP) (hM : AMet M' al d' mc' ms' (.ref a :: as) h Q') (hd : decode M.2.1 pc = .ok (.invokespecial ix, 3)) (hlen : as.length = nP)
    (hst : st0 = (Value.ref a :: as).reverse ++ st) (hW : (st.map fun v => v.category).sum ≤ 8) (hdd : d' + 1 ≤ d) (hf : k + mc' ≤ mc ∧ n + ms' ≤ ms)
    (kk : ∀ (r : Option Value) (h' : List AC), Q' r h' → (al = false → h'.length = h.length) → AW M al d mc ms Q (k + mc') (n + ms') (pc + 3) L (r.toList ++ st) h') : AW M al d mc ms Q k n pc L st0 h :=
  aw_callG g hM hd (by decide) (fun _ => ⟨a, as, rfl, hlen, fun e => by cases e⟩) (fun e => by cases e) hst hW hdd hf kk
/-- a constructor, called on the newest cell: it may make cells behind it -/
theorem aw_callIw {ix nP d' mc' ms' : Nat} {M' : MI} {as : List Value} {Q' : QT} {st0 : List Value} {pre : List AC} {c0 : AC} {o : Nat} (ho : pre.length = o) (g : CGk 2 M.1.cls ix M' nP) (hM : AMet M' al d' mc' ms' (.ref 0 :: as) [c0] Q') (hd : decode M.2.1 pc = .ok (.invokespecial ix, 3)) (hlen : as.length = nP)
    (hst : st0 = ((Value.ref 0 :: as).map (rv o)).reverse ++ st) (hW : (st.map fun v => v.category).sum ≤ 8) (hdd : d' + 1 ≤ d) (hf : k + mc' ≤ mc ∧ n + ms' ≤ ms) (e : h = pre ++ [sh o c0])
    (kk : ∀ (r : Option Value) (h' : List AC), Q' r h' → AW M al d mc ms Q (k + mc') (n + ms') (pc + 3) L ((r.map (rv o)).toList ++ st) (pre ++ h'.map (sh o))) : AW M al d mc ms Q k n pc L st0 h := by
  subst ho
  subst e
  have := aw_callW (M := M) (al := al) (d := d) (mc := mc) (ms := ms) (Q := Q) (k := k) (n := n) (pc := pc) (L := L) (st := st) (pre := pre) (hc := [c0]) (post := []) (st0 := st0) g hM hd (by decide) (fun _ => ⟨0, as, rfl, hlen, fun e => by cases e⟩) (fun e => by cases e) hst hW hdd hf (fun _ => rfl) (fun r hc' hq hl => by
    have := kk r hc' hq
    simpa using this)
  simpa using this
theorem aw_max {ix : Nat} {x y : Int32} (hw : Cond.methodLink M.1.cls ix Lib.Math.max.name ∈ ktbl) (hd : decode M.2.1 pc = .ok (.invokestatic ix, 3)) (hD : 1 ≤ d) (hW : (st.map fun v => v.category).sum ≤ 8) (hf : k ≤ mc ∧ n ≤ ms) (kk : AW M al d mc ms Q k n (pc + 3) L (.int (if x < y then y else x) :: st) h) : AW M al d mc ms Q k n pc L (.int y :: .int x :: st) h :=
  fun p l e s m args below meth c b D κ N0 H locs ls C X => va_mmax C.1 C.2.1 (C.2.2.1.trans X.2.2.2.2.1.1.symm) C.2.2.2.1 (C.2.2.2.2.1 _ hw) (C.2.2.2.2.1 _ kx_maxS) (C.2.2.2.2.1 _ kx_math) (C.2.2.2.2.1 _ kx_max) hD (by rw [cat_sum]; show _ + 13 ≤ 64 * d; omega) hf.1 hf.2 hd (kk p l e s m args below meth c b D κ N0 H locs ls C X)
theorem aw_min {ix : Nat} {x y : Int32} (hw : Cond.methodLink M.1.cls ix Lib.Math.min.name ∈ ktbl) (hd : decode M.2.1 pc = .ok (.invokestatic ix, 3)) (hD : 1 ≤ d) (hW : (st.map fun v => v.category).sum ≤ 8) (hf : k ≤ mc ∧ n ≤ ms) (kk : AW M al d mc ms Q k n (pc + 3) L (.int (if y < x then y else x) :: st) h) : AW M al d mc ms Q k n pc L (.int y :: .int x :: st) h :=
  fun p l e s m args below meth c b D κ N0 H locs ls C X => va_mmin C.1 C.2.1 (C.2.2.1.trans X.2.2.2.2.1.1.symm) C.2.2.2.1 (C.2.2.2.2.1 _ hw) (C.2.2.2.2.1 _ kx_minS) (C.2.2.2.2.1 _ kx_math) (C.2.2.2.2.1 _ kx_min) hD (by rw [cat_sum]; show _ + 13 ≤ 64 * d; omega) hf.1 hf.2 hd (kk p l e s m args below meth c b D κ N0 H locs ls C X)
theorem aw_abs {ix : Nat} {x : Int32} (hw : Cond.methodLink M.1.cls ix Lib.Math.abs.name ∈ ktbl) (hd : decode M.2.1 pc = .ok (.invokestatic ix, 3)) (hD : 1 ≤ d) (hW : (st.map fun v => v.category).sum ≤ 8) (hf : k ≤ mc ∧ n ≤ ms) (kk : AW M al d mc ms Q k n (pc + 3) L (.int (if 0 ≤ x then x else 0 - x) :: st) h) : AW M al d mc ms Q k n pc L (.int x :: st) h :=
  fun p l e s m args below meth c b D κ N0 H locs ls C X => va_mabs C.1 C.2.1 (C.2.2.1.trans X.2.2.2.2.1.1.symm) C.2.2.2.1 (C.2.2.2.2.1 _ hw) (C.2.2.2.2.1 _ kx_absS) (C.2.2.2.2.1 _ kx_math) (C.2.2.2.2.1 _ kx_abs) hD (by rw [cat_sum]; show _ + 13 ≤ 64 * d; omega) hf.1 hf.2 hd (kk p l e s m args below meth c b D κ N0 H locs ls C X)
theorem aw_copy {ix i0 i1 n0 n1 : Nat} {f g : Nat → Int32} {sp dp z : Int32} (hw : Cond.methodLink M.1.cls ix arraycopyName ∈ ktbl) (hd : decode M.2.1 pc = .ok (.invokestatic ix, 3)) (h0 : h[i0]? = some (.inl (0, n0, .inl f))) (h1 : h[i1]? = some (.inl (0, n1, .inl g))) (q1 : ¬ sp < 0) (q2 : ¬ dp < 0) (q3 : ¬ z < 0) (q4 : sp.toNatClampNeg + z.toNatClampNeg ≤ n0) (q5 : dp.toNatClampNeg + z.toNatClampNeg ≤ n1) (hD : 1 ≤ d) (hW : (st.map fun v => v.category).sum ≤ 8)
    (kk : AW M false d mc ms Q k n (pc + 3) L st (h.set i1 (.inl (0, n1, .inl (va_cpy f g sp.toNatClampNeg dp.toNatClampNeg z.toNatClampNeg))))) : AW M false d mc ms Q k n pc L (.int z :: .int dp :: .ref i1 :: .int sp :: .ref i0 :: st) h :=
  fun p l e s m args below meth c b D κ N0 H locs ls C X => by
    refine va_copyi C.1 C.2.1 (C.2.2.1.trans X.2.2.2.2.1.1.symm) C.2.2.2.1 (C.2.2.2.2.1 _ hw) (C.2.2.2.2.1 _ kx_cpN) (C.2.2.2.2.1 _ kx_cpS) (C.2.2.2.2.1 _ kx_sys) C.2.2.2.2.2.2.2.2.1 X.2.1 X.D X.2.2.2.1 i0 i1 0 0 (wso_at h0) (wso_at h1) rfl rfl rfl q1 q2 q3 q4 q5 (fun i _ => rfl) hD ?_ hd fun H1 locs1 hP1 hD1 hS1 => ?_
    · have hz : nativeFrameWords "java/lang/System" "arraycopy" 5 ≤ 40 := by decide +kernel
      rw [cat_sum]
      show _ + (_ + 11) ≤ 64 * d
      omega
    · refine kk p l e s m args below meth c b D κ N0 H1 locs1 ls C ⟨fun q => by rw [List.length_set]; exact X.1 q, ?_, fun q => (by cases q), hS1, X.2.2.2.2⟩
      rw [← wso_set]
      exact hP1
theorem aw_obj {ix a : Nat} (hw : Cond.methodLink M.1.cls ix Lib.objectInit ∈ ktbl) (hd : decode M.2.1 pc = .ok (.invokespecial ix, 3)) (hD : 1 ≤ d) (hW : (st.map fun v => v.category).sum ≤ 8) (kk : AW M al d mc ms Q k n (pc + 3) L st h) : AW M al d mc ms Q k n pc L (.ref a :: st) h :=
  fun p l e s m args below meth c b D κ N0 H locs ls C X => by
    refine W.objInit C.1 C.2.1 C.2.2.2.1 (C.2.2.2.2.1 _ hw) (C.2.2.2.2.1 _ kx_obI) (C.2.2.2.2.1 _ kx_obC) rfl (X.2.2.2.2.1.1.trans C.2.2.1.symm) rfl hd hD ?_ (kk p l e s m args below meth c b D κ N0 H locs ls C X)
    rw [cat_sum]
    show 2 * 0 + _ + 12 ≤ 64 * d
    omega
theorem DX.app {M : MI} {s : State} {b : Nat} {D : va_G} {κ : Nat → ClassId} {N0 : Nat} {L : List (Option Value)} {h : List AC} {H H1 : Heap} {locs : List Loc} {ls : Array Slot} (X : DX M true s b D κ N0 L h H locs ls) {c1 : AC} (ha : va_at D kclasses (b + h.length, ec b κ c1) H1) (z : H1.size = H.size + 1) (oq : ∀ q : Nat, q < H.size → H1[q]? = H[q]?) : DX M true s b D κ N0 L (h ++ [c1]) H1 locs ls := by
  refine ⟨fun q => (by cases q), ?_, fun q => (by rw [z, X.2.2.1 rfl]; simp; omega), ⟨Nat.le_trans X.2.2.2.1.1 (by omega), fun q h1 h2 => (oq q (Nat.lt_of_lt_of_le h1 X.2.2.2.1.1)).trans (X.2.2.2.1.2.1 q h1 h2), X.2.2.2.1.2.2⟩, X.2.2.2.2⟩
  rw [wso_app]
  refine va_P.app (X.2.1.kept (fun k x hx => oq x.1 ((X.2.1 k x hx).lt))) (fun k x hx => ?_)
  have hz : k < 1 := (List.getElem?_eq_some_iff.mp hx).1
  rw [show k = 0 by omega] at hx
  cases hx
  exact ha
theorem aw_new {ix ci N : Nat} {C0 : String} {T : u_T} {ty : Nat → FieldType} {fs : List Value} (hc : kclasses[ci]? = some (C0, T, N)) (hin : ∀ w ∈ u_ws C0 T N, w ∈ ktbl) (hty : ∀ k, k < N → parseFieldDescriptor (T k).2.2.1 = some (ty k)) (w1 : Cond.classLink M.1.cls ix C0 ∈ ktbl) (w2 : Cond.instantiable C0 N ∈ ktbl) (w3 : Cond.initialized C0 ∈ ktbl) (hd : decode M.2.1 pc = .ok (.new ix, 3)) (hfs : ∀ b j, j < N → defaultValue (ty j) = vp_V (fs.map (rv b)) j) (hf : k + 1 ≤ mc ∧ n + N ≤ ms)
    (kk : AW M true d mc ms Q (k + 1) (n + N) (pc + 3) L (.ref h.length :: st) (h ++ [.inr (ci, fs)])) : AW M true d mc ms Q k n pc L st h :=
  fun p l e s m args below meth c b D κ N0 H locs ls C X => by
    have hKn := C.2.2.2.2.2.2.2.2.1.1 ci _ hc
    refine W.newcK C.1 C.2.1 C.2.2.2.1 (C.2.2.2.2.1 _ w1) (C.2.2.2.2.1 _ w2) (C.2.2.2.2.1 _ w3) rfl hd hf.1 hf.2 hKn.2.1 (X.2.2.1 rfl) fun H1 kC hkC e1 z1 o1 => ?_
    refine kk p l e s m args below meth c b D κ N0 H1 locs ls C (X.app ⟨_, hc, (u_born ty C.2.2.2.2.1 hin hKn hkC e1 hty).to (hfs b)⟩ (by rw [z1, X.2.2.1 rfl]) (fun q hq => o1 q (by rw [← X.2.2.1 rfl]; exact hq)))
theorem aw_newi {j : Int32} {N : Nat} (hd : decode M.2.1 pc = .ok (.newarray .int, 2)) (hj : ¬ j < 0) (hN : j.toNatClampNeg = N) (hb : N ≤ 1000) (hf : k + 1 ≤ mc ∧ n + N ≤ ms) (kk : AW M true d mc ms Q (k + 1) (n + N) (pc + 2) L (.ref h.length :: st) (h ++ [.inl (0, N, .inl (fun _ => 0))])) : AW M true d mc ms Q k n pc L (.int j :: st) h :=
  fun p l e s m args below meth c b D κ N0 H locs ls C X => by
    refine va_newaK (atype := .int) C.1 C.2.1 (C.2.2.2.2.1 _ kx_ai) rfl hd rfl hj hN (by show N * 4 ≤ _; omega) hf.1 hf.2 (X.2.2.1 rfl) fun H1 cA e1 z1 o1 hAr hNm => ?_
    have hk0 : cA = κ 0 := Option.some.inj (hNm.symm.trans (C.2.2.2.2.2.2.2.2.1.2 0 _ rfl).2)
    subst hk0
    exact kk p l e s m args below meth c b D κ N0 H1 locs ls C (X.app e1 (by rw [z1, X.2.2.1 rfl]) (fun q hq => o1 q (by rw [← X.2.2.1 rfl]; exact hq)))
theorem aw_newz {j : Int32} {N : Nat} (hd : decode M.2.1 pc = .ok (.newarray .boolean, 2)) (hj : ¬ j < 0) (hN : j.toNatClampNeg = N) (hb : N ≤ 1000) (hf : k + 1 ≤ mc ∧ n + N ≤ ms) (kk : AW M true d mc ms Q (k + 1) (n + N) (pc + 2) L (.ref h.length :: st) (h ++ [.inl (1, N, .inl (fun _ => 0))])) : AW M true d mc ms Q k n pc L (.int j :: st) h :=
  fun p l e s m args below meth c b D κ N0 H locs ls C X => by
    refine va_newaK (atype := .boolean) C.1 C.2.1 (C.2.2.2.2.1 _ kx_az) rfl hd rfl hj hN (by show N * 1 ≤ _; omega) hf.1 hf.2 (X.2.2.1 rfl) fun H1 cA e1 z1 o1 hAr hNm => ?_
    have hk0 : cA = κ 1 := Option.some.inj (hNm.symm.trans (C.2.2.2.2.2.2.2.2.1.2 1 _ rfl).2)
    subst hk0
    exact kk p l e s m args below meth c b D κ N0 H1 locs ls C (X.app e1 (by rw [z1, X.2.2.1 rfl]) (fun q hq => o1 q (by rw [← X.2.2.1 rfl]; exact hq)))
theorem aw_newq {ix : Nat} {j : Int32} {N : Nat} (w1 : Cond.classLink M.1.cls ix "EarChart$Row" ∈ ktbl) (hd : decode M.2.1 pc = .ok (.anewarray ix, 3)) (hj : ¬ j < 0) (hN : j.toNatClampNeg = N) (hb : N ≤ 1000) (hf : k + 1 ≤ mc ∧ n + N ≤ ms) (kk : AW M true d mc ms Q (k + 1) (n + N) (pc + 3) L (.ref h.length :: st) (h ++ [.inl (2, N, .inr (.inr (.inr (.inr (fun _ => none)))))])) : AW M true d mc ms Q k n pc L (.int j :: st) h :=
  fun p l e s m args below meth c b D κ N0 H locs ls C X => by
    subst hN
    refine W.anew (C := "EarChart$Row") C.1 C.2.1 C.2.2.2.1 (C.2.2.2.2.1 _ w1) (C.2.2.2.2.1 _ kx_ao) rfl hd rfl hj (by omega) hf.1 hf.2 fun cA kA comp f1 f2 f3 f4 => ?_
    obtain ⟨_, _, _, _, _, hNm⟩ := (C.2.2.2.2.2.2.2.2.1.2 2 _ rfl).2
    have hk0 : cA = κ 2 := Option.some.inj (f1.symm.trans hNm)
    subst hk0
    have := X.2.2.1 rfl
    rw [this]
    refine kk p l e s m args below meth c b D κ N0 _ locs ls C (X.app ?_ (by rw [Array.size_push]) (fun q hq => by rw [Array.getElem?_push, if_neg (Nat.ne_of_lt hq)]))
    show (H.push _)[b + h.length]? = some (vp_cell (κ 2) (j.toNatClampNeg, .inr (.inr (.inr (.inr (fun _ => (none : Option Nat).map (b + ·)))))))
    rw [← this, Array.getElem?_push_size, vp_cell_q, ← arrV_new]
    rfl
theorem mna_outer (c : ClassId) (h0 : Nat) : Jvm.Free.Multi.outerC c 4 h0 4 = arrV c 4 (fun j => va_rf (if j < 4 then some (h0 + 1 + j) else none)) := by
  show (((({ cls := c, slots := Array.replicate 4 .null, vm := .none } : Cell).setSlot 0 (.ref (h0 + 1 + 0))).setSlot 1 (.ref (h0 + 1 + 1))).setSlot 2 (.ref (h0 + 1 + 2))).setSlot 3 (.ref (h0 + 1 + 3)) = _
  rw [arrV_new, arrV_store, arrV_store, arrV_store, arrV_store]
  rfl
abbrev c40 : AC := .inl (0, 40, .inl (fun _ => 0))
abbrev cGr (o : Nat) : AC := .inl (3, 4, .inr (.inr (.inr (.inr (fun i => if i < 4 then some (o + 1 + i) else none)))))
end AWM
end
section
/-! new int[4][40] -/
theorem kx_str1 : "[" ++ (FieldType.array .int).toString = "[[I" := by decide +kernel
theorem kx_str2 : (FieldType.array .int).toString = "[" ++ FieldType.int.toString := by decide +kernel
theorem aw_mna {M : MI} {d mc ms : Nat} {Q : QT} {k n : Nat} {pc : Nat} {L : List (Option Value)} {st : List Value} {h : List AC} {ix : Nat} (w1 : Cond.classLink M.1.cls ix "[[I" ∈ ktbl) (hd : decode M.2.1 pc = .ok (.multianewarray ix 2, 4)) (hf : k + 5 ≤ mc ∧ n + 164 ≤ ms)
    (kk : AW M true d mc ms Q (k + 5) (n + 164) (pc + 4) L (.ref h.length :: st) (h ++ [cGr h.length, c40, c40, c40, c40])) : AW M true d mc ms Q k n pc L (.int 40 :: .int 4 :: st) h :=
  fun p l e s m args below meth c b D κ N0 H locs ls C X => by
    have hn4 : (4 : Int32).toNatClampNeg = 4 := by decide
    have hn40 : (40 : Int32).toNatClampNeg = 40 := by decide
    intro T hT Xs
    obtain ⟨vm₁, cA, comp, -, fA, fC, -, -, X', step⟩ := Xs.multianewarray2F (ty := .int) (n := 4) (k := 40) C.1 C.2.2.2.1 (by rw [kx_str1]; exact C.2.2.2.2.1 _ w1) (C.2.2.2.2.1 _ kx_aoa) (C.2.2.2.2.1 _ kx_ai) (g := F0 m pc ls (.int 40 :: .int 4 :: st.map (rv b))) rfl (by rw [C.2.1]; exact hd) rfl (by decide) (by decide) (by rw [hn4]; decide) (by rw [hn40]; decide) (by rw [hn40]; decide) rfl rfl (by rw [hn4]; exact hf.1) (by rw [hn4, hn40]; exact hf.2)
    have hkA : cA = κ 3 := Option.some.inj (fA.symm.trans (C.2.2.2.2.2.2.2.2.1.2 3 _ rfl).2)
    have hkC : comp = κ 0 := by
      rw [kx_str2] at fC
      exact Option.some.inj (fC.symm.trans (C.2.2.2.2.2.2.2.2.1.2 0 _ rfl).2)
    subst hkA
    subst hkC
    rw [hn4, hn40] at X' step
    have hTh : (T.setVm vm₁).heap = H := hT
    generalize hF : Jvm.Free.Multi.fill (T.setVm vm₁) (κ 3) (κ 0) 4 40 (defaultValue .int) 4 = F at X' step
    obtain ⟨f1, f2, -, -⟩ := Jvm.Free.Multi.fill_facts (T.setVm vm₁) (κ 3) (κ 0) 4 40 (defaultValue .int) 4
    rw [hF, hTh] at f1 f2
    have hold : ∀ x : Nat, x < H.size → F.heap[x]? = H[x]? := fun x hx => by
      have := Jvm.Free.Multi.fill_old (T.setVm vm₁) (κ 3) (κ 0) 4 40 (defaultValue .int) (a := x) (by rw [hTh]; exact hx) 4
      rw [hF, hTh] at this
      exact this
    have hrow : ∀ j : Nat, j < 4 → F.heap[H.size + 1 + j]? = some (vp_cell (κ 0) (40, .inl (fun _ => 0))) := fun j hj => by
      have := Jvm.Free.Multi.fill_inner (T.setVm vm₁) (κ 3) (κ 0) 4 40 (defaultValue .int) 4 j hj
      rw [hF, hTh] at this
      rw [this]
      show some ({ cls := κ 0, slots := Array.replicate 40 (.int 0), vm := .none } : Cell) = _
      rw [arrV_new]
      rfl
    rw [mna_outer] at f2
    have hsz := X.2.2.1 rfl
    have DX1 : DX M true s b D κ N0 L (h ++ [cGr h.length, c40, c40, c40, c40]) F.heap locs ls := by
      refine ⟨fun q => (by cases q), ?_, fun _ => ?_, ⟨?_, fun x h1 h2 => (hold x (Nat.lt_of_lt_of_le h1 X.2.2.2.1.1)).trans (X.2.2.2.1.2.1 x h1 h2), X.2.2.2.1.2.2⟩, X.2.2.2.2⟩
      · intro i q hq
        obtain ⟨c9, hc9, rfl⟩ := wso_of hq
        by_cases hi : i < h.length
        · rw [List.getElem?_append_left hi] at hc9
          have h2 := X.2.1 _ _ (wso_at (b := b) (κ := κ) hc9)
          exact h2.kept (hold _ h2.lt)
        · rw [List.getElem?_append_right (by omega)] at hc9
          have hlt := (List.getElem?_eq_some_iff.mp hc9).1
          simp only [List.length_cons, List.length_nil] at hlt
          generalize hj : i - h.length = j at hc9 hlt
          have hij : i = h.length + j := by omega
          subst hij
          match j, hlt, hc9 with
          | 0, _, hc9 =>
            cases hc9
            show F.heap[b + (h.length + 0)]? = some (vp_cell (κ 3) (4, .inr (.inr (.inr (.inr (fun q => (if q < 4 then some (h.length + 1 + q) else none).map (b + ·)))))))
            rw [show b + (h.length + 0) = H.size by omega, f2, vp_cell_q, hsz]
            congr 2
            funext q
            by_cases hq4 : q < 4
            · rw [if_pos hq4, if_pos hq4]; exact congrArg Value.ref (show b + h.length + 1 + q = b + (h.length + 1 + q) by omega)
            · rw [if_neg hq4, if_neg hq4]; rfl
          | 1, _, hc9 => cases hc9; show F.heap[b + (h.length + 1)]? = _; rw [show b + (h.length + 1) = H.size + 1 + 0 by omega]; exact hrow 0 (by decide)
          | 2, _, hc9 => cases hc9; show F.heap[b + (h.length + 2)]? = _; rw [show b + (h.length + 2) = H.size + 1 + 1 by omega]; exact hrow 1 (by decide)
          | 3, _, hc9 => cases hc9; show F.heap[b + (h.length + 3)]? = _; rw [show b + (h.length + 3) = H.size + 1 + 2 by omega]; exact hrow 2 (by decide)
          | 4, _, hc9 => cases hc9; show F.heap[b + (h.length + 4)]? = _; rw [show b + (h.length + 4) = H.size + 1 + 3 by omega]; exact hrow 3 (by decide)
          | j + 5, hlt, _ => omega
      · rw [f1, hsz]; simp; omega
      · rw [f1]; have := X.2.2.2.1.1; omega
    obtain ⟨t, a1, b1⟩ := kk p l e s m args below meth c b D κ N0 F.heap locs ls C DX1 F rfl X'
    refine ⟨t, step t ?_, b1⟩
    have e1 : T.heap.size = b + h.length := by rw [hT]; exact hsz
    rw [e1]
    exact a1
end
section
theorem dE_init_0 : decode kE_init.2.1 0 = .ok (.aload_n 0, 1) := by decide +kernel
theorem dE_init_1 : decode kE_init.2.1 1 = .ok (.invokespecial 1, 3) := by decide +kernel
theorem dE_init_4 : decode kE_init.2.1 4 = .ok (.aload_n 0, 1) := by decide +kernel
theorem dE_init_5 : decode kE_init.2.1 5 = .ok (.iconst 4, 1) := by decide +kernel
theorem dE_init_6 : decode kE_init.2.1 6 = .ok (.anewarray 9, 3) := by decide +kernel
theorem dE_init_9 : decode kE_init.2.1 9 = .ok (.putfield 11, 3) := by decide +kernel
theorem dE_init_12 : decode kE_init.2.1 12 = .ok (.iconst 0, 1) := by decide +kernel
theorem dE_init_13 : decode kE_init.2.1 13 = .ok (.istore_n 1, 1) := by decide +kernel
theorem dE_init_14 : decode kE_init.2.1 14 = .ok (.iload_n 1, 1) := by decide +kernel
theorem dE_init_15 : decode kE_init.2.1 15 = .ok (.iconst 4, 1) := by decide +kernel
theorem dE_init_16 : decode kE_init.2.1 16 = .ok (.if_icmp .ge 22, 3) := by decide +kernel
theorem dE_init_19 : decode kE_init.2.1 19 = .ok (.aload_n 0, 1) := by decide +kernel
theorem dE_init_20 : decode kE_init.2.1 20 = .ok (.getfield 11, 3) := by decide +kernel
theorem dE_init_23 : decode kE_init.2.1 23 = .ok (.iload_n 1, 1) := by decide +kernel
theorem dE_init_24 : decode kE_init.2.1 24 = .ok (.new 9, 3) := by decide +kernel
theorem dE_init_27 : decode kE_init.2.1 27 = .ok (.dup, 1) := by decide +kernel
theorem dE_init_28 : decode kE_init.2.1 28 = .ok (.invokespecial 15, 3) := by decide +kernel
theorem dE_init_31 : decode kE_init.2.1 31 = .ok (.aastore, 1) := by decide +kernel
theorem dE_init_32 : decode kE_init.2.1 32 = .ok (.iinc 1 1, 3) := by decide +kernel
theorem dE_init_35 : decode kE_init.2.1 35 = .ok (.goto (-21), 3) := by decide +kernel
theorem dE_init_38 : decode kE_init.2.1 38 = .ok (.aload_n 0, 1) := by decide +kernel
theorem dE_init_39 : decode kE_init.2.1 39 = .ok (.new 16, 3) := by decide +kernel
theorem dE_init_42 : decode kE_init.2.1 42 = .ok (.dup, 1) := by decide +kernel
theorem dE_init_43 : decode kE_init.2.1 43 = .ok (.invokespecial 18, 3) := by decide +kernel
theorem dE_init_46 : decode kE_init.2.1 46 = .ok (.putfield 19, 3) := by decide +kernel
theorem dE_init_49 : decode kE_init.2.1 49 = .ok (.aload_n 0, 1) := by decide +kernel
theorem dE_init_50 : decode kE_init.2.1 50 = .ok (.new 23, 3) := by decide +kernel
theorem dE_init_53 : decode kE_init.2.1 53 = .ok (.dup, 1) := by decide +kernel
theorem dE_init_54 : decode kE_init.2.1 54 = .ok (.invokespecial 25, 3) := by decide +kernel
theorem dE_init_57 : decode kE_init.2.1 57 = .ok (.putfield 26, 3) := by decide +kernel
theorem dE_init_60 : decode kE_init.2.1 60 = .ok (.aload_n 0, 1) := by decide +kernel
theorem dE_init_61 : decode kE_init.2.1 61 = .ok (.new 30, 3) := by decide +kernel
theorem dE_init_64 : decode kE_init.2.1 64 = .ok (.dup, 1) := by decide +kernel
theorem dE_init_65 : decode kE_init.2.1 65 = .ok (.invokespecial 32, 3) := by decide +kernel
theorem dE_init_68 : decode kE_init.2.1 68 = .ok (.putfield 33, 3) := by decide +kernel
theorem dE_init_71 : decode kE_init.2.1 71 = .ok (.aload_n 0, 1) := by decide +kernel
theorem dE_init_72 : decode kE_init.2.1 72 = .ok (.bipush 40, 2) := by decide +kernel
theorem dE_init_74 : decode kE_init.2.1 74 = .ok (.newarray .boolean, 2) := by decide +kernel
theorem dE_init_76 : decode kE_init.2.1 76 = .ok (.putfield 37, 3) := by decide +kernel
theorem dE_init_79 : decode kE_init.2.1 79 = .ok (.aload_n 0, 1) := by decide +kernel
theorem dE_init_80 : decode kE_init.2.1 80 = .ok (.bipush 10, 2) := by decide +kernel
theorem dE_init_82 : decode kE_init.2.1 82 = .ok (.putfield 41, 3) := by decide +kernel
theorem dE_init_85 : decode kE_init.2.1 85 = .ok (.aload_n 0, 1) := by decide +kernel
theorem dE_init_86 : decode kE_init.2.1 86 = .ok (.iconst 0, 1) := by decide +kernel
theorem dE_init_87 : decode kE_init.2.1 87 = .ok (.putfield 45, 3) := by decide +kernel
theorem dE_init_90 : decode kE_init.2.1 90 = .ok (.aload_n 0, 1) := by decide +kernel
theorem dE_init_91 : decode kE_init.2.1 91 = .ok (.iconst 3, 1) := by decide +kernel
theorem dE_init_92 : decode kE_init.2.1 92 = .ok (.putfield 48, 3) := by decide +kernel
theorem dE_init_95 : decode kE_init.2.1 95 = .ok (.aload_n 0, 1) := by decide +kernel
theorem dE_init_96 : decode kE_init.2.1 96 = .ok (.iconst 1, 1) := by decide +kernel
theorem dE_init_97 : decode kE_init.2.1 97 = .ok (.putfield 51, 3) := by decide +kernel
theorem dE_init_100 : decode kE_init.2.1 100 = .ok (.aload_n 0, 1) := by decide +kernel
theorem dE_init_101 : decode kE_init.2.1 101 = .ok (.iconst (-1), 1) := by decide +kernel
theorem dE_init_102 : decode kE_init.2.1 102 = .ok (.putfield 54, 3) := by decide +kernel
theorem dE_init_105 : decode kE_init.2.1 105 = .ok (.aload_n 0, 1) := by decide +kernel
theorem dE_init_106 : decode kE_init.2.1 106 = .ok (.iconst 0, 1) := by decide +kernel
theorem dE_init_107 : decode kE_init.2.1 107 = .ok (.putfield 57, 3) := by decide +kernel
theorem dE_init_110 : decode kE_init.2.1 110 = .ok (.return_, 1) := by decide +kernel
theorem dE_value_0 : decode kE_value.2.1 0 = .ok (.aload_n 0, 1) := by decide +kernel
theorem dE_value_1 : decode kE_value.2.1 1 = .ok (.iload_n 1, 1) := by decide +kernel
theorem dE_value_2 : decode kE_value.2.1 2 = .ok (.invokevirtual 60, 3) := by decide +kernel
theorem dE_value_5 : decode kE_value.2.1 5 = .ok (.astore_n 3, 1) := by decide +kernel
theorem dE_value_6 : decode kE_value.2.1 6 = .ok (.aload_n 3, 1) := by decide +kernel
theorem dE_value_7 : decode kE_value.2.1 7 = .ok (.ifnull 10, 3) := by decide +kernel
theorem dE_value_10 : decode kE_value.2.1 10 = .ok (.iload_n 2, 1) := by decide +kernel
theorem dE_value_11 : decode kE_value.2.1 11 = .ok (.invokestatic 64, 3) := by decide +kernel
theorem dE_value_14 : decode kE_value.2.1 14 = .ok (.ifCond .ne 7, 3) := by decide +kernel
theorem dE_value_17 : decode kE_value.2.1 17 = .ok (.iconst (-1), 1) := by decide +kernel
theorem dE_value_18 : decode kE_value.2.1 18 = .ok (.goto 8, 3) := by decide +kernel
theorem dE_value_21 : decode kE_value.2.1 21 = .ok (.aload_n 3, 1) := by decide +kernel
theorem dE_value_22 : decode kE_value.2.1 22 = .ok (.iload_n 2, 1) := by decide +kernel
theorem dE_value_23 : decode kE_value.2.1 23 = .ok (.invokevirtual 68, 3) := by decide +kernel
theorem dE_value_26 : decode kE_value.2.1 26 = .ok (.ireturn, 1) := by decide +kernel
theorem dE_gap_0 : decode kE_gap.2.1 0 = .ok (.aload_n 0, 1) := by decide +kernel
theorem dE_gap_1 : decode kE_gap.2.1 1 = .ok (.iload_n 1, 1) := by decide +kernel
theorem dE_gap_2 : decode kE_gap.2.1 2 = .ok (.invokevirtual 60, 3) := by decide +kernel
theorem dE_gap_5 : decode kE_gap.2.1 5 = .ok (.astore_n 2, 1) := by decide +kernel
theorem dE_gap_6 : decode kE_gap.2.1 6 = .ok (.aload_n 2, 1) := by decide +kernel
theorem dE_gap_7 : decode kE_gap.2.1 7 = .ok (.ifnonnull 7, 3) := by decide +kernel
theorem dE_gap_10 : decode kE_gap.2.1 10 = .ok (.iconst (-1), 1) := by decide +kernel
theorem dE_gap_11 : decode kE_gap.2.1 11 = .ok (.goto 10, 3) := by decide +kernel
theorem dE_gap_14 : decode kE_gap.2.1 14 = .ok (.aload_n 2, 1) := by decide +kernel
theorem dE_gap_15 : decode kE_gap.2.1 15 = .ok (.sipush (-5000), 3) := by decide +kernel
theorem dE_gap_18 : decode kE_gap.2.1 18 = .ok (.invokevirtual 68, 3) := by decide +kernel
theorem dE_gap_21 : decode kE_gap.2.1 21 = .ok (.ireturn, 1) := by decide +kernel
theorem dE_put_0 : decode kE_put.2.1 0 = .ok (.aload_n 0, 1) := by decide +kernel
theorem dE_put_1 : decode kE_put.2.1 1 = .ok (.iload_n 1, 1) := by decide +kernel
theorem dE_put_2 : decode kE_put.2.1 2 = .ok (.invokevirtual 60, 3) := by decide +kernel
theorem dE_put_5 : decode kE_put.2.1 5 = .ok (.astore 4, 2) := by decide +kernel
theorem dE_put_7 : decode kE_put.2.1 7 = .ok (.aload 4, 2) := by decide +kernel
theorem dE_put_9 : decode kE_put.2.1 9 = .ok (.ifnull 19, 3) := by decide +kernel
theorem dE_put_12 : decode kE_put.2.1 12 = .ok (.aload 4, 2) := by decide +kernel
theorem dE_put_14 : decode kE_put.2.1 14 = .ok (.iload_n 2, 1) := by decide +kernel
theorem dE_put_15 : decode kE_put.2.1 15 = .ok (.invokevirtual 72, 3) := by decide +kernel
theorem dE_put_18 : decode kE_put.2.1 18 = .ok (.ifCond .eq 10, 3) := by decide +kernel
theorem dE_put_21 : decode kE_put.2.1 21 = .ok (.iload_n 3, 1) := by decide +kernel
theorem dE_put_22 : decode kE_put.2.1 22 = .ok (.invokestatic 64, 3) := by decide +kernel
theorem dE_put_25 : decode kE_put.2.1 25 = .ok (.ifCond .ne 5, 3) := by decide +kernel
theorem dE_put_28 : decode kE_put.2.1 28 = .ok (.iconst 0, 1) := by decide +kernel
theorem dE_put_29 : decode kE_put.2.1 29 = .ok (.ireturn, 1) := by decide +kernel
theorem dE_put_30 : decode kE_put.2.1 30 = .ok (.aload 4, 2) := by decide +kernel
theorem dE_put_32 : decode kE_put.2.1 32 = .ok (.getfield 75, 3) := by decide +kernel
theorem dE_put_35 : decode kE_put.2.1 35 = .ok (.iload_n 2, 1) := by decide +kernel
theorem dE_put_36 : decode kE_put.2.1 36 = .ok (.iload_n 3, 1) := by decide +kernel
theorem dE_put_37 : decode kE_put.2.1 37 = .ok (.iastore, 1) := by decide +kernel
theorem dE_put_38 : decode kE_put.2.1 38 = .ok (.iconst 1, 1) := by decide +kernel
theorem dE_put_39 : decode kE_put.2.1 39 = .ok (.ireturn, 1) := by decide +kernel
theorem dE_clear_0 : decode kE_clear.2.1 0 = .ok (.aload_n 0, 1) := by decide +kernel
theorem dE_clear_1 : decode kE_clear.2.1 1 = .ok (.iload_n 1, 1) := by decide +kernel
theorem dE_clear_2 : decode kE_clear.2.1 2 = .ok (.invokevirtual 60, 3) := by decide +kernel
theorem dE_clear_5 : decode kE_clear.2.1 5 = .ok (.astore_n 2, 1) := by decide +kernel
theorem dE_clear_6 : decode kE_clear.2.1 6 = .ok (.aload_n 2, 1) := by decide +kernel
theorem dE_clear_7 : decode kE_clear.2.1 7 = .ok (.ifnonnull 5, 3) := by decide +kernel
theorem dE_clear_10 : decode kE_clear.2.1 10 = .ok (.iconst (-1), 1) := by decide +kernel
theorem dE_clear_11 : decode kE_clear.2.1 11 = .ok (.ireturn, 1) := by decide +kernel
theorem dE_clear_12 : decode kE_clear.2.1 12 = .ok (.aload_n 2, 1) := by decide +kernel
theorem dE_clear_13 : decode kE_clear.2.1 13 = .ok (.getfield 79, 3) := by decide +kernel
theorem dE_clear_16 : decode kE_clear.2.1 16 = .ok (.istore_n 3, 1) := by decide +kernel
theorem dE_clear_17 : decode kE_clear.2.1 17 = .ok (.aload_n 2, 1) := by decide +kernel
theorem dE_clear_18 : decode kE_clear.2.1 18 = .ok (.iconst 0, 1) := by decide +kernel
theorem dE_clear_19 : decode kE_clear.2.1 19 = .ok (.putfield 79, 3) := by decide +kernel
theorem dE_clear_22 : decode kE_clear.2.1 22 = .ok (.aload_n 0, 1) := by decide +kernel
theorem dE_clear_23 : decode kE_clear.2.1 23 = .ok (.getfield 54, 3) := by decide +kernel
theorem dE_clear_26 : decode kE_clear.2.1 26 = .ok (.iload_n 1, 1) := by decide +kernel
theorem dE_clear_27 : decode kE_clear.2.1 27 = .ok (.if_icmp .ne 8, 3) := by decide +kernel
theorem dE_clear_30 : decode kE_clear.2.1 30 = .ok (.aload_n 0, 1) := by decide +kernel
theorem dE_clear_31 : decode kE_clear.2.1 31 = .ok (.iconst (-1), 1) := by decide +kernel
theorem dE_clear_32 : decode kE_clear.2.1 32 = .ok (.putfield 54, 3) := by decide +kernel
theorem dE_clear_35 : decode kE_clear.2.1 35 = .ok (.iload_n 3, 1) := by decide +kernel
theorem dE_clear_36 : decode kE_clear.2.1 36 = .ok (.ireturn, 1) := by decide +kernel
theorem dE_miss_0 : decode kE_miss.2.1 0 = .ok (.aload_n 0, 1) := by decide +kernel
theorem dE_miss_1 : decode kE_miss.2.1 1 = .ok (.iload_n 1, 1) := by decide +kernel
theorem dE_miss_2 : decode kE_miss.2.1 2 = .ok (.invokevirtual 60, 3) := by decide +kernel
theorem dE_miss_5 : decode kE_miss.2.1 5 = .ok (.astore_n 3, 1) := by decide +kernel
theorem dE_miss_6 : decode kE_miss.2.1 6 = .ok (.aload_n 3, 1) := by decide +kernel
theorem dE_miss_7 : decode kE_miss.2.1 7 = .ok (.ifnull 14, 3) := by decide +kernel
theorem dE_miss_10 : decode kE_miss.2.1 10 = .ok (.iload_n 2, 1) := by decide +kernel
theorem dE_miss_11 : decode kE_miss.2.1 11 = .ok (.iconst 0, 1) := by decide +kernel
theorem dE_miss_12 : decode kE_miss.2.1 12 = .ok (.sipush 200, 3) := by decide +kernel
theorem dE_miss_15 : decode kE_miss.2.1 15 = .ok (.invokestatic 82, 3) := by decide +kernel
theorem dE_miss_18 : decode kE_miss.2.1 18 = .ok (.ifCond .ne 5, 3) := by decide +kernel
theorem dE_miss_21 : decode kE_miss.2.1 21 = .ok (.iconst (-1), 1) := by decide +kernel
theorem dE_miss_22 : decode kE_miss.2.1 22 = .ok (.ireturn, 1) := by decide +kernel
theorem dE_miss_23 : decode kE_miss.2.1 23 = .ok (.aload_n 3, 1) := by decide +kernel
theorem dE_miss_24 : decode kE_miss.2.1 24 = .ok (.getfield 86, 3) := by decide +kernel
theorem dE_miss_27 : decode kE_miss.2.1 27 = .ok (.istore 4, 2) := by decide +kernel
theorem dE_miss_29 : decode kE_miss.2.1 29 = .ok (.aload_n 3, 1) := by decide +kernel
theorem dE_miss_30 : decode kE_miss.2.1 30 = .ok (.iload_n 2, 1) := by decide +kernel
theorem dE_miss_31 : decode kE_miss.2.1 31 = .ok (.putfield 86, 3) := by decide +kernel
theorem dE_miss_34 : decode kE_miss.2.1 34 = .ok (.iload 4, 2) := by decide +kernel
theorem dE_miss_36 : decode kE_miss.2.1 36 = .ok (.ireturn, 1) := by decide +kernel
theorem dE_part_0 : decode kE_part.2.1 0 = .ok (.iload_n 1, 1) := by decide +kernel
theorem dE_part_1 : decode kE_part.2.1 1 = .ok (.iconst 0, 1) := by decide +kernel
theorem dE_part_2 : decode kE_part.2.1 2 = .ok (.sipush 10000, 3) := by decide +kernel
theorem dE_part_5 : decode kE_part.2.1 5 = .ok (.invokestatic 82, 3) := by decide +kernel
theorem dE_part_8 : decode kE_part.2.1 8 = .ok (.ifCond .ne 5, 3) := by decide +kernel
theorem dE_part_11 : decode kE_part.2.1 11 = .ok (.iconst (-1), 1) := by decide +kernel
theorem dE_part_12 : decode kE_part.2.1 12 = .ok (.ireturn, 1) := by decide +kernel
theorem dE_part_13 : decode kE_part.2.1 13 = .ok (.aload_n 0, 1) := by decide +kernel
theorem dE_part_14 : decode kE_part.2.1 14 = .ok (.getfield 41, 3) := by decide +kernel
theorem dE_part_17 : decode kE_part.2.1 17 = .ok (.istore_n 2, 1) := by decide +kernel
theorem dE_part_18 : decode kE_part.2.1 18 = .ok (.aload_n 0, 1) := by decide +kernel
theorem dE_part_19 : decode kE_part.2.1 19 = .ok (.iload_n 1, 1) := by decide +kernel
theorem dE_part_20 : decode kE_part.2.1 20 = .ok (.putfield 41, 3) := by decide +kernel
theorem dE_part_23 : decode kE_part.2.1 23 = .ok (.iload_n 2, 1) := by decide +kernel
theorem dE_part_24 : decode kE_part.2.1 24 = .ok (.ireturn, 1) := by decide +kernel
theorem dE_at_0 : decode kE_at.2.1 0 = .ok (.aload_n 0, 1) := by decide +kernel
theorem dE_at_1 : decode kE_at.2.1 1 = .ok (.iload_n 1, 1) := by decide +kernel
theorem dE_at_2 : decode kE_at.2.1 2 = .ok (.invokevirtual 60, 3) := by decide +kernel
theorem dE_at_5 : decode kE_at.2.1 5 = .ok (.astore_n 3, 1) := by decide +kernel
theorem dE_at_6 : decode kE_at.2.1 6 = .ok (.aload_n 3, 1) := by decide +kernel
theorem dE_at_7 : decode kE_at.2.1 7 = .ok (.ifnull 11, 3) := by decide +kernel
theorem dE_at_10 : decode kE_at.2.1 10 = .ok (.aload_n 3, 1) := by decide +kernel
theorem dE_at_11 : decode kE_at.2.1 11 = .ok (.iload_n 2, 1) := by decide +kernel
theorem dE_at_12 : decode kE_at.2.1 12 = .ok (.invokevirtual 72, 3) := by decide +kernel
theorem dE_at_15 : decode kE_at.2.1 15 = .ok (.ifCond .ne 9, 3) := by decide +kernel
theorem dE_at_18 : decode kE_at.2.1 18 = .ok (.sipush (-6000), 3) := by decide +kernel
theorem dE_at_21 : decode kE_at.2.1 21 = .ok (.goto 9, 3) := by decide +kernel
theorem dE_at_24 : decode kE_at.2.1 24 = .ok (.aload_n 3, 1) := by decide +kernel
theorem dE_at_25 : decode kE_at.2.1 25 = .ok (.getfield 75, 3) := by decide +kernel
theorem dE_at_28 : decode kE_at.2.1 28 = .ok (.iload_n 2, 1) := by decide +kernel
theorem dE_at_29 : decode kE_at.2.1 29 = .ok (.iaload, 1) := by decide +kernel
theorem dE_at_30 : decode kE_at.2.1 30 = .ok (.ireturn, 1) := by decide +kernel
theorem dE_spans_0 : decode kE_spans.2.1 0 = .ok (.aload_n 0, 1) := by decide +kernel
theorem dE_spans_1 : decode kE_spans.2.1 1 = .ok (.iload_n 1, 1) := by decide +kernel
theorem dE_spans_2 : decode kE_spans.2.1 2 = .ok (.invokevirtual 89, 3) := by decide +kernel
theorem dE_spans_5 : decode kE_spans.2.1 5 = .ok (.ifCond .eq 13, 3) := by decide +kernel
theorem dE_spans_8 : decode kE_spans.2.1 8 = .ok (.aload_n 0, 1) := by decide +kernel
theorem dE_spans_9 : decode kE_spans.2.1 9 = .ok (.getfield 19, 3) := by decide +kernel
theorem dE_spans_12 : decode kE_spans.2.1 12 = .ok (.getfield 92, 3) := by decide +kernel
theorem dE_spans_15 : decode kE_spans.2.1 15 = .ok (.goto 4, 3) := by decide +kernel
theorem dE_spans_18 : decode kE_spans.2.1 18 = .ok (.iconst (-1), 1) := by decide +kernel
theorem dE_spans_19 : decode kE_spans.2.1 19 = .ok (.ireturn, 1) := by decide +kernel
theorem dE_cost_0 : decode kE_cost.2.1 0 = .ok (.aload_n 0, 1) := by decide +kernel
theorem dE_cost_1 : decode kE_cost.2.1 1 = .ok (.iload_n 1, 1) := by decide +kernel
theorem dE_cost_2 : decode kE_cost.2.1 2 = .ok (.invokevirtual 89, 3) := by decide +kernel
theorem dE_cost_5 : decode kE_cost.2.1 5 = .ok (.ifCond .eq 13, 3) := by decide +kernel
theorem dE_cost_8 : decode kE_cost.2.1 8 = .ok (.aload_n 0, 1) := by decide +kernel
theorem dE_cost_9 : decode kE_cost.2.1 9 = .ok (.getfield 19, 3) := by decide +kernel
theorem dE_cost_12 : decode kE_cost.2.1 12 = .ok (.getfield 95, 3) := by decide +kernel
theorem dE_cost_15 : decode kE_cost.2.1 15 = .ok (.goto 4, 3) := by decide +kernel
theorem dE_cost_18 : decode kE_cost.2.1 18 = .ok (.iconst (-1), 1) := by decide +kernel
theorem dE_cost_19 : decode kE_cost.2.1 19 = .ok (.ireturn, 1) := by decide +kernel
theorem dE_span_0 : decode kE_span.2.1 0 = .ok (.aload_n 0, 1) := by decide +kernel
theorem dE_span_1 : decode kE_span.2.1 1 = .ok (.iload_n 1, 1) := by decide +kernel
theorem dE_span_2 : decode kE_span.2.1 2 = .ok (.invokevirtual 89, 3) := by decide +kernel
theorem dE_span_5 : decode kE_span.2.1 5 = .ok (.ifCond .eq 14, 3) := by decide +kernel
theorem dE_span_8 : decode kE_span.2.1 8 = .ok (.aload_n 0, 1) := by decide +kernel
theorem dE_span_9 : decode kE_span.2.1 9 = .ok (.getfield 19, 3) := by decide +kernel
theorem dE_span_12 : decode kE_span.2.1 12 = .ok (.iload_n 2, 1) := by decide +kernel
theorem dE_span_13 : decode kE_span.2.1 13 = .ok (.invokevirtual 98, 3) := by decide +kernel
theorem dE_span_16 : decode kE_span.2.1 16 = .ok (.ifCond .ne 5, 3) := by decide +kernel
theorem dE_span_19 : decode kE_span.2.1 19 = .ok (.iconst (-1), 1) := by decide +kernel
theorem dE_span_20 : decode kE_span.2.1 20 = .ok (.ireturn, 1) := by decide +kernel
theorem dE_span_21 : decode kE_span.2.1 21 = .ok (.iload_n 3, 1) := by decide +kernel
theorem dE_span_22 : decode kE_span.2.1 22 = .ok (.tableswitch 55 0 2 #[26, 35, 45], 26) := by decide +kernel
theorem dE_span_48 : decode kE_span.2.1 48 = .ok (.aload_n 0, 1) := by decide +kernel
theorem dE_span_49 : decode kE_span.2.1 49 = .ok (.getfield 19, 3) := by decide +kernel
theorem dE_span_52 : decode kE_span.2.1 52 = .ok (.iload_n 2, 1) := by decide +kernel
theorem dE_span_53 : decode kE_span.2.1 53 = .ok (.invokevirtual 101, 3) := by decide +kernel
theorem dE_span_56 : decode kE_span.2.1 56 = .ok (.ireturn, 1) := by decide +kernel
theorem dE_span_57 : decode kE_span.2.1 57 = .ok (.aload_n 0, 1) := by decide +kernel
theorem dE_span_58 : decode kE_span.2.1 58 = .ok (.getfield 19, 3) := by decide +kernel
theorem dE_span_61 : decode kE_span.2.1 61 = .ok (.getfield 104, 3) := by decide +kernel
theorem dE_span_64 : decode kE_span.2.1 64 = .ok (.iload_n 2, 1) := by decide +kernel
theorem dE_span_65 : decode kE_span.2.1 65 = .ok (.iaload, 1) := by decide +kernel
theorem dE_span_66 : decode kE_span.2.1 66 = .ok (.ireturn, 1) := by decide +kernel
theorem dE_span_67 : decode kE_span.2.1 67 = .ok (.aload_n 0, 1) := by decide +kernel
theorem dE_span_68 : decode kE_span.2.1 68 = .ok (.getfield 19, 3) := by decide +kernel
theorem dE_span_71 : decode kE_span.2.1 71 = .ok (.getfield 107, 3) := by decide +kernel
theorem dE_span_74 : decode kE_span.2.1 74 = .ok (.iload_n 2, 1) := by decide +kernel
theorem dE_span_75 : decode kE_span.2.1 75 = .ok (.iaload, 1) := by decide +kernel
theorem dE_span_76 : decode kE_span.2.1 76 = .ok (.ireturn, 1) := by decide +kernel
theorem dE_span_77 : decode kE_span.2.1 77 = .ok (.iconst (-1), 1) := by decide +kernel
theorem dE_span_78 : decode kE_span.2.1 78 = .ok (.ireturn, 1) := by decide +kernel
theorem dE_kind_0 : decode kE_kind.2.1 0 = .ok (.iload_n 2, 1) := by decide +kernel
theorem dE_kind_1 : decode kE_kind.2.1 1 = .ok (.iconst 0, 1) := by decide +kernel
theorem dE_kind_2 : decode kE_kind.2.1 2 = .ok (.bipush 39, 2) := by decide +kernel
theorem dE_kind_4 : decode kE_kind.2.1 4 = .ok (.invokestatic 82, 3) := by decide +kernel
theorem dE_kind_7 : decode kE_kind.2.1 7 = .ok (.ifCond .eq 23, 3) := by decide +kernel
theorem dE_kind_10 : decode kE_kind.2.1 10 = .ok (.aload_n 0, 1) := by decide +kernel
theorem dE_kind_11 : decode kE_kind.2.1 11 = .ok (.iload_n 1, 1) := by decide +kernel
theorem dE_kind_12 : decode kE_kind.2.1 12 = .ok (.invokevirtual 89, 3) := by decide +kernel
theorem dE_kind_15 : decode kE_kind.2.1 15 = .ok (.ifCond .eq 15, 3) := by decide +kernel
theorem dE_kind_18 : decode kE_kind.2.1 18 = .ok (.aload_n 0, 1) := by decide +kernel
theorem dE_kind_19 : decode kE_kind.2.1 19 = .ok (.getfield 19, 3) := by decide +kernel
theorem dE_kind_22 : decode kE_kind.2.1 22 = .ok (.getfield 110, 3) := by decide +kernel
theorem dE_kind_25 : decode kE_kind.2.1 25 = .ok (.iload_n 2, 1) := by decide +kernel
theorem dE_kind_26 : decode kE_kind.2.1 26 = .ok (.iaload, 1) := by decide +kernel
theorem dE_kind_27 : decode kE_kind.2.1 27 = .ok (.goto 4, 3) := by decide +kernel
theorem dE_kind_30 : decode kE_kind.2.1 30 = .ok (.iconst 0, 1) := by decide +kernel
theorem dE_kind_31 : decode kE_kind.2.1 31 = .ok (.ireturn, 1) := by decide +kernel
theorem dE_turnsOf_0 : decode kE_turnsOf.2.1 0 = .ok (.aload_n 0, 1) := by decide +kernel
theorem dE_turnsOf_1 : decode kE_turnsOf.2.1 1 = .ok (.iload_n 1, 1) := by decide +kernel
theorem dE_turnsOf_2 : decode kE_turnsOf.2.1 2 = .ok (.invokevirtual 89, 3) := by decide +kernel
theorem dE_turnsOf_5 : decode kE_turnsOf.2.1 5 = .ok (.ifCond .eq 13, 3) := by decide +kernel
theorem dE_turnsOf_8 : decode kE_turnsOf.2.1 8 = .ok (.aload_n 0, 1) := by decide +kernel
theorem dE_turnsOf_9 : decode kE_turnsOf.2.1 9 = .ok (.getfield 19, 3) := by decide +kernel
theorem dE_turnsOf_12 : decode kE_turnsOf.2.1 12 = .ok (.getfield 113, 3) := by decide +kernel
theorem dE_turnsOf_15 : decode kE_turnsOf.2.1 15 = .ok (.goto 4, 3) := by decide +kernel
theorem dE_turnsOf_18 : decode kE_turnsOf.2.1 18 = .ok (.iconst (-1), 1) := by decide +kernel
theorem dE_turnsOf_19 : decode kE_turnsOf.2.1 19 = .ok (.ireturn, 1) := by decide +kernel
theorem dE_turn_0 : decode kE_turn.2.1 0 = .ok (.aload_n 0, 1) := by decide +kernel
theorem dE_turn_1 : decode kE_turn.2.1 1 = .ok (.iload_n 1, 1) := by decide +kernel
theorem dE_turn_2 : decode kE_turn.2.1 2 = .ok (.invokevirtual 89, 3) := by decide +kernel
theorem dE_turn_5 : decode kE_turn.2.1 5 = .ok (.ifCond .eq 32, 3) := by decide +kernel
theorem dE_turn_8 : decode kE_turn.2.1 8 = .ok (.iload_n 2, 1) := by decide +kernel
theorem dE_turn_9 : decode kE_turn.2.1 9 = .ok (.iconst 0, 1) := by decide +kernel
theorem dE_turn_10 : decode kE_turn.2.1 10 = .ok (.aload_n 0, 1) := by decide +kernel
theorem dE_turn_11 : decode kE_turn.2.1 11 = .ok (.getfield 19, 3) := by decide +kernel
theorem dE_turn_14 : decode kE_turn.2.1 14 = .ok (.getfield 113, 3) := by decide +kernel
theorem dE_turn_17 : decode kE_turn.2.1 17 = .ok (.iconst 1, 1) := by decide +kernel
theorem dE_turn_18 : decode kE_turn.2.1 18 = .ok (.isub, 1) := by decide +kernel
theorem dE_turn_19 : decode kE_turn.2.1 19 = .ok (.invokestatic 82, 3) := by decide +kernel
theorem dE_turn_22 : decode kE_turn.2.1 22 = .ok (.ifCond .eq 15, 3) := by decide +kernel
theorem dE_turn_25 : decode kE_turn.2.1 25 = .ok (.aload_n 0, 1) := by decide +kernel
theorem dE_turn_26 : decode kE_turn.2.1 26 = .ok (.getfield 19, 3) := by decide +kernel
theorem dE_turn_29 : decode kE_turn.2.1 29 = .ok (.getfield 116, 3) := by decide +kernel
theorem dE_turn_32 : decode kE_turn.2.1 32 = .ok (.iload_n 2, 1) := by decide +kernel
theorem dE_turn_33 : decode kE_turn.2.1 33 = .ok (.iaload, 1) := by decide +kernel
theorem dE_turn_34 : decode kE_turn.2.1 34 = .ok (.goto 4, 3) := by decide +kernel
theorem dE_turn_37 : decode kE_turn.2.1 37 = .ok (.iconst (-1), 1) := by decide +kernel
theorem dE_turn_38 : decode kE_turn.2.1 38 = .ok (.ireturn, 1) := by decide +kernel
theorem dE_sure_0 : decode kE_sure.2.1 0 = .ok (.iload_n 1, 1) := by decide +kernel
theorem dE_sure_1 : decode kE_sure.2.1 1 = .ok (.iload_n 2, 1) := by decide +kernel
theorem dE_sure_2 : decode kE_sure.2.1 2 = .ok (.invokestatic 119, 3) := by decide +kernel
theorem dE_sure_5 : decode kE_sure.2.1 5 = .ok (.ifCond .eq 22, 3) := by decide +kernel
theorem dE_sure_8 : decode kE_sure.2.1 8 = .ok (.aload_n 0, 1) := by decide +kernel
theorem dE_sure_9 : decode kE_sure.2.1 9 = .ok (.getfield 11, 3) := by decide +kernel
theorem dE_sure_12 : decode kE_sure.2.1 12 = .ok (.iload_n 1, 1) := by decide +kernel
theorem dE_sure_13 : decode kE_sure.2.1 13 = .ok (.aaload, 1) := by decide +kernel
theorem dE_sure_14 : decode kE_sure.2.1 14 = .ok (.aload_n 0, 1) := by decide +kernel
theorem dE_sure_15 : decode kE_sure.2.1 15 = .ok (.getfield 11, 3) := by decide +kernel
theorem dE_sure_18 : decode kE_sure.2.1 18 = .ok (.iload_n 2, 1) := by decide +kernel
theorem dE_sure_19 : decode kE_sure.2.1 19 = .ok (.aaload, 1) := by decide +kernel
theorem dE_sure_20 : decode kE_sure.2.1 20 = .ok (.iload_n 3, 1) := by decide +kernel
theorem dE_sure_21 : decode kE_sure.2.1 21 = .ok (.invokestatic 123, 3) := by decide +kernel
theorem dE_sure_24 : decode kE_sure.2.1 24 = .ok (.goto 5, 3) := by decide +kernel
theorem dE_sure_27 : decode kE_sure.2.1 27 = .ok (.bipush (-2), 2) := by decide +kernel
theorem dE_sure_29 : decode kE_sure.2.1 29 = .ok (.ireturn, 1) := by decide +kernel
theorem dE_crossings_0 : decode kE_crossings.2.1 0 = .ok (.aload_n 0, 1) := by decide +kernel
theorem dE_crossings_1 : decode kE_crossings.2.1 1 = .ok (.iload_n 1, 1) := by decide +kernel
theorem dE_crossings_2 : decode kE_crossings.2.1 2 = .ok (.iload_n 2, 1) := by decide +kernel
theorem dE_crossings_3 : decode kE_crossings.2.1 3 = .ok (.invokevirtual 127, 3) := by decide +kernel
theorem dE_crossings_6 : decode kE_crossings.2.1 6 = .ok (.ifCond .eq 13, 3) := by decide +kernel
theorem dE_crossings_9 : decode kE_crossings.2.1 9 = .ok (.aload_n 0, 1) := by decide +kernel
theorem dE_crossings_10 : decode kE_crossings.2.1 10 = .ok (.getfield 26, 3) := by decide +kernel
theorem dE_crossings_13 : decode kE_crossings.2.1 13 = .ok (.getfield 130, 3) := by decide +kernel
theorem dE_crossings_16 : decode kE_crossings.2.1 16 = .ok (.goto 4, 3) := by decide +kernel
theorem dE_crossings_19 : decode kE_crossings.2.1 19 = .ok (.iconst (-1), 1) := by decide +kernel
theorem dE_crossings_20 : decode kE_crossings.2.1 20 = .ok (.ireturn, 1) := by decide +kernel
theorem dE_crossing_0 : decode kE_crossing.2.1 0 = .ok (.aload_n 0, 1) := by decide +kernel
theorem dE_crossing_1 : decode kE_crossing.2.1 1 = .ok (.iload_n 1, 1) := by decide +kernel
theorem dE_crossing_2 : decode kE_crossing.2.1 2 = .ok (.iload_n 2, 1) := by decide +kernel
theorem dE_crossing_3 : decode kE_crossing.2.1 3 = .ok (.invokevirtual 127, 3) := by decide +kernel
theorem dE_crossing_6 : decode kE_crossing.2.1 6 = .ok (.ifCond .eq 32, 3) := by decide +kernel
theorem dE_crossing_9 : decode kE_crossing.2.1 9 = .ok (.iload_n 3, 1) := by decide +kernel
theorem dE_crossing_10 : decode kE_crossing.2.1 10 = .ok (.iconst 0, 1) := by decide +kernel
theorem dE_crossing_11 : decode kE_crossing.2.1 11 = .ok (.aload_n 0, 1) := by decide +kernel
theorem dE_crossing_12 : decode kE_crossing.2.1 12 = .ok (.getfield 26, 3) := by decide +kernel
theorem dE_crossing_15 : decode kE_crossing.2.1 15 = .ok (.getfield 130, 3) := by decide +kernel
theorem dE_crossing_18 : decode kE_crossing.2.1 18 = .ok (.iconst 1, 1) := by decide +kernel
theorem dE_crossing_19 : decode kE_crossing.2.1 19 = .ok (.isub, 1) := by decide +kernel
theorem dE_crossing_20 : decode kE_crossing.2.1 20 = .ok (.invokestatic 82, 3) := by decide +kernel
theorem dE_crossing_23 : decode kE_crossing.2.1 23 = .ok (.ifCond .eq 15, 3) := by decide +kernel
theorem dE_crossing_26 : decode kE_crossing.2.1 26 = .ok (.aload_n 0, 1) := by decide +kernel
theorem dE_crossing_27 : decode kE_crossing.2.1 27 = .ok (.getfield 26, 3) := by decide +kernel
theorem dE_crossing_30 : decode kE_crossing.2.1 30 = .ok (.getfield 131, 3) := by decide +kernel
theorem dE_crossing_33 : decode kE_crossing.2.1 33 = .ok (.iload_n 3, 1) := by decide +kernel
theorem dE_crossing_34 : decode kE_crossing.2.1 34 = .ok (.iaload, 1) := by decide +kernel
theorem dE_crossing_35 : decode kE_crossing.2.1 35 = .ok (.goto 4, 3) := by decide +kernel
theorem dE_crossing_38 : decode kE_crossing.2.1 38 = .ok (.iconst (-1), 1) := by decide +kernel
theorem dE_crossing_39 : decode kE_crossing.2.1 39 = .ok (.ireturn, 1) := by decide +kernel
theorem dE_scale_0 : decode kE_scale.2.1 0 = .ok (.iload_n 1, 1) := by decide +kernel
theorem dE_scale_1 : decode kE_scale.2.1 1 = .ok (.iconst 1, 1) := by decide +kernel
theorem dE_scale_2 : decode kE_scale.2.1 2 = .ok (.sipush 2000, 3) := by decide +kernel
theorem dE_scale_5 : decode kE_scale.2.1 5 = .ok (.invokestatic 82, 3) := by decide +kernel
theorem dE_scale_8 : decode kE_scale.2.1 8 = .ok (.ifCond .eq 13, 3) := by decide +kernel
theorem dE_scale_11 : decode kE_scale.2.1 11 = .ok (.iload_n 2, 1) := by decide +kernel
theorem dE_scale_12 : decode kE_scale.2.1 12 = .ok (.iconst 1, 1) := by decide +kernel
theorem dE_scale_13 : decode kE_scale.2.1 13 = .ok (.bipush 20, 2) := by decide +kernel
theorem dE_scale_15 : decode kE_scale.2.1 15 = .ok (.invokestatic 82, 3) := by decide +kernel
theorem dE_scale_18 : decode kE_scale.2.1 18 = .ok (.ifCond .ne 5, 3) := by decide +kernel
theorem dE_scale_21 : decode kE_scale.2.1 21 = .ok (.iconst (-1), 1) := by decide +kernel
theorem dE_scale_22 : decode kE_scale.2.1 22 = .ok (.ireturn, 1) := by decide +kernel
theorem dE_scale_23 : decode kE_scale.2.1 23 = .ok (.iload_n 1, 1) := by decide +kernel
theorem dE_scale_24 : decode kE_scale.2.1 24 = .ok (.iload_n 2, 1) := by decide +kernel
theorem dE_scale_25 : decode kE_scale.2.1 25 = .ok (.idiv, 1) := by decide +kernel
theorem dE_scale_26 : decode kE_scale.2.1 26 = .ok (.istore_n 3, 1) := by decide +kernel
theorem dE_scale_27 : decode kE_scale.2.1 27 = .ok (.aload_n 0, 1) := by decide +kernel
theorem dE_scale_28 : decode kE_scale.2.1 28 = .ok (.invokevirtual 134, 3) := by decide +kernel
theorem dE_scale_31 : decode kE_scale.2.1 31 = .ok (.istore 4, 2) := by decide +kernel
theorem dE_scale_33 : decode kE_scale.2.1 33 = .ok (.aload_n 0, 1) := by decide +kernel
theorem dE_scale_34 : decode kE_scale.2.1 34 = .ok (.invokevirtual 138, 3) := by decide +kernel
theorem dE_scale_37 : decode kE_scale.2.1 37 = .ok (.istore 5, 2) := by decide +kernel
theorem dE_scale_39 : decode kE_scale.2.1 39 = .ok (.iload 4, 2) := by decide +kernel
theorem dE_scale_41 : decode kE_scale.2.1 41 = .ok (.iload 5, 2) := by decide +kernel
theorem dE_scale_43 : decode kE_scale.2.1 43 = .ok (.if_icmp .gt 22, 3) := by decide +kernel
theorem dE_scale_46 : decode kE_scale.2.1 46 = .ok (.iload_n 3, 1) := by decide +kernel
theorem dE_scale_47 : decode kE_scale.2.1 47 = .ok (.iconst 1, 1) := by decide +kernel
theorem dE_scale_48 : decode kE_scale.2.1 48 = .ok (.if_icmp .lt 17, 3) := by decide +kernel
theorem dE_scale_51 : decode kE_scale.2.1 51 = .ok (.iload 5, 2) := by decide +kernel
theorem dE_scale_53 : decode kE_scale.2.1 53 = .ok (.iload 4, 2) := by decide +kernel
theorem dE_scale_55 : decode kE_scale.2.1 55 = .ok (.isub, 1) := by decide +kernel
theorem dE_scale_56 : decode kE_scale.2.1 56 = .ok (.iload_n 3, 1) := by decide +kernel
theorem dE_scale_57 : decode kE_scale.2.1 57 = .ok (.idiv, 1) := by decide +kernel
theorem dE_scale_58 : decode kE_scale.2.1 58 = .ok (.iconst 1, 1) := by decide +kernel
theorem dE_scale_59 : decode kE_scale.2.1 59 = .ok (.iadd, 1) := by decide +kernel
theorem dE_scale_60 : decode kE_scale.2.1 60 = .ok (.bipush 60, 2) := by decide +kernel
theorem dE_scale_62 : decode kE_scale.2.1 62 = .ok (.if_icmp .le 6, 3) := by decide +kernel
theorem dE_scale_65 : decode kE_scale.2.1 65 = .ok (.bipush (-2), 2) := by decide +kernel
theorem dE_scale_67 : decode kE_scale.2.1 67 = .ok (.ireturn, 1) := by decide +kernel
theorem dE_scale_68 : decode kE_scale.2.1 68 = .ok (.aload_n 0, 1) := by decide +kernel
theorem dE_scale_69 : decode kE_scale.2.1 69 = .ok (.iload_n 3, 1) := by decide +kernel
theorem dE_scale_70 : decode kE_scale.2.1 70 = .ok (.putfield 45, 3) := by decide +kernel
theorem dE_scale_73 : decode kE_scale.2.1 73 = .ok (.iload_n 3, 1) := by decide +kernel
theorem dE_scale_74 : decode kE_scale.2.1 74 = .ok (.ireturn, 1) := by decide +kernel
theorem dE_height_0 : decode kE_height.2.1 0 = .ok (.aload_n 0, 1) := by decide +kernel
theorem dE_height_1 : decode kE_height.2.1 1 = .ok (.iload_n 1, 1) := by decide +kernel
theorem dE_height_2 : decode kE_height.2.1 2 = .ok (.invokevirtual 60, 3) := by decide +kernel
theorem dE_height_5 : decode kE_height.2.1 5 = .ok (.astore_n 3, 1) := by decide +kernel
theorem dE_height_6 : decode kE_height.2.1 6 = .ok (.aload_n 3, 1) := by decide +kernel
theorem dE_height_7 : decode kE_height.2.1 7 = .ok (.ifnonnull 7, 3) := by decide +kernel
theorem dE_height_10 : decode kE_height.2.1 10 = .ok (.iconst (-1), 1) := by decide +kernel
theorem dE_height_11 : decode kE_height.2.1 11 = .ok (.goto 13, 3) := by decide +kernel
theorem dE_height_14 : decode kE_height.2.1 14 = .ok (.aload_n 0, 1) := by decide +kernel
theorem dE_height_15 : decode kE_height.2.1 15 = .ok (.aload_n 0, 1) := by decide +kernel
theorem dE_height_16 : decode kE_height.2.1 16 = .ok (.invokevirtual 134, 3) := by decide +kernel
theorem dE_height_19 : decode kE_height.2.1 19 = .ok (.aload_n 3, 1) := by decide +kernel
theorem dE_height_20 : decode kE_height.2.1 20 = .ok (.iload_n 2, 1) := by decide +kernel
theorem dE_height_21 : decode kE_height.2.1 21 = .ok (.invokevirtual 141, 3) := by decide +kernel
theorem dE_height_24 : decode kE_height.2.1 24 = .ok (.ireturn, 1) := by decide +kernel
theorem dE_ear_0 : decode kE_ear.2.1 0 = .ok (.iload_n 1, 1) := by decide +kernel
theorem dE_ear_1 : decode kE_ear.2.1 1 = .ok (.iconst 0, 1) := by decide +kernel
theorem dE_ear_2 : decode kE_ear.2.1 2 = .ok (.bipush 60, 2) := by decide +kernel
theorem dE_ear_4 : decode kE_ear.2.1 4 = .ok (.invokestatic 82, 3) := by decide +kernel
theorem dE_ear_7 : decode kE_ear.2.1 7 = .ok (.ifCond .eq 13, 3) := by decide +kernel
theorem dE_ear_10 : decode kE_ear.2.1 10 = .ok (.iload_n 2, 1) := by decide +kernel
theorem dE_ear_11 : decode kE_ear.2.1 11 = .ok (.iconst 0, 1) := by decide +kernel
theorem dE_ear_12 : decode kE_ear.2.1 12 = .ok (.bipush 100, 2) := by decide +kernel
theorem dE_ear_14 : decode kE_ear.2.1 14 = .ok (.invokestatic 82, 3) := by decide +kernel
theorem dE_ear_17 : decode kE_ear.2.1 17 = .ok (.ifCond .ne 5, 3) := by decide +kernel
theorem dE_ear_20 : decode kE_ear.2.1 20 = .ok (.iconst 0, 1) := by decide +kernel
theorem dE_ear_21 : decode kE_ear.2.1 21 = .ok (.ireturn, 1) := by decide +kernel
theorem dE_ear_22 : decode kE_ear.2.1 22 = .ok (.aload_n 0, 1) := by decide +kernel
theorem dE_ear_23 : decode kE_ear.2.1 23 = .ok (.iload_n 1, 1) := by decide +kernel
theorem dE_ear_24 : decode kE_ear.2.1 24 = .ok (.putfield 48, 3) := by decide +kernel
theorem dE_ear_27 : decode kE_ear.2.1 27 = .ok (.aload_n 0, 1) := by decide +kernel
theorem dE_ear_28 : decode kE_ear.2.1 28 = .ok (.iload_n 2, 1) := by decide +kernel
theorem dE_ear_29 : decode kE_ear.2.1 29 = .ok (.putfield 51, 3) := by decide +kernel
theorem dE_ear_32 : decode kE_ear.2.1 32 = .ok (.iconst 1, 1) := by decide +kernel
theorem dE_ear_33 : decode kE_ear.2.1 33 = .ok (.ireturn, 1) := by decide +kernel
theorem dE_worth_0 : decode kE_worth.2.1 0 = .ok (.aload_n 0, 1) := by decide +kernel
theorem dE_worth_1 : decode kE_worth.2.1 1 = .ok (.iload_n 1, 1) := by decide +kernel
theorem dE_worth_2 : decode kE_worth.2.1 2 = .ok (.invokevirtual 60, 3) := by decide +kernel
theorem dE_worth_5 : decode kE_worth.2.1 5 = .ok (.astore_n 3, 1) := by decide +kernel
theorem dE_worth_6 : decode kE_worth.2.1 6 = .ok (.aload_n 3, 1) := by decide +kernel
theorem dE_worth_7 : decode kE_worth.2.1 7 = .ok (.ifnull 14, 3) := by decide +kernel
theorem dE_worth_10 : decode kE_worth.2.1 10 = .ok (.iload_n 2, 1) := by decide +kernel
theorem dE_worth_11 : decode kE_worth.2.1 11 = .ok (.iconst 0, 1) := by decide +kernel
theorem dE_worth_12 : decode kE_worth.2.1 12 = .ok (.sipush 1000, 3) := by decide +kernel
theorem dE_worth_15 : decode kE_worth.2.1 15 = .ok (.invokestatic 82, 3) := by decide +kernel
theorem dE_worth_18 : decode kE_worth.2.1 18 = .ok (.ifCond .ne 5, 3) := by decide +kernel
theorem dE_worth_21 : decode kE_worth.2.1 21 = .ok (.iconst (-1), 1) := by decide +kernel
theorem dE_worth_22 : decode kE_worth.2.1 22 = .ok (.ireturn, 1) := by decide +kernel
theorem dE_worth_23 : decode kE_worth.2.1 23 = .ok (.aload_n 3, 1) := by decide +kernel
theorem dE_worth_24 : decode kE_worth.2.1 24 = .ok (.getfield 145, 3) := by decide +kernel
theorem dE_worth_27 : decode kE_worth.2.1 27 = .ok (.istore 4, 2) := by decide +kernel
theorem dE_worth_29 : decode kE_worth.2.1 29 = .ok (.aload_n 3, 1) := by decide +kernel
theorem dE_worth_30 : decode kE_worth.2.1 30 = .ok (.iload_n 2, 1) := by decide +kernel
theorem dE_worth_31 : decode kE_worth.2.1 31 = .ok (.putfield 145, 3) := by decide +kernel
theorem dE_worth_34 : decode kE_worth.2.1 34 = .ok (.iload 4, 2) := by decide +kernel
theorem dE_worth_36 : decode kE_worth.2.1 36 = .ok (.ireturn, 1) := by decide +kernel
theorem dE_lay_0 : decode kE_lay.2.1 0 = .ok (.aload_n 0, 1) := by decide +kernel
theorem dE_lay_1 : decode kE_lay.2.1 1 = .ok (.iload_n 1, 1) := by decide +kernel
theorem dE_lay_2 : decode kE_lay.2.1 2 = .ok (.invokevirtual 148, 3) := by decide +kernel
theorem dE_lay_5 : decode kE_lay.2.1 5 = .ok (.ifCond .eq 13, 3) := by decide +kernel
theorem dE_lay_8 : decode kE_lay.2.1 8 = .ok (.aload_n 0, 1) := by decide +kernel
theorem dE_lay_9 : decode kE_lay.2.1 9 = .ok (.getfield 33, 3) := by decide +kernel
theorem dE_lay_12 : decode kE_lay.2.1 12 = .ok (.getfield 151, 3) := by decide +kernel
theorem dE_lay_15 : decode kE_lay.2.1 15 = .ok (.goto 4, 3) := by decide +kernel
theorem dE_lay_18 : decode kE_lay.2.1 18 = .ok (.iconst (-1), 1) := by decide +kernel
theorem dE_lay_19 : decode kE_lay.2.1 19 = .ok (.ireturn, 1) := by decide +kernel
theorem dE_slot_0 : decode kE_slot.2.1 0 = .ok (.aload_n 0, 1) := by decide +kernel
theorem dE_slot_1 : decode kE_slot.2.1 1 = .ok (.iload_n 1, 1) := by decide +kernel
theorem dE_slot_2 : decode kE_slot.2.1 2 = .ok (.invokevirtual 60, 3) := by decide +kernel
theorem dE_slot_5 : decode kE_slot.2.1 5 = .ok (.astore_n 3, 1) := by decide +kernel
theorem dE_slot_6 : decode kE_slot.2.1 6 = .ok (.aload_n 3, 1) := by decide +kernel
theorem dE_slot_7 : decode kE_slot.2.1 7 = .ok (.ifnull 19, 3) := by decide +kernel
theorem dE_slot_10 : decode kE_slot.2.1 10 = .ok (.aload_n 3, 1) := by decide +kernel
theorem dE_slot_11 : decode kE_slot.2.1 11 = .ok (.iload_n 2, 1) := by decide +kernel
theorem dE_slot_12 : decode kE_slot.2.1 12 = .ok (.invokevirtual 154, 3) := by decide +kernel
theorem dE_slot_15 : decode kE_slot.2.1 15 = .ok (.ifCond .eq 11, 3) := by decide +kernel
theorem dE_slot_18 : decode kE_slot.2.1 18 = .ok (.aload_n 0, 1) := by decide +kernel
theorem dE_slot_19 : decode kE_slot.2.1 19 = .ok (.iload_n 2, 1) := by decide +kernel
theorem dE_slot_20 : decode kE_slot.2.1 20 = .ok (.invokevirtual 148, 3) := by decide +kernel
theorem dE_slot_23 : decode kE_slot.2.1 23 = .ok (.ifCond .ne 5, 3) := by decide +kernel
theorem dE_slot_26 : decode kE_slot.2.1 26 = .ok (.iconst (-1), 1) := by decide +kernel
theorem dE_slot_27 : decode kE_slot.2.1 27 = .ok (.ireturn, 1) := by decide +kernel
theorem dE_slot_28 : decode kE_slot.2.1 28 = .ok (.aload_n 0, 1) := by decide +kernel
theorem dE_slot_29 : decode kE_slot.2.1 29 = .ok (.getfield 33, 3) := by decide +kernel
theorem dE_slot_32 : decode kE_slot.2.1 32 = .ok (.getfield 157, 3) := by decide +kernel
theorem dE_slot_35 : decode kE_slot.2.1 35 = .ok (.iload_n 1, 1) := by decide +kernel
theorem dE_slot_36 : decode kE_slot.2.1 36 = .ok (.iaload, 1) := by decide +kernel
theorem dE_slot_37 : decode kE_slot.2.1 37 = .ok (.ireturn, 1) := by decide +kernel
theorem dE_hears_0 : decode kE_hears.2.1 0 = .ok (.iload_n 1, 1) := by decide +kernel
theorem dE_hears_1 : decode kE_hears.2.1 1 = .ok (.iload_n 2, 1) := by decide +kernel
theorem dE_hears_2 : decode kE_hears.2.1 2 = .ok (.invokestatic 119, 3) := by decide +kernel
theorem dE_hears_5 : decode kE_hears.2.1 5 = .ok (.ifCond .eq 11, 3) := by decide +kernel
theorem dE_hears_8 : decode kE_hears.2.1 8 = .ok (.aload_n 0, 1) := by decide +kernel
theorem dE_hears_9 : decode kE_hears.2.1 9 = .ok (.iload_n 3, 1) := by decide +kernel
theorem dE_hears_10 : decode kE_hears.2.1 10 = .ok (.invokevirtual 148, 3) := by decide +kernel
theorem dE_hears_13 : decode kE_hears.2.1 13 = .ok (.ifCond .ne 6, 3) := by decide +kernel
theorem dE_hears_16 : decode kE_hears.2.1 16 = .ok (.bipush (-2), 2) := by decide +kernel
theorem dE_hears_18 : decode kE_hears.2.1 18 = .ok (.ireturn, 1) := by decide +kernel
theorem dE_hears_19 : decode kE_hears.2.1 19 = .ok (.aload_n 0, 1) := by decide +kernel
theorem dE_hears_20 : decode kE_hears.2.1 20 = .ok (.getfield 33, 3) := by decide +kernel
theorem dE_hears_23 : decode kE_hears.2.1 23 = .ok (.iload_n 1, 1) := by decide +kernel
theorem dE_hears_24 : decode kE_hears.2.1 24 = .ok (.invokevirtual 160, 3) := by decide +kernel
theorem dE_hears_27 : decode kE_hears.2.1 27 = .ok (.ifCond .eq 14, 3) := by decide +kernel
theorem dE_hears_30 : decode kE_hears.2.1 30 = .ok (.aload_n 0, 1) := by decide +kernel
theorem dE_hears_31 : decode kE_hears.2.1 31 = .ok (.getfield 33, 3) := by decide +kernel
theorem dE_hears_34 : decode kE_hears.2.1 34 = .ok (.iload_n 2, 1) := by decide +kernel
theorem dE_hears_35 : decode kE_hears.2.1 35 = .ok (.invokevirtual 160, 3) := by decide +kernel
theorem dE_hears_38 : decode kE_hears.2.1 38 = .ok (.ifCond .ne 5, 3) := by decide +kernel
theorem dE_hears_41 : decode kE_hears.2.1 41 = .ok (.iconst 0, 1) := by decide +kernel
theorem dE_hears_42 : decode kE_hears.2.1 42 = .ok (.ireturn, 1) := by decide +kernel
theorem dE_hears_43 : decode kE_hears.2.1 43 = .ok (.aload_n 0, 1) := by decide +kernel
theorem dE_hears_44 : decode kE_hears.2.1 44 = .ok (.iload_n 1, 1) := by decide +kernel
theorem dE_hears_45 : decode kE_hears.2.1 45 = .ok (.iload_n 2, 1) := by decide +kernel
theorem dE_hears_46 : decode kE_hears.2.1 46 = .ok (.invokevirtual 163, 3) := by decide +kernel
theorem dE_hears_49 : decode kE_hears.2.1 49 = .ok (.ifCond .eq 5, 3) := by decide +kernel
theorem dE_hears_52 : decode kE_hears.2.1 52 = .ok (.iconst 1, 1) := by decide +kernel
theorem dE_hears_53 : decode kE_hears.2.1 53 = .ok (.ireturn, 1) := by decide +kernel
theorem dE_hears_54 : decode kE_hears.2.1 54 = .ok (.aload_n 0, 1) := by decide +kernel
theorem dE_hears_55 : decode kE_hears.2.1 55 = .ok (.iload_n 2, 1) := by decide +kernel
theorem dE_hears_56 : decode kE_hears.2.1 56 = .ok (.iload_n 1, 1) := by decide +kernel
theorem dE_hears_57 : decode kE_hears.2.1 57 = .ok (.invokevirtual 163, 3) := by decide +kernel
theorem dE_hears_60 : decode kE_hears.2.1 60 = .ok (.ifCond .eq 7, 3) := by decide +kernel
theorem dE_hears_63 : decode kE_hears.2.1 63 = .ok (.iconst (-1), 1) := by decide +kernel
theorem dE_hears_64 : decode kE_hears.2.1 64 = .ok (.goto 4, 3) := by decide +kernel
theorem dE_hears_67 : decode kE_hears.2.1 67 = .ok (.iconst 0, 1) := by decide +kernel
theorem dE_hears_68 : decode kE_hears.2.1 68 = .ok (.ireturn, 1) := by decide +kernel
theorem dE_whole_0 : decode kE_whole.2.1 0 = .ok (.iload_n 2, 1) := by decide +kernel
theorem dE_whole_1 : decode kE_whole.2.1 1 = .ok (.iconst 1, 1) := by decide +kernel
theorem dE_whole_2 : decode kE_whole.2.1 2 = .ok (.sipush 200, 3) := by decide +kernel
theorem dE_whole_5 : decode kE_whole.2.1 5 = .ok (.invokestatic 82, 3) := by decide +kernel
theorem dE_whole_8 : decode kE_whole.2.1 8 = .ok (.ifCond .eq 11, 3) := by decide +kernel
theorem dE_whole_11 : decode kE_whole.2.1 11 = .ok (.aload_n 0, 1) := by decide +kernel
theorem dE_whole_12 : decode kE_whole.2.1 12 = .ok (.iload_n 1, 1) := by decide +kernel
theorem dE_whole_13 : decode kE_whole.2.1 13 = .ok (.invokevirtual 89, 3) := by decide +kernel
theorem dE_whole_16 : decode kE_whole.2.1 16 = .ok (.ifCond .ne 5, 3) := by decide +kernel
theorem dE_whole_19 : decode kE_whole.2.1 19 = .ok (.iconst (-1), 1) := by decide +kernel
theorem dE_whole_20 : decode kE_whole.2.1 20 = .ok (.ireturn, 1) := by decide +kernel
theorem dE_whole_21 : decode kE_whole.2.1 21 = .ok (.aload_n 0, 1) := by decide +kernel
theorem dE_whole_22 : decode kE_whole.2.1 22 = .ok (.getfield 19, 3) := by decide +kernel
theorem dE_whole_25 : decode kE_whole.2.1 25 = .ok (.iload_n 3, 1) := by decide +kernel
theorem dE_whole_26 : decode kE_whole.2.1 26 = .ok (.invokevirtual 98, 3) := by decide +kernel
theorem dE_whole_29 : decode kE_whole.2.1 29 = .ok (.ifCond .eq 26, 3) := by decide +kernel
theorem dE_whole_32 : decode kE_whole.2.1 32 = .ok (.iload_n 2, 1) := by decide +kernel
theorem dE_whole_33 : decode kE_whole.2.1 33 = .ok (.aload_n 0, 1) := by decide +kernel
theorem dE_whole_34 : decode kE_whole.2.1 34 = .ok (.getfield 19, 3) := by decide +kernel
theorem dE_whole_37 : decode kE_whole.2.1 37 = .ok (.getfield 92, 3) := by decide +kernel
theorem dE_whole_40 : decode kE_whole.2.1 40 = .ok (.if_icmp .lt 15, 3) := by decide +kernel
theorem dE_whole_43 : decode kE_whole.2.1 43 = .ok (.aload_n 0, 1) := by decide +kernel
theorem dE_whole_44 : decode kE_whole.2.1 44 = .ok (.getfield 19, 3) := by decide +kernel
theorem dE_whole_47 : decode kE_whole.2.1 47 = .ok (.iload_n 3, 1) := by decide +kernel
theorem dE_whole_48 : decode kE_whole.2.1 48 = .ok (.iload_n 2, 1) := by decide +kernel
theorem dE_whole_49 : decode kE_whole.2.1 49 = .ok (.invokevirtual 166, 3) := by decide +kernel
theorem dE_whole_52 : decode kE_whole.2.1 52 = .ok (.goto 4, 3) := by decide +kernel
theorem dE_whole_55 : decode kE_whole.2.1 55 = .ok (.iconst (-1), 1) := by decide +kernel
theorem dE_whole_56 : decode kE_whole.2.1 56 = .ok (.ireturn, 1) := by decide +kernel
theorem dE_walk_0 : decode kE_walk.2.1 0 = .ok (.aload_n 0, 1) := by decide +kernel
theorem dE_walk_1 : decode kE_walk.2.1 1 = .ok (.iload_n 1, 1) := by decide +kernel
theorem dE_walk_2 : decode kE_walk.2.1 2 = .ok (.invokevirtual 60, 3) := by decide +kernel
theorem dE_walk_5 : decode kE_walk.2.1 5 = .ok (.astore_n 3, 1) := by decide +kernel
theorem dE_walk_6 : decode kE_walk.2.1 6 = .ok (.aload_n 3, 1) := by decide +kernel
theorem dE_walk_7 : decode kE_walk.2.1 7 = .ok (.ifnull 11, 3) := by decide +kernel
theorem dE_walk_10 : decode kE_walk.2.1 10 = .ok (.aload_n 3, 1) := by decide +kernel
theorem dE_walk_11 : decode kE_walk.2.1 11 = .ok (.iload_n 2, 1) := by decide +kernel
theorem dE_walk_12 : decode kE_walk.2.1 12 = .ok (.invokevirtual 72, 3) := by decide +kernel
theorem dE_walk_15 : decode kE_walk.2.1 15 = .ok (.ifCond .ne 5, 3) := by decide +kernel
theorem dE_walk_18 : decode kE_walk.2.1 18 = .ok (.iconst 0, 1) := by decide +kernel
theorem dE_walk_19 : decode kE_walk.2.1 19 = .ok (.ireturn, 1) := by decide +kernel
theorem dE_walk_20 : decode kE_walk.2.1 20 = .ok (.aload_n 0, 1) := by decide +kernel
theorem dE_walk_21 : decode kE_walk.2.1 21 = .ok (.iload_n 1, 1) := by decide +kernel
theorem dE_walk_22 : decode kE_walk.2.1 22 = .ok (.putfield 54, 3) := by decide +kernel
theorem dE_walk_25 : decode kE_walk.2.1 25 = .ok (.aload_n 0, 1) := by decide +kernel
theorem dE_walk_26 : decode kE_walk.2.1 26 = .ok (.iload_n 2, 1) := by decide +kernel
theorem dE_walk_27 : decode kE_walk.2.1 27 = .ok (.putfield 57, 3) := by decide +kernel
theorem dE_walk_30 : decode kE_walk.2.1 30 = .ok (.iconst 1, 1) := by decide +kernel
theorem dE_walk_31 : decode kE_walk.2.1 31 = .ok (.ireturn, 1) := by decide +kernel
theorem dE_where_0 : decode kE_where.2.1 0 = .ok (.aload_n 0, 1) := by decide +kernel
theorem dE_where_1 : decode kE_where.2.1 1 = .ok (.getfield 54, 3) := by decide +kernel
theorem dE_where_4 : decode kE_where.2.1 4 = .ok (.iconst (-1), 1) := by decide +kernel
theorem dE_where_5 : decode kE_where.2.1 5 = .ok (.if_icmp .ne 5, 3) := by decide +kernel
theorem dE_where_8 : decode kE_where.2.1 8 = .ok (.iconst (-1), 1) := by decide +kernel
theorem dE_where_9 : decode kE_where.2.1 9 = .ok (.ireturn, 1) := by decide +kernel
theorem dE_where_10 : decode kE_where.2.1 10 = .ok (.iload_n 1, 1) := by decide +kernel
theorem dE_where_11 : decode kE_where.2.1 11 = .ok (.lookupswitch 35 #[(0, 25), (1, 30)], 25) := by decide +kernel
theorem dE_where_36 : decode kE_where.2.1 36 = .ok (.aload_n 0, 1) := by decide +kernel
theorem dE_where_37 : decode kE_where.2.1 37 = .ok (.getfield 54, 3) := by decide +kernel
theorem dE_where_40 : decode kE_where.2.1 40 = .ok (.ireturn, 1) := by decide +kernel
theorem dE_where_41 : decode kE_where.2.1 41 = .ok (.aload_n 0, 1) := by decide +kernel
theorem dE_where_42 : decode kE_where.2.1 42 = .ok (.getfield 57, 3) := by decide +kernel
theorem dE_where_45 : decode kE_where.2.1 45 = .ok (.ireturn, 1) := by decide +kernel
theorem dE_where_46 : decode kE_where.2.1 46 = .ok (.iconst (-1), 1) := by decide +kernel
theorem dE_where_47 : decode kE_where.2.1 47 = .ok (.ireturn, 1) := by decide +kernel
theorem dE_go_0 : decode kE_go.2.1 0 = .ok (.aload_n 0, 1) := by decide +kernel
theorem dE_go_1 : decode kE_go.2.1 1 = .ok (.aload_n 0, 1) := by decide +kernel
theorem dE_go_2 : decode kE_go.2.1 2 = .ok (.getfield 54, 3) := by decide +kernel
theorem dE_go_5 : decode kE_go.2.1 5 = .ok (.invokevirtual 60, 3) := by decide +kernel
theorem dE_go_8 : decode kE_go.2.1 8 = .ok (.astore_n 2, 1) := by decide +kernel
theorem dE_go_9 : decode kE_go.2.1 9 = .ok (.iload_n 1, 1) := by decide +kernel
theorem dE_go_10 : decode kE_go.2.1 10 = .ok (.ifCond .eq 12, 3) := by decide +kernel
theorem dE_go_13 : decode kE_go.2.1 13 = .ok (.aload_n 0, 1) := by decide +kernel
theorem dE_go_14 : decode kE_go.2.1 14 = .ok (.getfield 57, 3) := by decide +kernel
theorem dE_go_17 : decode kE_go.2.1 17 = .ok (.iconst 1, 1) := by decide +kernel
theorem dE_go_18 : decode kE_go.2.1 18 = .ok (.iadd, 1) := by decide +kernel
theorem dE_go_19 : decode kE_go.2.1 19 = .ok (.goto 9, 3) := by decide +kernel
theorem dE_go_22 : decode kE_go.2.1 22 = .ok (.aload_n 0, 1) := by decide +kernel
theorem dE_go_23 : decode kE_go.2.1 23 = .ok (.getfield 57, 3) := by decide +kernel
theorem dE_go_26 : decode kE_go.2.1 26 = .ok (.iconst 1, 1) := by decide +kernel
theorem dE_go_27 : decode kE_go.2.1 27 = .ok (.isub, 1) := by decide +kernel
theorem dE_go_28 : decode kE_go.2.1 28 = .ok (.istore_n 3, 1) := by decide +kernel
theorem dE_go_29 : decode kE_go.2.1 29 = .ok (.aload_n 2, 1) := by decide +kernel
theorem dE_go_30 : decode kE_go.2.1 30 = .ok (.ifnull 11, 3) := by decide +kernel
theorem dE_go_33 : decode kE_go.2.1 33 = .ok (.aload_n 2, 1) := by decide +kernel
theorem dE_go_34 : decode kE_go.2.1 34 = .ok (.iload_n 3, 1) := by decide +kernel
theorem dE_go_35 : decode kE_go.2.1 35 = .ok (.invokevirtual 72, 3) := by decide +kernel
theorem dE_go_38 : decode kE_go.2.1 38 = .ok (.ifCond .ne 5, 3) := by decide +kernel
theorem dE_go_41 : decode kE_go.2.1 41 = .ok (.iconst (-1), 1) := by decide +kernel
theorem dE_go_42 : decode kE_go.2.1 42 = .ok (.ireturn, 1) := by decide +kernel
theorem dE_go_43 : decode kE_go.2.1 43 = .ok (.aload_n 0, 1) := by decide +kernel
theorem dE_go_44 : decode kE_go.2.1 44 = .ok (.iload_n 3, 1) := by decide +kernel
theorem dE_go_45 : decode kE_go.2.1 45 = .ok (.putfield 57, 3) := by decide +kernel
theorem dE_go_48 : decode kE_go.2.1 48 = .ok (.iload_n 3, 1) := by decide +kernel
theorem dE_go_49 : decode kE_go.2.1 49 = .ok (.ireturn, 1) := by decide +kernel
theorem dE_seek_0 : decode kE_seek.2.1 0 = .ok (.aload_n 0, 1) := by decide +kernel
theorem dE_seek_1 : decode kE_seek.2.1 1 = .ok (.aload_n 0, 1) := by decide +kernel
theorem dE_seek_2 : decode kE_seek.2.1 2 = .ok (.getfield 54, 3) := by decide +kernel
theorem dE_seek_5 : decode kE_seek.2.1 5 = .ok (.invokevirtual 60, 3) := by decide +kernel
theorem dE_seek_8 : decode kE_seek.2.1 8 = .ok (.astore_n 3, 1) := by decide +kernel
theorem dE_seek_9 : decode kE_seek.2.1 9 = .ok (.aload_n 3, 1) := by decide +kernel
theorem dE_seek_10 : decode kE_seek.2.1 10 = .ok (.ifnonnull 5, 3) := by decide +kernel
theorem dE_seek_13 : decode kE_seek.2.1 13 = .ok (.iconst (-1), 1) := by decide +kernel
theorem dE_seek_14 : decode kE_seek.2.1 14 = .ok (.ireturn, 1) := by decide +kernel
theorem dE_seek_15 : decode kE_seek.2.1 15 = .ok (.aload_n 0, 1) := by decide +kernel
theorem dE_seek_16 : decode kE_seek.2.1 16 = .ok (.aload_n 3, 1) := by decide +kernel
theorem dE_seek_17 : decode kE_seek.2.1 17 = .ok (.iload_n 2, 1) := by decide +kernel
theorem dE_seek_18 : decode kE_seek.2.1 18 = .ok (.invokevirtual 170, 3) := by decide +kernel
theorem dE_seek_21 : decode kE_seek.2.1 21 = .ok (.iload_n 1, 1) := by decide +kernel
theorem dE_seek_22 : decode kE_seek.2.1 22 = .ok (.ifCond .eq 14, 3) := by decide +kernel
theorem dE_seek_25 : decode kE_seek.2.1 25 = .ok (.aload_n 0, 1) := by decide +kernel
theorem dE_seek_26 : decode kE_seek.2.1 26 = .ok (.aload_n 0, 1) := by decide +kernel
theorem dE_seek_27 : decode kE_seek.2.1 27 = .ok (.getfield 57, 3) := by decide +kernel
theorem dE_seek_30 : decode kE_seek.2.1 30 = .ok (.invokevirtual 174, 3) := by decide +kernel
theorem dE_seek_33 : decode kE_seek.2.1 33 = .ok (.goto 11, 3) := by decide +kernel
theorem dE_seek_36 : decode kE_seek.2.1 36 = .ok (.aload_n 0, 1) := by decide +kernel
theorem dE_seek_37 : decode kE_seek.2.1 37 = .ok (.aload_n 0, 1) := by decide +kernel
theorem dE_seek_38 : decode kE_seek.2.1 38 = .ok (.getfield 57, 3) := by decide +kernel
theorem dE_seek_41 : decode kE_seek.2.1 41 = .ok (.invokevirtual 177, 3) := by decide +kernel
theorem dE_seek_44 : decode kE_seek.2.1 44 = .ok (.istore 4, 2) := by decide +kernel
theorem dE_seek_46 : decode kE_seek.2.1 46 = .ok (.iload 4, 2) := by decide +kernel
theorem dE_seek_48 : decode kE_seek.2.1 48 = .ok (.iconst (-1), 1) := by decide +kernel
theorem dE_seek_49 : decode kE_seek.2.1 49 = .ok (.if_icmp .eq 9, 3) := by decide +kernel
theorem dE_seek_52 : decode kE_seek.2.1 52 = .ok (.aload_n 0, 1) := by decide +kernel
theorem dE_seek_53 : decode kE_seek.2.1 53 = .ok (.iload 4, 2) := by decide +kernel
theorem dE_seek_55 : decode kE_seek.2.1 55 = .ok (.putfield 57, 3) := by decide +kernel
theorem dE_seek_58 : decode kE_seek.2.1 58 = .ok (.iload 4, 2) := by decide +kernel
theorem dE_seek_60 : decode kE_seek.2.1 60 = .ok (.ireturn, 1) := by decide +kernel
theorem dE_within_0 : decode kE_within.2.1 0 = .ok (.iload_n 0, 1) := by decide +kernel
theorem dE_within_1 : decode kE_within.2.1 1 = .ok (.iload_n 1, 1) := by decide +kernel
theorem dE_within_2 : decode kE_within.2.1 2 = .ok (.if_icmp .lt 12, 3) := by decide +kernel
theorem dE_within_5 : decode kE_within.2.1 5 = .ok (.iload_n 0, 1) := by decide +kernel
theorem dE_within_6 : decode kE_within.2.1 6 = .ok (.iload_n 2, 1) := by decide +kernel
theorem dE_within_7 : decode kE_within.2.1 7 = .ok (.if_icmp .gt 7, 3) := by decide +kernel
theorem dE_within_10 : decode kE_within.2.1 10 = .ok (.iconst 1, 1) := by decide +kernel
theorem dE_within_11 : decode kE_within.2.1 11 = .ok (.goto 4, 3) := by decide +kernel
theorem dE_within_14 : decode kE_within.2.1 14 = .ok (.iconst 0, 1) := by decide +kernel
theorem dE_within_15 : decode kE_within.2.1 15 = .ok (.ireturn, 1) := by decide +kernel
theorem dE_isValue_0 : decode kE_isValue.2.1 0 = .ok (.iload_n 0, 1) := by decide +kernel
theorem dE_isValue_1 : decode kE_isValue.2.1 1 = .ok (.sipush (-1000), 3) := by decide +kernel
theorem dE_isValue_4 : decode kE_isValue.2.1 4 = .ok (.sipush 1000, 3) := by decide +kernel
theorem dE_isValue_7 : decode kE_isValue.2.1 7 = .ok (.invokestatic 82, 3) := by decide +kernel
theorem dE_isValue_10 : decode kE_isValue.2.1 10 = .ok (.ireturn, 1) := by decide +kernel
theorem dE_rowOf_0 : decode kE_rowOf.2.1 0 = .ok (.iload_n 1, 1) := by decide +kernel
theorem dE_rowOf_1 : decode kE_rowOf.2.1 1 = .ok (.iconst 0, 1) := by decide +kernel
theorem dE_rowOf_2 : decode kE_rowOf.2.1 2 = .ok (.iconst 3, 1) := by decide +kernel
theorem dE_rowOf_3 : decode kE_rowOf.2.1 3 = .ok (.invokestatic 82, 3) := by decide +kernel
theorem dE_rowOf_6 : decode kE_rowOf.2.1 6 = .ok (.ifCond .eq 12, 3) := by decide +kernel
theorem dE_rowOf_9 : decode kE_rowOf.2.1 9 = .ok (.aload_n 0, 1) := by decide +kernel
theorem dE_rowOf_10 : decode kE_rowOf.2.1 10 = .ok (.getfield 11, 3) := by decide +kernel
theorem dE_rowOf_13 : decode kE_rowOf.2.1 13 = .ok (.iload_n 1, 1) := by decide +kernel
theorem dE_rowOf_14 : decode kE_rowOf.2.1 14 = .ok (.aaload, 1) := by decide +kernel
theorem dE_rowOf_15 : decode kE_rowOf.2.1 15 = .ok (.goto 4, 3) := by decide +kernel
theorem dE_rowOf_18 : decode kE_rowOf.2.1 18 = .ok (.aconst_null, 1) := by decide +kernel
theorem dE_rowOf_19 : decode kE_rowOf.2.1 19 = .ok (.areturn, 1) := by decide +kernel
theorem dE_areTwoRows_0 : decode kE_areTwoRows.2.1 0 = .ok (.iload_n 0, 1) := by decide +kernel
theorem dE_areTwoRows_1 : decode kE_areTwoRows.2.1 1 = .ok (.iload_n 1, 1) := by decide +kernel
theorem dE_areTwoRows_2 : decode kE_areTwoRows.2.1 2 = .ok (.if_icmp .eq 25, 3) := by decide +kernel
theorem dE_areTwoRows_5 : decode kE_areTwoRows.2.1 5 = .ok (.iload_n 0, 1) := by decide +kernel
theorem dE_areTwoRows_6 : decode kE_areTwoRows.2.1 6 = .ok (.iconst 0, 1) := by decide +kernel
theorem dE_areTwoRows_7 : decode kE_areTwoRows.2.1 7 = .ok (.iconst 3, 1) := by decide +kernel
theorem dE_areTwoRows_8 : decode kE_areTwoRows.2.1 8 = .ok (.invokestatic 82, 3) := by decide +kernel
theorem dE_areTwoRows_11 : decode kE_areTwoRows.2.1 11 = .ok (.ifCond .eq 16, 3) := by decide +kernel
theorem dE_areTwoRows_14 : decode kE_areTwoRows.2.1 14 = .ok (.iload_n 1, 1) := by decide +kernel
theorem dE_areTwoRows_15 : decode kE_areTwoRows.2.1 15 = .ok (.iconst 0, 1) := by decide +kernel
theorem dE_areTwoRows_16 : decode kE_areTwoRows.2.1 16 = .ok (.iconst 3, 1) := by decide +kernel
theorem dE_areTwoRows_17 : decode kE_areTwoRows.2.1 17 = .ok (.invokestatic 82, 3) := by decide +kernel
theorem dE_areTwoRows_20 : decode kE_areTwoRows.2.1 20 = .ok (.ifCond .eq 7, 3) := by decide +kernel
theorem dE_areTwoRows_23 : decode kE_areTwoRows.2.1 23 = .ok (.iconst 1, 1) := by decide +kernel
theorem dE_areTwoRows_24 : decode kE_areTwoRows.2.1 24 = .ok (.goto 4, 3) := by decide +kernel
theorem dE_areTwoRows_27 : decode kE_areTwoRows.2.1 27 = .ok (.iconst 0, 1) := by decide +kernel
theorem dE_areTwoRows_28 : decode kE_areTwoRows.2.1 28 = .ok (.ireturn, 1) := by decide +kernel
theorem dE_readShape_0 : decode kE_readShape.2.1 0 = .ok (.aload_n 0, 1) := by decide +kernel
theorem dE_readShape_1 : decode kE_readShape.2.1 1 = .ok (.iload_n 1, 1) := by decide +kernel
theorem dE_readShape_2 : decode kE_readShape.2.1 2 = .ok (.invokevirtual 60, 3) := by decide +kernel
theorem dE_readShape_5 : decode kE_readShape.2.1 5 = .ok (.astore_n 2, 1) := by decide +kernel
theorem dE_readShape_6 : decode kE_readShape.2.1 6 = .ok (.aload_n 2, 1) := by decide +kernel
theorem dE_readShape_7 : decode kE_readShape.2.1 7 = .ok (.ifnonnull 5, 3) := by decide +kernel
theorem dE_readShape_10 : decode kE_readShape.2.1 10 = .ok (.iconst 0, 1) := by decide +kernel
theorem dE_readShape_11 : decode kE_readShape.2.1 11 = .ok (.ireturn, 1) := by decide +kernel
theorem dE_readShape_12 : decode kE_readShape.2.1 12 = .ok (.aload_n 0, 1) := by decide +kernel
theorem dE_readShape_13 : decode kE_readShape.2.1 13 = .ok (.getfield 19, 3) := by decide +kernel
theorem dE_readShape_16 : decode kE_readShape.2.1 16 = .ok (.aload_n 2, 1) := by decide +kernel
theorem dE_readShape_17 : decode kE_readShape.2.1 17 = .ok (.aload_n 0, 1) := by decide +kernel
theorem dE_readShape_18 : decode kE_readShape.2.1 18 = .ok (.getfield 41, 3) := by decide +kernel
theorem dE_readShape_21 : decode kE_readShape.2.1 21 = .ok (.invokevirtual 180, 3) := by decide +kernel
theorem dE_readShape_24 : decode kE_readShape.2.1 24 = .ok (.iconst 1, 1) := by decide +kernel
theorem dE_readShape_25 : decode kE_readShape.2.1 25 = .ok (.ireturn, 1) := by decide +kernel
theorem dE_readMeeting_0 : decode kE_readMeeting.2.1 0 = .ok (.iload_n 1, 1) := by decide +kernel
theorem dE_readMeeting_1 : decode kE_readMeeting.2.1 1 = .ok (.iload_n 2, 1) := by decide +kernel
theorem dE_readMeeting_2 : decode kE_readMeeting.2.1 2 = .ok (.invokestatic 119, 3) := by decide +kernel
theorem dE_readMeeting_5 : decode kE_readMeeting.2.1 5 = .ok (.ifCond .ne 5, 3) := by decide +kernel
theorem dE_readMeeting_8 : decode kE_readMeeting.2.1 8 = .ok (.iconst 0, 1) := by decide +kernel
theorem dE_readMeeting_9 : decode kE_readMeeting.2.1 9 = .ok (.ireturn, 1) := by decide +kernel
theorem dE_readMeeting_10 : decode kE_readMeeting.2.1 10 = .ok (.aload_n 0, 1) := by decide +kernel
theorem dE_readMeeting_11 : decode kE_readMeeting.2.1 11 = .ok (.getfield 26, 3) := by decide +kernel
theorem dE_readMeeting_14 : decode kE_readMeeting.2.1 14 = .ok (.aload_n 0, 1) := by decide +kernel
theorem dE_readMeeting_15 : decode kE_readMeeting.2.1 15 = .ok (.getfield 11, 3) := by decide +kernel
theorem dE_readMeeting_18 : decode kE_readMeeting.2.1 18 = .ok (.iload_n 1, 1) := by decide +kernel
theorem dE_readMeeting_19 : decode kE_readMeeting.2.1 19 = .ok (.aaload, 1) := by decide +kernel
theorem dE_readMeeting_20 : decode kE_readMeeting.2.1 20 = .ok (.aload_n 0, 1) := by decide +kernel
theorem dE_readMeeting_21 : decode kE_readMeeting.2.1 21 = .ok (.getfield 11, 3) := by decide +kernel
theorem dE_readMeeting_24 : decode kE_readMeeting.2.1 24 = .ok (.iload_n 2, 1) := by decide +kernel
theorem dE_readMeeting_25 : decode kE_readMeeting.2.1 25 = .ok (.aaload, 1) := by decide +kernel
theorem dE_readMeeting_26 : decode kE_readMeeting.2.1 26 = .ok (.invokevirtual 183, 3) := by decide +kernel
theorem dE_readMeeting_29 : decode kE_readMeeting.2.1 29 = .ok (.iconst 1, 1) := by decide +kernel
theorem dE_readMeeting_30 : decode kE_readMeeting.2.1 30 = .ok (.ireturn, 1) := by decide +kernel
theorem dE_compareSurely_0 : decode kE_compareSurely.2.1 0 = .ok (.aload_n 0, 1) := by decide +kernel
theorem dE_compareSurely_1 : decode kE_compareSurely.2.1 1 = .ok (.iload_n 2, 1) := by decide +kernel
theorem dE_compareSurely_2 : decode kE_compareSurely.2.1 2 = .ok (.invokevirtual 154, 3) := by decide +kernel
theorem dE_compareSurely_5 : decode kE_compareSurely.2.1 5 = .ok (.ifCond .eq 11, 3) := by decide +kernel
theorem dE_compareSurely_8 : decode kE_compareSurely.2.1 8 = .ok (.aload_n 1, 1) := by decide +kernel
theorem dE_compareSurely_9 : decode kE_compareSurely.2.1 9 = .ok (.iload_n 2, 1) := by decide +kernel
theorem dE_compareSurely_10 : decode kE_compareSurely.2.1 10 = .ok (.invokevirtual 154, 3) := by decide +kernel
theorem dE_compareSurely_13 : decode kE_compareSurely.2.1 13 = .ok (.ifCond .ne 6, 3) := by decide +kernel
theorem dE_compareSurely_16 : decode kE_compareSurely.2.1 16 = .ok (.bipush (-2), 2) := by decide +kernel
theorem dE_compareSurely_18 : decode kE_compareSurely.2.1 18 = .ok (.ireturn, 1) := by decide +kernel
theorem dE_compareSurely_19 : decode kE_compareSurely.2.1 19 = .ok (.aload_n 0, 1) := by decide +kernel
theorem dE_compareSurely_20 : decode kE_compareSurely.2.1 20 = .ok (.getfield 75, 3) := by decide +kernel
theorem dE_compareSurely_23 : decode kE_compareSurely.2.1 23 = .ok (.iload_n 2, 1) := by decide +kernel
theorem dE_compareSurely_24 : decode kE_compareSurely.2.1 24 = .ok (.iaload, 1) := by decide +kernel
theorem dE_compareSurely_25 : decode kE_compareSurely.2.1 25 = .ok (.aload_n 1, 1) := by decide +kernel
theorem dE_compareSurely_26 : decode kE_compareSurely.2.1 26 = .ok (.getfield 75, 3) := by decide +kernel
theorem dE_compareSurely_29 : decode kE_compareSurely.2.1 29 = .ok (.iload_n 2, 1) := by decide +kernel
theorem dE_compareSurely_30 : decode kE_compareSurely.2.1 30 = .ok (.iaload, 1) := by decide +kernel
theorem dE_compareSurely_31 : decode kE_compareSurely.2.1 31 = .ok (.isub, 1) := by decide +kernel
theorem dE_compareSurely_32 : decode kE_compareSurely.2.1 32 = .ok (.istore_n 3, 1) := by decide +kernel
theorem dE_compareSurely_33 : decode kE_compareSurely.2.1 33 = .ok (.aload_n 0, 1) := by decide +kernel
theorem dE_compareSurely_34 : decode kE_compareSurely.2.1 34 = .ok (.getfield 86, 3) := by decide +kernel
theorem dE_compareSurely_37 : decode kE_compareSurely.2.1 37 = .ok (.aload_n 1, 1) := by decide +kernel
theorem dE_compareSurely_38 : decode kE_compareSurely.2.1 38 = .ok (.getfield 86, 3) := by decide +kernel
theorem dE_compareSurely_41 : decode kE_compareSurely.2.1 41 = .ok (.iadd, 1) := by decide +kernel
theorem dE_compareSurely_42 : decode kE_compareSurely.2.1 42 = .ok (.istore 4, 2) := by decide +kernel
theorem dE_compareSurely_44 : decode kE_compareSurely.2.1 44 = .ok (.iload_n 3, 1) := by decide +kernel
theorem dE_compareSurely_45 : decode kE_compareSurely.2.1 45 = .ok (.iload 4, 2) := by decide +kernel
theorem dE_compareSurely_47 : decode kE_compareSurely.2.1 47 = .ok (.if_icmp .le 5, 3) := by decide +kernel
theorem dE_compareSurely_50 : decode kE_compareSurely.2.1 50 = .ok (.iconst 1, 1) := by decide +kernel
theorem dE_compareSurely_51 : decode kE_compareSurely.2.1 51 = .ok (.ireturn, 1) := by decide +kernel
theorem dE_compareSurely_52 : decode kE_compareSurely.2.1 52 = .ok (.iload_n 3, 1) := by decide +kernel
theorem dE_compareSurely_53 : decode kE_compareSurely.2.1 53 = .ok (.iload 4, 2) := by decide +kernel
theorem dE_compareSurely_55 : decode kE_compareSurely.2.1 55 = .ok (.ineg, 1) := by decide +kernel
theorem dE_compareSurely_56 : decode kE_compareSurely.2.1 56 = .ok (.if_icmp .ge 7, 3) := by decide +kernel
theorem dE_compareSurely_59 : decode kE_compareSurely.2.1 59 = .ok (.iconst (-1), 1) := by decide +kernel
theorem dE_compareSurely_60 : decode kE_compareSurely.2.1 60 = .ok (.goto 4, 3) := by decide +kernel
theorem dE_compareSurely_63 : decode kE_compareSurely.2.1 63 = .ok (.iconst 0, 1) := by decide +kernel
theorem dE_compareSurely_64 : decode kE_compareSurely.2.1 64 = .ok (.ireturn, 1) := by decide +kernel
theorem dE_lowestValue_0 : decode kE_lowestValue.2.1 0 = .ok (.ldc 188, 2) := by decide +kernel
theorem dE_lowestValue_2 : decode kE_lowestValue.2.1 2 = .ok (.istore_n 1, 1) := by decide +kernel
theorem dE_lowestValue_3 : decode kE_lowestValue.2.1 3 = .ok (.iconst 0, 1) := by decide +kernel
theorem dE_lowestValue_4 : decode kE_lowestValue.2.1 4 = .ok (.istore_n 2, 1) := by decide +kernel
theorem dE_lowestValue_5 : decode kE_lowestValue.2.1 5 = .ok (.iload_n 2, 1) := by decide +kernel
theorem dE_lowestValue_6 : decode kE_lowestValue.2.1 6 = .ok (.iconst 4, 1) := by decide +kernel
theorem dE_lowestValue_7 : decode kE_lowestValue.2.1 7 = .ok (.if_icmp .ge 23, 3) := by decide +kernel
theorem dE_lowestValue_10 : decode kE_lowestValue.2.1 10 = .ok (.iload_n 1, 1) := by decide +kernel
theorem dE_lowestValue_11 : decode kE_lowestValue.2.1 11 = .ok (.aload_n 0, 1) := by decide +kernel
theorem dE_lowestValue_12 : decode kE_lowestValue.2.1 12 = .ok (.getfield 11, 3) := by decide +kernel
theorem dE_lowestValue_15 : decode kE_lowestValue.2.1 15 = .ok (.iload_n 2, 1) := by decide +kernel
theorem dE_lowestValue_16 : decode kE_lowestValue.2.1 16 = .ok (.aaload, 1) := by decide +kernel
theorem dE_lowestValue_17 : decode kE_lowestValue.2.1 17 = .ok (.invokevirtual 189, 3) := by decide +kernel
theorem dE_lowestValue_20 : decode kE_lowestValue.2.1 20 = .ok (.invokestatic 192, 3) := by decide +kernel
theorem dE_lowestValue_23 : decode kE_lowestValue.2.1 23 = .ok (.istore_n 1, 1) := by decide +kernel
theorem dE_lowestValue_24 : decode kE_lowestValue.2.1 24 = .ok (.iinc 2 1, 3) := by decide +kernel
theorem dE_lowestValue_27 : decode kE_lowestValue.2.1 27 = .ok (.goto (-22), 3) := by decide +kernel
theorem dE_lowestValue_30 : decode kE_lowestValue.2.1 30 = .ok (.iload_n 1, 1) := by decide +kernel
theorem dE_lowestValue_31 : decode kE_lowestValue.2.1 31 = .ok (.ireturn, 1) := by decide +kernel
end
section
theorem dE_highestValue_0 : decode kE_highestValue.2.1 0 = .ok (.ldc 197, 2) := by decide +kernel
theorem dE_highestValue_2 : decode kE_highestValue.2.1 2 = .ok (.istore_n 1, 1) := by decide +kernel
theorem dE_highestValue_3 : decode kE_highestValue.2.1 3 = .ok (.iconst 0, 1) := by decide +kernel
theorem dE_highestValue_4 : decode kE_highestValue.2.1 4 = .ok (.istore_n 2, 1) := by decide +kernel
theorem dE_highestValue_5 : decode kE_highestValue.2.1 5 = .ok (.iload_n 2, 1) := by decide +kernel
theorem dE_highestValue_6 : decode kE_highestValue.2.1 6 = .ok (.iconst 4, 1) := by decide +kernel
theorem dE_highestValue_7 : decode kE_highestValue.2.1 7 = .ok (.if_icmp .ge 23, 3) := by decide +kernel
theorem dE_highestValue_10 : decode kE_highestValue.2.1 10 = .ok (.iload_n 1, 1) := by decide +kernel
theorem dE_highestValue_11 : decode kE_highestValue.2.1 11 = .ok (.aload_n 0, 1) := by decide +kernel
theorem dE_highestValue_12 : decode kE_highestValue.2.1 12 = .ok (.getfield 11, 3) := by decide +kernel
theorem dE_highestValue_15 : decode kE_highestValue.2.1 15 = .ok (.iload_n 2, 1) := by decide +kernel
theorem dE_highestValue_16 : decode kE_highestValue.2.1 16 = .ok (.aaload, 1) := by decide +kernel
theorem dE_highestValue_17 : decode kE_highestValue.2.1 17 = .ok (.invokevirtual 198, 3) := by decide +kernel
theorem dE_highestValue_20 : decode kE_highestValue.2.1 20 = .ok (.invokestatic 201, 3) := by decide +kernel
theorem dE_highestValue_23 : decode kE_highestValue.2.1 23 = .ok (.istore_n 1, 1) := by decide +kernel
theorem dE_highestValue_24 : decode kE_highestValue.2.1 24 = .ok (.iinc 2 1, 3) := by decide +kernel
theorem dE_highestValue_27 : decode kE_highestValue.2.1 27 = .ok (.goto (-22), 3) := by decide +kernel
theorem dE_highestValue_30 : decode kE_highestValue.2.1 30 = .ok (.iload_n 1, 1) := by decide +kernel
theorem dE_highestValue_31 : decode kE_highestValue.2.1 31 = .ok (.ireturn, 1) := by decide +kernel
theorem dE_heightAbove_0 : decode kE_heightAbove.2.1 0 = .ok (.aload_n 0, 1) := by decide +kernel
theorem dE_heightAbove_1 : decode kE_heightAbove.2.1 1 = .ok (.getfield 45, 3) := by decide +kernel
theorem dE_heightAbove_4 : decode kE_heightAbove.2.1 4 = .ok (.iconst 1, 1) := by decide +kernel
theorem dE_heightAbove_5 : decode kE_heightAbove.2.1 5 = .ok (.if_icmp .lt 11, 3) := by decide +kernel
theorem dE_heightAbove_8 : decode kE_heightAbove.2.1 8 = .ok (.aload_n 2, 1) := by decide +kernel
theorem dE_heightAbove_9 : decode kE_heightAbove.2.1 9 = .ok (.iload_n 3, 1) := by decide +kernel
theorem dE_heightAbove_10 : decode kE_heightAbove.2.1 10 = .ok (.invokevirtual 154, 3) := by decide +kernel
theorem dE_heightAbove_13 : decode kE_heightAbove.2.1 13 = .ok (.ifCond .ne 7, 3) := by decide +kernel
theorem dE_heightAbove_16 : decode kE_heightAbove.2.1 16 = .ok (.iconst (-1), 1) := by decide +kernel
theorem dE_heightAbove_17 : decode kE_heightAbove.2.1 17 = .ok (.goto 16, 3) := by decide +kernel
theorem dE_heightAbove_20 : decode kE_heightAbove.2.1 20 = .ok (.aload_n 2, 1) := by decide +kernel
theorem dE_heightAbove_21 : decode kE_heightAbove.2.1 21 = .ok (.getfield 75, 3) := by decide +kernel
theorem dE_heightAbove_24 : decode kE_heightAbove.2.1 24 = .ok (.iload_n 3, 1) := by decide +kernel
theorem dE_heightAbove_25 : decode kE_heightAbove.2.1 25 = .ok (.iaload, 1) := by decide +kernel
theorem dE_heightAbove_26 : decode kE_heightAbove.2.1 26 = .ok (.iload_n 1, 1) := by decide +kernel
theorem dE_heightAbove_27 : decode kE_heightAbove.2.1 27 = .ok (.isub, 1) := by decide +kernel
theorem dE_heightAbove_28 : decode kE_heightAbove.2.1 28 = .ok (.aload_n 0, 1) := by decide +kernel
theorem dE_heightAbove_29 : decode kE_heightAbove.2.1 29 = .ok (.getfield 45, 3) := by decide +kernel
theorem dE_heightAbove_32 : decode kE_heightAbove.2.1 32 = .ok (.idiv, 1) := by decide +kernel
theorem dE_heightAbove_33 : decode kE_heightAbove.2.1 33 = .ok (.ireturn, 1) := by decide +kernel
theorem dE_readLaying_0 : decode kE_readLaying.2.1 0 = .ok (.aload_n 0, 1) := by decide +kernel
theorem dE_readLaying_1 : decode kE_readLaying.2.1 1 = .ok (.getfield 45, 3) := by decide +kernel
theorem dE_readLaying_4 : decode kE_readLaying.2.1 4 = .ok (.iconst 1, 1) := by decide +kernel
theorem dE_readLaying_5 : decode kE_readLaying.2.1 5 = .ok (.if_icmp .lt 13, 3) := by decide +kernel
theorem dE_readLaying_8 : decode kE_readLaying.2.1 8 = .ok (.iload_n 1, 1) := by decide +kernel
theorem dE_readLaying_9 : decode kE_readLaying.2.1 9 = .ok (.iconst 0, 1) := by decide +kernel
theorem dE_readLaying_10 : decode kE_readLaying.2.1 10 = .ok (.bipush 39, 2) := by decide +kernel
theorem dE_readLaying_12 : decode kE_readLaying.2.1 12 = .ok (.invokestatic 82, 3) := by decide +kernel
theorem dE_readLaying_15 : decode kE_readLaying.2.1 15 = .ok (.ifCond .ne 5, 3) := by decide +kernel
theorem dE_readLaying_18 : decode kE_readLaying.2.1 18 = .ok (.iconst 0, 1) := by decide +kernel
theorem dE_readLaying_19 : decode kE_readLaying.2.1 19 = .ok (.ireturn, 1) := by decide +kernel
theorem dE_readLaying_20 : decode kE_readLaying.2.1 20 = .ok (.aload_n 0, 1) := by decide +kernel
theorem dE_readLaying_21 : decode kE_readLaying.2.1 21 = .ok (.invokevirtual 134, 3) := by decide +kernel
theorem dE_readLaying_24 : decode kE_readLaying.2.1 24 = .ok (.istore_n 2, 1) := by decide +kernel
theorem dE_readLaying_25 : decode kE_readLaying.2.1 25 = .ok (.iconst 0, 1) := by decide +kernel
theorem dE_readLaying_26 : decode kE_readLaying.2.1 26 = .ok (.istore_n 3, 1) := by decide +kernel
theorem dE_readLaying_27 : decode kE_readLaying.2.1 27 = .ok (.iload_n 3, 1) := by decide +kernel
theorem dE_readLaying_28 : decode kE_readLaying.2.1 28 = .ok (.iconst 4, 1) := by decide +kernel
theorem dE_readLaying_29 : decode kE_readLaying.2.1 29 = .ok (.if_icmp .ge 48, 3) := by decide +kernel
theorem dE_readLaying_32 : decode kE_readLaying.2.1 32 = .ok (.aload_n 0, 1) := by decide +kernel
theorem dE_readLaying_33 : decode kE_readLaying.2.1 33 = .ok (.getfield 33, 3) := by decide +kernel
theorem dE_readLaying_36 : decode kE_readLaying.2.1 36 = .ok (.getfield 204, 3) := by decide +kernel
theorem dE_readLaying_39 : decode kE_readLaying.2.1 39 = .ok (.iload_n 3, 1) := by decide +kernel
theorem dE_readLaying_40 : decode kE_readLaying.2.1 40 = .ok (.aload_n 0, 1) := by decide +kernel
theorem dE_readLaying_41 : decode kE_readLaying.2.1 41 = .ok (.iload_n 2, 1) := by decide +kernel
theorem dE_readLaying_42 : decode kE_readLaying.2.1 42 = .ok (.aload_n 0, 1) := by decide +kernel
theorem dE_readLaying_43 : decode kE_readLaying.2.1 43 = .ok (.getfield 11, 3) := by decide +kernel
theorem dE_readLaying_46 : decode kE_readLaying.2.1 46 = .ok (.iload_n 3, 1) := by decide +kernel
theorem dE_readLaying_47 : decode kE_readLaying.2.1 47 = .ok (.aaload, 1) := by decide +kernel
theorem dE_readLaying_48 : decode kE_readLaying.2.1 48 = .ok (.iload_n 1, 1) := by decide +kernel
theorem dE_readLaying_49 : decode kE_readLaying.2.1 49 = .ok (.invokevirtual 141, 3) := by decide +kernel
theorem dE_readLaying_52 : decode kE_readLaying.2.1 52 = .ok (.iastore, 1) := by decide +kernel
theorem dE_readLaying_53 : decode kE_readLaying.2.1 53 = .ok (.aload_n 0, 1) := by decide +kernel
theorem dE_readLaying_54 : decode kE_readLaying.2.1 54 = .ok (.getfield 33, 3) := by decide +kernel
theorem dE_readLaying_57 : decode kE_readLaying.2.1 57 = .ok (.getfield 207, 3) := by decide +kernel
theorem dE_readLaying_60 : decode kE_readLaying.2.1 60 = .ok (.iload_n 3, 1) := by decide +kernel
theorem dE_readLaying_61 : decode kE_readLaying.2.1 61 = .ok (.aload_n 0, 1) := by decide +kernel
theorem dE_readLaying_62 : decode kE_readLaying.2.1 62 = .ok (.getfield 11, 3) := by decide +kernel
theorem dE_readLaying_65 : decode kE_readLaying.2.1 65 = .ok (.iload_n 3, 1) := by decide +kernel
theorem dE_readLaying_66 : decode kE_readLaying.2.1 66 = .ok (.aaload, 1) := by decide +kernel
theorem dE_readLaying_67 : decode kE_readLaying.2.1 67 = .ok (.getfield 145, 3) := by decide +kernel
theorem dE_readLaying_70 : decode kE_readLaying.2.1 70 = .ok (.iastore, 1) := by decide +kernel
theorem dE_readLaying_71 : decode kE_readLaying.2.1 71 = .ok (.iinc 3 1, 3) := by decide +kernel
theorem dE_readLaying_74 : decode kE_readLaying.2.1 74 = .ok (.goto (-47), 3) := by decide +kernel
theorem dE_readLaying_77 : decode kE_readLaying.2.1 77 = .ok (.aload_n 0, 1) := by decide +kernel
theorem dE_readLaying_78 : decode kE_readLaying.2.1 78 = .ok (.getfield 33, 3) := by decide +kernel
theorem dE_readLaying_81 : decode kE_readLaying.2.1 81 = .ok (.aload_n 0, 1) := by decide +kernel
theorem dE_readLaying_82 : decode kE_readLaying.2.1 82 = .ok (.getfield 48, 3) := by decide +kernel
theorem dE_readLaying_85 : decode kE_readLaying.2.1 85 = .ok (.aload_n 0, 1) := by decide +kernel
theorem dE_readLaying_86 : decode kE_readLaying.2.1 86 = .ok (.getfield 51, 3) := by decide +kernel
theorem dE_readLaying_89 : decode kE_readLaying.2.1 89 = .ok (.invokevirtual 210, 3) := by decide +kernel
theorem dE_readLaying_92 : decode kE_readLaying.2.1 92 = .ok (.iconst 1, 1) := by decide +kernel
theorem dE_readLaying_93 : decode kE_readLaying.2.1 93 = .ok (.ireturn, 1) := by decide +kernel
theorem dE_soundsAbove_0 : decode kE_soundsAbove.2.1 0 = .ok (.aload_n 0, 1) := by decide +kernel
theorem dE_soundsAbove_1 : decode kE_soundsAbove.2.1 1 = .ok (.getfield 45, 3) := by decide +kernel
theorem dE_soundsAbove_4 : decode kE_soundsAbove.2.1 4 = .ok (.aload_n 0, 1) := by decide +kernel
theorem dE_soundsAbove_5 : decode kE_soundsAbove.2.1 5 = .ok (.getfield 33, 3) := by decide +kernel
theorem dE_soundsAbove_8 : decode kE_soundsAbove.2.1 8 = .ok (.getfield 204, 3) := by decide +kernel
theorem dE_soundsAbove_11 : decode kE_soundsAbove.2.1 11 = .ok (.iload_n 1, 1) := by decide +kernel
theorem dE_soundsAbove_12 : decode kE_soundsAbove.2.1 12 = .ok (.iaload, 1) := by decide +kernel
theorem dE_soundsAbove_13 : decode kE_soundsAbove.2.1 13 = .ok (.imul, 1) := by decide +kernel
theorem dE_soundsAbove_14 : decode kE_soundsAbove.2.1 14 = .ok (.aload_n 0, 1) := by decide +kernel
theorem dE_soundsAbove_15 : decode kE_soundsAbove.2.1 15 = .ok (.getfield 11, 3) := by decide +kernel
theorem dE_soundsAbove_18 : decode kE_soundsAbove.2.1 18 = .ok (.iload_n 1, 1) := by decide +kernel
theorem dE_soundsAbove_19 : decode kE_soundsAbove.2.1 19 = .ok (.aaload, 1) := by decide +kernel
theorem dE_soundsAbove_20 : decode kE_soundsAbove.2.1 20 = .ok (.getfield 86, 3) := by decide +kernel
theorem dE_soundsAbove_23 : decode kE_soundsAbove.2.1 23 = .ok (.isub, 1) := by decide +kernel
theorem dE_soundsAbove_24 : decode kE_soundsAbove.2.1 24 = .ok (.istore_n 3, 1) := by decide +kernel
theorem dE_soundsAbove_25 : decode kE_soundsAbove.2.1 25 = .ok (.aload_n 0, 1) := by decide +kernel
theorem dE_soundsAbove_26 : decode kE_soundsAbove.2.1 26 = .ok (.getfield 45, 3) := by decide +kernel
theorem dE_soundsAbove_29 : decode kE_soundsAbove.2.1 29 = .ok (.aload_n 0, 1) := by decide +kernel
theorem dE_soundsAbove_30 : decode kE_soundsAbove.2.1 30 = .ok (.getfield 33, 3) := by decide +kernel
theorem dE_soundsAbove_33 : decode kE_soundsAbove.2.1 33 = .ok (.getfield 204, 3) := by decide +kernel
theorem dE_soundsAbove_36 : decode kE_soundsAbove.2.1 36 = .ok (.iload_n 2, 1) := by decide +kernel
theorem dE_soundsAbove_37 : decode kE_soundsAbove.2.1 37 = .ok (.iaload, 1) := by decide +kernel
theorem dE_soundsAbove_38 : decode kE_soundsAbove.2.1 38 = .ok (.imul, 1) := by decide +kernel
theorem dE_soundsAbove_39 : decode kE_soundsAbove.2.1 39 = .ok (.aload_n 0, 1) := by decide +kernel
theorem dE_soundsAbove_40 : decode kE_soundsAbove.2.1 40 = .ok (.getfield 45, 3) := by decide +kernel
theorem dE_soundsAbove_43 : decode kE_soundsAbove.2.1 43 = .ok (.iadd, 1) := by decide +kernel
theorem dE_soundsAbove_44 : decode kE_soundsAbove.2.1 44 = .ok (.iconst 1, 1) := by decide +kernel
theorem dE_soundsAbove_45 : decode kE_soundsAbove.2.1 45 = .ok (.isub, 1) := by decide +kernel
theorem dE_soundsAbove_46 : decode kE_soundsAbove.2.1 46 = .ok (.aload_n 0, 1) := by decide +kernel
theorem dE_soundsAbove_47 : decode kE_soundsAbove.2.1 47 = .ok (.getfield 11, 3) := by decide +kernel
theorem dE_soundsAbove_50 : decode kE_soundsAbove.2.1 50 = .ok (.iload_n 2, 1) := by decide +kernel
theorem dE_soundsAbove_51 : decode kE_soundsAbove.2.1 51 = .ok (.aaload, 1) := by decide +kernel
theorem dE_soundsAbove_52 : decode kE_soundsAbove.2.1 52 = .ok (.getfield 86, 3) := by decide +kernel
theorem dE_soundsAbove_55 : decode kE_soundsAbove.2.1 55 = .ok (.iadd, 1) := by decide +kernel
theorem dE_soundsAbove_56 : decode kE_soundsAbove.2.1 56 = .ok (.istore 4, 2) := by decide +kernel
theorem dE_soundsAbove_58 : decode kE_soundsAbove.2.1 58 = .ok (.iload_n 3, 1) := by decide +kernel
theorem dE_soundsAbove_59 : decode kE_soundsAbove.2.1 59 = .ok (.iload 4, 2) := by decide +kernel
theorem dE_soundsAbove_61 : decode kE_soundsAbove.2.1 61 = .ok (.if_icmp .le 7, 3) := by decide +kernel
theorem dE_soundsAbove_64 : decode kE_soundsAbove.2.1 64 = .ok (.iconst 1, 1) := by decide +kernel
theorem dE_soundsAbove_65 : decode kE_soundsAbove.2.1 65 = .ok (.goto 4, 3) := by decide +kernel
theorem dE_soundsAbove_68 : decode kE_soundsAbove.2.1 68 = .ok (.iconst 0, 1) := by decide +kernel
theorem dE_soundsAbove_69 : decode kE_soundsAbove.2.1 69 = .ok (.ireturn, 1) := by decide +kernel
theorem dE_markSought_0 : decode kE_markSought.2.1 0 = .ok (.iconst 0, 1) := by decide +kernel
theorem dE_markSought_1 : decode kE_markSought.2.1 1 = .ok (.istore_n 3, 1) := by decide +kernel
theorem dE_markSought_2 : decode kE_markSought.2.1 2 = .ok (.iload_n 3, 1) := by decide +kernel
theorem dE_markSought_3 : decode kE_markSought.2.1 3 = .ok (.bipush 40, 2) := by decide +kernel
theorem dE_markSought_5 : decode kE_markSought.2.1 5 = .ok (.if_icmp .ge 41, 3) := by decide +kernel
theorem dE_markSought_8 : decode kE_markSought.2.1 8 = .ok (.aload_n 0, 1) := by decide +kernel
theorem dE_markSought_9 : decode kE_markSought.2.1 9 = .ok (.getfield 37, 3) := by decide +kernel
theorem dE_markSought_12 : decode kE_markSought.2.1 12 = .ok (.iload_n 3, 1) := by decide +kernel
theorem dE_markSought_13 : decode kE_markSought.2.1 13 = .ok (.iload_n 2, 1) := by decide +kernel
theorem dE_markSought_14 : decode kE_markSought.2.1 14 = .ok (.iconst 2, 1) := by decide +kernel
theorem dE_markSought_15 : decode kE_markSought.2.1 15 = .ok (.if_icmp .ne 23, 3) := by decide +kernel
theorem dE_markSought_18 : decode kE_markSought.2.1 18 = .ok (.aload_n 1, 1) := by decide +kernel
theorem dE_markSought_19 : decode kE_markSought.2.1 19 = .ok (.iload_n 3, 1) := by decide +kernel
theorem dE_markSought_20 : decode kE_markSought.2.1 20 = .ok (.invokevirtual 72, 3) := by decide +kernel
theorem dE_markSought_23 : decode kE_markSought.2.1 23 = .ok (.ifCond .eq 15, 3) := by decide +kernel
theorem dE_markSought_26 : decode kE_markSought.2.1 26 = .ok (.aload_n 1, 1) := by decide +kernel
theorem dE_markSought_27 : decode kE_markSought.2.1 27 = .ok (.iload_n 3, 1) := by decide +kernel
theorem dE_markSought_28 : decode kE_markSought.2.1 28 = .ok (.invokevirtual 154, 3) := by decide +kernel
theorem dE_markSought_31 : decode kE_markSought.2.1 31 = .ok (.ifCond .ne 7, 3) := by decide +kernel
theorem dE_markSought_34 : decode kE_markSought.2.1 34 = .ok (.iconst 1, 1) := by decide +kernel
theorem dE_markSought_35 : decode kE_markSought.2.1 35 = .ok (.goto 4, 3) := by decide +kernel
theorem dE_markSought_38 : decode kE_markSought.2.1 38 = .ok (.iconst 0, 1) := by decide +kernel
theorem dE_markSought_39 : decode kE_markSought.2.1 39 = .ok (.bastore, 1) := by decide +kernel
theorem dE_markSought_40 : decode kE_markSought.2.1 40 = .ok (.iinc 3 1, 3) := by decide +kernel
theorem dE_markSought_43 : decode kE_markSought.2.1 43 = .ok (.goto (-41), 3) := by decide +kernel
theorem dE_markSought_46 : decode kE_markSought.2.1 46 = .ok (.iload_n 2, 1) := by decide +kernel
theorem dE_markSought_47 : decode kE_markSought.2.1 47 = .ok (.ifCond .ne 11, 3) := by decide +kernel
theorem dE_markSought_50 : decode kE_markSought.2.1 50 = .ok (.aload_n 0, 1) := by decide +kernel
theorem dE_markSought_51 : decode kE_markSought.2.1 51 = .ok (.aload_n 1, 1) := by decide +kernel
theorem dE_markSought_52 : decode kE_markSought.2.1 52 = .ok (.invokevirtual 214, 3) := by decide +kernel
theorem dE_markSought_55 : decode kE_markSought.2.1 55 = .ok (.goto 13, 3) := by decide +kernel
theorem dE_markSought_58 : decode kE_markSought.2.1 58 = .ok (.iload_n 2, 1) := by decide +kernel
theorem dE_markSought_59 : decode kE_markSought.2.1 59 = .ok (.iconst 1, 1) := by decide +kernel
theorem dE_markSought_60 : decode kE_markSought.2.1 60 = .ok (.if_icmp .ne 8, 3) := by decide +kernel
theorem dE_markSought_63 : decode kE_markSought.2.1 63 = .ok (.aload_n 0, 1) := by decide +kernel
theorem dE_markSought_64 : decode kE_markSought.2.1 64 = .ok (.aload_n 1, 1) := by decide +kernel
theorem dE_markSought_65 : decode kE_markSought.2.1 65 = .ok (.invokevirtual 218, 3) := by decide +kernel
theorem dE_markSought_68 : decode kE_markSought.2.1 68 = .ok (.return_, 1) := by decide +kernel
theorem dE_markTurns_0 : decode kE_markTurns.2.1 0 = .ok (.aload_n 0, 1) := by decide +kernel
theorem dE_markTurns_1 : decode kE_markTurns.2.1 1 = .ok (.getfield 19, 3) := by decide +kernel
theorem dE_markTurns_4 : decode kE_markTurns.2.1 4 = .ok (.aload_n 1, 1) := by decide +kernel
theorem dE_markTurns_5 : decode kE_markTurns.2.1 5 = .ok (.aload_n 0, 1) := by decide +kernel
theorem dE_markTurns_6 : decode kE_markTurns.2.1 6 = .ok (.getfield 41, 3) := by decide +kernel
theorem dE_markTurns_9 : decode kE_markTurns.2.1 9 = .ok (.invokevirtual 180, 3) := by decide +kernel
theorem dE_markTurns_12 : decode kE_markTurns.2.1 12 = .ok (.iconst 0, 1) := by decide +kernel
theorem dE_markTurns_13 : decode kE_markTurns.2.1 13 = .ok (.istore_n 2, 1) := by decide +kernel
theorem dE_markTurns_14 : decode kE_markTurns.2.1 14 = .ok (.iload_n 2, 1) := by decide +kernel
theorem dE_markTurns_15 : decode kE_markTurns.2.1 15 = .ok (.aload_n 0, 1) := by decide +kernel
theorem dE_markTurns_16 : decode kE_markTurns.2.1 16 = .ok (.getfield 19, 3) := by decide +kernel
theorem dE_markTurns_19 : decode kE_markTurns.2.1 19 = .ok (.getfield 113, 3) := by decide +kernel
theorem dE_markTurns_22 : decode kE_markTurns.2.1 22 = .ok (.if_icmp .ge 24, 3) := by decide +kernel
theorem dE_markTurns_25 : decode kE_markTurns.2.1 25 = .ok (.aload_n 0, 1) := by decide +kernel
theorem dE_markTurns_26 : decode kE_markTurns.2.1 26 = .ok (.getfield 37, 3) := by decide +kernel
theorem dE_markTurns_29 : decode kE_markTurns.2.1 29 = .ok (.aload_n 0, 1) := by decide +kernel
theorem dE_markTurns_30 : decode kE_markTurns.2.1 30 = .ok (.getfield 19, 3) := by decide +kernel
theorem dE_markTurns_33 : decode kE_markTurns.2.1 33 = .ok (.getfield 116, 3) := by decide +kernel
theorem dE_markTurns_36 : decode kE_markTurns.2.1 36 = .ok (.iload_n 2, 1) := by decide +kernel
theorem dE_markTurns_37 : decode kE_markTurns.2.1 37 = .ok (.iaload, 1) := by decide +kernel
theorem dE_markTurns_38 : decode kE_markTurns.2.1 38 = .ok (.iconst 1, 1) := by decide +kernel
theorem dE_markTurns_39 : decode kE_markTurns.2.1 39 = .ok (.bastore, 1) := by decide +kernel
theorem dE_markTurns_40 : decode kE_markTurns.2.1 40 = .ok (.iinc 2 1, 3) := by decide +kernel
theorem dE_markTurns_43 : decode kE_markTurns.2.1 43 = .ok (.goto (-29), 3) := by decide +kernel
theorem dE_markTurns_46 : decode kE_markTurns.2.1 46 = .ok (.return_, 1) := by decide +kernel
theorem dE_markCrossings_0 : decode kE_markCrossings.2.1 0 = .ok (.iconst 0, 1) := by decide +kernel
theorem dE_markCrossings_1 : decode kE_markCrossings.2.1 1 = .ok (.istore_n 2, 1) := by decide +kernel
theorem dE_markCrossings_2 : decode kE_markCrossings.2.1 2 = .ok (.iload_n 2, 1) := by decide +kernel
theorem dE_markCrossings_3 : decode kE_markCrossings.2.1 3 = .ok (.iconst 4, 1) := by decide +kernel
theorem dE_markCrossings_4 : decode kE_markCrossings.2.1 4 = .ok (.if_icmp .ge 68, 3) := by decide +kernel
theorem dE_markCrossings_7 : decode kE_markCrossings.2.1 7 = .ok (.iload_n 2, 1) := by decide +kernel
theorem dE_markCrossings_8 : decode kE_markCrossings.2.1 8 = .ok (.aload_n 0, 1) := by decide +kernel
theorem dE_markCrossings_9 : decode kE_markCrossings.2.1 9 = .ok (.getfield 54, 3) := by decide +kernel
theorem dE_markCrossings_12 : decode kE_markCrossings.2.1 12 = .ok (.if_icmp .ne 6, 3) := by decide +kernel
theorem dE_markCrossings_15 : decode kE_markCrossings.2.1 15 = .ok (.goto 51, 3) := by decide +kernel
theorem dE_markCrossings_18 : decode kE_markCrossings.2.1 18 = .ok (.aload_n 0, 1) := by decide +kernel
theorem dE_markCrossings_19 : decode kE_markCrossings.2.1 19 = .ok (.getfield 26, 3) := by decide +kernel
theorem dE_markCrossings_22 : decode kE_markCrossings.2.1 22 = .ok (.aload_n 1, 1) := by decide +kernel
theorem dE_markCrossings_23 : decode kE_markCrossings.2.1 23 = .ok (.aload_n 0, 1) := by decide +kernel
theorem dE_markCrossings_24 : decode kE_markCrossings.2.1 24 = .ok (.getfield 11, 3) := by decide +kernel
theorem dE_markCrossings_27 : decode kE_markCrossings.2.1 27 = .ok (.iload_n 2, 1) := by decide +kernel
theorem dE_markCrossings_28 : decode kE_markCrossings.2.1 28 = .ok (.aaload, 1) := by decide +kernel
theorem dE_markCrossings_29 : decode kE_markCrossings.2.1 29 = .ok (.invokevirtual 183, 3) := by decide +kernel
theorem dE_markCrossings_32 : decode kE_markCrossings.2.1 32 = .ok (.iconst 0, 1) := by decide +kernel
theorem dE_markCrossings_33 : decode kE_markCrossings.2.1 33 = .ok (.istore_n 3, 1) := by decide +kernel
theorem dE_markCrossings_34 : decode kE_markCrossings.2.1 34 = .ok (.iload_n 3, 1) := by decide +kernel
theorem dE_markCrossings_35 : decode kE_markCrossings.2.1 35 = .ok (.aload_n 0, 1) := by decide +kernel
theorem dE_markCrossings_36 : decode kE_markCrossings.2.1 36 = .ok (.getfield 26, 3) := by decide +kernel
theorem dE_markCrossings_39 : decode kE_markCrossings.2.1 39 = .ok (.getfield 130, 3) := by decide +kernel
theorem dE_markCrossings_42 : decode kE_markCrossings.2.1 42 = .ok (.if_icmp .ge 24, 3) := by decide +kernel
theorem dE_markCrossings_45 : decode kE_markCrossings.2.1 45 = .ok (.aload_n 0, 1) := by decide +kernel
theorem dE_markCrossings_46 : decode kE_markCrossings.2.1 46 = .ok (.getfield 37, 3) := by decide +kernel
theorem dE_markCrossings_49 : decode kE_markCrossings.2.1 49 = .ok (.aload_n 0, 1) := by decide +kernel
theorem dE_markCrossings_50 : decode kE_markCrossings.2.1 50 = .ok (.getfield 26, 3) := by decide +kernel
theorem dE_markCrossings_53 : decode kE_markCrossings.2.1 53 = .ok (.getfield 131, 3) := by decide +kernel
theorem dE_markCrossings_56 : decode kE_markCrossings.2.1 56 = .ok (.iload_n 3, 1) := by decide +kernel
theorem dE_markCrossings_57 : decode kE_markCrossings.2.1 57 = .ok (.iaload, 1) := by decide +kernel
theorem dE_markCrossings_58 : decode kE_markCrossings.2.1 58 = .ok (.iconst 1, 1) := by decide +kernel
theorem dE_markCrossings_59 : decode kE_markCrossings.2.1 59 = .ok (.bastore, 1) := by decide +kernel
theorem dE_markCrossings_60 : decode kE_markCrossings.2.1 60 = .ok (.iinc 3 1, 3) := by decide +kernel
theorem dE_markCrossings_63 : decode kE_markCrossings.2.1 63 = .ok (.goto (-29), 3) := by decide +kernel
theorem dE_markCrossings_66 : decode kE_markCrossings.2.1 66 = .ok (.iinc 2 1, 3) := by decide +kernel
theorem dE_markCrossings_69 : decode kE_markCrossings.2.1 69 = .ok (.goto (-67), 3) := by decide +kernel
theorem dE_markCrossings_72 : decode kE_markCrossings.2.1 72 = .ok (.return_, 1) := by decide +kernel
theorem dE_markBehind_0 : decode kE_markBehind.2.1 0 = .ok (.iload_n 1, 1) := by decide +kernel
theorem dE_markBehind_1 : decode kE_markBehind.2.1 1 = .ok (.iconst 1, 1) := by decide +kernel
theorem dE_markBehind_2 : decode kE_markBehind.2.1 2 = .ok (.iadd, 1) := by decide +kernel
theorem dE_markBehind_3 : decode kE_markBehind.2.1 3 = .ok (.istore_n 2, 1) := by decide +kernel
theorem dE_markBehind_4 : decode kE_markBehind.2.1 4 = .ok (.iload_n 2, 1) := by decide +kernel
theorem dE_markBehind_5 : decode kE_markBehind.2.1 5 = .ok (.bipush 40, 2) := by decide +kernel
theorem dE_markBehind_7 : decode kE_markBehind.2.1 7 = .ok (.if_icmp .ge 20, 3) := by decide +kernel
theorem dE_markBehind_10 : decode kE_markBehind.2.1 10 = .ok (.aload_n 0, 1) := by decide +kernel
theorem dE_markBehind_11 : decode kE_markBehind.2.1 11 = .ok (.getfield 37, 3) := by decide +kernel
theorem dE_markBehind_14 : decode kE_markBehind.2.1 14 = .ok (.iload_n 2, 1) := by decide +kernel
theorem dE_markBehind_15 : decode kE_markBehind.2.1 15 = .ok (.baload, 1) := by decide +kernel
theorem dE_markBehind_16 : decode kE_markBehind.2.1 16 = .ok (.ifCond .eq 5, 3) := by decide +kernel
theorem dE_markBehind_19 : decode kE_markBehind.2.1 19 = .ok (.iload_n 2, 1) := by decide +kernel
theorem dE_markBehind_20 : decode kE_markBehind.2.1 20 = .ok (.ireturn, 1) := by decide +kernel
theorem dE_markBehind_21 : decode kE_markBehind.2.1 21 = .ok (.iinc 2 1, 3) := by decide +kernel
theorem dE_markBehind_24 : decode kE_markBehind.2.1 24 = .ok (.goto (-20), 3) := by decide +kernel
theorem dE_markBehind_27 : decode kE_markBehind.2.1 27 = .ok (.iconst (-1), 1) := by decide +kernel
theorem dE_markBehind_28 : decode kE_markBehind.2.1 28 = .ok (.ireturn, 1) := by decide +kernel
theorem dE_markAhead_0 : decode kE_markAhead.2.1 0 = .ok (.iload_n 1, 1) := by decide +kernel
theorem dE_markAhead_1 : decode kE_markAhead.2.1 1 = .ok (.iconst 1, 1) := by decide +kernel
theorem dE_markAhead_2 : decode kE_markAhead.2.1 2 = .ok (.isub, 1) := by decide +kernel
theorem dE_markAhead_3 : decode kE_markAhead.2.1 3 = .ok (.istore_n 2, 1) := by decide +kernel
theorem dE_markAhead_4 : decode kE_markAhead.2.1 4 = .ok (.iload_n 2, 1) := by decide +kernel
theorem dE_markAhead_5 : decode kE_markAhead.2.1 5 = .ok (.ifCond .lt 20, 3) := by decide +kernel
theorem dE_markAhead_8 : decode kE_markAhead.2.1 8 = .ok (.aload_n 0, 1) := by decide +kernel
theorem dE_markAhead_9 : decode kE_markAhead.2.1 9 = .ok (.getfield 37, 3) := by decide +kernel
theorem dE_markAhead_12 : decode kE_markAhead.2.1 12 = .ok (.iload_n 2, 1) := by decide +kernel
theorem dE_markAhead_13 : decode kE_markAhead.2.1 13 = .ok (.baload, 1) := by decide +kernel
theorem dE_markAhead_14 : decode kE_markAhead.2.1 14 = .ok (.ifCond .eq 5, 3) := by decide +kernel
theorem dE_markAhead_17 : decode kE_markAhead.2.1 17 = .ok (.iload_n 2, 1) := by decide +kernel
theorem dE_markAhead_18 : decode kE_markAhead.2.1 18 = .ok (.ireturn, 1) := by decide +kernel
theorem dE_markAhead_19 : decode kE_markAhead.2.1 19 = .ok (.iinc 2 (-1), 3) := by decide +kernel
theorem dE_markAhead_22 : decode kE_markAhead.2.1 22 = .ok (.goto (-18), 3) := by decide +kernel
theorem dE_markAhead_25 : decode kE_markAhead.2.1 25 = .ok (.iconst (-1), 1) := by decide +kernel
theorem dE_markAhead_26 : decode kE_markAhead.2.1 26 = .ok (.ireturn, 1) := by decide +kernel
theorem dL_init_0 : decode kL_init.2.1 0 = .ok (.aload_n 0, 1) := by decide +kernel
theorem dL_init_1 : decode kL_init.2.1 1 = .ok (.invokespecial 3, 3) := by decide +kernel
theorem dL_init_4 : decode kL_init.2.1 4 = .ok (.aload_n 0, 1) := by decide +kernel
theorem dL_init_5 : decode kL_init.2.1 5 = .ok (.iconst 4, 1) := by decide +kernel
theorem dL_init_6 : decode kL_init.2.1 6 = .ok (.newarray .int, 2) := by decide +kernel
theorem dL_init_8 : decode kL_init.2.1 8 = .ok (.putfield 9, 3) := by decide +kernel
theorem dL_init_11 : decode kL_init.2.1 11 = .ok (.aload_n 0, 1) := by decide +kernel
theorem dL_init_12 : decode kL_init.2.1 12 = .ok (.iconst 4, 1) := by decide +kernel
theorem dL_init_13 : decode kL_init.2.1 13 = .ok (.newarray .int, 2) := by decide +kernel
theorem dL_init_15 : decode kL_init.2.1 15 = .ok (.putfield 15, 3) := by decide +kernel
theorem dL_init_18 : decode kL_init.2.1 18 = .ok (.aload_n 0, 1) := by decide +kernel
theorem dL_init_19 : decode kL_init.2.1 19 = .ok (.iconst 4, 1) := by decide +kernel
theorem dL_init_20 : decode kL_init.2.1 20 = .ok (.newarray .int, 2) := by decide +kernel
theorem dL_init_22 : decode kL_init.2.1 22 = .ok (.putfield 18, 3) := by decide +kernel
theorem dL_init_25 : decode kL_init.2.1 25 = .ok (.aload_n 0, 1) := by decide +kernel
theorem dL_init_26 : decode kL_init.2.1 26 = .ok (.iconst 4, 1) := by decide +kernel
theorem dL_init_27 : decode kL_init.2.1 27 = .ok (.newarray .int, 2) := by decide +kernel
theorem dL_init_29 : decode kL_init.2.1 29 = .ok (.putfield 21, 3) := by decide +kernel
theorem dL_init_32 : decode kL_init.2.1 32 = .ok (.aload_n 0, 1) := by decide +kernel
theorem dL_init_33 : decode kL_init.2.1 33 = .ok (.iconst 0, 1) := by decide +kernel
theorem dL_init_34 : decode kL_init.2.1 34 = .ok (.putfield 24, 3) := by decide +kernel
theorem dL_init_37 : decode kL_init.2.1 37 = .ok (.aload_n 0, 1) := by decide +kernel
theorem dL_init_38 : decode kL_init.2.1 38 = .ok (.iconst 0, 1) := by decide +kernel
theorem dL_init_39 : decode kL_init.2.1 39 = .ok (.putfield 28, 3) := by decide +kernel
theorem dL_init_42 : decode kL_init.2.1 42 = .ok (.aload_n 0, 1) := by decide +kernel
theorem dL_init_43 : decode kL_init.2.1 43 = .ok (.iconst 0, 1) := by decide +kernel
theorem dL_init_44 : decode kL_init.2.1 44 = .ok (.putfield 31, 3) := by decide +kernel
theorem dL_init_47 : decode kL_init.2.1 47 = .ok (.return_, 1) := by decide +kernel
theorem dL_find_0 : decode kL_find.2.1 0 = .ok (.aload_n 0, 1) := by decide +kernel
theorem dL_find_1 : decode kL_find.2.1 1 = .ok (.iload_n 1, 1) := by decide +kernel
theorem dL_find_2 : decode kL_find.2.1 2 = .ok (.putfield 24, 3) := by decide +kernel
theorem dL_find_5 : decode kL_find.2.1 5 = .ok (.aload_n 0, 1) := by decide +kernel
theorem dL_find_6 : decode kL_find.2.1 6 = .ok (.iload_n 2, 1) := by decide +kernel
theorem dL_find_7 : decode kL_find.2.1 7 = .ok (.putfield 28, 3) := by decide +kernel
theorem dL_find_10 : decode kL_find.2.1 10 = .ok (.aload_n 0, 1) := by decide +kernel
theorem dL_find_11 : decode kL_find.2.1 11 = .ok (.ldc 36, 2) := by decide +kernel
theorem dL_find_13 : decode kL_find.2.1 13 = .ok (.putfield 31, 3) := by decide +kernel
theorem dL_find_16 : decode kL_find.2.1 16 = .ok (.aload_n 0, 1) := by decide +kernel
theorem dL_find_17 : decode kL_find.2.1 17 = .ok (.iconst 0, 1) := by decide +kernel
theorem dL_find_18 : decode kL_find.2.1 18 = .ok (.iconst 0, 1) := by decide +kernel
theorem dL_find_19 : decode kL_find.2.1 19 = .ok (.invokevirtual 37, 3) := by decide +kernel
theorem dL_find_22 : decode kL_find.2.1 22 = .ok (.return_, 1) := by decide +kernel
theorem dL_tryFrom_0 : decode kL_tryFrom.2.1 0 = .ok (.iload_n 2, 1) := by decide +kernel
theorem dL_tryFrom_1 : decode kL_tryFrom.2.1 1 = .ok (.aload_n 0, 1) := by decide +kernel
theorem dL_tryFrom_2 : decode kL_tryFrom.2.1 2 = .ok (.getfield 31, 3) := by decide +kernel
theorem dL_tryFrom_5 : decode kL_tryFrom.2.1 5 = .ok (.if_icmp .lt 4, 3) := by decide +kernel
theorem dL_tryFrom_8 : decode kL_tryFrom.2.1 8 = .ok (.return_, 1) := by decide +kernel
theorem dL_tryFrom_9 : decode kL_tryFrom.2.1 9 = .ok (.iload_n 1, 1) := by decide +kernel
theorem dL_tryFrom_10 : decode kL_tryFrom.2.1 10 = .ok (.iconst 4, 1) := by decide +kernel
theorem dL_tryFrom_11 : decode kL_tryFrom.2.1 11 = .ok (.if_icmp .lt 23, 3) := by decide +kernel
theorem dL_tryFrom_14 : decode kL_tryFrom.2.1 14 = .ok (.aload_n 0, 1) := by decide +kernel
theorem dL_tryFrom_15 : decode kL_tryFrom.2.1 15 = .ok (.iload_n 2, 1) := by decide +kernel
theorem dL_tryFrom_16 : decode kL_tryFrom.2.1 16 = .ok (.putfield 31, 3) := by decide +kernel
theorem dL_tryFrom_19 : decode kL_tryFrom.2.1 19 = .ok (.aload_n 0, 1) := by decide +kernel
theorem dL_tryFrom_20 : decode kL_tryFrom.2.1 20 = .ok (.getfield 21, 3) := by decide +kernel
theorem dL_tryFrom_23 : decode kL_tryFrom.2.1 23 = .ok (.iconst 0, 1) := by decide +kernel
theorem dL_tryFrom_24 : decode kL_tryFrom.2.1 24 = .ok (.aload_n 0, 1) := by decide +kernel
theorem dL_tryFrom_25 : decode kL_tryFrom.2.1 25 = .ok (.getfield 18, 3) := by decide +kernel
theorem dL_tryFrom_28 : decode kL_tryFrom.2.1 28 = .ok (.iconst 0, 1) := by decide +kernel
theorem dL_tryFrom_29 : decode kL_tryFrom.2.1 29 = .ok (.iconst 4, 1) := by decide +kernel
theorem dL_tryFrom_30 : decode kL_tryFrom.2.1 30 = .ok (.invokestatic 41, 3) := by decide +kernel
theorem dL_tryFrom_33 : decode kL_tryFrom.2.1 33 = .ok (.return_, 1) := by decide +kernel
theorem dL_tryFrom_34 : decode kL_tryFrom.2.1 34 = .ok (.aload_n 0, 1) := by decide +kernel
theorem dL_tryFrom_35 : decode kL_tryFrom.2.1 35 = .ok (.getfield 9, 3) := by decide +kernel
theorem dL_tryFrom_38 : decode kL_tryFrom.2.1 38 = .ok (.iload_n 1, 1) := by decide +kernel
theorem dL_tryFrom_39 : decode kL_tryFrom.2.1 39 = .ok (.iaload, 1) := by decide +kernel
theorem dL_tryFrom_40 : decode kL_tryFrom.2.1 40 = .ok (.iconst (-1), 1) := by decide +kernel
theorem dL_tryFrom_41 : decode kL_tryFrom.2.1 41 = .ok (.if_icmp .ne 19, 3) := by decide +kernel
theorem dL_tryFrom_44 : decode kL_tryFrom.2.1 44 = .ok (.aload_n 0, 1) := by decide +kernel
theorem dL_tryFrom_45 : decode kL_tryFrom.2.1 45 = .ok (.getfield 21, 3) := by decide +kernel
theorem dL_tryFrom_48 : decode kL_tryFrom.2.1 48 = .ok (.iload_n 1, 1) := by decide +kernel
theorem dL_tryFrom_49 : decode kL_tryFrom.2.1 49 = .ok (.iconst (-1), 1) := by decide +kernel
theorem dL_tryFrom_50 : decode kL_tryFrom.2.1 50 = .ok (.iastore, 1) := by decide +kernel
theorem dL_tryFrom_51 : decode kL_tryFrom.2.1 51 = .ok (.aload_n 0, 1) := by decide +kernel
theorem dL_tryFrom_52 : decode kL_tryFrom.2.1 52 = .ok (.iload_n 1, 1) := by decide +kernel
theorem dL_tryFrom_53 : decode kL_tryFrom.2.1 53 = .ok (.iconst 1, 1) := by decide +kernel
theorem dL_tryFrom_54 : decode kL_tryFrom.2.1 54 = .ok (.iadd, 1) := by decide +kernel
theorem dL_tryFrom_55 : decode kL_tryFrom.2.1 55 = .ok (.iload_n 2, 1) := by decide +kernel
theorem dL_tryFrom_56 : decode kL_tryFrom.2.1 56 = .ok (.invokevirtual 37, 3) := by decide +kernel
theorem dL_tryFrom_59 : decode kL_tryFrom.2.1 59 = .ok (.return_, 1) := by decide +kernel
theorem dL_tryFrom_60 : decode kL_tryFrom.2.1 60 = .ok (.iconst 0, 1) := by decide +kernel
theorem dL_tryFrom_61 : decode kL_tryFrom.2.1 61 = .ok (.istore_n 3, 1) := by decide +kernel
theorem dL_tryFrom_62 : decode kL_tryFrom.2.1 62 = .ok (.iload_n 3, 1) := by decide +kernel
theorem dL_tryFrom_63 : decode kL_tryFrom.2.1 63 = .ok (.iconst 4, 1) := by decide +kernel
theorem dL_tryFrom_64 : decode kL_tryFrom.2.1 64 = .ok (.if_icmp .ge 40, 3) := by decide +kernel
theorem dL_tryFrom_67 : decode kL_tryFrom.2.1 67 = .ok (.aload_n 0, 1) := by decide +kernel
theorem dL_tryFrom_68 : decode kL_tryFrom.2.1 68 = .ok (.iload_n 1, 1) := by decide +kernel
theorem dL_tryFrom_69 : decode kL_tryFrom.2.1 69 = .ok (.iload_n 3, 1) := by decide +kernel
theorem dL_tryFrom_70 : decode kL_tryFrom.2.1 70 = .ok (.invokevirtual 47, 3) := by decide +kernel
theorem dL_tryFrom_73 : decode kL_tryFrom.2.1 73 = .ok (.ifCond .eq 25, 3) := by decide +kernel
theorem dL_tryFrom_76 : decode kL_tryFrom.2.1 76 = .ok (.aload_n 0, 1) := by decide +kernel
theorem dL_tryFrom_77 : decode kL_tryFrom.2.1 77 = .ok (.getfield 21, 3) := by decide +kernel
theorem dL_tryFrom_80 : decode kL_tryFrom.2.1 80 = .ok (.iload_n 1, 1) := by decide +kernel
theorem dL_tryFrom_81 : decode kL_tryFrom.2.1 81 = .ok (.iload_n 3, 1) := by decide +kernel
theorem dL_tryFrom_82 : decode kL_tryFrom.2.1 82 = .ok (.iastore, 1) := by decide +kernel
theorem dL_tryFrom_83 : decode kL_tryFrom.2.1 83 = .ok (.aload_n 0, 1) := by decide +kernel
theorem dL_tryFrom_84 : decode kL_tryFrom.2.1 84 = .ok (.iload_n 1, 1) := by decide +kernel
theorem dL_tryFrom_85 : decode kL_tryFrom.2.1 85 = .ok (.iconst 1, 1) := by decide +kernel
theorem dL_tryFrom_86 : decode kL_tryFrom.2.1 86 = .ok (.iadd, 1) := by decide +kernel
theorem dL_tryFrom_87 : decode kL_tryFrom.2.1 87 = .ok (.iload_n 2, 1) := by decide +kernel
theorem dL_tryFrom_88 : decode kL_tryFrom.2.1 88 = .ok (.iload_n 3, 1) := by decide +kernel
theorem dL_tryFrom_89 : decode kL_tryFrom.2.1 89 = .ok (.aload_n 0, 1) := by decide +kernel
theorem dL_tryFrom_90 : decode kL_tryFrom.2.1 90 = .ok (.getfield 28, 3) := by decide +kernel
theorem dL_tryFrom_93 : decode kL_tryFrom.2.1 93 = .ok (.imul, 1) := by decide +kernel
theorem dL_tryFrom_94 : decode kL_tryFrom.2.1 94 = .ok (.iadd, 1) := by decide +kernel
theorem dL_tryFrom_95 : decode kL_tryFrom.2.1 95 = .ok (.invokevirtual 37, 3) := by decide +kernel
theorem dL_tryFrom_98 : decode kL_tryFrom.2.1 98 = .ok (.iinc 3 1, 3) := by decide +kernel
theorem dL_tryFrom_101 : decode kL_tryFrom.2.1 101 = .ok (.goto (-39), 3) := by decide +kernel
theorem dL_tryFrom_104 : decode kL_tryFrom.2.1 104 = .ok (.aload_n 0, 1) := by decide +kernel
theorem dL_tryFrom_105 : decode kL_tryFrom.2.1 105 = .ok (.getfield 21, 3) := by decide +kernel
theorem dL_tryFrom_108 : decode kL_tryFrom.2.1 108 = .ok (.iload_n 1, 1) := by decide +kernel
theorem dL_tryFrom_109 : decode kL_tryFrom.2.1 109 = .ok (.iconst 4, 1) := by decide +kernel
theorem dL_tryFrom_110 : decode kL_tryFrom.2.1 110 = .ok (.iastore, 1) := by decide +kernel
theorem dL_tryFrom_111 : decode kL_tryFrom.2.1 111 = .ok (.aload_n 0, 1) := by decide +kernel
theorem dL_tryFrom_112 : decode kL_tryFrom.2.1 112 = .ok (.iload_n 1, 1) := by decide +kernel
theorem dL_tryFrom_113 : decode kL_tryFrom.2.1 113 = .ok (.iconst 1, 1) := by decide +kernel
theorem dL_tryFrom_114 : decode kL_tryFrom.2.1 114 = .ok (.iadd, 1) := by decide +kernel
theorem dL_tryFrom_115 : decode kL_tryFrom.2.1 115 = .ok (.iload_n 2, 1) := by decide +kernel
theorem dL_tryFrom_116 : decode kL_tryFrom.2.1 116 = .ok (.aload_n 0, 1) := by decide +kernel
theorem dL_tryFrom_117 : decode kL_tryFrom.2.1 117 = .ok (.getfield 15, 3) := by decide +kernel
theorem dL_tryFrom_120 : decode kL_tryFrom.2.1 120 = .ok (.iload_n 1, 1) := by decide +kernel
theorem dL_tryFrom_121 : decode kL_tryFrom.2.1 121 = .ok (.iaload, 1) := by decide +kernel
theorem dL_tryFrom_122 : decode kL_tryFrom.2.1 122 = .ok (.iadd, 1) := by decide +kernel
theorem dL_tryFrom_123 : decode kL_tryFrom.2.1 123 = .ok (.invokevirtual 37, 3) := by decide +kernel
theorem dL_tryFrom_126 : decode kL_tryFrom.2.1 126 = .ok (.return_, 1) := by decide +kernel
theorem dL_isFree_0 : decode kL_isFree.2.1 0 = .ok (.iconst 0, 1) := by decide +kernel
theorem dL_isFree_1 : decode kL_isFree.2.1 1 = .ok (.istore_n 3, 1) := by decide +kernel
theorem dL_isFree_2 : decode kL_isFree.2.1 2 = .ok (.iload_n 3, 1) := by decide +kernel
theorem dL_isFree_3 : decode kL_isFree.2.1 3 = .ok (.iload_n 1, 1) := by decide +kernel
theorem dL_isFree_4 : decode kL_isFree.2.1 4 = .ok (.if_icmp .ge 44, 3) := by decide +kernel
theorem dL_isFree_7 : decode kL_isFree.2.1 7 = .ok (.aload_n 0, 1) := by decide +kernel
theorem dL_isFree_8 : decode kL_isFree.2.1 8 = .ok (.getfield 21, 3) := by decide +kernel
theorem dL_isFree_11 : decode kL_isFree.2.1 11 = .ok (.iload_n 3, 1) := by decide +kernel
theorem dL_isFree_12 : decode kL_isFree.2.1 12 = .ok (.iaload, 1) := by decide +kernel
theorem dL_isFree_13 : decode kL_isFree.2.1 13 = .ok (.iload_n 2, 1) := by decide +kernel
theorem dL_isFree_14 : decode kL_isFree.2.1 14 = .ok (.if_icmp .ne 28, 3) := by decide +kernel
theorem dL_isFree_17 : decode kL_isFree.2.1 17 = .ok (.aload_n 0, 1) := by decide +kernel
theorem dL_isFree_18 : decode kL_isFree.2.1 18 = .ok (.getfield 9, 3) := by decide +kernel
theorem dL_isFree_21 : decode kL_isFree.2.1 21 = .ok (.iload_n 1, 1) := by decide +kernel
theorem dL_isFree_22 : decode kL_isFree.2.1 22 = .ok (.iaload, 1) := by decide +kernel
theorem dL_isFree_23 : decode kL_isFree.2.1 23 = .ok (.aload_n 0, 1) := by decide +kernel
theorem dL_isFree_24 : decode kL_isFree.2.1 24 = .ok (.getfield 9, 3) := by decide +kernel
theorem dL_isFree_27 : decode kL_isFree.2.1 27 = .ok (.iload_n 3, 1) := by decide +kernel
theorem dL_isFree_28 : decode kL_isFree.2.1 28 = .ok (.iaload, 1) := by decide +kernel
theorem dL_isFree_29 : decode kL_isFree.2.1 29 = .ok (.isub, 1) := by decide +kernel
theorem dL_isFree_30 : decode kL_isFree.2.1 30 = .ok (.invokestatic 51, 3) := by decide +kernel
theorem dL_isFree_33 : decode kL_isFree.2.1 33 = .ok (.aload_n 0, 1) := by decide +kernel
theorem dL_isFree_34 : decode kL_isFree.2.1 34 = .ok (.getfield 24, 3) := by decide +kernel
theorem dL_isFree_37 : decode kL_isFree.2.1 37 = .ok (.if_icmp .ge 5, 3) := by decide +kernel
theorem dL_isFree_40 : decode kL_isFree.2.1 40 = .ok (.iconst 0, 1) := by decide +kernel
theorem dL_isFree_41 : decode kL_isFree.2.1 41 = .ok (.ireturn, 1) := by decide +kernel
theorem dL_isFree_42 : decode kL_isFree.2.1 42 = .ok (.iinc 3 1, 3) := by decide +kernel
theorem dL_isFree_45 : decode kL_isFree.2.1 45 = .ok (.goto (-43), 3) := by decide +kernel
theorem dL_isFree_48 : decode kL_isFree.2.1 48 = .ok (.iconst 1, 1) := by decide +kernel
theorem dL_isFree_49 : decode kL_isFree.2.1 49 = .ok (.ireturn, 1) := by decide +kernel
theorem dL_isHeard_0 : decode kL_isHeard.2.1 0 = .ok (.aload_n 0, 1) := by decide +kernel
theorem dL_isHeard_1 : decode kL_isHeard.2.1 1 = .ok (.getfield 18, 3) := by decide +kernel
theorem dL_isHeard_4 : decode kL_isHeard.2.1 4 = .ok (.iload_n 1, 1) := by decide +kernel
theorem dL_isHeard_5 : decode kL_isHeard.2.1 5 = .ok (.iaload, 1) := by decide +kernel
theorem dL_isHeard_6 : decode kL_isHeard.2.1 6 = .ok (.iconst (-1), 1) := by decide +kernel
theorem dL_isHeard_7 : decode kL_isHeard.2.1 7 = .ok (.if_icmp .eq 17, 3) := by decide +kernel
theorem dL_isHeard_10 : decode kL_isHeard.2.1 10 = .ok (.aload_n 0, 1) := by decide +kernel
theorem dL_isHeard_11 : decode kL_isHeard.2.1 11 = .ok (.getfield 18, 3) := by decide +kernel
theorem dL_isHeard_14 : decode kL_isHeard.2.1 14 = .ok (.iload_n 1, 1) := by decide +kernel
theorem dL_isHeard_15 : decode kL_isHeard.2.1 15 = .ok (.iaload, 1) := by decide +kernel
theorem dL_isHeard_16 : decode kL_isHeard.2.1 16 = .ok (.iconst 4, 1) := by decide +kernel
theorem dL_isHeard_17 : decode kL_isHeard.2.1 17 = .ok (.if_icmp .eq 7, 3) := by decide +kernel
theorem dL_isHeard_20 : decode kL_isHeard.2.1 20 = .ok (.iconst 1, 1) := by decide +kernel
theorem dL_isHeard_21 : decode kL_isHeard.2.1 21 = .ok (.goto 4, 3) := by decide +kernel
theorem dL_isHeard_24 : decode kL_isHeard.2.1 24 = .ok (.iconst 0, 1) := by decide +kernel
theorem dL_isHeard_25 : decode kL_isHeard.2.1 25 = .ok (.ireturn, 1) := by decide +kernel
theorem dM_init_0 : decode kM_init.2.1 0 = .ok (.aload_n 0, 1) := by decide +kernel
theorem dM_init_1 : decode kM_init.2.1 1 = .ok (.invokespecial 3, 3) := by decide +kernel
theorem dM_init_4 : decode kM_init.2.1 4 = .ok (.aload_n 0, 1) := by decide +kernel
theorem dM_init_5 : decode kM_init.2.1 5 = .ok (.bipush 40, 2) := by decide +kernel
theorem dM_init_7 : decode kM_init.2.1 7 = .ok (.newarray .int, 2) := by decide +kernel
theorem dM_init_9 : decode kM_init.2.1 9 = .ok (.putfield 9, 3) := by decide +kernel
theorem dM_init_12 : decode kM_init.2.1 12 = .ok (.aload_n 0, 1) := by decide +kernel
theorem dM_init_13 : decode kM_init.2.1 13 = .ok (.iconst 0, 1) := by decide +kernel
theorem dM_init_14 : decode kM_init.2.1 14 = .ok (.putfield 15, 3) := by decide +kernel
theorem dM_init_17 : decode kM_init.2.1 17 = .ok (.return_, 1) := by decide +kernel
theorem dM_read_0 : decode kM_read.2.1 0 = .ok (.aload_n 0, 1) := by decide +kernel
theorem dM_read_1 : decode kM_read.2.1 1 = .ok (.iconst 0, 1) := by decide +kernel
theorem dM_read_2 : decode kM_read.2.1 2 = .ok (.putfield 15, 3) := by decide +kernel
theorem dM_read_5 : decode kM_read.2.1 5 = .ok (.iconst 0, 1) := by decide +kernel
theorem dM_read_6 : decode kM_read.2.1 6 = .ok (.istore_n 3, 1) := by decide +kernel
theorem dM_read_7 : decode kM_read.2.1 7 = .ok (.iconst 0, 1) := by decide +kernel
theorem dM_read_8 : decode kM_read.2.1 8 = .ok (.istore 4, 2) := by decide +kernel
theorem dM_read_10 : decode kM_read.2.1 10 = .ok (.iload 4, 2) := by decide +kernel
theorem dM_read_12 : decode kM_read.2.1 12 = .ok (.bipush 40, 2) := by decide +kernel
theorem dM_read_14 : decode kM_read.2.1 14 = .ok (.if_icmp .ge 66, 3) := by decide +kernel
theorem dM_read_17 : decode kM_read.2.1 17 = .ok (.aload_n 1, 1) := by decide +kernel
theorem dM_read_18 : decode kM_read.2.1 18 = .ok (.aload_n 2, 1) := by decide +kernel
theorem dM_read_19 : decode kM_read.2.1 19 = .ok (.iload 4, 2) := by decide +kernel
theorem dM_read_21 : decode kM_read.2.1 21 = .ok (.invokestatic 19, 3) := by decide +kernel
theorem dM_read_24 : decode kM_read.2.1 24 = .ok (.istore 5, 2) := by decide +kernel
theorem dM_read_26 : decode kM_read.2.1 26 = .ok (.iload 5, 2) := by decide +kernel
theorem dM_read_28 : decode kM_read.2.1 28 = .ok (.bipush (-2), 2) := by decide +kernel
theorem dM_read_30 : decode kM_read.2.1 30 = .ok (.if_icmp .ne 8, 3) := by decide +kernel
theorem dM_read_33 : decode kM_read.2.1 33 = .ok (.iconst 0, 1) := by decide +kernel
theorem dM_read_34 : decode kM_read.2.1 34 = .ok (.istore_n 3, 1) := by decide +kernel
theorem dM_read_35 : decode kM_read.2.1 35 = .ok (.goto 39, 3) := by decide +kernel
theorem dM_read_38 : decode kM_read.2.1 38 = .ok (.iload 5, 2) := by decide +kernel
theorem dM_read_40 : decode kM_read.2.1 40 = .ok (.ifCond .eq 34, 3) := by decide +kernel
theorem dM_read_43 : decode kM_read.2.1 43 = .ok (.iload_n 3, 1) := by decide +kernel
theorem dM_read_44 : decode kM_read.2.1 44 = .ok (.iload 5, 2) := by decide +kernel
theorem dM_read_46 : decode kM_read.2.1 46 = .ok (.ineg, 1) := by decide +kernel
theorem dM_read_47 : decode kM_read.2.1 47 = .ok (.if_icmp .ne 24, 3) := by decide +kernel
theorem dM_read_50 : decode kM_read.2.1 50 = .ok (.aload_n 0, 1) := by decide +kernel
theorem dM_read_51 : decode kM_read.2.1 51 = .ok (.getfield 9, 3) := by decide +kernel
theorem dM_read_54 : decode kM_read.2.1 54 = .ok (.aload_n 0, 1) := by decide +kernel
theorem dM_read_55 : decode kM_read.2.1 55 = .ok (.getfield 15, 3) := by decide +kernel
theorem dM_read_58 : decode kM_read.2.1 58 = .ok (.iload 4, 2) := by decide +kernel
theorem dM_read_60 : decode kM_read.2.1 60 = .ok (.iastore, 1) := by decide +kernel
theorem dM_read_61 : decode kM_read.2.1 61 = .ok (.aload_n 0, 1) := by decide +kernel
theorem dM_read_62 : decode kM_read.2.1 62 = .ok (.dup, 1) := by decide +kernel
theorem dM_read_63 : decode kM_read.2.1 63 = .ok (.getfield 15, 3) := by decide +kernel
theorem dM_read_66 : decode kM_read.2.1 66 = .ok (.iconst 1, 1) := by decide +kernel
theorem dM_read_67 : decode kM_read.2.1 67 = .ok (.iadd, 1) := by decide +kernel
theorem dM_read_68 : decode kM_read.2.1 68 = .ok (.putfield 15, 3) := by decide +kernel
theorem dM_read_71 : decode kM_read.2.1 71 = .ok (.iload 5, 2) := by decide +kernel
theorem dM_read_73 : decode kM_read.2.1 73 = .ok (.istore_n 3, 1) := by decide +kernel
theorem dM_read_74 : decode kM_read.2.1 74 = .ok (.iinc 4 1, 3) := by decide +kernel
theorem dM_read_77 : decode kM_read.2.1 77 = .ok (.goto (-67), 3) := by decide +kernel
theorem dM_read_80 : decode kM_read.2.1 80 = .ok (.return_, 1) := by decide +kernel
theorem dR_init_0 : decode kR_init.2.1 0 = .ok (.aload_n 0, 1) := by decide +kernel
theorem dR_init_1 : decode kR_init.2.1 1 = .ok (.invokespecial 3, 3) := by decide +kernel
theorem dR_init_4 : decode kR_init.2.1 4 = .ok (.aload_n 0, 1) := by decide +kernel
theorem dR_init_5 : decode kR_init.2.1 5 = .ok (.bipush 40, 2) := by decide +kernel
theorem dR_init_7 : decode kR_init.2.1 7 = .ok (.newarray .int, 2) := by decide +kernel
theorem dR_init_9 : decode kR_init.2.1 9 = .ok (.putfield 9, 3) := by decide +kernel
theorem dR_init_12 : decode kR_init.2.1 12 = .ok (.aload_n 0, 1) := by decide +kernel
theorem dR_init_13 : decode kR_init.2.1 13 = .ok (.iconst 0, 1) := by decide +kernel
theorem dR_init_14 : decode kR_init.2.1 14 = .ok (.putfield 15, 3) := by decide +kernel
theorem dR_init_17 : decode kR_init.2.1 17 = .ok (.aload_n 0, 1) := by decide +kernel
theorem dR_init_18 : decode kR_init.2.1 18 = .ok (.iconst 0, 1) := by decide +kernel
theorem dR_init_19 : decode kR_init.2.1 19 = .ok (.putfield 19, 3) := by decide +kernel
theorem dR_init_22 : decode kR_init.2.1 22 = .ok (.aload_n 0, 1) := by decide +kernel
theorem dR_init_23 : decode kR_init.2.1 23 = .ok (.bipush 50, 2) := by decide +kernel
theorem dR_init_25 : decode kR_init.2.1 25 = .ok (.putfield 22, 3) := by decide +kernel
theorem dR_init_28 : decode kR_init.2.1 28 = .ok (.return_, 1) := by decide +kernel
theorem dR_hasStep_0 : decode kR_hasStep.2.1 0 = .ok (.iload_n 1, 1) := by decide +kernel
theorem dR_hasStep_1 : decode kR_hasStep.2.1 1 = .ok (.ifCond .lt 15, 3) := by decide +kernel
theorem dR_hasStep_4 : decode kR_hasStep.2.1 4 = .ok (.iload_n 1, 1) := by decide +kernel
theorem dR_hasStep_5 : decode kR_hasStep.2.1 5 = .ok (.aload_n 0, 1) := by decide +kernel
theorem dR_hasStep_6 : decode kR_hasStep.2.1 6 = .ok (.getfield 15, 3) := by decide +kernel
theorem dR_hasStep_9 : decode kR_hasStep.2.1 9 = .ok (.if_icmp .ge 7, 3) := by decide +kernel
theorem dR_hasStep_12 : decode kR_hasStep.2.1 12 = .ok (.iconst 1, 1) := by decide +kernel
theorem dR_hasStep_13 : decode kR_hasStep.2.1 13 = .ok (.goto 4, 3) := by decide +kernel
theorem dR_hasStep_16 : decode kR_hasStep.2.1 16 = .ok (.iconst 0, 1) := by decide +kernel
theorem dR_hasStep_17 : decode kR_hasStep.2.1 17 = .ok (.ireturn, 1) := by decide +kernel
theorem dR_hasValue_0 : decode kR_hasValue.2.1 0 = .ok (.iload_n 1, 1) := by decide +kernel
theorem dR_hasValue_1 : decode kR_hasValue.2.1 1 = .ok (.ifCond .lt 27, 3) := by decide +kernel
theorem dR_hasValue_4 : decode kR_hasValue.2.1 4 = .ok (.iload_n 1, 1) := by decide +kernel
theorem dR_hasValue_5 : decode kR_hasValue.2.1 5 = .ok (.aload_n 0, 1) := by decide +kernel
theorem dR_hasValue_6 : decode kR_hasValue.2.1 6 = .ok (.getfield 15, 3) := by decide +kernel
theorem dR_hasValue_9 : decode kR_hasValue.2.1 9 = .ok (.if_icmp .ge 19, 3) := by decide +kernel
theorem dR_hasValue_12 : decode kR_hasValue.2.1 12 = .ok (.aload_n 0, 1) := by decide +kernel
theorem dR_hasValue_13 : decode kR_hasValue.2.1 13 = .ok (.getfield 9, 3) := by decide +kernel
theorem dR_hasValue_16 : decode kR_hasValue.2.1 16 = .ok (.iload_n 1, 1) := by decide +kernel
theorem dR_hasValue_17 : decode kR_hasValue.2.1 17 = .ok (.iaload, 1) := by decide +kernel
theorem dR_hasValue_18 : decode kR_hasValue.2.1 18 = .ok (.sipush (-5000), 3) := by decide +kernel
theorem dR_hasValue_21 : decode kR_hasValue.2.1 21 = .ok (.if_icmp .eq 7, 3) := by decide +kernel
theorem dR_hasValue_24 : decode kR_hasValue.2.1 24 = .ok (.iconst 1, 1) := by decide +kernel
theorem dR_hasValue_25 : decode kR_hasValue.2.1 25 = .ok (.goto 4, 3) := by decide +kernel
theorem dR_hasValue_28 : decode kR_hasValue.2.1 28 = .ok (.iconst 0, 1) := by decide +kernel
theorem dR_hasValue_29 : decode kR_hasValue.2.1 29 = .ok (.ireturn, 1) := by decide +kernel
theorem dR_hasWay_0 : decode kR_hasWay.2.1 0 = .ok (.aload_n 0, 1) := by decide +kernel
theorem dR_hasWay_1 : decode kR_hasWay.2.1 1 = .ok (.iload_n 1, 1) := by decide +kernel
theorem dR_hasWay_2 : decode kR_hasWay.2.1 2 = .ok (.invokevirtual 25, 3) := by decide +kernel
theorem dR_hasWay_5 : decode kR_hasWay.2.1 5 = .ok (.ifCond .eq 17, 3) := by decide +kernel
theorem dR_hasWay_8 : decode kR_hasWay.2.1 8 = .ok (.aload_n 0, 1) := by decide +kernel
theorem dR_hasWay_9 : decode kR_hasWay.2.1 9 = .ok (.iload_n 1, 1) := by decide +kernel
theorem dR_hasWay_10 : decode kR_hasWay.2.1 10 = .ok (.iconst 1, 1) := by decide +kernel
theorem dR_hasWay_11 : decode kR_hasWay.2.1 11 = .ok (.iadd, 1) := by decide +kernel
theorem dR_hasWay_12 : decode kR_hasWay.2.1 12 = .ok (.invokevirtual 25, 3) := by decide +kernel
theorem dR_hasWay_15 : decode kR_hasWay.2.1 15 = .ok (.ifCond .eq 7, 3) := by decide +kernel
theorem dR_hasWay_18 : decode kR_hasWay.2.1 18 = .ok (.iconst 1, 1) := by decide +kernel
theorem dR_hasWay_19 : decode kR_hasWay.2.1 19 = .ok (.goto 4, 3) := by decide +kernel
theorem dR_hasWay_22 : decode kR_hasWay.2.1 22 = .ok (.iconst 0, 1) := by decide +kernel
theorem dR_hasWay_23 : decode kR_hasWay.2.1 23 = .ok (.ireturn, 1) := by decide +kernel
theorem dR_append_0 : decode kR_append.2.1 0 = .ok (.aload_n 0, 1) := by decide +kernel
theorem dR_append_1 : decode kR_append.2.1 1 = .ok (.getfield 15, 3) := by decide +kernel
theorem dR_append_4 : decode kR_append.2.1 4 = .ok (.bipush 40, 2) := by decide +kernel
theorem dR_append_6 : decode kR_append.2.1 6 = .ok (.if_icmp .lt 5, 3) := by decide +kernel
theorem dR_append_9 : decode kR_append.2.1 9 = .ok (.iconst (-1), 1) := by decide +kernel
theorem dR_append_10 : decode kR_append.2.1 10 = .ok (.ireturn, 1) := by decide +kernel
theorem dR_append_11 : decode kR_append.2.1 11 = .ok (.aload_n 0, 1) := by decide +kernel
theorem dR_append_12 : decode kR_append.2.1 12 = .ok (.getfield 9, 3) := by decide +kernel
theorem dR_append_15 : decode kR_append.2.1 15 = .ok (.aload_n 0, 1) := by decide +kernel
theorem dR_append_16 : decode kR_append.2.1 16 = .ok (.getfield 15, 3) := by decide +kernel
theorem dR_append_19 : decode kR_append.2.1 19 = .ok (.iload_n 1, 1) := by decide +kernel
theorem dR_append_20 : decode kR_append.2.1 20 = .ok (.iastore, 1) := by decide +kernel
theorem dR_append_21 : decode kR_append.2.1 21 = .ok (.aload_n 0, 1) := by decide +kernel
theorem dR_append_22 : decode kR_append.2.1 22 = .ok (.dup, 1) := by decide +kernel
theorem dR_append_23 : decode kR_append.2.1 23 = .ok (.getfield 15, 3) := by decide +kernel
theorem dR_append_26 : decode kR_append.2.1 26 = .ok (.iconst 1, 1) := by decide +kernel
theorem dR_append_27 : decode kR_append.2.1 27 = .ok (.iadd, 1) := by decide +kernel
theorem dR_append_28 : decode kR_append.2.1 28 = .ok (.putfield 15, 3) := by decide +kernel
theorem dR_append_31 : decode kR_append.2.1 31 = .ok (.aload_n 0, 1) := by decide +kernel
theorem dR_append_32 : decode kR_append.2.1 32 = .ok (.getfield 15, 3) := by decide +kernel
theorem dR_append_35 : decode kR_append.2.1 35 = .ok (.ireturn, 1) := by decide +kernel
theorem dR_lowest_0 : decode kR_lowest.2.1 0 = .ok (.ldc 31, 2) := by decide +kernel
theorem dR_lowest_2 : decode kR_lowest.2.1 2 = .ok (.istore_n 1, 1) := by decide +kernel
theorem dR_lowest_3 : decode kR_lowest.2.1 3 = .ok (.iconst 0, 1) := by decide +kernel
theorem dR_lowest_4 : decode kR_lowest.2.1 4 = .ok (.istore_n 2, 1) := by decide +kernel
theorem dR_lowest_5 : decode kR_lowest.2.1 5 = .ok (.iload_n 2, 1) := by decide +kernel
theorem dR_lowest_6 : decode kR_lowest.2.1 6 = .ok (.aload_n 0, 1) := by decide +kernel
theorem dR_lowest_7 : decode kR_lowest.2.1 7 = .ok (.getfield 15, 3) := by decide +kernel
theorem dR_lowest_10 : decode kR_lowest.2.1 10 = .ok (.if_icmp .ge 32, 3) := by decide +kernel
theorem dR_lowest_13 : decode kR_lowest.2.1 13 = .ok (.aload_n 0, 1) := by decide +kernel
theorem dR_lowest_14 : decode kR_lowest.2.1 14 = .ok (.getfield 9, 3) := by decide +kernel
theorem dR_lowest_17 : decode kR_lowest.2.1 17 = .ok (.iload_n 2, 1) := by decide +kernel
theorem dR_lowest_18 : decode kR_lowest.2.1 18 = .ok (.iaload, 1) := by decide +kernel
theorem dR_lowest_19 : decode kR_lowest.2.1 19 = .ok (.sipush (-5000), 3) := by decide +kernel
theorem dR_lowest_22 : decode kR_lowest.2.1 22 = .ok (.if_icmp .eq 14, 3) := by decide +kernel
theorem dR_lowest_25 : decode kR_lowest.2.1 25 = .ok (.iload_n 1, 1) := by decide +kernel
theorem dR_lowest_26 : decode kR_lowest.2.1 26 = .ok (.aload_n 0, 1) := by decide +kernel
theorem dR_lowest_27 : decode kR_lowest.2.1 27 = .ok (.getfield 9, 3) := by decide +kernel
theorem dR_lowest_30 : decode kR_lowest.2.1 30 = .ok (.iload_n 2, 1) := by decide +kernel
theorem dR_lowest_31 : decode kR_lowest.2.1 31 = .ok (.iaload, 1) := by decide +kernel
theorem dR_lowest_32 : decode kR_lowest.2.1 32 = .ok (.invokestatic 32, 3) := by decide +kernel
theorem dR_lowest_35 : decode kR_lowest.2.1 35 = .ok (.istore_n 1, 1) := by decide +kernel
theorem dR_lowest_36 : decode kR_lowest.2.1 36 = .ok (.iinc 2 1, 3) := by decide +kernel
theorem dR_lowest_39 : decode kR_lowest.2.1 39 = .ok (.goto (-34), 3) := by decide +kernel
theorem dR_lowest_42 : decode kR_lowest.2.1 42 = .ok (.iload_n 1, 1) := by decide +kernel
theorem dR_lowest_43 : decode kR_lowest.2.1 43 = .ok (.ireturn, 1) := by decide +kernel
theorem dR_highest_0 : decode kR_highest.2.1 0 = .ok (.ldc 38, 2) := by decide +kernel
theorem dR_highest_2 : decode kR_highest.2.1 2 = .ok (.istore_n 1, 1) := by decide +kernel
theorem dR_highest_3 : decode kR_highest.2.1 3 = .ok (.iconst 0, 1) := by decide +kernel
theorem dR_highest_4 : decode kR_highest.2.1 4 = .ok (.istore_n 2, 1) := by decide +kernel
theorem dR_highest_5 : decode kR_highest.2.1 5 = .ok (.iload_n 2, 1) := by decide +kernel
theorem dR_highest_6 : decode kR_highest.2.1 6 = .ok (.aload_n 0, 1) := by decide +kernel
theorem dR_highest_7 : decode kR_highest.2.1 7 = .ok (.getfield 15, 3) := by decide +kernel
theorem dR_highest_10 : decode kR_highest.2.1 10 = .ok (.if_icmp .ge 32, 3) := by decide +kernel
theorem dR_highest_13 : decode kR_highest.2.1 13 = .ok (.aload_n 0, 1) := by decide +kernel
theorem dR_highest_14 : decode kR_highest.2.1 14 = .ok (.getfield 9, 3) := by decide +kernel
theorem dR_highest_17 : decode kR_highest.2.1 17 = .ok (.iload_n 2, 1) := by decide +kernel
theorem dR_highest_18 : decode kR_highest.2.1 18 = .ok (.iaload, 1) := by decide +kernel
theorem dR_highest_19 : decode kR_highest.2.1 19 = .ok (.sipush (-5000), 3) := by decide +kernel
theorem dR_highest_22 : decode kR_highest.2.1 22 = .ok (.if_icmp .eq 14, 3) := by decide +kernel
theorem dR_highest_25 : decode kR_highest.2.1 25 = .ok (.iload_n 1, 1) := by decide +kernel
theorem dR_highest_26 : decode kR_highest.2.1 26 = .ok (.aload_n 0, 1) := by decide +kernel
theorem dR_highest_27 : decode kR_highest.2.1 27 = .ok (.getfield 9, 3) := by decide +kernel
theorem dR_highest_30 : decode kR_highest.2.1 30 = .ok (.iload_n 2, 1) := by decide +kernel
theorem dR_highest_31 : decode kR_highest.2.1 31 = .ok (.iaload, 1) := by decide +kernel
theorem dR_highest_32 : decode kR_highest.2.1 32 = .ok (.invokestatic 39, 3) := by decide +kernel
theorem dR_highest_35 : decode kR_highest.2.1 35 = .ok (.istore_n 1, 1) := by decide +kernel
theorem dR_highest_36 : decode kR_highest.2.1 36 = .ok (.iinc 2 1, 3) := by decide +kernel
theorem dR_highest_39 : decode kR_highest.2.1 39 = .ok (.goto (-34), 3) := by decide +kernel
theorem dR_highest_42 : decode kR_highest.2.1 42 = .ok (.iload_n 1, 1) := by decide +kernel
theorem dR_highest_43 : decode kR_highest.2.1 43 = .ok (.ireturn, 1) := by decide +kernel
theorem dS_init_0 : decode kS_init.2.1 0 = .ok (.aload_n 0, 1) := by decide +kernel
theorem dS_init_1 : decode kS_init.2.1 1 = .ok (.invokespecial 3, 3) := by decide +kernel
theorem dS_init_4 : decode kS_init.2.1 4 = .ok (.aload_n 0, 1) := by decide +kernel
theorem dS_init_5 : decode kS_init.2.1 5 = .ok (.bipush 40, 2) := by decide +kernel
theorem dS_init_7 : decode kS_init.2.1 7 = .ok (.newarray .int, 2) := by decide +kernel
theorem dS_init_9 : decode kS_init.2.1 9 = .ok (.putfield 9, 3) := by decide +kernel
theorem dS_init_12 : decode kS_init.2.1 12 = .ok (.aload_n 0, 1) := by decide +kernel
theorem dS_init_13 : decode kS_init.2.1 13 = .ok (.bipush 40, 2) := by decide +kernel
theorem dS_init_15 : decode kS_init.2.1 15 = .ok (.newarray .int, 2) := by decide +kernel
theorem dS_init_17 : decode kS_init.2.1 17 = .ok (.putfield 15, 3) := by decide +kernel
theorem dS_init_20 : decode kS_init.2.1 20 = .ok (.aload_n 0, 1) := by decide +kernel
theorem dS_init_21 : decode kS_init.2.1 21 = .ok (.bipush 40, 2) := by decide +kernel
theorem dS_init_23 : decode kS_init.2.1 23 = .ok (.newarray .int, 2) := by decide +kernel
theorem dS_init_25 : decode kS_init.2.1 25 = .ok (.putfield 18, 3) := by decide +kernel
theorem dS_init_28 : decode kS_init.2.1 28 = .ok (.aload_n 0, 1) := by decide +kernel
theorem dS_init_29 : decode kS_init.2.1 29 = .ok (.bipush 40, 2) := by decide +kernel
theorem dS_init_31 : decode kS_init.2.1 31 = .ok (.newarray .int, 2) := by decide +kernel
theorem dS_init_33 : decode kS_init.2.1 33 = .ok (.putfield 21, 3) := by decide +kernel
theorem dS_init_36 : decode kS_init.2.1 36 = .ok (.aload_n 0, 1) := by decide +kernel
theorem dS_init_37 : decode kS_init.2.1 37 = .ok (.iconst 4, 1) := by decide +kernel
theorem dS_init_38 : decode kS_init.2.1 38 = .ok (.bipush 40, 2) := by decide +kernel
theorem dS_init_40 : decode kS_init.2.1 40 = .ok (.multianewarray 24 2, 4) := by decide +kernel
theorem dS_init_44 : decode kS_init.2.1 44 = .ok (.putfield 26, 3) := by decide +kernel
theorem dS_init_47 : decode kS_init.2.1 47 = .ok (.aload_n 0, 1) := by decide +kernel
theorem dS_init_48 : decode kS_init.2.1 48 = .ok (.iconst 0, 1) := by decide +kernel
theorem dS_init_49 : decode kS_init.2.1 49 = .ok (.putfield 29, 3) := by decide +kernel
theorem dS_init_52 : decode kS_init.2.1 52 = .ok (.aload_n 0, 1) := by decide +kernel
theorem dS_init_53 : decode kS_init.2.1 53 = .ok (.iconst 0, 1) := by decide +kernel
theorem dS_init_54 : decode kS_init.2.1 54 = .ok (.putfield 33, 3) := by decide +kernel
theorem dS_init_57 : decode kS_init.2.1 57 = .ok (.aload_n 0, 1) := by decide +kernel
theorem dS_init_58 : decode kS_init.2.1 58 = .ok (.iconst 0, 1) := by decide +kernel
theorem dS_init_59 : decode kS_init.2.1 59 = .ok (.putfield 36, 3) := by decide +kernel
theorem dS_init_62 : decode kS_init.2.1 62 = .ok (.return_, 1) := by decide +kernel
theorem dS_read_0 : decode kS_read.2.1 0 = .ok (.aload_n 0, 1) := by decide +kernel
theorem dS_read_1 : decode kS_read.2.1 1 = .ok (.aload_n 1, 1) := by decide +kernel
theorem dS_read_2 : decode kS_read.2.1 2 = .ok (.iload_n 2, 1) := by decide +kernel
theorem dS_read_3 : decode kS_read.2.1 3 = .ok (.invokevirtual 39, 3) := by decide +kernel
theorem dS_read_6 : decode kS_read.2.1 6 = .ok (.aload_n 0, 1) := by decide +kernel
theorem dS_read_7 : decode kS_read.2.1 7 = .ok (.aload_n 1, 1) := by decide +kernel
theorem dS_read_8 : decode kS_read.2.1 8 = .ok (.iload_n 2, 1) := by decide +kernel
theorem dS_read_9 : decode kS_read.2.1 9 = .ok (.invokevirtual 43, 3) := by decide +kernel
theorem dS_read_12 : decode kS_read.2.1 12 = .ok (.aload_n 0, 1) := by decide +kernel
theorem dS_read_13 : decode kS_read.2.1 13 = .ok (.aload_n 1, 1) := by decide +kernel
theorem dS_read_14 : decode kS_read.2.1 14 = .ok (.invokevirtual 46, 3) := by decide +kernel
theorem dS_read_17 : decode kS_read.2.1 17 = .ok (.return_, 1) := by decide +kernel
theorem dS_weighWays_0 : decode kS_weighWays.2.1 0 = .ok (.bipush 38, 2) := by decide +kernel
theorem dS_weighWays_2 : decode kS_weighWays.2.1 2 = .ok (.istore_n 3, 1) := by decide +kernel
theorem dS_weighWays_3 : decode kS_weighWays.2.1 3 = .ok (.iload_n 3, 1) := by decide +kernel
theorem dS_weighWays_4 : decode kS_weighWays.2.1 4 = .ok (.ifCond .lt 110, 3) := by decide +kernel
theorem dS_weighWays_7 : decode kS_weighWays.2.1 7 = .ok (.aload_n 1, 1) := by decide +kernel
theorem dS_weighWays_8 : decode kS_weighWays.2.1 8 = .ok (.iload_n 3, 1) := by decide +kernel
theorem dS_weighWays_9 : decode kS_weighWays.2.1 9 = .ok (.invokevirtual 50, 3) := by decide +kernel
theorem dS_weighWays_12 : decode kS_weighWays.2.1 12 = .ok (.ifCond .ne 6, 3) := by decide +kernel
theorem dS_weighWays_15 : decode kS_weighWays.2.1 15 = .ok (.goto 93, 3) := by decide +kernel
theorem dS_weighWays_18 : decode kS_weighWays.2.1 18 = .ok (.aload_n 1, 1) := by decide +kernel
theorem dS_weighWays_19 : decode kS_weighWays.2.1 19 = .ok (.getfield 56, 3) := by decide +kernel
theorem dS_weighWays_22 : decode kS_weighWays.2.1 22 = .ok (.iload_n 3, 1) := by decide +kernel
theorem dS_weighWays_23 : decode kS_weighWays.2.1 23 = .ok (.iconst 1, 1) := by decide +kernel
theorem dS_weighWays_24 : decode kS_weighWays.2.1 24 = .ok (.iadd, 1) := by decide +kernel
theorem dS_weighWays_25 : decode kS_weighWays.2.1 25 = .ok (.iaload, 1) := by decide +kernel
theorem dS_weighWays_26 : decode kS_weighWays.2.1 26 = .ok (.aload_n 1, 1) := by decide +kernel
theorem dS_weighWays_27 : decode kS_weighWays.2.1 27 = .ok (.getfield 56, 3) := by decide +kernel
theorem dS_weighWays_30 : decode kS_weighWays.2.1 30 = .ok (.iload_n 3, 1) := by decide +kernel
theorem dS_weighWays_31 : decode kS_weighWays.2.1 31 = .ok (.iaload, 1) := by decide +kernel
theorem dS_weighWays_32 : decode kS_weighWays.2.1 32 = .ok (.isub, 1) := by decide +kernel
theorem dS_weighWays_33 : decode kS_weighWays.2.1 33 = .ok (.istore 4, 2) := by decide +kernel
theorem dS_weighWays_35 : decode kS_weighWays.2.1 35 = .ok (.iconst 1, 1) := by decide +kernel
theorem dS_weighWays_36 : decode kS_weighWays.2.1 36 = .ok (.istore 5, 2) := by decide +kernel
theorem dS_weighWays_38 : decode kS_weighWays.2.1 38 = .ok (.iload 5, 2) := by decide +kernel
theorem dS_weighWays_40 : decode kS_weighWays.2.1 40 = .ok (.iconst 3, 1) := by decide +kernel
theorem dS_weighWays_41 : decode kS_weighWays.2.1 41 = .ok (.if_icmp .gt 67, 3) := by decide +kernel
theorem dS_weighWays_44 : decode kS_weighWays.2.1 44 = .ok (.aload_n 0, 1) := by decide +kernel
theorem dS_weighWays_45 : decode kS_weighWays.2.1 45 = .ok (.getfield 26, 3) := by decide +kernel
theorem dS_weighWays_48 : decode kS_weighWays.2.1 48 = .ok (.iload 5, 2) := by decide +kernel
theorem dS_weighWays_50 : decode kS_weighWays.2.1 50 = .ok (.aaload, 1) := by decide +kernel
theorem dS_weighWays_51 : decode kS_weighWays.2.1 51 = .ok (.iload_n 3, 1) := by decide +kernel
theorem dS_weighWays_52 : decode kS_weighWays.2.1 52 = .ok (.iload 5, 2) := by decide +kernel
theorem dS_weighWays_54 : decode kS_weighWays.2.1 54 = .ok (.iload 4, 2) := by decide +kernel
theorem dS_weighWays_56 : decode kS_weighWays.2.1 56 = .ok (.invokestatic 59, 3) := by decide +kernel
theorem dS_weighWays_59 : decode kS_weighWays.2.1 59 = .ok (.iastore, 1) := by decide +kernel
theorem dS_weighWays_60 : decode kS_weighWays.2.1 60 = .ok (.aload_n 1, 1) := by decide +kernel
theorem dS_weighWays_61 : decode kS_weighWays.2.1 61 = .ok (.iload_n 3, 1) := by decide +kernel
theorem dS_weighWays_62 : decode kS_weighWays.2.1 62 = .ok (.iconst 1, 1) := by decide +kernel
theorem dS_weighWays_63 : decode kS_weighWays.2.1 63 = .ok (.iadd, 1) := by decide +kernel
theorem dS_weighWays_64 : decode kS_weighWays.2.1 64 = .ok (.invokevirtual 50, 3) := by decide +kernel
theorem dS_weighWays_67 : decode kS_weighWays.2.1 67 = .ok (.ifCond .eq 35, 3) := by decide +kernel
theorem dS_weighWays_70 : decode kS_weighWays.2.1 70 = .ok (.aload_n 0, 1) := by decide +kernel
theorem dS_weighWays_71 : decode kS_weighWays.2.1 71 = .ok (.getfield 26, 3) := by decide +kernel
theorem dS_weighWays_74 : decode kS_weighWays.2.1 74 = .ok (.iload 5, 2) := by decide +kernel
theorem dS_weighWays_76 : decode kS_weighWays.2.1 76 = .ok (.aaload, 1) := by decide +kernel
theorem dS_weighWays_77 : decode kS_weighWays.2.1 77 = .ok (.iload_n 3, 1) := by decide +kernel
theorem dS_weighWays_78 : decode kS_weighWays.2.1 78 = .ok (.dup2, 1) := by decide +kernel
theorem dS_weighWays_79 : decode kS_weighWays.2.1 79 = .ok (.iaload, 1) := by decide +kernel
theorem dS_weighWays_80 : decode kS_weighWays.2.1 80 = .ok (.aload_n 0, 1) := by decide +kernel
theorem dS_weighWays_81 : decode kS_weighWays.2.1 81 = .ok (.iload 5, 2) := by decide +kernel
theorem dS_weighWays_83 : decode kS_weighWays.2.1 83 = .ok (.iload_n 3, 1) := by decide +kernel
theorem dS_weighWays_84 : decode kS_weighWays.2.1 84 = .ok (.iconst 1, 1) := by decide +kernel
theorem dS_weighWays_85 : decode kS_weighWays.2.1 85 = .ok (.iadd, 1) := by decide +kernel
theorem dS_weighWays_86 : decode kS_weighWays.2.1 86 = .ok (.aload_n 0, 1) := by decide +kernel
theorem dS_weighWays_87 : decode kS_weighWays.2.1 87 = .ok (.iload 5, 2) := by decide +kernel
theorem dS_weighWays_89 : decode kS_weighWays.2.1 89 = .ok (.iload_n 3, 1) := by decide +kernel
theorem dS_weighWays_90 : decode kS_weighWays.2.1 90 = .ok (.iconst 1, 1) := by decide +kernel
theorem dS_weighWays_91 : decode kS_weighWays.2.1 91 = .ok (.iadd, 1) := by decide +kernel
theorem dS_weighWays_92 : decode kS_weighWays.2.1 92 = .ok (.iload_n 2, 1) := by decide +kernel
theorem dS_weighWays_93 : decode kS_weighWays.2.1 93 = .ok (.invokevirtual 63, 3) := by decide +kernel
theorem dS_weighWays_96 : decode kS_weighWays.2.1 96 = .ok (.iload_n 2, 1) := by decide +kernel
theorem dS_weighWays_97 : decode kS_weighWays.2.1 97 = .ok (.invokevirtual 67, 3) := by decide +kernel
theorem dS_weighWays_100 : decode kS_weighWays.2.1 100 = .ok (.iadd, 1) := by decide +kernel
theorem dS_weighWays_101 : decode kS_weighWays.2.1 101 = .ok (.iastore, 1) := by decide +kernel
theorem dS_weighWays_102 : decode kS_weighWays.2.1 102 = .ok (.iinc 5 1, 3) := by decide +kernel
theorem dS_weighWays_105 : decode kS_weighWays.2.1 105 = .ok (.goto (-67), 3) := by decide +kernel
theorem dS_weighWays_108 : decode kS_weighWays.2.1 108 = .ok (.iinc 3 (-1), 3) := by decide +kernel
theorem dS_weighWays_111 : decode kS_weighWays.2.1 111 = .ok (.goto (-108), 3) := by decide +kernel
theorem dS_weighWays_114 : decode kS_weighWays.2.1 114 = .ok (.return_, 1) := by decide +kernel
theorem dS_costOfWay_0 : decode kS_costOfWay.2.1 0 = .ok (.iload_n 0, 1) := by decide +kernel
theorem dS_costOfWay_1 : decode kS_costOfWay.2.1 1 = .ok (.iconst 1, 1) := by decide +kernel
theorem dS_costOfWay_2 : decode kS_costOfWay.2.1 2 = .ok (.if_icmp .ne 10, 3) := by decide +kernel
theorem dS_costOfWay_5 : decode kS_costOfWay.2.1 5 = .ok (.iconst 0, 1) := by decide +kernel
theorem dS_costOfWay_6 : decode kS_costOfWay.2.1 6 = .ok (.iload_n 1, 1) := by decide +kernel
theorem dS_costOfWay_7 : decode kS_costOfWay.2.1 7 = .ok (.ineg, 1) := by decide +kernel
theorem dS_costOfWay_8 : decode kS_costOfWay.2.1 8 = .ok (.invokestatic 71, 3) := by decide +kernel
theorem dS_costOfWay_11 : decode kS_costOfWay.2.1 11 = .ok (.ireturn, 1) := by decide +kernel
theorem dS_costOfWay_12 : decode kS_costOfWay.2.1 12 = .ok (.iload_n 0, 1) := by decide +kernel
theorem dS_costOfWay_13 : decode kS_costOfWay.2.1 13 = .ok (.iconst 2, 1) := by decide +kernel
theorem dS_costOfWay_14 : decode kS_costOfWay.2.1 14 = .ok (.if_icmp .ne 11, 3) := by decide +kernel
theorem dS_costOfWay_17 : decode kS_costOfWay.2.1 17 = .ok (.iconst 0, 1) := by decide +kernel
theorem dS_costOfWay_18 : decode kS_costOfWay.2.1 18 = .ok (.iload_n 1, 1) := by decide +kernel
theorem dS_costOfWay_19 : decode kS_costOfWay.2.1 19 = .ok (.invokestatic 71, 3) := by decide +kernel
theorem dS_costOfWay_22 : decode kS_costOfWay.2.1 22 = .ok (.goto 7, 3) := by decide +kernel
theorem dS_costOfWay_25 : decode kS_costOfWay.2.1 25 = .ok (.iload_n 1, 1) := by decide +kernel
theorem dS_costOfWay_26 : decode kS_costOfWay.2.1 26 = .ok (.invokestatic 76, 3) := by decide +kernel
theorem dS_costOfWay_29 : decode kS_costOfWay.2.1 29 = .ok (.ireturn, 1) := by decide +kernel
theorem dS_costBehind_0 : decode kS_costBehind.2.1 0 = .ok (.iload_n 3, 1) := by decide +kernel
theorem dS_costBehind_1 : decode kS_costBehind.2.1 1 = .ok (.iload_n 1, 1) := by decide +kernel
theorem dS_costBehind_2 : decode kS_costBehind.2.1 2 = .ok (.if_icmp .ne 14, 3) := by decide +kernel
theorem dS_costBehind_5 : decode kS_costBehind.2.1 5 = .ok (.aload_n 0, 1) := by decide +kernel
theorem dS_costBehind_6 : decode kS_costBehind.2.1 6 = .ok (.getfield 26, 3) := by decide +kernel
theorem dS_costBehind_9 : decode kS_costBehind.2.1 9 = .ok (.iload_n 3, 1) := by decide +kernel
theorem dS_costBehind_10 : decode kS_costBehind.2.1 10 = .ok (.aaload, 1) := by decide +kernel
theorem dS_costBehind_11 : decode kS_costBehind.2.1 11 = .ok (.iload_n 2, 1) := by decide +kernel
theorem dS_costBehind_12 : decode kS_costBehind.2.1 12 = .ok (.iaload, 1) := by decide +kernel
theorem dS_costBehind_13 : decode kS_costBehind.2.1 13 = .ok (.goto 14, 3) := by decide +kernel
theorem dS_costBehind_16 : decode kS_costBehind.2.1 16 = .ok (.aload_n 0, 1) := by decide +kernel
theorem dS_costBehind_17 : decode kS_costBehind.2.1 17 = .ok (.getfield 26, 3) := by decide +kernel
theorem dS_costBehind_20 : decode kS_costBehind.2.1 20 = .ok (.iload_n 3, 1) := by decide +kernel
theorem dS_costBehind_21 : decode kS_costBehind.2.1 21 = .ok (.aaload, 1) := by decide +kernel
theorem dS_costBehind_22 : decode kS_costBehind.2.1 22 = .ok (.iload_n 2, 1) := by decide +kernel
theorem dS_costBehind_23 : decode kS_costBehind.2.1 23 = .ok (.iaload, 1) := by decide +kernel
theorem dS_costBehind_24 : decode kS_costBehind.2.1 24 = .ok (.iload 4, 2) := by decide +kernel
theorem dS_costBehind_26 : decode kS_costBehind.2.1 26 = .ok (.iadd, 1) := by decide +kernel
theorem dS_costBehind_27 : decode kS_costBehind.2.1 27 = .ok (.ireturn, 1) := by decide +kernel
theorem dS_bestKind_0 : decode kS_bestKind.2.1 0 = .ok (.iconst 1, 1) := by decide +kernel
theorem dS_bestKind_1 : decode kS_bestKind.2.1 1 = .ok (.istore 4, 2) := by decide +kernel
theorem dS_bestKind_3 : decode kS_bestKind.2.1 3 = .ok (.iconst 2, 1) := by decide +kernel
theorem dS_bestKind_4 : decode kS_bestKind.2.1 4 = .ok (.istore 5, 2) := by decide +kernel
theorem dS_bestKind_6 : decode kS_bestKind.2.1 6 = .ok (.iload 5, 2) := by decide +kernel
theorem dS_bestKind_8 : decode kS_bestKind.2.1 8 = .ok (.iconst 3, 1) := by decide +kernel
theorem dS_bestKind_9 : decode kS_bestKind.2.1 9 = .ok (.if_icmp .gt 34, 3) := by decide +kernel
theorem dS_bestKind_12 : decode kS_bestKind.2.1 12 = .ok (.aload_n 0, 1) := by decide +kernel
theorem dS_bestKind_13 : decode kS_bestKind.2.1 13 = .ok (.iload_n 1, 1) := by decide +kernel
theorem dS_bestKind_14 : decode kS_bestKind.2.1 14 = .ok (.iload_n 2, 1) := by decide +kernel
theorem dS_bestKind_15 : decode kS_bestKind.2.1 15 = .ok (.iload 5, 2) := by decide +kernel
theorem dS_bestKind_17 : decode kS_bestKind.2.1 17 = .ok (.iload_n 3, 1) := by decide +kernel
theorem dS_bestKind_18 : decode kS_bestKind.2.1 18 = .ok (.invokevirtual 67, 3) := by decide +kernel
theorem dS_bestKind_21 : decode kS_bestKind.2.1 21 = .ok (.aload_n 0, 1) := by decide +kernel
theorem dS_bestKind_22 : decode kS_bestKind.2.1 22 = .ok (.iload_n 1, 1) := by decide +kernel
theorem dS_bestKind_23 : decode kS_bestKind.2.1 23 = .ok (.iload_n 2, 1) := by decide +kernel
theorem dS_bestKind_24 : decode kS_bestKind.2.1 24 = .ok (.iload 4, 2) := by decide +kernel
theorem dS_bestKind_26 : decode kS_bestKind.2.1 26 = .ok (.iload_n 3, 1) := by decide +kernel
theorem dS_bestKind_27 : decode kS_bestKind.2.1 27 = .ok (.invokevirtual 67, 3) := by decide +kernel
theorem dS_bestKind_30 : decode kS_bestKind.2.1 30 = .ok (.if_icmp .ge 7, 3) := by decide +kernel
theorem dS_bestKind_33 : decode kS_bestKind.2.1 33 = .ok (.iload 5, 2) := by decide +kernel
theorem dS_bestKind_35 : decode kS_bestKind.2.1 35 = .ok (.istore 4, 2) := by decide +kernel
theorem dS_bestKind_37 : decode kS_bestKind.2.1 37 = .ok (.iinc 5 1, 3) := by decide +kernel
theorem dS_bestKind_40 : decode kS_bestKind.2.1 40 = .ok (.goto (-34), 3) := by decide +kernel
theorem dS_bestKind_43 : decode kS_bestKind.2.1 43 = .ok (.iload 4, 2) := by decide +kernel
theorem dS_bestKind_45 : decode kS_bestKind.2.1 45 = .ok (.ireturn, 1) := by decide +kernel
theorem dS_chooseKinds_0 : decode kS_chooseKinds.2.1 0 = .ok (.iconst 0, 1) := by decide +kernel
theorem dS_chooseKinds_1 : decode kS_chooseKinds.2.1 1 = .ok (.istore_n 3, 1) := by decide +kernel
theorem dS_chooseKinds_2 : decode kS_chooseKinds.2.1 2 = .ok (.aload_n 0, 1) := by decide +kernel
theorem dS_chooseKinds_3 : decode kS_chooseKinds.2.1 3 = .ok (.iconst 0, 1) := by decide +kernel
theorem dS_chooseKinds_4 : decode kS_chooseKinds.2.1 4 = .ok (.putfield 29, 3) := by decide +kernel
theorem dS_chooseKinds_7 : decode kS_chooseKinds.2.1 7 = .ok (.aload_n 0, 1) := by decide +kernel
theorem dS_chooseKinds_8 : decode kS_chooseKinds.2.1 8 = .ok (.iconst 0, 1) := by decide +kernel
theorem dS_chooseKinds_9 : decode kS_chooseKinds.2.1 9 = .ok (.putfield 36, 3) := by decide +kernel
theorem dS_chooseKinds_12 : decode kS_chooseKinds.2.1 12 = .ok (.iconst 0, 1) := by decide +kernel
theorem dS_chooseKinds_13 : decode kS_chooseKinds.2.1 13 = .ok (.istore 4, 2) := by decide +kernel
theorem dS_chooseKinds_15 : decode kS_chooseKinds.2.1 15 = .ok (.iload 4, 2) := by decide +kernel
theorem dS_chooseKinds_17 : decode kS_chooseKinds.2.1 17 = .ok (.bipush 40, 2) := by decide +kernel
theorem dS_chooseKinds_19 : decode kS_chooseKinds.2.1 19 = .ok (.if_icmp .ge 72, 3) := by decide +kernel
theorem dS_chooseKinds_22 : decode kS_chooseKinds.2.1 22 = .ok (.aload_n 1, 1) := by decide +kernel
theorem dS_chooseKinds_23 : decode kS_chooseKinds.2.1 23 = .ok (.iload 4, 2) := by decide +kernel
theorem dS_chooseKinds_25 : decode kS_chooseKinds.2.1 25 = .ok (.invokevirtual 50, 3) := by decide +kernel
theorem dS_chooseKinds_28 : decode kS_chooseKinds.2.1 28 = .ok (.ifCond .eq 14, 3) := by decide +kernel
theorem dS_chooseKinds_31 : decode kS_chooseKinds.2.1 31 = .ok (.aload_n 0, 1) := by decide +kernel
theorem dS_chooseKinds_32 : decode kS_chooseKinds.2.1 32 = .ok (.iload_n 3, 1) := by decide +kernel
theorem dS_chooseKinds_33 : decode kS_chooseKinds.2.1 33 = .ok (.iload 4, 2) := by decide +kernel
theorem dS_chooseKinds_35 : decode kS_chooseKinds.2.1 35 = .ok (.iload_n 2, 1) := by decide +kernel
theorem dS_chooseKinds_36 : decode kS_chooseKinds.2.1 36 = .ok (.invokevirtual 63, 3) := by decide +kernel
theorem dS_chooseKinds_39 : decode kS_chooseKinds.2.1 39 = .ok (.goto 4, 3) := by decide +kernel
theorem dS_chooseKinds_42 : decode kS_chooseKinds.2.1 42 = .ok (.iconst 0, 1) := by decide +kernel
theorem dS_chooseKinds_43 : decode kS_chooseKinds.2.1 43 = .ok (.istore 5, 2) := by decide +kernel
theorem dS_chooseKinds_45 : decode kS_chooseKinds.2.1 45 = .ok (.iload_n 3, 1) := by decide +kernel
theorem dS_chooseKinds_46 : decode kS_chooseKinds.2.1 46 = .ok (.ifCond .ne 27, 3) := by decide +kernel
theorem dS_chooseKinds_49 : decode kS_chooseKinds.2.1 49 = .ok (.iload 5, 2) := by decide +kernel
theorem dS_chooseKinds_51 : decode kS_chooseKinds.2.1 51 = .ok (.ifCond .eq 22, 3) := by decide +kernel
theorem dS_chooseKinds_54 : decode kS_chooseKinds.2.1 54 = .ok (.aload_n 0, 1) := by decide +kernel
theorem dS_chooseKinds_55 : decode kS_chooseKinds.2.1 55 = .ok (.dup, 1) := by decide +kernel
theorem dS_chooseKinds_56 : decode kS_chooseKinds.2.1 56 = .ok (.getfield 36, 3) := by decide +kernel
theorem dS_chooseKinds_59 : decode kS_chooseKinds.2.1 59 = .ok (.aload_n 0, 1) := by decide +kernel
theorem dS_chooseKinds_60 : decode kS_chooseKinds.2.1 60 = .ok (.iconst 0, 1) := by decide +kernel
theorem dS_chooseKinds_61 : decode kS_chooseKinds.2.1 61 = .ok (.iload 4, 2) := by decide +kernel
theorem dS_chooseKinds_63 : decode kS_chooseKinds.2.1 63 = .ok (.iload 5, 2) := by decide +kernel
theorem dS_chooseKinds_65 : decode kS_chooseKinds.2.1 65 = .ok (.iload_n 2, 1) := by decide +kernel
theorem dS_chooseKinds_66 : decode kS_chooseKinds.2.1 66 = .ok (.invokevirtual 67, 3) := by decide +kernel
theorem dS_chooseKinds_69 : decode kS_chooseKinds.2.1 69 = .ok (.iadd, 1) := by decide +kernel
theorem dS_chooseKinds_70 : decode kS_chooseKinds.2.1 70 = .ok (.putfield 36, 3) := by decide +kernel
theorem dS_chooseKinds_73 : decode kS_chooseKinds.2.1 73 = .ok (.aload_n 0, 1) := by decide +kernel
theorem dS_chooseKinds_74 : decode kS_chooseKinds.2.1 74 = .ok (.iload 4, 2) := by decide +kernel
theorem dS_chooseKinds_76 : decode kS_chooseKinds.2.1 76 = .ok (.iload 5, 2) := by decide +kernel
theorem dS_chooseKinds_78 : decode kS_chooseKinds.2.1 78 = .ok (.iload_n 3, 1) := by decide +kernel
theorem dS_chooseKinds_79 : decode kS_chooseKinds.2.1 79 = .ok (.invokevirtual 80, 3) := by decide +kernel
theorem dS_chooseKinds_82 : decode kS_chooseKinds.2.1 82 = .ok (.iload 5, 2) := by decide +kernel
theorem dS_chooseKinds_84 : decode kS_chooseKinds.2.1 84 = .ok (.istore_n 3, 1) := by decide +kernel
theorem dS_chooseKinds_85 : decode kS_chooseKinds.2.1 85 = .ok (.iinc 4 1, 3) := by decide +kernel
theorem dS_chooseKinds_88 : decode kS_chooseKinds.2.1 88 = .ok (.goto (-73), 3) := by decide +kernel
theorem dS_chooseKinds_91 : decode kS_chooseKinds.2.1 91 = .ok (.return_, 1) := by decide +kernel
theorem dS_noteWay_0 : decode kS_noteWay.2.1 0 = .ok (.aload_n 0, 1) := by decide +kernel
theorem dS_noteWay_1 : decode kS_noteWay.2.1 1 = .ok (.getfield 9, 3) := by decide +kernel
theorem dS_noteWay_4 : decode kS_noteWay.2.1 4 = .ok (.iload_n 1, 1) := by decide +kernel
theorem dS_noteWay_5 : decode kS_noteWay.2.1 5 = .ok (.iload_n 2, 1) := by decide +kernel
theorem dS_noteWay_6 : decode kS_noteWay.2.1 6 = .ok (.iastore, 1) := by decide +kernel
theorem dS_noteWay_7 : decode kS_noteWay.2.1 7 = .ok (.iload_n 2, 1) := by decide +kernel
theorem dS_noteWay_8 : decode kS_noteWay.2.1 8 = .ok (.ifCond .ne 4, 3) := by decide +kernel
theorem dS_noteWay_11 : decode kS_noteWay.2.1 11 = .ok (.return_, 1) := by decide +kernel
theorem dS_noteWay_12 : decode kS_noteWay.2.1 12 = .ok (.iload_n 2, 1) := by decide +kernel
theorem dS_noteWay_13 : decode kS_noteWay.2.1 13 = .ok (.iload_n 3, 1) := by decide +kernel
theorem dS_noteWay_14 : decode kS_noteWay.2.1 14 = .ok (.if_icmp .eq 23, 3) := by decide +kernel
theorem dS_noteWay_17 : decode kS_noteWay.2.1 17 = .ok (.aload_n 0, 1) := by decide +kernel
theorem dS_noteWay_18 : decode kS_noteWay.2.1 18 = .ok (.getfield 15, 3) := by decide +kernel
theorem dS_noteWay_21 : decode kS_noteWay.2.1 21 = .ok (.aload_n 0, 1) := by decide +kernel
theorem dS_noteWay_22 : decode kS_noteWay.2.1 22 = .ok (.getfield 29, 3) := by decide +kernel
theorem dS_noteWay_25 : decode kS_noteWay.2.1 25 = .ok (.iload_n 1, 1) := by decide +kernel
theorem dS_noteWay_26 : decode kS_noteWay.2.1 26 = .ok (.iastore, 1) := by decide +kernel
theorem dS_noteWay_27 : decode kS_noteWay.2.1 27 = .ok (.aload_n 0, 1) := by decide +kernel
theorem dS_noteWay_28 : decode kS_noteWay.2.1 28 = .ok (.dup, 1) := by decide +kernel
theorem dS_noteWay_29 : decode kS_noteWay.2.1 29 = .ok (.getfield 29, 3) := by decide +kernel
theorem dS_noteWay_32 : decode kS_noteWay.2.1 32 = .ok (.iconst 1, 1) := by decide +kernel
theorem dS_noteWay_33 : decode kS_noteWay.2.1 33 = .ok (.iadd, 1) := by decide +kernel
theorem dS_noteWay_34 : decode kS_noteWay.2.1 34 = .ok (.putfield 29, 3) := by decide +kernel
theorem dS_noteWay_37 : decode kS_noteWay.2.1 37 = .ok (.aload_n 0, 1) := by decide +kernel
theorem dS_noteWay_38 : decode kS_noteWay.2.1 38 = .ok (.getfield 18, 3) := by decide +kernel
theorem dS_noteWay_41 : decode kS_noteWay.2.1 41 = .ok (.aload_n 0, 1) := by decide +kernel
theorem dS_noteWay_42 : decode kS_noteWay.2.1 42 = .ok (.getfield 29, 3) := by decide +kernel
theorem dS_noteWay_45 : decode kS_noteWay.2.1 45 = .ok (.iconst 1, 1) := by decide +kernel
theorem dS_noteWay_46 : decode kS_noteWay.2.1 46 = .ok (.isub, 1) := by decide +kernel
theorem dS_noteWay_47 : decode kS_noteWay.2.1 47 = .ok (.iload_n 1, 1) := by decide +kernel
theorem dS_noteWay_48 : decode kS_noteWay.2.1 48 = .ok (.iconst 1, 1) := by decide +kernel
theorem dS_noteWay_49 : decode kS_noteWay.2.1 49 = .ok (.iadd, 1) := by decide +kernel
theorem dS_noteWay_50 : decode kS_noteWay.2.1 50 = .ok (.iastore, 1) := by decide +kernel
theorem dS_noteWay_51 : decode kS_noteWay.2.1 51 = .ok (.return_, 1) := by decide +kernel
theorem dS_findTurns_0 : decode kS_findTurns.2.1 0 = .ok (.aload_n 0, 1) := by decide +kernel
theorem dS_findTurns_1 : decode kS_findTurns.2.1 1 = .ok (.iconst 0, 1) := by decide +kernel
theorem dS_findTurns_2 : decode kS_findTurns.2.1 2 = .ok (.putfield 33, 3) := by decide +kernel
theorem dS_findTurns_5 : decode kS_findTurns.2.1 5 = .ok (.iconst 1, 1) := by decide +kernel
theorem dS_findTurns_6 : decode kS_findTurns.2.1 6 = .ok (.istore_n 2, 1) := by decide +kernel
theorem dS_findTurns_7 : decode kS_findTurns.2.1 7 = .ok (.iload_n 2, 1) := by decide +kernel
theorem dS_findTurns_8 : decode kS_findTurns.2.1 8 = .ok (.aload_n 0, 1) := by decide +kernel
theorem dS_findTurns_9 : decode kS_findTurns.2.1 9 = .ok (.getfield 29, 3) := by decide +kernel
theorem dS_findTurns_12 : decode kS_findTurns.2.1 12 = .ok (.if_icmp .ge 43, 3) := by decide +kernel
theorem dS_findTurns_15 : decode kS_findTurns.2.1 15 = .ok (.aload_n 0, 1) := by decide +kernel
theorem dS_findTurns_16 : decode kS_findTurns.2.1 16 = .ok (.aload_n 1, 1) := by decide +kernel
theorem dS_findTurns_17 : decode kS_findTurns.2.1 17 = .ok (.iload_n 2, 1) := by decide +kernel
theorem dS_findTurns_18 : decode kS_findTurns.2.1 18 = .ok (.invokevirtual 84, 3) := by decide +kernel
theorem dS_findTurns_21 : decode kS_findTurns.2.1 21 = .ok (.ifCond .eq 28, 3) := by decide +kernel
theorem dS_findTurns_24 : decode kS_findTurns.2.1 24 = .ok (.aload_n 0, 1) := by decide +kernel
theorem dS_findTurns_25 : decode kS_findTurns.2.1 25 = .ok (.getfield 21, 3) := by decide +kernel
theorem dS_findTurns_28 : decode kS_findTurns.2.1 28 = .ok (.aload_n 0, 1) := by decide +kernel
theorem dS_findTurns_29 : decode kS_findTurns.2.1 29 = .ok (.getfield 33, 3) := by decide +kernel
theorem dS_findTurns_32 : decode kS_findTurns.2.1 32 = .ok (.aload_n 0, 1) := by decide +kernel
theorem dS_findTurns_33 : decode kS_findTurns.2.1 33 = .ok (.getfield 15, 3) := by decide +kernel
theorem dS_findTurns_36 : decode kS_findTurns.2.1 36 = .ok (.iload_n 2, 1) := by decide +kernel
theorem dS_findTurns_37 : decode kS_findTurns.2.1 37 = .ok (.iaload, 1) := by decide +kernel
theorem dS_findTurns_38 : decode kS_findTurns.2.1 38 = .ok (.iastore, 1) := by decide +kernel
theorem dS_findTurns_39 : decode kS_findTurns.2.1 39 = .ok (.aload_n 0, 1) := by decide +kernel
theorem dS_findTurns_40 : decode kS_findTurns.2.1 40 = .ok (.dup, 1) := by decide +kernel
theorem dS_findTurns_41 : decode kS_findTurns.2.1 41 = .ok (.getfield 33, 3) := by decide +kernel
theorem dS_findTurns_44 : decode kS_findTurns.2.1 44 = .ok (.iconst 1, 1) := by decide +kernel
theorem dS_findTurns_45 : decode kS_findTurns.2.1 45 = .ok (.iadd, 1) := by decide +kernel
theorem dS_findTurns_46 : decode kS_findTurns.2.1 46 = .ok (.putfield 33, 3) := by decide +kernel
theorem dS_findTurns_49 : decode kS_findTurns.2.1 49 = .ok (.iinc 2 1, 3) := by decide +kernel
theorem dS_findTurns_52 : decode kS_findTurns.2.1 52 = .ok (.goto (-45), 3) := by decide +kernel
theorem dS_findTurns_55 : decode kS_findTurns.2.1 55 = .ok (.return_, 1) := by decide +kernel
theorem dS_turnsAtStart_0 : decode kS_turnsAtStart.2.1 0 = .ok (.aload_n 0, 1) := by decide +kernel
theorem dS_turnsAtStart_1 : decode kS_turnsAtStart.2.1 1 = .ok (.getfield 15, 3) := by decide +kernel
theorem dS_turnsAtStart_4 : decode kS_turnsAtStart.2.1 4 = .ok (.iload_n 2, 1) := by decide +kernel
theorem dS_turnsAtStart_5 : decode kS_turnsAtStart.2.1 5 = .ok (.iaload, 1) := by decide +kernel
theorem dS_turnsAtStart_6 : decode kS_turnsAtStart.2.1 6 = .ok (.istore_n 3, 1) := by decide +kernel
theorem dS_turnsAtStart_7 : decode kS_turnsAtStart.2.1 7 = .ok (.aload_n 0, 1) := by decide +kernel
theorem dS_turnsAtStart_8 : decode kS_turnsAtStart.2.1 8 = .ok (.getfield 18, 3) := by decide +kernel
theorem dS_turnsAtStart_11 : decode kS_turnsAtStart.2.1 11 = .ok (.iload_n 2, 1) := by decide +kernel
theorem dS_turnsAtStart_12 : decode kS_turnsAtStart.2.1 12 = .ok (.iconst 1, 1) := by decide +kernel
theorem dS_turnsAtStart_13 : decode kS_turnsAtStart.2.1 13 = .ok (.isub, 1) := by decide +kernel
theorem dS_turnsAtStart_14 : decode kS_turnsAtStart.2.1 14 = .ok (.iaload, 1) := by decide +kernel
theorem dS_turnsAtStart_15 : decode kS_turnsAtStart.2.1 15 = .ok (.iload_n 3, 1) := by decide +kernel
theorem dS_turnsAtStart_16 : decode kS_turnsAtStart.2.1 16 = .ok (.if_icmp .ne 23, 3) := by decide +kernel
theorem dS_turnsAtStart_19 : decode kS_turnsAtStart.2.1 19 = .ok (.aload_n 0, 1) := by decide +kernel
theorem dS_turnsAtStart_20 : decode kS_turnsAtStart.2.1 20 = .ok (.iload_n 2, 1) := by decide +kernel
theorem dS_turnsAtStart_21 : decode kS_turnsAtStart.2.1 21 = .ok (.iconst 1, 1) := by decide +kernel
theorem dS_turnsAtStart_22 : decode kS_turnsAtStart.2.1 22 = .ok (.isub, 1) := by decide +kernel
theorem dS_turnsAtStart_23 : decode kS_turnsAtStart.2.1 23 = .ok (.invokevirtual 88, 3) := by decide +kernel
theorem dS_turnsAtStart_26 : decode kS_turnsAtStart.2.1 26 = .ok (.iconst 3, 1) := by decide +kernel
theorem dS_turnsAtStart_27 : decode kS_turnsAtStart.2.1 27 = .ok (.if_icmp .eq 12, 3) := by decide +kernel
theorem dS_turnsAtStart_30 : decode kS_turnsAtStart.2.1 30 = .ok (.aload_n 0, 1) := by decide +kernel
theorem dS_turnsAtStart_31 : decode kS_turnsAtStart.2.1 31 = .ok (.iload_n 2, 1) := by decide +kernel
theorem dS_turnsAtStart_32 : decode kS_turnsAtStart.2.1 32 = .ok (.invokevirtual 88, 3) := by decide +kernel
theorem dS_turnsAtStart_35 : decode kS_turnsAtStart.2.1 35 = .ok (.iconst 3, 1) := by decide +kernel
theorem dS_turnsAtStart_36 : decode kS_turnsAtStart.2.1 36 = .ok (.if_icmp .ne 5, 3) := by decide +kernel
theorem dS_turnsAtStart_39 : decode kS_turnsAtStart.2.1 39 = .ok (.iconst 0, 1) := by decide +kernel
theorem dS_turnsAtStart_40 : decode kS_turnsAtStart.2.1 40 = .ok (.ireturn, 1) := by decide +kernel
theorem dS_turnsAtStart_41 : decode kS_turnsAtStart.2.1 41 = .ok (.aload_n 1, 1) := by decide +kernel
theorem dS_turnsAtStart_42 : decode kS_turnsAtStart.2.1 42 = .ok (.getfield 56, 3) := by decide +kernel
theorem dS_turnsAtStart_45 : decode kS_turnsAtStart.2.1 45 = .ok (.iload_n 3, 1) := by decide +kernel
theorem dS_turnsAtStart_46 : decode kS_turnsAtStart.2.1 46 = .ok (.iaload, 1) := by decide +kernel
theorem dS_turnsAtStart_47 : decode kS_turnsAtStart.2.1 47 = .ok (.aload_n 1, 1) := by decide +kernel
theorem dS_turnsAtStart_48 : decode kS_turnsAtStart.2.1 48 = .ok (.getfield 56, 3) := by decide +kernel
theorem dS_turnsAtStart_51 : decode kS_turnsAtStart.2.1 51 = .ok (.aload_n 0, 1) := by decide +kernel
theorem dS_turnsAtStart_52 : decode kS_turnsAtStart.2.1 52 = .ok (.getfield 15, 3) := by decide +kernel
theorem dS_turnsAtStart_55 : decode kS_turnsAtStart.2.1 55 = .ok (.iload_n 2, 1) := by decide +kernel
theorem dS_turnsAtStart_56 : decode kS_turnsAtStart.2.1 56 = .ok (.iconst 1, 1) := by decide +kernel
theorem dS_turnsAtStart_57 : decode kS_turnsAtStart.2.1 57 = .ok (.isub, 1) := by decide +kernel
theorem dS_turnsAtStart_58 : decode kS_turnsAtStart.2.1 58 = .ok (.iaload, 1) := by decide +kernel
theorem dS_turnsAtStart_59 : decode kS_turnsAtStart.2.1 59 = .ok (.iaload, 1) := by decide +kernel
theorem dS_turnsAtStart_60 : decode kS_turnsAtStart.2.1 60 = .ok (.isub, 1) := by decide +kernel
theorem dS_turnsAtStart_61 : decode kS_turnsAtStart.2.1 61 = .ok (.invokestatic 76, 3) := by decide +kernel
theorem dS_turnsAtStart_64 : decode kS_turnsAtStart.2.1 64 = .ok (.istore 4, 2) := by decide +kernel
theorem dS_turnsAtStart_66 : decode kS_turnsAtStart.2.1 66 = .ok (.aload_n 1, 1) := by decide +kernel
theorem dS_turnsAtStart_67 : decode kS_turnsAtStart.2.1 67 = .ok (.getfield 56, 3) := by decide +kernel
theorem dS_turnsAtStart_70 : decode kS_turnsAtStart.2.1 70 = .ok (.iload_n 3, 1) := by decide +kernel
theorem dS_turnsAtStart_71 : decode kS_turnsAtStart.2.1 71 = .ok (.iaload, 1) := by decide +kernel
theorem dS_turnsAtStart_72 : decode kS_turnsAtStart.2.1 72 = .ok (.aload_n 1, 1) := by decide +kernel
theorem dS_turnsAtStart_73 : decode kS_turnsAtStart.2.1 73 = .ok (.getfield 56, 3) := by decide +kernel
theorem dS_turnsAtStart_76 : decode kS_turnsAtStart.2.1 76 = .ok (.aload_n 0, 1) := by decide +kernel
theorem dS_turnsAtStart_77 : decode kS_turnsAtStart.2.1 77 = .ok (.getfield 18, 3) := by decide +kernel
theorem dS_turnsAtStart_80 : decode kS_turnsAtStart.2.1 80 = .ok (.iload_n 2, 1) := by decide +kernel
theorem dS_turnsAtStart_81 : decode kS_turnsAtStart.2.1 81 = .ok (.iaload, 1) := by decide +kernel
theorem dS_turnsAtStart_82 : decode kS_turnsAtStart.2.1 82 = .ok (.iaload, 1) := by decide +kernel
theorem dS_turnsAtStart_83 : decode kS_turnsAtStart.2.1 83 = .ok (.isub, 1) := by decide +kernel
theorem dS_turnsAtStart_84 : decode kS_turnsAtStart.2.1 84 = .ok (.invokestatic 76, 3) := by decide +kernel
theorem dS_turnsAtStart_87 : decode kS_turnsAtStart.2.1 87 = .ok (.istore 5, 2) := by decide +kernel
theorem dS_turnsAtStart_89 : decode kS_turnsAtStart.2.1 89 = .ok (.iload 4, 2) := by decide +kernel
theorem dS_turnsAtStart_91 : decode kS_turnsAtStart.2.1 91 = .ok (.iload 5, 2) := by decide +kernel
theorem dS_turnsAtStart_93 : decode kS_turnsAtStart.2.1 93 = .ok (.invokestatic 91, 3) := by decide +kernel
theorem dS_turnsAtStart_96 : decode kS_turnsAtStart.2.1 96 = .ok (.iconst 2, 1) := by decide +kernel
theorem dS_turnsAtStart_97 : decode kS_turnsAtStart.2.1 97 = .ok (.aload_n 1, 1) := by decide +kernel
theorem dS_turnsAtStart_98 : decode kS_turnsAtStart.2.1 98 = .ok (.getfield 94, 3) := by decide +kernel
theorem dS_turnsAtStart_101 : decode kS_turnsAtStart.2.1 101 = .ok (.imul, 1) := by decide +kernel
theorem dS_turnsAtStart_102 : decode kS_turnsAtStart.2.1 102 = .ok (.if_icmp .le 7, 3) := by decide +kernel
theorem dS_turnsAtStart_105 : decode kS_turnsAtStart.2.1 105 = .ok (.iconst 1, 1) := by decide +kernel
theorem dS_turnsAtStart_106 : decode kS_turnsAtStart.2.1 106 = .ok (.goto 4, 3) := by decide +kernel
theorem dS_turnsAtStart_109 : decode kS_turnsAtStart.2.1 109 = .ok (.iconst 0, 1) := by decide +kernel
theorem dS_turnsAtStart_110 : decode kS_turnsAtStart.2.1 110 = .ok (.ireturn, 1) := by decide +kernel
theorem dS_hasSpan_0 : decode kS_hasSpan.2.1 0 = .ok (.iload_n 1, 1) := by decide +kernel
theorem dS_hasSpan_1 : decode kS_hasSpan.2.1 1 = .ok (.ifCond .lt 15, 3) := by decide +kernel
theorem dS_hasSpan_4 : decode kS_hasSpan.2.1 4 = .ok (.iload_n 1, 1) := by decide +kernel
theorem dS_hasSpan_5 : decode kS_hasSpan.2.1 5 = .ok (.aload_n 0, 1) := by decide +kernel
theorem dS_hasSpan_6 : decode kS_hasSpan.2.1 6 = .ok (.getfield 29, 3) := by decide +kernel
theorem dS_hasSpan_9 : decode kS_hasSpan.2.1 9 = .ok (.if_icmp .ge 7, 3) := by decide +kernel
theorem dS_hasSpan_12 : decode kS_hasSpan.2.1 12 = .ok (.iconst 1, 1) := by decide +kernel
theorem dS_hasSpan_13 : decode kS_hasSpan.2.1 13 = .ok (.goto 4, 3) := by decide +kernel
theorem dS_hasSpan_16 : decode kS_hasSpan.2.1 16 = .ok (.iconst 0, 1) := by decide +kernel
theorem dS_hasSpan_17 : decode kS_hasSpan.2.1 17 = .ok (.ireturn, 1) := by decide +kernel
theorem dS_kindOfSpan_0 : decode kS_kindOfSpan.2.1 0 = .ok (.aload_n 0, 1) := by decide +kernel
theorem dS_kindOfSpan_1 : decode kS_kindOfSpan.2.1 1 = .ok (.getfield 9, 3) := by decide +kernel
theorem dS_kindOfSpan_4 : decode kS_kindOfSpan.2.1 4 = .ok (.aload_n 0, 1) := by decide +kernel
theorem dS_kindOfSpan_5 : decode kS_kindOfSpan.2.1 5 = .ok (.getfield 15, 3) := by decide +kernel
theorem dS_kindOfSpan_8 : decode kS_kindOfSpan.2.1 8 = .ok (.iload_n 1, 1) := by decide +kernel
theorem dS_kindOfSpan_9 : decode kS_kindOfSpan.2.1 9 = .ok (.iaload, 1) := by decide +kernel
theorem dS_kindOfSpan_10 : decode kS_kindOfSpan.2.1 10 = .ok (.iaload, 1) := by decide +kernel
theorem dS_kindOfSpan_11 : decode kS_kindOfSpan.2.1 11 = .ok (.ireturn, 1) := by decide +kernel
theorem dS_waysOfSpan_0 : decode kS_waysOfSpan.2.1 0 = .ok (.aload_n 0, 1) := by decide +kernel
theorem dS_waysOfSpan_1 : decode kS_waysOfSpan.2.1 1 = .ok (.getfield 18, 3) := by decide +kernel
theorem dS_waysOfSpan_4 : decode kS_waysOfSpan.2.1 4 = .ok (.iload_n 1, 1) := by decide +kernel
theorem dS_waysOfSpan_5 : decode kS_waysOfSpan.2.1 5 = .ok (.iaload, 1) := by decide +kernel
theorem dS_waysOfSpan_6 : decode kS_waysOfSpan.2.1 6 = .ok (.aload_n 0, 1) := by decide +kernel
theorem dS_waysOfSpan_7 : decode kS_waysOfSpan.2.1 7 = .ok (.getfield 15, 3) := by decide +kernel
theorem dS_waysOfSpan_10 : decode kS_waysOfSpan.2.1 10 = .ok (.iload_n 1, 1) := by decide +kernel
theorem dS_waysOfSpan_11 : decode kS_waysOfSpan.2.1 11 = .ok (.iaload, 1) := by decide +kernel
theorem dS_waysOfSpan_12 : decode kS_waysOfSpan.2.1 12 = .ok (.isub, 1) := by decide +kernel
theorem dS_waysOfSpan_13 : decode kS_waysOfSpan.2.1 13 = .ok (.ireturn, 1) := by decide +kernel
theorem dS_allWays_0 : decode kS_allWays.2.1 0 = .ok (.iconst 0, 1) := by decide +kernel
theorem dS_allWays_1 : decode kS_allWays.2.1 1 = .ok (.istore_n 1, 1) := by decide +kernel
theorem dS_allWays_2 : decode kS_allWays.2.1 2 = .ok (.iconst 0, 1) := by decide +kernel
theorem dS_allWays_3 : decode kS_allWays.2.1 3 = .ok (.istore_n 2, 1) := by decide +kernel
theorem dS_allWays_4 : decode kS_allWays.2.1 4 = .ok (.iload_n 2, 1) := by decide +kernel
theorem dS_allWays_5 : decode kS_allWays.2.1 5 = .ok (.aload_n 0, 1) := by decide +kernel
theorem dS_allWays_6 : decode kS_allWays.2.1 6 = .ok (.getfield 29, 3) := by decide +kernel
theorem dS_allWays_9 : decode kS_allWays.2.1 9 = .ok (.if_icmp .ge 17, 3) := by decide +kernel
theorem dS_allWays_12 : decode kS_allWays.2.1 12 = .ok (.iload_n 1, 1) := by decide +kernel
theorem dS_allWays_13 : decode kS_allWays.2.1 13 = .ok (.aload_n 0, 1) := by decide +kernel
theorem dS_allWays_14 : decode kS_allWays.2.1 14 = .ok (.iload_n 2, 1) := by decide +kernel
theorem dS_allWays_15 : decode kS_allWays.2.1 15 = .ok (.invokevirtual 97, 3) := by decide +kernel
theorem dS_allWays_18 : decode kS_allWays.2.1 18 = .ok (.iadd, 1) := by decide +kernel
theorem dS_allWays_19 : decode kS_allWays.2.1 19 = .ok (.istore_n 1, 1) := by decide +kernel
theorem dS_allWays_20 : decode kS_allWays.2.1 20 = .ok (.iinc 2 1, 3) := by decide +kernel
theorem dS_allWays_23 : decode kS_allWays.2.1 23 = .ok (.goto (-19), 3) := by decide +kernel
theorem dS_allWays_26 : decode kS_allWays.2.1 26 = .ok (.iload_n 1, 1) := by decide +kernel
theorem dS_allWays_27 : decode kS_allWays.2.1 27 = .ok (.ireturn, 1) := by decide +kernel
theorem dS_beatsOfSpan_0 : decode kS_beatsOfSpan.2.1 0 = .ok (.aload_n 0, 1) := by decide +kernel
theorem dS_beatsOfSpan_1 : decode kS_beatsOfSpan.2.1 1 = .ok (.invokevirtual 100, 3) := by decide +kernel
theorem dS_beatsOfSpan_4 : decode kS_beatsOfSpan.2.1 4 = .ok (.istore_n 3, 1) := by decide +kernel
theorem dS_beatsOfSpan_5 : decode kS_beatsOfSpan.2.1 5 = .ok (.iload_n 3, 1) := by decide +kernel
theorem dS_beatsOfSpan_6 : decode kS_beatsOfSpan.2.1 6 = .ok (.iconst 1, 1) := by decide +kernel
theorem dS_beatsOfSpan_7 : decode kS_beatsOfSpan.2.1 7 = .ok (.if_icmp .ge 5, 3) := by decide +kernel
theorem dS_beatsOfSpan_10 : decode kS_beatsOfSpan.2.1 10 = .ok (.iconst (-1), 1) := by decide +kernel
theorem dS_beatsOfSpan_11 : decode kS_beatsOfSpan.2.1 11 = .ok (.ireturn, 1) := by decide +kernel
theorem dS_beatsOfSpan_12 : decode kS_beatsOfSpan.2.1 12 = .ok (.iload_n 2, 1) := by decide +kernel
theorem dS_beatsOfSpan_13 : decode kS_beatsOfSpan.2.1 13 = .ok (.aload_n 0, 1) := by decide +kernel
theorem dS_beatsOfSpan_14 : decode kS_beatsOfSpan.2.1 14 = .ok (.getfield 29, 3) := by decide +kernel
theorem dS_beatsOfSpan_17 : decode kS_beatsOfSpan.2.1 17 = .ok (.isub, 1) := by decide +kernel
theorem dS_beatsOfSpan_18 : decode kS_beatsOfSpan.2.1 18 = .ok (.istore 4, 2) := by decide +kernel
theorem dS_beatsOfSpan_20 : decode kS_beatsOfSpan.2.1 20 = .ok (.iload 4, 2) := by decide +kernel
theorem dS_beatsOfSpan_22 : decode kS_beatsOfSpan.2.1 22 = .ok (.istore 5, 2) := by decide +kernel
theorem dS_beatsOfSpan_24 : decode kS_beatsOfSpan.2.1 24 = .ok (.iconst 0, 1) := by decide +kernel
theorem dS_beatsOfSpan_25 : decode kS_beatsOfSpan.2.1 25 = .ok (.istore 6, 2) := by decide +kernel
theorem dS_beatsOfSpan_27 : decode kS_beatsOfSpan.2.1 27 = .ok (.iload 4, 2) := by decide +kernel
theorem dS_beatsOfSpan_29 : decode kS_beatsOfSpan.2.1 29 = .ok (.aload_n 0, 1) := by decide +kernel
theorem dS_beatsOfSpan_30 : decode kS_beatsOfSpan.2.1 30 = .ok (.iload_n 1, 1) := by decide +kernel
theorem dS_beatsOfSpan_31 : decode kS_beatsOfSpan.2.1 31 = .ok (.invokevirtual 97, 3) := by decide +kernel
theorem dS_beatsOfSpan_34 : decode kS_beatsOfSpan.2.1 34 = .ok (.imul, 1) := by decide +kernel
theorem dS_beatsOfSpan_35 : decode kS_beatsOfSpan.2.1 35 = .ok (.iload_n 3, 1) := by decide +kernel
theorem dS_beatsOfSpan_36 : decode kS_beatsOfSpan.2.1 36 = .ok (.irem, 1) := by decide +kernel
theorem dS_beatsOfSpan_37 : decode kS_beatsOfSpan.2.1 37 = .ok (.istore 7, 2) := by decide +kernel
theorem dS_beatsOfSpan_39 : decode kS_beatsOfSpan.2.1 39 = .ok (.iconst 0, 1) := by decide +kernel
theorem dS_beatsOfSpan_40 : decode kS_beatsOfSpan.2.1 40 = .ok (.istore 8, 2) := by decide +kernel
theorem dS_beatsOfSpan_42 : decode kS_beatsOfSpan.2.1 42 = .ok (.iload 8, 2) := by decide +kernel
theorem dS_beatsOfSpan_44 : decode kS_beatsOfSpan.2.1 44 = .ok (.aload_n 0, 1) := by decide +kernel
theorem dS_beatsOfSpan_45 : decode kS_beatsOfSpan.2.1 45 = .ok (.getfield 29, 3) := by decide +kernel
theorem dS_beatsOfSpan_48 : decode kS_beatsOfSpan.2.1 48 = .ok (.if_icmp .ge 61, 3) := by decide +kernel
theorem dS_beatsOfSpan_51 : decode kS_beatsOfSpan.2.1 51 = .ok (.iload 5, 2) := by decide +kernel
theorem dS_beatsOfSpan_53 : decode kS_beatsOfSpan.2.1 53 = .ok (.iload 4, 2) := by decide +kernel
theorem dS_beatsOfSpan_55 : decode kS_beatsOfSpan.2.1 55 = .ok (.aload_n 0, 1) := by decide +kernel
theorem dS_beatsOfSpan_56 : decode kS_beatsOfSpan.2.1 56 = .ok (.iload 8, 2) := by decide +kernel
theorem dS_beatsOfSpan_58 : decode kS_beatsOfSpan.2.1 58 = .ok (.invokevirtual 97, 3) := by decide +kernel
theorem dS_beatsOfSpan_61 : decode kS_beatsOfSpan.2.1 61 = .ok (.imul, 1) := by decide +kernel
theorem dS_beatsOfSpan_62 : decode kS_beatsOfSpan.2.1 62 = .ok (.iload_n 3, 1) := by decide +kernel
theorem dS_beatsOfSpan_63 : decode kS_beatsOfSpan.2.1 63 = .ok (.idiv, 1) := by decide +kernel
theorem dS_beatsOfSpan_64 : decode kS_beatsOfSpan.2.1 64 = .ok (.isub, 1) := by decide +kernel
theorem dS_beatsOfSpan_65 : decode kS_beatsOfSpan.2.1 65 = .ok (.istore 5, 2) := by decide +kernel
theorem dS_beatsOfSpan_67 : decode kS_beatsOfSpan.2.1 67 = .ok (.iload 4, 2) := by decide +kernel
theorem dS_beatsOfSpan_69 : decode kS_beatsOfSpan.2.1 69 = .ok (.aload_n 0, 1) := by decide +kernel
theorem dS_beatsOfSpan_70 : decode kS_beatsOfSpan.2.1 70 = .ok (.iload 8, 2) := by decide +kernel
theorem dS_beatsOfSpan_72 : decode kS_beatsOfSpan.2.1 72 = .ok (.invokevirtual 97, 3) := by decide +kernel
theorem dS_beatsOfSpan_75 : decode kS_beatsOfSpan.2.1 75 = .ok (.imul, 1) := by decide +kernel
theorem dS_beatsOfSpan_76 : decode kS_beatsOfSpan.2.1 76 = .ok (.iload_n 3, 1) := by decide +kernel
theorem dS_beatsOfSpan_77 : decode kS_beatsOfSpan.2.1 77 = .ok (.irem, 1) := by decide +kernel
theorem dS_beatsOfSpan_78 : decode kS_beatsOfSpan.2.1 78 = .ok (.istore 9, 2) := by decide +kernel
theorem dS_beatsOfSpan_80 : decode kS_beatsOfSpan.2.1 80 = .ok (.iload 9, 2) := by decide +kernel
theorem dS_beatsOfSpan_82 : decode kS_beatsOfSpan.2.1 82 = .ok (.iload 7, 2) := by decide +kernel
theorem dS_beatsOfSpan_84 : decode kS_beatsOfSpan.2.1 84 = .ok (.if_icmp .gt 16, 3) := by decide +kernel
theorem dS_beatsOfSpan_87 : decode kS_beatsOfSpan.2.1 87 = .ok (.iload 9, 2) := by decide +kernel
theorem dS_beatsOfSpan_89 : decode kS_beatsOfSpan.2.1 89 = .ok (.iload 7, 2) := by decide +kernel
theorem dS_beatsOfSpan_91 : decode kS_beatsOfSpan.2.1 91 = .ok (.if_icmp .ne 12, 3) := by decide +kernel
theorem dS_beatsOfSpan_94 : decode kS_beatsOfSpan.2.1 94 = .ok (.iload 8, 2) := by decide +kernel
theorem dS_beatsOfSpan_96 : decode kS_beatsOfSpan.2.1 96 = .ok (.iload_n 1, 1) := by decide +kernel
theorem dS_beatsOfSpan_97 : decode kS_beatsOfSpan.2.1 97 = .ok (.if_icmp .ge 6, 3) := by decide +kernel
theorem dS_beatsOfSpan_100 : decode kS_beatsOfSpan.2.1 100 = .ok (.iinc 6 1, 3) := by decide +kernel
theorem dS_beatsOfSpan_103 : decode kS_beatsOfSpan.2.1 103 = .ok (.iinc 8 1, 3) := by decide +kernel
theorem dS_beatsOfSpan_106 : decode kS_beatsOfSpan.2.1 106 = .ok (.goto (-64), 3) := by decide +kernel
theorem dS_beatsOfSpan_109 : decode kS_beatsOfSpan.2.1 109 = .ok (.iconst 1, 1) := by decide +kernel
theorem dS_beatsOfSpan_110 : decode kS_beatsOfSpan.2.1 110 = .ok (.iload 4, 2) := by decide +kernel
theorem dS_beatsOfSpan_112 : decode kS_beatsOfSpan.2.1 112 = .ok (.aload_n 0, 1) := by decide +kernel
theorem dS_beatsOfSpan_113 : decode kS_beatsOfSpan.2.1 113 = .ok (.iload_n 1, 1) := by decide +kernel
theorem dS_beatsOfSpan_114 : decode kS_beatsOfSpan.2.1 114 = .ok (.invokevirtual 97, 3) := by decide +kernel
theorem dS_beatsOfSpan_117 : decode kS_beatsOfSpan.2.1 117 = .ok (.imul, 1) := by decide +kernel
theorem dS_beatsOfSpan_118 : decode kS_beatsOfSpan.2.1 118 = .ok (.iload_n 3, 1) := by decide +kernel
theorem dS_beatsOfSpan_119 : decode kS_beatsOfSpan.2.1 119 = .ok (.idiv, 1) := by decide +kernel
theorem dS_beatsOfSpan_120 : decode kS_beatsOfSpan.2.1 120 = .ok (.iadd, 1) := by decide +kernel
theorem dS_beatsOfSpan_121 : decode kS_beatsOfSpan.2.1 121 = .ok (.istore 8, 2) := by decide +kernel
theorem dS_beatsOfSpan_123 : decode kS_beatsOfSpan.2.1 123 = .ok (.iload 6, 2) := by decide +kernel
theorem dS_beatsOfSpan_125 : decode kS_beatsOfSpan.2.1 125 = .ok (.iload 5, 2) := by decide +kernel
theorem dS_beatsOfSpan_127 : decode kS_beatsOfSpan.2.1 127 = .ok (.if_icmp .ge 10, 3) := by decide +kernel
theorem dS_beatsOfSpan_130 : decode kS_beatsOfSpan.2.1 130 = .ok (.iload 8, 2) := by decide +kernel
theorem dS_beatsOfSpan_132 : decode kS_beatsOfSpan.2.1 132 = .ok (.iconst 1, 1) := by decide +kernel
theorem dS_beatsOfSpan_133 : decode kS_beatsOfSpan.2.1 133 = .ok (.iadd, 1) := by decide +kernel
theorem dS_beatsOfSpan_134 : decode kS_beatsOfSpan.2.1 134 = .ok (.goto 5, 3) := by decide +kernel
theorem dS_beatsOfSpan_137 : decode kS_beatsOfSpan.2.1 137 = .ok (.iload 8, 2) := by decide +kernel
theorem dS_beatsOfSpan_139 : decode kS_beatsOfSpan.2.1 139 = .ok (.ireturn, 1) := by decide +kernel
end
section
theorem dT_init_0 : decode kT_init.2.1 0 = .ok (.aload_n 0, 1) := by decide +kernel
theorem dT_init_1 : decode kT_init.2.1 1 = .ok (.invokespecial 1, 3) := by decide +kernel
theorem dT_init_4 : decode kT_init.2.1 4 = .ok (.aload_n 0, 1) := by decide +kernel
theorem dT_init_5 : decode kT_init.2.1 5 = .ok (.iconst 4, 1) := by decide +kernel
theorem dT_init_6 : decode kT_init.2.1 6 = .ok (.newarray .int, 2) := by decide +kernel
theorem dT_init_8 : decode kT_init.2.1 8 = .ok (.putfield 7, 3) := by decide +kernel
theorem dT_init_11 : decode kT_init.2.1 11 = .ok (.aload_n 0, 1) := by decide +kernel
theorem dT_init_12 : decode kT_init.2.1 12 = .ok (.sipush 160, 3) := by decide +kernel
theorem dT_init_15 : decode kT_init.2.1 15 = .ok (.newarray .int, 2) := by decide +kernel
theorem dT_init_17 : decode kT_init.2.1 17 = .ok (.putfield 13, 3) := by decide +kernel
theorem dT_init_20 : decode kT_init.2.1 20 = .ok (.aload_n 0, 1) := by decide +kernel
theorem dT_init_21 : decode kT_init.2.1 21 = .ok (.iconst 4, 1) := by decide +kernel
theorem dT_init_22 : decode kT_init.2.1 22 = .ok (.newarray .int, 2) := by decide +kernel
theorem dT_init_24 : decode kT_init.2.1 24 = .ok (.putfield 16, 3) := by decide +kernel
theorem dT_init_27 : decode kT_init.2.1 27 = .ok (.aload_n 0, 1) := by decide +kernel
theorem dT_init_28 : decode kT_init.2.1 28 = .ok (.iconst 4, 1) := by decide +kernel
theorem dT_init_29 : decode kT_init.2.1 29 = .ok (.newarray .int, 2) := by decide +kernel
theorem dT_init_31 : decode kT_init.2.1 31 = .ok (.dup, 1) := by decide +kernel
theorem dT_init_32 : decode kT_init.2.1 32 = .ok (.iconst 0, 1) := by decide +kernel
theorem dT_init_33 : decode kT_init.2.1 33 = .ok (.bipush 50, 2) := by decide +kernel
theorem dT_init_35 : decode kT_init.2.1 35 = .ok (.iastore, 1) := by decide +kernel
theorem dT_init_36 : decode kT_init.2.1 36 = .ok (.dup, 1) := by decide +kernel
theorem dT_init_37 : decode kT_init.2.1 37 = .ok (.iconst 1, 1) := by decide +kernel
theorem dT_init_38 : decode kT_init.2.1 38 = .ok (.bipush 50, 2) := by decide +kernel
theorem dT_init_40 : decode kT_init.2.1 40 = .ok (.iastore, 1) := by decide +kernel
theorem dT_init_41 : decode kT_init.2.1 41 = .ok (.dup, 1) := by decide +kernel
theorem dT_init_42 : decode kT_init.2.1 42 = .ok (.iconst 2, 1) := by decide +kernel
theorem dT_init_43 : decode kT_init.2.1 43 = .ok (.bipush 50, 2) := by decide +kernel
theorem dT_init_45 : decode kT_init.2.1 45 = .ok (.iastore, 1) := by decide +kernel
theorem dT_init_46 : decode kT_init.2.1 46 = .ok (.dup, 1) := by decide +kernel
theorem dT_init_47 : decode kT_init.2.1 47 = .ok (.iconst 3, 1) := by decide +kernel
theorem dT_init_48 : decode kT_init.2.1 48 = .ok (.bipush 50, 2) := by decide +kernel
theorem dT_init_50 : decode kT_init.2.1 50 = .ok (.iastore, 1) := by decide +kernel
theorem dT_init_51 : decode kT_init.2.1 51 = .ok (.putfield 19, 3) := by decide +kernel
theorem dT_init_54 : decode kT_init.2.1 54 = .ok (.aload_n 0, 1) := by decide +kernel
theorem dT_init_55 : decode kT_init.2.1 55 = .ok (.bipush 10, 2) := by decide +kernel
theorem dT_init_57 : decode kT_init.2.1 57 = .ok (.putfield 22, 3) := by decide +kernel
theorem dT_init_60 : decode kT_init.2.1 60 = .ok (.aload_n 0, 1) := by decide +kernel
theorem dT_init_61 : decode kT_init.2.1 61 = .ok (.iconst (-1), 1) := by decide +kernel
theorem dT_init_62 : decode kT_init.2.1 62 = .ok (.putfield 26, 3) := by decide +kernel
theorem dT_init_65 : decode kT_init.2.1 65 = .ok (.aload_n 0, 1) := by decide +kernel
theorem dT_init_66 : decode kT_init.2.1 66 = .ok (.bipush 40, 2) := by decide +kernel
theorem dT_init_68 : decode kT_init.2.1 68 = .ok (.newarray .int, 2) := by decide +kernel
theorem dT_init_70 : decode kT_init.2.1 70 = .ok (.putfield 29, 3) := by decide +kernel
theorem dT_init_73 : decode kT_init.2.1 73 = .ok (.aload_n 0, 1) := by decide +kernel
theorem dT_init_74 : decode kT_init.2.1 74 = .ok (.sipush 164, 3) := by decide +kernel
theorem dT_init_77 : decode kT_init.2.1 77 = .ok (.newarray .int, 2) := by decide +kernel
theorem dT_init_79 : decode kT_init.2.1 79 = .ok (.putfield 32, 3) := by decide +kernel
theorem dT_init_82 : decode kT_init.2.1 82 = .ok (.aload_n 0, 1) := by decide +kernel
theorem dT_init_83 : decode kT_init.2.1 83 = .ok (.bipush 40, 2) := by decide +kernel
theorem dT_init_85 : decode kT_init.2.1 85 = .ok (.newarray .int, 2) := by decide +kernel
theorem dT_init_87 : decode kT_init.2.1 87 = .ok (.putfield 35, 3) := by decide +kernel
theorem dT_init_90 : decode kT_init.2.1 90 = .ok (.aload_n 0, 1) := by decide +kernel
theorem dT_init_91 : decode kT_init.2.1 91 = .ok (.bipush 40, 2) := by decide +kernel
theorem dT_init_93 : decode kT_init.2.1 93 = .ok (.newarray .int, 2) := by decide +kernel
theorem dT_init_95 : decode kT_init.2.1 95 = .ok (.putfield 38, 3) := by decide +kernel
theorem dT_init_98 : decode kT_init.2.1 98 = .ok (.aload_n 0, 1) := by decide +kernel
theorem dT_init_99 : decode kT_init.2.1 99 = .ok (.bipush 40, 2) := by decide +kernel
theorem dT_init_101 : decode kT_init.2.1 101 = .ok (.newarray .int, 2) := by decide +kernel
theorem dT_init_103 : decode kT_init.2.1 103 = .ok (.putfield 41, 3) := by decide +kernel
theorem dT_init_106 : decode kT_init.2.1 106 = .ok (.aload_n 0, 1) := by decide +kernel
theorem dT_init_107 : decode kT_init.2.1 107 = .ok (.bipush 40, 2) := by decide +kernel
theorem dT_init_109 : decode kT_init.2.1 109 = .ok (.newarray .int, 2) := by decide +kernel
theorem dT_init_111 : decode kT_init.2.1 111 = .ok (.putfield 44, 3) := by decide +kernel
theorem dT_init_114 : decode kT_init.2.1 114 = .ok (.aload_n 0, 1) := by decide +kernel
theorem dT_init_115 : decode kT_init.2.1 115 = .ok (.bipush 40, 2) := by decide +kernel
theorem dT_init_117 : decode kT_init.2.1 117 = .ok (.newarray .int, 2) := by decide +kernel
theorem dT_init_119 : decode kT_init.2.1 119 = .ok (.putfield 47, 3) := by decide +kernel
theorem dT_init_122 : decode kT_init.2.1 122 = .ok (.aload_n 0, 1) := by decide +kernel
theorem dT_init_123 : decode kT_init.2.1 123 = .ok (.iconst 3, 1) := by decide +kernel
theorem dT_init_124 : decode kT_init.2.1 124 = .ok (.putfield 50, 3) := by decide +kernel
theorem dT_init_127 : decode kT_init.2.1 127 = .ok (.aload_n 0, 1) := by decide +kernel
theorem dT_init_128 : decode kT_init.2.1 128 = .ok (.iconst 1, 1) := by decide +kernel
theorem dT_init_129 : decode kT_init.2.1 129 = .ok (.putfield 53, 3) := by decide +kernel
theorem dT_init_132 : decode kT_init.2.1 132 = .ok (.aload_n 0, 1) := by decide +kernel
theorem dT_init_133 : decode kT_init.2.1 133 = .ok (.iconst 4, 1) := by decide +kernel
theorem dT_init_134 : decode kT_init.2.1 134 = .ok (.newarray .int, 2) := by decide +kernel
theorem dT_init_136 : decode kT_init.2.1 136 = .ok (.putfield 56, 3) := by decide +kernel
theorem dT_init_139 : decode kT_init.2.1 139 = .ok (.aload_n 0, 1) := by decide +kernel
theorem dT_init_140 : decode kT_init.2.1 140 = .ok (.iconst 4, 1) := by decide +kernel
theorem dT_init_141 : decode kT_init.2.1 141 = .ok (.newarray .int, 2) := by decide +kernel
theorem dT_init_143 : decode kT_init.2.1 143 = .ok (.putfield 59, 3) := by decide +kernel
theorem dT_init_146 : decode kT_init.2.1 146 = .ok (.aload_n 0, 1) := by decide +kernel
theorem dT_init_147 : decode kT_init.2.1 147 = .ok (.iconst 4, 1) := by decide +kernel
theorem dT_init_148 : decode kT_init.2.1 148 = .ok (.newarray .int, 2) := by decide +kernel
theorem dT_init_150 : decode kT_init.2.1 150 = .ok (.putfield 62, 3) := by decide +kernel
theorem dT_init_153 : decode kT_init.2.1 153 = .ok (.aload_n 0, 1) := by decide +kernel
theorem dT_init_154 : decode kT_init.2.1 154 = .ok (.bipush 40, 2) := by decide +kernel
theorem dT_init_156 : decode kT_init.2.1 156 = .ok (.newarray .int, 2) := by decide +kernel
theorem dT_init_158 : decode kT_init.2.1 158 = .ok (.putfield 65, 3) := by decide +kernel
theorem dT_init_161 : decode kT_init.2.1 161 = .ok (.aload_n 0, 1) := by decide +kernel
theorem dT_init_162 : decode kT_init.2.1 162 = .ok (.bipush 40, 2) := by decide +kernel
theorem dT_init_164 : decode kT_init.2.1 164 = .ok (.newarray .boolean, 2) := by decide +kernel
theorem dT_init_166 : decode kT_init.2.1 166 = .ok (.putfield 68, 3) := by decide +kernel
theorem dT_init_169 : decode kT_init.2.1 169 = .ok (.return_, 1) := by decide +kernel
theorem dT_isRow_0 : decode kT_isRow.2.1 0 = .ok (.iload_n 0, 1) := by decide +kernel
theorem dT_isRow_1 : decode kT_isRow.2.1 1 = .ok (.ifCond .lt 12, 3) := by decide +kernel
theorem dT_isRow_4 : decode kT_isRow.2.1 4 = .ok (.iload_n 0, 1) := by decide +kernel
theorem dT_isRow_5 : decode kT_isRow.2.1 5 = .ok (.iconst 4, 1) := by decide +kernel
theorem dT_isRow_6 : decode kT_isRow.2.1 6 = .ok (.if_icmp .ge 7, 3) := by decide +kernel
theorem dT_isRow_9 : decode kT_isRow.2.1 9 = .ok (.iconst 1, 1) := by decide +kernel
theorem dT_isRow_10 : decode kT_isRow.2.1 10 = .ok (.goto 4, 3) := by decide +kernel
theorem dT_isRow_13 : decode kT_isRow.2.1 13 = .ok (.iconst 0, 1) := by decide +kernel
theorem dT_isRow_14 : decode kT_isRow.2.1 14 = .ok (.ireturn, 1) := by decide +kernel
theorem dT_isIn_0 : decode kT_isIn.2.1 0 = .ok (.iload_n 0, 1) := by decide +kernel
theorem dT_isIn_1 : decode kT_isIn.2.1 1 = .ok (.iload_n 1, 1) := by decide +kernel
theorem dT_isIn_2 : decode kT_isIn.2.1 2 = .ok (.if_icmp .lt 12, 3) := by decide +kernel
theorem dT_isIn_5 : decode kT_isIn.2.1 5 = .ok (.iload_n 0, 1) := by decide +kernel
theorem dT_isIn_6 : decode kT_isIn.2.1 6 = .ok (.iload_n 2, 1) := by decide +kernel
theorem dT_isIn_7 : decode kT_isIn.2.1 7 = .ok (.if_icmp .gt 7, 3) := by decide +kernel
theorem dT_isIn_10 : decode kT_isIn.2.1 10 = .ok (.iconst 1, 1) := by decide +kernel
theorem dT_isIn_11 : decode kT_isIn.2.1 11 = .ok (.goto 4, 3) := by decide +kernel
theorem dT_isIn_14 : decode kT_isIn.2.1 14 = .ok (.iconst 0, 1) := by decide +kernel
theorem dT_isIn_15 : decode kT_isIn.2.1 15 = .ok (.ireturn, 1) := by decide +kernel
theorem dT_isStep_0 : decode kT_isStep.2.1 0 = .ok (.iload_n 1, 1) := by decide +kernel
theorem dT_isStep_1 : decode kT_isStep.2.1 1 = .ok (.invokestatic 72, 3) := by decide +kernel
theorem dT_isStep_4 : decode kT_isStep.2.1 4 = .ok (.ifCond .eq 21, 3) := by decide +kernel
theorem dT_isStep_7 : decode kT_isStep.2.1 7 = .ok (.iload_n 2, 1) := by decide +kernel
theorem dT_isStep_8 : decode kT_isStep.2.1 8 = .ok (.ifCond .lt 17, 3) := by decide +kernel
theorem dT_isStep_11 : decode kT_isStep.2.1 11 = .ok (.iload_n 2, 1) := by decide +kernel
theorem dT_isStep_12 : decode kT_isStep.2.1 12 = .ok (.aload_n 0, 1) := by decide +kernel
theorem dT_isStep_13 : decode kT_isStep.2.1 13 = .ok (.getfield 7, 3) := by decide +kernel
theorem dT_isStep_16 : decode kT_isStep.2.1 16 = .ok (.iload_n 1, 1) := by decide +kernel
theorem dT_isStep_17 : decode kT_isStep.2.1 17 = .ok (.iaload, 1) := by decide +kernel
theorem dT_isStep_18 : decode kT_isStep.2.1 18 = .ok (.if_icmp .ge 7, 3) := by decide +kernel
theorem dT_isStep_21 : decode kT_isStep.2.1 21 = .ok (.iconst 1, 1) := by decide +kernel
theorem dT_isStep_22 : decode kT_isStep.2.1 22 = .ok (.goto 4, 3) := by decide +kernel
theorem dT_isStep_25 : decode kT_isStep.2.1 25 = .ok (.iconst 0, 1) := by decide +kernel
theorem dT_isStep_26 : decode kT_isStep.2.1 26 = .ok (.ireturn, 1) := by decide +kernel
theorem dT_hasValue_0 : decode kT_hasValue.2.1 0 = .ok (.aload_n 0, 1) := by decide +kernel
theorem dT_hasValue_1 : decode kT_hasValue.2.1 1 = .ok (.iload_n 1, 1) := by decide +kernel
theorem dT_hasValue_2 : decode kT_hasValue.2.1 2 = .ok (.iload_n 2, 1) := by decide +kernel
theorem dT_hasValue_3 : decode kT_hasValue.2.1 3 = .ok (.invokevirtual 76, 3) := by decide +kernel
theorem dT_hasValue_6 : decode kT_hasValue.2.1 6 = .ok (.ifCond .eq 24, 3) := by decide +kernel
theorem dT_hasValue_9 : decode kT_hasValue.2.1 9 = .ok (.aload_n 0, 1) := by decide +kernel
theorem dT_hasValue_10 : decode kT_hasValue.2.1 10 = .ok (.getfield 13, 3) := by decide +kernel
theorem dT_hasValue_13 : decode kT_hasValue.2.1 13 = .ok (.bipush 40, 2) := by decide +kernel
theorem dT_hasValue_15 : decode kT_hasValue.2.1 15 = .ok (.iload_n 1, 1) := by decide +kernel
theorem dT_hasValue_16 : decode kT_hasValue.2.1 16 = .ok (.imul, 1) := by decide +kernel
theorem dT_hasValue_17 : decode kT_hasValue.2.1 17 = .ok (.iload_n 2, 1) := by decide +kernel
theorem dT_hasValue_18 : decode kT_hasValue.2.1 18 = .ok (.iadd, 1) := by decide +kernel
theorem dT_hasValue_19 : decode kT_hasValue.2.1 19 = .ok (.iaload, 1) := by decide +kernel
theorem dT_hasValue_20 : decode kT_hasValue.2.1 20 = .ok (.sipush (-5000), 3) := by decide +kernel
theorem dT_hasValue_23 : decode kT_hasValue.2.1 23 = .ok (.if_icmp .eq 7, 3) := by decide +kernel
theorem dT_hasValue_26 : decode kT_hasValue.2.1 26 = .ok (.iconst 1, 1) := by decide +kernel
theorem dT_hasValue_27 : decode kT_hasValue.2.1 27 = .ok (.goto 4, 3) := by decide +kernel
theorem dT_hasValue_30 : decode kT_hasValue.2.1 30 = .ok (.iconst 0, 1) := by decide +kernel
theorem dT_hasValue_31 : decode kT_hasValue.2.1 31 = .ok (.ireturn, 1) := by decide +kernel
theorem dT_valueAt_0 : decode kT_valueAt.2.1 0 = .ok (.aload_n 0, 1) := by decide +kernel
theorem dT_valueAt_1 : decode kT_valueAt.2.1 1 = .ok (.getfield 13, 3) := by decide +kernel
theorem dT_valueAt_4 : decode kT_valueAt.2.1 4 = .ok (.bipush 40, 2) := by decide +kernel
theorem dT_valueAt_6 : decode kT_valueAt.2.1 6 = .ok (.iload_n 1, 1) := by decide +kernel
theorem dT_valueAt_7 : decode kT_valueAt.2.1 7 = .ok (.imul, 1) := by decide +kernel
theorem dT_valueAt_8 : decode kT_valueAt.2.1 8 = .ok (.iload_n 2, 1) := by decide +kernel
theorem dT_valueAt_9 : decode kT_valueAt.2.1 9 = .ok (.iadd, 1) := by decide +kernel
theorem dT_valueAt_10 : decode kT_valueAt.2.1 10 = .ok (.iaload, 1) := by decide +kernel
theorem dT_valueAt_11 : decode kT_valueAt.2.1 11 = .ok (.ireturn, 1) := by decide +kernel
theorem dT_adds_0 : decode kT_adds.2.1 0 = .ok (.iload_n 1, 1) := by decide +kernel
theorem dT_adds_1 : decode kT_adds.2.1 1 = .ok (.invokestatic 72, 3) := by decide +kernel
theorem dT_adds_4 : decode kT_adds.2.1 4 = .ok (.ifCond .eq 14, 3) := by decide +kernel
theorem dT_adds_7 : decode kT_adds.2.1 7 = .ok (.aload_n 0, 1) := by decide +kernel
theorem dT_adds_8 : decode kT_adds.2.1 8 = .ok (.getfield 7, 3) := by decide +kernel
theorem dT_adds_11 : decode kT_adds.2.1 11 = .ok (.iload_n 1, 1) := by decide +kernel
theorem dT_adds_12 : decode kT_adds.2.1 12 = .ok (.iaload, 1) := by decide +kernel
theorem dT_adds_13 : decode kT_adds.2.1 13 = .ok (.bipush 40, 2) := by decide +kernel
theorem dT_adds_15 : decode kT_adds.2.1 15 = .ok (.if_icmp .ne 5, 3) := by decide +kernel
theorem dT_adds_18 : decode kT_adds.2.1 18 = .ok (.iconst (-1), 1) := by decide +kernel
theorem dT_adds_19 : decode kT_adds.2.1 19 = .ok (.ireturn, 1) := by decide +kernel
theorem dT_adds_20 : decode kT_adds.2.1 20 = .ok (.aload_n 0, 1) := by decide +kernel
theorem dT_adds_21 : decode kT_adds.2.1 21 = .ok (.getfield 13, 3) := by decide +kernel
theorem dT_adds_24 : decode kT_adds.2.1 24 = .ok (.bipush 40, 2) := by decide +kernel
theorem dT_adds_26 : decode kT_adds.2.1 26 = .ok (.iload_n 1, 1) := by decide +kernel
theorem dT_adds_27 : decode kT_adds.2.1 27 = .ok (.imul, 1) := by decide +kernel
theorem dT_adds_28 : decode kT_adds.2.1 28 = .ok (.aload_n 0, 1) := by decide +kernel
theorem dT_adds_29 : decode kT_adds.2.1 29 = .ok (.getfield 7, 3) := by decide +kernel
theorem dT_adds_32 : decode kT_adds.2.1 32 = .ok (.iload_n 1, 1) := by decide +kernel
theorem dT_adds_33 : decode kT_adds.2.1 33 = .ok (.iaload, 1) := by decide +kernel
theorem dT_adds_34 : decode kT_adds.2.1 34 = .ok (.iadd, 1) := by decide +kernel
theorem dT_adds_35 : decode kT_adds.2.1 35 = .ok (.iload_n 2, 1) := by decide +kernel
theorem dT_adds_36 : decode kT_adds.2.1 36 = .ok (.iastore, 1) := by decide +kernel
theorem dT_adds_37 : decode kT_adds.2.1 37 = .ok (.aload_n 0, 1) := by decide +kernel
theorem dT_adds_38 : decode kT_adds.2.1 38 = .ok (.getfield 7, 3) := by decide +kernel
theorem dT_adds_41 : decode kT_adds.2.1 41 = .ok (.iload_n 1, 1) := by decide +kernel
theorem dT_adds_42 : decode kT_adds.2.1 42 = .ok (.dup2, 1) := by decide +kernel
theorem dT_adds_43 : decode kT_adds.2.1 43 = .ok (.iaload, 1) := by decide +kernel
theorem dT_adds_44 : decode kT_adds.2.1 44 = .ok (.iconst 1, 1) := by decide +kernel
theorem dT_adds_45 : decode kT_adds.2.1 45 = .ok (.iadd, 1) := by decide +kernel
theorem dT_adds_46 : decode kT_adds.2.1 46 = .ok (.iastore, 1) := by decide +kernel
theorem dT_adds_47 : decode kT_adds.2.1 47 = .ok (.aload_n 0, 1) := by decide +kernel
theorem dT_adds_48 : decode kT_adds.2.1 48 = .ok (.getfield 7, 3) := by decide +kernel
theorem dT_adds_51 : decode kT_adds.2.1 51 = .ok (.iload_n 1, 1) := by decide +kernel
theorem dT_adds_52 : decode kT_adds.2.1 52 = .ok (.iaload, 1) := by decide +kernel
theorem dT_adds_53 : decode kT_adds.2.1 53 = .ok (.ireturn, 1) := by decide +kernel
theorem dT_value_0 : decode kT_value.2.1 0 = .ok (.iload_n 2, 1) := by decide +kernel
theorem dT_value_1 : decode kT_value.2.1 1 = .ok (.sipush (-1000), 3) := by decide +kernel
theorem dT_value_4 : decode kT_value.2.1 4 = .ok (.sipush 1000, 3) := by decide +kernel
theorem dT_value_7 : decode kT_value.2.1 7 = .ok (.invokestatic 80, 3) := by decide +kernel
theorem dT_value_10 : decode kT_value.2.1 10 = .ok (.ifCond .eq 12, 3) := by decide +kernel
theorem dT_value_13 : decode kT_value.2.1 13 = .ok (.aload_n 0, 1) := by decide +kernel
theorem dT_value_14 : decode kT_value.2.1 14 = .ok (.iload_n 1, 1) := by decide +kernel
theorem dT_value_15 : decode kT_value.2.1 15 = .ok (.iload_n 2, 1) := by decide +kernel
theorem dT_value_16 : decode kT_value.2.1 16 = .ok (.invokevirtual 84, 3) := by decide +kernel
theorem dT_value_19 : decode kT_value.2.1 19 = .ok (.goto 4, 3) := by decide +kernel
theorem dT_value_22 : decode kT_value.2.1 22 = .ok (.iconst (-1), 1) := by decide +kernel
theorem dT_value_23 : decode kT_value.2.1 23 = .ok (.ireturn, 1) := by decide +kernel
theorem dT_gap_0 : decode kT_gap.2.1 0 = .ok (.aload_n 0, 1) := by decide +kernel
theorem dT_gap_1 : decode kT_gap.2.1 1 = .ok (.iload_n 1, 1) := by decide +kernel
theorem dT_gap_2 : decode kT_gap.2.1 2 = .ok (.sipush (-5000), 3) := by decide +kernel
theorem dT_gap_5 : decode kT_gap.2.1 5 = .ok (.invokevirtual 84, 3) := by decide +kernel
theorem dT_gap_8 : decode kT_gap.2.1 8 = .ok (.ireturn, 1) := by decide +kernel
theorem dT_put_0 : decode kT_put.2.1 0 = .ok (.aload_n 0, 1) := by decide +kernel
theorem dT_put_1 : decode kT_put.2.1 1 = .ok (.iload_n 1, 1) := by decide +kernel
theorem dT_put_2 : decode kT_put.2.1 2 = .ok (.iload_n 2, 1) := by decide +kernel
theorem dT_put_3 : decode kT_put.2.1 3 = .ok (.invokevirtual 76, 3) := by decide +kernel
theorem dT_put_6 : decode kT_put.2.1 6 = .ok (.ifCond .eq 16, 3) := by decide +kernel
theorem dT_put_9 : decode kT_put.2.1 9 = .ok (.iload_n 3, 1) := by decide +kernel
theorem dT_put_10 : decode kT_put.2.1 10 = .ok (.sipush (-1000), 3) := by decide +kernel
theorem dT_put_13 : decode kT_put.2.1 13 = .ok (.sipush 1000, 3) := by decide +kernel
theorem dT_put_16 : decode kT_put.2.1 16 = .ok (.invokestatic 80, 3) := by decide +kernel
theorem dT_put_19 : decode kT_put.2.1 19 = .ok (.ifCond .ne 5, 3) := by decide +kernel
theorem dT_put_22 : decode kT_put.2.1 22 = .ok (.iconst 0, 1) := by decide +kernel
theorem dT_put_23 : decode kT_put.2.1 23 = .ok (.ireturn, 1) := by decide +kernel
theorem dT_put_24 : decode kT_put.2.1 24 = .ok (.aload_n 0, 1) := by decide +kernel
theorem dT_put_25 : decode kT_put.2.1 25 = .ok (.getfield 13, 3) := by decide +kernel
theorem dT_put_28 : decode kT_put.2.1 28 = .ok (.bipush 40, 2) := by decide +kernel
theorem dT_put_30 : decode kT_put.2.1 30 = .ok (.iload_n 1, 1) := by decide +kernel
theorem dT_put_31 : decode kT_put.2.1 31 = .ok (.imul, 1) := by decide +kernel
theorem dT_put_32 : decode kT_put.2.1 32 = .ok (.iload_n 2, 1) := by decide +kernel
theorem dT_put_33 : decode kT_put.2.1 33 = .ok (.iadd, 1) := by decide +kernel
theorem dT_put_34 : decode kT_put.2.1 34 = .ok (.iload_n 3, 1) := by decide +kernel
theorem dT_put_35 : decode kT_put.2.1 35 = .ok (.iastore, 1) := by decide +kernel
theorem dT_put_36 : decode kT_put.2.1 36 = .ok (.iconst 1, 1) := by decide +kernel
theorem dT_put_37 : decode kT_put.2.1 37 = .ok (.ireturn, 1) := by decide +kernel
theorem dT_clear_0 : decode kT_clear.2.1 0 = .ok (.iload_n 1, 1) := by decide +kernel
theorem dT_clear_1 : decode kT_clear.2.1 1 = .ok (.invokestatic 72, 3) := by decide +kernel
theorem dT_clear_4 : decode kT_clear.2.1 4 = .ok (.ifCond .ne 5, 3) := by decide +kernel
theorem dT_clear_7 : decode kT_clear.2.1 7 = .ok (.iconst (-1), 1) := by decide +kernel
theorem dT_clear_8 : decode kT_clear.2.1 8 = .ok (.ireturn, 1) := by decide +kernel
theorem dT_clear_9 : decode kT_clear.2.1 9 = .ok (.aload_n 0, 1) := by decide +kernel
theorem dT_clear_10 : decode kT_clear.2.1 10 = .ok (.getfield 7, 3) := by decide +kernel
theorem dT_clear_13 : decode kT_clear.2.1 13 = .ok (.iload_n 1, 1) := by decide +kernel
theorem dT_clear_14 : decode kT_clear.2.1 14 = .ok (.iaload, 1) := by decide +kernel
theorem dT_clear_15 : decode kT_clear.2.1 15 = .ok (.istore_n 2, 1) := by decide +kernel
theorem dT_clear_16 : decode kT_clear.2.1 16 = .ok (.aload_n 0, 1) := by decide +kernel
theorem dT_clear_17 : decode kT_clear.2.1 17 = .ok (.getfield 7, 3) := by decide +kernel
theorem dT_clear_20 : decode kT_clear.2.1 20 = .ok (.iload_n 1, 1) := by decide +kernel
theorem dT_clear_21 : decode kT_clear.2.1 21 = .ok (.iconst 0, 1) := by decide +kernel
theorem dT_clear_22 : decode kT_clear.2.1 22 = .ok (.iastore, 1) := by decide +kernel
theorem dT_clear_23 : decode kT_clear.2.1 23 = .ok (.aload_n 0, 1) := by decide +kernel
theorem dT_clear_24 : decode kT_clear.2.1 24 = .ok (.getfield 26, 3) := by decide +kernel
theorem dT_clear_27 : decode kT_clear.2.1 27 = .ok (.iload_n 1, 1) := by decide +kernel
theorem dT_clear_28 : decode kT_clear.2.1 28 = .ok (.if_icmp .ne 8, 3) := by decide +kernel
theorem dT_clear_31 : decode kT_clear.2.1 31 = .ok (.aload_n 0, 1) := by decide +kernel
theorem dT_clear_32 : decode kT_clear.2.1 32 = .ok (.iconst (-1), 1) := by decide +kernel
theorem dT_clear_33 : decode kT_clear.2.1 33 = .ok (.putfield 26, 3) := by decide +kernel
theorem dT_clear_36 : decode kT_clear.2.1 36 = .ok (.iload_n 2, 1) := by decide +kernel
theorem dT_clear_37 : decode kT_clear.2.1 37 = .ok (.ireturn, 1) := by decide +kernel
theorem dT_miss_0 : decode kT_miss.2.1 0 = .ok (.iload_n 1, 1) := by decide +kernel
theorem dT_miss_1 : decode kT_miss.2.1 1 = .ok (.invokestatic 72, 3) := by decide +kernel
theorem dT_miss_4 : decode kT_miss.2.1 4 = .ok (.ifCond .eq 14, 3) := by decide +kernel
theorem dT_miss_7 : decode kT_miss.2.1 7 = .ok (.iload_n 2, 1) := by decide +kernel
theorem dT_miss_8 : decode kT_miss.2.1 8 = .ok (.iconst 0, 1) := by decide +kernel
theorem dT_miss_9 : decode kT_miss.2.1 9 = .ok (.sipush 200, 3) := by decide +kernel
theorem dT_miss_12 : decode kT_miss.2.1 12 = .ok (.invokestatic 80, 3) := by decide +kernel
theorem dT_miss_15 : decode kT_miss.2.1 15 = .ok (.ifCond .ne 5, 3) := by decide +kernel
theorem dT_miss_18 : decode kT_miss.2.1 18 = .ok (.iconst (-1), 1) := by decide +kernel
theorem dT_miss_19 : decode kT_miss.2.1 19 = .ok (.ireturn, 1) := by decide +kernel
theorem dT_miss_20 : decode kT_miss.2.1 20 = .ok (.aload_n 0, 1) := by decide +kernel
theorem dT_miss_21 : decode kT_miss.2.1 21 = .ok (.getfield 16, 3) := by decide +kernel
theorem dT_miss_24 : decode kT_miss.2.1 24 = .ok (.iload_n 1, 1) := by decide +kernel
theorem dT_miss_25 : decode kT_miss.2.1 25 = .ok (.iaload, 1) := by decide +kernel
theorem dT_miss_26 : decode kT_miss.2.1 26 = .ok (.istore_n 3, 1) := by decide +kernel
theorem dT_miss_27 : decode kT_miss.2.1 27 = .ok (.aload_n 0, 1) := by decide +kernel
theorem dT_miss_28 : decode kT_miss.2.1 28 = .ok (.getfield 16, 3) := by decide +kernel
theorem dT_miss_31 : decode kT_miss.2.1 31 = .ok (.iload_n 1, 1) := by decide +kernel
theorem dT_miss_32 : decode kT_miss.2.1 32 = .ok (.iload_n 2, 1) := by decide +kernel
theorem dT_miss_33 : decode kT_miss.2.1 33 = .ok (.iastore, 1) := by decide +kernel
theorem dT_miss_34 : decode kT_miss.2.1 34 = .ok (.iload_n 3, 1) := by decide +kernel
theorem dT_miss_35 : decode kT_miss.2.1 35 = .ok (.ireturn, 1) := by decide +kernel
theorem dT_part_0 : decode kT_part.2.1 0 = .ok (.iload_n 1, 1) := by decide +kernel
theorem dT_part_1 : decode kT_part.2.1 1 = .ok (.iconst 0, 1) := by decide +kernel
theorem dT_part_2 : decode kT_part.2.1 2 = .ok (.sipush 10000, 3) := by decide +kernel
theorem dT_part_5 : decode kT_part.2.1 5 = .ok (.invokestatic 80, 3) := by decide +kernel
theorem dT_part_8 : decode kT_part.2.1 8 = .ok (.ifCond .ne 5, 3) := by decide +kernel
theorem dT_part_11 : decode kT_part.2.1 11 = .ok (.iconst (-1), 1) := by decide +kernel
theorem dT_part_12 : decode kT_part.2.1 12 = .ok (.ireturn, 1) := by decide +kernel
theorem dT_part_13 : decode kT_part.2.1 13 = .ok (.aload_n 0, 1) := by decide +kernel
theorem dT_part_14 : decode kT_part.2.1 14 = .ok (.getfield 22, 3) := by decide +kernel
theorem dT_part_17 : decode kT_part.2.1 17 = .ok (.istore_n 2, 1) := by decide +kernel
theorem dT_part_18 : decode kT_part.2.1 18 = .ok (.aload_n 0, 1) := by decide +kernel
theorem dT_part_19 : decode kT_part.2.1 19 = .ok (.iload_n 1, 1) := by decide +kernel
theorem dT_part_20 : decode kT_part.2.1 20 = .ok (.putfield 22, 3) := by decide +kernel
theorem dT_part_23 : decode kT_part.2.1 23 = .ok (.iload_n 2, 1) := by decide +kernel
theorem dT_part_24 : decode kT_part.2.1 24 = .ok (.ireturn, 1) := by decide +kernel
theorem dT_at_0 : decode kT_at.2.1 0 = .ok (.aload_n 0, 1) := by decide +kernel
theorem dT_at_1 : decode kT_at.2.1 1 = .ok (.iload_n 1, 1) := by decide +kernel
theorem dT_at_2 : decode kT_at.2.1 2 = .ok (.iload_n 2, 1) := by decide +kernel
theorem dT_at_3 : decode kT_at.2.1 3 = .ok (.invokevirtual 76, 3) := by decide +kernel
theorem dT_at_6 : decode kT_at.2.1 6 = .ok (.ifCond .eq 12, 3) := by decide +kernel
theorem dT_at_9 : decode kT_at.2.1 9 = .ok (.aload_n 0, 1) := by decide +kernel
theorem dT_at_10 : decode kT_at.2.1 10 = .ok (.iload_n 1, 1) := by decide +kernel
theorem dT_at_11 : decode kT_at.2.1 11 = .ok (.iload_n 2, 1) := by decide +kernel
theorem dT_at_12 : decode kT_at.2.1 12 = .ok (.invokevirtual 88, 3) := by decide +kernel
theorem dT_at_15 : decode kT_at.2.1 15 = .ok (.goto 6, 3) := by decide +kernel
theorem dT_at_18 : decode kT_at.2.1 18 = .ok (.sipush (-6000), 3) := by decide +kernel
theorem dT_at_21 : decode kT_at.2.1 21 = .ok (.ireturn, 1) := by decide +kernel
theorem dT_isWay_0 : decode kT_isWay.2.1 0 = .ok (.aload_n 0, 1) := by decide +kernel
theorem dT_isWay_1 : decode kT_isWay.2.1 1 = .ok (.iload_n 1, 1) := by decide +kernel
theorem dT_isWay_2 : decode kT_isWay.2.1 2 = .ok (.iload_n 2, 1) := by decide +kernel
theorem dT_isWay_3 : decode kT_isWay.2.1 3 = .ok (.invokevirtual 91, 3) := by decide +kernel
theorem dT_isWay_6 : decode kT_isWay.2.1 6 = .ok (.ifCond .eq 18, 3) := by decide +kernel
theorem dT_isWay_9 : decode kT_isWay.2.1 9 = .ok (.aload_n 0, 1) := by decide +kernel
theorem dT_isWay_10 : decode kT_isWay.2.1 10 = .ok (.iload_n 1, 1) := by decide +kernel
theorem dT_isWay_11 : decode kT_isWay.2.1 11 = .ok (.iload_n 2, 1) := by decide +kernel
theorem dT_isWay_12 : decode kT_isWay.2.1 12 = .ok (.iconst 1, 1) := by decide +kernel
theorem dT_isWay_13 : decode kT_isWay.2.1 13 = .ok (.iadd, 1) := by decide +kernel
theorem dT_isWay_14 : decode kT_isWay.2.1 14 = .ok (.invokevirtual 91, 3) := by decide +kernel
theorem dT_isWay_17 : decode kT_isWay.2.1 17 = .ok (.ifCond .eq 7, 3) := by decide +kernel
theorem dT_isWay_20 : decode kT_isWay.2.1 20 = .ok (.iconst 1, 1) := by decide +kernel
theorem dT_isWay_21 : decode kT_isWay.2.1 21 = .ok (.goto 4, 3) := by decide +kernel
theorem dT_isWay_24 : decode kT_isWay.2.1 24 = .ok (.iconst 0, 1) := by decide +kernel
theorem dT_isWay_25 : decode kT_isWay.2.1 25 = .ok (.ireturn, 1) := by decide +kernel
theorem dT_wayCost_0 : decode kT_wayCost.2.1 0 = .ok (.aload_n 0, 1) := by decide +kernel
theorem dT_wayCost_1 : decode kT_wayCost.2.1 1 = .ok (.iload_n 1, 1) := by decide +kernel
theorem dT_wayCost_2 : decode kT_wayCost.2.1 2 = .ok (.iload_n 2, 1) := by decide +kernel
theorem dT_wayCost_3 : decode kT_wayCost.2.1 3 = .ok (.iconst 1, 1) := by decide +kernel
theorem dT_wayCost_4 : decode kT_wayCost.2.1 4 = .ok (.iadd, 1) := by decide +kernel
theorem dT_wayCost_5 : decode kT_wayCost.2.1 5 = .ok (.invokevirtual 88, 3) := by decide +kernel
theorem dT_wayCost_8 : decode kT_wayCost.2.1 8 = .ok (.aload_n 0, 1) := by decide +kernel
theorem dT_wayCost_9 : decode kT_wayCost.2.1 9 = .ok (.iload_n 1, 1) := by decide +kernel
theorem dT_wayCost_10 : decode kT_wayCost.2.1 10 = .ok (.iload_n 2, 1) := by decide +kernel
theorem dT_wayCost_11 : decode kT_wayCost.2.1 11 = .ok (.invokevirtual 88, 3) := by decide +kernel
theorem dT_wayCost_14 : decode kT_wayCost.2.1 14 = .ok (.isub, 1) := by decide +kernel
theorem dT_wayCost_15 : decode kT_wayCost.2.1 15 = .ok (.istore 4, 2) := by decide +kernel
theorem dT_wayCost_17 : decode kT_wayCost.2.1 17 = .ok (.iload_n 3, 1) := by decide +kernel
theorem dT_wayCost_18 : decode kT_wayCost.2.1 18 = .ok (.iconst 1, 1) := by decide +kernel
theorem dT_wayCost_19 : decode kT_wayCost.2.1 19 = .ok (.if_icmp .ne 16, 3) := by decide +kernel
theorem dT_wayCost_22 : decode kT_wayCost.2.1 22 = .ok (.iload 4, 2) := by decide +kernel
theorem dT_wayCost_24 : decode kT_wayCost.2.1 24 = .ok (.ifCond .ge 9, 3) := by decide +kernel
theorem dT_wayCost_27 : decode kT_wayCost.2.1 27 = .ok (.iload 4, 2) := by decide +kernel
theorem dT_wayCost_29 : decode kT_wayCost.2.1 29 = .ok (.ineg, 1) := by decide +kernel
theorem dT_wayCost_30 : decode kT_wayCost.2.1 30 = .ok (.goto 4, 3) := by decide +kernel
theorem dT_wayCost_33 : decode kT_wayCost.2.1 33 = .ok (.iconst 0, 1) := by decide +kernel
theorem dT_wayCost_34 : decode kT_wayCost.2.1 34 = .ok (.ireturn, 1) := by decide +kernel
theorem dT_wayCost_35 : decode kT_wayCost.2.1 35 = .ok (.iload_n 3, 1) := by decide +kernel
theorem dT_wayCost_36 : decode kT_wayCost.2.1 36 = .ok (.iconst 2, 1) := by decide +kernel
theorem dT_wayCost_37 : decode kT_wayCost.2.1 37 = .ok (.if_icmp .ne 15, 3) := by decide +kernel
theorem dT_wayCost_40 : decode kT_wayCost.2.1 40 = .ok (.iload 4, 2) := by decide +kernel
theorem dT_wayCost_42 : decode kT_wayCost.2.1 42 = .ok (.ifCond .le 8, 3) := by decide +kernel
theorem dT_wayCost_45 : decode kT_wayCost.2.1 45 = .ok (.iload 4, 2) := by decide +kernel
theorem dT_wayCost_47 : decode kT_wayCost.2.1 47 = .ok (.goto 4, 3) := by decide +kernel
theorem dT_wayCost_50 : decode kT_wayCost.2.1 50 = .ok (.iconst 0, 1) := by decide +kernel
theorem dT_wayCost_51 : decode kT_wayCost.2.1 51 = .ok (.ireturn, 1) := by decide +kernel
theorem dT_wayCost_52 : decode kT_wayCost.2.1 52 = .ok (.iload 4, 2) := by decide +kernel
theorem dT_wayCost_54 : decode kT_wayCost.2.1 54 = .ok (.ifCond .ge 9, 3) := by decide +kernel
theorem dT_wayCost_57 : decode kT_wayCost.2.1 57 = .ok (.iload 4, 2) := by decide +kernel
theorem dT_wayCost_59 : decode kT_wayCost.2.1 59 = .ok (.ineg, 1) := by decide +kernel
theorem dT_wayCost_60 : decode kT_wayCost.2.1 60 = .ok (.goto 5, 3) := by decide +kernel
theorem dT_wayCost_63 : decode kT_wayCost.2.1 63 = .ok (.iload 4, 2) := by decide +kernel
theorem dT_wayCost_65 : decode kT_wayCost.2.1 65 = .ok (.ireturn, 1) := by decide +kernel
theorem dT_weighs_0 : decode kT_weighs.2.1 0 = .ok (.aload_n 0, 1) := by decide +kernel
theorem dT_weighs_1 : decode kT_weighs.2.1 1 = .ok (.getfield 7, 3) := by decide +kernel
theorem dT_weighs_4 : decode kT_weighs.2.1 4 = .ok (.iload_n 1, 1) := by decide +kernel
theorem dT_weighs_5 : decode kT_weighs.2.1 5 = .ok (.iaload, 1) := by decide +kernel
theorem dT_weighs_6 : decode kT_weighs.2.1 6 = .ok (.iconst 1, 1) := by decide +kernel
theorem dT_weighs_7 : decode kT_weighs.2.1 7 = .ok (.isub, 1) := by decide +kernel
theorem dT_weighs_8 : decode kT_weighs.2.1 8 = .ok (.istore_n 2, 1) := by decide +kernel
theorem dT_weighs_9 : decode kT_weighs.2.1 9 = .ok (.iload_n 2, 1) := by decide +kernel
theorem dT_weighs_10 : decode kT_weighs.2.1 10 = .ok (.ifCond .lt 129, 3) := by decide +kernel
theorem dT_weighs_13 : decode kT_weighs.2.1 13 = .ok (.iconst 1, 1) := by decide +kernel
theorem dT_weighs_14 : decode kT_weighs.2.1 14 = .ok (.istore_n 3, 1) := by decide +kernel
theorem dT_weighs_15 : decode kT_weighs.2.1 15 = .ok (.iload_n 3, 1) := by decide +kernel
theorem dT_weighs_16 : decode kT_weighs.2.1 16 = .ok (.iconst 4, 1) := by decide +kernel
theorem dT_weighs_17 : decode kT_weighs.2.1 17 = .ok (.if_icmp .ge 116, 3) := by decide +kernel
theorem dT_weighs_20 : decode kT_weighs.2.1 20 = .ok (.iconst 0, 1) := by decide +kernel
theorem dT_weighs_21 : decode kT_weighs.2.1 21 = .ok (.istore 4, 2) := by decide +kernel
theorem dT_weighs_23 : decode kT_weighs.2.1 23 = .ok (.aload_n 0, 1) := by decide +kernel
theorem dT_weighs_24 : decode kT_weighs.2.1 24 = .ok (.iload_n 1, 1) := by decide +kernel
theorem dT_weighs_25 : decode kT_weighs.2.1 25 = .ok (.iload_n 2, 1) := by decide +kernel
theorem dT_weighs_26 : decode kT_weighs.2.1 26 = .ok (.iconst 1, 1) := by decide +kernel
theorem dT_weighs_27 : decode kT_weighs.2.1 27 = .ok (.iadd, 1) := by decide +kernel
theorem dT_weighs_28 : decode kT_weighs.2.1 28 = .ok (.invokevirtual 94, 3) := by decide +kernel
theorem dT_weighs_31 : decode kT_weighs.2.1 31 = .ok (.ifCond .eq 63, 3) := by decide +kernel
theorem dT_weighs_34 : decode kT_weighs.2.1 34 = .ok (.ldc 97, 2) := by decide +kernel
theorem dT_weighs_36 : decode kT_weighs.2.1 36 = .ok (.istore 4, 2) := by decide +kernel
theorem dT_weighs_38 : decode kT_weighs.2.1 38 = .ok (.iconst 1, 1) := by decide +kernel
theorem dT_weighs_39 : decode kT_weighs.2.1 39 = .ok (.istore 5, 2) := by decide +kernel
theorem dT_weighs_41 : decode kT_weighs.2.1 41 = .ok (.iload 5, 2) := by decide +kernel
theorem dT_weighs_43 : decode kT_weighs.2.1 43 = .ok (.iconst 4, 1) := by decide +kernel
theorem dT_weighs_44 : decode kT_weighs.2.1 44 = .ok (.if_icmp .ge 50, 3) := by decide +kernel
theorem dT_weighs_47 : decode kT_weighs.2.1 47 = .ok (.aload_n 0, 1) := by decide +kernel
theorem dT_weighs_48 : decode kT_weighs.2.1 48 = .ok (.getfield 32, 3) := by decide +kernel
theorem dT_weighs_51 : decode kT_weighs.2.1 51 = .ok (.iconst 4, 1) := by decide +kernel
theorem dT_weighs_52 : decode kT_weighs.2.1 52 = .ok (.iload_n 2, 1) := by decide +kernel
theorem dT_weighs_53 : decode kT_weighs.2.1 53 = .ok (.iconst 1, 1) := by decide +kernel
theorem dT_weighs_54 : decode kT_weighs.2.1 54 = .ok (.iadd, 1) := by decide +kernel
theorem dT_weighs_55 : decode kT_weighs.2.1 55 = .ok (.imul, 1) := by decide +kernel
theorem dT_weighs_56 : decode kT_weighs.2.1 56 = .ok (.iload 5, 2) := by decide +kernel
theorem dT_weighs_58 : decode kT_weighs.2.1 58 = .ok (.iadd, 1) := by decide +kernel
theorem dT_weighs_59 : decode kT_weighs.2.1 59 = .ok (.iaload, 1) := by decide +kernel
theorem dT_weighs_60 : decode kT_weighs.2.1 60 = .ok (.iload 5, 2) := by decide +kernel
theorem dT_weighs_62 : decode kT_weighs.2.1 62 = .ok (.iload_n 3, 1) := by decide +kernel
theorem dT_weighs_63 : decode kT_weighs.2.1 63 = .ok (.if_icmp .ne 7, 3) := by decide +kernel
theorem dT_weighs_66 : decode kT_weighs.2.1 66 = .ok (.iconst 0, 1) := by decide +kernel
theorem dT_weighs_67 : decode kT_weighs.2.1 67 = .ok (.goto 7, 3) := by decide +kernel
theorem dT_weighs_70 : decode kT_weighs.2.1 70 = .ok (.aload_n 0, 1) := by decide +kernel
theorem dT_weighs_71 : decode kT_weighs.2.1 71 = .ok (.getfield 22, 3) := by decide +kernel
theorem dT_weighs_74 : decode kT_weighs.2.1 74 = .ok (.iadd, 1) := by decide +kernel
theorem dT_weighs_75 : decode kT_weighs.2.1 75 = .ok (.istore 6, 2) := by decide +kernel
theorem dT_weighs_77 : decode kT_weighs.2.1 77 = .ok (.iload 6, 2) := by decide +kernel
theorem dT_weighs_79 : decode kT_weighs.2.1 79 = .ok (.iload 4, 2) := by decide +kernel
theorem dT_weighs_81 : decode kT_weighs.2.1 81 = .ok (.if_icmp .ge 7, 3) := by decide +kernel
theorem dT_weighs_84 : decode kT_weighs.2.1 84 = .ok (.iload 6, 2) := by decide +kernel
theorem dT_weighs_86 : decode kT_weighs.2.1 86 = .ok (.istore 4, 2) := by decide +kernel
theorem dT_weighs_88 : decode kT_weighs.2.1 88 = .ok (.iinc 5 1, 3) := by decide +kernel
theorem dT_weighs_91 : decode kT_weighs.2.1 91 = .ok (.goto (-50), 3) := by decide +kernel
theorem dT_weighs_94 : decode kT_weighs.2.1 94 = .ok (.aload_n 0, 1) := by decide +kernel
theorem dT_weighs_95 : decode kT_weighs.2.1 95 = .ok (.getfield 32, 3) := by decide +kernel
theorem dT_weighs_98 : decode kT_weighs.2.1 98 = .ok (.iconst 4, 1) := by decide +kernel
theorem dT_weighs_99 : decode kT_weighs.2.1 99 = .ok (.iload_n 2, 1) := by decide +kernel
theorem dT_weighs_100 : decode kT_weighs.2.1 100 = .ok (.imul, 1) := by decide +kernel
theorem dT_weighs_101 : decode kT_weighs.2.1 101 = .ok (.iload_n 3, 1) := by decide +kernel
theorem dT_weighs_102 : decode kT_weighs.2.1 102 = .ok (.iadd, 1) := by decide +kernel
theorem dT_weighs_103 : decode kT_weighs.2.1 103 = .ok (.aload_n 0, 1) := by decide +kernel
theorem dT_weighs_104 : decode kT_weighs.2.1 104 = .ok (.iload_n 1, 1) := by decide +kernel
theorem dT_weighs_105 : decode kT_weighs.2.1 105 = .ok (.iload_n 2, 1) := by decide +kernel
theorem dT_weighs_106 : decode kT_weighs.2.1 106 = .ok (.invokevirtual 94, 3) := by decide +kernel
theorem dT_weighs_109 : decode kT_weighs.2.1 109 = .ok (.ifCond .eq 16, 3) := by decide +kernel
theorem dT_weighs_112 : decode kT_weighs.2.1 112 = .ok (.aload_n 0, 1) := by decide +kernel
theorem dT_weighs_113 : decode kT_weighs.2.1 113 = .ok (.iload_n 1, 1) := by decide +kernel
theorem dT_weighs_114 : decode kT_weighs.2.1 114 = .ok (.iload_n 2, 1) := by decide +kernel
theorem dT_weighs_115 : decode kT_weighs.2.1 115 = .ok (.iload_n 3, 1) := by decide +kernel
theorem dT_weighs_116 : decode kT_weighs.2.1 116 = .ok (.invokevirtual 98, 3) := by decide +kernel
theorem dT_weighs_119 : decode kT_weighs.2.1 119 = .ok (.iload 4, 2) := by decide +kernel
theorem dT_weighs_121 : decode kT_weighs.2.1 121 = .ok (.iadd, 1) := by decide +kernel
theorem dT_weighs_122 : decode kT_weighs.2.1 122 = .ok (.goto 4, 3) := by decide +kernel
theorem dT_weighs_125 : decode kT_weighs.2.1 125 = .ok (.iconst 0, 1) := by decide +kernel
theorem dT_weighs_126 : decode kT_weighs.2.1 126 = .ok (.iastore, 1) := by decide +kernel
theorem dT_weighs_127 : decode kT_weighs.2.1 127 = .ok (.iinc 3 1, 3) := by decide +kernel
theorem dT_weighs_130 : decode kT_weighs.2.1 130 = .ok (.goto (-115), 3) := by decide +kernel
theorem dT_weighs_133 : decode kT_weighs.2.1 133 = .ok (.iinc 2 (-1), 3) := by decide +kernel
theorem dT_weighs_136 : decode kT_weighs.2.1 136 = .ok (.goto (-127), 3) := by decide +kernel
theorem dT_weighs_139 : decode kT_weighs.2.1 139 = .ok (.return_, 1) := by decide +kernel
theorem dT_shapes_0 : decode kT_shapes.2.1 0 = .ok (.aload_n 0, 1) := by decide +kernel
theorem dT_shapes_1 : decode kT_shapes.2.1 1 = .ok (.iload_n 1, 1) := by decide +kernel
theorem dT_shapes_2 : decode kT_shapes.2.1 2 = .ok (.invokevirtual 102, 3) := by decide +kernel
theorem dT_shapes_5 : decode kT_shapes.2.1 5 = .ok (.aload_n 0, 1) := by decide +kernel
theorem dT_shapes_6 : decode kT_shapes.2.1 6 = .ok (.iconst 0, 1) := by decide +kernel
theorem dT_shapes_7 : decode kT_shapes.2.1 7 = .ok (.putfield 106, 3) := by decide +kernel
theorem dT_shapes_10 : decode kT_shapes.2.1 10 = .ok (.aload_n 0, 1) := by decide +kernel
theorem dT_shapes_11 : decode kT_shapes.2.1 11 = .ok (.iconst 0, 1) := by decide +kernel
theorem dT_shapes_12 : decode kT_shapes.2.1 12 = .ok (.putfield 109, 3) := by decide +kernel
theorem dT_shapes_15 : decode kT_shapes.2.1 15 = .ok (.iconst 0, 1) := by decide +kernel
theorem dT_shapes_16 : decode kT_shapes.2.1 16 = .ok (.istore_n 2, 1) := by decide +kernel
theorem dT_shapes_17 : decode kT_shapes.2.1 17 = .ok (.iload_n 2, 1) := by decide +kernel
theorem dT_shapes_18 : decode kT_shapes.2.1 18 = .ok (.aload_n 0, 1) := by decide +kernel
theorem dT_shapes_19 : decode kT_shapes.2.1 19 = .ok (.getfield 7, 3) := by decide +kernel
theorem dT_shapes_22 : decode kT_shapes.2.1 22 = .ok (.iload_n 1, 1) := by decide +kernel
theorem dT_shapes_23 : decode kT_shapes.2.1 23 = .ok (.iaload, 1) := by decide +kernel
theorem dT_shapes_24 : decode kT_shapes.2.1 24 = .ok (.if_icmp .ge 222, 3) := by decide +kernel
theorem dT_shapes_27 : decode kT_shapes.2.1 27 = .ok (.aload_n 0, 1) := by decide +kernel
theorem dT_shapes_28 : decode kT_shapes.2.1 28 = .ok (.getfield 29, 3) := by decide +kernel
theorem dT_shapes_31 : decode kT_shapes.2.1 31 = .ok (.iload_n 2, 1) := by decide +kernel
theorem dT_shapes_32 : decode kT_shapes.2.1 32 = .ok (.iconst 0, 1) := by decide +kernel
theorem dT_shapes_33 : decode kT_shapes.2.1 33 = .ok (.iastore, 1) := by decide +kernel
theorem dT_shapes_34 : decode kT_shapes.2.1 34 = .ok (.aload_n 0, 1) := by decide +kernel
theorem dT_shapes_35 : decode kT_shapes.2.1 35 = .ok (.iload_n 1, 1) := by decide +kernel
theorem dT_shapes_36 : decode kT_shapes.2.1 36 = .ok (.iload_n 2, 1) := by decide +kernel
theorem dT_shapes_37 : decode kT_shapes.2.1 37 = .ok (.invokevirtual 94, 3) := by decide +kernel
theorem dT_shapes_40 : decode kT_shapes.2.1 40 = .ok (.ifCond .ne 6, 3) := by decide +kernel
theorem dT_shapes_43 : decode kT_shapes.2.1 43 = .ok (.goto 197, 3) := by decide +kernel
theorem dT_shapes_46 : decode kT_shapes.2.1 46 = .ok (.iload_n 2, 1) := by decide +kernel
theorem dT_shapes_47 : decode kT_shapes.2.1 47 = .ok (.ifCond .le 14, 3) := by decide +kernel
theorem dT_shapes_50 : decode kT_shapes.2.1 50 = .ok (.aload_n 0, 1) := by decide +kernel
theorem dT_shapes_51 : decode kT_shapes.2.1 51 = .ok (.getfield 29, 3) := by decide +kernel
theorem dT_shapes_54 : decode kT_shapes.2.1 54 = .ok (.iload_n 2, 1) := by decide +kernel
theorem dT_shapes_55 : decode kT_shapes.2.1 55 = .ok (.iconst 1, 1) := by decide +kernel
theorem dT_shapes_56 : decode kT_shapes.2.1 56 = .ok (.isub, 1) := by decide +kernel
theorem dT_shapes_57 : decode kT_shapes.2.1 57 = .ok (.iaload, 1) := by decide +kernel
theorem dT_shapes_58 : decode kT_shapes.2.1 58 = .ok (.goto 4, 3) := by decide +kernel
theorem dT_shapes_61 : decode kT_shapes.2.1 61 = .ok (.iconst 0, 1) := by decide +kernel
theorem dT_shapes_62 : decode kT_shapes.2.1 62 = .ok (.istore_n 3, 1) := by decide +kernel
theorem dT_shapes_63 : decode kT_shapes.2.1 63 = .ok (.iconst 0, 1) := by decide +kernel
theorem dT_shapes_64 : decode kT_shapes.2.1 64 = .ok (.istore 4, 2) := by decide +kernel
theorem dT_shapes_66 : decode kT_shapes.2.1 66 = .ok (.iconst 1, 1) := by decide +kernel
theorem dT_shapes_67 : decode kT_shapes.2.1 67 = .ok (.istore 5, 2) := by decide +kernel
theorem dT_shapes_69 : decode kT_shapes.2.1 69 = .ok (.iload 5, 2) := by decide +kernel
theorem dT_shapes_71 : decode kT_shapes.2.1 71 = .ok (.iconst 4, 1) := by decide +kernel
theorem dT_shapes_72 : decode kT_shapes.2.1 72 = .ok (.if_icmp .ge 77, 3) := by decide +kernel
theorem dT_shapes_75 : decode kT_shapes.2.1 75 = .ok (.aload_n 0, 1) := by decide +kernel
theorem dT_shapes_76 : decode kT_shapes.2.1 76 = .ok (.getfield 32, 3) := by decide +kernel
theorem dT_shapes_79 : decode kT_shapes.2.1 79 = .ok (.iconst 4, 1) := by decide +kernel
theorem dT_shapes_80 : decode kT_shapes.2.1 80 = .ok (.iload_n 2, 1) := by decide +kernel
theorem dT_shapes_81 : decode kT_shapes.2.1 81 = .ok (.imul, 1) := by decide +kernel
theorem dT_shapes_82 : decode kT_shapes.2.1 82 = .ok (.iload 5, 2) := by decide +kernel
theorem dT_shapes_84 : decode kT_shapes.2.1 84 = .ok (.iadd, 1) := by decide +kernel
theorem dT_shapes_85 : decode kT_shapes.2.1 85 = .ok (.iaload, 1) := by decide +kernel
theorem dT_shapes_86 : decode kT_shapes.2.1 86 = .ok (.iload 5, 2) := by decide +kernel
theorem dT_shapes_88 : decode kT_shapes.2.1 88 = .ok (.iload_n 3, 1) := by decide +kernel
theorem dT_shapes_89 : decode kT_shapes.2.1 89 = .ok (.if_icmp .ne 7, 3) := by decide +kernel
theorem dT_shapes_92 : decode kT_shapes.2.1 92 = .ok (.iconst 0, 1) := by decide +kernel
theorem dT_shapes_93 : decode kT_shapes.2.1 93 = .ok (.goto 7, 3) := by decide +kernel
theorem dT_shapes_96 : decode kT_shapes.2.1 96 = .ok (.aload_n 0, 1) := by decide +kernel
theorem dT_shapes_97 : decode kT_shapes.2.1 97 = .ok (.getfield 22, 3) := by decide +kernel
theorem dT_shapes_100 : decode kT_shapes.2.1 100 = .ok (.iadd, 1) := by decide +kernel
theorem dT_shapes_101 : decode kT_shapes.2.1 101 = .ok (.istore 6, 2) := by decide +kernel
theorem dT_shapes_103 : decode kT_shapes.2.1 103 = .ok (.iload 4, 2) := by decide +kernel
theorem dT_shapes_105 : decode kT_shapes.2.1 105 = .ok (.ifCond .eq 34, 3) := by decide +kernel
theorem dT_shapes_108 : decode kT_shapes.2.1 108 = .ok (.iload 6, 2) := by decide +kernel
theorem dT_shapes_110 : decode kT_shapes.2.1 110 = .ok (.aload_n 0, 1) := by decide +kernel
theorem dT_shapes_111 : decode kT_shapes.2.1 111 = .ok (.getfield 32, 3) := by decide +kernel
theorem dT_shapes_114 : decode kT_shapes.2.1 114 = .ok (.iconst 4, 1) := by decide +kernel
theorem dT_shapes_115 : decode kT_shapes.2.1 115 = .ok (.iload_n 2, 1) := by decide +kernel
theorem dT_shapes_116 : decode kT_shapes.2.1 116 = .ok (.imul, 1) := by decide +kernel
theorem dT_shapes_117 : decode kT_shapes.2.1 117 = .ok (.iload 4, 2) := by decide +kernel
theorem dT_shapes_119 : decode kT_shapes.2.1 119 = .ok (.iadd, 1) := by decide +kernel
theorem dT_shapes_120 : decode kT_shapes.2.1 120 = .ok (.iaload, 1) := by decide +kernel
theorem dT_shapes_121 : decode kT_shapes.2.1 121 = .ok (.iload 4, 2) := by decide +kernel
theorem dT_shapes_123 : decode kT_shapes.2.1 123 = .ok (.iload_n 3, 1) := by decide +kernel
theorem dT_shapes_124 : decode kT_shapes.2.1 124 = .ok (.if_icmp .ne 7, 3) := by decide +kernel
theorem dT_shapes_127 : decode kT_shapes.2.1 127 = .ok (.iconst 0, 1) := by decide +kernel
theorem dT_shapes_128 : decode kT_shapes.2.1 128 = .ok (.goto 7, 3) := by decide +kernel
theorem dT_shapes_131 : decode kT_shapes.2.1 131 = .ok (.aload_n 0, 1) := by decide +kernel
theorem dT_shapes_132 : decode kT_shapes.2.1 132 = .ok (.getfield 22, 3) := by decide +kernel
theorem dT_shapes_135 : decode kT_shapes.2.1 135 = .ok (.iadd, 1) := by decide +kernel
theorem dT_shapes_136 : decode kT_shapes.2.1 136 = .ok (.if_icmp .ge 7, 3) := by decide +kernel
theorem dT_shapes_139 : decode kT_shapes.2.1 139 = .ok (.iload 5, 2) := by decide +kernel
theorem dT_shapes_141 : decode kT_shapes.2.1 141 = .ok (.istore 4, 2) := by decide +kernel
theorem dT_shapes_143 : decode kT_shapes.2.1 143 = .ok (.iinc 5 1, 3) := by decide +kernel
theorem dT_shapes_146 : decode kT_shapes.2.1 146 = .ok (.goto (-77), 3) := by decide +kernel
theorem dT_shapes_149 : decode kT_shapes.2.1 149 = .ok (.aload_n 0, 1) := by decide +kernel
theorem dT_shapes_150 : decode kT_shapes.2.1 150 = .ok (.getfield 29, 3) := by decide +kernel
theorem dT_shapes_153 : decode kT_shapes.2.1 153 = .ok (.iload_n 2, 1) := by decide +kernel
theorem dT_shapes_154 : decode kT_shapes.2.1 154 = .ok (.iload 4, 2) := by decide +kernel
theorem dT_shapes_156 : decode kT_shapes.2.1 156 = .ok (.iastore, 1) := by decide +kernel
theorem dT_shapes_157 : decode kT_shapes.2.1 157 = .ok (.aload_n 0, 1) := by decide +kernel
theorem dT_shapes_158 : decode kT_shapes.2.1 158 = .ok (.dup, 1) := by decide +kernel
theorem dT_shapes_159 : decode kT_shapes.2.1 159 = .ok (.getfield 109, 3) := by decide +kernel
theorem dT_shapes_162 : decode kT_shapes.2.1 162 = .ok (.aload_n 0, 1) := by decide +kernel
theorem dT_shapes_163 : decode kT_shapes.2.1 163 = .ok (.iload_n 1, 1) := by decide +kernel
theorem dT_shapes_164 : decode kT_shapes.2.1 164 = .ok (.iload_n 2, 1) := by decide +kernel
theorem dT_shapes_165 : decode kT_shapes.2.1 165 = .ok (.iload 4, 2) := by decide +kernel
theorem dT_shapes_167 : decode kT_shapes.2.1 167 = .ok (.invokevirtual 98, 3) := by decide +kernel
theorem dT_shapes_170 : decode kT_shapes.2.1 170 = .ok (.iload 4, 2) := by decide +kernel
theorem dT_shapes_172 : decode kT_shapes.2.1 172 = .ok (.iload_n 3, 1) := by decide +kernel
theorem dT_shapes_173 : decode kT_shapes.2.1 173 = .ok (.if_icmp .ne 7, 3) := by decide +kernel
theorem dT_shapes_176 : decode kT_shapes.2.1 176 = .ok (.iconst 0, 1) := by decide +kernel
theorem dT_shapes_177 : decode kT_shapes.2.1 177 = .ok (.goto 7, 3) := by decide +kernel
theorem dT_shapes_180 : decode kT_shapes.2.1 180 = .ok (.aload_n 0, 1) := by decide +kernel
theorem dT_shapes_181 : decode kT_shapes.2.1 181 = .ok (.getfield 22, 3) := by decide +kernel
theorem dT_shapes_184 : decode kT_shapes.2.1 184 = .ok (.iadd, 1) := by decide +kernel
theorem dT_shapes_185 : decode kT_shapes.2.1 185 = .ok (.iadd, 1) := by decide +kernel
theorem dT_shapes_186 : decode kT_shapes.2.1 186 = .ok (.putfield 109, 3) := by decide +kernel
theorem dT_shapes_189 : decode kT_shapes.2.1 189 = .ok (.iload 4, 2) := by decide +kernel
theorem dT_shapes_191 : decode kT_shapes.2.1 191 = .ok (.iload_n 3, 1) := by decide +kernel
theorem dT_shapes_192 : decode kT_shapes.2.1 192 = .ok (.if_icmp .eq 34, 3) := by decide +kernel
theorem dT_shapes_195 : decode kT_shapes.2.1 195 = .ok (.aload_n 0, 1) := by decide +kernel
theorem dT_shapes_196 : decode kT_shapes.2.1 196 = .ok (.getfield 35, 3) := by decide +kernel
theorem dT_shapes_199 : decode kT_shapes.2.1 199 = .ok (.aload_n 0, 1) := by decide +kernel
theorem dT_shapes_200 : decode kT_shapes.2.1 200 = .ok (.getfield 106, 3) := by decide +kernel
theorem dT_shapes_203 : decode kT_shapes.2.1 203 = .ok (.iload 4, 2) := by decide +kernel
theorem dT_shapes_205 : decode kT_shapes.2.1 205 = .ok (.iastore, 1) := by decide +kernel
theorem dT_shapes_206 : decode kT_shapes.2.1 206 = .ok (.aload_n 0, 1) := by decide +kernel
theorem dT_shapes_207 : decode kT_shapes.2.1 207 = .ok (.getfield 38, 3) := by decide +kernel
theorem dT_shapes_210 : decode kT_shapes.2.1 210 = .ok (.aload_n 0, 1) := by decide +kernel
theorem dT_shapes_211 : decode kT_shapes.2.1 211 = .ok (.getfield 106, 3) := by decide +kernel
theorem dT_shapes_214 : decode kT_shapes.2.1 214 = .ok (.iload_n 2, 1) := by decide +kernel
theorem dT_shapes_215 : decode kT_shapes.2.1 215 = .ok (.iastore, 1) := by decide +kernel
theorem dT_shapes_216 : decode kT_shapes.2.1 216 = .ok (.aload_n 0, 1) := by decide +kernel
theorem dT_shapes_217 : decode kT_shapes.2.1 217 = .ok (.dup, 1) := by decide +kernel
theorem dT_shapes_218 : decode kT_shapes.2.1 218 = .ok (.getfield 106, 3) := by decide +kernel
theorem dT_shapes_221 : decode kT_shapes.2.1 221 = .ok (.iconst 1, 1) := by decide +kernel
theorem dT_shapes_222 : decode kT_shapes.2.1 222 = .ok (.iadd, 1) := by decide +kernel
theorem dT_shapes_223 : decode kT_shapes.2.1 223 = .ok (.putfield 106, 3) := by decide +kernel
theorem dT_shapes_226 : decode kT_shapes.2.1 226 = .ok (.aload_n 0, 1) := by decide +kernel
theorem dT_shapes_227 : decode kT_shapes.2.1 227 = .ok (.getfield 41, 3) := by decide +kernel
theorem dT_shapes_230 : decode kT_shapes.2.1 230 = .ok (.aload_n 0, 1) := by decide +kernel
theorem dT_shapes_231 : decode kT_shapes.2.1 231 = .ok (.getfield 106, 3) := by decide +kernel
theorem dT_shapes_234 : decode kT_shapes.2.1 234 = .ok (.iconst 1, 1) := by decide +kernel
theorem dT_shapes_235 : decode kT_shapes.2.1 235 = .ok (.isub, 1) := by decide +kernel
theorem dT_shapes_236 : decode kT_shapes.2.1 236 = .ok (.iload_n 2, 1) := by decide +kernel
theorem dT_shapes_237 : decode kT_shapes.2.1 237 = .ok (.iconst 1, 1) := by decide +kernel
theorem dT_shapes_238 : decode kT_shapes.2.1 238 = .ok (.iadd, 1) := by decide +kernel
theorem dT_shapes_239 : decode kT_shapes.2.1 239 = .ok (.iastore, 1) := by decide +kernel
theorem dT_shapes_240 : decode kT_shapes.2.1 240 = .ok (.iinc 2 1, 3) := by decide +kernel
theorem dT_shapes_243 : decode kT_shapes.2.1 243 = .ok (.goto (-226), 3) := by decide +kernel
theorem dT_shapes_246 : decode kT_shapes.2.1 246 = .ok (.return_, 1) := by decide +kernel
theorem dT_spans_0 : decode kT_spans.2.1 0 = .ok (.iload_n 1, 1) := by decide +kernel
theorem dT_spans_1 : decode kT_spans.2.1 1 = .ok (.invokestatic 72, 3) := by decide +kernel
theorem dT_spans_4 : decode kT_spans.2.1 4 = .ok (.ifCond .ne 5, 3) := by decide +kernel
theorem dT_spans_7 : decode kT_spans.2.1 7 = .ok (.iconst (-1), 1) := by decide +kernel
theorem dT_spans_8 : decode kT_spans.2.1 8 = .ok (.ireturn, 1) := by decide +kernel
theorem dT_spans_9 : decode kT_spans.2.1 9 = .ok (.aload_n 0, 1) := by decide +kernel
theorem dT_spans_10 : decode kT_spans.2.1 10 = .ok (.iload_n 1, 1) := by decide +kernel
theorem dT_spans_11 : decode kT_spans.2.1 11 = .ok (.invokevirtual 112, 3) := by decide +kernel
theorem dT_spans_14 : decode kT_spans.2.1 14 = .ok (.aload_n 0, 1) := by decide +kernel
theorem dT_spans_15 : decode kT_spans.2.1 15 = .ok (.getfield 106, 3) := by decide +kernel
theorem dT_spans_18 : decode kT_spans.2.1 18 = .ok (.ireturn, 1) := by decide +kernel
theorem dT_cost_0 : decode kT_cost.2.1 0 = .ok (.iload_n 1, 1) := by decide +kernel
theorem dT_cost_1 : decode kT_cost.2.1 1 = .ok (.invokestatic 72, 3) := by decide +kernel
theorem dT_cost_4 : decode kT_cost.2.1 4 = .ok (.ifCond .ne 5, 3) := by decide +kernel
theorem dT_cost_7 : decode kT_cost.2.1 7 = .ok (.iconst (-1), 1) := by decide +kernel
theorem dT_cost_8 : decode kT_cost.2.1 8 = .ok (.ireturn, 1) := by decide +kernel
theorem dT_cost_9 : decode kT_cost.2.1 9 = .ok (.aload_n 0, 1) := by decide +kernel
theorem dT_cost_10 : decode kT_cost.2.1 10 = .ok (.iload_n 1, 1) := by decide +kernel
theorem dT_cost_11 : decode kT_cost.2.1 11 = .ok (.invokevirtual 112, 3) := by decide +kernel
theorem dT_cost_14 : decode kT_cost.2.1 14 = .ok (.aload_n 0, 1) := by decide +kernel
theorem dT_cost_15 : decode kT_cost.2.1 15 = .ok (.getfield 109, 3) := by decide +kernel
theorem dT_cost_18 : decode kT_cost.2.1 18 = .ok (.ireturn, 1) := by decide +kernel
theorem dT_span_0 : decode kT_span.2.1 0 = .ok (.iload_n 1, 1) := by decide +kernel
theorem dT_span_1 : decode kT_span.2.1 1 = .ok (.invokestatic 72, 3) := by decide +kernel
theorem dT_span_4 : decode kT_span.2.1 4 = .ok (.ifCond .eq 16, 3) := by decide +kernel
theorem dT_span_7 : decode kT_span.2.1 7 = .ok (.iload_n 2, 1) := by decide +kernel
theorem dT_span_8 : decode kT_span.2.1 8 = .ok (.ifCond .lt 12, 3) := by decide +kernel
theorem dT_span_11 : decode kT_span.2.1 11 = .ok (.iload_n 3, 1) := by decide +kernel
theorem dT_span_12 : decode kT_span.2.1 12 = .ok (.ifCond .lt 8, 3) := by decide +kernel
theorem dT_span_15 : decode kT_span.2.1 15 = .ok (.iload_n 3, 1) := by decide +kernel
theorem dT_span_16 : decode kT_span.2.1 16 = .ok (.iconst 2, 1) := by decide +kernel
theorem dT_span_17 : decode kT_span.2.1 17 = .ok (.if_icmp .le 5, 3) := by decide +kernel
theorem dT_span_20 : decode kT_span.2.1 20 = .ok (.iconst (-1), 1) := by decide +kernel
theorem dT_span_21 : decode kT_span.2.1 21 = .ok (.ireturn, 1) := by decide +kernel
theorem dT_span_22 : decode kT_span.2.1 22 = .ok (.aload_n 0, 1) := by decide +kernel
theorem dT_span_23 : decode kT_span.2.1 23 = .ok (.iload_n 1, 1) := by decide +kernel
theorem dT_span_24 : decode kT_span.2.1 24 = .ok (.invokevirtual 112, 3) := by decide +kernel
theorem dT_span_27 : decode kT_span.2.1 27 = .ok (.iload_n 2, 1) := by decide +kernel
theorem dT_span_28 : decode kT_span.2.1 28 = .ok (.aload_n 0, 1) := by decide +kernel
theorem dT_span_29 : decode kT_span.2.1 29 = .ok (.getfield 106, 3) := by decide +kernel
theorem dT_span_32 : decode kT_span.2.1 32 = .ok (.if_icmp .lt 5, 3) := by decide +kernel
theorem dT_span_35 : decode kT_span.2.1 35 = .ok (.iconst (-1), 1) := by decide +kernel
theorem dT_span_36 : decode kT_span.2.1 36 = .ok (.ireturn, 1) := by decide +kernel
theorem dT_span_37 : decode kT_span.2.1 37 = .ok (.iload_n 3, 1) := by decide +kernel
theorem dT_span_38 : decode kT_span.2.1 38 = .ok (.ifCond .ne 12, 3) := by decide +kernel
theorem dT_span_41 : decode kT_span.2.1 41 = .ok (.aload_n 0, 1) := by decide +kernel
theorem dT_span_42 : decode kT_span.2.1 42 = .ok (.getfield 35, 3) := by decide +kernel
theorem dT_span_45 : decode kT_span.2.1 45 = .ok (.iload_n 2, 1) := by decide +kernel
theorem dT_span_46 : decode kT_span.2.1 46 = .ok (.iaload, 1) := by decide +kernel
theorem dT_span_47 : decode kT_span.2.1 47 = .ok (.goto 23, 3) := by decide +kernel
theorem dT_span_50 : decode kT_span.2.1 50 = .ok (.iload_n 3, 1) := by decide +kernel
theorem dT_span_51 : decode kT_span.2.1 51 = .ok (.iconst 1, 1) := by decide +kernel
theorem dT_span_52 : decode kT_span.2.1 52 = .ok (.if_icmp .ne 12, 3) := by decide +kernel
theorem dT_span_55 : decode kT_span.2.1 55 = .ok (.aload_n 0, 1) := by decide +kernel
theorem dT_span_56 : decode kT_span.2.1 56 = .ok (.getfield 38, 3) := by decide +kernel
theorem dT_span_59 : decode kT_span.2.1 59 = .ok (.iload_n 2, 1) := by decide +kernel
theorem dT_span_60 : decode kT_span.2.1 60 = .ok (.iaload, 1) := by decide +kernel
theorem dT_span_61 : decode kT_span.2.1 61 = .ok (.goto 9, 3) := by decide +kernel
theorem dT_span_64 : decode kT_span.2.1 64 = .ok (.aload_n 0, 1) := by decide +kernel
theorem dT_span_65 : decode kT_span.2.1 65 = .ok (.getfield 41, 3) := by decide +kernel
theorem dT_span_68 : decode kT_span.2.1 68 = .ok (.iload_n 2, 1) := by decide +kernel
theorem dT_span_69 : decode kT_span.2.1 69 = .ok (.iaload, 1) := by decide +kernel
theorem dT_span_70 : decode kT_span.2.1 70 = .ok (.ireturn, 1) := by decide +kernel
theorem dT_kind_0 : decode kT_kind.2.1 0 = .ok (.aload_n 0, 1) := by decide +kernel
theorem dT_kind_1 : decode kT_kind.2.1 1 = .ok (.iload_n 1, 1) := by decide +kernel
theorem dT_kind_2 : decode kT_kind.2.1 2 = .ok (.iload_n 2, 1) := by decide +kernel
theorem dT_kind_3 : decode kT_kind.2.1 3 = .ok (.invokevirtual 76, 3) := by decide +kernel
theorem dT_kind_6 : decode kT_kind.2.1 6 = .ok (.ifCond .ne 5, 3) := by decide +kernel
theorem dT_kind_9 : decode kT_kind.2.1 9 = .ok (.iconst 0, 1) := by decide +kernel
theorem dT_kind_10 : decode kT_kind.2.1 10 = .ok (.ireturn, 1) := by decide +kernel
theorem dT_kind_11 : decode kT_kind.2.1 11 = .ok (.aload_n 0, 1) := by decide +kernel
theorem dT_kind_12 : decode kT_kind.2.1 12 = .ok (.iload_n 1, 1) := by decide +kernel
theorem dT_kind_13 : decode kT_kind.2.1 13 = .ok (.invokevirtual 112, 3) := by decide +kernel
theorem dT_kind_16 : decode kT_kind.2.1 16 = .ok (.aload_n 0, 1) := by decide +kernel
theorem dT_kind_17 : decode kT_kind.2.1 17 = .ok (.getfield 29, 3) := by decide +kernel
theorem dT_kind_20 : decode kT_kind.2.1 20 = .ok (.iload_n 2, 1) := by decide +kernel
theorem dT_kind_21 : decode kT_kind.2.1 21 = .ok (.iaload, 1) := by decide +kernel
theorem dT_kind_22 : decode kT_kind.2.1 22 = .ok (.ireturn, 1) := by decide +kernel
theorem dT_size_0 : decode kT_size.2.1 0 = .ok (.iload_n 0, 1) := by decide +kernel
theorem dT_size_1 : decode kT_size.2.1 1 = .ok (.ifCond .ge 8, 3) := by decide +kernel
theorem dT_size_4 : decode kT_size.2.1 4 = .ok (.iload_n 0, 1) := by decide +kernel
theorem dT_size_5 : decode kT_size.2.1 5 = .ok (.ineg, 1) := by decide +kernel
theorem dT_size_6 : decode kT_size.2.1 6 = .ok (.goto 4, 3) := by decide +kernel
theorem dT_size_9 : decode kT_size.2.1 9 = .ok (.iload_n 0, 1) := by decide +kernel
theorem dT_size_10 : decode kT_size.2.1 10 = .ok (.ireturn, 1) := by decide +kernel
theorem dT_turnsIn_0 : decode kT_turnsIn.2.1 0 = .ok (.aload_n 0, 1) := by decide +kernel
theorem dT_turnsIn_1 : decode kT_turnsIn.2.1 1 = .ok (.iload_n 1, 1) := by decide +kernel
theorem dT_turnsIn_2 : decode kT_turnsIn.2.1 2 = .ok (.invokevirtual 112, 3) := by decide +kernel
theorem dT_turnsIn_5 : decode kT_turnsIn.2.1 5 = .ok (.aload_n 0, 1) := by decide +kernel
theorem dT_turnsIn_6 : decode kT_turnsIn.2.1 6 = .ok (.iconst 0, 1) := by decide +kernel
theorem dT_turnsIn_7 : decode kT_turnsIn.2.1 7 = .ok (.putfield 115, 3) := by decide +kernel
theorem dT_turnsIn_10 : decode kT_turnsIn.2.1 10 = .ok (.iconst 0, 1) := by decide +kernel
theorem dT_turnsIn_11 : decode kT_turnsIn.2.1 11 = .ok (.istore_n 2, 1) := by decide +kernel
theorem dT_turnsIn_12 : decode kT_turnsIn.2.1 12 = .ok (.iload_n 2, 1) := by decide +kernel
theorem dT_turnsIn_13 : decode kT_turnsIn.2.1 13 = .ok (.iconst 1, 1) := by decide +kernel
theorem dT_turnsIn_14 : decode kT_turnsIn.2.1 14 = .ok (.iadd, 1) := by decide +kernel
theorem dT_turnsIn_15 : decode kT_turnsIn.2.1 15 = .ok (.aload_n 0, 1) := by decide +kernel
theorem dT_turnsIn_16 : decode kT_turnsIn.2.1 16 = .ok (.getfield 106, 3) := by decide +kernel
theorem dT_turnsIn_19 : decode kT_turnsIn.2.1 19 = .ok (.if_icmp .ge 144, 3) := by decide +kernel
theorem dT_turnsIn_22 : decode kT_turnsIn.2.1 22 = .ok (.aload_n 0, 1) := by decide +kernel
theorem dT_turnsIn_23 : decode kT_turnsIn.2.1 23 = .ok (.getfield 41, 3) := by decide +kernel
theorem dT_turnsIn_26 : decode kT_turnsIn.2.1 26 = .ok (.iload_n 2, 1) := by decide +kernel
theorem dT_turnsIn_27 : decode kT_turnsIn.2.1 27 = .ok (.iaload, 1) := by decide +kernel
theorem dT_turnsIn_28 : decode kT_turnsIn.2.1 28 = .ok (.aload_n 0, 1) := by decide +kernel
theorem dT_turnsIn_29 : decode kT_turnsIn.2.1 29 = .ok (.getfield 38, 3) := by decide +kernel
theorem dT_turnsIn_32 : decode kT_turnsIn.2.1 32 = .ok (.iload_n 2, 1) := by decide +kernel
theorem dT_turnsIn_33 : decode kT_turnsIn.2.1 33 = .ok (.iconst 1, 1) := by decide +kernel
theorem dT_turnsIn_34 : decode kT_turnsIn.2.1 34 = .ok (.iadd, 1) := by decide +kernel
theorem dT_turnsIn_35 : decode kT_turnsIn.2.1 35 = .ok (.iaload, 1) := by decide +kernel
theorem dT_turnsIn_36 : decode kT_turnsIn.2.1 36 = .ok (.if_icmp .ne 121, 3) := by decide +kernel
theorem dT_turnsIn_39 : decode kT_turnsIn.2.1 39 = .ok (.aload_n 0, 1) := by decide +kernel
theorem dT_turnsIn_40 : decode kT_turnsIn.2.1 40 = .ok (.getfield 35, 3) := by decide +kernel
theorem dT_turnsIn_43 : decode kT_turnsIn.2.1 43 = .ok (.iload_n 2, 1) := by decide +kernel
theorem dT_turnsIn_44 : decode kT_turnsIn.2.1 44 = .ok (.iaload, 1) := by decide +kernel
theorem dT_turnsIn_45 : decode kT_turnsIn.2.1 45 = .ok (.aload_n 0, 1) := by decide +kernel
theorem dT_turnsIn_46 : decode kT_turnsIn.2.1 46 = .ok (.getfield 35, 3) := by decide +kernel
theorem dT_turnsIn_49 : decode kT_turnsIn.2.1 49 = .ok (.iload_n 2, 1) := by decide +kernel
theorem dT_turnsIn_50 : decode kT_turnsIn.2.1 50 = .ok (.iconst 1, 1) := by decide +kernel
theorem dT_turnsIn_51 : decode kT_turnsIn.2.1 51 = .ok (.iadd, 1) := by decide +kernel
theorem dT_turnsIn_52 : decode kT_turnsIn.2.1 52 = .ok (.iaload, 1) := by decide +kernel
theorem dT_turnsIn_53 : decode kT_turnsIn.2.1 53 = .ok (.iadd, 1) := by decide +kernel
theorem dT_turnsIn_54 : decode kT_turnsIn.2.1 54 = .ok (.iconst 3, 1) := by decide +kernel
theorem dT_turnsIn_55 : decode kT_turnsIn.2.1 55 = .ok (.if_icmp .eq 6, 3) := by decide +kernel
theorem dT_turnsIn_58 : decode kT_turnsIn.2.1 58 = .ok (.goto 99, 3) := by decide +kernel
theorem dT_turnsIn_61 : decode kT_turnsIn.2.1 61 = .ok (.aload_n 0, 1) := by decide +kernel
theorem dT_turnsIn_62 : decode kT_turnsIn.2.1 62 = .ok (.iload_n 1, 1) := by decide +kernel
theorem dT_turnsIn_63 : decode kT_turnsIn.2.1 63 = .ok (.aload_n 0, 1) := by decide +kernel
theorem dT_turnsIn_64 : decode kT_turnsIn.2.1 64 = .ok (.getfield 41, 3) := by decide +kernel
theorem dT_turnsIn_67 : decode kT_turnsIn.2.1 67 = .ok (.iload_n 2, 1) := by decide +kernel
theorem dT_turnsIn_68 : decode kT_turnsIn.2.1 68 = .ok (.iaload, 1) := by decide +kernel
theorem dT_turnsIn_69 : decode kT_turnsIn.2.1 69 = .ok (.invokevirtual 88, 3) := by decide +kernel
theorem dT_turnsIn_72 : decode kT_turnsIn.2.1 72 = .ok (.istore_n 3, 1) := by decide +kernel
theorem dT_turnsIn_73 : decode kT_turnsIn.2.1 73 = .ok (.iload_n 3, 1) := by decide +kernel
theorem dT_turnsIn_74 : decode kT_turnsIn.2.1 74 = .ok (.aload_n 0, 1) := by decide +kernel
theorem dT_turnsIn_75 : decode kT_turnsIn.2.1 75 = .ok (.iload_n 1, 1) := by decide +kernel
theorem dT_turnsIn_76 : decode kT_turnsIn.2.1 76 = .ok (.aload_n 0, 1) := by decide +kernel
theorem dT_turnsIn_77 : decode kT_turnsIn.2.1 77 = .ok (.getfield 38, 3) := by decide +kernel
theorem dT_turnsIn_80 : decode kT_turnsIn.2.1 80 = .ok (.iload_n 2, 1) := by decide +kernel
theorem dT_turnsIn_81 : decode kT_turnsIn.2.1 81 = .ok (.iaload, 1) := by decide +kernel
theorem dT_turnsIn_82 : decode kT_turnsIn.2.1 82 = .ok (.invokevirtual 88, 3) := by decide +kernel
theorem dT_turnsIn_85 : decode kT_turnsIn.2.1 85 = .ok (.isub, 1) := by decide +kernel
theorem dT_turnsIn_86 : decode kT_turnsIn.2.1 86 = .ok (.invokestatic 118, 3) := by decide +kernel
theorem dT_turnsIn_89 : decode kT_turnsIn.2.1 89 = .ok (.iconst 2, 1) := by decide +kernel
theorem dT_turnsIn_90 : decode kT_turnsIn.2.1 90 = .ok (.aload_n 0, 1) := by decide +kernel
theorem dT_turnsIn_91 : decode kT_turnsIn.2.1 91 = .ok (.getfield 16, 3) := by decide +kernel
theorem dT_turnsIn_94 : decode kT_turnsIn.2.1 94 = .ok (.iload_n 1, 1) := by decide +kernel
theorem dT_turnsIn_95 : decode kT_turnsIn.2.1 95 = .ok (.iaload, 1) := by decide +kernel
theorem dT_turnsIn_96 : decode kT_turnsIn.2.1 96 = .ok (.imul, 1) := by decide +kernel
theorem dT_turnsIn_97 : decode kT_turnsIn.2.1 97 = .ok (.if_icmp .le 60, 3) := by decide +kernel
theorem dT_turnsIn_100 : decode kT_turnsIn.2.1 100 = .ok (.iload_n 3, 1) := by decide +kernel
theorem dT_turnsIn_101 : decode kT_turnsIn.2.1 101 = .ok (.aload_n 0, 1) := by decide +kernel
theorem dT_turnsIn_102 : decode kT_turnsIn.2.1 102 = .ok (.iload_n 1, 1) := by decide +kernel
theorem dT_turnsIn_103 : decode kT_turnsIn.2.1 103 = .ok (.aload_n 0, 1) := by decide +kernel
theorem dT_turnsIn_104 : decode kT_turnsIn.2.1 104 = .ok (.getfield 41, 3) := by decide +kernel
theorem dT_turnsIn_107 : decode kT_turnsIn.2.1 107 = .ok (.iload_n 2, 1) := by decide +kernel
theorem dT_turnsIn_108 : decode kT_turnsIn.2.1 108 = .ok (.iconst 1, 1) := by decide +kernel
theorem dT_turnsIn_109 : decode kT_turnsIn.2.1 109 = .ok (.iadd, 1) := by decide +kernel
theorem dT_turnsIn_110 : decode kT_turnsIn.2.1 110 = .ok (.iaload, 1) := by decide +kernel
theorem dT_turnsIn_111 : decode kT_turnsIn.2.1 111 = .ok (.invokevirtual 88, 3) := by decide +kernel
theorem dT_turnsIn_114 : decode kT_turnsIn.2.1 114 = .ok (.isub, 1) := by decide +kernel
theorem dT_turnsIn_115 : decode kT_turnsIn.2.1 115 = .ok (.invokestatic 118, 3) := by decide +kernel
theorem dT_turnsIn_118 : decode kT_turnsIn.2.1 118 = .ok (.iconst 2, 1) := by decide +kernel
theorem dT_turnsIn_119 : decode kT_turnsIn.2.1 119 = .ok (.aload_n 0, 1) := by decide +kernel
theorem dT_turnsIn_120 : decode kT_turnsIn.2.1 120 = .ok (.getfield 16, 3) := by decide +kernel
theorem dT_turnsIn_123 : decode kT_turnsIn.2.1 123 = .ok (.iload_n 1, 1) := by decide +kernel
theorem dT_turnsIn_124 : decode kT_turnsIn.2.1 124 = .ok (.iaload, 1) := by decide +kernel
theorem dT_turnsIn_125 : decode kT_turnsIn.2.1 125 = .ok (.imul, 1) := by decide +kernel
theorem dT_turnsIn_126 : decode kT_turnsIn.2.1 126 = .ok (.if_icmp .gt 6, 3) := by decide +kernel
theorem dT_turnsIn_129 : decode kT_turnsIn.2.1 129 = .ok (.goto 28, 3) := by decide +kernel
theorem dT_turnsIn_132 : decode kT_turnsIn.2.1 132 = .ok (.aload_n 0, 1) := by decide +kernel
theorem dT_turnsIn_133 : decode kT_turnsIn.2.1 133 = .ok (.getfield 44, 3) := by decide +kernel
theorem dT_turnsIn_136 : decode kT_turnsIn.2.1 136 = .ok (.aload_n 0, 1) := by decide +kernel
theorem dT_turnsIn_137 : decode kT_turnsIn.2.1 137 = .ok (.getfield 115, 3) := by decide +kernel
theorem dT_turnsIn_140 : decode kT_turnsIn.2.1 140 = .ok (.aload_n 0, 1) := by decide +kernel
theorem dT_turnsIn_141 : decode kT_turnsIn.2.1 141 = .ok (.getfield 41, 3) := by decide +kernel
theorem dT_turnsIn_144 : decode kT_turnsIn.2.1 144 = .ok (.iload_n 2, 1) := by decide +kernel
theorem dT_turnsIn_145 : decode kT_turnsIn.2.1 145 = .ok (.iaload, 1) := by decide +kernel
theorem dT_turnsIn_146 : decode kT_turnsIn.2.1 146 = .ok (.iastore, 1) := by decide +kernel
theorem dT_turnsIn_147 : decode kT_turnsIn.2.1 147 = .ok (.aload_n 0, 1) := by decide +kernel
theorem dT_turnsIn_148 : decode kT_turnsIn.2.1 148 = .ok (.dup, 1) := by decide +kernel
theorem dT_turnsIn_149 : decode kT_turnsIn.2.1 149 = .ok (.getfield 115, 3) := by decide +kernel
theorem dT_turnsIn_152 : decode kT_turnsIn.2.1 152 = .ok (.iconst 1, 1) := by decide +kernel
theorem dT_turnsIn_153 : decode kT_turnsIn.2.1 153 = .ok (.iadd, 1) := by decide +kernel
theorem dT_turnsIn_154 : decode kT_turnsIn.2.1 154 = .ok (.putfield 115, 3) := by decide +kernel
theorem dT_turnsIn_157 : decode kT_turnsIn.2.1 157 = .ok (.iinc 2 1, 3) := by decide +kernel
theorem dT_turnsIn_160 : decode kT_turnsIn.2.1 160 = .ok (.goto (-148), 3) := by decide +kernel
theorem dT_turnsIn_163 : decode kT_turnsIn.2.1 163 = .ok (.return_, 1) := by decide +kernel
theorem dT_turnsOf_0 : decode kT_turnsOf.2.1 0 = .ok (.iload_n 1, 1) := by decide +kernel
theorem dT_turnsOf_1 : decode kT_turnsOf.2.1 1 = .ok (.invokestatic 72, 3) := by decide +kernel
theorem dT_turnsOf_4 : decode kT_turnsOf.2.1 4 = .ok (.ifCond .ne 5, 3) := by decide +kernel
theorem dT_turnsOf_7 : decode kT_turnsOf.2.1 7 = .ok (.iconst (-1), 1) := by decide +kernel
theorem dT_turnsOf_8 : decode kT_turnsOf.2.1 8 = .ok (.ireturn, 1) := by decide +kernel
theorem dT_turnsOf_9 : decode kT_turnsOf.2.1 9 = .ok (.aload_n 0, 1) := by decide +kernel
theorem dT_turnsOf_10 : decode kT_turnsOf.2.1 10 = .ok (.iload_n 1, 1) := by decide +kernel
theorem dT_turnsOf_11 : decode kT_turnsOf.2.1 11 = .ok (.invokevirtual 122, 3) := by decide +kernel
theorem dT_turnsOf_14 : decode kT_turnsOf.2.1 14 = .ok (.aload_n 0, 1) := by decide +kernel
theorem dT_turnsOf_15 : decode kT_turnsOf.2.1 15 = .ok (.getfield 115, 3) := by decide +kernel
theorem dT_turnsOf_18 : decode kT_turnsOf.2.1 18 = .ok (.ireturn, 1) := by decide +kernel
theorem dT_turn_0 : decode kT_turn.2.1 0 = .ok (.iload_n 1, 1) := by decide +kernel
theorem dT_turn_1 : decode kT_turn.2.1 1 = .ok (.invokestatic 72, 3) := by decide +kernel
theorem dT_turn_4 : decode kT_turn.2.1 4 = .ok (.ifCond .eq 7, 3) := by decide +kernel
theorem dT_turn_7 : decode kT_turn.2.1 7 = .ok (.iload_n 2, 1) := by decide +kernel
theorem dT_turn_8 : decode kT_turn.2.1 8 = .ok (.ifCond .ge 5, 3) := by decide +kernel
theorem dT_turn_11 : decode kT_turn.2.1 11 = .ok (.iconst (-1), 1) := by decide +kernel
theorem dT_turn_12 : decode kT_turn.2.1 12 = .ok (.ireturn, 1) := by decide +kernel
theorem dT_turn_13 : decode kT_turn.2.1 13 = .ok (.aload_n 0, 1) := by decide +kernel
theorem dT_turn_14 : decode kT_turn.2.1 14 = .ok (.iload_n 1, 1) := by decide +kernel
theorem dT_turn_15 : decode kT_turn.2.1 15 = .ok (.invokevirtual 122, 3) := by decide +kernel
theorem dT_turn_18 : decode kT_turn.2.1 18 = .ok (.iload_n 2, 1) := by decide +kernel
theorem dT_turn_19 : decode kT_turn.2.1 19 = .ok (.aload_n 0, 1) := by decide +kernel
theorem dT_turn_20 : decode kT_turn.2.1 20 = .ok (.getfield 115, 3) := by decide +kernel
theorem dT_turn_23 : decode kT_turn.2.1 23 = .ok (.if_icmp .ge 12, 3) := by decide +kernel
theorem dT_turn_26 : decode kT_turn.2.1 26 = .ok (.aload_n 0, 1) := by decide +kernel
theorem dT_turn_27 : decode kT_turn.2.1 27 = .ok (.getfield 44, 3) := by decide +kernel
theorem dT_turn_30 : decode kT_turn.2.1 30 = .ok (.iload_n 2, 1) := by decide +kernel
theorem dT_turn_31 : decode kT_turn.2.1 31 = .ok (.iaload, 1) := by decide +kernel
theorem dT_turn_32 : decode kT_turn.2.1 32 = .ok (.goto 4, 3) := by decide +kernel
theorem dT_turn_35 : decode kT_turn.2.1 35 = .ok (.iconst (-1), 1) := by decide +kernel
theorem dT_turn_36 : decode kT_turn.2.1 36 = .ok (.ireturn, 1) := by decide +kernel
theorem dT_sure_0 : decode kT_sure.2.1 0 = .ok (.iload_n 1, 1) := by decide +kernel
theorem dT_sure_1 : decode kT_sure.2.1 1 = .ok (.invokestatic 72, 3) := by decide +kernel
theorem dT_sure_4 : decode kT_sure.2.1 4 = .ok (.ifCond .eq 33, 3) := by decide +kernel
theorem dT_sure_7 : decode kT_sure.2.1 7 = .ok (.iload_n 2, 1) := by decide +kernel
theorem dT_sure_8 : decode kT_sure.2.1 8 = .ok (.invokestatic 72, 3) := by decide +kernel
theorem dT_sure_11 : decode kT_sure.2.1 11 = .ok (.ifCond .eq 26, 3) := by decide +kernel
theorem dT_sure_14 : decode kT_sure.2.1 14 = .ok (.iload_n 1, 1) := by decide +kernel
theorem dT_sure_15 : decode kT_sure.2.1 15 = .ok (.iload_n 2, 1) := by decide +kernel
theorem dT_sure_16 : decode kT_sure.2.1 16 = .ok (.if_icmp .eq 21, 3) := by decide +kernel
theorem dT_sure_19 : decode kT_sure.2.1 19 = .ok (.aload_n 0, 1) := by decide +kernel
theorem dT_sure_20 : decode kT_sure.2.1 20 = .ok (.iload_n 1, 1) := by decide +kernel
theorem dT_sure_21 : decode kT_sure.2.1 21 = .ok (.iload_n 3, 1) := by decide +kernel
theorem dT_sure_22 : decode kT_sure.2.1 22 = .ok (.invokevirtual 91, 3) := by decide +kernel
theorem dT_sure_25 : decode kT_sure.2.1 25 = .ok (.ifCond .eq 12, 3) := by decide +kernel
theorem dT_sure_28 : decode kT_sure.2.1 28 = .ok (.aload_n 0, 1) := by decide +kernel
theorem dT_sure_29 : decode kT_sure.2.1 29 = .ok (.iload_n 2, 1) := by decide +kernel
theorem dT_sure_30 : decode kT_sure.2.1 30 = .ok (.iload_n 3, 1) := by decide +kernel
theorem dT_sure_31 : decode kT_sure.2.1 31 = .ok (.invokevirtual 91, 3) := by decide +kernel
theorem dT_sure_34 : decode kT_sure.2.1 34 = .ok (.ifCond .ne 6, 3) := by decide +kernel
theorem dT_sure_37 : decode kT_sure.2.1 37 = .ok (.bipush (-2), 2) := by decide +kernel
theorem dT_sure_39 : decode kT_sure.2.1 39 = .ok (.ireturn, 1) := by decide +kernel
theorem dT_sure_40 : decode kT_sure.2.1 40 = .ok (.aload_n 0, 1) := by decide +kernel
theorem dT_sure_41 : decode kT_sure.2.1 41 = .ok (.iload_n 1, 1) := by decide +kernel
theorem dT_sure_42 : decode kT_sure.2.1 42 = .ok (.iload_n 3, 1) := by decide +kernel
theorem dT_sure_43 : decode kT_sure.2.1 43 = .ok (.invokevirtual 88, 3) := by decide +kernel
theorem dT_sure_46 : decode kT_sure.2.1 46 = .ok (.aload_n 0, 1) := by decide +kernel
theorem dT_sure_47 : decode kT_sure.2.1 47 = .ok (.iload_n 2, 1) := by decide +kernel
theorem dT_sure_48 : decode kT_sure.2.1 48 = .ok (.iload_n 3, 1) := by decide +kernel
theorem dT_sure_49 : decode kT_sure.2.1 49 = .ok (.invokevirtual 88, 3) := by decide +kernel
theorem dT_sure_52 : decode kT_sure.2.1 52 = .ok (.isub, 1) := by decide +kernel
theorem dT_sure_53 : decode kT_sure.2.1 53 = .ok (.istore 4, 2) := by decide +kernel
theorem dT_sure_55 : decode kT_sure.2.1 55 = .ok (.aload_n 0, 1) := by decide +kernel
theorem dT_sure_56 : decode kT_sure.2.1 56 = .ok (.getfield 16, 3) := by decide +kernel
theorem dT_sure_59 : decode kT_sure.2.1 59 = .ok (.iload_n 1, 1) := by decide +kernel
theorem dT_sure_60 : decode kT_sure.2.1 60 = .ok (.iaload, 1) := by decide +kernel
theorem dT_sure_61 : decode kT_sure.2.1 61 = .ok (.aload_n 0, 1) := by decide +kernel
theorem dT_sure_62 : decode kT_sure.2.1 62 = .ok (.getfield 16, 3) := by decide +kernel
theorem dT_sure_65 : decode kT_sure.2.1 65 = .ok (.iload_n 2, 1) := by decide +kernel
theorem dT_sure_66 : decode kT_sure.2.1 66 = .ok (.iaload, 1) := by decide +kernel
theorem dT_sure_67 : decode kT_sure.2.1 67 = .ok (.iadd, 1) := by decide +kernel
theorem dT_sure_68 : decode kT_sure.2.1 68 = .ok (.istore 5, 2) := by decide +kernel
theorem dT_sure_70 : decode kT_sure.2.1 70 = .ok (.iload 4, 2) := by decide +kernel
theorem dT_sure_72 : decode kT_sure.2.1 72 = .ok (.iload 5, 2) := by decide +kernel
theorem dT_sure_74 : decode kT_sure.2.1 74 = .ok (.if_icmp .le 7, 3) := by decide +kernel
theorem dT_sure_77 : decode kT_sure.2.1 77 = .ok (.iconst 1, 1) := by decide +kernel
theorem dT_sure_78 : decode kT_sure.2.1 78 = .ok (.goto 16, 3) := by decide +kernel
theorem dT_sure_81 : decode kT_sure.2.1 81 = .ok (.iload 4, 2) := by decide +kernel
theorem dT_sure_83 : decode kT_sure.2.1 83 = .ok (.ineg, 1) := by decide +kernel
theorem dT_sure_84 : decode kT_sure.2.1 84 = .ok (.iload 5, 2) := by decide +kernel
theorem dT_sure_86 : decode kT_sure.2.1 86 = .ok (.if_icmp .le 7, 3) := by decide +kernel
theorem dT_sure_89 : decode kT_sure.2.1 89 = .ok (.iconst (-1), 1) := by decide +kernel
theorem dT_sure_90 : decode kT_sure.2.1 90 = .ok (.goto 4, 3) := by decide +kernel
theorem dT_sure_93 : decode kT_sure.2.1 93 = .ok (.iconst 0, 1) := by decide +kernel
theorem dT_sure_94 : decode kT_sure.2.1 94 = .ok (.ireturn, 1) := by decide +kernel
theorem dT_crosses_0 : decode kT_crosses.2.1 0 = .ok (.aload_n 0, 1) := by decide +kernel
theorem dT_crosses_1 : decode kT_crosses.2.1 1 = .ok (.iconst 0, 1) := by decide +kernel
theorem dT_crosses_2 : decode kT_crosses.2.1 2 = .ok (.putfield 125, 3) := by decide +kernel
theorem dT_crosses_5 : decode kT_crosses.2.1 5 = .ok (.iconst 0, 1) := by decide +kernel
theorem dT_crosses_6 : decode kT_crosses.2.1 6 = .ok (.istore_n 3, 1) := by decide +kernel
theorem dT_crosses_7 : decode kT_crosses.2.1 7 = .ok (.iconst 0, 1) := by decide +kernel
theorem dT_crosses_8 : decode kT_crosses.2.1 8 = .ok (.istore 4, 2) := by decide +kernel
theorem dT_crosses_10 : decode kT_crosses.2.1 10 = .ok (.iload 4, 2) := by decide +kernel
theorem dT_crosses_12 : decode kT_crosses.2.1 12 = .ok (.bipush 40, 2) := by decide +kernel
theorem dT_crosses_14 : decode kT_crosses.2.1 14 = .ok (.if_icmp .ge 74, 3) := by decide +kernel
theorem dT_crosses_17 : decode kT_crosses.2.1 17 = .ok (.aload_n 0, 1) := by decide +kernel
theorem dT_crosses_18 : decode kT_crosses.2.1 18 = .ok (.iload_n 1, 1) := by decide +kernel
theorem dT_crosses_19 : decode kT_crosses.2.1 19 = .ok (.iload_n 2, 1) := by decide +kernel
theorem dT_crosses_20 : decode kT_crosses.2.1 20 = .ok (.iload 4, 2) := by decide +kernel
theorem dT_crosses_22 : decode kT_crosses.2.1 22 = .ok (.invokevirtual 128, 3) := by decide +kernel
theorem dT_crosses_25 : decode kT_crosses.2.1 25 = .ok (.istore 5, 2) := by decide +kernel
theorem dT_crosses_27 : decode kT_crosses.2.1 27 = .ok (.iload 5, 2) := by decide +kernel
theorem dT_crosses_29 : decode kT_crosses.2.1 29 = .ok (.bipush (-2), 2) := by decide +kernel
theorem dT_crosses_31 : decode kT_crosses.2.1 31 = .ok (.if_icmp .ne 5, 3) := by decide +kernel
theorem dT_crosses_34 : decode kT_crosses.2.1 34 = .ok (.iconst 0, 1) := by decide +kernel
theorem dT_crosses_35 : decode kT_crosses.2.1 35 = .ok (.istore_n 3, 1) := by decide +kernel
theorem dT_crosses_36 : decode kT_crosses.2.1 36 = .ok (.iload 5, 2) := by decide +kernel
theorem dT_crosses_38 : decode kT_crosses.2.1 38 = .ok (.iconst 1, 1) := by decide +kernel
theorem dT_crosses_39 : decode kT_crosses.2.1 39 = .ok (.if_icmp .eq 12, 3) := by decide +kernel
theorem dT_crosses_42 : decode kT_crosses.2.1 42 = .ok (.iload 5, 2) := by decide +kernel
theorem dT_crosses_44 : decode kT_crosses.2.1 44 = .ok (.iconst (-1), 1) := by decide +kernel
theorem dT_crosses_45 : decode kT_crosses.2.1 45 = .ok (.if_icmp .eq 6, 3) := by decide +kernel
theorem dT_crosses_48 : decode kT_crosses.2.1 48 = .ok (.goto 34, 3) := by decide +kernel
theorem dT_crosses_51 : decode kT_crosses.2.1 51 = .ok (.iload_n 3, 1) := by decide +kernel
theorem dT_crosses_52 : decode kT_crosses.2.1 52 = .ok (.iload 5, 2) := by decide +kernel
theorem dT_crosses_54 : decode kT_crosses.2.1 54 = .ok (.ineg, 1) := by decide +kernel
theorem dT_crosses_55 : decode kT_crosses.2.1 55 = .ok (.if_icmp .ne 24, 3) := by decide +kernel
theorem dT_crosses_58 : decode kT_crosses.2.1 58 = .ok (.aload_n 0, 1) := by decide +kernel
theorem dT_crosses_59 : decode kT_crosses.2.1 59 = .ok (.getfield 47, 3) := by decide +kernel
theorem dT_crosses_62 : decode kT_crosses.2.1 62 = .ok (.aload_n 0, 1) := by decide +kernel
theorem dT_crosses_63 : decode kT_crosses.2.1 63 = .ok (.getfield 125, 3) := by decide +kernel
theorem dT_crosses_66 : decode kT_crosses.2.1 66 = .ok (.iload 4, 2) := by decide +kernel
theorem dT_crosses_68 : decode kT_crosses.2.1 68 = .ok (.iastore, 1) := by decide +kernel
theorem dT_crosses_69 : decode kT_crosses.2.1 69 = .ok (.aload_n 0, 1) := by decide +kernel
theorem dT_crosses_70 : decode kT_crosses.2.1 70 = .ok (.dup, 1) := by decide +kernel
theorem dT_crosses_71 : decode kT_crosses.2.1 71 = .ok (.getfield 125, 3) := by decide +kernel
theorem dT_crosses_74 : decode kT_crosses.2.1 74 = .ok (.iconst 1, 1) := by decide +kernel
theorem dT_crosses_75 : decode kT_crosses.2.1 75 = .ok (.iadd, 1) := by decide +kernel
theorem dT_crosses_76 : decode kT_crosses.2.1 76 = .ok (.putfield 125, 3) := by decide +kernel
theorem dT_crosses_79 : decode kT_crosses.2.1 79 = .ok (.iload 5, 2) := by decide +kernel
theorem dT_crosses_81 : decode kT_crosses.2.1 81 = .ok (.istore_n 3, 1) := by decide +kernel
theorem dT_crosses_82 : decode kT_crosses.2.1 82 = .ok (.iinc 4 1, 3) := by decide +kernel
theorem dT_crosses_85 : decode kT_crosses.2.1 85 = .ok (.goto (-75), 3) := by decide +kernel
theorem dT_crosses_88 : decode kT_crosses.2.1 88 = .ok (.return_, 1) := by decide +kernel
theorem dT_crossings_0 : decode kT_crossings.2.1 0 = .ok (.iload_n 1, 1) := by decide +kernel
theorem dT_crossings_1 : decode kT_crossings.2.1 1 = .ok (.invokestatic 72, 3) := by decide +kernel
theorem dT_crossings_4 : decode kT_crossings.2.1 4 = .ok (.ifCond .eq 15, 3) := by decide +kernel
theorem dT_crossings_7 : decode kT_crossings.2.1 7 = .ok (.iload_n 2, 1) := by decide +kernel
theorem dT_crossings_8 : decode kT_crossings.2.1 8 = .ok (.invokestatic 72, 3) := by decide +kernel
theorem dT_crossings_11 : decode kT_crossings.2.1 11 = .ok (.ifCond .eq 8, 3) := by decide +kernel
theorem dT_crossings_14 : decode kT_crossings.2.1 14 = .ok (.iload_n 1, 1) := by decide +kernel
theorem dT_crossings_15 : decode kT_crossings.2.1 15 = .ok (.iload_n 2, 1) := by decide +kernel
theorem dT_crossings_16 : decode kT_crossings.2.1 16 = .ok (.if_icmp .ne 5, 3) := by decide +kernel
theorem dT_crossings_19 : decode kT_crossings.2.1 19 = .ok (.iconst (-1), 1) := by decide +kernel
theorem dT_crossings_20 : decode kT_crossings.2.1 20 = .ok (.ireturn, 1) := by decide +kernel
theorem dT_crossings_21 : decode kT_crossings.2.1 21 = .ok (.aload_n 0, 1) := by decide +kernel
theorem dT_crossings_22 : decode kT_crossings.2.1 22 = .ok (.iload_n 1, 1) := by decide +kernel
theorem dT_crossings_23 : decode kT_crossings.2.1 23 = .ok (.iload_n 2, 1) := by decide +kernel
theorem dT_crossings_24 : decode kT_crossings.2.1 24 = .ok (.invokevirtual 131, 3) := by decide +kernel
theorem dT_crossings_27 : decode kT_crossings.2.1 27 = .ok (.aload_n 0, 1) := by decide +kernel
theorem dT_crossings_28 : decode kT_crossings.2.1 28 = .ok (.getfield 125, 3) := by decide +kernel
theorem dT_crossings_31 : decode kT_crossings.2.1 31 = .ok (.ireturn, 1) := by decide +kernel
theorem dT_crossing_0 : decode kT_crossing.2.1 0 = .ok (.iload_n 1, 1) := by decide +kernel
theorem dT_crossing_1 : decode kT_crossing.2.1 1 = .ok (.invokestatic 72, 3) := by decide +kernel
theorem dT_crossing_4 : decode kT_crossing.2.1 4 = .ok (.ifCond .eq 19, 3) := by decide +kernel
theorem dT_crossing_7 : decode kT_crossing.2.1 7 = .ok (.iload_n 2, 1) := by decide +kernel
theorem dT_crossing_8 : decode kT_crossing.2.1 8 = .ok (.invokestatic 72, 3) := by decide +kernel
theorem dT_crossing_11 : decode kT_crossing.2.1 11 = .ok (.ifCond .eq 12, 3) := by decide +kernel
theorem dT_crossing_14 : decode kT_crossing.2.1 14 = .ok (.iload_n 1, 1) := by decide +kernel
theorem dT_crossing_15 : decode kT_crossing.2.1 15 = .ok (.iload_n 2, 1) := by decide +kernel
theorem dT_crossing_16 : decode kT_crossing.2.1 16 = .ok (.if_icmp .eq 7, 3) := by decide +kernel
theorem dT_crossing_19 : decode kT_crossing.2.1 19 = .ok (.iload_n 3, 1) := by decide +kernel
theorem dT_crossing_20 : decode kT_crossing.2.1 20 = .ok (.ifCond .ge 5, 3) := by decide +kernel
theorem dT_crossing_23 : decode kT_crossing.2.1 23 = .ok (.iconst (-1), 1) := by decide +kernel
theorem dT_crossing_24 : decode kT_crossing.2.1 24 = .ok (.ireturn, 1) := by decide +kernel
theorem dT_crossing_25 : decode kT_crossing.2.1 25 = .ok (.aload_n 0, 1) := by decide +kernel
theorem dT_crossing_26 : decode kT_crossing.2.1 26 = .ok (.iload_n 1, 1) := by decide +kernel
theorem dT_crossing_27 : decode kT_crossing.2.1 27 = .ok (.iload_n 2, 1) := by decide +kernel
theorem dT_crossing_28 : decode kT_crossing.2.1 28 = .ok (.invokevirtual 131, 3) := by decide +kernel
theorem dT_crossing_31 : decode kT_crossing.2.1 31 = .ok (.iload_n 3, 1) := by decide +kernel
theorem dT_crossing_32 : decode kT_crossing.2.1 32 = .ok (.aload_n 0, 1) := by decide +kernel
theorem dT_crossing_33 : decode kT_crossing.2.1 33 = .ok (.getfield 125, 3) := by decide +kernel
theorem dT_crossing_36 : decode kT_crossing.2.1 36 = .ok (.if_icmp .ge 12, 3) := by decide +kernel
theorem dT_crossing_39 : decode kT_crossing.2.1 39 = .ok (.aload_n 0, 1) := by decide +kernel
theorem dT_crossing_40 : decode kT_crossing.2.1 40 = .ok (.getfield 47, 3) := by decide +kernel
theorem dT_crossing_43 : decode kT_crossing.2.1 43 = .ok (.iload_n 3, 1) := by decide +kernel
theorem dT_crossing_44 : decode kT_crossing.2.1 44 = .ok (.iaload, 1) := by decide +kernel
theorem dT_crossing_45 : decode kT_crossing.2.1 45 = .ok (.goto 4, 3) := by decide +kernel
theorem dT_crossing_48 : decode kT_crossing.2.1 48 = .ok (.iconst (-1), 1) := by decide +kernel
theorem dT_crossing_49 : decode kT_crossing.2.1 49 = .ok (.ireturn, 1) := by decide +kernel
theorem dT_ends_0 : decode kT_ends.2.1 0 = .ok (.iconst 0, 1) := by decide +kernel
theorem dT_ends_1 : decode kT_ends.2.1 1 = .ok (.istore_n 1, 1) := by decide +kernel
theorem dT_ends_2 : decode kT_ends.2.1 2 = .ok (.iconst 0, 1) := by decide +kernel
theorem dT_ends_3 : decode kT_ends.2.1 3 = .ok (.istore_n 2, 1) := by decide +kernel
theorem dT_ends_4 : decode kT_ends.2.1 4 = .ok (.iload_n 2, 1) := by decide +kernel
theorem dT_ends_5 : decode kT_ends.2.1 5 = .ok (.iconst 4, 1) := by decide +kernel
theorem dT_ends_6 : decode kT_ends.2.1 6 = .ok (.if_icmp .ge 87, 3) := by decide +kernel
theorem dT_ends_9 : decode kT_ends.2.1 9 = .ok (.iconst 0, 1) := by decide +kernel
theorem dT_ends_10 : decode kT_ends.2.1 10 = .ok (.istore_n 3, 1) := by decide +kernel
theorem dT_ends_11 : decode kT_ends.2.1 11 = .ok (.iload_n 3, 1) := by decide +kernel
theorem dT_ends_12 : decode kT_ends.2.1 12 = .ok (.aload_n 0, 1) := by decide +kernel
theorem dT_ends_13 : decode kT_ends.2.1 13 = .ok (.getfield 7, 3) := by decide +kernel
theorem dT_ends_16 : decode kT_ends.2.1 16 = .ok (.iload_n 2, 1) := by decide +kernel
theorem dT_ends_17 : decode kT_ends.2.1 17 = .ok (.iaload, 1) := by decide +kernel
theorem dT_ends_18 : decode kT_ends.2.1 18 = .ok (.if_icmp .ge 69, 3) := by decide +kernel
theorem dT_ends_21 : decode kT_ends.2.1 21 = .ok (.aload_n 0, 1) := by decide +kernel
theorem dT_ends_22 : decode kT_ends.2.1 22 = .ok (.iload_n 2, 1) := by decide +kernel
theorem dT_ends_23 : decode kT_ends.2.1 23 = .ok (.iload_n 3, 1) := by decide +kernel
theorem dT_ends_24 : decode kT_ends.2.1 24 = .ok (.invokevirtual 91, 3) := by decide +kernel
theorem dT_ends_27 : decode kT_ends.2.1 27 = .ok (.ifCond .ne 6, 3) := by decide +kernel
theorem dT_ends_30 : decode kT_ends.2.1 30 = .ok (.goto 51, 3) := by decide +kernel
theorem dT_ends_33 : decode kT_ends.2.1 33 = .ok (.aload_n 0, 1) := by decide +kernel
theorem dT_ends_34 : decode kT_ends.2.1 34 = .ok (.iload_n 2, 1) := by decide +kernel
theorem dT_ends_35 : decode kT_ends.2.1 35 = .ok (.iload_n 3, 1) := by decide +kernel
theorem dT_ends_36 : decode kT_ends.2.1 36 = .ok (.invokevirtual 88, 3) := by decide +kernel
theorem dT_ends_39 : decode kT_ends.2.1 39 = .ok (.istore 4, 2) := by decide +kernel
theorem dT_ends_41 : decode kT_ends.2.1 41 = .ok (.iload_n 1, 1) := by decide +kernel
theorem dT_ends_42 : decode kT_ends.2.1 42 = .ok (.ifCond .eq 12, 3) := by decide +kernel
theorem dT_ends_45 : decode kT_ends.2.1 45 = .ok (.iload 4, 2) := by decide +kernel
theorem dT_ends_47 : decode kT_ends.2.1 47 = .ok (.aload_n 0, 1) := by decide +kernel
theorem dT_ends_48 : decode kT_ends.2.1 48 = .ok (.getfield 135, 3) := by decide +kernel
theorem dT_ends_51 : decode kT_ends.2.1 51 = .ok (.if_icmp .ge 9, 3) := by decide +kernel
theorem dT_ends_54 : decode kT_ends.2.1 54 = .ok (.aload_n 0, 1) := by decide +kernel
theorem dT_ends_55 : decode kT_ends.2.1 55 = .ok (.iload 4, 2) := by decide +kernel
theorem dT_ends_57 : decode kT_ends.2.1 57 = .ok (.putfield 135, 3) := by decide +kernel
theorem dT_ends_60 : decode kT_ends.2.1 60 = .ok (.iload_n 1, 1) := by decide +kernel
theorem dT_ends_61 : decode kT_ends.2.1 61 = .ok (.ifCond .eq 12, 3) := by decide +kernel
theorem dT_ends_64 : decode kT_ends.2.1 64 = .ok (.iload 4, 2) := by decide +kernel
theorem dT_ends_66 : decode kT_ends.2.1 66 = .ok (.aload_n 0, 1) := by decide +kernel
theorem dT_ends_67 : decode kT_ends.2.1 67 = .ok (.getfield 138, 3) := by decide +kernel
theorem dT_ends_70 : decode kT_ends.2.1 70 = .ok (.if_icmp .le 9, 3) := by decide +kernel
theorem dT_ends_73 : decode kT_ends.2.1 73 = .ok (.aload_n 0, 1) := by decide +kernel
theorem dT_ends_74 : decode kT_ends.2.1 74 = .ok (.iload 4, 2) := by decide +kernel
theorem dT_ends_76 : decode kT_ends.2.1 76 = .ok (.putfield 138, 3) := by decide +kernel
theorem dT_ends_79 : decode kT_ends.2.1 79 = .ok (.iconst 1, 1) := by decide +kernel
theorem dT_ends_80 : decode kT_ends.2.1 80 = .ok (.istore_n 1, 1) := by decide +kernel
theorem dT_ends_81 : decode kT_ends.2.1 81 = .ok (.iinc 3 1, 3) := by decide +kernel
theorem dT_ends_84 : decode kT_ends.2.1 84 = .ok (.goto (-73), 3) := by decide +kernel
theorem dT_ends_87 : decode kT_ends.2.1 87 = .ok (.iinc 2 1, 3) := by decide +kernel
theorem dT_ends_90 : decode kT_ends.2.1 90 = .ok (.goto (-86), 3) := by decide +kernel
theorem dT_ends_93 : decode kT_ends.2.1 93 = .ok (.iload_n 1, 1) := by decide +kernel
theorem dT_ends_94 : decode kT_ends.2.1 94 = .ok (.ireturn, 1) := by decide +kernel
theorem dT_scale_0 : decode kT_scale.2.1 0 = .ok (.iload_n 1, 1) := by decide +kernel
theorem dT_scale_1 : decode kT_scale.2.1 1 = .ok (.iconst 1, 1) := by decide +kernel
theorem dT_scale_2 : decode kT_scale.2.1 2 = .ok (.sipush 2000, 3) := by decide +kernel
theorem dT_scale_5 : decode kT_scale.2.1 5 = .ok (.invokestatic 80, 3) := by decide +kernel
theorem dT_scale_8 : decode kT_scale.2.1 8 = .ok (.ifCond .eq 13, 3) := by decide +kernel
theorem dT_scale_11 : decode kT_scale.2.1 11 = .ok (.iload_n 2, 1) := by decide +kernel
theorem dT_scale_12 : decode kT_scale.2.1 12 = .ok (.iconst 1, 1) := by decide +kernel
theorem dT_scale_13 : decode kT_scale.2.1 13 = .ok (.bipush 20, 2) := by decide +kernel
theorem dT_scale_15 : decode kT_scale.2.1 15 = .ok (.invokestatic 80, 3) := by decide +kernel
theorem dT_scale_18 : decode kT_scale.2.1 18 = .ok (.ifCond .ne 5, 3) := by decide +kernel
theorem dT_scale_21 : decode kT_scale.2.1 21 = .ok (.iconst (-1), 1) := by decide +kernel
theorem dT_scale_22 : decode kT_scale.2.1 22 = .ok (.ireturn, 1) := by decide +kernel
theorem dT_scale_23 : decode kT_scale.2.1 23 = .ok (.iload_n 1, 1) := by decide +kernel
theorem dT_scale_24 : decode kT_scale.2.1 24 = .ok (.iload_n 2, 1) := by decide +kernel
theorem dT_scale_25 : decode kT_scale.2.1 25 = .ok (.idiv, 1) := by decide +kernel
theorem dT_scale_26 : decode kT_scale.2.1 26 = .ok (.istore_n 3, 1) := by decide +kernel
theorem dT_scale_27 : decode kT_scale.2.1 27 = .ok (.aload_n 0, 1) := by decide +kernel
theorem dT_scale_28 : decode kT_scale.2.1 28 = .ok (.invokevirtual 141, 3) := by decide +kernel
theorem dT_scale_31 : decode kT_scale.2.1 31 = .ok (.ifCond .eq 25, 3) := by decide +kernel
theorem dT_scale_34 : decode kT_scale.2.1 34 = .ok (.iload_n 3, 1) := by decide +kernel
theorem dT_scale_35 : decode kT_scale.2.1 35 = .ok (.ifCond .eq 21, 3) := by decide +kernel
theorem dT_scale_38 : decode kT_scale.2.1 38 = .ok (.aload_n 0, 1) := by decide +kernel
theorem dT_scale_39 : decode kT_scale.2.1 39 = .ok (.getfield 138, 3) := by decide +kernel
theorem dT_scale_42 : decode kT_scale.2.1 42 = .ok (.aload_n 0, 1) := by decide +kernel
theorem dT_scale_43 : decode kT_scale.2.1 43 = .ok (.getfield 135, 3) := by decide +kernel
theorem dT_scale_46 : decode kT_scale.2.1 46 = .ok (.isub, 1) := by decide +kernel
theorem dT_scale_47 : decode kT_scale.2.1 47 = .ok (.iload_n 3, 1) := by decide +kernel
theorem dT_scale_48 : decode kT_scale.2.1 48 = .ok (.idiv, 1) := by decide +kernel
theorem dT_scale_49 : decode kT_scale.2.1 49 = .ok (.iconst 1, 1) := by decide +kernel
theorem dT_scale_50 : decode kT_scale.2.1 50 = .ok (.iadd, 1) := by decide +kernel
theorem dT_scale_51 : decode kT_scale.2.1 51 = .ok (.bipush 60, 2) := by decide +kernel
theorem dT_scale_53 : decode kT_scale.2.1 53 = .ok (.if_icmp .le 6, 3) := by decide +kernel
theorem dT_scale_56 : decode kT_scale.2.1 56 = .ok (.bipush (-2), 2) := by decide +kernel
theorem dT_scale_58 : decode kT_scale.2.1 58 = .ok (.ireturn, 1) := by decide +kernel
theorem dT_scale_59 : decode kT_scale.2.1 59 = .ok (.aload_n 0, 1) := by decide +kernel
theorem dT_scale_60 : decode kT_scale.2.1 60 = .ok (.iload_n 3, 1) := by decide +kernel
theorem dT_scale_61 : decode kT_scale.2.1 61 = .ok (.putfield 145, 3) := by decide +kernel
theorem dT_scale_64 : decode kT_scale.2.1 64 = .ok (.iload_n 3, 1) := by decide +kernel
theorem dT_scale_65 : decode kT_scale.2.1 65 = .ok (.ireturn, 1) := by decide +kernel
theorem dT_height_0 : decode kT_height.2.1 0 = .ok (.aload_n 0, 1) := by decide +kernel
theorem dT_height_1 : decode kT_height.2.1 1 = .ok (.getfield 145, 3) := by decide +kernel
theorem dT_height_4 : decode kT_height.2.1 4 = .ok (.ifCond .eq 12, 3) := by decide +kernel
theorem dT_height_7 : decode kT_height.2.1 7 = .ok (.aload_n 0, 1) := by decide +kernel
theorem dT_height_8 : decode kT_height.2.1 8 = .ok (.iload_n 1, 1) := by decide +kernel
theorem dT_height_9 : decode kT_height.2.1 9 = .ok (.iload_n 2, 1) := by decide +kernel
theorem dT_height_10 : decode kT_height.2.1 10 = .ok (.invokevirtual 91, 3) := by decide +kernel
theorem dT_height_13 : decode kT_height.2.1 13 = .ok (.ifCond .ne 5, 3) := by decide +kernel
theorem dT_height_16 : decode kT_height.2.1 16 = .ok (.iconst (-1), 1) := by decide +kernel
theorem dT_height_17 : decode kT_height.2.1 17 = .ok (.ireturn, 1) := by decide +kernel
theorem dT_height_18 : decode kT_height.2.1 18 = .ok (.aload_n 0, 1) := by decide +kernel
theorem dT_height_19 : decode kT_height.2.1 19 = .ok (.invokevirtual 141, 3) := by decide +kernel
theorem dT_height_22 : decode kT_height.2.1 22 = .ok (.pop, 1) := by decide +kernel
theorem dT_height_23 : decode kT_height.2.1 23 = .ok (.aload_n 0, 1) := by decide +kernel
theorem dT_height_24 : decode kT_height.2.1 24 = .ok (.iload_n 1, 1) := by decide +kernel
theorem dT_height_25 : decode kT_height.2.1 25 = .ok (.iload_n 2, 1) := by decide +kernel
theorem dT_height_26 : decode kT_height.2.1 26 = .ok (.invokevirtual 88, 3) := by decide +kernel
theorem dT_height_29 : decode kT_height.2.1 29 = .ok (.aload_n 0, 1) := by decide +kernel
theorem dT_height_30 : decode kT_height.2.1 30 = .ok (.getfield 135, 3) := by decide +kernel
theorem dT_height_33 : decode kT_height.2.1 33 = .ok (.isub, 1) := by decide +kernel
theorem dT_height_34 : decode kT_height.2.1 34 = .ok (.aload_n 0, 1) := by decide +kernel
theorem dT_height_35 : decode kT_height.2.1 35 = .ok (.getfield 145, 3) := by decide +kernel
theorem dT_height_38 : decode kT_height.2.1 38 = .ok (.idiv, 1) := by decide +kernel
theorem dT_height_39 : decode kT_height.2.1 39 = .ok (.ireturn, 1) := by decide +kernel
theorem dT_ear_0 : decode kT_ear.2.1 0 = .ok (.iload_n 1, 1) := by decide +kernel
theorem dT_ear_1 : decode kT_ear.2.1 1 = .ok (.iconst 0, 1) := by decide +kernel
theorem dT_ear_2 : decode kT_ear.2.1 2 = .ok (.bipush 60, 2) := by decide +kernel
theorem dT_ear_4 : decode kT_ear.2.1 4 = .ok (.invokestatic 80, 3) := by decide +kernel
theorem dT_ear_7 : decode kT_ear.2.1 7 = .ok (.ifCond .eq 13, 3) := by decide +kernel
theorem dT_ear_10 : decode kT_ear.2.1 10 = .ok (.iload_n 2, 1) := by decide +kernel
theorem dT_ear_11 : decode kT_ear.2.1 11 = .ok (.iconst 0, 1) := by decide +kernel
theorem dT_ear_12 : decode kT_ear.2.1 12 = .ok (.bipush 100, 2) := by decide +kernel
theorem dT_ear_14 : decode kT_ear.2.1 14 = .ok (.invokestatic 80, 3) := by decide +kernel
theorem dT_ear_17 : decode kT_ear.2.1 17 = .ok (.ifCond .ne 5, 3) := by decide +kernel
theorem dT_ear_20 : decode kT_ear.2.1 20 = .ok (.iconst 0, 1) := by decide +kernel
theorem dT_ear_21 : decode kT_ear.2.1 21 = .ok (.ireturn, 1) := by decide +kernel
theorem dT_ear_22 : decode kT_ear.2.1 22 = .ok (.aload_n 0, 1) := by decide +kernel
theorem dT_ear_23 : decode kT_ear.2.1 23 = .ok (.iload_n 1, 1) := by decide +kernel
theorem dT_ear_24 : decode kT_ear.2.1 24 = .ok (.putfield 50, 3) := by decide +kernel
theorem dT_ear_27 : decode kT_ear.2.1 27 = .ok (.aload_n 0, 1) := by decide +kernel
theorem dT_ear_28 : decode kT_ear.2.1 28 = .ok (.iload_n 2, 1) := by decide +kernel
theorem dT_ear_29 : decode kT_ear.2.1 29 = .ok (.putfield 53, 3) := by decide +kernel
theorem dT_ear_32 : decode kT_ear.2.1 32 = .ok (.iconst 1, 1) := by decide +kernel
theorem dT_ear_33 : decode kT_ear.2.1 33 = .ok (.ireturn, 1) := by decide +kernel
theorem dT_worth_0 : decode kT_worth.2.1 0 = .ok (.iload_n 1, 1) := by decide +kernel
theorem dT_worth_1 : decode kT_worth.2.1 1 = .ok (.invokestatic 72, 3) := by decide +kernel
theorem dT_worth_4 : decode kT_worth.2.1 4 = .ok (.ifCond .eq 14, 3) := by decide +kernel
theorem dT_worth_7 : decode kT_worth.2.1 7 = .ok (.iload_n 2, 1) := by decide +kernel
theorem dT_worth_8 : decode kT_worth.2.1 8 = .ok (.iconst 0, 1) := by decide +kernel
theorem dT_worth_9 : decode kT_worth.2.1 9 = .ok (.sipush 1000, 3) := by decide +kernel
theorem dT_worth_12 : decode kT_worth.2.1 12 = .ok (.invokestatic 80, 3) := by decide +kernel
theorem dT_worth_15 : decode kT_worth.2.1 15 = .ok (.ifCond .ne 5, 3) := by decide +kernel
theorem dT_worth_18 : decode kT_worth.2.1 18 = .ok (.iconst (-1), 1) := by decide +kernel
theorem dT_worth_19 : decode kT_worth.2.1 19 = .ok (.ireturn, 1) := by decide +kernel
theorem dT_worth_20 : decode kT_worth.2.1 20 = .ok (.aload_n 0, 1) := by decide +kernel
theorem dT_worth_21 : decode kT_worth.2.1 21 = .ok (.getfield 19, 3) := by decide +kernel
theorem dT_worth_24 : decode kT_worth.2.1 24 = .ok (.iload_n 1, 1) := by decide +kernel
theorem dT_worth_25 : decode kT_worth.2.1 25 = .ok (.iaload, 1) := by decide +kernel
theorem dT_worth_26 : decode kT_worth.2.1 26 = .ok (.istore_n 3, 1) := by decide +kernel
theorem dT_worth_27 : decode kT_worth.2.1 27 = .ok (.aload_n 0, 1) := by decide +kernel
theorem dT_worth_28 : decode kT_worth.2.1 28 = .ok (.getfield 19, 3) := by decide +kernel
theorem dT_worth_31 : decode kT_worth.2.1 31 = .ok (.iload_n 1, 1) := by decide +kernel
theorem dT_worth_32 : decode kT_worth.2.1 32 = .ok (.iload_n 2, 1) := by decide +kernel
theorem dT_worth_33 : decode kT_worth.2.1 33 = .ok (.iastore, 1) := by decide +kernel
theorem dT_worth_34 : decode kT_worth.2.1 34 = .ok (.iload_n 3, 1) := by decide +kernel
theorem dT_worth_35 : decode kT_worth.2.1 35 = .ok (.ireturn, 1) := by decide +kernel
theorem dT_isLaid_0 : decode kT_isLaid.2.1 0 = .ok (.iconst 0, 1) := by decide +kernel
theorem dT_isLaid_1 : decode kT_isLaid.2.1 1 = .ok (.istore_n 2, 1) := by decide +kernel
theorem dT_isLaid_2 : decode kT_isLaid.2.1 2 = .ok (.iload_n 2, 1) := by decide +kernel
theorem dT_isLaid_3 : decode kT_isLaid.2.1 3 = .ok (.iconst 4, 1) := by decide +kernel
theorem dT_isLaid_4 : decode kT_isLaid.2.1 4 = .ok (.if_icmp .ge 95, 3) := by decide +kernel
theorem dT_isLaid_7 : decode kT_isLaid.2.1 7 = .ok (.aload_n 0, 1) := by decide +kernel
theorem dT_isLaid_8 : decode kT_isLaid.2.1 8 = .ok (.getfield 56, 3) := by decide +kernel
theorem dT_isLaid_11 : decode kT_isLaid.2.1 11 = .ok (.iload_n 2, 1) := by decide +kernel
theorem dT_isLaid_12 : decode kT_isLaid.2.1 12 = .ok (.iaload, 1) := by decide +kernel
theorem dT_isLaid_13 : decode kT_isLaid.2.1 13 = .ok (.iconst 4, 1) := by decide +kernel
theorem dT_isLaid_14 : decode kT_isLaid.2.1 14 = .ok (.if_icmp .eq 79, 3) := by decide +kernel
theorem dT_isLaid_17 : decode kT_isLaid.2.1 17 = .ok (.aload_n 0, 1) := by decide +kernel
theorem dT_isLaid_18 : decode kT_isLaid.2.1 18 = .ok (.iload_n 2, 1) := by decide +kernel
theorem dT_isLaid_19 : decode kT_isLaid.2.1 19 = .ok (.iload_n 1, 1) := by decide +kernel
theorem dT_isLaid_20 : decode kT_isLaid.2.1 20 = .ok (.invokevirtual 91, 3) := by decide +kernel
theorem dT_isLaid_23 : decode kT_isLaid.2.1 23 = .ok (.ifCond .ne 6, 3) := by decide +kernel
theorem dT_isLaid_26 : decode kT_isLaid.2.1 26 = .ok (.goto 67, 3) := by decide +kernel
theorem dT_isLaid_29 : decode kT_isLaid.2.1 29 = .ok (.iload_n 2, 1) := by decide +kernel
theorem dT_isLaid_30 : decode kT_isLaid.2.1 30 = .ok (.iconst 1, 1) := by decide +kernel
theorem dT_isLaid_31 : decode kT_isLaid.2.1 31 = .ok (.iadd, 1) := by decide +kernel
theorem dT_isLaid_32 : decode kT_isLaid.2.1 32 = .ok (.istore_n 3, 1) := by decide +kernel
theorem dT_isLaid_33 : decode kT_isLaid.2.1 33 = .ok (.iload_n 3, 1) := by decide +kernel
theorem dT_isLaid_34 : decode kT_isLaid.2.1 34 = .ok (.iconst 4, 1) := by decide +kernel
theorem dT_isLaid_35 : decode kT_isLaid.2.1 35 = .ok (.if_icmp .ge 58, 3) := by decide +kernel
theorem dT_isLaid_38 : decode kT_isLaid.2.1 38 = .ok (.aload_n 0, 1) := by decide +kernel
theorem dT_isLaid_39 : decode kT_isLaid.2.1 39 = .ok (.iload_n 3, 1) := by decide +kernel
theorem dT_isLaid_40 : decode kT_isLaid.2.1 40 = .ok (.iload_n 1, 1) := by decide +kernel
theorem dT_isLaid_41 : decode kT_isLaid.2.1 41 = .ok (.invokevirtual 91, 3) := by decide +kernel
theorem dT_isLaid_44 : decode kT_isLaid.2.1 44 = .ok (.ifCond .eq 43, 3) := by decide +kernel
theorem dT_isLaid_47 : decode kT_isLaid.2.1 47 = .ok (.aload_n 0, 1) := by decide +kernel
theorem dT_isLaid_48 : decode kT_isLaid.2.1 48 = .ok (.getfield 56, 3) := by decide +kernel
theorem dT_isLaid_51 : decode kT_isLaid.2.1 51 = .ok (.iload_n 3, 1) := by decide +kernel
theorem dT_isLaid_52 : decode kT_isLaid.2.1 52 = .ok (.iaload, 1) := by decide +kernel
theorem dT_isLaid_53 : decode kT_isLaid.2.1 53 = .ok (.aload_n 0, 1) := by decide +kernel
theorem dT_isLaid_54 : decode kT_isLaid.2.1 54 = .ok (.getfield 56, 3) := by decide +kernel
theorem dT_isLaid_57 : decode kT_isLaid.2.1 57 = .ok (.iload_n 2, 1) := by decide +kernel
theorem dT_isLaid_58 : decode kT_isLaid.2.1 58 = .ok (.iaload, 1) := by decide +kernel
theorem dT_isLaid_59 : decode kT_isLaid.2.1 59 = .ok (.if_icmp .ne 28, 3) := by decide +kernel
theorem dT_isLaid_62 : decode kT_isLaid.2.1 62 = .ok (.aload_n 0, 1) := by decide +kernel
theorem dT_isLaid_63 : decode kT_isLaid.2.1 63 = .ok (.getfield 62, 3) := by decide +kernel
theorem dT_isLaid_66 : decode kT_isLaid.2.1 66 = .ok (.iload_n 2, 1) := by decide +kernel
theorem dT_isLaid_67 : decode kT_isLaid.2.1 67 = .ok (.iaload, 1) := by decide +kernel
theorem dT_isLaid_68 : decode kT_isLaid.2.1 68 = .ok (.aload_n 0, 1) := by decide +kernel
theorem dT_isLaid_69 : decode kT_isLaid.2.1 69 = .ok (.getfield 62, 3) := by decide +kernel
theorem dT_isLaid_72 : decode kT_isLaid.2.1 72 = .ok (.iload_n 3, 1) := by decide +kernel
theorem dT_isLaid_73 : decode kT_isLaid.2.1 73 = .ok (.iaload, 1) := by decide +kernel
theorem dT_isLaid_74 : decode kT_isLaid.2.1 74 = .ok (.isub, 1) := by decide +kernel
theorem dT_isLaid_75 : decode kT_isLaid.2.1 75 = .ok (.invokestatic 118, 3) := by decide +kernel
theorem dT_isLaid_78 : decode kT_isLaid.2.1 78 = .ok (.aload_n 0, 1) := by decide +kernel
theorem dT_isLaid_79 : decode kT_isLaid.2.1 79 = .ok (.getfield 50, 3) := by decide +kernel
theorem dT_isLaid_82 : decode kT_isLaid.2.1 82 = .ok (.if_icmp .ge 5, 3) := by decide +kernel
theorem dT_isLaid_85 : decode kT_isLaid.2.1 85 = .ok (.iconst 0, 1) := by decide +kernel
theorem dT_isLaid_86 : decode kT_isLaid.2.1 86 = .ok (.ireturn, 1) := by decide +kernel
theorem dT_isLaid_87 : decode kT_isLaid.2.1 87 = .ok (.iinc 3 1, 3) := by decide +kernel
theorem dT_isLaid_90 : decode kT_isLaid.2.1 90 = .ok (.goto (-57), 3) := by decide +kernel
theorem dT_isLaid_93 : decode kT_isLaid.2.1 93 = .ok (.iinc 2 1, 3) := by decide +kernel
theorem dT_isLaid_96 : decode kT_isLaid.2.1 96 = .ok (.goto (-94), 3) := by decide +kernel
theorem dT_isLaid_99 : decode kT_isLaid.2.1 99 = .ok (.iconst 1, 1) := by decide +kernel
theorem dT_isLaid_100 : decode kT_isLaid.2.1 100 = .ok (.ireturn, 1) := by decide +kernel
theorem dT_slotCost_0 : decode kT_slotCost.2.1 0 = .ok (.iconst 0, 1) := by decide +kernel
theorem dT_slotCost_1 : decode kT_slotCost.2.1 1 = .ok (.istore_n 2, 1) := by decide +kernel
theorem dT_slotCost_2 : decode kT_slotCost.2.1 2 = .ok (.iconst 0, 1) := by decide +kernel
theorem dT_slotCost_3 : decode kT_slotCost.2.1 3 = .ok (.istore_n 3, 1) := by decide +kernel
theorem dT_slotCost_4 : decode kT_slotCost.2.1 4 = .ok (.iload_n 3, 1) := by decide +kernel
theorem dT_slotCost_5 : decode kT_slotCost.2.1 5 = .ok (.iconst 4, 1) := by decide +kernel
theorem dT_slotCost_6 : decode kT_slotCost.2.1 6 = .ok (.if_icmp .ge 51, 3) := by decide +kernel
theorem dT_slotCost_9 : decode kT_slotCost.2.1 9 = .ok (.aload_n 0, 1) := by decide +kernel
theorem dT_slotCost_10 : decode kT_slotCost.2.1 10 = .ok (.iload_n 3, 1) := by decide +kernel
theorem dT_slotCost_11 : decode kT_slotCost.2.1 11 = .ok (.iload_n 1, 1) := by decide +kernel
theorem dT_slotCost_12 : decode kT_slotCost.2.1 12 = .ok (.invokevirtual 91, 3) := by decide +kernel
theorem dT_slotCost_15 : decode kT_slotCost.2.1 15 = .ok (.ifCond .eq 36, 3) := by decide +kernel
theorem dT_slotCost_18 : decode kT_slotCost.2.1 18 = .ok (.iload_n 2, 1) := by decide +kernel
theorem dT_slotCost_19 : decode kT_slotCost.2.1 19 = .ok (.aload_n 0, 1) := by decide +kernel
theorem dT_slotCost_20 : decode kT_slotCost.2.1 20 = .ok (.getfield 56, 3) := by decide +kernel
theorem dT_slotCost_23 : decode kT_slotCost.2.1 23 = .ok (.iload_n 3, 1) := by decide +kernel
theorem dT_slotCost_24 : decode kT_slotCost.2.1 24 = .ok (.iaload, 1) := by decide +kernel
theorem dT_slotCost_25 : decode kT_slotCost.2.1 25 = .ok (.iconst 4, 1) := by decide +kernel
theorem dT_slotCost_26 : decode kT_slotCost.2.1 26 = .ok (.if_icmp .ne 12, 3) := by decide +kernel
theorem dT_slotCost_29 : decode kT_slotCost.2.1 29 = .ok (.aload_n 0, 1) := by decide +kernel
theorem dT_slotCost_30 : decode kT_slotCost.2.1 30 = .ok (.getfield 19, 3) := by decide +kernel
theorem dT_slotCost_33 : decode kT_slotCost.2.1 33 = .ok (.iload_n 3, 1) := by decide +kernel
theorem dT_slotCost_34 : decode kT_slotCost.2.1 34 = .ok (.iaload, 1) := by decide +kernel
theorem dT_slotCost_35 : decode kT_slotCost.2.1 35 = .ok (.goto 14, 3) := by decide +kernel
theorem dT_slotCost_38 : decode kT_slotCost.2.1 38 = .ok (.aload_n 0, 1) := by decide +kernel
theorem dT_slotCost_39 : decode kT_slotCost.2.1 39 = .ok (.getfield 56, 3) := by decide +kernel
theorem dT_slotCost_42 : decode kT_slotCost.2.1 42 = .ok (.iload_n 3, 1) := by decide +kernel
theorem dT_slotCost_43 : decode kT_slotCost.2.1 43 = .ok (.iaload, 1) := by decide +kernel
theorem dT_slotCost_44 : decode kT_slotCost.2.1 44 = .ok (.aload_n 0, 1) := by decide +kernel
theorem dT_slotCost_45 : decode kT_slotCost.2.1 45 = .ok (.getfield 53, 3) := by decide +kernel
theorem dT_slotCost_48 : decode kT_slotCost.2.1 48 = .ok (.imul, 1) := by decide +kernel
theorem dT_slotCost_49 : decode kT_slotCost.2.1 49 = .ok (.iadd, 1) := by decide +kernel
theorem dT_slotCost_50 : decode kT_slotCost.2.1 50 = .ok (.istore_n 2, 1) := by decide +kernel
theorem dT_slotCost_51 : decode kT_slotCost.2.1 51 = .ok (.iinc 3 1, 3) := by decide +kernel
theorem dT_slotCost_54 : decode kT_slotCost.2.1 54 = .ok (.goto (-50), 3) := by decide +kernel
theorem dT_slotCost_57 : decode kT_slotCost.2.1 57 = .ok (.iload_n 2, 1) := by decide +kernel
theorem dT_slotCost_58 : decode kT_slotCost.2.1 58 = .ok (.ireturn, 1) := by decide +kernel
theorem dT_laying_0 : decode kT_laying.2.1 0 = .ok (.iconst 0, 1) := by decide +kernel
theorem dT_laying_1 : decode kT_laying.2.1 1 = .ok (.istore_n 2, 1) := by decide +kernel
theorem dT_laying_2 : decode kT_laying.2.1 2 = .ok (.iload_n 2, 1) := by decide +kernel
theorem dT_laying_3 : decode kT_laying.2.1 3 = .ok (.iconst 4, 1) := by decide +kernel
theorem dT_laying_4 : decode kT_laying.2.1 4 = .ok (.if_icmp .ge 21, 3) := by decide +kernel
theorem dT_laying_7 : decode kT_laying.2.1 7 = .ok (.aload_n 0, 1) := by decide +kernel
theorem dT_laying_8 : decode kT_laying.2.1 8 = .ok (.getfield 62, 3) := by decide +kernel
theorem dT_laying_11 : decode kT_laying.2.1 11 = .ok (.iload_n 2, 1) := by decide +kernel
theorem dT_laying_12 : decode kT_laying.2.1 12 = .ok (.aload_n 0, 1) := by decide +kernel
theorem dT_laying_13 : decode kT_laying.2.1 13 = .ok (.iload_n 2, 1) := by decide +kernel
theorem dT_laying_14 : decode kT_laying.2.1 14 = .ok (.iload_n 1, 1) := by decide +kernel
theorem dT_laying_15 : decode kT_laying.2.1 15 = .ok (.invokevirtual 148, 3) := by decide +kernel
theorem dT_laying_18 : decode kT_laying.2.1 18 = .ok (.iastore, 1) := by decide +kernel
theorem dT_laying_19 : decode kT_laying.2.1 19 = .ok (.iinc 2 1, 3) := by decide +kernel
theorem dT_laying_22 : decode kT_laying.2.1 22 = .ok (.goto (-20), 3) := by decide +kernel
theorem dT_laying_25 : decode kT_laying.2.1 25 = .ok (.ldc 97, 2) := by decide +kernel
theorem dT_laying_27 : decode kT_laying.2.1 27 = .ok (.istore_n 2, 1) := by decide +kernel
theorem dT_laying_28 : decode kT_laying.2.1 28 = .ok (.iconst 0, 1) := by decide +kernel
theorem dT_laying_29 : decode kT_laying.2.1 29 = .ok (.istore_n 3, 1) := by decide +kernel
theorem dT_laying_30 : decode kT_laying.2.1 30 = .ok (.iload_n 3, 1) := by decide +kernel
theorem dT_laying_31 : decode kT_laying.2.1 31 = .ok (.sipush 625, 3) := by decide +kernel
theorem dT_laying_34 : decode kT_laying.2.1 34 = .ok (.if_icmp .ge 138, 3) := by decide +kernel
theorem dT_laying_37 : decode kT_laying.2.1 37 = .ok (.iload_n 3, 1) := by decide +kernel
theorem dT_laying_38 : decode kT_laying.2.1 38 = .ok (.istore 4, 2) := by decide +kernel
theorem dT_laying_40 : decode kT_laying.2.1 40 = .ok (.iconst 1, 1) := by decide +kernel
theorem dT_laying_41 : decode kT_laying.2.1 41 = .ok (.istore 5, 2) := by decide +kernel
theorem dT_laying_43 : decode kT_laying.2.1 43 = .ok (.iconst 3, 1) := by decide +kernel
theorem dT_laying_44 : decode kT_laying.2.1 44 = .ok (.istore 6, 2) := by decide +kernel
theorem dT_laying_46 : decode kT_laying.2.1 46 = .ok (.iload 6, 2) := by decide +kernel
theorem dT_laying_48 : decode kT_laying.2.1 48 = .ok (.ifCond .lt 58, 3) := by decide +kernel
theorem dT_laying_51 : decode kT_laying.2.1 51 = .ok (.aload_n 0, 1) := by decide +kernel
theorem dT_laying_52 : decode kT_laying.2.1 52 = .ok (.getfield 56, 3) := by decide +kernel
theorem dT_laying_55 : decode kT_laying.2.1 55 = .ok (.iload 6, 2) := by decide +kernel
theorem dT_laying_57 : decode kT_laying.2.1 57 = .ok (.iload 4, 2) := by decide +kernel
theorem dT_laying_59 : decode kT_laying.2.1 59 = .ok (.iconst 5, 1) := by decide +kernel
theorem dT_laying_60 : decode kT_laying.2.1 60 = .ok (.irem, 1) := by decide +kernel
theorem dT_laying_61 : decode kT_laying.2.1 61 = .ok (.iastore, 1) := by decide +kernel
theorem dT_laying_62 : decode kT_laying.2.1 62 = .ok (.iload 4, 2) := by decide +kernel
theorem dT_laying_64 : decode kT_laying.2.1 64 = .ok (.iconst 5, 1) := by decide +kernel
theorem dT_laying_65 : decode kT_laying.2.1 65 = .ok (.idiv, 1) := by decide +kernel
theorem dT_laying_66 : decode kT_laying.2.1 66 = .ok (.istore 4, 2) := by decide +kernel
theorem dT_laying_68 : decode kT_laying.2.1 68 = .ok (.iload 5, 2) := by decide +kernel
theorem dT_laying_70 : decode kT_laying.2.1 70 = .ok (.ifCond .eq 27, 3) := by decide +kernel
theorem dT_laying_73 : decode kT_laying.2.1 73 = .ok (.aload_n 0, 1) := by decide +kernel
theorem dT_laying_74 : decode kT_laying.2.1 74 = .ok (.iload 6, 2) := by decide +kernel
theorem dT_laying_76 : decode kT_laying.2.1 76 = .ok (.iload_n 1, 1) := by decide +kernel
theorem dT_laying_77 : decode kT_laying.2.1 77 = .ok (.invokevirtual 91, 3) := by decide +kernel
theorem dT_laying_80 : decode kT_laying.2.1 80 = .ok (.ifCond .ne 13, 3) := by decide +kernel
theorem dT_laying_83 : decode kT_laying.2.1 83 = .ok (.aload_n 0, 1) := by decide +kernel
theorem dT_laying_84 : decode kT_laying.2.1 84 = .ok (.getfield 56, 3) := by decide +kernel
theorem dT_laying_87 : decode kT_laying.2.1 87 = .ok (.iload 6, 2) := by decide +kernel
theorem dT_laying_89 : decode kT_laying.2.1 89 = .ok (.iaload, 1) := by decide +kernel
theorem dT_laying_90 : decode kT_laying.2.1 90 = .ok (.ifCond .ne 7, 3) := by decide +kernel
theorem dT_laying_93 : decode kT_laying.2.1 93 = .ok (.iconst 1, 1) := by decide +kernel
theorem dT_laying_94 : decode kT_laying.2.1 94 = .ok (.goto 4, 3) := by decide +kernel
theorem dT_laying_97 : decode kT_laying.2.1 97 = .ok (.iconst 0, 1) := by decide +kernel
theorem dT_laying_98 : decode kT_laying.2.1 98 = .ok (.istore 5, 2) := by decide +kernel
theorem dT_laying_100 : decode kT_laying.2.1 100 = .ok (.iinc 6 (-1), 3) := by decide +kernel
theorem dT_laying_103 : decode kT_laying.2.1 103 = .ok (.goto (-57), 3) := by decide +kernel
theorem dT_laying_106 : decode kT_laying.2.1 106 = .ok (.iload 5, 2) := by decide +kernel
theorem dT_laying_108 : decode kT_laying.2.1 108 = .ok (.ifCond .eq 58, 3) := by decide +kernel
theorem dT_laying_111 : decode kT_laying.2.1 111 = .ok (.aload_n 0, 1) := by decide +kernel
theorem dT_laying_112 : decode kT_laying.2.1 112 = .ok (.iload_n 1, 1) := by decide +kernel
theorem dT_laying_113 : decode kT_laying.2.1 113 = .ok (.invokevirtual 151, 3) := by decide +kernel
theorem dT_laying_116 : decode kT_laying.2.1 116 = .ok (.iload_n 2, 1) := by decide +kernel
theorem dT_laying_117 : decode kT_laying.2.1 117 = .ok (.if_icmp .ge 49, 3) := by decide +kernel
theorem dT_laying_120 : decode kT_laying.2.1 120 = .ok (.aload_n 0, 1) := by decide +kernel
theorem dT_laying_121 : decode kT_laying.2.1 121 = .ok (.iload_n 1, 1) := by decide +kernel
theorem dT_laying_122 : decode kT_laying.2.1 122 = .ok (.invokevirtual 154, 3) := by decide +kernel
theorem dT_laying_125 : decode kT_laying.2.1 125 = .ok (.ifCond .ne 6, 3) := by decide +kernel
theorem dT_laying_128 : decode kT_laying.2.1 128 = .ok (.goto 38, 3) := by decide +kernel
theorem dT_laying_131 : decode kT_laying.2.1 131 = .ok (.aload_n 0, 1) := by decide +kernel
theorem dT_laying_132 : decode kT_laying.2.1 132 = .ok (.iload_n 1, 1) := by decide +kernel
theorem dT_laying_133 : decode kT_laying.2.1 133 = .ok (.invokevirtual 151, 3) := by decide +kernel
theorem dT_laying_136 : decode kT_laying.2.1 136 = .ok (.istore_n 2, 1) := by decide +kernel
theorem dT_laying_137 : decode kT_laying.2.1 137 = .ok (.iconst 0, 1) := by decide +kernel
theorem dT_laying_138 : decode kT_laying.2.1 138 = .ok (.istore 6, 2) := by decide +kernel
theorem dT_laying_140 : decode kT_laying.2.1 140 = .ok (.iload 6, 2) := by decide +kernel
theorem dT_laying_142 : decode kT_laying.2.1 142 = .ok (.iconst 4, 1) := by decide +kernel
theorem dT_laying_143 : decode kT_laying.2.1 143 = .ok (.if_icmp .ge 23, 3) := by decide +kernel
theorem dT_laying_146 : decode kT_laying.2.1 146 = .ok (.aload_n 0, 1) := by decide +kernel
theorem dT_laying_147 : decode kT_laying.2.1 147 = .ok (.getfield 59, 3) := by decide +kernel
theorem dT_laying_150 : decode kT_laying.2.1 150 = .ok (.iload 6, 2) := by decide +kernel
theorem dT_laying_152 : decode kT_laying.2.1 152 = .ok (.aload_n 0, 1) := by decide +kernel
theorem dT_laying_153 : decode kT_laying.2.1 153 = .ok (.getfield 56, 3) := by decide +kernel
theorem dT_laying_156 : decode kT_laying.2.1 156 = .ok (.iload 6, 2) := by decide +kernel
theorem dT_laying_158 : decode kT_laying.2.1 158 = .ok (.iaload, 1) := by decide +kernel
theorem dT_laying_159 : decode kT_laying.2.1 159 = .ok (.iastore, 1) := by decide +kernel
theorem dT_laying_160 : decode kT_laying.2.1 160 = .ok (.iinc 6 1, 3) := by decide +kernel
theorem dT_laying_163 : decode kT_laying.2.1 163 = .ok (.goto (-23), 3) := by decide +kernel
theorem dT_laying_166 : decode kT_laying.2.1 166 = .ok (.iinc 3 1, 3) := by decide +kernel
theorem dT_laying_169 : decode kT_laying.2.1 169 = .ok (.goto (-139), 3) := by decide +kernel
theorem dT_laying_172 : decode kT_laying.2.1 172 = .ok (.iload_n 2, 1) := by decide +kernel
theorem dT_laying_173 : decode kT_laying.2.1 173 = .ok (.ireturn, 1) := by decide +kernel
theorem dT_lay_0 : decode kT_lay.2.1 0 = .ok (.aload_n 0, 1) := by decide +kernel
theorem dT_lay_1 : decode kT_lay.2.1 1 = .ok (.getfield 145, 3) := by decide +kernel
theorem dT_lay_4 : decode kT_lay.2.1 4 = .ok (.ifCond .eq 13, 3) := by decide +kernel
theorem dT_lay_7 : decode kT_lay.2.1 7 = .ok (.iload_n 1, 1) := by decide +kernel
theorem dT_lay_8 : decode kT_lay.2.1 8 = .ok (.ifCond .lt 9, 3) := by decide +kernel
theorem dT_lay_11 : decode kT_lay.2.1 11 = .ok (.iload_n 1, 1) := by decide +kernel
theorem dT_lay_12 : decode kT_lay.2.1 12 = .ok (.bipush 40, 2) := by decide +kernel
theorem dT_lay_14 : decode kT_lay.2.1 14 = .ok (.if_icmp .lt 7, 3) := by decide +kernel
theorem dT_lay_17 : decode kT_lay.2.1 17 = .ok (.iconst (-1), 1) := by decide +kernel
theorem dT_lay_18 : decode kT_lay.2.1 18 = .ok (.goto 8, 3) := by decide +kernel
theorem dT_lay_21 : decode kT_lay.2.1 21 = .ok (.aload_n 0, 1) := by decide +kernel
theorem dT_lay_22 : decode kT_lay.2.1 22 = .ok (.iload_n 1, 1) := by decide +kernel
theorem dT_lay_23 : decode kT_lay.2.1 23 = .ok (.invokevirtual 157, 3) := by decide +kernel
theorem dT_lay_26 : decode kT_lay.2.1 26 = .ok (.ireturn, 1) := by decide +kernel
theorem dT_slot_0 : decode kT_slot.2.1 0 = .ok (.aload_n 0, 1) := by decide +kernel
theorem dT_slot_1 : decode kT_slot.2.1 1 = .ok (.getfield 145, 3) := by decide +kernel
theorem dT_slot_4 : decode kT_slot.2.1 4 = .ok (.ifCond .eq 12, 3) := by decide +kernel
theorem dT_slot_7 : decode kT_slot.2.1 7 = .ok (.aload_n 0, 1) := by decide +kernel
theorem dT_slot_8 : decode kT_slot.2.1 8 = .ok (.iload_n 1, 1) := by decide +kernel
theorem dT_slot_9 : decode kT_slot.2.1 9 = .ok (.iload_n 2, 1) := by decide +kernel
theorem dT_slot_10 : decode kT_slot.2.1 10 = .ok (.invokevirtual 91, 3) := by decide +kernel
theorem dT_slot_13 : decode kT_slot.2.1 13 = .ok (.ifCond .ne 5, 3) := by decide +kernel
theorem dT_slot_16 : decode kT_slot.2.1 16 = .ok (.iconst (-1), 1) := by decide +kernel
theorem dT_slot_17 : decode kT_slot.2.1 17 = .ok (.ireturn, 1) := by decide +kernel
theorem dT_slot_18 : decode kT_slot.2.1 18 = .ok (.aload_n 0, 1) := by decide +kernel
theorem dT_slot_19 : decode kT_slot.2.1 19 = .ok (.iload_n 2, 1) := by decide +kernel
theorem dT_slot_20 : decode kT_slot.2.1 20 = .ok (.invokevirtual 157, 3) := by decide +kernel
theorem dT_slot_23 : decode kT_slot.2.1 23 = .ok (.pop, 1) := by decide +kernel
theorem dT_slot_24 : decode kT_slot.2.1 24 = .ok (.aload_n 0, 1) := by decide +kernel
theorem dT_slot_25 : decode kT_slot.2.1 25 = .ok (.getfield 59, 3) := by decide +kernel
theorem dT_slot_28 : decode kT_slot.2.1 28 = .ok (.iload_n 1, 1) := by decide +kernel
theorem dT_slot_29 : decode kT_slot.2.1 29 = .ok (.iaload, 1) := by decide +kernel
theorem dT_slot_30 : decode kT_slot.2.1 30 = .ok (.ireturn, 1) := by decide +kernel
theorem dT_hears_0 : decode kT_hears.2.1 0 = .ok (.aload_n 0, 1) := by decide +kernel
theorem dT_hears_1 : decode kT_hears.2.1 1 = .ok (.getfield 145, 3) := by decide +kernel
theorem dT_hears_4 : decode kT_hears.2.1 4 = .ok (.ifCond .eq 32, 3) := by decide +kernel
theorem dT_hears_7 : decode kT_hears.2.1 7 = .ok (.iload_n 1, 1) := by decide +kernel
theorem dT_hears_8 : decode kT_hears.2.1 8 = .ok (.invokestatic 72, 3) := by decide +kernel
theorem dT_hears_11 : decode kT_hears.2.1 11 = .ok (.ifCond .eq 25, 3) := by decide +kernel
theorem dT_hears_14 : decode kT_hears.2.1 14 = .ok (.iload_n 2, 1) := by decide +kernel
theorem dT_hears_15 : decode kT_hears.2.1 15 = .ok (.invokestatic 72, 3) := by decide +kernel
theorem dT_hears_18 : decode kT_hears.2.1 18 = .ok (.ifCond .eq 18, 3) := by decide +kernel
theorem dT_hears_21 : decode kT_hears.2.1 21 = .ok (.iload_n 1, 1) := by decide +kernel
theorem dT_hears_22 : decode kT_hears.2.1 22 = .ok (.iload_n 2, 1) := by decide +kernel
theorem dT_hears_23 : decode kT_hears.2.1 23 = .ok (.if_icmp .eq 13, 3) := by decide +kernel
theorem dT_hears_26 : decode kT_hears.2.1 26 = .ok (.iload_n 3, 1) := by decide +kernel
theorem dT_hears_27 : decode kT_hears.2.1 27 = .ok (.ifCond .lt 9, 3) := by decide +kernel
theorem dT_hears_30 : decode kT_hears.2.1 30 = .ok (.iload_n 3, 1) := by decide +kernel
theorem dT_hears_31 : decode kT_hears.2.1 31 = .ok (.bipush 40, 2) := by decide +kernel
theorem dT_hears_33 : decode kT_hears.2.1 33 = .ok (.if_icmp .lt 6, 3) := by decide +kernel
theorem dT_hears_36 : decode kT_hears.2.1 36 = .ok (.bipush (-2), 2) := by decide +kernel
theorem dT_hears_38 : decode kT_hears.2.1 38 = .ok (.ireturn, 1) := by decide +kernel
theorem dT_hears_39 : decode kT_hears.2.1 39 = .ok (.aload_n 0, 1) := by decide +kernel
theorem dT_hears_40 : decode kT_hears.2.1 40 = .ok (.iload_n 1, 1) := by decide +kernel
theorem dT_hears_41 : decode kT_hears.2.1 41 = .ok (.iload_n 3, 1) := by decide +kernel
theorem dT_hears_42 : decode kT_hears.2.1 42 = .ok (.invokevirtual 91, 3) := by decide +kernel
theorem dT_hears_45 : decode kT_hears.2.1 45 = .ok (.ifCond .eq 12, 3) := by decide +kernel
theorem dT_hears_48 : decode kT_hears.2.1 48 = .ok (.aload_n 0, 1) := by decide +kernel
theorem dT_hears_49 : decode kT_hears.2.1 49 = .ok (.iload_n 2, 1) := by decide +kernel
theorem dT_hears_50 : decode kT_hears.2.1 50 = .ok (.iload_n 3, 1) := by decide +kernel
theorem dT_hears_51 : decode kT_hears.2.1 51 = .ok (.invokevirtual 91, 3) := by decide +kernel
theorem dT_hears_54 : decode kT_hears.2.1 54 = .ok (.ifCond .ne 5, 3) := by decide +kernel
theorem dT_hears_57 : decode kT_hears.2.1 57 = .ok (.iconst 0, 1) := by decide +kernel
theorem dT_hears_58 : decode kT_hears.2.1 58 = .ok (.ireturn, 1) := by decide +kernel
theorem dT_hears_59 : decode kT_hears.2.1 59 = .ok (.aload_n 0, 1) := by decide +kernel
theorem dT_hears_60 : decode kT_hears.2.1 60 = .ok (.iload_n 3, 1) := by decide +kernel
theorem dT_hears_61 : decode kT_hears.2.1 61 = .ok (.invokevirtual 157, 3) := by decide +kernel
theorem dT_hears_64 : decode kT_hears.2.1 64 = .ok (.pop, 1) := by decide +kernel
theorem dT_hears_65 : decode kT_hears.2.1 65 = .ok (.aload_n 0, 1) := by decide +kernel
theorem dT_hears_66 : decode kT_hears.2.1 66 = .ok (.getfield 59, 3) := by decide +kernel
theorem dT_hears_69 : decode kT_hears.2.1 69 = .ok (.iload_n 1, 1) := by decide +kernel
theorem dT_hears_70 : decode kT_hears.2.1 70 = .ok (.iaload, 1) := by decide +kernel
theorem dT_hears_71 : decode kT_hears.2.1 71 = .ok (.iconst 4, 1) := by decide +kernel
theorem dT_hears_72 : decode kT_hears.2.1 72 = .ok (.if_icmp .eq 13, 3) := by decide +kernel
theorem dT_hears_75 : decode kT_hears.2.1 75 = .ok (.aload_n 0, 1) := by decide +kernel
theorem dT_hears_76 : decode kT_hears.2.1 76 = .ok (.getfield 59, 3) := by decide +kernel
theorem dT_hears_79 : decode kT_hears.2.1 79 = .ok (.iload_n 2, 1) := by decide +kernel
theorem dT_hears_80 : decode kT_hears.2.1 80 = .ok (.iaload, 1) := by decide +kernel
theorem dT_hears_81 : decode kT_hears.2.1 81 = .ok (.iconst 4, 1) := by decide +kernel
theorem dT_hears_82 : decode kT_hears.2.1 82 = .ok (.if_icmp .ne 5, 3) := by decide +kernel
theorem dT_hears_85 : decode kT_hears.2.1 85 = .ok (.iconst 0, 1) := by decide +kernel
theorem dT_hears_86 : decode kT_hears.2.1 86 = .ok (.ireturn, 1) := by decide +kernel
theorem dT_hears_87 : decode kT_hears.2.1 87 = .ok (.aload_n 0, 1) := by decide +kernel
theorem dT_hears_88 : decode kT_hears.2.1 88 = .ok (.getfield 145, 3) := by decide +kernel
theorem dT_hears_91 : decode kT_hears.2.1 91 = .ok (.aload_n 0, 1) := by decide +kernel
theorem dT_hears_92 : decode kT_hears.2.1 92 = .ok (.getfield 62, 3) := by decide +kernel
theorem dT_hears_95 : decode kT_hears.2.1 95 = .ok (.iload_n 1, 1) := by decide +kernel
theorem dT_hears_96 : decode kT_hears.2.1 96 = .ok (.iaload, 1) := by decide +kernel
theorem dT_hears_97 : decode kT_hears.2.1 97 = .ok (.imul, 1) := by decide +kernel
theorem dT_hears_98 : decode kT_hears.2.1 98 = .ok (.istore 4, 2) := by decide +kernel
theorem dT_hears_100 : decode kT_hears.2.1 100 = .ok (.aload_n 0, 1) := by decide +kernel
theorem dT_hears_101 : decode kT_hears.2.1 101 = .ok (.getfield 145, 3) := by decide +kernel
theorem dT_hears_104 : decode kT_hears.2.1 104 = .ok (.aload_n 0, 1) := by decide +kernel
theorem dT_hears_105 : decode kT_hears.2.1 105 = .ok (.getfield 62, 3) := by decide +kernel
theorem dT_hears_108 : decode kT_hears.2.1 108 = .ok (.iload_n 2, 1) := by decide +kernel
theorem dT_hears_109 : decode kT_hears.2.1 109 = .ok (.iaload, 1) := by decide +kernel
theorem dT_hears_110 : decode kT_hears.2.1 110 = .ok (.imul, 1) := by decide +kernel
theorem dT_hears_111 : decode kT_hears.2.1 111 = .ok (.istore 5, 2) := by decide +kernel
theorem dT_hears_113 : decode kT_hears.2.1 113 = .ok (.iload 4, 2) := by decide +kernel
theorem dT_hears_115 : decode kT_hears.2.1 115 = .ok (.aload_n 0, 1) := by decide +kernel
theorem dT_hears_116 : decode kT_hears.2.1 116 = .ok (.getfield 16, 3) := by decide +kernel
theorem dT_hears_119 : decode kT_hears.2.1 119 = .ok (.iload_n 1, 1) := by decide +kernel
theorem dT_hears_120 : decode kT_hears.2.1 120 = .ok (.iaload, 1) := by decide +kernel
theorem dT_hears_121 : decode kT_hears.2.1 121 = .ok (.isub, 1) := by decide +kernel
theorem dT_hears_122 : decode kT_hears.2.1 122 = .ok (.iload 5, 2) := by decide +kernel
theorem dT_hears_124 : decode kT_hears.2.1 124 = .ok (.aload_n 0, 1) := by decide +kernel
theorem dT_hears_125 : decode kT_hears.2.1 125 = .ok (.getfield 145, 3) := by decide +kernel
theorem dT_hears_128 : decode kT_hears.2.1 128 = .ok (.iadd, 1) := by decide +kernel
theorem dT_hears_129 : decode kT_hears.2.1 129 = .ok (.iconst 1, 1) := by decide +kernel
theorem dT_hears_130 : decode kT_hears.2.1 130 = .ok (.isub, 1) := by decide +kernel
theorem dT_hears_131 : decode kT_hears.2.1 131 = .ok (.aload_n 0, 1) := by decide +kernel
theorem dT_hears_132 : decode kT_hears.2.1 132 = .ok (.getfield 16, 3) := by decide +kernel
theorem dT_hears_135 : decode kT_hears.2.1 135 = .ok (.iload_n 2, 1) := by decide +kernel
theorem dT_hears_136 : decode kT_hears.2.1 136 = .ok (.iaload, 1) := by decide +kernel
theorem dT_hears_137 : decode kT_hears.2.1 137 = .ok (.iadd, 1) := by decide +kernel
theorem dT_hears_138 : decode kT_hears.2.1 138 = .ok (.if_icmp .le 5, 3) := by decide +kernel
theorem dT_hears_141 : decode kT_hears.2.1 141 = .ok (.iconst 1, 1) := by decide +kernel
theorem dT_hears_142 : decode kT_hears.2.1 142 = .ok (.ireturn, 1) := by decide +kernel
theorem dT_hears_143 : decode kT_hears.2.1 143 = .ok (.iload 5, 2) := by decide +kernel
theorem dT_hears_145 : decode kT_hears.2.1 145 = .ok (.aload_n 0, 1) := by decide +kernel
theorem dT_hears_146 : decode kT_hears.2.1 146 = .ok (.getfield 16, 3) := by decide +kernel
theorem dT_hears_149 : decode kT_hears.2.1 149 = .ok (.iload_n 2, 1) := by decide +kernel
theorem dT_hears_150 : decode kT_hears.2.1 150 = .ok (.iaload, 1) := by decide +kernel
theorem dT_hears_151 : decode kT_hears.2.1 151 = .ok (.isub, 1) := by decide +kernel
theorem dT_hears_152 : decode kT_hears.2.1 152 = .ok (.iload 4, 2) := by decide +kernel
theorem dT_hears_154 : decode kT_hears.2.1 154 = .ok (.aload_n 0, 1) := by decide +kernel
theorem dT_hears_155 : decode kT_hears.2.1 155 = .ok (.getfield 145, 3) := by decide +kernel
theorem dT_hears_158 : decode kT_hears.2.1 158 = .ok (.iadd, 1) := by decide +kernel
theorem dT_hears_159 : decode kT_hears.2.1 159 = .ok (.iconst 1, 1) := by decide +kernel
theorem dT_hears_160 : decode kT_hears.2.1 160 = .ok (.isub, 1) := by decide +kernel
theorem dT_hears_161 : decode kT_hears.2.1 161 = .ok (.aload_n 0, 1) := by decide +kernel
theorem dT_hears_162 : decode kT_hears.2.1 162 = .ok (.getfield 16, 3) := by decide +kernel
theorem dT_hears_165 : decode kT_hears.2.1 165 = .ok (.iload_n 1, 1) := by decide +kernel
theorem dT_hears_166 : decode kT_hears.2.1 166 = .ok (.iaload, 1) := by decide +kernel
theorem dT_hears_167 : decode kT_hears.2.1 167 = .ok (.iadd, 1) := by decide +kernel
theorem dT_hears_168 : decode kT_hears.2.1 168 = .ok (.if_icmp .le 7, 3) := by decide +kernel
theorem dT_hears_171 : decode kT_hears.2.1 171 = .ok (.iconst (-1), 1) := by decide +kernel
theorem dT_hears_172 : decode kT_hears.2.1 172 = .ok (.goto 4, 3) := by decide +kernel
theorem dT_hears_175 : decode kT_hears.2.1 175 = .ok (.iconst 0, 1) := by decide +kernel
theorem dT_hears_176 : decode kT_hears.2.1 176 = .ok (.ireturn, 1) := by decide +kernel
theorem dT_ways_0 : decode kT_ways.2.1 0 = .ok (.aload_n 0, 1) := by decide +kernel
theorem dT_ways_1 : decode kT_ways.2.1 1 = .ok (.getfield 41, 3) := by decide +kernel
theorem dT_ways_4 : decode kT_ways.2.1 4 = .ok (.iload_n 1, 1) := by decide +kernel
theorem dT_ways_5 : decode kT_ways.2.1 5 = .ok (.iaload, 1) := by decide +kernel
theorem dT_ways_6 : decode kT_ways.2.1 6 = .ok (.aload_n 0, 1) := by decide +kernel
theorem dT_ways_7 : decode kT_ways.2.1 7 = .ok (.getfield 38, 3) := by decide +kernel
theorem dT_ways_10 : decode kT_ways.2.1 10 = .ok (.iload_n 1, 1) := by decide +kernel
theorem dT_ways_11 : decode kT_ways.2.1 11 = .ok (.iaload, 1) := by decide +kernel
theorem dT_ways_12 : decode kT_ways.2.1 12 = .ok (.isub, 1) := by decide +kernel
theorem dT_ways_13 : decode kT_ways.2.1 13 = .ok (.ireturn, 1) := by decide +kernel
theorem dT_whole_0 : decode kT_whole.2.1 0 = .ok (.iload_n 1, 1) := by decide +kernel
theorem dT_whole_1 : decode kT_whole.2.1 1 = .ok (.invokestatic 72, 3) := by decide +kernel
theorem dT_whole_4 : decode kT_whole.2.1 4 = .ok (.ifCond .eq 18, 3) := by decide +kernel
theorem dT_whole_7 : decode kT_whole.2.1 7 = .ok (.iload_n 2, 1) := by decide +kernel
theorem dT_whole_8 : decode kT_whole.2.1 8 = .ok (.iconst 1, 1) := by decide +kernel
theorem dT_whole_9 : decode kT_whole.2.1 9 = .ok (.sipush 200, 3) := by decide +kernel
theorem dT_whole_12 : decode kT_whole.2.1 12 = .ok (.invokestatic 80, 3) := by decide +kernel
theorem dT_whole_15 : decode kT_whole.2.1 15 = .ok (.ifCond .eq 7, 3) := by decide +kernel
theorem dT_whole_18 : decode kT_whole.2.1 18 = .ok (.iload_n 3, 1) := by decide +kernel
theorem dT_whole_19 : decode kT_whole.2.1 19 = .ok (.ifCond .ge 5, 3) := by decide +kernel
theorem dT_whole_22 : decode kT_whole.2.1 22 = .ok (.iconst (-1), 1) := by decide +kernel
theorem dT_whole_23 : decode kT_whole.2.1 23 = .ok (.ireturn, 1) := by decide +kernel
theorem dT_whole_24 : decode kT_whole.2.1 24 = .ok (.aload_n 0, 1) := by decide +kernel
theorem dT_whole_25 : decode kT_whole.2.1 25 = .ok (.iload_n 1, 1) := by decide +kernel
theorem dT_whole_26 : decode kT_whole.2.1 26 = .ok (.invokevirtual 112, 3) := by decide +kernel
theorem dT_whole_29 : decode kT_whole.2.1 29 = .ok (.iload_n 3, 1) := by decide +kernel
theorem dT_whole_30 : decode kT_whole.2.1 30 = .ok (.aload_n 0, 1) := by decide +kernel
theorem dT_whole_31 : decode kT_whole.2.1 31 = .ok (.getfield 106, 3) := by decide +kernel
theorem dT_whole_34 : decode kT_whole.2.1 34 = .ok (.if_icmp .ge 11, 3) := by decide +kernel
theorem dT_whole_37 : decode kT_whole.2.1 37 = .ok (.iload_n 2, 1) := by decide +kernel
theorem dT_whole_38 : decode kT_whole.2.1 38 = .ok (.aload_n 0, 1) := by decide +kernel
theorem dT_whole_39 : decode kT_whole.2.1 39 = .ok (.getfield 106, 3) := by decide +kernel
theorem dT_whole_42 : decode kT_whole.2.1 42 = .ok (.if_icmp .ge 5, 3) := by decide +kernel
theorem dT_whole_45 : decode kT_whole.2.1 45 = .ok (.iconst (-1), 1) := by decide +kernel
theorem dT_whole_46 : decode kT_whole.2.1 46 = .ok (.ireturn, 1) := by decide +kernel
theorem dT_whole_47 : decode kT_whole.2.1 47 = .ok (.iconst 0, 1) := by decide +kernel
theorem dT_whole_48 : decode kT_whole.2.1 48 = .ok (.istore 4, 2) := by decide +kernel
theorem dT_whole_50 : decode kT_whole.2.1 50 = .ok (.iconst 0, 1) := by decide +kernel
theorem dT_whole_51 : decode kT_whole.2.1 51 = .ok (.istore 5, 2) := by decide +kernel
theorem dT_whole_53 : decode kT_whole.2.1 53 = .ok (.iload 5, 2) := by decide +kernel
theorem dT_whole_55 : decode kT_whole.2.1 55 = .ok (.aload_n 0, 1) := by decide +kernel
theorem dT_whole_56 : decode kT_whole.2.1 56 = .ok (.getfield 106, 3) := by decide +kernel
theorem dT_whole_59 : decode kT_whole.2.1 59 = .ok (.if_icmp .ge 20, 3) := by decide +kernel
theorem dT_whole_62 : decode kT_whole.2.1 62 = .ok (.iload 4, 2) := by decide +kernel
theorem dT_whole_64 : decode kT_whole.2.1 64 = .ok (.aload_n 0, 1) := by decide +kernel
theorem dT_whole_65 : decode kT_whole.2.1 65 = .ok (.iload 5, 2) := by decide +kernel
theorem dT_whole_67 : decode kT_whole.2.1 67 = .ok (.invokevirtual 160, 3) := by decide +kernel
theorem dT_whole_70 : decode kT_whole.2.1 70 = .ok (.iadd, 1) := by decide +kernel
theorem dT_whole_71 : decode kT_whole.2.1 71 = .ok (.istore 4, 2) := by decide +kernel
theorem dT_whole_73 : decode kT_whole.2.1 73 = .ok (.iinc 5 1, 3) := by decide +kernel
theorem dT_whole_76 : decode kT_whole.2.1 76 = .ok (.goto (-23), 3) := by decide +kernel
theorem dT_whole_79 : decode kT_whole.2.1 79 = .ok (.iload_n 2, 1) := by decide +kernel
theorem dT_whole_80 : decode kT_whole.2.1 80 = .ok (.aload_n 0, 1) := by decide +kernel
theorem dT_whole_81 : decode kT_whole.2.1 81 = .ok (.getfield 106, 3) := by decide +kernel
theorem dT_whole_84 : decode kT_whole.2.1 84 = .ok (.isub, 1) := by decide +kernel
theorem dT_whole_85 : decode kT_whole.2.1 85 = .ok (.istore 5, 2) := by decide +kernel
theorem dT_whole_87 : decode kT_whole.2.1 87 = .ok (.iload 5, 2) := by decide +kernel
theorem dT_whole_89 : decode kT_whole.2.1 89 = .ok (.istore 6, 2) := by decide +kernel
theorem dT_whole_91 : decode kT_whole.2.1 91 = .ok (.iconst 0, 1) := by decide +kernel
theorem dT_whole_92 : decode kT_whole.2.1 92 = .ok (.istore 7, 2) := by decide +kernel
theorem dT_whole_94 : decode kT_whole.2.1 94 = .ok (.iload 7, 2) := by decide +kernel
theorem dT_whole_96 : decode kT_whole.2.1 96 = .ok (.aload_n 0, 1) := by decide +kernel
theorem dT_whole_97 : decode kT_whole.2.1 97 = .ok (.getfield 106, 3) := by decide +kernel
theorem dT_whole_100 : decode kT_whole.2.1 100 = .ok (.if_icmp .ge 48, 3) := by decide +kernel
theorem dT_whole_103 : decode kT_whole.2.1 103 = .ok (.aload_n 0, 1) := by decide +kernel
theorem dT_whole_104 : decode kT_whole.2.1 104 = .ok (.getfield 65, 3) := by decide +kernel
theorem dT_whole_107 : decode kT_whole.2.1 107 = .ok (.iload 7, 2) := by decide +kernel
theorem dT_whole_109 : decode kT_whole.2.1 109 = .ok (.iload 5, 2) := by decide +kernel
theorem dT_whole_111 : decode kT_whole.2.1 111 = .ok (.aload_n 0, 1) := by decide +kernel
theorem dT_whole_112 : decode kT_whole.2.1 112 = .ok (.iload 7, 2) := by decide +kernel
theorem dT_whole_114 : decode kT_whole.2.1 114 = .ok (.invokevirtual 160, 3) := by decide +kernel
theorem dT_whole_117 : decode kT_whole.2.1 117 = .ok (.imul, 1) := by decide +kernel
theorem dT_whole_118 : decode kT_whole.2.1 118 = .ok (.iload 4, 2) := by decide +kernel
theorem dT_whole_120 : decode kT_whole.2.1 120 = .ok (.idiv, 1) := by decide +kernel
theorem dT_whole_121 : decode kT_whole.2.1 121 = .ok (.iastore, 1) := by decide +kernel
theorem dT_whole_122 : decode kT_whole.2.1 122 = .ok (.iload 6, 2) := by decide +kernel
theorem dT_whole_124 : decode kT_whole.2.1 124 = .ok (.aload_n 0, 1) := by decide +kernel
theorem dT_whole_125 : decode kT_whole.2.1 125 = .ok (.getfield 65, 3) := by decide +kernel
theorem dT_whole_128 : decode kT_whole.2.1 128 = .ok (.iload 7, 2) := by decide +kernel
theorem dT_whole_130 : decode kT_whole.2.1 130 = .ok (.iaload, 1) := by decide +kernel
theorem dT_whole_131 : decode kT_whole.2.1 131 = .ok (.isub, 1) := by decide +kernel
theorem dT_whole_132 : decode kT_whole.2.1 132 = .ok (.istore 6, 2) := by decide +kernel
theorem dT_whole_134 : decode kT_whole.2.1 134 = .ok (.aload_n 0, 1) := by decide +kernel
theorem dT_whole_135 : decode kT_whole.2.1 135 = .ok (.getfield 68, 3) := by decide +kernel
theorem dT_whole_138 : decode kT_whole.2.1 138 = .ok (.iload 7, 2) := by decide +kernel
theorem dT_whole_140 : decode kT_whole.2.1 140 = .ok (.iconst 0, 1) := by decide +kernel
theorem dT_whole_141 : decode kT_whole.2.1 141 = .ok (.bastore, 1) := by decide +kernel
theorem dT_whole_142 : decode kT_whole.2.1 142 = .ok (.iinc 7 1, 3) := by decide +kernel
theorem dT_whole_145 : decode kT_whole.2.1 145 = .ok (.goto (-51), 3) := by decide +kernel
theorem dT_whole_148 : decode kT_whole.2.1 148 = .ok (.iload 6, 2) := by decide +kernel
theorem dT_whole_150 : decode kT_whole.2.1 150 = .ok (.ifCond .le 85, 3) := by decide +kernel
theorem dT_whole_153 : decode kT_whole.2.1 153 = .ok (.iconst (-1), 1) := by decide +kernel
theorem dT_whole_154 : decode kT_whole.2.1 154 = .ok (.istore 7, 2) := by decide +kernel
theorem dT_whole_156 : decode kT_whole.2.1 156 = .ok (.iconst 0, 1) := by decide +kernel
theorem dT_whole_157 : decode kT_whole.2.1 157 = .ok (.istore 8, 2) := by decide +kernel
theorem dT_whole_159 : decode kT_whole.2.1 159 = .ok (.iload 8, 2) := by decide +kernel
theorem dT_whole_161 : decode kT_whole.2.1 161 = .ok (.aload_n 0, 1) := by decide +kernel
theorem dT_whole_162 : decode kT_whole.2.1 162 = .ok (.getfield 106, 3) := by decide +kernel
theorem dT_whole_165 : decode kT_whole.2.1 165 = .ok (.if_icmp .ge 56, 3) := by decide +kernel
theorem dT_whole_168 : decode kT_whole.2.1 168 = .ok (.aload_n 0, 1) := by decide +kernel
theorem dT_whole_169 : decode kT_whole.2.1 169 = .ok (.getfield 68, 3) := by decide +kernel
theorem dT_whole_172 : decode kT_whole.2.1 172 = .ok (.iload 8, 2) := by decide +kernel
theorem dT_whole_174 : decode kT_whole.2.1 174 = .ok (.baload, 1) := by decide +kernel
theorem dT_whole_175 : decode kT_whole.2.1 175 = .ok (.ifCond .ne 40, 3) := by decide +kernel
theorem dT_whole_178 : decode kT_whole.2.1 178 = .ok (.iload 7, 2) := by decide +kernel
theorem dT_whole_180 : decode kT_whole.2.1 180 = .ok (.iconst (-1), 1) := by decide +kernel
theorem dT_whole_181 : decode kT_whole.2.1 181 = .ok (.if_icmp .eq 30, 3) := by decide +kernel
theorem dT_whole_184 : decode kT_whole.2.1 184 = .ok (.iload 5, 2) := by decide +kernel
theorem dT_whole_186 : decode kT_whole.2.1 186 = .ok (.aload_n 0, 1) := by decide +kernel
theorem dT_whole_187 : decode kT_whole.2.1 187 = .ok (.iload 8, 2) := by decide +kernel
theorem dT_whole_189 : decode kT_whole.2.1 189 = .ok (.invokevirtual 160, 3) := by decide +kernel
theorem dT_whole_192 : decode kT_whole.2.1 192 = .ok (.imul, 1) := by decide +kernel
theorem dT_whole_193 : decode kT_whole.2.1 193 = .ok (.iload 4, 2) := by decide +kernel
theorem dT_whole_195 : decode kT_whole.2.1 195 = .ok (.irem, 1) := by decide +kernel
theorem dT_whole_196 : decode kT_whole.2.1 196 = .ok (.iload 5, 2) := by decide +kernel
theorem dT_whole_198 : decode kT_whole.2.1 198 = .ok (.aload_n 0, 1) := by decide +kernel
theorem dT_whole_199 : decode kT_whole.2.1 199 = .ok (.iload 7, 2) := by decide +kernel
theorem dT_whole_201 : decode kT_whole.2.1 201 = .ok (.invokevirtual 160, 3) := by decide +kernel
theorem dT_whole_204 : decode kT_whole.2.1 204 = .ok (.imul, 1) := by decide +kernel
theorem dT_whole_205 : decode kT_whole.2.1 205 = .ok (.iload 4, 2) := by decide +kernel
theorem dT_whole_207 : decode kT_whole.2.1 207 = .ok (.irem, 1) := by decide +kernel
theorem dT_whole_208 : decode kT_whole.2.1 208 = .ok (.if_icmp .le 7, 3) := by decide +kernel
theorem dT_whole_211 : decode kT_whole.2.1 211 = .ok (.iload 8, 2) := by decide +kernel
theorem dT_whole_213 : decode kT_whole.2.1 213 = .ok (.istore 7, 2) := by decide +kernel
theorem dT_whole_215 : decode kT_whole.2.1 215 = .ok (.iinc 8 1, 3) := by decide +kernel
theorem dT_whole_218 : decode kT_whole.2.1 218 = .ok (.goto (-59), 3) := by decide +kernel
theorem dT_whole_221 : decode kT_whole.2.1 221 = .ok (.aload_n 0, 1) := by decide +kernel
theorem dT_whole_222 : decode kT_whole.2.1 222 = .ok (.getfield 68, 3) := by decide +kernel
theorem dT_whole_225 : decode kT_whole.2.1 225 = .ok (.iload 7, 2) := by decide +kernel
theorem dT_whole_227 : decode kT_whole.2.1 227 = .ok (.iconst 1, 1) := by decide +kernel
theorem dT_whole_228 : decode kT_whole.2.1 228 = .ok (.bastore, 1) := by decide +kernel
theorem dT_whole_229 : decode kT_whole.2.1 229 = .ok (.iinc 6 (-1), 3) := by decide +kernel
theorem dT_whole_232 : decode kT_whole.2.1 232 = .ok (.goto (-84), 3) := by decide +kernel
theorem dT_whole_235 : decode kT_whole.2.1 235 = .ok (.iconst 1, 1) := by decide +kernel
theorem dT_whole_236 : decode kT_whole.2.1 236 = .ok (.aload_n 0, 1) := by decide +kernel
theorem dT_whole_237 : decode kT_whole.2.1 237 = .ok (.getfield 65, 3) := by decide +kernel
theorem dT_whole_240 : decode kT_whole.2.1 240 = .ok (.iload_n 3, 1) := by decide +kernel
theorem dT_whole_241 : decode kT_whole.2.1 241 = .ok (.iaload, 1) := by decide +kernel
theorem dT_whole_242 : decode kT_whole.2.1 242 = .ok (.iadd, 1) := by decide +kernel
theorem dT_whole_243 : decode kT_whole.2.1 243 = .ok (.aload_n 0, 1) := by decide +kernel
theorem dT_whole_244 : decode kT_whole.2.1 244 = .ok (.getfield 68, 3) := by decide +kernel
theorem dT_whole_247 : decode kT_whole.2.1 247 = .ok (.iload_n 3, 1) := by decide +kernel
theorem dT_whole_248 : decode kT_whole.2.1 248 = .ok (.baload, 1) := by decide +kernel
theorem dT_whole_249 : decode kT_whole.2.1 249 = .ok (.ifCond .eq 7, 3) := by decide +kernel
theorem dT_whole_252 : decode kT_whole.2.1 252 = .ok (.iconst 1, 1) := by decide +kernel
theorem dT_whole_253 : decode kT_whole.2.1 253 = .ok (.goto 4, 3) := by decide +kernel
theorem dT_whole_256 : decode kT_whole.2.1 256 = .ok (.iconst 0, 1) := by decide +kernel
theorem dT_whole_257 : decode kT_whole.2.1 257 = .ok (.iadd, 1) := by decide +kernel
theorem dT_whole_258 : decode kT_whole.2.1 258 = .ok (.ireturn, 1) := by decide +kernel
theorem dT_walk_0 : decode kT_walk.2.1 0 = .ok (.aload_n 0, 1) := by decide +kernel
theorem dT_walk_1 : decode kT_walk.2.1 1 = .ok (.iload_n 1, 1) := by decide +kernel
theorem dT_walk_2 : decode kT_walk.2.1 2 = .ok (.iload_n 2, 1) := by decide +kernel
theorem dT_walk_3 : decode kT_walk.2.1 3 = .ok (.invokevirtual 76, 3) := by decide +kernel
theorem dT_walk_6 : decode kT_walk.2.1 6 = .ok (.ifCond .ne 5, 3) := by decide +kernel
theorem dT_walk_9 : decode kT_walk.2.1 9 = .ok (.iconst 0, 1) := by decide +kernel
theorem dT_walk_10 : decode kT_walk.2.1 10 = .ok (.ireturn, 1) := by decide +kernel
theorem dT_walk_11 : decode kT_walk.2.1 11 = .ok (.aload_n 0, 1) := by decide +kernel
theorem dT_walk_12 : decode kT_walk.2.1 12 = .ok (.iload_n 1, 1) := by decide +kernel
theorem dT_walk_13 : decode kT_walk.2.1 13 = .ok (.putfield 26, 3) := by decide +kernel
theorem dT_walk_16 : decode kT_walk.2.1 16 = .ok (.aload_n 0, 1) := by decide +kernel
theorem dT_walk_17 : decode kT_walk.2.1 17 = .ok (.iload_n 2, 1) := by decide +kernel
theorem dT_walk_18 : decode kT_walk.2.1 18 = .ok (.putfield 163, 3) := by decide +kernel
theorem dT_walk_21 : decode kT_walk.2.1 21 = .ok (.iconst 1, 1) := by decide +kernel
theorem dT_walk_22 : decode kT_walk.2.1 22 = .ok (.ireturn, 1) := by decide +kernel
theorem dT_where_0 : decode kT_where.2.1 0 = .ok (.aload_n 0, 1) := by decide +kernel
theorem dT_where_1 : decode kT_where.2.1 1 = .ok (.getfield 26, 3) := by decide +kernel
theorem dT_where_4 : decode kT_where.2.1 4 = .ok (.iconst (-1), 1) := by decide +kernel
theorem dT_where_5 : decode kT_where.2.1 5 = .ok (.if_icmp .ne 7, 3) := by decide +kernel
theorem dT_where_8 : decode kT_where.2.1 8 = .ok (.iconst (-1), 1) := by decide +kernel
theorem dT_where_9 : decode kT_where.2.1 9 = .ok (.goto 27, 3) := by decide +kernel
theorem dT_where_12 : decode kT_where.2.1 12 = .ok (.iload_n 1, 1) := by decide +kernel
theorem dT_where_13 : decode kT_where.2.1 13 = .ok (.ifCond .ne 10, 3) := by decide +kernel
theorem dT_where_16 : decode kT_where.2.1 16 = .ok (.aload_n 0, 1) := by decide +kernel
theorem dT_where_17 : decode kT_where.2.1 17 = .ok (.getfield 26, 3) := by decide +kernel
theorem dT_where_20 : decode kT_where.2.1 20 = .ok (.goto 16, 3) := by decide +kernel
theorem dT_where_23 : decode kT_where.2.1 23 = .ok (.iload_n 1, 1) := by decide +kernel
theorem dT_where_24 : decode kT_where.2.1 24 = .ok (.iconst 1, 1) := by decide +kernel
theorem dT_where_25 : decode kT_where.2.1 25 = .ok (.if_icmp .ne 10, 3) := by decide +kernel
theorem dT_where_28 : decode kT_where.2.1 28 = .ok (.aload_n 0, 1) := by decide +kernel
theorem dT_where_29 : decode kT_where.2.1 29 = .ok (.getfield 163, 3) := by decide +kernel
theorem dT_where_32 : decode kT_where.2.1 32 = .ok (.goto 4, 3) := by decide +kernel
theorem dT_where_35 : decode kT_where.2.1 35 = .ok (.iconst (-1), 1) := by decide +kernel
theorem dT_where_36 : decode kT_where.2.1 36 = .ok (.ireturn, 1) := by decide +kernel
theorem dT_go_0 : decode kT_go.2.1 0 = .ok (.aload_n 0, 1) := by decide +kernel
theorem dT_go_1 : decode kT_go.2.1 1 = .ok (.getfield 163, 3) := by decide +kernel
theorem dT_go_4 : decode kT_go.2.1 4 = .ok (.iload_n 1, 1) := by decide +kernel
theorem dT_go_5 : decode kT_go.2.1 5 = .ok (.ifCond .eq 7, 3) := by decide +kernel
theorem dT_go_8 : decode kT_go.2.1 8 = .ok (.iconst 1, 1) := by decide +kernel
theorem dT_go_9 : decode kT_go.2.1 9 = .ok (.goto 4, 3) := by decide +kernel
theorem dT_go_12 : decode kT_go.2.1 12 = .ok (.iconst (-1), 1) := by decide +kernel
theorem dT_go_13 : decode kT_go.2.1 13 = .ok (.iadd, 1) := by decide +kernel
theorem dT_go_14 : decode kT_go.2.1 14 = .ok (.istore_n 2, 1) := by decide +kernel
theorem dT_go_15 : decode kT_go.2.1 15 = .ok (.aload_n 0, 1) := by decide +kernel
theorem dT_go_16 : decode kT_go.2.1 16 = .ok (.getfield 26, 3) := by decide +kernel
theorem dT_go_19 : decode kT_go.2.1 19 = .ok (.iconst (-1), 1) := by decide +kernel
theorem dT_go_20 : decode kT_go.2.1 20 = .ok (.if_icmp .eq 15, 3) := by decide +kernel
theorem dT_go_23 : decode kT_go.2.1 23 = .ok (.aload_n 0, 1) := by decide +kernel
theorem dT_go_24 : decode kT_go.2.1 24 = .ok (.aload_n 0, 1) := by decide +kernel
theorem dT_go_25 : decode kT_go.2.1 25 = .ok (.getfield 26, 3) := by decide +kernel
theorem dT_go_28 : decode kT_go.2.1 28 = .ok (.iload_n 2, 1) := by decide +kernel
theorem dT_go_29 : decode kT_go.2.1 29 = .ok (.invokevirtual 76, 3) := by decide +kernel
theorem dT_go_32 : decode kT_go.2.1 32 = .ok (.ifCond .ne 5, 3) := by decide +kernel
theorem dT_go_35 : decode kT_go.2.1 35 = .ok (.iconst (-1), 1) := by decide +kernel
theorem dT_go_36 : decode kT_go.2.1 36 = .ok (.ireturn, 1) := by decide +kernel
theorem dT_go_37 : decode kT_go.2.1 37 = .ok (.aload_n 0, 1) := by decide +kernel
theorem dT_go_38 : decode kT_go.2.1 38 = .ok (.iload_n 2, 1) := by decide +kernel
theorem dT_go_39 : decode kT_go.2.1 39 = .ok (.putfield 163, 3) := by decide +kernel
theorem dT_go_42 : decode kT_go.2.1 42 = .ok (.iload_n 2, 1) := by decide +kernel
theorem dT_go_43 : decode kT_go.2.1 43 = .ok (.ireturn, 1) := by decide +kernel
theorem dT_isCross_0 : decode kT_isCross.2.1 0 = .ok (.iconst 0, 1) := by decide +kernel
theorem dT_isCross_1 : decode kT_isCross.2.1 1 = .ok (.istore_n 3, 1) := by decide +kernel
theorem dT_isCross_2 : decode kT_isCross.2.1 2 = .ok (.iload_n 3, 1) := by decide +kernel
theorem dT_isCross_3 : decode kT_isCross.2.1 3 = .ok (.iconst 4, 1) := by decide +kernel
theorem dT_isCross_4 : decode kT_isCross.2.1 4 = .ok (.if_icmp .ge 54, 3) := by decide +kernel
theorem dT_isCross_7 : decode kT_isCross.2.1 7 = .ok (.iload_n 3, 1) := by decide +kernel
theorem dT_isCross_8 : decode kT_isCross.2.1 8 = .ok (.iload_n 1, 1) := by decide +kernel
theorem dT_isCross_9 : decode kT_isCross.2.1 9 = .ok (.if_icmp .ne 6, 3) := by decide +kernel
theorem dT_isCross_12 : decode kT_isCross.2.1 12 = .ok (.goto 40, 3) := by decide +kernel
theorem dT_isCross_15 : decode kT_isCross.2.1 15 = .ok (.aload_n 0, 1) := by decide +kernel
theorem dT_isCross_16 : decode kT_isCross.2.1 16 = .ok (.iload_n 1, 1) := by decide +kernel
theorem dT_isCross_17 : decode kT_isCross.2.1 17 = .ok (.iload_n 3, 1) := by decide +kernel
theorem dT_isCross_18 : decode kT_isCross.2.1 18 = .ok (.invokevirtual 131, 3) := by decide +kernel
theorem dT_isCross_21 : decode kT_isCross.2.1 21 = .ok (.iconst 0, 1) := by decide +kernel
theorem dT_isCross_22 : decode kT_isCross.2.1 22 = .ok (.istore 4, 2) := by decide +kernel
theorem dT_isCross_24 : decode kT_isCross.2.1 24 = .ok (.iload 4, 2) := by decide +kernel
theorem dT_isCross_26 : decode kT_isCross.2.1 26 = .ok (.aload_n 0, 1) := by decide +kernel
theorem dT_isCross_27 : decode kT_isCross.2.1 27 = .ok (.getfield 125, 3) := by decide +kernel
theorem dT_isCross_30 : decode kT_isCross.2.1 30 = .ok (.if_icmp .ge 22, 3) := by decide +kernel
theorem dT_isCross_33 : decode kT_isCross.2.1 33 = .ok (.aload_n 0, 1) := by decide +kernel
theorem dT_isCross_34 : decode kT_isCross.2.1 34 = .ok (.getfield 47, 3) := by decide +kernel
theorem dT_isCross_37 : decode kT_isCross.2.1 37 = .ok (.iload 4, 2) := by decide +kernel
theorem dT_isCross_39 : decode kT_isCross.2.1 39 = .ok (.iaload, 1) := by decide +kernel
theorem dT_isCross_40 : decode kT_isCross.2.1 40 = .ok (.iload_n 2, 1) := by decide +kernel
theorem dT_isCross_41 : decode kT_isCross.2.1 41 = .ok (.if_icmp .ne 5, 3) := by decide +kernel
theorem dT_isCross_44 : decode kT_isCross.2.1 44 = .ok (.iconst 1, 1) := by decide +kernel
theorem dT_isCross_45 : decode kT_isCross.2.1 45 = .ok (.ireturn, 1) := by decide +kernel
theorem dT_isCross_46 : decode kT_isCross.2.1 46 = .ok (.iinc 4 1, 3) := by decide +kernel
theorem dT_isCross_49 : decode kT_isCross.2.1 49 = .ok (.goto (-25), 3) := by decide +kernel
theorem dT_isCross_52 : decode kT_isCross.2.1 52 = .ok (.iinc 3 1, 3) := by decide +kernel
theorem dT_isCross_55 : decode kT_isCross.2.1 55 = .ok (.goto (-53), 3) := by decide +kernel
theorem dT_isCross_58 : decode kT_isCross.2.1 58 = .ok (.iconst 0, 1) := by decide +kernel
theorem dT_isCross_59 : decode kT_isCross.2.1 59 = .ok (.ireturn, 1) := by decide +kernel
theorem dT_isTurn_0 : decode kT_isTurn.2.1 0 = .ok (.aload_n 0, 1) := by decide +kernel
theorem dT_isTurn_1 : decode kT_isTurn.2.1 1 = .ok (.iload_n 1, 1) := by decide +kernel
theorem dT_isTurn_2 : decode kT_isTurn.2.1 2 = .ok (.invokevirtual 122, 3) := by decide +kernel
theorem dT_isTurn_5 : decode kT_isTurn.2.1 5 = .ok (.iconst 0, 1) := by decide +kernel
theorem dT_isTurn_6 : decode kT_isTurn.2.1 6 = .ok (.istore_n 3, 1) := by decide +kernel
theorem dT_isTurn_7 : decode kT_isTurn.2.1 7 = .ok (.iload_n 3, 1) := by decide +kernel
theorem dT_isTurn_8 : decode kT_isTurn.2.1 8 = .ok (.aload_n 0, 1) := by decide +kernel
theorem dT_isTurn_9 : decode kT_isTurn.2.1 9 = .ok (.getfield 115, 3) := by decide +kernel
theorem dT_isTurn_12 : decode kT_isTurn.2.1 12 = .ok (.if_icmp .ge 21, 3) := by decide +kernel
theorem dT_isTurn_15 : decode kT_isTurn.2.1 15 = .ok (.aload_n 0, 1) := by decide +kernel
theorem dT_isTurn_16 : decode kT_isTurn.2.1 16 = .ok (.getfield 44, 3) := by decide +kernel
theorem dT_isTurn_19 : decode kT_isTurn.2.1 19 = .ok (.iload_n 3, 1) := by decide +kernel
theorem dT_isTurn_20 : decode kT_isTurn.2.1 20 = .ok (.iaload, 1) := by decide +kernel
theorem dT_isTurn_21 : decode kT_isTurn.2.1 21 = .ok (.iload_n 2, 1) := by decide +kernel
theorem dT_isTurn_22 : decode kT_isTurn.2.1 22 = .ok (.if_icmp .ne 5, 3) := by decide +kernel
theorem dT_isTurn_25 : decode kT_isTurn.2.1 25 = .ok (.iconst 1, 1) := by decide +kernel
theorem dT_isTurn_26 : decode kT_isTurn.2.1 26 = .ok (.ireturn, 1) := by decide +kernel
theorem dT_isTurn_27 : decode kT_isTurn.2.1 27 = .ok (.iinc 3 1, 3) := by decide +kernel
theorem dT_isTurn_30 : decode kT_isTurn.2.1 30 = .ok (.goto (-23), 3) := by decide +kernel
theorem dT_isTurn_33 : decode kT_isTurn.2.1 33 = .ok (.iconst 0, 1) := by decide +kernel
theorem dT_isTurn_34 : decode kT_isTurn.2.1 34 = .ok (.ireturn, 1) := by decide +kernel
theorem dT_seek_0 : decode kT_seek.2.1 0 = .ok (.aload_n 0, 1) := by decide +kernel
theorem dT_seek_1 : decode kT_seek.2.1 1 = .ok (.getfield 26, 3) := by decide +kernel
theorem dT_seek_4 : decode kT_seek.2.1 4 = .ok (.iconst (-1), 1) := by decide +kernel
theorem dT_seek_5 : decode kT_seek.2.1 5 = .ok (.if_icmp .eq 12, 3) := by decide +kernel
theorem dT_seek_8 : decode kT_seek.2.1 8 = .ok (.iload_n 2, 1) := by decide +kernel
theorem dT_seek_9 : decode kT_seek.2.1 9 = .ok (.ifCond .lt 8, 3) := by decide +kernel
theorem dT_seek_12 : decode kT_seek.2.1 12 = .ok (.iload_n 2, 1) := by decide +kernel
theorem dT_seek_13 : decode kT_seek.2.1 13 = .ok (.iconst 2, 1) := by decide +kernel
theorem dT_seek_14 : decode kT_seek.2.1 14 = .ok (.if_icmp .le 5, 3) := by decide +kernel
theorem dT_seek_17 : decode kT_seek.2.1 17 = .ok (.iconst (-1), 1) := by decide +kernel
theorem dT_seek_18 : decode kT_seek.2.1 18 = .ok (.ireturn, 1) := by decide +kernel
theorem dT_seek_19 : decode kT_seek.2.1 19 = .ok (.aload_n 0, 1) := by decide +kernel
theorem dT_seek_20 : decode kT_seek.2.1 20 = .ok (.getfield 26, 3) := by decide +kernel
theorem dT_seek_23 : decode kT_seek.2.1 23 = .ok (.istore_n 3, 1) := by decide +kernel
theorem dT_seek_24 : decode kT_seek.2.1 24 = .ok (.aload_n 0, 1) := by decide +kernel
theorem dT_seek_25 : decode kT_seek.2.1 25 = .ok (.getfield 163, 3) := by decide +kernel
theorem dT_seek_28 : decode kT_seek.2.1 28 = .ok (.iload_n 1, 1) := by decide +kernel
theorem dT_seek_29 : decode kT_seek.2.1 29 = .ok (.ifCond .eq 7, 3) := by decide +kernel
theorem dT_seek_32 : decode kT_seek.2.1 32 = .ok (.iconst 1, 1) := by decide +kernel
theorem dT_seek_33 : decode kT_seek.2.1 33 = .ok (.goto 4, 3) := by decide +kernel
theorem dT_seek_36 : decode kT_seek.2.1 36 = .ok (.iconst (-1), 1) := by decide +kernel
theorem dT_seek_37 : decode kT_seek.2.1 37 = .ok (.iadd, 1) := by decide +kernel
theorem dT_seek_38 : decode kT_seek.2.1 38 = .ok (.istore 4, 2) := by decide +kernel
theorem dT_seek_40 : decode kT_seek.2.1 40 = .ok (.aload_n 0, 1) := by decide +kernel
theorem dT_seek_41 : decode kT_seek.2.1 41 = .ok (.iload_n 3, 1) := by decide +kernel
theorem dT_seek_42 : decode kT_seek.2.1 42 = .ok (.iload 4, 2) := by decide +kernel
theorem dT_seek_44 : decode kT_seek.2.1 44 = .ok (.invokevirtual 76, 3) := by decide +kernel
theorem dT_seek_47 : decode kT_seek.2.1 47 = .ok (.ifCond .eq 83, 3) := by decide +kernel
theorem dT_seek_50 : decode kT_seek.2.1 50 = .ok (.iload_n 2, 1) := by decide +kernel
theorem dT_seek_51 : decode kT_seek.2.1 51 = .ok (.ifCond .ne 13, 3) := by decide +kernel
theorem dT_seek_54 : decode kT_seek.2.1 54 = .ok (.aload_n 0, 1) := by decide +kernel
theorem dT_seek_55 : decode kT_seek.2.1 55 = .ok (.iload_n 3, 1) := by decide +kernel
theorem dT_seek_56 : decode kT_seek.2.1 56 = .ok (.iload 4, 2) := by decide +kernel
theorem dT_seek_58 : decode kT_seek.2.1 58 = .ok (.invokevirtual 166, 3) := by decide +kernel
theorem dT_seek_61 : decode kT_seek.2.1 61 = .ok (.goto 33, 3) := by decide +kernel
theorem dT_seek_64 : decode kT_seek.2.1 64 = .ok (.iload_n 2, 1) := by decide +kernel
theorem dT_seek_65 : decode kT_seek.2.1 65 = .ok (.iconst 1, 1) := by decide +kernel
theorem dT_seek_66 : decode kT_seek.2.1 66 = .ok (.if_icmp .ne 13, 3) := by decide +kernel
theorem dT_seek_69 : decode kT_seek.2.1 69 = .ok (.aload_n 0, 1) := by decide +kernel
theorem dT_seek_70 : decode kT_seek.2.1 70 = .ok (.iload_n 3, 1) := by decide +kernel
theorem dT_seek_71 : decode kT_seek.2.1 71 = .ok (.iload 4, 2) := by decide +kernel
theorem dT_seek_73 : decode kT_seek.2.1 73 = .ok (.invokevirtual 169, 3) := by decide +kernel
theorem dT_seek_76 : decode kT_seek.2.1 76 = .ok (.goto 18, 3) := by decide +kernel
theorem dT_seek_79 : decode kT_seek.2.1 79 = .ok (.aload_n 0, 1) := by decide +kernel
theorem dT_seek_80 : decode kT_seek.2.1 80 = .ok (.iload_n 3, 1) := by decide +kernel
theorem dT_seek_81 : decode kT_seek.2.1 81 = .ok (.iload 4, 2) := by decide +kernel
theorem dT_seek_83 : decode kT_seek.2.1 83 = .ok (.invokevirtual 91, 3) := by decide +kernel
theorem dT_seek_86 : decode kT_seek.2.1 86 = .ok (.ifCond .ne 7, 3) := by decide +kernel
theorem dT_seek_89 : decode kT_seek.2.1 89 = .ok (.iconst 1, 1) := by decide +kernel
theorem dT_seek_90 : decode kT_seek.2.1 90 = .ok (.goto 4, 3) := by decide +kernel
theorem dT_seek_93 : decode kT_seek.2.1 93 = .ok (.iconst 0, 1) := by decide +kernel
theorem dT_seek_94 : decode kT_seek.2.1 94 = .ok (.istore 5, 2) := by decide +kernel
theorem dT_seek_96 : decode kT_seek.2.1 96 = .ok (.iload 5, 2) := by decide +kernel
theorem dT_seek_98 : decode kT_seek.2.1 98 = .ok (.ifCond .ne 6, 3) := by decide +kernel
theorem dT_seek_101 : decode kT_seek.2.1 101 = .ok (.goto 12, 3) := by decide +kernel
theorem dT_seek_104 : decode kT_seek.2.1 104 = .ok (.aload_n 0, 1) := by decide +kernel
theorem dT_seek_105 : decode kT_seek.2.1 105 = .ok (.iload 4, 2) := by decide +kernel
theorem dT_seek_107 : decode kT_seek.2.1 107 = .ok (.putfield 163, 3) := by decide +kernel
theorem dT_seek_110 : decode kT_seek.2.1 110 = .ok (.iload 4, 2) := by decide +kernel
theorem dT_seek_112 : decode kT_seek.2.1 112 = .ok (.ireturn, 1) := by decide +kernel
theorem dT_seek_113 : decode kT_seek.2.1 113 = .ok (.iload 4, 2) := by decide +kernel
theorem dT_seek_115 : decode kT_seek.2.1 115 = .ok (.iload_n 1, 1) := by decide +kernel
theorem dT_seek_116 : decode kT_seek.2.1 116 = .ok (.ifCond .eq 7, 3) := by decide +kernel
theorem dT_seek_119 : decode kT_seek.2.1 119 = .ok (.iconst 1, 1) := by decide +kernel
theorem dT_seek_120 : decode kT_seek.2.1 120 = .ok (.goto 4, 3) := by decide +kernel
theorem dT_seek_123 : decode kT_seek.2.1 123 = .ok (.iconst (-1), 1) := by decide +kernel
theorem dT_seek_124 : decode kT_seek.2.1 124 = .ok (.iadd, 1) := by decide +kernel
theorem dT_seek_125 : decode kT_seek.2.1 125 = .ok (.istore 4, 2) := by decide +kernel
theorem dT_seek_127 : decode kT_seek.2.1 127 = .ok (.goto (-87), 3) := by decide +kernel
theorem dT_seek_130 : decode kT_seek.2.1 130 = .ok (.iconst (-1), 1) := by decide +kernel
theorem dT_seek_131 : decode kT_seek.2.1 131 = .ok (.ireturn, 1) := by decide +kernel
end
section
theorem fg_E_11 : FG "EarChart" 11 0 0 := ⟨"EarChart", F_E, 11, rfl, fi_E, by decide, Or.inl (k_at 185 (by decide +kernel) (by decide +kernel))⟩
theorem fp_E_11 : FP true "EarChart" 11 0 0 (.array (.object "EarChart$Row")) := ⟨"EarChart", F_E, 11, ft_E, rfl, fi_E, by decide, fo_E, fn_E, rfl, rfl, fun _ => rfl, Or.inl (k_at 185 (by decide +kernel) (by decide +kernel))⟩
theorem fg_E_19 : FG "EarChart" 19 0 1 := ⟨"EarChart", F_E, 11, rfl, fi_E, by decide, Or.inl (k_at 186 (by decide +kernel) (by decide +kernel))⟩
theorem fp_E_19 : FP true "EarChart" 19 0 1 (.object "EarChart$Shape") := ⟨"EarChart", F_E, 11, ft_E, rfl, fi_E, by decide, fo_E, fn_E, rfl, rfl, fun _ => rfl, Or.inl (k_at 186 (by decide +kernel) (by decide +kernel))⟩
theorem fg_E_26 : FG "EarChart" 26 0 2 := ⟨"EarChart", F_E, 11, rfl, fi_E, by decide, Or.inl (k_at 187 (by decide +kernel) (by decide +kernel))⟩
theorem fp_E_26 : FP true "EarChart" 26 0 2 (.object "EarChart$Meeting") := ⟨"EarChart", F_E, 11, ft_E, rfl, fi_E, by decide, fo_E, fn_E, rfl, rfl, fun _ => rfl, Or.inl (k_at 187 (by decide +kernel) (by decide +kernel))⟩
theorem fg_E_33 : FG "EarChart" 33 0 3 := ⟨"EarChart", F_E, 11, rfl, fi_E, by decide, Or.inl (k_at 188 (by decide +kernel) (by decide +kernel))⟩
theorem fp_E_33 : FP true "EarChart" 33 0 3 (.object "EarChart$Laying") := ⟨"EarChart", F_E, 11, ft_E, rfl, fi_E, by decide, fo_E, fn_E, rfl, rfl, fun _ => rfl, Or.inl (k_at 188 (by decide +kernel) (by decide +kernel))⟩
theorem fg_E_37 : FG "EarChart" 37 0 4 := ⟨"EarChart", F_E, 11, rfl, fi_E, by decide, Or.inl (k_at 189 (by decide +kernel) (by decide +kernel))⟩
theorem fp_E_37 : FP true "EarChart" 37 0 4 (.array .boolean) := ⟨"EarChart", F_E, 11, ft_E, rfl, fi_E, by decide, fo_E, fn_E, rfl, rfl, fun _ => rfl, Or.inl (k_at 189 (by decide +kernel) (by decide +kernel))⟩
theorem fg_E_41 : FG "EarChart" 41 0 5 := ⟨"EarChart", F_E, 11, rfl, fi_E, by decide, Or.inl (k_at 190 (by decide +kernel) (by decide +kernel))⟩
theorem fp_E_41 : FP false "EarChart" 41 0 5 .int := ⟨"EarChart", F_E, 11, ft_E, rfl, fi_E, by decide, fo_E, fn_E, rfl, rfl, (fun q => absurd q (by decide)), Or.inl (k_at 190 (by decide +kernel) (by decide +kernel))⟩
theorem fg_E_45 : FG "EarChart" 45 0 6 := ⟨"EarChart", F_E, 11, rfl, fi_E, by decide, Or.inl (k_at 191 (by decide +kernel) (by decide +kernel))⟩
theorem fp_E_45 : FP false "EarChart" 45 0 6 .int := ⟨"EarChart", F_E, 11, ft_E, rfl, fi_E, by decide, fo_E, fn_E, rfl, rfl, (fun q => absurd q (by decide)), Or.inl (k_at 191 (by decide +kernel) (by decide +kernel))⟩
theorem fg_E_48 : FG "EarChart" 48 0 7 := ⟨"EarChart", F_E, 11, rfl, fi_E, by decide, Or.inl (k_at 192 (by decide +kernel) (by decide +kernel))⟩
theorem fp_E_48 : FP false "EarChart" 48 0 7 .int := ⟨"EarChart", F_E, 11, ft_E, rfl, fi_E, by decide, fo_E, fn_E, rfl, rfl, (fun q => absurd q (by decide)), Or.inl (k_at 192 (by decide +kernel) (by decide +kernel))⟩
theorem fg_E_51 : FG "EarChart" 51 0 8 := ⟨"EarChart", F_E, 11, rfl, fi_E, by decide, Or.inl (k_at 193 (by decide +kernel) (by decide +kernel))⟩
theorem fp_E_51 : FP false "EarChart" 51 0 8 .int := ⟨"EarChart", F_E, 11, ft_E, rfl, fi_E, by decide, fo_E, fn_E, rfl, rfl, (fun q => absurd q (by decide)), Or.inl (k_at 193 (by decide +kernel) (by decide +kernel))⟩
theorem fg_E_54 : FG "EarChart" 54 0 9 := ⟨"EarChart", F_E, 11, rfl, fi_E, by decide, Or.inl (k_at 194 (by decide +kernel) (by decide +kernel))⟩
theorem fp_E_54 : FP false "EarChart" 54 0 9 .int := ⟨"EarChart", F_E, 11, ft_E, rfl, fi_E, by decide, fo_E, fn_E, rfl, rfl, (fun q => absurd q (by decide)), Or.inl (k_at 194 (by decide +kernel) (by decide +kernel))⟩
theorem fg_E_57 : FG "EarChart" 57 0 10 := ⟨"EarChart", F_E, 11, rfl, fi_E, by decide, Or.inl (k_at 195 (by decide +kernel) (by decide +kernel))⟩
theorem fp_E_57 : FP false "EarChart" 57 0 10 .int := ⟨"EarChart", F_E, 11, ft_E, rfl, fi_E, by decide, fo_E, fn_E, rfl, rfl, (fun q => absurd q (by decide)), Or.inl (k_at 195 (by decide +kernel) (by decide +kernel))⟩
theorem fg_E_75 : FG "EarChart" 75 1 0 := ⟨"EarChart$Row", F_R, 4, rfl, fi_R, by decide, Or.inr ⟨"EarChart", k_at 80 (by decide +kernel) (by decide +kernel)⟩⟩
theorem fg_E_79 : FG "EarChart" 79 1 1 := ⟨"EarChart$Row", F_R, 4, rfl, fi_R, by decide, Or.inr ⟨"EarChart", k_at 82 (by decide +kernel) (by decide +kernel)⟩⟩
theorem fp_E_79 : FP false "EarChart" 79 1 1 .int := ⟨"EarChart$Row", F_R, 4, ft_R, rfl, fi_R, by decide, fo_R, fn_R, rfl, rfl, (fun q => absurd q (by decide)), Or.inr ⟨rfl, "EarChart", k_at 82 (by decide +kernel) (by decide +kernel)⟩⟩
theorem fg_E_86 : FG "EarChart" 86 1 2 := ⟨"EarChart$Row", F_R, 4, rfl, fi_R, by decide, Or.inr ⟨"EarChart", k_at 84 (by decide +kernel) (by decide +kernel)⟩⟩
theorem fp_E_86 : FP false "EarChart" 86 1 2 .int := ⟨"EarChart$Row", F_R, 4, ft_R, rfl, fi_R, by decide, fo_R, fn_R, rfl, rfl, (fun q => absurd q (by decide)), Or.inr ⟨rfl, "EarChart", k_at 84 (by decide +kernel) (by decide +kernel)⟩⟩
theorem fg_E_92 : FG "EarChart" 92 2 5 := ⟨"EarChart$Shape", F_S, 8, rfl, fi_S, by decide, Or.inr ⟨"EarChart", k_at 116 (by decide +kernel) (by decide +kernel)⟩⟩
theorem fg_E_95 : FG "EarChart" 95 2 7 := ⟨"EarChart$Shape", F_S, 8, rfl, fi_S, by decide, Or.inr ⟨"EarChart", k_at 120 (by decide +kernel) (by decide +kernel)⟩⟩
theorem fg_E_104 : FG "EarChart" 104 2 1 := ⟨"EarChart$Shape", F_S, 8, rfl, fi_S, by decide, Or.inr ⟨"EarChart", k_at 109 (by decide +kernel) (by decide +kernel)⟩⟩
theorem fg_E_107 : FG "EarChart" 107 2 2 := ⟨"EarChart$Shape", F_S, 8, rfl, fi_S, by decide, Or.inr ⟨"EarChart", k_at 111 (by decide +kernel) (by decide +kernel)⟩⟩
theorem fg_E_110 : FG "EarChart" 110 2 0 := ⟨"EarChart$Shape", F_S, 8, rfl, fi_S, by decide, Or.inr ⟨"EarChart", k_at 107 (by decide +kernel) (by decide +kernel)⟩⟩
theorem fg_E_113 : FG "EarChart" 113 2 6 := ⟨"EarChart$Shape", F_S, 8, rfl, fi_S, by decide, Or.inr ⟨"EarChart", k_at 118 (by decide +kernel) (by decide +kernel)⟩⟩
theorem fg_E_116 : FG "EarChart" 116 2 3 := ⟨"EarChart$Shape", F_S, 8, rfl, fi_S, by decide, Or.inr ⟨"EarChart", k_at 113 (by decide +kernel) (by decide +kernel)⟩⟩
theorem fg_E_130 : FG "EarChart" 130 3 1 := ⟨"EarChart$Meeting", F_M, 2, rfl, fi_M, by decide, Or.inr ⟨"EarChart", k_at 147 (by decide +kernel) (by decide +kernel)⟩⟩
theorem fg_E_131 : FG "EarChart" 131 3 0 := ⟨"EarChart$Meeting", F_M, 2, rfl, fi_M, by decide, Or.inr ⟨"EarChart", k_at 145 (by decide +kernel) (by decide +kernel)⟩⟩
theorem fg_E_145 : FG "EarChart" 145 1 3 := ⟨"EarChart$Row", F_R, 4, rfl, fi_R, by decide, Or.inr ⟨"EarChart", k_at 87 (by decide +kernel) (by decide +kernel)⟩⟩
theorem fp_E_145 : FP false "EarChart" 145 1 3 .int := ⟨"EarChart$Row", F_R, 4, ft_R, rfl, fi_R, by decide, fo_R, fn_R, rfl, rfl, (fun q => absurd q (by decide)), Or.inr ⟨rfl, "EarChart", k_at 87 (by decide +kernel) (by decide +kernel)⟩⟩
theorem fg_E_151 : FG "EarChart" 151 4 6 := ⟨"EarChart$Laying", F_L, 7, rfl, fi_L, by decide, Or.inr ⟨"EarChart", k_at 169 (by decide +kernel) (by decide +kernel)⟩⟩
theorem fg_E_157 : FG "EarChart" 157 4 2 := ⟨"EarChart$Laying", F_L, 7, rfl, fi_L, by decide, Or.inr ⟨"EarChart", k_at 164 (by decide +kernel) (by decide +kernel)⟩⟩
theorem fg_E_204 : FG "EarChart" 204 4 0 := ⟨"EarChart$Laying", F_L, 7, rfl, fi_L, by decide, Or.inr ⟨"EarChart", k_at 160 (by decide +kernel) (by decide +kernel)⟩⟩
theorem fg_E_207 : FG "EarChart" 207 4 1 := ⟨"EarChart$Laying", F_L, 7, rfl, fi_L, by decide, Or.inr ⟨"EarChart", k_at 162 (by decide +kernel) (by decide +kernel)⟩⟩
theorem fg_T_7 : FG "EarChartModel" 7 5 0 := ⟨"EarChartModel", F_T, 28, rfl, fi_T, by decide, Or.inl (k_at 526 (by decide +kernel) (by decide +kernel))⟩
theorem fp_T_7 : FP true "EarChartModel" 7 5 0 (.array .int) := ⟨"EarChartModel", F_T, 28, ft_T, rfl, fi_T, by decide, fo_T, fn_T, rfl, rfl, fun _ => rfl, Or.inl (k_at 526 (by decide +kernel) (by decide +kernel))⟩
theorem fg_T_13 : FG "EarChartModel" 13 5 1 := ⟨"EarChartModel", F_T, 28, rfl, fi_T, by decide, Or.inl (k_at 527 (by decide +kernel) (by decide +kernel))⟩
theorem fp_T_13 : FP true "EarChartModel" 13 5 1 (.array .int) := ⟨"EarChartModel", F_T, 28, ft_T, rfl, fi_T, by decide, fo_T, fn_T, rfl, rfl, fun _ => rfl, Or.inl (k_at 527 (by decide +kernel) (by decide +kernel))⟩
theorem fg_T_16 : FG "EarChartModel" 16 5 2 := ⟨"EarChartModel", F_T, 28, rfl, fi_T, by decide, Or.inl (k_at 528 (by decide +kernel) (by decide +kernel))⟩
theorem fp_T_16 : FP true "EarChartModel" 16 5 2 (.array .int) := ⟨"EarChartModel", F_T, 28, ft_T, rfl, fi_T, by decide, fo_T, fn_T, rfl, rfl, fun _ => rfl, Or.inl (k_at 528 (by decide +kernel) (by decide +kernel))⟩
theorem fg_T_19 : FG "EarChartModel" 19 5 3 := ⟨"EarChartModel", F_T, 28, rfl, fi_T, by decide, Or.inl (k_at 529 (by decide +kernel) (by decide +kernel))⟩
theorem fp_T_19 : FP true "EarChartModel" 19 5 3 (.array .int) := ⟨"EarChartModel", F_T, 28, ft_T, rfl, fi_T, by decide, fo_T, fn_T, rfl, rfl, fun _ => rfl, Or.inl (k_at 529 (by decide +kernel) (by decide +kernel))⟩
theorem fg_T_22 : FG "EarChartModel" 22 5 4 := ⟨"EarChartModel", F_T, 28, rfl, fi_T, by decide, Or.inl (k_at 530 (by decide +kernel) (by decide +kernel))⟩
theorem fp_T_22 : FP false "EarChartModel" 22 5 4 .int := ⟨"EarChartModel", F_T, 28, ft_T, rfl, fi_T, by decide, fo_T, fn_T, rfl, rfl, (fun q => absurd q (by decide)), Or.inl (k_at 530 (by decide +kernel) (by decide +kernel))⟩
theorem fg_T_26 : FG "EarChartModel" 26 5 5 := ⟨"EarChartModel", F_T, 28, rfl, fi_T, by decide, Or.inl (k_at 531 (by decide +kernel) (by decide +kernel))⟩
theorem fp_T_26 : FP false "EarChartModel" 26 5 5 .int := ⟨"EarChartModel", F_T, 28, ft_T, rfl, fi_T, by decide, fo_T, fn_T, rfl, rfl, (fun q => absurd q (by decide)), Or.inl (k_at 531 (by decide +kernel) (by decide +kernel))⟩
theorem fg_T_29 : FG "EarChartModel" 29 5 7 := ⟨"EarChartModel", F_T, 28, rfl, fi_T, by decide, Or.inl (k_at 533 (by decide +kernel) (by decide +kernel))⟩
theorem fp_T_29 : FP true "EarChartModel" 29 5 7 (.array .int) := ⟨"EarChartModel", F_T, 28, ft_T, rfl, fi_T, by decide, fo_T, fn_T, rfl, rfl, fun _ => rfl, Or.inl (k_at 533 (by decide +kernel) (by decide +kernel))⟩
theorem fg_T_32 : FG "EarChartModel" 32 5 8 := ⟨"EarChartModel", F_T, 28, rfl, fi_T, by decide, Or.inl (k_at 534 (by decide +kernel) (by decide +kernel))⟩
theorem fp_T_32 : FP true "EarChartModel" 32 5 8 (.array .int) := ⟨"EarChartModel", F_T, 28, ft_T, rfl, fi_T, by decide, fo_T, fn_T, rfl, rfl, fun _ => rfl, Or.inl (k_at 534 (by decide +kernel) (by decide +kernel))⟩
theorem fg_T_35 : FG "EarChartModel" 35 5 11 := ⟨"EarChartModel", F_T, 28, rfl, fi_T, by decide, Or.inl (k_at 537 (by decide +kernel) (by decide +kernel))⟩
theorem fp_T_35 : FP true "EarChartModel" 35 5 11 (.array .int) := ⟨"EarChartModel", F_T, 28, ft_T, rfl, fi_T, by decide, fo_T, fn_T, rfl, rfl, fun _ => rfl, Or.inl (k_at 537 (by decide +kernel) (by decide +kernel))⟩
theorem fg_T_38 : FG "EarChartModel" 38 5 12 := ⟨"EarChartModel", F_T, 28, rfl, fi_T, by decide, Or.inl (k_at 538 (by decide +kernel) (by decide +kernel))⟩
theorem fp_T_38 : FP true "EarChartModel" 38 5 12 (.array .int) := ⟨"EarChartModel", F_T, 28, ft_T, rfl, fi_T, by decide, fo_T, fn_T, rfl, rfl, fun _ => rfl, Or.inl (k_at 538 (by decide +kernel) (by decide +kernel))⟩
theorem fg_T_41 : FG "EarChartModel" 41 5 13 := ⟨"EarChartModel", F_T, 28, rfl, fi_T, by decide, Or.inl (k_at 539 (by decide +kernel) (by decide +kernel))⟩
theorem fp_T_41 : FP true "EarChartModel" 41 5 13 (.array .int) := ⟨"EarChartModel", F_T, 28, ft_T, rfl, fi_T, by decide, fo_T, fn_T, rfl, rfl, fun _ => rfl, Or.inl (k_at 539 (by decide +kernel) (by decide +kernel))⟩
theorem fg_T_44 : FG "EarChartModel" 44 5 15 := ⟨"EarChartModel", F_T, 28, rfl, fi_T, by decide, Or.inl (k_at 541 (by decide +kernel) (by decide +kernel))⟩
theorem fp_T_44 : FP true "EarChartModel" 44 5 15 (.array .int) := ⟨"EarChartModel", F_T, 28, ft_T, rfl, fi_T, by decide, fo_T, fn_T, rfl, rfl, fun _ => rfl, Or.inl (k_at 541 (by decide +kernel) (by decide +kernel))⟩
theorem fg_T_47 : FG "EarChartModel" 47 5 17 := ⟨"EarChartModel", F_T, 28, rfl, fi_T, by decide, Or.inl (k_at 543 (by decide +kernel) (by decide +kernel))⟩
theorem fp_T_47 : FP true "EarChartModel" 47 5 17 (.array .int) := ⟨"EarChartModel", F_T, 28, ft_T, rfl, fi_T, by decide, fo_T, fn_T, rfl, rfl, fun _ => rfl, Or.inl (k_at 543 (by decide +kernel) (by decide +kernel))⟩
theorem fg_T_50 : FG "EarChartModel" 50 5 19 := ⟨"EarChartModel", F_T, 28, rfl, fi_T, by decide, Or.inl (k_at 545 (by decide +kernel) (by decide +kernel))⟩
theorem fp_T_50 : FP false "EarChartModel" 50 5 19 .int := ⟨"EarChartModel", F_T, 28, ft_T, rfl, fi_T, by decide, fo_T, fn_T, rfl, rfl, (fun q => absurd q (by decide)), Or.inl (k_at 545 (by decide +kernel) (by decide +kernel))⟩
theorem fg_T_53 : FG "EarChartModel" 53 5 20 := ⟨"EarChartModel", F_T, 28, rfl, fi_T, by decide, Or.inl (k_at 546 (by decide +kernel) (by decide +kernel))⟩
theorem fp_T_53 : FP false "EarChartModel" 53 5 20 .int := ⟨"EarChartModel", F_T, 28, ft_T, rfl, fi_T, by decide, fo_T, fn_T, rfl, rfl, (fun q => absurd q (by decide)), Or.inl (k_at 546 (by decide +kernel) (by decide +kernel))⟩
theorem fg_T_56 : FG "EarChartModel" 56 5 23 := ⟨"EarChartModel", F_T, 28, rfl, fi_T, by decide, Or.inl (k_at 549 (by decide +kernel) (by decide +kernel))⟩
theorem fp_T_56 : FP true "EarChartModel" 56 5 23 (.array .int) := ⟨"EarChartModel", F_T, 28, ft_T, rfl, fi_T, by decide, fo_T, fn_T, rfl, rfl, fun _ => rfl, Or.inl (k_at 549 (by decide +kernel) (by decide +kernel))⟩
theorem fg_T_59 : FG "EarChartModel" 59 5 24 := ⟨"EarChartModel", F_T, 28, rfl, fi_T, by decide, Or.inl (k_at 550 (by decide +kernel) (by decide +kernel))⟩
theorem fp_T_59 : FP true "EarChartModel" 59 5 24 (.array .int) := ⟨"EarChartModel", F_T, 28, ft_T, rfl, fi_T, by decide, fo_T, fn_T, rfl, rfl, fun _ => rfl, Or.inl (k_at 550 (by decide +kernel) (by decide +kernel))⟩
theorem fg_T_62 : FG "EarChartModel" 62 5 25 := ⟨"EarChartModel", F_T, 28, rfl, fi_T, by decide, Or.inl (k_at 551 (by decide +kernel) (by decide +kernel))⟩
theorem fp_T_62 : FP true "EarChartModel" 62 5 25 (.array .int) := ⟨"EarChartModel", F_T, 28, ft_T, rfl, fi_T, by decide, fo_T, fn_T, rfl, rfl, fun _ => rfl, Or.inl (k_at 551 (by decide +kernel) (by decide +kernel))⟩
theorem fg_T_65 : FG "EarChartModel" 65 5 26 := ⟨"EarChartModel", F_T, 28, rfl, fi_T, by decide, Or.inl (k_at 552 (by decide +kernel) (by decide +kernel))⟩
theorem fp_T_65 : FP true "EarChartModel" 65 5 26 (.array .int) := ⟨"EarChartModel", F_T, 28, ft_T, rfl, fi_T, by decide, fo_T, fn_T, rfl, rfl, fun _ => rfl, Or.inl (k_at 552 (by decide +kernel) (by decide +kernel))⟩
theorem fg_T_68 : FG "EarChartModel" 68 5 27 := ⟨"EarChartModel", F_T, 28, rfl, fi_T, by decide, Or.inl (k_at 553 (by decide +kernel) (by decide +kernel))⟩
theorem fp_T_68 : FP true "EarChartModel" 68 5 27 (.array .boolean) := ⟨"EarChartModel", F_T, 28, ft_T, rfl, fi_T, by decide, fo_T, fn_T, rfl, rfl, fun _ => rfl, Or.inl (k_at 553 (by decide +kernel) (by decide +kernel))⟩
theorem fg_T_106 : FG "EarChartModel" 106 5 10 := ⟨"EarChartModel", F_T, 28, rfl, fi_T, by decide, Or.inl (k_at 536 (by decide +kernel) (by decide +kernel))⟩
theorem fp_T_106 : FP false "EarChartModel" 106 5 10 .int := ⟨"EarChartModel", F_T, 28, ft_T, rfl, fi_T, by decide, fo_T, fn_T, rfl, rfl, (fun q => absurd q (by decide)), Or.inl (k_at 536 (by decide +kernel) (by decide +kernel))⟩
theorem fg_T_109 : FG "EarChartModel" 109 5 9 := ⟨"EarChartModel", F_T, 28, rfl, fi_T, by decide, Or.inl (k_at 535 (by decide +kernel) (by decide +kernel))⟩
theorem fp_T_109 : FP false "EarChartModel" 109 5 9 .int := ⟨"EarChartModel", F_T, 28, ft_T, rfl, fi_T, by decide, fo_T, fn_T, rfl, rfl, (fun q => absurd q (by decide)), Or.inl (k_at 535 (by decide +kernel) (by decide +kernel))⟩
theorem fg_T_115 : FG "EarChartModel" 115 5 14 := ⟨"EarChartModel", F_T, 28, rfl, fi_T, by decide, Or.inl (k_at 540 (by decide +kernel) (by decide +kernel))⟩
theorem fp_T_115 : FP false "EarChartModel" 115 5 14 .int := ⟨"EarChartModel", F_T, 28, ft_T, rfl, fi_T, by decide, fo_T, fn_T, rfl, rfl, (fun q => absurd q (by decide)), Or.inl (k_at 540 (by decide +kernel) (by decide +kernel))⟩
theorem fg_T_125 : FG "EarChartModel" 125 5 16 := ⟨"EarChartModel", F_T, 28, rfl, fi_T, by decide, Or.inl (k_at 542 (by decide +kernel) (by decide +kernel))⟩
theorem fp_T_125 : FP false "EarChartModel" 125 5 16 .int := ⟨"EarChartModel", F_T, 28, ft_T, rfl, fi_T, by decide, fo_T, fn_T, rfl, rfl, (fun q => absurd q (by decide)), Or.inl (k_at 542 (by decide +kernel) (by decide +kernel))⟩
theorem fg_T_135 : FG "EarChartModel" 135 5 21 := ⟨"EarChartModel", F_T, 28, rfl, fi_T, by decide, Or.inl (k_at 547 (by decide +kernel) (by decide +kernel))⟩
theorem fp_T_135 : FP false "EarChartModel" 135 5 21 .int := ⟨"EarChartModel", F_T, 28, ft_T, rfl, fi_T, by decide, fo_T, fn_T, rfl, rfl, (fun q => absurd q (by decide)), Or.inl (k_at 547 (by decide +kernel) (by decide +kernel))⟩
theorem fg_T_138 : FG "EarChartModel" 138 5 22 := ⟨"EarChartModel", F_T, 28, rfl, fi_T, by decide, Or.inl (k_at 548 (by decide +kernel) (by decide +kernel))⟩
theorem fp_T_138 : FP false "EarChartModel" 138 5 22 .int := ⟨"EarChartModel", F_T, 28, ft_T, rfl, fi_T, by decide, fo_T, fn_T, rfl, rfl, (fun q => absurd q (by decide)), Or.inl (k_at 548 (by decide +kernel) (by decide +kernel))⟩
theorem fg_T_145 : FG "EarChartModel" 145 5 18 := ⟨"EarChartModel", F_T, 28, rfl, fi_T, by decide, Or.inl (k_at 544 (by decide +kernel) (by decide +kernel))⟩
theorem fp_T_145 : FP false "EarChartModel" 145 5 18 .int := ⟨"EarChartModel", F_T, 28, ft_T, rfl, fi_T, by decide, fo_T, fn_T, rfl, rfl, (fun q => absurd q (by decide)), Or.inl (k_at 544 (by decide +kernel) (by decide +kernel))⟩
theorem fg_T_163 : FG "EarChartModel" 163 5 6 := ⟨"EarChartModel", F_T, 28, rfl, fi_T, by decide, Or.inl (k_at 532 (by decide +kernel) (by decide +kernel))⟩
theorem fp_T_163 : FP false "EarChartModel" 163 5 6 .int := ⟨"EarChartModel", F_T, 28, ft_T, rfl, fi_T, by decide, fo_T, fn_T, rfl, rfl, (fun q => absurd q (by decide)), Or.inl (k_at 532 (by decide +kernel) (by decide +kernel))⟩
theorem fg_L_9 : FG "EarChart$Laying" 9 4 0 := ⟨"EarChart$Laying", F_L, 7, rfl, fi_L, by decide, Or.inl (k_at 159 (by decide +kernel) (by decide +kernel))⟩
theorem fp_L_9 : FP true "EarChart$Laying" 9 4 0 (.array .int) := ⟨"EarChart$Laying", F_L, 7, ft_L, rfl, fi_L, by decide, fo_L, fn_L, rfl, rfl, fun _ => rfl, Or.inl (k_at 159 (by decide +kernel) (by decide +kernel))⟩
theorem fg_L_15 : FG "EarChart$Laying" 15 4 1 := ⟨"EarChart$Laying", F_L, 7, rfl, fi_L, by decide, Or.inl (k_at 161 (by decide +kernel) (by decide +kernel))⟩
theorem fp_L_15 : FP true "EarChart$Laying" 15 4 1 (.array .int) := ⟨"EarChart$Laying", F_L, 7, ft_L, rfl, fi_L, by decide, fo_L, fn_L, rfl, rfl, fun _ => rfl, Or.inl (k_at 161 (by decide +kernel) (by decide +kernel))⟩
theorem fg_L_18 : FG "EarChart$Laying" 18 4 2 := ⟨"EarChart$Laying", F_L, 7, rfl, fi_L, by decide, Or.inl (k_at 163 (by decide +kernel) (by decide +kernel))⟩
theorem fp_L_18 : FP true "EarChart$Laying" 18 4 2 (.array .int) := ⟨"EarChart$Laying", F_L, 7, ft_L, rfl, fi_L, by decide, fo_L, fn_L, rfl, rfl, fun _ => rfl, Or.inl (k_at 163 (by decide +kernel) (by decide +kernel))⟩
theorem fg_L_21 : FG "EarChart$Laying" 21 4 3 := ⟨"EarChart$Laying", F_L, 7, rfl, fi_L, by decide, Or.inl (k_at 165 (by decide +kernel) (by decide +kernel))⟩
theorem fp_L_21 : FP true "EarChart$Laying" 21 4 3 (.array .int) := ⟨"EarChart$Laying", F_L, 7, ft_L, rfl, fi_L, by decide, fo_L, fn_L, rfl, rfl, fun _ => rfl, Or.inl (k_at 165 (by decide +kernel) (by decide +kernel))⟩
theorem fg_L_24 : FG "EarChart$Laying" 24 4 4 := ⟨"EarChart$Laying", F_L, 7, rfl, fi_L, by decide, Or.inl (k_at 166 (by decide +kernel) (by decide +kernel))⟩
theorem fp_L_24 : FP false "EarChart$Laying" 24 4 4 .int := ⟨"EarChart$Laying", F_L, 7, ft_L, rfl, fi_L, by decide, fo_L, fn_L, rfl, rfl, (fun q => absurd q (by decide)), Or.inl (k_at 166 (by decide +kernel) (by decide +kernel))⟩
theorem fg_L_28 : FG "EarChart$Laying" 28 4 5 := ⟨"EarChart$Laying", F_L, 7, rfl, fi_L, by decide, Or.inl (k_at 167 (by decide +kernel) (by decide +kernel))⟩
theorem fp_L_28 : FP false "EarChart$Laying" 28 4 5 .int := ⟨"EarChart$Laying", F_L, 7, ft_L, rfl, fi_L, by decide, fo_L, fn_L, rfl, rfl, (fun q => absurd q (by decide)), Or.inl (k_at 167 (by decide +kernel) (by decide +kernel))⟩
theorem fg_L_31 : FG "EarChart$Laying" 31 4 6 := ⟨"EarChart$Laying", F_L, 7, rfl, fi_L, by decide, Or.inl (k_at 168 (by decide +kernel) (by decide +kernel))⟩
theorem fp_L_31 : FP false "EarChart$Laying" 31 4 6 .int := ⟨"EarChart$Laying", F_L, 7, ft_L, rfl, fi_L, by decide, fo_L, fn_L, rfl, rfl, (fun q => absurd q (by decide)), Or.inl (k_at 168 (by decide +kernel) (by decide +kernel))⟩
theorem fg_M_9 : FG "EarChart$Meeting" 9 3 0 := ⟨"EarChart$Meeting", F_M, 2, rfl, fi_M, by decide, Or.inl (k_at 144 (by decide +kernel) (by decide +kernel))⟩
theorem fp_M_9 : FP true "EarChart$Meeting" 9 3 0 (.array .int) := ⟨"EarChart$Meeting", F_M, 2, ft_M, rfl, fi_M, by decide, fo_M, fn_M, rfl, rfl, fun _ => rfl, Or.inl (k_at 144 (by decide +kernel) (by decide +kernel))⟩
theorem fg_M_15 : FG "EarChart$Meeting" 15 3 1 := ⟨"EarChart$Meeting", F_M, 2, rfl, fi_M, by decide, Or.inl (k_at 146 (by decide +kernel) (by decide +kernel))⟩
theorem fp_M_15 : FP false "EarChart$Meeting" 15 3 1 .int := ⟨"EarChart$Meeting", F_M, 2, ft_M, rfl, fi_M, by decide, fo_M, fn_M, rfl, rfl, (fun q => absurd q (by decide)), Or.inl (k_at 146 (by decide +kernel) (by decide +kernel))⟩
theorem fg_R_9 : FG "EarChart$Row" 9 1 0 := ⟨"EarChart$Row", F_R, 4, rfl, fi_R, by decide, Or.inl (k_at 78 (by decide +kernel) (by decide +kernel))⟩
theorem fp_R_9 : FP true "EarChart$Row" 9 1 0 (.array .int) := ⟨"EarChart$Row", F_R, 4, ft_R, rfl, fi_R, by decide, fo_R, fn_R, rfl, rfl, fun _ => rfl, Or.inl (k_at 78 (by decide +kernel) (by decide +kernel))⟩
theorem fg_R_15 : FG "EarChart$Row" 15 1 1 := ⟨"EarChart$Row", F_R, 4, rfl, fi_R, by decide, Or.inl (k_at 81 (by decide +kernel) (by decide +kernel))⟩
theorem fp_R_15 : FP false "EarChart$Row" 15 1 1 .int := ⟨"EarChart$Row", F_R, 4, ft_R, rfl, fi_R, by decide, fo_R, fn_R, rfl, rfl, (fun q => absurd q (by decide)), Or.inl (k_at 81 (by decide +kernel) (by decide +kernel))⟩
theorem fg_R_19 : FG "EarChart$Row" 19 1 2 := ⟨"EarChart$Row", F_R, 4, rfl, fi_R, by decide, Or.inl (k_at 83 (by decide +kernel) (by decide +kernel))⟩
theorem fp_R_19 : FP false "EarChart$Row" 19 1 2 .int := ⟨"EarChart$Row", F_R, 4, ft_R, rfl, fi_R, by decide, fo_R, fn_R, rfl, rfl, (fun q => absurd q (by decide)), Or.inl (k_at 83 (by decide +kernel) (by decide +kernel))⟩
theorem fg_R_22 : FG "EarChart$Row" 22 1 3 := ⟨"EarChart$Row", F_R, 4, rfl, fi_R, by decide, Or.inl (k_at 86 (by decide +kernel) (by decide +kernel))⟩
theorem fp_R_22 : FP false "EarChart$Row" 22 1 3 .int := ⟨"EarChart$Row", F_R, 4, ft_R, rfl, fi_R, by decide, fo_R, fn_R, rfl, rfl, (fun q => absurd q (by decide)), Or.inl (k_at 86 (by decide +kernel) (by decide +kernel))⟩
theorem fg_S_9 : FG "EarChart$Shape" 9 2 0 := ⟨"EarChart$Shape", F_S, 8, rfl, fi_S, by decide, Or.inl (k_at 106 (by decide +kernel) (by decide +kernel))⟩
theorem fp_S_9 : FP true "EarChart$Shape" 9 2 0 (.array .int) := ⟨"EarChart$Shape", F_S, 8, ft_S, rfl, fi_S, by decide, fo_S, fn_S, rfl, rfl, fun _ => rfl, Or.inl (k_at 106 (by decide +kernel) (by decide +kernel))⟩
theorem fg_S_15 : FG "EarChart$Shape" 15 2 1 := ⟨"EarChart$Shape", F_S, 8, rfl, fi_S, by decide, Or.inl (k_at 108 (by decide +kernel) (by decide +kernel))⟩
theorem fp_S_15 : FP true "EarChart$Shape" 15 2 1 (.array .int) := ⟨"EarChart$Shape", F_S, 8, ft_S, rfl, fi_S, by decide, fo_S, fn_S, rfl, rfl, fun _ => rfl, Or.inl (k_at 108 (by decide +kernel) (by decide +kernel))⟩
theorem fg_S_18 : FG "EarChart$Shape" 18 2 2 := ⟨"EarChart$Shape", F_S, 8, rfl, fi_S, by decide, Or.inl (k_at 110 (by decide +kernel) (by decide +kernel))⟩
theorem fp_S_18 : FP true "EarChart$Shape" 18 2 2 (.array .int) := ⟨"EarChart$Shape", F_S, 8, ft_S, rfl, fi_S, by decide, fo_S, fn_S, rfl, rfl, fun _ => rfl, Or.inl (k_at 110 (by decide +kernel) (by decide +kernel))⟩
theorem fg_S_21 : FG "EarChart$Shape" 21 2 3 := ⟨"EarChart$Shape", F_S, 8, rfl, fi_S, by decide, Or.inl (k_at 112 (by decide +kernel) (by decide +kernel))⟩
theorem fp_S_21 : FP true "EarChart$Shape" 21 2 3 (.array .int) := ⟨"EarChart$Shape", F_S, 8, ft_S, rfl, fi_S, by decide, fo_S, fn_S, rfl, rfl, fun _ => rfl, Or.inl (k_at 112 (by decide +kernel) (by decide +kernel))⟩
theorem fg_S_26 : FG "EarChart$Shape" 26 2 4 := ⟨"EarChart$Shape", F_S, 8, rfl, fi_S, by decide, Or.inl (k_at 114 (by decide +kernel) (by decide +kernel))⟩
theorem fp_S_26 : FP true "EarChart$Shape" 26 2 4 (.array (.array .int)) := ⟨"EarChart$Shape", F_S, 8, ft_S, rfl, fi_S, by decide, fo_S, fn_S, rfl, rfl, fun _ => rfl, Or.inl (k_at 114 (by decide +kernel) (by decide +kernel))⟩
theorem fg_S_29 : FG "EarChart$Shape" 29 2 5 := ⟨"EarChart$Shape", F_S, 8, rfl, fi_S, by decide, Or.inl (k_at 115 (by decide +kernel) (by decide +kernel))⟩
theorem fp_S_29 : FP false "EarChart$Shape" 29 2 5 .int := ⟨"EarChart$Shape", F_S, 8, ft_S, rfl, fi_S, by decide, fo_S, fn_S, rfl, rfl, (fun q => absurd q (by decide)), Or.inl (k_at 115 (by decide +kernel) (by decide +kernel))⟩
theorem fg_S_33 : FG "EarChart$Shape" 33 2 6 := ⟨"EarChart$Shape", F_S, 8, rfl, fi_S, by decide, Or.inl (k_at 117 (by decide +kernel) (by decide +kernel))⟩
theorem fp_S_33 : FP false "EarChart$Shape" 33 2 6 .int := ⟨"EarChart$Shape", F_S, 8, ft_S, rfl, fi_S, by decide, fo_S, fn_S, rfl, rfl, (fun q => absurd q (by decide)), Or.inl (k_at 117 (by decide +kernel) (by decide +kernel))⟩
theorem fg_S_36 : FG "EarChart$Shape" 36 2 7 := ⟨"EarChart$Shape", F_S, 8, rfl, fi_S, by decide, Or.inl (k_at 119 (by decide +kernel) (by decide +kernel))⟩
theorem fp_S_36 : FP false "EarChart$Shape" 36 2 7 .int := ⟨"EarChart$Shape", F_S, 8, ft_S, rfl, fi_S, by decide, fo_S, fn_S, rfl, rfl, (fun q => absurd q (by decide)), Or.inl (k_at 119 (by decide +kernel) (by decide +kernel))⟩
theorem fg_S_56 : FG "EarChart$Shape" 56 1 0 := ⟨"EarChart$Row", F_R, 4, rfl, fi_R, by decide, Or.inr ⟨"EarChart", k_at 79 (by decide +kernel) (by decide +kernel)⟩⟩
theorem fg_S_94 : FG "EarChart$Shape" 94 1 2 := ⟨"EarChart$Row", F_R, 4, rfl, fi_R, by decide, Or.inr ⟨"EarChart", k_at 85 (by decide +kernel) (by decide +kernel)⟩⟩
theorem cb_E_init : CB0 kE_init 0 := ⟨k_at 67 (by decide +kernel) (by decide +kernel), k_at 55 (by decide +kernel) (by decide +kernel), ⟨by decide, by decide⟩, by decide +kernel, by decide⟩
theorem cb_E_value : CB0 kE_value 2 := ⟨k_at 223 (by decide +kernel) (by decide +kernel), k_at 55 (by decide +kernel) (by decide +kernel), ⟨by decide, by decide⟩, by decide +kernel, by decide⟩
theorem cb_E_gap : CB0 kE_gap 1 := ⟨k_at 241 (by decide +kernel) (by decide +kernel), k_at 55 (by decide +kernel) (by decide +kernel), ⟨by decide, by decide⟩, by decide +kernel, by decide⟩
theorem cb_E_put : CB0 kE_put 3 := ⟨k_at 245 (by decide +kernel) (by decide +kernel), k_at 55 (by decide +kernel) (by decide +kernel), ⟨by decide, by decide⟩, by decide +kernel, by decide⟩
theorem cb_E_clear : CB0 kE_clear 1 := ⟨k_at 253 (by decide +kernel) (by decide +kernel), k_at 55 (by decide +kernel) (by decide +kernel), ⟨by decide, by decide⟩, by decide +kernel, by decide⟩
theorem cb_E_miss : CB0 kE_miss 2 := ⟨k_at 257 (by decide +kernel) (by decide +kernel), k_at 55 (by decide +kernel) (by decide +kernel), ⟨by decide, by decide⟩, by decide +kernel, by decide⟩
theorem cb_E_part : CB0 kE_part 1 := ⟨k_at 261 (by decide +kernel) (by decide +kernel), k_at 55 (by decide +kernel) (by decide +kernel), ⟨by decide, by decide⟩, by decide +kernel, by decide⟩
theorem cb_E_at : CB0 kE_at 2 := ⟨k_at 265 (by decide +kernel) (by decide +kernel), k_at 55 (by decide +kernel) (by decide +kernel), ⟨by decide, by decide⟩, by decide +kernel, by decide⟩
theorem cb_E_spans : CB0 kE_spans 1 := ⟨k_at 269 (by decide +kernel) (by decide +kernel), k_at 55 (by decide +kernel) (by decide +kernel), ⟨by decide, by decide⟩, by decide +kernel, by decide⟩
theorem cb_E_cost : CB0 kE_cost 1 := ⟨k_at 333 (by decide +kernel) (by decide +kernel), k_at 55 (by decide +kernel) (by decide +kernel), ⟨by decide, by decide⟩, by decide +kernel, by decide⟩
theorem cb_E_span : CB0 kE_span 3 := ⟨k_at 337 (by decide +kernel) (by decide +kernel), k_at 55 (by decide +kernel) (by decide +kernel), ⟨by decide, by decide⟩, by decide +kernel, by decide⟩
theorem cb_E_kind : CB0 kE_kind 2 := ⟨k_at 346 (by decide +kernel) (by decide +kernel), k_at 55 (by decide +kernel) (by decide +kernel), ⟨by decide, by decide⟩, by decide +kernel, by decide⟩
theorem cb_E_turnsOf : CB0 kE_turnsOf 1 := ⟨k_at 350 (by decide +kernel) (by decide +kernel), k_at 55 (by decide +kernel) (by decide +kernel), ⟨by decide, by decide⟩, by decide +kernel, by decide⟩
theorem cb_E_turn : CB0 kE_turn 2 := ⟨k_at 354 (by decide +kernel) (by decide +kernel), k_at 55 (by decide +kernel) (by decide +kernel), ⟨by decide, by decide⟩, by decide +kernel, by decide⟩
theorem cb_E_sure : CB0 kE_sure 3 := ⟨k_at 358 (by decide +kernel) (by decide +kernel), k_at 55 (by decide +kernel) (by decide +kernel), ⟨by decide, by decide⟩, by decide +kernel, by decide⟩
theorem cb_E_crossings : CB0 kE_crossings 2 := ⟨k_at 369 (by decide +kernel) (by decide +kernel), k_at 55 (by decide +kernel) (by decide +kernel), ⟨by decide, by decide⟩, by decide +kernel, by decide⟩
theorem cb_E_crossing : CB0 kE_crossing 3 := ⟨k_at 382 (by decide +kernel) (by decide +kernel), k_at 55 (by decide +kernel) (by decide +kernel), ⟨by decide, by decide⟩, by decide +kernel, by decide⟩
theorem cb_E_scale : CB0 kE_scale 2 := ⟨k_at 386 (by decide +kernel) (by decide +kernel), k_at 55 (by decide +kernel) (by decide +kernel), ⟨by decide, by decide⟩, by decide +kernel, by decide⟩
theorem cb_E_height : CB0 kE_height 2 := ⟨k_at 414 (by decide +kernel) (by decide +kernel), k_at 55 (by decide +kernel) (by decide +kernel), ⟨by decide, by decide⟩, by decide +kernel, by decide⟩
theorem cb_E_ear : CB0 kE_ear 2 := ⟨k_at 422 (by decide +kernel) (by decide +kernel), k_at 55 (by decide +kernel) (by decide +kernel), ⟨by decide, by decide⟩, by decide +kernel, by decide⟩
theorem cb_E_worth : CB0 kE_worth 2 := ⟨k_at 426 (by decide +kernel) (by decide +kernel), k_at 55 (by decide +kernel) (by decide +kernel), ⟨by decide, by decide⟩, by decide +kernel, by decide⟩
theorem cb_E_lay : CB0 kE_lay 1 := ⟨k_at 430 (by decide +kernel) (by decide +kernel), k_at 55 (by decide +kernel) (by decide +kernel), ⟨by decide, by decide⟩, by decide +kernel, by decide⟩
theorem cb_E_slot : CB0 kE_slot 2 := ⟨k_at 455 (by decide +kernel) (by decide +kernel), k_at 55 (by decide +kernel) (by decide +kernel), ⟨by decide, by decide⟩, by decide +kernel, by decide⟩
theorem cb_E_hears : CB0 kE_hears 3 := ⟨k_at 459 (by decide +kernel) (by decide +kernel), k_at 55 (by decide +kernel) (by decide +kernel), ⟨by decide, by decide⟩, by decide +kernel, by decide⟩
theorem cb_E_whole : CB0 kE_whole 3 := ⟨k_at 471 (by decide +kernel) (by decide +kernel), k_at 55 (by decide +kernel) (by decide +kernel), ⟨by decide, by decide⟩, by decide +kernel, by decide⟩
theorem cb_E_walk : CB0 kE_walk 2 := ⟨k_at 487 (by decide +kernel) (by decide +kernel), k_at 55 (by decide +kernel) (by decide +kernel), ⟨by decide, by decide⟩, by decide +kernel, by decide⟩
theorem cb_E_where : CB0 kE_where 1 := ⟨k_at 491 (by decide +kernel) (by decide +kernel), k_at 55 (by decide +kernel) (by decide +kernel), ⟨by decide, by decide⟩, by decide +kernel, by decide⟩
theorem cb_E_go : CB0 kE_go 1 := ⟨k_at 495 (by decide +kernel) (by decide +kernel), k_at 55 (by decide +kernel) (by decide +kernel), ⟨by decide, by decide⟩, by decide +kernel, by decide⟩
theorem cb_E_seek : CB0 kE_seek 2 := ⟨k_at 499 (by decide +kernel) (by decide +kernel), k_at 55 (by decide +kernel) (by decide +kernel), ⟨by decide, by decide⟩, by decide +kernel, by decide⟩
theorem cb_E_within : CB0 kE_within 3 := ⟨k_at 230 (by decide +kernel) (by decide +kernel), k_at 55 (by decide +kernel) (by decide +kernel), ⟨by decide, by decide⟩, by decide +kernel, by decide⟩
theorem cb_E_isValue : CB0 kE_isValue 1 := ⟨k_at 233 (by decide +kernel) (by decide +kernel), k_at 55 (by decide +kernel) (by decide +kernel), ⟨by decide, by decide⟩, by decide +kernel, by decide⟩
theorem cb_E_rowOf : CB0 kE_rowOf 1 := ⟨k_at 227 (by decide +kernel) (by decide +kernel), k_at 55 (by decide +kernel) (by decide +kernel), ⟨by decide, by decide⟩, by decide +kernel, by decide⟩
theorem cb_E_areTwoRows : CB0 kE_areTwoRows 2 := ⟨k_at 361 (by decide +kernel) (by decide +kernel), k_at 55 (by decide +kernel) (by decide +kernel), ⟨by decide, by decide⟩, by decide +kernel, by decide⟩
theorem cb_E_readShape : CB0 kE_readShape 1 := ⟨k_at 273 (by decide +kernel) (by decide +kernel), k_at 55 (by decide +kernel) (by decide +kernel), ⟨by decide, by decide⟩, by decide +kernel, by decide⟩
theorem cb_E_readMeeting : CB0 kE_readMeeting 2 := ⟨k_at 373 (by decide +kernel) (by decide +kernel), k_at 55 (by decide +kernel) (by decide +kernel), ⟨by decide, by decide⟩, by decide +kernel, by decide⟩
theorem cb_E_compareSurely : CB0 kE_compareSurely 3 := ⟨k_at 364 (by decide +kernel) (by decide +kernel), k_at 55 (by decide +kernel) (by decide +kernel), ⟨by decide, by decide⟩, by decide +kernel, by decide⟩
theorem cb_E_lowestValue : CB0 kE_lowestValue 0 := ⟨k_at 390 (by decide +kernel) (by decide +kernel), k_at 55 (by decide +kernel) (by decide +kernel), ⟨by decide, by decide⟩, by decide +kernel, by decide⟩
theorem cb_E_highestValue : CB0 kE_highestValue 0 := ⟨k_at 402 (by decide +kernel) (by decide +kernel), k_at 55 (by decide +kernel) (by decide +kernel), ⟨by decide, by decide⟩, by decide +kernel, by decide⟩
theorem cb_E_heightAbove : CB0 kE_heightAbove 3 := ⟨k_at 418 (by decide +kernel) (by decide +kernel), k_at 55 (by decide +kernel) (by decide +kernel), ⟨by decide, by decide⟩, by decide +kernel, by decide⟩
theorem cb_E_readLaying : CB0 kE_readLaying 1 := ⟨k_at 434 (by decide +kernel) (by decide +kernel), k_at 55 (by decide +kernel) (by decide +kernel), ⟨by decide, by decide⟩, by decide +kernel, by decide⟩
theorem cb_E_soundsAbove : CB0 kE_soundsAbove 2 := ⟨k_at 467 (by decide +kernel) (by decide +kernel), k_at 55 (by decide +kernel) (by decide +kernel), ⟨by decide, by decide⟩, by decide +kernel, by decide⟩
theorem cb_E_markSought : CB0 kE_markSought 2 := ⟨k_at 503 (by decide +kernel) (by decide +kernel), k_at 55 (by decide +kernel) (by decide +kernel), ⟨by decide, by decide⟩, by decide +kernel, by decide⟩
theorem cb_E_markTurns : CB0 kE_markTurns 1 := ⟨k_at 507 (by decide +kernel) (by decide +kernel), k_at 55 (by decide +kernel) (by decide +kernel), ⟨by decide, by decide⟩, by decide +kernel, by decide⟩
theorem cb_E_markCrossings : CB0 kE_markCrossings 1 := ⟨k_at 511 (by decide +kernel) (by decide +kernel), k_at 55 (by decide +kernel) (by decide +kernel), ⟨by decide, by decide⟩, by decide +kernel, by decide⟩
theorem cb_E_markBehind : CB0 kE_markBehind 1 := ⟨k_at 515 (by decide +kernel) (by decide +kernel), k_at 55 (by decide +kernel) (by decide +kernel), ⟨by decide, by decide⟩, by decide +kernel, by decide⟩
theorem cb_E_markAhead : CB0 kE_markAhead 1 := ⟨k_at 519 (by decide +kernel) (by decide +kernel), k_at 55 (by decide +kernel) (by decide +kernel), ⟨by decide, by decide⟩, by decide +kernel, by decide⟩
theorem cb_T_init : CB0 kT_init 0 := ⟨k_at 524 (by decide +kernel) (by decide +kernel), k_at 60 (by decide +kernel) (by decide +kernel), ⟨by decide, by decide⟩, by decide +kernel, by decide⟩
theorem cb_T_isRow : CB0 kT_isRow 1 := ⟨k_at 624 (by decide +kernel) (by decide +kernel), k_at 60 (by decide +kernel) (by decide +kernel), ⟨by decide, by decide⟩, by decide +kernel, by decide⟩
theorem cb_T_isIn : CB0 kT_isIn 3 := ⟨k_at 617 (by decide +kernel) (by decide +kernel), k_at 60 (by decide +kernel) (by decide +kernel), ⟨by decide, by decide⟩, by decide +kernel, by decide⟩
theorem cb_T_isStep : CB0 kT_isStep 2 := ⟨k_at 636 (by decide +kernel) (by decide +kernel), k_at 60 (by decide +kernel) (by decide +kernel), ⟨by decide, by decide⟩, by decide +kernel, by decide⟩
theorem cb_T_hasValue : CB0 kT_hasValue 2 := ⟨k_at 676 (by decide +kernel) (by decide +kernel), k_at 60 (by decide +kernel) (by decide +kernel), ⟨by decide, by decide⟩, by decide +kernel, by decide⟩
theorem cb_T_valueAt : CB0 kT_valueAt 2 := ⟨k_at 656 (by decide +kernel) (by decide +kernel), k_at 60 (by decide +kernel) (by decide +kernel), ⟨by decide, by decide⟩, by decide +kernel, by decide⟩
theorem cb_T_adds : CB0 kT_adds 2 := ⟨k_at 621 (by decide +kernel) (by decide +kernel), k_at 60 (by decide +kernel) (by decide +kernel), ⟨by decide, by decide⟩, by decide +kernel, by decide⟩
theorem cb_T_value : CB0 kT_value 2 := ⟨k_at 614 (by decide +kernel) (by decide +kernel), k_at 60 (by decide +kernel) (by decide +kernel), ⟨by decide, by decide⟩, by decide +kernel, by decide⟩
theorem cb_T_gap : CB0 kT_gap 1 := ⟨k_at 628 (by decide +kernel) (by decide +kernel), k_at 60 (by decide +kernel) (by decide +kernel), ⟨by decide, by decide⟩, by decide +kernel, by decide⟩
theorem cb_T_put : CB0 kT_put 3 := ⟨k_at 632 (by decide +kernel) (by decide +kernel), k_at 60 (by decide +kernel) (by decide +kernel), ⟨by decide, by decide⟩, by decide +kernel, by decide⟩
theorem cb_T_clear : CB0 kT_clear 1 := ⟨k_at 640 (by decide +kernel) (by decide +kernel), k_at 60 (by decide +kernel) (by decide +kernel), ⟨by decide, by decide⟩, by decide +kernel, by decide⟩
theorem cb_T_miss : CB0 kT_miss 2 := ⟨k_at 644 (by decide +kernel) (by decide +kernel), k_at 60 (by decide +kernel) (by decide +kernel), ⟨by decide, by decide⟩, by decide +kernel, by decide⟩
theorem cb_T_part : CB0 kT_part 1 := ⟨k_at 648 (by decide +kernel) (by decide +kernel), k_at 60 (by decide +kernel) (by decide +kernel), ⟨by decide, by decide⟩, by decide +kernel, by decide⟩
theorem cb_T_at : CB0 kT_at 2 := ⟨k_at 652 (by decide +kernel) (by decide +kernel), k_at 60 (by decide +kernel) (by decide +kernel), ⟨by decide, by decide⟩, by decide +kernel, by decide⟩
theorem cb_T_isWay : CB0 kT_isWay 2 := ⟨k_at 672 (by decide +kernel) (by decide +kernel), k_at 60 (by decide +kernel) (by decide +kernel), ⟨by decide, by decide⟩, by decide +kernel, by decide⟩
theorem cb_T_wayCost : CB0 kT_wayCost 3 := ⟨k_at 681 (by decide +kernel) (by decide +kernel), k_at 60 (by decide +kernel) (by decide +kernel), ⟨by decide, by decide⟩, by decide +kernel, by decide⟩
theorem cb_T_weighs : CB0 kT_weighs 1 := ⟨k_at 668 (by decide +kernel) (by decide +kernel), k_at 60 (by decide +kernel) (by decide +kernel), ⟨by decide, by decide⟩, by decide +kernel, by decide⟩
theorem cb_T_shapes : CB0 kT_shapes 1 := ⟨k_at 664 (by decide +kernel) (by decide +kernel), k_at 60 (by decide +kernel) (by decide +kernel), ⟨by decide, by decide⟩, by decide +kernel, by decide⟩
theorem cb_T_spans : CB0 kT_spans 1 := ⟨k_at 660 (by decide +kernel) (by decide +kernel), k_at 60 (by decide +kernel) (by decide +kernel), ⟨by decide, by decide⟩, by decide +kernel, by decide⟩
theorem cb_T_cost : CB0 kT_cost 1 := ⟨k_at 685 (by decide +kernel) (by decide +kernel), k_at 60 (by decide +kernel) (by decide +kernel), ⟨by decide, by decide⟩, by decide +kernel, by decide⟩
theorem cb_T_span : CB0 kT_span 3 := ⟨k_at 689 (by decide +kernel) (by decide +kernel), k_at 60 (by decide +kernel) (by decide +kernel), ⟨by decide, by decide⟩, by decide +kernel, by decide⟩
theorem cb_T_kind : CB0 kT_kind 2 := ⟨k_at 693 (by decide +kernel) (by decide +kernel), k_at 60 (by decide +kernel) (by decide +kernel), ⟨by decide, by decide⟩, by decide +kernel, by decide⟩
theorem cb_T_size : CB0 kT_size 1 := ⟨k_at 704 (by decide +kernel) (by decide +kernel), k_at 60 (by decide +kernel) (by decide +kernel), ⟨by decide, by decide⟩, by decide +kernel, by decide⟩
theorem cb_T_turnsIn : CB0 kT_turnsIn 1 := ⟨k_at 701 (by decide +kernel) (by decide +kernel), k_at 60 (by decide +kernel) (by decide +kernel), ⟨by decide, by decide⟩, by decide +kernel, by decide⟩
theorem cb_T_turnsOf : CB0 kT_turnsOf 1 := ⟨k_at 697 (by decide +kernel) (by decide +kernel), k_at 60 (by decide +kernel) (by decide +kernel), ⟨by decide, by decide⟩, by decide +kernel, by decide⟩
theorem cb_T_turn : CB0 kT_turn 2 := ⟨k_at 708 (by decide +kernel) (by decide +kernel), k_at 60 (by decide +kernel) (by decide +kernel), ⟨by decide, by decide⟩, by decide +kernel, by decide⟩
theorem cb_T_sure : CB0 kT_sure 3 := ⟨k_at 712 (by decide +kernel) (by decide +kernel), k_at 60 (by decide +kernel) (by decide +kernel), ⟨by decide, by decide⟩, by decide +kernel, by decide⟩
theorem cb_T_crosses : CB0 kT_crosses 2 := ⟨k_at 720 (by decide +kernel) (by decide +kernel), k_at 60 (by decide +kernel) (by decide +kernel), ⟨by decide, by decide⟩, by decide +kernel, by decide⟩
theorem cb_T_crossings : CB0 kT_crossings 2 := ⟨k_at 716 (by decide +kernel) (by decide +kernel), k_at 60 (by decide +kernel) (by decide +kernel), ⟨by decide, by decide⟩, by decide +kernel, by decide⟩
theorem cb_T_crossing : CB0 kT_crossing 3 := ⟨k_at 725 (by decide +kernel) (by decide +kernel), k_at 60 (by decide +kernel) (by decide +kernel), ⟨by decide, by decide⟩, by decide +kernel, by decide⟩
theorem cb_T_ends : CB0 kT_ends 0 := ⟨k_at 733 (by decide +kernel) (by decide +kernel), k_at 60 (by decide +kernel) (by decide +kernel), ⟨by decide, by decide⟩, by decide +kernel, by decide⟩
theorem cb_T_scale : CB0 kT_scale 2 := ⟨k_at 729 (by decide +kernel) (by decide +kernel), k_at 60 (by decide +kernel) (by decide +kernel), ⟨by decide, by decide⟩, by decide +kernel, by decide⟩
theorem cb_T_height : CB0 kT_height 2 := ⟨k_at 737 (by decide +kernel) (by decide +kernel), k_at 60 (by decide +kernel) (by decide +kernel), ⟨by decide, by decide⟩, by decide +kernel, by decide⟩
theorem cb_T_ear : CB0 kT_ear 2 := ⟨k_at 741 (by decide +kernel) (by decide +kernel), k_at 60 (by decide +kernel) (by decide +kernel), ⟨by decide, by decide⟩, by decide +kernel, by decide⟩
theorem cb_T_worth : CB0 kT_worth 2 := ⟨k_at 745 (by decide +kernel) (by decide +kernel), k_at 60 (by decide +kernel) (by decide +kernel), ⟨by decide, by decide⟩, by decide +kernel, by decide⟩
theorem cb_T_isLaid : CB0 kT_isLaid 1 := ⟨k_at 762 (by decide +kernel) (by decide +kernel), k_at 60 (by decide +kernel) (by decide +kernel), ⟨by decide, by decide⟩, by decide +kernel, by decide⟩
theorem cb_T_slotCost : CB0 kT_slotCost 1 := ⟨k_at 758 (by decide +kernel) (by decide +kernel), k_at 60 (by decide +kernel) (by decide +kernel), ⟨by decide, by decide⟩, by decide +kernel, by decide⟩
theorem cb_T_laying : CB0 kT_laying 1 := ⟨k_at 753 (by decide +kernel) (by decide +kernel), k_at 60 (by decide +kernel) (by decide +kernel), ⟨by decide, by decide⟩, by decide +kernel, by decide⟩
theorem cb_T_lay : CB0 kT_lay 1 := ⟨k_at 749 (by decide +kernel) (by decide +kernel), k_at 60 (by decide +kernel) (by decide +kernel), ⟨by decide, by decide⟩, by decide +kernel, by decide⟩
theorem cb_T_slot : CB0 kT_slot 2 := ⟨k_at 766 (by decide +kernel) (by decide +kernel), k_at 60 (by decide +kernel) (by decide +kernel), ⟨by decide, by decide⟩, by decide +kernel, by decide⟩
theorem cb_T_hears : CB0 kT_hears 3 := ⟨k_at 770 (by decide +kernel) (by decide +kernel), k_at 60 (by decide +kernel) (by decide +kernel), ⟨by decide, by decide⟩, by decide +kernel, by decide⟩
theorem cb_T_ways : CB0 kT_ways 1 := ⟨k_at 778 (by decide +kernel) (by decide +kernel), k_at 60 (by decide +kernel) (by decide +kernel), ⟨by decide, by decide⟩, by decide +kernel, by decide⟩
theorem cb_T_whole : CB0 kT_whole 3 := ⟨k_at 774 (by decide +kernel) (by decide +kernel), k_at 60 (by decide +kernel) (by decide +kernel), ⟨by decide, by decide⟩, by decide +kernel, by decide⟩
theorem cb_T_walk : CB0 kT_walk 2 := ⟨k_at 782 (by decide +kernel) (by decide +kernel), k_at 60 (by decide +kernel) (by decide +kernel), ⟨by decide, by decide⟩, by decide +kernel, by decide⟩
theorem cb_T_where : CB0 kT_where 1 := ⟨k_at 786 (by decide +kernel) (by decide +kernel), k_at 60 (by decide +kernel) (by decide +kernel), ⟨by decide, by decide⟩, by decide +kernel, by decide⟩
theorem cb_T_go : CB0 kT_go 1 := ⟨k_at 790 (by decide +kernel) (by decide +kernel), k_at 60 (by decide +kernel) (by decide +kernel), ⟨by decide, by decide⟩, by decide +kernel, by decide⟩
theorem cb_T_isCross : CB0 kT_isCross 2 := ⟨k_at 802 (by decide +kernel) (by decide +kernel), k_at 60 (by decide +kernel) (by decide +kernel), ⟨by decide, by decide⟩, by decide +kernel, by decide⟩
theorem cb_T_isTurn : CB0 kT_isTurn 2 := ⟨k_at 798 (by decide +kernel) (by decide +kernel), k_at 60 (by decide +kernel) (by decide +kernel), ⟨by decide, by decide⟩, by decide +kernel, by decide⟩
theorem cb_T_seek : CB0 kT_seek 2 := ⟨k_at 794 (by decide +kernel) (by decide +kernel), k_at 60 (by decide +kernel) (by decide +kernel), ⟨by decide, by decide⟩, by decide +kernel, by decide⟩
theorem cb_L_init : CB0 kL_init 0 := ⟨k_at 157 (by decide +kernel) (by decide +kernel), k_at 59 (by decide +kernel) (by decide +kernel), ⟨by decide, by decide⟩, by decide +kernel, by decide⟩
theorem cb_L_find : CB0 kL_find 2 := ⟨k_at 438 (by decide +kernel) (by decide +kernel), k_at 59 (by decide +kernel) (by decide +kernel), ⟨by decide, by decide⟩, by decide +kernel, by decide⟩
theorem cb_L_tryFrom : CB0 kL_tryFrom 2 := ⟨k_at 443 (by decide +kernel) (by decide +kernel), k_at 59 (by decide +kernel) (by decide +kernel), ⟨by decide, by decide⟩, by decide +kernel, by decide⟩
theorem cb_L_isFree : CB0 kL_isFree 2 := ⟨k_at 450 (by decide +kernel) (by decide +kernel), k_at 59 (by decide +kernel) (by decide +kernel), ⟨by decide, by decide⟩, by decide +kernel, by decide⟩
theorem cb_L_isHeard : CB0 kL_isHeard 1 := ⟨k_at 463 (by decide +kernel) (by decide +kernel), k_at 59 (by decide +kernel) (by decide +kernel), ⟨by decide, by decide⟩, by decide +kernel, by decide⟩
theorem cb_M_init : CB0 kM_init 0 := ⟨k_at 142 (by decide +kernel) (by decide +kernel), k_at 58 (by decide +kernel) (by decide +kernel), ⟨by decide, by decide⟩, by decide +kernel, by decide⟩
theorem cb_M_read : CB0 kM_read 2 := ⟨k_at 377 (by decide +kernel) (by decide +kernel), k_at 58 (by decide +kernel) (by decide +kernel), ⟨by decide, by decide⟩, by decide +kernel, by decide⟩
theorem cb_R_init : CB0 kR_init 0 := ⟨k_at 76 (by decide +kernel) (by decide +kernel), k_at 56 (by decide +kernel) (by decide +kernel), ⟨by decide, by decide⟩, by decide +kernel, by decide⟩
theorem cb_R_hasStep : CB0 kR_hasStep 1 := ⟨k_at 249 (by decide +kernel) (by decide +kernel), k_at 56 (by decide +kernel) (by decide +kernel), ⟨by decide, by decide⟩, by decide +kernel, by decide⟩
theorem cb_R_hasValue : CB0 kR_hasValue 1 := ⟨k_at 289 (by decide +kernel) (by decide +kernel), k_at 56 (by decide +kernel) (by decide +kernel), ⟨by decide, by decide⟩, by decide +kernel, by decide⟩
theorem cb_R_hasWay : CB0 kR_hasWay 1 := ⟨k_at 285 (by decide +kernel) (by decide +kernel), k_at 56 (by decide +kernel) (by decide +kernel), ⟨by decide, by decide⟩, by decide +kernel, by decide⟩
theorem cb_R_append : CB0 kR_append 1 := ⟨k_at 237 (by decide +kernel) (by decide +kernel), k_at 56 (by decide +kernel) (by decide +kernel), ⟨by decide, by decide⟩, by decide +kernel, by decide⟩
theorem cb_R_lowest : CB0 kR_lowest 0 := ⟨k_at 395 (by decide +kernel) (by decide +kernel), k_at 56 (by decide +kernel) (by decide +kernel), ⟨by decide, by decide⟩, by decide +kernel, by decide⟩
theorem cb_R_highest : CB0 kR_highest 0 := ⟨k_at 407 (by decide +kernel) (by decide +kernel), k_at 56 (by decide +kernel) (by decide +kernel), ⟨by decide, by decide⟩, by decide +kernel, by decide⟩
theorem cb_S_init : CB0 kS_init 0 := ⟨k_at 102 (by decide +kernel) (by decide +kernel), k_at 57 (by decide +kernel) (by decide +kernel), ⟨by decide, by decide⟩, by decide +kernel, by decide⟩
theorem cb_S_read : CB0 kS_read 2 := ⟨k_at 277 (by decide +kernel) (by decide +kernel), k_at 57 (by decide +kernel) (by decide +kernel), ⟨by decide, by decide⟩, by decide +kernel, by decide⟩
theorem cb_S_weighWays : CB0 kS_weighWays 2 := ⟨k_at 281 (by decide +kernel) (by decide +kernel), k_at 57 (by decide +kernel) (by decide +kernel), ⟨by decide, by decide⟩, by decide +kernel, by decide⟩
theorem cb_S_costOfWay : CB0 kS_costOfWay 2 := ⟨k_at 292 (by decide +kernel) (by decide +kernel), k_at 57 (by decide +kernel) (by decide +kernel), ⟨by decide, by decide⟩, by decide +kernel, by decide⟩
theorem cb_S_costBehind : CB0 kS_costBehind 4 := ⟨k_at 306 (by decide +kernel) (by decide +kernel), k_at 57 (by decide +kernel) (by decide +kernel), ⟨by decide, by decide⟩, by decide +kernel, by decide⟩
theorem cb_S_bestKind : CB0 kS_bestKind 3 := ⟨k_at 302 (by decide +kernel) (by decide +kernel), k_at 57 (by decide +kernel) (by decide +kernel), ⟨by decide, by decide⟩, by decide +kernel, by decide⟩
theorem cb_S_chooseKinds : CB0 kS_chooseKinds 2 := ⟨k_at 310 (by decide +kernel) (by decide +kernel), k_at 57 (by decide +kernel) (by decide +kernel), ⟨by decide, by decide⟩, by decide +kernel, by decide⟩
theorem cb_S_noteWay : CB0 kS_noteWay 3 := ⟨k_at 314 (by decide +kernel) (by decide +kernel), k_at 57 (by decide +kernel) (by decide +kernel), ⟨by decide, by decide⟩, by decide +kernel, by decide⟩
theorem cb_S_findTurns : CB0 kS_findTurns 1 := ⟨k_at 318 (by decide +kernel) (by decide +kernel), k_at 57 (by decide +kernel) (by decide +kernel), ⟨by decide, by decide⟩, by decide +kernel, by decide⟩
theorem cb_S_turnsAtStart : CB0 kS_turnsAtStart 2 := ⟨k_at 322 (by decide +kernel) (by decide +kernel), k_at 57 (by decide +kernel) (by decide +kernel), ⟨by decide, by decide⟩, by decide +kernel, by decide⟩
theorem cb_S_hasSpan : CB0 kS_hasSpan 1 := ⟨k_at 341 (by decide +kernel) (by decide +kernel), k_at 57 (by decide +kernel) (by decide +kernel), ⟨by decide, by decide⟩, by decide +kernel, by decide⟩
theorem cb_S_kindOfSpan : CB0 kS_kindOfSpan 1 := ⟨k_at 326 (by decide +kernel) (by decide +kernel), k_at 57 (by decide +kernel) (by decide +kernel), ⟨by decide, by decide⟩, by decide +kernel, by decide⟩
theorem cb_S_waysOfSpan : CB0 kS_waysOfSpan 1 := ⟨k_at 483 (by decide +kernel) (by decide +kernel), k_at 57 (by decide +kernel) (by decide +kernel), ⟨by decide, by decide⟩, by decide +kernel, by decide⟩
theorem cb_S_allWays : CB0 kS_allWays 0 := ⟨k_at 479 (by decide +kernel) (by decide +kernel), k_at 57 (by decide +kernel) (by decide +kernel), ⟨by decide, by decide⟩, by decide +kernel, by decide⟩
theorem cb_S_beatsOfSpan : CB0 kS_beatsOfSpan 2 := ⟨k_at 475 (by decide +kernel) (by decide +kernel), k_at 57 (by decide +kernel) (by decide +kernel), ⟨by decide, by decide⟩, by decide +kernel, by decide⟩
theorem cg_E_1 : Cond.methodLink "EarChart" 1 Lib.objectInit ∈ ktbl := k_at 68 (by decide +kernel) (by decide +kernel)
theorem cg_E_15 : CGk 2 "EarChart" 15 kR_init 0 := ⟨cb_R_init, Or.inr ⟨"EarChart", k_at 74 (by decide +kernel) (by decide +kernel)⟩, ⟨k_at 75 (by decide +kernel) (by decide +kernel), rfl, rfl⟩⟩
theorem cg_E_18 : CGk 2 "EarChart" 18 kS_init 0 := ⟨cb_S_init, Or.inr ⟨"EarChart", k_at 100 (by decide +kernel) (by decide +kernel)⟩, ⟨k_at 101 (by decide +kernel) (by decide +kernel), rfl, rfl⟩⟩
theorem cg_E_25 : CGk 2 "EarChart" 25 kM_init 0 := ⟨cb_M_init, Or.inr ⟨"EarChart", k_at 140 (by decide +kernel) (by decide +kernel)⟩, ⟨k_at 141 (by decide +kernel) (by decide +kernel), rfl, rfl⟩⟩
theorem cg_E_32 : CGk 2 "EarChart" 32 kL_init 0 := ⟨cb_L_init, Or.inr ⟨"EarChart", k_at 155 (by decide +kernel) (by decide +kernel)⟩, ⟨k_at 156 (by decide +kernel) (by decide +kernel), rfl, rfl⟩⟩
theorem cg_E_60 : CGk 1 "EarChart" 60 kE_rowOf 1 := ⟨cb_E_rowOf, Or.inl (k_at 224 (by decide +kernel) (by decide +kernel)), ⟨k_at 226 (by decide +kernel) (by decide +kernel), k_at 0 (by decide +kernel) (by decide +kernel)⟩⟩
theorem cg_E_64 : CGk 0 "EarChart" 64 kE_isValue 1 := ⟨cb_E_isValue, Or.inl (k_at 231 (by decide +kernel) (by decide +kernel)), k_at 232 (by decide +kernel) (by decide +kernel)⟩
theorem cg_E_68 : CGk 1 "EarChart" 68 kR_append 1 := ⟨cb_R_append, Or.inr ⟨"EarChart", k_at 234 (by decide +kernel) (by decide +kernel)⟩, ⟨k_at 236 (by decide +kernel) (by decide +kernel), k_at 1 (by decide +kernel) (by decide +kernel)⟩⟩
theorem cg_E_72 : CGk 1 "EarChart" 72 kR_hasStep 1 := ⟨cb_R_hasStep, Or.inr ⟨"EarChart", k_at 246 (by decide +kernel) (by decide +kernel)⟩, ⟨k_at 248 (by decide +kernel) (by decide +kernel), k_at 2 (by decide +kernel) (by decide +kernel)⟩⟩
theorem cg_E_82 : CGk 0 "EarChart" 82 kE_within 3 := ⟨cb_E_within, Or.inl (k_at 228 (by decide +kernel) (by decide +kernel)), k_at 229 (by decide +kernel) (by decide +kernel)⟩
theorem cg_E_89 : CGk 1 "EarChart" 89 kE_readShape 1 := ⟨cb_E_readShape, Or.inl (k_at 270 (by decide +kernel) (by decide +kernel)), ⟨k_at 272 (by decide +kernel) (by decide +kernel), k_at 3 (by decide +kernel) (by decide +kernel)⟩⟩
theorem cg_E_98 : CGk 1 "EarChart" 98 kS_hasSpan 1 := ⟨cb_S_hasSpan, Or.inr ⟨"EarChart", k_at 338 (by decide +kernel) (by decide +kernel)⟩, ⟨k_at 340 (by decide +kernel) (by decide +kernel), k_at 15 (by decide +kernel) (by decide +kernel)⟩⟩
theorem cg_E_101 : CGk 1 "EarChart" 101 kS_kindOfSpan 1 := ⟨cb_S_kindOfSpan, Or.inr ⟨"EarChart", k_at 342 (by decide +kernel) (by decide +kernel)⟩, ⟨k_at 325 (by decide +kernel) (by decide +kernel), k_at 14 (by decide +kernel) (by decide +kernel)⟩⟩
theorem cg_E_119 : CGk 0 "EarChart" 119 kE_areTwoRows 2 := ⟨cb_E_areTwoRows, Or.inl (k_at 359 (by decide +kernel) (by decide +kernel)), k_at 360 (by decide +kernel) (by decide +kernel)⟩
theorem cg_E_123 : CGk 0 "EarChart" 123 kE_compareSurely 3 := ⟨cb_E_compareSurely, Or.inl (k_at 362 (by decide +kernel) (by decide +kernel)), k_at 363 (by decide +kernel) (by decide +kernel)⟩
theorem cg_E_127 : CGk 1 "EarChart" 127 kE_readMeeting 2 := ⟨cb_E_readMeeting, Or.inl (k_at 370 (by decide +kernel) (by decide +kernel)), ⟨k_at 372 (by decide +kernel) (by decide +kernel), k_at 16 (by decide +kernel) (by decide +kernel)⟩⟩
theorem cg_E_134 : CGk 1 "EarChart" 134 kE_lowestValue 0 := ⟨cb_E_lowestValue, Or.inl (k_at 387 (by decide +kernel) (by decide +kernel)), ⟨k_at 389 (by decide +kernel) (by decide +kernel), k_at 18 (by decide +kernel) (by decide +kernel)⟩⟩
theorem cg_E_138 : CGk 1 "EarChart" 138 kE_highestValue 0 := ⟨cb_E_highestValue, Or.inl (k_at 399 (by decide +kernel) (by decide +kernel)), ⟨k_at 401 (by decide +kernel) (by decide +kernel), k_at 20 (by decide +kernel) (by decide +kernel)⟩⟩
theorem cg_E_141 : CGk 1 "EarChart" 141 kE_heightAbove 3 := ⟨cb_E_heightAbove, Or.inl (k_at 415 (by decide +kernel) (by decide +kernel)), ⟨k_at 417 (by decide +kernel) (by decide +kernel), k_at 22 (by decide +kernel) (by decide +kernel)⟩⟩
theorem cg_E_148 : CGk 1 "EarChart" 148 kE_readLaying 1 := ⟨cb_E_readLaying, Or.inl (k_at 431 (by decide +kernel) (by decide +kernel)), ⟨k_at 433 (by decide +kernel) (by decide +kernel), k_at 23 (by decide +kernel) (by decide +kernel)⟩⟩
theorem cg_E_154 : CGk 1 "EarChart" 154 kR_hasValue 1 := ⟨cb_R_hasValue, Or.inr ⟨"EarChart", k_at 365 (by decide +kernel) (by decide +kernel)⟩, ⟨k_at 288 (by decide +kernel) (by decide +kernel), k_at 7 (by decide +kernel) (by decide +kernel)⟩⟩
theorem cg_E_160 : CGk 1 "EarChart" 160 kL_isHeard 1 := ⟨cb_L_isHeard, Or.inr ⟨"EarChart", k_at 460 (by decide +kernel) (by decide +kernel)⟩, ⟨k_at 462 (by decide +kernel) (by decide +kernel), k_at 27 (by decide +kernel) (by decide +kernel)⟩⟩
theorem cg_E_163 : CGk 1 "EarChart" 163 kE_soundsAbove 2 := ⟨cb_E_soundsAbove, Or.inl (k_at 464 (by decide +kernel) (by decide +kernel)), ⟨k_at 466 (by decide +kernel) (by decide +kernel), k_at 28 (by decide +kernel) (by decide +kernel)⟩⟩
theorem cg_E_166 : CGk 1 "EarChart" 166 kS_beatsOfSpan 2 := ⟨cb_S_beatsOfSpan, Or.inr ⟨"EarChart", k_at 472 (by decide +kernel) (by decide +kernel)⟩, ⟨k_at 474 (by decide +kernel) (by decide +kernel), k_at 29 (by decide +kernel) (by decide +kernel)⟩⟩
theorem cg_E_170 : CGk 1 "EarChart" 170 kE_markSought 2 := ⟨cb_E_markSought, Or.inl (k_at 500 (by decide +kernel) (by decide +kernel)), ⟨k_at 502 (by decide +kernel) (by decide +kernel), k_at 32 (by decide +kernel) (by decide +kernel)⟩⟩
theorem cg_E_174 : CGk 1 "EarChart" 174 kE_markBehind 1 := ⟨cb_E_markBehind, Or.inl (k_at 512 (by decide +kernel) (by decide +kernel)), ⟨k_at 514 (by decide +kernel) (by decide +kernel), k_at 35 (by decide +kernel) (by decide +kernel)⟩⟩
theorem cg_E_177 : CGk 1 "EarChart" 177 kE_markAhead 1 := ⟨cb_E_markAhead, Or.inl (k_at 516 (by decide +kernel) (by decide +kernel)), ⟨k_at 518 (by decide +kernel) (by decide +kernel), k_at 36 (by decide +kernel) (by decide +kernel)⟩⟩
theorem cg_E_180 : CGk 1 "EarChart" 180 kS_read 2 := ⟨cb_S_read, Or.inr ⟨"EarChart", k_at 274 (by decide +kernel) (by decide +kernel)⟩, ⟨k_at 276 (by decide +kernel) (by decide +kernel), k_at 4 (by decide +kernel) (by decide +kernel)⟩⟩
theorem cg_E_183 : CGk 1 "EarChart" 183 kM_read 2 := ⟨cb_M_read, Or.inr ⟨"EarChart", k_at 374 (by decide +kernel) (by decide +kernel)⟩, ⟨k_at 376 (by decide +kernel) (by decide +kernel), k_at 17 (by decide +kernel) (by decide +kernel)⟩⟩
theorem cg_E_189 : CGk 1 "EarChart" 189 kR_lowest 0 := ⟨cb_R_lowest, Or.inr ⟨"EarChart", k_at 392 (by decide +kernel) (by decide +kernel)⟩, ⟨k_at 394 (by decide +kernel) (by decide +kernel), k_at 19 (by decide +kernel) (by decide +kernel)⟩⟩
theorem cg_E_192 : Cond.methodLink "EarChart" 192 Lib.Math.min.name ∈ ktbl := k_at 398 (by decide +kernel) (by decide +kernel)
theorem cg_E_198 : CGk 1 "EarChart" 198 kR_highest 0 := ⟨cb_R_highest, Or.inr ⟨"EarChart", k_at 404 (by decide +kernel) (by decide +kernel)⟩, ⟨k_at 406 (by decide +kernel) (by decide +kernel), k_at 21 (by decide +kernel) (by decide +kernel)⟩⟩
theorem cg_E_201 : Cond.methodLink "EarChart" 201 Lib.Math.max.name ∈ ktbl := k_at 410 (by decide +kernel) (by decide +kernel)
theorem cg_E_210 : CGk 1 "EarChart" 210 kL_find 2 := ⟨cb_L_find, Or.inr ⟨"EarChart", k_at 435 (by decide +kernel) (by decide +kernel)⟩, ⟨k_at 437 (by decide +kernel) (by decide +kernel), k_at 24 (by decide +kernel) (by decide +kernel)⟩⟩
theorem cg_E_214 : CGk 1 "EarChart" 214 kE_markTurns 1 := ⟨cb_E_markTurns, Or.inl (k_at 504 (by decide +kernel) (by decide +kernel)), ⟨k_at 506 (by decide +kernel) (by decide +kernel), k_at 33 (by decide +kernel) (by decide +kernel)⟩⟩
theorem cg_E_218 : CGk 1 "EarChart" 218 kE_markCrossings 1 := ⟨cb_E_markCrossings, Or.inl (k_at 508 (by decide +kernel) (by decide +kernel)), ⟨k_at 510 (by decide +kernel) (by decide +kernel), k_at 34 (by decide +kernel) (by decide +kernel)⟩⟩
theorem cg_T_1 : Cond.methodLink "EarChartModel" 1 Lib.objectInit ∈ ktbl := k_at 525 (by decide +kernel) (by decide +kernel)
theorem cg_T_72 : CGk 0 "EarChartModel" 72 kT_isRow 1 := ⟨cb_T_isRow, Or.inl (k_at 622 (by decide +kernel) (by decide +kernel)), k_at 623 (by decide +kernel) (by decide +kernel)⟩
theorem cg_T_76 : CGk 1 "EarChartModel" 76 kT_isStep 2 := ⟨cb_T_isStep, Or.inl (k_at 633 (by decide +kernel) (by decide +kernel)), ⟨k_at 635 (by decide +kernel) (by decide +kernel), k_at 38 (by decide +kernel) (by decide +kernel)⟩⟩
theorem cg_T_80 : CGk 0 "EarChartModel" 80 kT_isIn 3 := ⟨cb_T_isIn, Or.inl (k_at 615 (by decide +kernel) (by decide +kernel)), k_at 616 (by decide +kernel) (by decide +kernel)⟩
theorem cg_T_84 : CGk 1 "EarChartModel" 84 kT_adds 2 := ⟨cb_T_adds, Or.inl (k_at 618 (by decide +kernel) (by decide +kernel)), ⟨k_at 620 (by decide +kernel) (by decide +kernel), k_at 37 (by decide +kernel) (by decide +kernel)⟩⟩
theorem cg_T_88 : CGk 1 "EarChartModel" 88 kT_valueAt 2 := ⟨cb_T_valueAt, Or.inl (k_at 653 (by decide +kernel) (by decide +kernel)), ⟨k_at 655 (by decide +kernel) (by decide +kernel), k_at 39 (by decide +kernel) (by decide +kernel)⟩⟩
theorem cg_T_91 : CGk 1 "EarChartModel" 91 kT_hasValue 2 := ⟨cb_T_hasValue, Or.inl (k_at 673 (by decide +kernel) (by decide +kernel)), ⟨k_at 675 (by decide +kernel) (by decide +kernel), k_at 43 (by decide +kernel) (by decide +kernel)⟩⟩
theorem cg_T_94 : CGk 1 "EarChartModel" 94 kT_isWay 2 := ⟨cb_T_isWay, Or.inl (k_at 669 (by decide +kernel) (by decide +kernel)), ⟨k_at 671 (by decide +kernel) (by decide +kernel), k_at 42 (by decide +kernel) (by decide +kernel)⟩⟩
theorem cg_T_98 : CGk 1 "EarChartModel" 98 kT_wayCost 3 := ⟨cb_T_wayCost, Or.inl (k_at 678 (by decide +kernel) (by decide +kernel)), ⟨k_at 680 (by decide +kernel) (by decide +kernel), k_at 44 (by decide +kernel) (by decide +kernel)⟩⟩
theorem cg_T_102 : CGk 1 "EarChartModel" 102 kT_weighs 1 := ⟨cb_T_weighs, Or.inl (k_at 665 (by decide +kernel) (by decide +kernel)), ⟨k_at 667 (by decide +kernel) (by decide +kernel), k_at 41 (by decide +kernel) (by decide +kernel)⟩⟩
theorem cg_T_112 : CGk 1 "EarChartModel" 112 kT_shapes 1 := ⟨cb_T_shapes, Or.inl (k_at 661 (by decide +kernel) (by decide +kernel)), ⟨k_at 663 (by decide +kernel) (by decide +kernel), k_at 40 (by decide +kernel) (by decide +kernel)⟩⟩
theorem cg_T_118 : CGk 0 "EarChartModel" 118 kT_size 1 := ⟨cb_T_size, Or.inl (k_at 702 (by decide +kernel) (by decide +kernel)), k_at 703 (by decide +kernel) (by decide +kernel)⟩
theorem cg_T_122 : CGk 1 "EarChartModel" 122 kT_turnsIn 1 := ⟨cb_T_turnsIn, Or.inl (k_at 698 (by decide +kernel) (by decide +kernel)), ⟨k_at 700 (by decide +kernel) (by decide +kernel), k_at 45 (by decide +kernel) (by decide +kernel)⟩⟩
theorem cg_T_128 : CGk 1 "EarChartModel" 128 kT_sure 3 := ⟨cb_T_sure, Or.inl (k_at 721 (by decide +kernel) (by decide +kernel)), ⟨k_at 710 (by decide +kernel) (by decide +kernel), k_at 711 (by decide +kernel) (by decide +kernel)⟩⟩
theorem cg_T_131 : CGk 1 "EarChartModel" 131 kT_crosses 2 := ⟨cb_T_crosses, Or.inl (k_at 717 (by decide +kernel) (by decide +kernel)), ⟨k_at 719 (by decide +kernel) (by decide +kernel), k_at 46 (by decide +kernel) (by decide +kernel)⟩⟩
theorem cg_T_141 : CGk 1 "EarChartModel" 141 kT_ends 0 := ⟨cb_T_ends, Or.inl (k_at 730 (by decide +kernel) (by decide +kernel)), ⟨k_at 732 (by decide +kernel) (by decide +kernel), k_at 47 (by decide +kernel) (by decide +kernel)⟩⟩
theorem cg_T_148 : CGk 1 "EarChartModel" 148 kT_height 2 := ⟨cb_T_height, Or.inl (k_at 754 (by decide +kernel) (by decide +kernel)), ⟨k_at 735 (by decide +kernel) (by decide +kernel), k_at 736 (by decide +kernel) (by decide +kernel)⟩⟩
theorem cg_T_151 : CGk 1 "EarChartModel" 151 kT_slotCost 1 := ⟨cb_T_slotCost, Or.inl (k_at 755 (by decide +kernel) (by decide +kernel)), ⟨k_at 757 (by decide +kernel) (by decide +kernel), k_at 49 (by decide +kernel) (by decide +kernel)⟩⟩
theorem cg_T_154 : CGk 1 "EarChartModel" 154 kT_isLaid 1 := ⟨cb_T_isLaid, Or.inl (k_at 759 (by decide +kernel) (by decide +kernel)), ⟨k_at 761 (by decide +kernel) (by decide +kernel), k_at 50 (by decide +kernel) (by decide +kernel)⟩⟩
theorem cg_T_157 : CGk 1 "EarChartModel" 157 kT_laying 1 := ⟨cb_T_laying, Or.inl (k_at 750 (by decide +kernel) (by decide +kernel)), ⟨k_at 752 (by decide +kernel) (by decide +kernel), k_at 48 (by decide +kernel) (by decide +kernel)⟩⟩
theorem cg_T_160 : CGk 1 "EarChartModel" 160 kT_ways 1 := ⟨cb_T_ways, Or.inl (k_at 775 (by decide +kernel) (by decide +kernel)), ⟨k_at 777 (by decide +kernel) (by decide +kernel), k_at 51 (by decide +kernel) (by decide +kernel)⟩⟩
theorem cg_T_166 : CGk 1 "EarChartModel" 166 kT_isTurn 2 := ⟨cb_T_isTurn, Or.inl (k_at 795 (by decide +kernel) (by decide +kernel)), ⟨k_at 797 (by decide +kernel) (by decide +kernel), k_at 52 (by decide +kernel) (by decide +kernel)⟩⟩
theorem cg_T_169 : CGk 1 "EarChartModel" 169 kT_isCross 2 := ⟨cb_T_isCross, Or.inl (k_at 799 (by decide +kernel) (by decide +kernel)), ⟨k_at 801 (by decide +kernel) (by decide +kernel), k_at 53 (by decide +kernel) (by decide +kernel)⟩⟩
theorem cg_L_3 : Cond.methodLink "EarChart$Laying" 3 Lib.objectInit ∈ ktbl := k_at 158 (by decide +kernel) (by decide +kernel)
theorem cg_L_37 : CGk 1 "EarChart$Laying" 37 kL_tryFrom 2 := ⟨cb_L_tryFrom, Or.inl (k_at 440 (by decide +kernel) (by decide +kernel)), ⟨k_at 442 (by decide +kernel) (by decide +kernel), k_at 25 (by decide +kernel) (by decide +kernel)⟩⟩
theorem cg_L_41 : Cond.methodLink "EarChart$Laying" 41 arraycopyName ∈ ktbl := k_at 444 (by decide +kernel) (by decide +kernel)
theorem cg_L_47 : CGk 1 "EarChart$Laying" 47 kL_isFree 2 := ⟨cb_L_isFree, Or.inl (k_at 447 (by decide +kernel) (by decide +kernel)), ⟨k_at 449 (by decide +kernel) (by decide +kernel), k_at 26 (by decide +kernel) (by decide +kernel)⟩⟩
theorem cg_L_51 : Cond.methodLink "EarChart$Laying" 51 Lib.Math.abs.name ∈ ktbl := k_at 451 (by decide +kernel) (by decide +kernel)
theorem cg_M_3 : Cond.methodLink "EarChart$Meeting" 3 Lib.objectInit ∈ ktbl := k_at 143 (by decide +kernel) (by decide +kernel)
theorem cg_M_19 : CGk 0 "EarChart$Meeting" 19 kE_compareSurely 3 := ⟨cb_E_compareSurely, Or.inr ⟨"EarChart", k_at 378 (by decide +kernel) (by decide +kernel)⟩, k_at 363 (by decide +kernel) (by decide +kernel)⟩
theorem cg_R_3 : Cond.methodLink "EarChart$Row" 3 Lib.objectInit ∈ ktbl := k_at 77 (by decide +kernel) (by decide +kernel)
theorem cg_R_25 : CGk 1 "EarChart$Row" 25 kR_hasValue 1 := ⟨cb_R_hasValue, Or.inl (k_at 286 (by decide +kernel) (by decide +kernel)), ⟨k_at 288 (by decide +kernel) (by decide +kernel), k_at 7 (by decide +kernel) (by decide +kernel)⟩⟩
theorem cg_R_32 : Cond.methodLink "EarChart$Row" 32 Lib.Math.min.name ∈ ktbl := k_at 397 (by decide +kernel) (by decide +kernel)
theorem cg_R_39 : Cond.methodLink "EarChart$Row" 39 Lib.Math.max.name ∈ ktbl := k_at 409 (by decide +kernel) (by decide +kernel)
theorem cg_S_3 : Cond.methodLink "EarChart$Shape" 3 Lib.objectInit ∈ ktbl := k_at 103 (by decide +kernel) (by decide +kernel)
theorem cg_S_39 : CGk 1 "EarChart$Shape" 39 kS_weighWays 2 := ⟨cb_S_weighWays, Or.inl (k_at 278 (by decide +kernel) (by decide +kernel)), ⟨k_at 280 (by decide +kernel) (by decide +kernel), k_at 5 (by decide +kernel) (by decide +kernel)⟩⟩
theorem cg_S_43 : CGk 1 "EarChart$Shape" 43 kS_chooseKinds 2 := ⟨cb_S_chooseKinds, Or.inl (k_at 307 (by decide +kernel) (by decide +kernel)), ⟨k_at 309 (by decide +kernel) (by decide +kernel), k_at 10 (by decide +kernel) (by decide +kernel)⟩⟩
theorem cg_S_46 : CGk 1 "EarChart$Shape" 46 kS_findTurns 1 := ⟨cb_S_findTurns, Or.inl (k_at 315 (by decide +kernel) (by decide +kernel)), ⟨k_at 317 (by decide +kernel) (by decide +kernel), k_at 12 (by decide +kernel) (by decide +kernel)⟩⟩
theorem cg_S_50 : CGk 1 "EarChart$Shape" 50 kR_hasWay 1 := ⟨cb_R_hasWay, Or.inr ⟨"EarChart", k_at 282 (by decide +kernel) (by decide +kernel)⟩, ⟨k_at 284 (by decide +kernel) (by decide +kernel), k_at 6 (by decide +kernel) (by decide +kernel)⟩⟩
theorem cg_S_59 : CGk 0 "EarChart$Shape" 59 kS_costOfWay 2 := ⟨cb_S_costOfWay, Or.inl (k_at 290 (by decide +kernel) (by decide +kernel)), k_at 291 (by decide +kernel) (by decide +kernel)⟩
theorem cg_S_63 : CGk 1 "EarChart$Shape" 63 kS_bestKind 3 := ⟨cb_S_bestKind, Or.inl (k_at 299 (by decide +kernel) (by decide +kernel)), ⟨k_at 301 (by decide +kernel) (by decide +kernel), k_at 8 (by decide +kernel) (by decide +kernel)⟩⟩
theorem cg_S_67 : CGk 1 "EarChart$Shape" 67 kS_costBehind 4 := ⟨cb_S_costBehind, Or.inl (k_at 303 (by decide +kernel) (by decide +kernel)), ⟨k_at 305 (by decide +kernel) (by decide +kernel), k_at 9 (by decide +kernel) (by decide +kernel)⟩⟩
theorem cg_S_71 : Cond.methodLink "EarChart$Shape" 71 Lib.Math.max.name ∈ ktbl := k_at 293 (by decide +kernel) (by decide +kernel)
theorem cg_S_76 : Cond.methodLink "EarChart$Shape" 76 Lib.Math.abs.name ∈ ktbl := k_at 296 (by decide +kernel) (by decide +kernel)
theorem cg_S_80 : CGk 1 "EarChart$Shape" 80 kS_noteWay 3 := ⟨cb_S_noteWay, Or.inl (k_at 311 (by decide +kernel) (by decide +kernel)), ⟨k_at 313 (by decide +kernel) (by decide +kernel), k_at 11 (by decide +kernel) (by decide +kernel)⟩⟩
theorem cg_S_84 : CGk 1 "EarChart$Shape" 84 kS_turnsAtStart 2 := ⟨cb_S_turnsAtStart, Or.inl (k_at 319 (by decide +kernel) (by decide +kernel)), ⟨k_at 321 (by decide +kernel) (by decide +kernel), k_at 13 (by decide +kernel) (by decide +kernel)⟩⟩
theorem cg_S_88 : CGk 1 "EarChart$Shape" 88 kS_kindOfSpan 1 := ⟨cb_S_kindOfSpan, Or.inl (k_at 323 (by decide +kernel) (by decide +kernel)), ⟨k_at 325 (by decide +kernel) (by decide +kernel), k_at 14 (by decide +kernel) (by decide +kernel)⟩⟩
theorem cg_S_91 : Cond.methodLink "EarChart$Shape" 91 Lib.Math.min.name ∈ ktbl := k_at 327 (by decide +kernel) (by decide +kernel)
theorem cg_S_97 : CGk 1 "EarChart$Shape" 97 kS_waysOfSpan 1 := ⟨cb_S_waysOfSpan, Or.inl (k_at 480 (by decide +kernel) (by decide +kernel)), ⟨k_at 482 (by decide +kernel) (by decide +kernel), k_at 31 (by decide +kernel) (by decide +kernel)⟩⟩
theorem cg_S_100 : CGk 1 "EarChart$Shape" 100 kS_allWays 0 := ⟨cb_S_allWays, Or.inl (k_at 476 (by decide +kernel) (by decide +kernel)), ⟨k_at 478 (by decide +kernel) (by decide +kernel), k_at 30 (by decide +kernel) (by decide +kernel)⟩⟩
theorem cg_Law_9 : CGk 2 "EarChartLaw" 9 kE_init 0 := ⟨cb_E_init, Or.inl (k_at 65 (by decide +kernel) (by decide +kernel)), ⟨k_at 66 (by decide +kernel) (by decide +kernel), rfl, rfl⟩⟩
theorem cg_Law_12 : CGk 2 "EarChartLaw" 12 kT_init 0 := ⟨cb_T_init, Or.inl (k_at 522 (by decide +kernel) (by decide +kernel)), ⟨k_at 523 (by decide +kernel) (by decide +kernel), rfl, rfl⟩⟩
theorem cg_Law_13 : CGk 1 "EarChartLaw" 13 kE_value 2 := ⟨cb_E_value, Or.inl (k_at 220 (by decide +kernel) (by decide +kernel)), ⟨k_at 221 (by decide +kernel) (by decide +kernel), k_at 222 (by decide +kernel) (by decide +kernel)⟩⟩
theorem cg_Law_17 : CGk 1 "EarChartLaw" 17 kT_value 2 := ⟨cb_T_value, Or.inl (k_at 611 (by decide +kernel) (by decide +kernel)), ⟨k_at 612 (by decide +kernel) (by decide +kernel), k_at 613 (by decide +kernel) (by decide +kernel)⟩⟩
theorem cg_Law_18 : CGk 1 "EarChartLaw" 18 kE_gap 1 := ⟨cb_E_gap, Or.inl (k_at 238 (by decide +kernel) (by decide +kernel)), ⟨k_at 239 (by decide +kernel) (by decide +kernel), k_at 240 (by decide +kernel) (by decide +kernel)⟩⟩
theorem cg_Law_22 : CGk 1 "EarChartLaw" 22 kT_gap 1 := ⟨cb_T_gap, Or.inl (k_at 625 (by decide +kernel) (by decide +kernel)), ⟨k_at 626 (by decide +kernel) (by decide +kernel), k_at 627 (by decide +kernel) (by decide +kernel)⟩⟩
theorem cg_Law_23 : CGk 1 "EarChartLaw" 23 kE_put 3 := ⟨cb_E_put, Or.inl (k_at 242 (by decide +kernel) (by decide +kernel)), ⟨k_at 243 (by decide +kernel) (by decide +kernel), k_at 244 (by decide +kernel) (by decide +kernel)⟩⟩
theorem cg_Law_27 : CGk 1 "EarChartLaw" 27 kT_put 3 := ⟨cb_T_put, Or.inl (k_at 629 (by decide +kernel) (by decide +kernel)), ⟨k_at 630 (by decide +kernel) (by decide +kernel), k_at 631 (by decide +kernel) (by decide +kernel)⟩⟩
theorem cg_Law_28 : CGk 1 "EarChartLaw" 28 kE_clear 1 := ⟨cb_E_clear, Or.inl (k_at 250 (by decide +kernel) (by decide +kernel)), ⟨k_at 251 (by decide +kernel) (by decide +kernel), k_at 252 (by decide +kernel) (by decide +kernel)⟩⟩
theorem cg_Law_31 : CGk 1 "EarChartLaw" 31 kT_clear 1 := ⟨cb_T_clear, Or.inl (k_at 637 (by decide +kernel) (by decide +kernel)), ⟨k_at 638 (by decide +kernel) (by decide +kernel), k_at 639 (by decide +kernel) (by decide +kernel)⟩⟩
theorem cg_Law_32 : CGk 1 "EarChartLaw" 32 kE_miss 2 := ⟨cb_E_miss, Or.inl (k_at 254 (by decide +kernel) (by decide +kernel)), ⟨k_at 255 (by decide +kernel) (by decide +kernel), k_at 256 (by decide +kernel) (by decide +kernel)⟩⟩
theorem cg_Law_35 : CGk 1 "EarChartLaw" 35 kT_miss 2 := ⟨cb_T_miss, Or.inl (k_at 641 (by decide +kernel) (by decide +kernel)), ⟨k_at 642 (by decide +kernel) (by decide +kernel), k_at 643 (by decide +kernel) (by decide +kernel)⟩⟩
theorem cg_Law_36 : CGk 1 "EarChartLaw" 36 kE_part 1 := ⟨cb_E_part, Or.inl (k_at 258 (by decide +kernel) (by decide +kernel)), ⟨k_at 259 (by decide +kernel) (by decide +kernel), k_at 260 (by decide +kernel) (by decide +kernel)⟩⟩
theorem cg_Law_39 : CGk 1 "EarChartLaw" 39 kT_part 1 := ⟨cb_T_part, Or.inl (k_at 645 (by decide +kernel) (by decide +kernel)), ⟨k_at 646 (by decide +kernel) (by decide +kernel), k_at 647 (by decide +kernel) (by decide +kernel)⟩⟩
theorem cg_Law_40 : CGk 1 "EarChartLaw" 40 kE_at 2 := ⟨cb_E_at, Or.inl (k_at 262 (by decide +kernel) (by decide +kernel)), ⟨k_at 263 (by decide +kernel) (by decide +kernel), k_at 264 (by decide +kernel) (by decide +kernel)⟩⟩
theorem cg_Law_43 : CGk 1 "EarChartLaw" 43 kT_at 2 := ⟨cb_T_at, Or.inl (k_at 649 (by decide +kernel) (by decide +kernel)), ⟨k_at 650 (by decide +kernel) (by decide +kernel), k_at 651 (by decide +kernel) (by decide +kernel)⟩⟩
theorem cg_Law_44 : CGk 1 "EarChartLaw" 44 kE_spans 1 := ⟨cb_E_spans, Or.inl (k_at 266 (by decide +kernel) (by decide +kernel)), ⟨k_at 267 (by decide +kernel) (by decide +kernel), k_at 268 (by decide +kernel) (by decide +kernel)⟩⟩
theorem cg_Law_47 : CGk 1 "EarChartLaw" 47 kT_spans 1 := ⟨cb_T_spans, Or.inl (k_at 657 (by decide +kernel) (by decide +kernel)), ⟨k_at 658 (by decide +kernel) (by decide +kernel), k_at 659 (by decide +kernel) (by decide +kernel)⟩⟩
theorem cg_Law_48 : CGk 1 "EarChartLaw" 48 kE_cost 1 := ⟨cb_E_cost, Or.inl (k_at 330 (by decide +kernel) (by decide +kernel)), ⟨k_at 331 (by decide +kernel) (by decide +kernel), k_at 332 (by decide +kernel) (by decide +kernel)⟩⟩
theorem cg_Law_51 : CGk 1 "EarChartLaw" 51 kT_cost 1 := ⟨cb_T_cost, Or.inl (k_at 682 (by decide +kernel) (by decide +kernel)), ⟨k_at 683 (by decide +kernel) (by decide +kernel), k_at 684 (by decide +kernel) (by decide +kernel)⟩⟩
theorem cg_Law_52 : CGk 1 "EarChartLaw" 52 kE_span 3 := ⟨cb_E_span, Or.inl (k_at 334 (by decide +kernel) (by decide +kernel)), ⟨k_at 335 (by decide +kernel) (by decide +kernel), k_at 336 (by decide +kernel) (by decide +kernel)⟩⟩
theorem cg_Law_56 : CGk 1 "EarChartLaw" 56 kT_span 3 := ⟨cb_T_span, Or.inl (k_at 686 (by decide +kernel) (by decide +kernel)), ⟨k_at 687 (by decide +kernel) (by decide +kernel), k_at 688 (by decide +kernel) (by decide +kernel)⟩⟩
theorem cg_Law_57 : CGk 1 "EarChartLaw" 57 kE_kind 2 := ⟨cb_E_kind, Or.inl (k_at 343 (by decide +kernel) (by decide +kernel)), ⟨k_at 344 (by decide +kernel) (by decide +kernel), k_at 345 (by decide +kernel) (by decide +kernel)⟩⟩
theorem cg_Law_60 : CGk 1 "EarChartLaw" 60 kT_kind 2 := ⟨cb_T_kind, Or.inl (k_at 690 (by decide +kernel) (by decide +kernel)), ⟨k_at 691 (by decide +kernel) (by decide +kernel), k_at 692 (by decide +kernel) (by decide +kernel)⟩⟩
theorem cg_Law_61 : CGk 1 "EarChartLaw" 61 kE_turnsOf 1 := ⟨cb_E_turnsOf, Or.inl (k_at 347 (by decide +kernel) (by decide +kernel)), ⟨k_at 348 (by decide +kernel) (by decide +kernel), k_at 349 (by decide +kernel) (by decide +kernel)⟩⟩
theorem cg_Law_64 : CGk 1 "EarChartLaw" 64 kT_turnsOf 1 := ⟨cb_T_turnsOf, Or.inl (k_at 694 (by decide +kernel) (by decide +kernel)), ⟨k_at 695 (by decide +kernel) (by decide +kernel), k_at 696 (by decide +kernel) (by decide +kernel)⟩⟩
theorem cg_Law_65 : CGk 1 "EarChartLaw" 65 kE_turn 2 := ⟨cb_E_turn, Or.inl (k_at 351 (by decide +kernel) (by decide +kernel)), ⟨k_at 352 (by decide +kernel) (by decide +kernel), k_at 353 (by decide +kernel) (by decide +kernel)⟩⟩
theorem cg_Law_68 : CGk 1 "EarChartLaw" 68 kT_turn 2 := ⟨cb_T_turn, Or.inl (k_at 705 (by decide +kernel) (by decide +kernel)), ⟨k_at 706 (by decide +kernel) (by decide +kernel), k_at 707 (by decide +kernel) (by decide +kernel)⟩⟩
theorem cg_Law_69 : CGk 1 "EarChartLaw" 69 kE_sure 3 := ⟨cb_E_sure, Or.inl (k_at 355 (by decide +kernel) (by decide +kernel)), ⟨k_at 356 (by decide +kernel) (by decide +kernel), k_at 357 (by decide +kernel) (by decide +kernel)⟩⟩
theorem cg_Law_72 : CGk 1 "EarChartLaw" 72 kT_sure 3 := ⟨cb_T_sure, Or.inl (k_at 709 (by decide +kernel) (by decide +kernel)), ⟨k_at 710 (by decide +kernel) (by decide +kernel), k_at 711 (by decide +kernel) (by decide +kernel)⟩⟩
theorem cg_Law_73 : CGk 1 "EarChartLaw" 73 kE_crossings 2 := ⟨cb_E_crossings, Or.inl (k_at 366 (by decide +kernel) (by decide +kernel)), ⟨k_at 367 (by decide +kernel) (by decide +kernel), k_at 368 (by decide +kernel) (by decide +kernel)⟩⟩
theorem cg_Law_76 : CGk 1 "EarChartLaw" 76 kT_crossings 2 := ⟨cb_T_crossings, Or.inl (k_at 713 (by decide +kernel) (by decide +kernel)), ⟨k_at 714 (by decide +kernel) (by decide +kernel), k_at 715 (by decide +kernel) (by decide +kernel)⟩⟩
theorem cg_Law_77 : CGk 1 "EarChartLaw" 77 kE_crossing 3 := ⟨cb_E_crossing, Or.inl (k_at 379 (by decide +kernel) (by decide +kernel)), ⟨k_at 380 (by decide +kernel) (by decide +kernel), k_at 381 (by decide +kernel) (by decide +kernel)⟩⟩
theorem cg_Law_80 : CGk 1 "EarChartLaw" 80 kT_crossing 3 := ⟨cb_T_crossing, Or.inl (k_at 722 (by decide +kernel) (by decide +kernel)), ⟨k_at 723 (by decide +kernel) (by decide +kernel), k_at 724 (by decide +kernel) (by decide +kernel)⟩⟩
theorem cg_Law_81 : CGk 1 "EarChartLaw" 81 kE_scale 2 := ⟨cb_E_scale, Or.inl (k_at 383 (by decide +kernel) (by decide +kernel)), ⟨k_at 384 (by decide +kernel) (by decide +kernel), k_at 385 (by decide +kernel) (by decide +kernel)⟩⟩
theorem cg_Law_84 : CGk 1 "EarChartLaw" 84 kT_scale 2 := ⟨cb_T_scale, Or.inl (k_at 726 (by decide +kernel) (by decide +kernel)), ⟨k_at 727 (by decide +kernel) (by decide +kernel), k_at 728 (by decide +kernel) (by decide +kernel)⟩⟩
theorem cg_Law_85 : CGk 1 "EarChartLaw" 85 kE_height 2 := ⟨cb_E_height, Or.inl (k_at 411 (by decide +kernel) (by decide +kernel)), ⟨k_at 412 (by decide +kernel) (by decide +kernel), k_at 413 (by decide +kernel) (by decide +kernel)⟩⟩
theorem cg_Law_88 : CGk 1 "EarChartLaw" 88 kT_height 2 := ⟨cb_T_height, Or.inl (k_at 734 (by decide +kernel) (by decide +kernel)), ⟨k_at 735 (by decide +kernel) (by decide +kernel), k_at 736 (by decide +kernel) (by decide +kernel)⟩⟩
theorem cg_Law_89 : CGk 1 "EarChartLaw" 89 kE_ear 2 := ⟨cb_E_ear, Or.inl (k_at 419 (by decide +kernel) (by decide +kernel)), ⟨k_at 420 (by decide +kernel) (by decide +kernel), k_at 421 (by decide +kernel) (by decide +kernel)⟩⟩
theorem cg_Law_93 : CGk 1 "EarChartLaw" 93 kT_ear 2 := ⟨cb_T_ear, Or.inl (k_at 738 (by decide +kernel) (by decide +kernel)), ⟨k_at 739 (by decide +kernel) (by decide +kernel), k_at 740 (by decide +kernel) (by decide +kernel)⟩⟩
theorem cg_Law_94 : CGk 1 "EarChartLaw" 94 kE_worth 2 := ⟨cb_E_worth, Or.inl (k_at 423 (by decide +kernel) (by decide +kernel)), ⟨k_at 424 (by decide +kernel) (by decide +kernel), k_at 425 (by decide +kernel) (by decide +kernel)⟩⟩
theorem cg_Law_97 : CGk 1 "EarChartLaw" 97 kT_worth 2 := ⟨cb_T_worth, Or.inl (k_at 742 (by decide +kernel) (by decide +kernel)), ⟨k_at 743 (by decide +kernel) (by decide +kernel), k_at 744 (by decide +kernel) (by decide +kernel)⟩⟩
theorem cg_Law_98 : CGk 1 "EarChartLaw" 98 kE_lay 1 := ⟨cb_E_lay, Or.inl (k_at 427 (by decide +kernel) (by decide +kernel)), ⟨k_at 428 (by decide +kernel) (by decide +kernel), k_at 429 (by decide +kernel) (by decide +kernel)⟩⟩
theorem cg_Law_101 : CGk 1 "EarChartLaw" 101 kT_lay 1 := ⟨cb_T_lay, Or.inl (k_at 746 (by decide +kernel) (by decide +kernel)), ⟨k_at 747 (by decide +kernel) (by decide +kernel), k_at 748 (by decide +kernel) (by decide +kernel)⟩⟩
theorem cg_Law_102 : CGk 1 "EarChartLaw" 102 kE_slot 2 := ⟨cb_E_slot, Or.inl (k_at 452 (by decide +kernel) (by decide +kernel)), ⟨k_at 453 (by decide +kernel) (by decide +kernel), k_at 454 (by decide +kernel) (by decide +kernel)⟩⟩
theorem cg_Law_105 : CGk 1 "EarChartLaw" 105 kT_slot 2 := ⟨cb_T_slot, Or.inl (k_at 763 (by decide +kernel) (by decide +kernel)), ⟨k_at 764 (by decide +kernel) (by decide +kernel), k_at 765 (by decide +kernel) (by decide +kernel)⟩⟩
theorem cg_Law_106 : CGk 1 "EarChartLaw" 106 kE_hears 3 := ⟨cb_E_hears, Or.inl (k_at 456 (by decide +kernel) (by decide +kernel)), ⟨k_at 457 (by decide +kernel) (by decide +kernel), k_at 458 (by decide +kernel) (by decide +kernel)⟩⟩
theorem cg_Law_109 : CGk 1 "EarChartLaw" 109 kT_hears 3 := ⟨cb_T_hears, Or.inl (k_at 767 (by decide +kernel) (by decide +kernel)), ⟨k_at 768 (by decide +kernel) (by decide +kernel), k_at 769 (by decide +kernel) (by decide +kernel)⟩⟩
theorem cg_Law_110 : CGk 1 "EarChartLaw" 110 kE_whole 3 := ⟨cb_E_whole, Or.inl (k_at 468 (by decide +kernel) (by decide +kernel)), ⟨k_at 469 (by decide +kernel) (by decide +kernel), k_at 470 (by decide +kernel) (by decide +kernel)⟩⟩
theorem cg_Law_113 : CGk 1 "EarChartLaw" 113 kT_whole 3 := ⟨cb_T_whole, Or.inl (k_at 771 (by decide +kernel) (by decide +kernel)), ⟨k_at 772 (by decide +kernel) (by decide +kernel), k_at 773 (by decide +kernel) (by decide +kernel)⟩⟩
theorem cg_Law_114 : CGk 1 "EarChartLaw" 114 kE_walk 2 := ⟨cb_E_walk, Or.inl (k_at 484 (by decide +kernel) (by decide +kernel)), ⟨k_at 485 (by decide +kernel) (by decide +kernel), k_at 486 (by decide +kernel) (by decide +kernel)⟩⟩
theorem cg_Law_117 : CGk 1 "EarChartLaw" 117 kT_walk 2 := ⟨cb_T_walk, Or.inl (k_at 779 (by decide +kernel) (by decide +kernel)), ⟨k_at 780 (by decide +kernel) (by decide +kernel), k_at 781 (by decide +kernel) (by decide +kernel)⟩⟩
theorem cg_Law_118 : CGk 1 "EarChartLaw" 118 kE_where 1 := ⟨cb_E_where, Or.inl (k_at 488 (by decide +kernel) (by decide +kernel)), ⟨k_at 489 (by decide +kernel) (by decide +kernel), k_at 490 (by decide +kernel) (by decide +kernel)⟩⟩
theorem cg_Law_121 : CGk 1 "EarChartLaw" 121 kT_where 1 := ⟨cb_T_where, Or.inl (k_at 783 (by decide +kernel) (by decide +kernel)), ⟨k_at 784 (by decide +kernel) (by decide +kernel), k_at 785 (by decide +kernel) (by decide +kernel)⟩⟩
theorem cg_Law_122 : CGk 1 "EarChartLaw" 122 kE_go 1 := ⟨cb_E_go, Or.inl (k_at 492 (by decide +kernel) (by decide +kernel)), ⟨k_at 493 (by decide +kernel) (by decide +kernel), k_at 494 (by decide +kernel) (by decide +kernel)⟩⟩
theorem cg_Law_126 : CGk 1 "EarChartLaw" 126 kT_go 1 := ⟨cb_T_go, Or.inl (k_at 787 (by decide +kernel) (by decide +kernel)), ⟨k_at 788 (by decide +kernel) (by decide +kernel), k_at 789 (by decide +kernel) (by decide +kernel)⟩⟩
theorem cg_Law_127 : CGk 1 "EarChartLaw" 127 kE_seek 2 := ⟨cb_E_seek, Or.inl (k_at 496 (by decide +kernel) (by decide +kernel)), ⟨k_at 497 (by decide +kernel) (by decide +kernel), k_at 498 (by decide +kernel) (by decide +kernel)⟩⟩
theorem cg_Law_131 : CGk 1 "EarChartLaw" 131 kT_seek 2 := ⟨cb_T_seek, Or.inl (k_at 791 (by decide +kernel) (by decide +kernel)), ⟨k_at 792 (by decide +kernel) (by decide +kernel), k_at 793 (by decide +kernel) (by decide +kernel)⟩⟩
end
section
/-! methods that make nothing: shorter words and rows -/
abbrev AN (M : MI) (d : Nat) (Q : QT) (pc : Nat) (L : List (Option Value)) (st : List Value) (h : List AC) : Prop := AW M false d 0 0 Q 0 0 pc L st h
abbrev AM (M : MI) (d : Nat) (as : List Value) (h : List AC) (Q : QT) : Prop := AMet M false d 0 0 as h Q
/-- answers E, changes nothing -/
def RQ (E : Int32) (h : List AC) : QT := fun v h' => h' = h ∧ v = some (.int E)
/-- answers whether P, changes nothing -/
def BQ (P : Prop) (h : List AC) : QT := fun v h' => h' = h ∧ (P ∧ v = some (.int 1) ∨ ¬ P ∧ v = some (.int 0))
section ANR
variable {M : MI} {d : Nat} {Q : QT} {pc : Nat} {L : List (Option Value)} {st : List Value} {h : List AC}
theorem an_heap {h' : List AC} (e : h = h') (kk : AN M d Q pc L st h') : AN M d Q pc L st h := e ▸ kk
theorem an_loc {L' : List (Option Value)} (e : L = L') (kk : AN M d Q pc L' st h) : AN M d Q pc L st h := e ▸ kk
theorem an_top {x y : Int32} (e : x = y) (kk : AN M d Q pc L (.int y :: st) h) : AN M d Q pc L (.int x :: st) h := e ▸ kk
theorem an_top2 {x y : Int32} {v : Value} (e : x = y) (kk : AN M d Q pc L (v :: .int y :: st) h) : AN M d Q pc L (v :: .int x :: st) h := e ▸ kk
theorem an_callSb {ix nP d' : Nat} {M' : MI} {as : List Value} {P : Prop} {st0 : List Value} (g : CGk 0 M.1.cls ix M' nP) (hM : AM M' d' as h (BQ P h)) (hd : decode M.2.1 pc = .ok (.invokestatic ix, 3)) (hlen : as.length = nP) (hst : st0 = as.reverse ++ st) (hW : (st.map fun v => v.category).sum ≤ 8) (hdd : d' + 1 ≤ d)
    (kt : P → AN M d Q (pc + 3) L (.int 1 :: st) h) (kf : ¬ P → AN M d Q (pc + 3) L (.int 0 :: st) h) : AN M d Q pc L st0 h :=
  aw_callS g hM hd hlen hst hW hdd ⟨Nat.le_refl _, Nat.le_refl _⟩ (fun r h' hq _ => by
    obtain ⟨rfl, ⟨hp, rfl⟩ | ⟨hp, rfl⟩⟩ := hq
    · exact kt hp
    · exact kf hp)
theorem an_callSr {ix nP d' : Nat} {M' : MI} {as : List Value} {E : Int32} {st0 : List Value} (g : CGk 0 M.1.cls ix M' nP) (hM : AM M' d' as h (RQ E h)) (hd : decode M.2.1 pc = .ok (.invokestatic ix, 3)) (hlen : as.length = nP) (hst : st0 = as.reverse ++ st) (hW : (st.map fun v => v.category).sum ≤ 8) (hdd : d' + 1 ≤ d)
    (kk : AN M d Q (pc + 3) L (.int E :: st) h) : AN M d Q pc L st0 h :=
  aw_callS g hM hd hlen hst hW hdd ⟨Nat.le_refl _, Nat.le_refl _⟩ (fun r h' hq _ => by
    obtain ⟨rfl, rfl⟩ := hq
    exact kk)
theorem an_callSx {ix nP d' : Nat} {M' : MI} {as : List Value} {Q' : QT} {st0 : List Value} (g : CGk 0 M.1.cls ix M' nP) (hM : AM M' d' as h Q') (hd : decode M.2.1 pc = .ok (.invokestatic ix, 3)) (hlen : as.length = nP) (hst : st0 = as.reverse ++ st) (hW : (st.map fun v => v.category).sum ≤ 8) (hdd : d' + 1 ≤ d)
    (kk : ∀ (r : Option Value) (h' : List AC), Q' r h' → AN M d Q (pc + 3) L (r.toList ++ st) h') : AN M d Q pc L st0 h :=
  aw_callS g hM hd hlen hst hW hdd ⟨Nat.le_refl _, Nat.le_refl _⟩ (fun r h' hq _ => kk r h' hq)
theorem an_callVb {ix nP d' a ci : Nat} {M' : MI} {as : List Value} {fs : List Value} {q : vw_C} {P : Prop} {st0 : List Value} (g : CGk 1 M.1.cls ix M' nP) (hM : AM M' d' (.ref a :: as) h (BQ P h)) (hd : decode M.2.1 pc = .ok (.invokevirtual ix, 3)) (hlen : as.length = nP) (he : h[a]? = some (.inr (ci, fs))) (hc : kclasses[ci]? = some q) (hq : q.1 = M'.1.cls) (hst : st0 = (Value.ref a :: as).reverse ++ st) (hW : (st.map fun v => v.category).sum ≤ 8) (hdd : d' + 1 ≤ d)
    (kt : P → AN M d Q (pc + 3) L (.int 1 :: st) h) (kf : ¬ P → AN M d Q (pc + 3) L (.int 0 :: st) h) : AN M d Q pc L st0 h :=
  aw_callV g hM hd hlen he hc hq hst hW hdd ⟨Nat.le_refl _, Nat.le_refl _⟩ (fun r h' hq _ => by
    obtain ⟨rfl, ⟨hp, rfl⟩ | ⟨hp, rfl⟩⟩ := hq
    · exact kt hp
    · exact kf hp)
theorem an_callVr {ix nP d' a ci : Nat} {M' : MI} {as : List Value} {fs : List Value} {q : vw_C} {E : Int32} {st0 : List Value} (g : CGk 1 M.1.cls ix M' nP) (hM : AM M' d' (.ref a :: as) h (RQ E h)) (hd : decode M.2.1 pc = .ok (.invokevirtual ix, 3)) (hlen : as.length = nP) (he : h[a]? = some (.inr (ci, fs))) (hc : kclasses[ci]? = some q) (hq : q.1 = M'.1.cls) (hst : st0 = (Value.ref a :: as).reverse ++ st) (hW : (st.map fun v => v.category).sum ≤ 8) (hdd : d' + 1 ≤ d)
    (kk : AN M d Q (pc + 3) L (.int E :: st) h) : AN M d Q pc L st0 h :=
  aw_callV g hM hd hlen he hc hq hst hW hdd ⟨Nat.le_refl _, Nat.le_refl _⟩ (fun r h' hq _ => by
    obtain ⟨rfl, rfl⟩ := hq
    exact kk)
theorem an_callVx {ix nP d' a ci : Nat} {M' : MI} {as : List Value} {fs : List Value} {q : vw_C} {Q' : QT} {st0 : List Value} (g : CGk 1 M.1.cls ix M' nP) (hM : AM M' d' (.ref a :: as) h Q') (hd : decode M.2.1 pc = .ok (.invokevirtual ix, 3)) (hlen : as.length = nP) (he : h[a]? = some (.inr (ci, fs))) (hc : kclasses[ci]? = some q) (hq : q.1 = M'.1.cls) (hst : st0 = (Value.ref a :: as).reverse ++ st) (hW : (st.map fun v => v.category).sum ≤ 8) (hdd : d' + 1 ≤ d)
    (kk : ∀ (r : Option Value) (h' : List AC), Q' r h' → AN M d Q (pc + 3) L (r.toList ++ st) h') : AN M d Q pc L st0 h :=
  aw_callV g hM hd hlen he hc hq hst hW hdd ⟨Nat.le_refl _, Nat.le_refl _⟩ (fun r h' hq _ => kk r h' hq)
theorem an_ld {c N j : Nat} {x : Int32} {f : Nat → Int32} (hd : decode M.2.1 pc = .ok (.iaload, 1)) (he : h[c]? = some (.inl (0, N, .inl f))) (e : x = nI j) (hj : j < N) (hN : N < 2 ^ 31) (kk : AN M d Q (pc + 1) L (.int (f j) :: st) h) : AN M d Q pc L (.int x :: .ref c :: st) h := by
  subst e
  refine aw_iald hd he (vp_in_nI hj hN) ?_
  rw [nI_clamp (by omega)]
  exact kk
theorem an_ldz {c N j : Nat} {x : Int32} {f : Nat → Int32} (hd : decode M.2.1 pc = .ok (.baload, 1)) (he : h[c]? = some (.inl (1, N, .inl f))) (e : x = nI j) (hj : j < N) (hN : N < 2 ^ 31) (kk : AN M d Q (pc + 1) L (.int (f j) :: st) h) : AN M d Q pc L (.int x :: .ref c :: st) h := by
  subst e
  refine aw_zald hd he (vp_in_nI hj hN) ?_
  rw [nI_clamp (by omega)]
  exact kk
theorem an_st {c N j : Nat} {x v : Int32} {f : Nat → Int32} {h' : List AC} (hd : decode M.2.1 pc = .ok (.iastore, 1)) (he : h[c]? = some (.inl (0, N, .inl f))) (e : x = nI j) (hj : j < N) (hN : N < 2 ^ 31) (e' : h.set c (.inl (0, N, .inl (upd f j v))) = h') (kk : AN M d Q (pc + 1) L st h') : AN M d Q pc L (.int v :: .int x :: .ref c :: st) h := by
  subst e
  subst e'
  refine aw_iast hd he (vp_in_nI hj hN) ?_
  rw [nI_clamp (by omega)]
  exact kk
theorem an_stz {c N j : Nat} {x v : Int32} {f : Nat → Int32} {h' : List AC} (hd : decode M.2.1 pc = .ok (.bastore, 1)) (he : h[c]? = some (.inl (1, N, .inl f))) (e : x = nI j) (hj : j < N) (hN : N < 2 ^ 31) (hv : v = 0 ∨ v = 1) (e' : h.set c (.inl (1, N, .inl (upd f j v))) = h') (kk : AN M d Q (pc + 1) L st h') : AN M d Q pc L (.int v :: .int x :: .ref c :: st) h := by
  subst e
  subst e'
  refine aw_zast hd he (vp_in_nI hj hN) hv ?_
  rw [nI_clamp (by omega)]
  exact kk
theorem an_put {i ci kf ix : Nat} {fs : List Value} {v : Value} {ty : FieldType} {h' : List AC} (f : FP false M.1.cls ix ci kf ty) (hd : decode M.2.1 pc = .ok (.putfield ix, 3)) (he : h[i]? = some (.inr (ci, fs))) (hl : kf < fs.length) (hv : okV ty v) (e' : h.set i (.inr (ci, fs.set kf v)) = h') (kk : AN M d Q (pc + 3) L st h') : AN M d Q pc L (v :: .ref i :: st) h := by
  subst e'
  exact aw_put f hd he hl hv kk
theorem okVi (x : Int32) : okV .int (.int x) := fun _ => ⟨rfl, rfl⟩
theorem an_astore_r {i : Fin 4} {a : Nat} (hd : decode M.2.1 pc = .ok (.astore_n i, 1)) (hn : (i : Nat) < M.2.2.1) (kk : AN M d Q (pc + 1) (L.set i (some (.ref a))) st h) : AN M d Q pc L (.ref a :: st) h := aw_astore_n (r := some a) hd hn kk
theorem an_astore_0 {i : Fin 4} (hd : decode M.2.1 pc = .ok (.astore_n i, 1)) (hn : (i : Nat) < M.2.2.1) (kk : AN M d Q (pc + 1) (L.set i (some .null)) st h) : AN M d Q pc L (.null :: st) h := aw_astore_n (r := none) hd hn kk
theorem an_astore_m {i : Nat} {a : Nat} (hd : decode M.2.1 pc = .ok (.astore i, 2)) (hn : i < M.2.2.1) (kk : AN M d Q (pc + 2) (L.set i (some (.ref a))) st h) : AN M d Q pc L (.ref a :: st) h := aw_astore (r := some a) hd hn kk
theorem an_aload_0 {i : Fin 4} (hd : decode M.2.1 pc = .ok (.aload_n i, 1)) (hl : L[(i : Nat)]? = some (some .null)) (kk : AN M d Q (pc + 1) L (.null :: st) h) : AN M d Q pc L st h := aw_aload_n (r := none) hd hl kk
theorem an_ifnull_0 {off : Int} {tgt : Nat} (hd : decode M.2.1 pc = .ok (.ifnull off, 3)) (ht : (pc : Int) + off = (tgt : Int)) (kk : AN M d Q tgt L st h) : AN M d Q pc L (.null :: st) h := aw_ifnull (r := none) hd ht (fun _ => kk) (fun _ q => by cases q)
theorem an_ifnull_r {off : Int} {tgt a : Nat} (hd : decode M.2.1 pc = .ok (.ifnull off, 3)) (ht : (pc : Int) + off = (tgt : Int)) (kk : AN M d Q (pc + 3) L st h) : AN M d Q pc L (.ref a :: st) h := aw_ifnull (r := some a) hd ht (fun q => by cases q) (fun _ _ => kk)
theorem an_ifnonnull_0 {off : Int} {tgt : Nat} (hd : decode M.2.1 pc = .ok (.ifnonnull off, 3)) (ht : (pc : Int) + off = (tgt : Int)) (kk : AN M d Q (pc + 3) L st h) : AN M d Q pc L (.null :: st) h := aw_ifnonnull (r := none) hd ht (fun _ q => by cases q) (fun _ => kk)
theorem an_ifnonnull_r {off : Int} {tgt a : Nat} (hd : decode M.2.1 pc = .ok (.ifnonnull off, 3)) (ht : (pc : Int) + off = (tgt : Int)) (kk : AN M d Q tgt L st h) : AN M d Q pc L (.ref a :: st) h := aw_ifnonnull (r := some a) hd ht (fun _ _ => kk) (fun q => by cases q)
theorem an_aret_r {a : Nat} {nm : String} (hr : M.2.2.2 = some (.object nm)) (hd : decode M.2.1 pc = .ok (.areturn, 1)) (hq : Q (some (.ref a)) h) : AN M d Q pc L [.ref a] h := aw_aret (r := some a) hr hd hq
theorem an_aret_0 {nm : String} (hr : M.2.2.2 = some (.object nm)) (hd : decode M.2.1 pc = .ok (.areturn, 1)) (hq : Q (some .null) h) : AN M d Q pc L [.null] h := aw_aret (r := none) hr hd hq
end ANR
/-! the cells of the class and of the reference, by their numbers -/
abbrev ci_ (N : Nat) (f : Nat → Int32) : AC := .inl (0, N, .inl f)
abbrev cz_ (N : Nat) (f : Nat → Int32) : AC := .inl (1, N, .inl f)
def hT (J : Nat → Int32) (B : Nat → Nat → Int32) : List AC := [
  .inr (5, [.ref 1, .ref 2, .ref 3, .ref 4, .int (J 4), .int (J 5), .int (J 6), .ref 5, .ref 6, .int (J 9), .int (J 10), .ref 7, .ref 8, .ref 9, .int (J 14), .ref 10, .int (J 16), .ref 11, .int (J 18), .int (J 19), .int (J 20), .int (J 21), .int (J 22), .ref 12, .ref 13, .ref 14, .ref 15, .ref 16]),
  ci_ 4 (B 1), ci_ 160 (B 2), ci_ 4 (B 3), ci_ 4 (B 4), ci_ 40 (B 5), ci_ 164 (B 6), ci_ 40 (B 7), ci_ 40 (B 8), ci_ 40 (B 9), ci_ 40 (B 10), ci_ 40 (B 11), ci_ 4 (B 12), ci_ 4 (B 13), ci_ 4 (B 14), ci_ 40 (B 15), cz_ 40 (B 16)]
def rowc (I : Nat → Int32) (k : Nat) : AC := .inr (1, [.ref (3 + 2 * k), .int (I (201 + 200 * k)), .int (I (202 + 200 * k)), .int (I (203 + 200 * k))])
def hC (I : Nat → Int32) (A : Nat → Nat → Int32) : List AC := [
  .inr (0, [.ref 1, .ref 10, .ref 20, .ref 22, .ref 27, .int (I 5), .int (I 6), .int (I 7), .int (I 8), .int (I 9), .int (I 10)]),
  .inl (2, 4, .inr (.inr (.inr (.inr (fun j => if j < 4 then some (2 + 2 * j) else none))))),
  rowc I 0, ci_ 40 (A 3), rowc I 1, ci_ 40 (A 5), rowc I 2, ci_ 40 (A 7), rowc I 3, ci_ 40 (A 9),
  .inr (2, [.ref 11, .ref 12, .ref 13, .ref 14, .ref 15, .int (I 1005), .int (I 1006), .int (I 1007)]),
  ci_ 40 (A 11), ci_ 40 (A 12), ci_ 40 (A 13), ci_ 40 (A 14), .inl (3, 4, .inr (.inr (.inr (.inr (fun j => if j < 4 then some (16 + j) else none))))), ci_ 40 (A 16), ci_ 40 (A 17), ci_ 40 (A 18), ci_ 40 (A 19),
  .inr (3, [.ref 21, .int (I 2001)]), ci_ 40 (A 21),
  .inr (4, [.ref 23, .ref 24, .ref 25, .ref 26, .int (I 2204), .int (I 2205), .int (I 2206)]), ci_ 4 (A 23), ci_ 4 (A 24), ci_ 4 (A 25), ci_ 4 (A 26),
  cz_ 40 (A 27)]
theorem hC_row (I : Nat → Int32) (A : Nat → Nat → Int32) {k : Nat} (hk : k < 4) : (hC I A)[2 + 2 * k]? = some (rowc I k) := by
  match k, hk with
  | 0, _ => rfl
  | 1, _ => rfl
  | 2, _ => rfl
  | 3, _ => rfl
theorem hC_val (I : Nat → Int32) (A : Nat → Nat → Int32) {k : Nat} (hk : k < 4) : (hC I A)[3 + 2 * k]? = some (ci_ 40 (A (3 + 2 * k))) := by
  match k, hk with
  | 0, _ => rfl
  | 1, _ => rfl
  | 2, _ => rfl
  | 3, _ => rfl
theorem hC_rowS (I : Nat → Int32) (A : Nat → Nat → Int32) {k : Nat} (hk : k < 4) (j : Nat) (hj : j < 3) (v : Int32) : (hC I A).set (2 + 2 * k) (.inr (1, [Value.ref (3 + 2 * k), .int (I (201 + 200 * k)), .int (I (202 + 200 * k)), .int (I (203 + 200 * k))].set (1 + j) (.int v))) = hC (upd I (201 + 200 * k + j) v) A := by
  match k, hk, j, hj with
  | 0, _, 0, _ => rfl
  | 0, _, 1, _ => rfl
  | 0, _, 2, _ => rfl
  | 1, _, 0, _ => rfl
  | 1, _, 1, _ => rfl
  | 1, _, 2, _ => rfl
  | 2, _, 0, _ => rfl
  | 2, _, 1, _ => rfl
  | 2, _, 2, _ => rfl
  | 3, _, 0, _ => rfl
  | 3, _, 1, _ => rfl
  | 3, _, 2, _ => rfl
theorem hC_valS (I : Nat → Int32) (A : Nat → Nat → Int32) {k : Nat} (hk : k < 4) (f : Nat → Int32) : (hC I A).set (3 + 2 * k) (ci_ 40 f) = hC I (va_up A (3 + 2 * k) f) := by
  match k, hk with
  | 0, _ => rfl
  | 1, _ => rfl
  | 2, _ => rfl
  | 3, _ => rfl
end
section
/-! rows over the class's and the reference's cells -/
def ArrC (t c N : Nat) : Prop := ∀ (I : Nat → Int32) (A : Nat → Nat → Int32), (hC I A)[c]? = some (.inl (t, N, .inl (A c))) ∧ ∀ f, (hC I A).set c (.inl (t, N, .inl f)) = hC I (va_up A c f)
def ArrT (t c N : Nat) : Prop := ∀ (I : Nat → Int32) (A : Nat → Nat → Int32), (hT I A)[c]? = some (.inl (t, N, .inl (A c))) ∧ ∀ f, (hT I A).set c (.inl (t, N, .inl f)) = hT I (va_up A c f)
theorem ac_11 : ArrC 0 11 40 := fun _ _ => ⟨rfl, fun _ => rfl⟩
theorem ac_12 : ArrC 0 12 40 := fun _ _ => ⟨rfl, fun _ => rfl⟩
theorem ac_13 : ArrC 0 13 40 := fun _ _ => ⟨rfl, fun _ => rfl⟩
theorem ac_14 : ArrC 0 14 40 := fun _ _ => ⟨rfl, fun _ => rfl⟩
theorem ac_21 : ArrC 0 21 40 := fun _ _ => ⟨rfl, fun _ => rfl⟩
theorem ac_23 : ArrC 0 23 4 := fun _ _ => ⟨rfl, fun _ => rfl⟩
theorem ac_24 : ArrC 0 24 4 := fun _ _ => ⟨rfl, fun _ => rfl⟩
theorem ac_25 : ArrC 0 25 4 := fun _ _ => ⟨rfl, fun _ => rfl⟩
theorem ac_26 : ArrC 0 26 4 := fun _ _ => ⟨rfl, fun _ => rfl⟩
theorem ac_27 : ArrC 1 27 40 := fun _ _ => ⟨rfl, fun _ => rfl⟩
theorem at_1 : ArrT 0 1 4 := fun _ _ => ⟨rfl, fun _ => rfl⟩
theorem at_2 : ArrT 0 2 160 := fun _ _ => ⟨rfl, fun _ => rfl⟩
theorem at_3 : ArrT 0 3 4 := fun _ _ => ⟨rfl, fun _ => rfl⟩
theorem at_4 : ArrT 0 4 4 := fun _ _ => ⟨rfl, fun _ => rfl⟩
theorem at_5 : ArrT 0 5 40 := fun _ _ => ⟨rfl, fun _ => rfl⟩
theorem at_6 : ArrT 0 6 164 := fun _ _ => ⟨rfl, fun _ => rfl⟩
theorem at_7 : ArrT 0 7 40 := fun _ _ => ⟨rfl, fun _ => rfl⟩
theorem at_8 : ArrT 0 8 40 := fun _ _ => ⟨rfl, fun _ => rfl⟩
theorem at_9 : ArrT 0 9 40 := fun _ _ => ⟨rfl, fun _ => rfl⟩
theorem at_10 : ArrT 0 10 40 := fun _ _ => ⟨rfl, fun _ => rfl⟩
theorem at_11 : ArrT 0 11 40 := fun _ _ => ⟨rfl, fun _ => rfl⟩
theorem at_12 : ArrT 0 12 4 := fun _ _ => ⟨rfl, fun _ => rfl⟩
theorem at_13 : ArrT 0 13 4 := fun _ _ => ⟨rfl, fun _ => rfl⟩
theorem at_14 : ArrT 0 14 4 := fun _ _ => ⟨rfl, fun _ => rfl⟩
theorem at_15 : ArrT 0 15 40 := fun _ _ => ⟨rfl, fun _ => rfl⟩
theorem at_16 : ArrT 1 16 40 := fun _ _ => ⟨rfl, fun _ => rfl⟩
theorem ac_val {k : Nat} (hk : k < 4) : ArrC 0 (3 + 2 * k) 40 := fun I A => ⟨hC_val I A hk, hC_valS I A hk⟩
theorem ac_cost {k : Nat} (hk : k < 4) : ArrC 0 (16 + k) 40 := by
  match k, hk with
  | 0, _ => exact fun _ _ => ⟨rfl, fun _ => rfl⟩
  | 1, _ => exact fun _ _ => ⟨rfl, fun _ => rfl⟩
  | 2, _ => exact fun _ _ => ⟨rfl, fun _ => rfl⟩
  | 3, _ => exact fun _ _ => ⟨rfl, fun _ => rfl⟩
section ANC
variable {M : MI} {d : Nat} {Q : QT} {pc : Nat} {L : List (Option Value)} {st : List Value} {I : Nat → Int32} {A : Nat → Nat → Int32}
theorem an_ldC {c N j : Nat} {x : Int32} (hd : decode M.2.1 pc = .ok (.iaload, 1)) (ha : ArrC 0 c N) (e : x = nI j) (hj : j < N) (hN : N < 2 ^ 31) (kk : AN M d Q (pc + 1) L (.int (A c j) :: st) (hC I A)) : AN M d Q pc L (.int x :: .ref c :: st) (hC I A) := an_ld hd (ha I A).1 e hj hN kk
theorem an_lzC {c N j : Nat} {x : Int32} (hd : decode M.2.1 pc = .ok (.baload, 1)) (ha : ArrC 1 c N) (e : x = nI j) (hj : j < N) (hN : N < 2 ^ 31) (kk : AN M d Q (pc + 1) L (.int (A c j) :: st) (hC I A)) : AN M d Q pc L (.int x :: .ref c :: st) (hC I A) := an_ldz hd (ha I A).1 e hj hN kk
theorem an_stC {c N j : Nat} {x v : Int32} (hd : decode M.2.1 pc = .ok (.iastore, 1)) (ha : ArrC 0 c N) (e : x = nI j) (hj : j < N) (hN : N < 2 ^ 31) (kk : AN M d Q (pc + 1) L st (hC I (va_up A c (upd (A c) j v)))) : AN M d Q pc L (.int v :: .int x :: .ref c :: st) (hC I A) := an_st hd (ha I A).1 e hj hN ((ha I A).2 _) kk
theorem an_szC {c N j : Nat} {x v : Int32} (hd : decode M.2.1 pc = .ok (.bastore, 1)) (ha : ArrC 1 c N) (e : x = nI j) (hj : j < N) (hN : N < 2 ^ 31) (hv : v = 0 ∨ v = 1) (kk : AN M d Q (pc + 1) L st (hC I (va_up A c (upd (A c) j v)))) : AN M d Q pc L (.int v :: .int x :: .ref c :: st) (hC I A) := an_stz hd (ha I A).1 e hj hN hv ((ha I A).2 _) kk
theorem an_ldT {c N j : Nat} {x : Int32} (hd : decode M.2.1 pc = .ok (.iaload, 1)) (ha : ArrT 0 c N) (e : x = nI j) (hj : j < N) (hN : N < 2 ^ 31) (kk : AN M d Q (pc + 1) L (.int (A c j) :: st) (hT I A)) : AN M d Q pc L (.int x :: .ref c :: st) (hT I A) := an_ld hd (ha I A).1 e hj hN kk
theorem an_lzT {c N j : Nat} {x : Int32} (hd : decode M.2.1 pc = .ok (.baload, 1)) (ha : ArrT 1 c N) (e : x = nI j) (hj : j < N) (hN : N < 2 ^ 31) (kk : AN M d Q (pc + 1) L (.int (A c j) :: st) (hT I A)) : AN M d Q pc L (.int x :: .ref c :: st) (hT I A) := an_ldz hd (ha I A).1 e hj hN kk
theorem an_stT {c N j : Nat} {x v : Int32} (hd : decode M.2.1 pc = .ok (.iastore, 1)) (ha : ArrT 0 c N) (e : x = nI j) (hj : j < N) (hN : N < 2 ^ 31) (kk : AN M d Q (pc + 1) L st (hT I (va_up A c (upd (A c) j v)))) : AN M d Q pc L (.int v :: .int x :: .ref c :: st) (hT I A) := an_st hd (ha I A).1 e hj hN ((ha I A).2 _) kk
theorem an_szT {c N j : Nat} {x v : Int32} (hd : decode M.2.1 pc = .ok (.bastore, 1)) (ha : ArrT 1 c N) (e : x = nI j) (hj : j < N) (hN : N < 2 ^ 31) (hv : v = 0 ∨ v = 1) (kk : AN M d Q (pc + 1) L st (hT I (va_up A c (upd (A c) j v)))) : AN M d Q pc L (.int v :: .int x :: .ref c :: st) (hT I A) := an_stz hd (ha I A).1 e hj hN hv ((ha I A).2 _) kk
theorem an_putT {ix kf : Nat} {v : Int32} (f : FP false M.1.cls ix 5 kf .int) (hd : decode M.2.1 pc = .ok (.putfield ix, 3)) (hk : kf ∈ [4, 5, 6, 9, 10, 14, 16, 18, 19, 20, 21, 22]) (kk : AN M d Q (pc + 3) L st (hT (upd I kf v) A)) : AN M d Q pc L (.int v :: .ref 0 :: st) (hT I A) := by
  refine an_put f hd rfl ?_ (okVi _) ?_ kk
  · simp only [List.mem_cons, List.not_mem_nil, or_false] at hk
    rcases hk with rfl | rfl | rfl | rfl | rfl | rfl | rfl | rfl | rfl | rfl | rfl | rfl <;> exact Nat.le_of_ble_eq_true rfl
  · simp only [List.mem_cons, List.not_mem_nil, or_false] at hk
    rcases hk with rfl | rfl | rfl | rfl | rfl | rfl | rfl | rfl | rfl | rfl | rfl | rfl <;> rfl
theorem an_putE {ix kf : Nat} {v : Int32} (f : FP false M.1.cls ix 0 kf .int) (hd : decode M.2.1 pc = .ok (.putfield ix, 3)) (hk : kf ∈ [5, 6, 7, 8, 9, 10]) (kk : AN M d Q (pc + 3) L st (hC (upd I kf v) A)) : AN M d Q pc L (.int v :: .ref 0 :: st) (hC I A) := by
  refine an_put f hd rfl ?_ (okVi _) ?_ kk
  · simp only [List.mem_cons, List.not_mem_nil, or_false] at hk
    rcases hk with rfl | rfl | rfl | rfl | rfl | rfl <;> exact Nat.le_of_ble_eq_true rfl
  · simp only [List.mem_cons, List.not_mem_nil, or_false] at hk
    rcases hk with rfl | rfl | rfl | rfl | rfl | rfl <;> rfl
theorem an_putS {ix kf : Nat} {v : Int32} (f : FP false M.1.cls ix 2 kf .int) (hd : decode M.2.1 pc = .ok (.putfield ix, 3)) (hk : kf ∈ [5, 6, 7]) (kk : AN M d Q (pc + 3) L st (hC (upd I (1000 + kf) v) A)) : AN M d Q pc L (.int v :: .ref 10 :: st) (hC I A) := by
  refine an_put f hd rfl ?_ (okVi _) ?_ kk
  · simp only [List.mem_cons, List.not_mem_nil, or_false] at hk
    rcases hk with rfl | rfl | rfl <;> exact Nat.le_of_ble_eq_true rfl
  · simp only [List.mem_cons, List.not_mem_nil, or_false] at hk
    rcases hk with rfl | rfl | rfl <;> rfl
theorem an_putM {ix : Nat} {v : Int32} (f : FP false M.1.cls ix 3 1 .int) (hd : decode M.2.1 pc = .ok (.putfield ix, 3)) (kk : AN M d Q (pc + 3) L st (hC (upd I 2001 v) A)) : AN M d Q pc L (.int v :: .ref 20 :: st) (hC I A) :=
  an_put f hd rfl (Nat.le_of_ble_eq_true rfl) (okVi _) rfl kk
theorem an_putL {ix kf : Nat} {v : Int32} (f : FP false M.1.cls ix 4 kf .int) (hd : decode M.2.1 pc = .ok (.putfield ix, 3)) (hk : kf ∈ [4, 5, 6]) (kk : AN M d Q (pc + 3) L st (hC (upd I (2200 + kf) v) A)) : AN M d Q pc L (.int v :: .ref 22 :: st) (hC I A) := by
  refine an_put f hd rfl ?_ (okVi _) ?_ kk
  · simp only [List.mem_cons, List.not_mem_nil, or_false] at hk
    rcases hk with rfl | rfl | rfl <;> exact Nat.le_of_ble_eq_true rfl
  · simp only [List.mem_cons, List.not_mem_nil, or_false] at hk
    rcases hk with rfl | rfl | rfl <;> rfl
theorem an_putR {ix j k : Nat} {v : Int32} (hk : k < 4) (f : FP false M.1.cls ix 1 (1 + j) .int) (hd : decode M.2.1 pc = .ok (.putfield ix, 3)) (hj : j < 3) (kk : AN M d Q (pc + 3) L st (hC (upd I (201 + 200 * k + j) v) A)) : AN M d Q pc L (.int v :: .ref (2 + 2 * k) :: st) (hC I A) :=
  an_put f hd (hC_row I A hk) (by show 1 + j < 4; omega) (okVi _) (hC_rowS I A hk j hj v) kk
theorem an_getR {ix j k : Nat} {v : Value} (hk : k < 4) (f : FG M.1.cls ix 1 j) (hd : decode M.2.1 pc = .ok (.getfield ix, 3)) (hv : [Value.ref (3 + 2 * k), .int (I (201 + 200 * k)), .int (I (202 + 200 * k)), .int (I (203 + 200 * k))][j]? = some v) (kk : AN M d Q (pc + 3) L (v :: st) (hC I A)) : AN M d Q pc L (.ref (2 + 2 * k) :: st) (hC I A) :=
  aw_get f hd (hC_row I A hk) hv kk
theorem an_rows {x : Int32} {k : Nat} (hd : decode M.2.1 pc = .ok (.aaload, 1)) (e : x = nI k) (hk : k < 4) (kk : AN M d Q (pc + 1) L (.ref (2 + 2 * k) :: st) (hC I A)) : AN M d Q pc L (.int x :: .ref 1 :: st) (hC I A) := by
  subst e
  refine aw_aald (t := 2) (ty := .object "EarChart$Row") (fun _ => rfl) rfl hd rfl (vp_in_nI hk (by decide)) ?_
  rw [nI_clamp (by omega), if_pos hk]
  exact kk
theorem an_costs {x : Int32} {k : Nat} (hd : decode M.2.1 pc = .ok (.aaload, 1)) (e : x = nI k) (hk : k < 4) (kk : AN M d Q (pc + 1) L (.ref (16 + k) :: st) (hC I A)) : AN M d Q pc L (.int x :: .ref 15 :: st) (hC I A) := by
  subst e
  refine aw_aald (t := 3) (ty := .array .int) (fun _ => rfl) rfl hd rfl (vp_in_nI hk (by decide)) ?_
  rw [nI_clamp (by omega), if_pos hk]
  exact kk
end ANC
end
section
/-! what the calls mean: the rows (N: how many steps, V: what they hold) and the numbers K (0..3 the misses, 4..7 the worths, 8 part, 9 scale, 10 hide, 11 late, 12 and 13 the walk) -/
theorem z_0 : (0 : Int32).toInt = 0 := by decide
theorem z_1 : (1 : Int32).toInt = 1 := by decide
theorem z_2 : (2 : Int32).toInt = 2 := by decide
theorem z_3 : (3 : Int32).toInt = 3 := by decide
theorem z_4 : (4 : Int32).toInt = 4 := by decide
theorem z_5 : (5 : Int32).toInt = 5 := by decide
theorem z_20 : (20 : Int32).toInt = 20 := by decide
theorem z_39 : (39 : Int32).toInt = 39 := by decide
theorem z_40 : (40 : Int32).toInt = 40 := by decide
theorem z_60 : (60 : Int32).toInt = 60 := by decide
theorem z_100 : (100 : Int32).toInt = 100 := by decide
theorem z_200 : (200 : Int32).toInt = 200 := by decide
theorem z_1000 : (1000 : Int32).toInt = 1000 := by decide
theorem z_2000 : (2000 : Int32).toInt = 2000 := by decide
theorem z_10000 : (10000 : Int32).toInt = 10000 := by decide
theorem z_m1 : (-1 : Int32).toInt = -1 := by decide
theorem z_m2 : (-2 : Int32).toInt = -2 := by decide
theorem z_m1000 : (-1000 : Int32).toInt = -1000 := by decide
theorem z_m5000 : (-5000 : Int32).toInt = -5000 := by decide
theorem z_far : (1000000000 : Int32).toInt = 1000000000 := by decide
noncomputable def cif {α : Type} (P : Prop) (a b : α) : α := @ite α P (Classical.propDecidable P) a b
theorem cif_t {α : Type} {P : Prop} {a b : α} (h : P) : cif P a b = a := by unfold cif; exact if_pos h
theorem cif_f {α : Type} {P : Prop} {a b : α} (h : ¬ P) : cif P a b = b := by unfold cif; exact if_neg h
def IsRow (r : Int32) : Prop := 0 ≤ r.toInt ∧ r.toInt < 4
theorem isRow_k {r : Int32} (h : IsRow r) : ∃ k : Nat, k < 4 ∧ r = nI k := by
  refine ⟨r.toInt.toNat, by have := h.1; have := h.2; omega, ?_⟩
  apply Int32.toInt_inj.mp
  rw [nI_toInt (by have := h.1; have := h.2; omega)]
  have := h.1
  omega
theorem isRow_n {k : Nat} (h : k < 4) : IsRow (nI k) := by
  unfold IsRow
  rw [nI_toInt (by omega)]
  omega
def IsStp (N : Nat → Nat) (r s : Int32) : Prop := ∃ k i : Nat, k < 4 ∧ i < N k ∧ r = nI k ∧ s = nI i
def HV (N : Nat → Nat) (V : Nat → Nat → Int32) (r s : Int32) : Prop := ∃ k i : Nat, k < 4 ∧ i < N k ∧ r = nI k ∧ s = nI i ∧ ¬ V k i = -5000
def In (v a b : Int32) : Prop := a.toInt ≤ v.toInt ∧ v.toInt ≤ b.toInt
abbrev RS : Type := Int32 × (Nat → Nat) × (Nat → Nat → Int32) × (Nat → Int32)
/-- how the reference holds them -/
def TInv (N : Nat → Nat) (V : Nat → Nat → Int32) (K : Nat → Int32) (J : Nat → Int32) (B : Nat → Nat → Int32) : Prop :=
  (∀ k, k < 4 → N k ≤ 40 ∧ B 1 k = nI (N k) ∧ B 3 k = K k ∧ B 4 k = K (4 + k) ∧ ∀ i, i < 40 → B 2 (40 * k + i) = V k i) ∧ J 4 = K 8 ∧ J 18 = K 9 ∧ J 19 = K 10 ∧ J 20 = K 11 ∧ J 5 = K 12 ∧ J 6 = K 13
/-- how the class holds them -/
def CInv (N : Nat → Nat) (V : Nat → Nat → Int32) (K : Nat → Int32) (I : Nat → Int32) (A : Nat → Nat → Int32) : Prop :=
  (∀ k, k < 4 → N k ≤ 40 ∧ I (201 + 200 * k) = nI (N k) ∧ I (202 + 200 * k) = K k ∧ I (203 + 200 * k) = K (4 + k) ∧ ∀ i, i < 40 → A (3 + 2 * k) i = V k i) ∧ I 5 = K 8 ∧ I 6 = K 9 ∧ I 7 = K 10 ∧ I 8 = K 11 ∧ I 9 = K 12 ∧ I 10 = K 13
def TR (s : RS) : QT := fun v h' => v = some (.int s.1) ∧ ∃ J' B', h' = hT J' B' ∧ TInv s.2.1 s.2.2.1 s.2.2.2 J' B'
def CR (s : RS) : QT := fun v h' => v = some (.int s.1) ∧ ∃ I' A', h' = hC I' A' ∧ CInv s.2.1 s.2.2.1 s.2.2.2 I' A'
/-- the bounds that the calls keep -/
def PInv (N : Nat → Nat) (V : Nat → Nat → Int32) (K : Nat → Int32) : Prop :=
  (∀ k, k < 4 → N k ≤ 40 ∧ (∀ i, i < N k → V k i = -5000 ∨ In (V k i) (-1000) 1000) ∧ In (K k) 0 200 ∧ In (K (4 + k)) 0 1000) ∧ In (K 8) 0 10000 ∧ In (K 9) 0 2000 ∧ In (K 10) 0 60 ∧ In (K 11) 0 100 ∧ (K 12 = -1 ∨ ∃ k i, k < 4 ∧ i < N k ∧ K 12 = nI k ∧ K 13 = nI i)
theorem nI_inj {a b : Nat} (ha : a < 2 ^ 31) (hb : b < 2 ^ 31) (h : nI a = nI b) : a = b := (nI_eq ha hb).mp h
theorem ix40 {k i : Nat} : (40 : Int32) * nI k + nI i = nI (40 * k + i) := by
  have h : (40 : Int32) = nI 40 := by decide
  rw [h, pk_mul, nI_add]
theorem ix4 {k i : Nat} : (4 : Int32) * nI k + nI i = nI (4 * k + i) := by
  have h : (4 : Int32) = nI 4 := by decide
  rw [h, pk_mul, nI_add]
theorem ge0_of {r : Int32} (h : ¬ r < 0) : ∃ i : Nat, i < 2 ^ 31 ∧ r = nI i := nI_of h
theorem lt_of_nge {r : Int32} {n : Nat} (hn : n < 2 ^ 31) (h0 : ¬ r < 0) (h : ¬ nI n ≤ r) : ∃ i : Nat, i < n ∧ r = nI i := by
  obtain ⟨i, hi, rfl⟩ := nI_of h0
  refine ⟨i, ?_, rfl⟩
  rw [nI_leI hn hi] at h
  omega
end
section
set_option maxHeartbeats 4000000 in
set_option maxRecDepth 100000 in
theorem c_T_isRow (h : List AC) (r : Int32) : AM kT_isRow 1 [.int r] (h) (BQ (IsRow r) h) := by
  refine AMet.of (by decide) (by simp [Value.category]) (Nat.le_of_ble_eq_true rfl) ?_
  refine aw_iload_n dT_isRow_0 rfl ?_
  refine aw_if_lt (tgt := 13) dT_isRow_1 (by decide) (fun c1 => ?_) (fun c1 => ?_)
  · refine aw_iconst (v := 0) dT_isRow_13 (by decide) ?_
    exact aw_zret rfl (Or.inl rfl) dT_isRow_14 ⟨rfl, Or.inr ⟨(by simp only [IsRow, Int32.lt_iff_toInt_lt, Int32.le_iff_toInt_le, ← Int32.toInt_inj, z_0, z_1, z_2, z_3, z_4, z_5, z_20, z_39, z_40, z_60, z_100, z_200, z_1000, z_2000, z_10000, z_m1, z_m2, z_m1000, z_m5000, z_far] at c1 ⊢; omega), rfl⟩⟩
  · refine aw_iload_n dT_isRow_4 rfl ?_
    refine aw_iconst (v := 4) dT_isRow_5 (by decide) ?_
    refine aw_icmp_ge (tgt := 13) dT_isRow_6 (by decide) (fun c6 => ?_) (fun c6 => ?_)
    · refine aw_iconst (v := 0) dT_isRow_13 (by decide) ?_
      exact aw_zret rfl (Or.inl rfl) dT_isRow_14 ⟨rfl, Or.inr ⟨(by simp only [IsRow, Int32.lt_iff_toInt_lt, Int32.le_iff_toInt_le, ← Int32.toInt_inj, z_0, z_1, z_2, z_3, z_4, z_5, z_20, z_39, z_40, z_60, z_100, z_200, z_1000, z_2000, z_10000, z_m1, z_m2, z_m1000, z_m5000, z_far] at c1 c6 ⊢; omega), rfl⟩⟩
    · refine aw_iconst (v := 1) dT_isRow_9 (by decide) ?_
      refine aw_goto (tgt := 14) dT_isRow_10 (by decide) ?_
      exact aw_zret rfl (Or.inr rfl) dT_isRow_14 ⟨rfl, Or.inl ⟨(by simp only [IsRow, Int32.lt_iff_toInt_lt, Int32.le_iff_toInt_le, ← Int32.toInt_inj, z_0, z_1, z_2, z_3, z_4, z_5, z_20, z_39, z_40, z_60, z_100, z_200, z_1000, z_2000, z_10000, z_m1, z_m2, z_m1000, z_m5000, z_far] at c1 c6 ⊢; omega), rfl⟩⟩

set_option maxHeartbeats 4000000 in
set_option maxRecDepth 100000 in
theorem c_T_isIn (h : List AC) (v a b : Int32) : AM kT_isIn 1 [.int v, .int a, .int b] (h) (BQ (In v a b) h) := by
  refine AMet.of (by decide) (by simp [Value.category]) (Nat.le_of_ble_eq_true rfl) ?_
  refine aw_iload_n dT_isIn_0 rfl ?_
  refine aw_iload_n dT_isIn_1 rfl ?_
  refine aw_icmp_lt (tgt := 14) dT_isIn_2 (by decide) (fun c2 => ?_) (fun c2 => ?_)
  · refine aw_iconst (v := 0) dT_isIn_14 (by decide) ?_
    exact aw_zret rfl (Or.inl rfl) dT_isIn_15 ⟨rfl, Or.inr ⟨(by simp only [In, Int32.lt_iff_toInt_lt, Int32.le_iff_toInt_le, ← Int32.toInt_inj, z_0, z_1, z_2, z_3, z_4, z_5, z_20, z_39, z_40, z_60, z_100, z_200, z_1000, z_2000, z_10000, z_m1, z_m2, z_m1000, z_m5000, z_far] at c2 ⊢; omega), rfl⟩⟩
  · refine aw_iload_n dT_isIn_5 rfl ?_
    refine aw_iload_n dT_isIn_6 rfl ?_
    refine aw_icmp_gt (tgt := 14) dT_isIn_7 (by decide) (fun c7 => ?_) (fun c7 => ?_)
    · refine aw_iconst (v := 0) dT_isIn_14 (by decide) ?_
      exact aw_zret rfl (Or.inl rfl) dT_isIn_15 ⟨rfl, Or.inr ⟨(by simp only [In, Int32.lt_iff_toInt_lt, Int32.le_iff_toInt_le, ← Int32.toInt_inj, z_0, z_1, z_2, z_3, z_4, z_5, z_20, z_39, z_40, z_60, z_100, z_200, z_1000, z_2000, z_10000, z_m1, z_m2, z_m1000, z_m5000, z_far] at c2 c7 ⊢; omega), rfl⟩⟩
    · refine aw_iconst (v := 1) dT_isIn_10 (by decide) ?_
      refine aw_goto (tgt := 15) dT_isIn_11 (by decide) ?_
      exact aw_zret rfl (Or.inr rfl) dT_isIn_15 ⟨rfl, Or.inl ⟨(by simp only [In, Int32.lt_iff_toInt_lt, Int32.le_iff_toInt_le, ← Int32.toInt_inj, z_0, z_1, z_2, z_3, z_4, z_5, z_20, z_39, z_40, z_60, z_100, z_200, z_1000, z_2000, z_10000, z_m1, z_m2, z_m1000, z_m5000, z_far] at c2 c7 ⊢; omega), rfl⟩⟩

theorem stp_t {N : Nat → Nat} {k : Nat} {s : Int32} (hk : k < 4) (hN : N k ≤ 40) (c8 : ¬ s < 0) (c18 : ¬ nI (N k) ≤ s) : IsStp N (nI k) s := by
  obtain ⟨i, hi, rfl⟩ := lt_of_nge (by omega) c8 c18
  exact ⟨k, i, hk, hi, rfl, rfl⟩
theorem stp_f1 {N : Nat → Nat} {r s : Int32} (p : ¬ IsRow r) : ¬ IsStp N r s := by
  rintro ⟨k, i, hk, hi, rfl, rfl⟩
  exact p (isRow_n hk)
theorem stp_f2 {N : Nat → Nat} {r s : Int32} (hN : ∀ k, k < 4 → N k ≤ 40) (c : s < 0) : ¬ IsStp N r s := by
  rintro ⟨k, i, hk, hi, rfl, rfl⟩
  exact nI_pos (by have := hN k hk; omega) c
theorem stp_f3 {N : Nat → Nat} {k : Nat} {s : Int32} (hN : ∀ k, k < 4 → N k ≤ 40) (hk : k < 4) (c : nI (N k) ≤ s) : ¬ IsStp N (nI k) s := by
  rintro ⟨k', i, hk', hi, e, rfl⟩
  have := nI_inj (by omega) (by omega) e
  subst this
  have := hN k hk
  rw [nI_leI (by omega) (by omega)] at c
  omega
theorem TInv.n {N : Nat → Nat} {V : Nat → Nat → Int32} {K J : Nat → Int32} {B : Nat → Nat → Int32} (h : TInv N V K J B) : ∀ k, k < 4 → N k ≤ 40 := fun k hk => (h.1 k hk).1

set_option maxHeartbeats 4000000 in
set_option maxRecDepth 100000 in
theorem c_T_isStep (N : Nat → Nat) (V : Nat → Nat → Int32) (K : Nat → Int32) (J : Nat → Int32) (B : Nat → Nat → Int32) (hI : TInv N V K J B) (r s : Int32) : AM kT_isStep 2 [.ref 0, .int r, .int s] (hT J B) (BQ (IsStp N r s) (hT J B)) := by
  refine AMet.of (by decide) (by simp [Value.category]) (Nat.le_of_ble_eq_true rfl) ?_
  refine aw_iload_n dT_isStep_0 rfl ?_
  refine an_callSb cg_T_72 (c_T_isRow _ _) dT_isStep_1 rfl rfl (Nat.le_of_ble_eq_true rfl) (Nat.le_of_ble_eq_true rfl) (fun p1 => ?_) (fun p1 => ?_)
  · refine aw_if_eq (tgt := 25) dT_isStep_4 (by decide) (fun q => absurd q (by decide)) (fun _ => ?_)
    obtain ⟨k, hk, rfl⟩ := isRow_k p1
    refine aw_iload_n dT_isStep_7 rfl ?_
    refine aw_if_lt (tgt := 25) dT_isStep_8 (by decide) (fun c8 => ?_) (fun c8 => ?_)
    · refine aw_iconst (v := 0) dT_isStep_25 (by decide) ?_
      exact aw_zret rfl (Or.inl rfl) dT_isStep_26 ⟨rfl, Or.inr ⟨stp_f2 hI.n c8, rfl⟩⟩
    · refine aw_iload_n dT_isStep_11 rfl ?_
      refine aw_aload_r dT_isStep_12 rfl ?_
      refine aw_get fg_T_7 dT_isStep_13 rfl rfl ?_
      refine aw_iload_n dT_isStep_16 rfl ?_
      refine an_ldT dT_isStep_17 at_1 rfl hk (by decide) ?_
      rw [(hI.1 k hk).2.1]
      refine aw_icmp_ge (tgt := 25) dT_isStep_18 (by decide) (fun c18 => ?_) (fun c18 => ?_)
      · refine aw_iconst (v := 0) dT_isStep_25 (by decide) ?_
        exact aw_zret rfl (Or.inl rfl) dT_isStep_26 ⟨rfl, Or.inr ⟨stp_f3 hI.n hk c18, rfl⟩⟩
      · refine aw_iconst (v := 1) dT_isStep_21 (by decide) ?_
        refine aw_goto (tgt := 26) dT_isStep_22 (by decide) ?_
        exact aw_zret rfl (Or.inr rfl) dT_isStep_26 ⟨rfl, Or.inl ⟨stp_t hk (hI.n _ hk) c8 c18, rfl⟩⟩
  · refine aw_if_eq (tgt := 25) dT_isStep_4 (by decide) (fun _ => ?_) (fun q => absurd (by decide) q)
    refine aw_iconst (v := 0) dT_isStep_25 (by decide) ?_
    exact aw_zret rfl (Or.inl rfl) dT_isStep_26 ⟨rfl, Or.inr ⟨stp_f1 p1, rfl⟩⟩

theorem hv_f {N : Nat → Nat} {V : Nat → Nat → Int32} {r s : Int32} (p : ¬ IsStp N r s) : ¬ HV N V r s := fun ⟨k, i, a, b, c, d, _⟩ => p ⟨k, i, a, b, c, d⟩
theorem hv_f2 {N : Nat → Nat} {V : Nat → Nat → Int32} {k i : Nat} (hN : ∀ k, k < 4 → N k ≤ 40) (hk : k < 4) (hi : i < N k) (c : V k i = -5000) : ¬ HV N V (nI k) (nI i) := by
  rintro ⟨k', i', hk', hi', e, e2, q⟩
  have h1 := hN k hk
  have h2 := hN k' hk'
  have := nI_inj (by omega) (by omega) e
  subst this
  have := nI_inj (by omega) (by omega) e2
  subst this
  exact q c

set_option maxHeartbeats 4000000 in
set_option maxRecDepth 100000 in
theorem c_T_hasValue (N : Nat → Nat) (V : Nat → Nat → Int32) (K : Nat → Int32) (J : Nat → Int32) (B : Nat → Nat → Int32) (hI : TInv N V K J B) (r s : Int32) : AM kT_hasValue 3 [.ref 0, .int r, .int s] (hT J B) (BQ (HV N V r s) (hT J B)) := by
  refine AMet.of (by decide) (by simp [Value.category]) (Nat.le_of_ble_eq_true rfl) ?_
  refine aw_aload_r dT_hasValue_0 rfl ?_
  refine aw_iload_n dT_hasValue_1 rfl ?_
  refine aw_iload_n dT_hasValue_2 rfl ?_
  refine an_callVb cg_T_76 (c_T_isStep _ _ _ _ _ hI _ _) dT_hasValue_3 rfl rfl rfl rfl rfl (Nat.le_of_ble_eq_true rfl) (Nat.le_of_ble_eq_true rfl) (fun p3 => ?_) (fun p3 => ?_)
  · refine aw_if_eq (tgt := 30) dT_hasValue_6 (by decide) (fun q => absurd q (by decide)) (fun _ => ?_)
    obtain ⟨k, i, hk, hi, rfl, rfl⟩ := p3
    have hN := hI.n k hk
    refine aw_aload_r dT_hasValue_9 rfl ?_
    refine aw_get fg_T_13 dT_hasValue_10 rfl rfl ?_
    refine aw_bipush (v := 40) dT_hasValue_13 (by decide) ?_
    refine aw_iload_n dT_hasValue_15 rfl ?_
    refine aw_imul dT_hasValue_16 ?_
    refine aw_iload_n dT_hasValue_17 rfl ?_
    refine aw_iadd dT_hasValue_18 ?_
    refine an_ldT dT_hasValue_19 at_2 ix40 (by omega) (by decide) ?_
    rw [(hI.1 k hk).2.2.2.2 i (by omega)]
    refine aw_sipush (v := (-5000)) dT_hasValue_20 (by decide) ?_
    refine aw_icmp_eq (tgt := 30) dT_hasValue_23 (by decide) (fun c23 => ?_) (fun c23 => ?_)
    · refine aw_iconst (v := 0) dT_hasValue_30 (by decide) ?_
      exact aw_zret rfl (Or.inl rfl) dT_hasValue_31 ⟨rfl, Or.inr ⟨hv_f2 hI.n hk hi c23, rfl⟩⟩
    · refine aw_iconst (v := 1) dT_hasValue_26 (by decide) ?_
      refine aw_goto (tgt := 31) dT_hasValue_27 (by decide) ?_
      exact aw_zret rfl (Or.inr rfl) dT_hasValue_31 ⟨rfl, Or.inl ⟨⟨k, i, hk, hi, rfl, rfl, c23⟩, rfl⟩⟩
  · refine aw_if_eq (tgt := 30) dT_hasValue_6 (by decide) (fun _ => ?_) (fun q => absurd (by decide) q)
    refine aw_iconst (v := 0) dT_hasValue_30 (by decide) ?_
    exact aw_zret rfl (Or.inl rfl) dT_hasValue_31 ⟨rfl, Or.inr ⟨hv_f p3, rfl⟩⟩

set_option maxHeartbeats 4000000 in
set_option maxRecDepth 100000 in
theorem c_T_valueAt (N : Nat → Nat) (V : Nat → Nat → Int32) (K : Nat → Int32) (J : Nat → Int32) (B : Nat → Nat → Int32) (hI : TInv N V K J B) {k i : Nat} (hk : k < 4) (hi : i < 40) : AM kT_valueAt 1 [.ref 0, .int (nI k), .int (nI i)] (hT J B) (RQ (V k i) (hT J B)) := by
  refine AMet.of (by decide) (by simp [Value.category]) (Nat.le_of_ble_eq_true rfl) ?_
  refine aw_aload_r dT_valueAt_0 rfl ?_
  refine aw_get fg_T_13 dT_valueAt_1 rfl rfl ?_
  refine aw_bipush (v := 40) dT_valueAt_4 (by decide) ?_
  refine aw_iload_n dT_valueAt_6 rfl ?_
  refine aw_imul dT_valueAt_7 ?_
  refine aw_iload_n dT_valueAt_8 rfl ?_
  refine aw_iadd dT_valueAt_9 ?_
  refine an_ldT dT_valueAt_10 at_2 ix40 (by omega) (by decide) ?_
  rw [(hI.1 k hk).2.2.2.2 i hi]
  exact aw_iret rfl dT_valueAt_11 ⟨rfl, rfl⟩
end
section
/-! the small calls -/
def rn (r : Int32) : Nat := r.toNatClampNeg
theorem rn_n {k : Nat} (h : k < 2 ^ 31) : rn (nI k) = k := nI_clamp h
noncomputable def sp_adds (N : Nat → Nat) (V : Nat → Nat → Int32) (K : Nat → Int32) (r v : Int32) : RS := cif (IsRow r ∧ N (rn r) < 40) (nI (N (rn r) + 1), va_up N (rn r) (N (rn r) + 1), va_up V (rn r) (upd (V (rn r)) (N (rn r)) v), K) (-1, N, V, K)
noncomputable def sp_value (N : Nat → Nat) (V : Nat → Nat → Int32) (K : Nat → Int32) (r v : Int32) : RS := cif (In v (-1000) 1000) (sp_adds N V K r v) (-1, N, V, K)
noncomputable def sp_gap (N : Nat → Nat) (V : Nat → Nat → Int32) (K : Nat → Int32) (r : Int32) : RS := sp_adds N V K r (-5000)
noncomputable def sp_put (N : Nat → Nat) (V : Nat → Nat → Int32) (K : Nat → Int32) (r s v : Int32) : RS := cif (IsStp N r s ∧ In v (-1000) 1000) (1, N, va_up V (rn r) (upd (V (rn r)) (rn s) v), K) (0, N, V, K)
noncomputable def sp_clear (N : Nat → Nat) (V : Nat → Nat → Int32) (K : Nat → Int32) (r : Int32) : RS := cif (IsRow r) (nI (N (rn r)), va_up N (rn r) 0, V, if K 12 = r then upd K 12 (-1) else K) (-1, N, V, K)
noncomputable def sp_miss (N : Nat → Nat) (V : Nat → Nat → Int32) (K : Nat → Int32) (r v : Int32) : RS := cif (IsRow r ∧ In v 0 200) (K (rn r), N, V, upd K (rn r) v) (-1, N, V, K)
noncomputable def sp_part (N : Nat → Nat) (V : Nat → Nat → Int32) (K : Nat → Int32) (v : Int32) : RS := cif (In v 0 10000) (K 8, N, V, upd K 8 v) (-1, N, V, K)
noncomputable def sp_at (N : Nat → Nat) (V : Nat → Nat → Int32) (K : Nat → Int32) (r s : Int32) : RS := cif (IsStp N r s) (V (rn r) (rn s), N, V, K) (-6000, N, V, K)
noncomputable def sp_ear (N : Nat → Nat) (V : Nat → Nat → Int32) (K : Nat → Int32) (h l : Int32) : RS := cif (In h 0 60 ∧ In l 0 100) (1, N, V, upd (upd K 10 h) 11 l) (0, N, V, K)
noncomputable def sp_worth (N : Nat → Nat) (V : Nat → Nat → Int32) (K : Nat → Int32) (r v : Int32) : RS := cif (IsRow r ∧ In v 0 1000) (K (4 + rn r), N, V, upd K (4 + rn r) v) (-1, N, V, K)
noncomputable def sp_walk (N : Nat → Nat) (V : Nat → Nat → Int32) (K : Nat → Int32) (r s : Int32) : RS := cif (IsStp N r s) (1, N, V, upd (upd K 12 r) 13 s) (0, N, V, K)
def sp_where (N : Nat → Nat) (V : Nat → Nat → Int32) (K : Nat → Int32) (w : Int32) : RS := (if K 12 = -1 then -1 else if w = 0 then K 12 else if w = 1 then K 13 else -1, N, V, K)
noncomputable def sp_go (N : Nat → Nat) (V : Nat → Nat → Int32) (K : Nat → Int32) (on : Int32) : RS := cif (¬ K 12 = -1 ∧ IsStp N (K 12) (if on = 0 then K 13 - 1 else K 13 + 1)) (if on = 0 then K 13 - 1 else K 13 + 1, N, V, upd K 13 (if on = 0 then K 13 - 1 else K 13 + 1)) (-1, N, V, K)
def sureV (x y m1 m2 : Int32) : Int32 := if x - y ≤ m1 + m2 then (if -(x - y) ≤ m1 + m2 then 0 else -1) else 1
noncomputable def sureE (N : Nat → Nat) (V : Nat → Nat → Int32) (K : Nat → Int32) (a b s : Int32) : Int32 := cif (IsRow a ∧ IsRow b ∧ ¬ a = b ∧ HV N V a s ∧ HV N V b s) (sureV (V (rn a) (rn s)) (V (rn b) (rn s)) (K (rn a)) (K (rn b))) (-2)
section TI
variable {N : Nat → Nat} {V : Nat → Nat → Int32} {K J : Nat → Int32} {B : Nat → Nat → Int32}
theorem up_s {α : Type} {f : Nat → α} {k : Nat} {v : α} : va_up f k v k = v := if_pos rfl
theorem up_n {α : Type} {f : Nat → α} {k j : Nat} {v : α} (h : j ≠ k) : va_up f k v j = f j := if_neg h
theorem tinv_n (h : TInv N V K J B) {k n : Nat} (hk : k < 4) (hn : n ≤ 40) : TInv (va_up N k n) V K J (va_up B 1 (upd (B 1) k (nI n))) := by
  refine ⟨fun j hj => ?_, h.2⟩
  obtain ⟨a, b, c, d, e⟩ := h.1 j hj
  by_cases q : j = k
  · subst q
    rw [up_s]
    exact ⟨hn, by rw [up_s, pk_us], c, d, e⟩
  · rw [up_n q]
    exact ⟨a, by rw [up_s, pk_un q]; exact b, c, d, e⟩
theorem tinv_v (h : TInv N V K J B) {k i : Nat} (hk : k < 4) (hi : i < 40) (v : Int32) : TInv N (va_up V k (upd (V k) i v)) K J (va_up B 2 (upd (B 2) (40 * k + i) v)) := by
  refine ⟨fun j hj => ?_, h.2⟩
  obtain ⟨a, b, c, d, e⟩ := h.1 j hj
  refine ⟨a, b, c, d, fun i' hi' => ?_⟩
  rw [up_s]
  by_cases q : j = k
  · subst q
    rw [up_s]
    by_cases q2 : i' = i
    · subst q2; rw [pk_us, pk_us]
    · rw [pk_un q2, pk_un (by omega)]; exact e i' hi'
  · rw [up_n q, pk_un (by omega)]; exact e i' hi'
theorem tinv_miss (h : TInv N V K J B) {k : Nat} (hk : k < 4) (v : Int32) : TInv N V (upd K k v) J (va_up B 3 (upd (B 3) k v)) := by
  obtain ⟨h1, h2, h3, h4, h5, h6, h7⟩ := h
  refine ⟨fun j hj => ?_, by rw [pk_un (by omega)]; exact h2, by rw [pk_un (by omega)]; exact h3, by rw [pk_un (by omega)]; exact h4, by rw [pk_un (by omega)]; exact h5, by rw [pk_un (by omega)]; exact h6, by rw [pk_un (by omega)]; exact h7⟩
  obtain ⟨a, b, c, d, e⟩ := h1 j hj
  refine ⟨a, b, ?_, by rw [pk_un (by omega)]; exact d, e⟩
  rw [up_s]
  by_cases q : j = k
  · subst q; rw [pk_us, pk_us]
  · rw [pk_un q, pk_un q]; exact c
theorem tinv_worth (h : TInv N V K J B) {k : Nat} (hk : k < 4) (v : Int32) : TInv N V (upd K (4 + k) v) J (va_up B 4 (upd (B 4) k v)) := by
  obtain ⟨h1, h2, h3, h4, h5, h6, h7⟩ := h
  refine ⟨fun j hj => ?_, by rw [pk_un (by omega)]; exact h2, by rw [pk_un (by omega)]; exact h3, by rw [pk_un (by omega)]; exact h4, by rw [pk_un (by omega)]; exact h5, by rw [pk_un (by omega)]; exact h6, by rw [pk_un (by omega)]; exact h7⟩
  obtain ⟨a, b, c, d, e⟩ := h1 j hj
  refine ⟨a, b, by rw [pk_un (by omega)]; exact c, ?_, e⟩
  rw [up_s]
  by_cases q : j = k
  · subst q; rw [pk_us, pk_us]
  · rw [pk_un q, pk_un (by omega)]; exact d
theorem tinv_rows (h : TInv N V K J B) {q : Nat} (hq : 8 ≤ q) (v : Int32) : ∀ k, k < 4 → N k ≤ 40 ∧ B 1 k = nI (N k) ∧ B 3 k = upd K q v k ∧ B 4 k = upd K q v (4 + k) ∧ ∀ i, i < 40 → B 2 (40 * k + i) = V k i := fun k hk => by
  obtain ⟨a, b, c, d, e⟩ := h.1 k hk
  exact ⟨a, b, by rw [pk_un (by omega)]; exact c, by rw [pk_un (by omega)]; exact d, e⟩
theorem tinv_8 (h : TInv N V K J B) (v : Int32) : TInv N V (upd K 8 v) (upd J 4 v) B := ⟨tinv_rows h (by decide) v, rfl, h.2.2⟩
theorem tinv_9 (h : TInv N V K J B) (v : Int32) : TInv N V (upd K 9 v) (upd J 18 v) B := ⟨tinv_rows h (by decide) v, h.2.1, rfl, h.2.2.2⟩
theorem tinv_10 (h : TInv N V K J B) (v : Int32) : TInv N V (upd K 10 v) (upd J 19 v) B := ⟨tinv_rows h (by decide) v, h.2.1, h.2.2.1, rfl, h.2.2.2.2⟩
theorem tinv_11 (h : TInv N V K J B) (v : Int32) : TInv N V (upd K 11 v) (upd J 20 v) B := ⟨tinv_rows h (by decide) v, h.2.1, h.2.2.1, h.2.2.2.1, rfl, h.2.2.2.2.2⟩
theorem tinv_12 (h : TInv N V K J B) (v : Int32) : TInv N V (upd K 12 v) (upd J 5 v) B := ⟨tinv_rows h (by decide) v, h.2.1, h.2.2.1, h.2.2.2.1, h.2.2.2.2.1, rfl, h.2.2.2.2.2.2⟩
theorem tinv_13 (h : TInv N V K J B) (v : Int32) : TInv N V (upd K 13 v) (upd J 6 v) B := ⟨tinv_rows h (by decide) v, h.2.1, h.2.2.1, h.2.2.2.1, h.2.2.2.2.1, h.2.2.2.2.2.1, rfl⟩
end TI
end
section
set_option maxHeartbeats 4000000 in
set_option maxRecDepth 100000 in
theorem c_T_adds (N : Nat → Nat) (V : Nat → Nat → Int32) (K : Nat → Int32) (J : Nat → Int32) (B : Nat → Nat → Int32) (hI : TInv N V K J B) (r v : Int32) : AM kT_adds 2 [.ref 0, .int r, .int v] (hT J B) (TR (sp_adds N V K r v)) := by
  refine AMet.of (by decide) (by simp [Value.category]) (Nat.le_of_ble_eq_true rfl) ?_
  refine aw_iload_n dT_adds_0 rfl ?_
  refine an_callSb cg_T_72 (c_T_isRow _ _) dT_adds_1 rfl rfl (Nat.le_of_ble_eq_true rfl) (Nat.le_of_ble_eq_true rfl) (fun p1 => ?_) (fun p1 => ?_)
  · refine aw_if_eq (tgt := 18) dT_adds_4 (by decide) (fun q => absurd q (by decide)) (fun _ => ?_)
    obtain ⟨k, hk, rfl⟩ := isRow_k p1
    have hN := hI.n k hk
    refine aw_aload_r dT_adds_7 rfl ?_
    refine aw_get fg_T_7 dT_adds_8 rfl rfl ?_
    refine aw_iload_n dT_adds_11 rfl ?_
    refine an_ldT dT_adds_12 at_1 rfl hk (by decide) ?_
    rw [(hI.1 k hk).2.1]
    refine aw_bipush (v := 40) dT_adds_13 (by decide) ?_
    refine aw_icmp_ne (tgt := 20) dT_adds_15 (by decide) (fun c15 => ?_) (fun c15 => ?_)
    · have hl : N k < 40 := Nat.lt_of_le_of_ne hN (fun q => c15 (by rw [q]; decide))
      refine aw_aload_r dT_adds_20 rfl ?_
      refine aw_get fg_T_13 dT_adds_21 rfl rfl ?_
      refine aw_bipush (v := 40) dT_adds_24 (by decide) ?_
      refine aw_iload_n dT_adds_26 rfl ?_
      refine aw_imul dT_adds_27 ?_
      refine aw_aload_r dT_adds_28 rfl ?_
      refine aw_get fg_T_7 dT_adds_29 rfl rfl ?_
      refine aw_iload_n dT_adds_32 rfl ?_
      refine an_ldT dT_adds_33 at_1 rfl hk (by decide) ?_
      rw [(hI.1 k hk).2.1]
      refine aw_iadd dT_adds_34 ?_
      refine aw_iload_n dT_adds_35 rfl ?_
      refine an_stT dT_adds_36 at_2 ix40 (by omega) (by decide) ?_
      refine aw_aload_r dT_adds_37 rfl ?_
      refine aw_get fg_T_7 dT_adds_38 rfl rfl ?_
      refine aw_iload_n dT_adds_41 rfl ?_
      refine aw_dup2 dT_adds_42 rfl rfl ?_
      refine an_ldT dT_adds_43 at_1 rfl hk (by decide) ?_
      rw [show va_up B 2 (upd (B 2) (40 * k + N k) v) 1 k = nI (N k) from (hI.1 k hk).2.1]
      refine aw_iconst (v := 1) dT_adds_44 (by decide) ?_
      refine aw_iadd dT_adds_45 ?_
      refine an_top (nI_1 _) ?_
      refine an_stT dT_adds_46 at_1 rfl hk (by decide) ?_
      refine aw_aload_r dT_adds_47 rfl ?_
      refine aw_get fg_T_7 dT_adds_48 rfl rfl ?_
      refine aw_iload_n dT_adds_51 rfl ?_
      refine an_ldT dT_adds_52 at_1 rfl hk (by decide) ?_
      exact aw_iret rfl dT_adds_53 (by unfold sp_adds; rw [rn_n (by omega), cif_t ⟨isRow_n hk, hl⟩]; exact ⟨congrArg (fun z => some (Value.int z)) pk_us, _, _, rfl, tinv_n (tinv_v hI hk hl v) hk (by omega)⟩)
    · refine aw_iconst (v := (-1)) dT_adds_18 (by decide) ?_
      exact aw_iret rfl dT_adds_19 (by unfold sp_adds; rw [cif_f (fun q => by rw [rn_n (by omega)] at q; have h1 := c15 ; have h2 : nI (N k) = nI 40 := h1; have := nI_inj (by omega) (by omega) h2; omega)]; exact ⟨rfl, J, B, rfl, hI⟩)
  · refine aw_if_eq (tgt := 18) dT_adds_4 (by decide) (fun _ => ?_) (fun q => absurd q (by decide))
    refine aw_iconst (v := (-1)) dT_adds_18 (by decide) ?_
    exact aw_iret rfl dT_adds_19 (by unfold sp_adds; rw [cif_f (fun q => p1 q.1)]; exact ⟨rfl, J, B, rfl, hI⟩)

set_option maxHeartbeats 4000000 in
set_option maxRecDepth 100000 in
theorem c_T_value (N : Nat → Nat) (V : Nat → Nat → Int32) (K : Nat → Int32) (J : Nat → Int32) (B : Nat → Nat → Int32) (hI : TInv N V K J B) (r v : Int32) : AM kT_value 3 [.ref 0, .int r, .int v] (hT J B) (TR (sp_value N V K r v)) := by
  refine AMet.of (by decide) (by simp [Value.category]) (Nat.le_of_ble_eq_true rfl) ?_
  refine aw_iload_n dT_value_0 rfl ?_
  refine aw_sipush (v := (-1000)) dT_value_1 (by decide) ?_
  refine aw_sipush (v := 1000) dT_value_4 (by decide) ?_
  refine an_callSb cg_T_80 (c_T_isIn _ _ _ _) dT_value_7 rfl rfl (Nat.le_of_ble_eq_true rfl) (Nat.le_of_ble_eq_true rfl) (fun p7 => ?_) (fun p7 => ?_)
  · refine aw_if_eq (tgt := 22) dT_value_10 (by decide) (fun q => absurd q (by decide)) (fun _ => ?_)
    refine aw_aload_r dT_value_13 rfl ?_
    refine aw_iload_n dT_value_14 rfl ?_
    refine aw_iload_n dT_value_15 rfl ?_
    refine an_callVx cg_T_84 (c_T_adds _ _ _ _ _ hI _ _) dT_value_16 rfl rfl rfl rfl rfl (Nat.le_of_ble_eq_true rfl) (Nat.le_of_ble_eq_true rfl) ?_
    rintro _ _ ⟨rfl, J1, B1, rfl, hI1⟩
    refine aw_goto (tgt := 23) dT_value_19 (by decide) ?_
    exact aw_iret rfl dT_value_23 (by unfold sp_value; rw [cif_t p7]; exact ⟨rfl, J1, B1, rfl, hI1⟩)
  · refine aw_if_eq (tgt := 22) dT_value_10 (by decide) (fun _ => ?_) (fun q => absurd q (by decide))
    refine aw_iconst (v := (-1)) dT_value_22 (by decide) ?_
    exact aw_iret rfl dT_value_23 (by unfold sp_value; rw [cif_f p7]; exact ⟨rfl, J, B, rfl, hI⟩)

set_option maxHeartbeats 4000000 in
set_option maxRecDepth 100000 in
theorem c_T_gap (N : Nat → Nat) (V : Nat → Nat → Int32) (K : Nat → Int32) (J : Nat → Int32) (B : Nat → Nat → Int32) (hI : TInv N V K J B) (r : Int32) : AM kT_gap 3 [.ref 0, .int r] (hT J B) (TR (sp_gap N V K r)) := by
  refine AMet.of (by decide) (by simp [Value.category]) (Nat.le_of_ble_eq_true rfl) ?_
  refine aw_aload_r dT_gap_0 rfl ?_
  refine aw_iload_n dT_gap_1 rfl ?_
  refine aw_sipush (v := (-5000)) dT_gap_2 (by decide) ?_
  refine an_callVx cg_T_84 (c_T_adds _ _ _ _ _ hI _ _) dT_gap_5 rfl rfl rfl rfl rfl (Nat.le_of_ble_eq_true rfl) (Nat.le_of_ble_eq_true rfl) ?_
  rintro _ _ ⟨rfl, J1, B1, rfl, hI1⟩
  exact aw_iret rfl dT_gap_8 ⟨rfl, J1, B1, rfl, hI1⟩

set_option maxHeartbeats 4000000 in
set_option maxRecDepth 100000 in
theorem c_T_put (N : Nat → Nat) (V : Nat → Nat → Int32) (K : Nat → Int32) (J : Nat → Int32) (B : Nat → Nat → Int32) (hI : TInv N V K J B) (r s v : Int32) : AM kT_put 3 [.ref 0, .int r, .int s, .int v] (hT J B) (TR (sp_put N V K r s v)) := by
  refine AMet.of (by decide) (by simp [Value.category]) (Nat.le_of_ble_eq_true rfl) ?_
  refine aw_aload_r dT_put_0 rfl ?_
  refine aw_iload_n dT_put_1 rfl ?_
  refine aw_iload_n dT_put_2 rfl ?_
  refine an_callVb cg_T_76 (c_T_isStep _ _ _ _ _ hI _ _) dT_put_3 rfl rfl rfl rfl rfl (Nat.le_of_ble_eq_true rfl) (Nat.le_of_ble_eq_true rfl) (fun p3 => ?_) (fun p3 => ?_)
  · refine aw_if_eq (tgt := 22) dT_put_6 (by decide) (fun q => absurd q (by decide)) (fun _ => ?_)
    refine aw_iload_n dT_put_9 rfl ?_
    refine aw_sipush (v := (-1000)) dT_put_10 (by decide) ?_
    refine aw_sipush (v := 1000) dT_put_13 (by decide) ?_
    refine an_callSb cg_T_80 (c_T_isIn _ _ _ _) dT_put_16 rfl rfl (Nat.le_of_ble_eq_true rfl) (Nat.le_of_ble_eq_true rfl) (fun p16 => ?_) (fun p16 => ?_)
    · refine aw_if_ne (tgt := 24) dT_put_19 (by decide) (fun _ => ?_) (fun q => absurd q (by decide))
      obtain ⟨k, i, hk, hi, rfl, rfl⟩ := id p3
      have hN := hI.n k hk
      refine aw_aload_r dT_put_24 rfl ?_
      refine aw_get fg_T_13 dT_put_25 rfl rfl ?_
      refine aw_bipush (v := 40) dT_put_28 (by decide) ?_
      refine aw_iload_n dT_put_30 rfl ?_
      refine aw_imul dT_put_31 ?_
      refine aw_iload_n dT_put_32 rfl ?_
      refine aw_iadd dT_put_33 ?_
      refine aw_iload_n dT_put_34 rfl ?_
      refine an_stT dT_put_35 at_2 ix40 (by omega) (by decide) ?_
      refine aw_iconst (v := 1) dT_put_36 (by decide) ?_
      exact aw_zret rfl (Or.inr rfl) dT_put_37 (by unfold sp_put; rw [cif_t ⟨p3, p16⟩, rn_n (by omega), rn_n (by omega)]; exact ⟨rfl, _, _, rfl, tinv_v hI hk (by omega) v⟩)
    · refine aw_if_ne (tgt := 24) dT_put_19 (by decide) (fun q => absurd q (by decide)) (fun _ => ?_)
      refine aw_iconst (v := 0) dT_put_22 (by decide) ?_
      exact aw_zret rfl (Or.inl rfl) dT_put_23 (by unfold sp_put; rw [cif_f (fun q => p16 q.2)]; exact ⟨rfl, J, B, rfl, hI⟩)
  · refine aw_if_eq (tgt := 22) dT_put_6 (by decide) (fun _ => ?_) (fun q => absurd q (by decide))
    refine aw_iconst (v := 0) dT_put_22 (by decide) ?_
    exact aw_zret rfl (Or.inl rfl) dT_put_23 (by unfold sp_put; rw [cif_f (fun q => p3 q.1)]; exact ⟨rfl, J, B, rfl, hI⟩)

set_option maxHeartbeats 4000000 in
set_option maxRecDepth 100000 in
theorem c_T_clear (N : Nat → Nat) (V : Nat → Nat → Int32) (K : Nat → Int32) (J : Nat → Int32) (B : Nat → Nat → Int32) (hI : TInv N V K J B) (r : Int32) : AM kT_clear 2 [.ref 0, .int r] (hT J B) (TR (sp_clear N V K r)) := by
  refine AMet.of (by decide) (by simp [Value.category]) (Nat.le_of_ble_eq_true rfl) ?_
  refine aw_iload_n dT_clear_0 rfl ?_
  refine an_callSb cg_T_72 (c_T_isRow _ _) dT_clear_1 rfl rfl (Nat.le_of_ble_eq_true rfl) (Nat.le_of_ble_eq_true rfl) (fun p1 => ?_) (fun p1 => ?_)
  · refine aw_if_ne (tgt := 9) dT_clear_4 (by decide) (fun _ => ?_) (fun q => absurd q (by decide))
    obtain ⟨k, hk, rfl⟩ := isRow_k p1
    have hN := hI.n k hk
    refine aw_aload_r dT_clear_9 rfl ?_
    refine aw_get fg_T_7 dT_clear_10 rfl rfl ?_
    refine aw_iload_n dT_clear_13 rfl ?_
    refine an_ldT dT_clear_14 at_1 rfl hk (by decide) ?_
    rw [(hI.1 k hk).2.1]
    refine aw_istore_n dT_clear_15 (by decide) ?_
    refine aw_aload_r dT_clear_16 rfl ?_
    refine aw_get fg_T_7 dT_clear_17 rfl rfl ?_
    refine aw_iload_n dT_clear_20 rfl ?_
    refine aw_iconst (v := 0) dT_clear_21 (by decide) ?_
    refine an_stT dT_clear_22 at_1 rfl hk (by decide) ?_
    refine aw_aload_r dT_clear_23 rfl ?_
    refine aw_get fg_T_26 dT_clear_24 rfl rfl ?_
    show AN _ _ _ _ _ (.int (J 5) :: _) _
    rw [hI.2.2.2.2.2.1]
    refine aw_iload_n dT_clear_27 rfl ?_
    refine aw_icmp_ne (tgt := 36) dT_clear_28 (by decide) (fun c28 => ?_) (fun c28 => ?_)
    · refine aw_iload_n dT_clear_36 rfl ?_
      exact aw_iret rfl dT_clear_37 (by unfold sp_clear; rw [cif_t p1, rn_n (by omega), if_neg c28]; exact ⟨rfl, _, _, rfl, tinv_n hI hk (by omega)⟩)
    · refine aw_aload_r dT_clear_31 rfl ?_
      refine aw_iconst (v := (-1)) dT_clear_32 (by decide) ?_
      refine an_putT fp_T_26 dT_clear_33 (by decide) ?_
      refine aw_iload_n dT_clear_36 rfl ?_
      exact aw_iret rfl dT_clear_37 (by unfold sp_clear; rw [cif_t p1, rn_n (by omega), if_pos c28]; exact ⟨rfl, _, _, rfl, tinv_12 (tinv_n hI hk (by omega)) (-1)⟩)
  · refine aw_if_ne (tgt := 9) dT_clear_4 (by decide) (fun q => absurd q (by decide)) (fun _ => ?_)
    refine aw_iconst (v := (-1)) dT_clear_7 (by decide) ?_
    exact aw_iret rfl dT_clear_8 (by unfold sp_clear; rw [cif_f p1]; exact ⟨rfl, J, B, rfl, hI⟩)

set_option maxHeartbeats 4000000 in
set_option maxRecDepth 100000 in
theorem c_T_miss (N : Nat → Nat) (V : Nat → Nat → Int32) (K : Nat → Int32) (J : Nat → Int32) (B : Nat → Nat → Int32) (hI : TInv N V K J B) (r v : Int32) : AM kT_miss 2 [.ref 0, .int r, .int v] (hT J B) (TR (sp_miss N V K r v)) := by
  refine AMet.of (by decide) (by simp [Value.category]) (Nat.le_of_ble_eq_true rfl) ?_
  refine aw_iload_n dT_miss_0 rfl ?_
  refine an_callSb cg_T_72 (c_T_isRow _ _) dT_miss_1 rfl rfl (Nat.le_of_ble_eq_true rfl) (Nat.le_of_ble_eq_true rfl) (fun p1 => ?_) (fun p1 => ?_)
  · refine aw_if_eq (tgt := 18) dT_miss_4 (by decide) (fun q => absurd q (by decide)) (fun _ => ?_)
    refine aw_iload_n dT_miss_7 rfl ?_
    refine aw_iconst (v := 0) dT_miss_8 (by decide) ?_
    refine aw_sipush (v := 200) dT_miss_9 (by decide) ?_
    refine an_callSb cg_T_80 (c_T_isIn _ _ _ _) dT_miss_12 rfl rfl (Nat.le_of_ble_eq_true rfl) (Nat.le_of_ble_eq_true rfl) (fun p12 => ?_) (fun p12 => ?_)
    · refine aw_if_ne (tgt := 20) dT_miss_15 (by decide) (fun _ => ?_) (fun q => absurd q (by decide))
      obtain ⟨k, hk, rfl⟩ := isRow_k p1
      refine aw_aload_r dT_miss_20 rfl ?_
      refine aw_get fg_T_16 dT_miss_21 rfl rfl ?_
      refine aw_iload_n dT_miss_24 rfl ?_
      refine an_ldT dT_miss_25 at_3 rfl hk (by decide) ?_
      rw [(hI.1 k hk).2.2.1]
      refine aw_istore_n dT_miss_26 (by decide) ?_
      refine aw_aload_r dT_miss_27 rfl ?_
      refine aw_get fg_T_16 dT_miss_28 rfl rfl ?_
      refine aw_iload_n dT_miss_31 rfl ?_
      refine aw_iload_n dT_miss_32 rfl ?_
      refine an_stT dT_miss_33 at_3 rfl hk (by decide) ?_
      refine aw_iload_n dT_miss_34 rfl ?_
      exact aw_iret rfl dT_miss_35 (by unfold sp_miss; rw [cif_t ⟨p1, p12⟩, rn_n (by omega)]; exact ⟨rfl, _, _, rfl, tinv_miss hI hk v⟩)
    · refine aw_if_ne (tgt := 20) dT_miss_15 (by decide) (fun q => absurd q (by decide)) (fun _ => ?_)
      refine aw_iconst (v := (-1)) dT_miss_18 (by decide) ?_
      exact aw_iret rfl dT_miss_19 (by unfold sp_miss; rw [cif_f (fun q => p12 q.2)]; exact ⟨rfl, J, B, rfl, hI⟩)
  · refine aw_if_eq (tgt := 18) dT_miss_4 (by decide) (fun _ => ?_) (fun q => absurd q (by decide))
    refine aw_iconst (v := (-1)) dT_miss_18 (by decide) ?_
    exact aw_iret rfl dT_miss_19 (by unfold sp_miss; rw [cif_f (fun q => p1 q.1)]; exact ⟨rfl, J, B, rfl, hI⟩)

set_option maxHeartbeats 4000000 in
set_option maxRecDepth 100000 in
theorem c_T_worth (N : Nat → Nat) (V : Nat → Nat → Int32) (K : Nat → Int32) (J : Nat → Int32) (B : Nat → Nat → Int32) (hI : TInv N V K J B) (r v : Int32) : AM kT_worth 2 [.ref 0, .int r, .int v] (hT J B) (TR (sp_worth N V K r v)) := by
  refine AMet.of (by decide) (by simp [Value.category]) (Nat.le_of_ble_eq_true rfl) ?_
  refine aw_iload_n dT_worth_0 rfl ?_
  refine an_callSb cg_T_72 (c_T_isRow _ _) dT_worth_1 rfl rfl (Nat.le_of_ble_eq_true rfl) (Nat.le_of_ble_eq_true rfl) (fun p1 => ?_) (fun p1 => ?_)
  · refine aw_if_eq (tgt := 18) dT_worth_4 (by decide) (fun q => absurd q (by decide)) (fun _ => ?_)
    refine aw_iload_n dT_worth_7 rfl ?_
    refine aw_iconst (v := 0) dT_worth_8 (by decide) ?_
    refine aw_sipush (v := 1000) dT_worth_9 (by decide) ?_
    refine an_callSb cg_T_80 (c_T_isIn _ _ _ _) dT_worth_12 rfl rfl (Nat.le_of_ble_eq_true rfl) (Nat.le_of_ble_eq_true rfl) (fun p12 => ?_) (fun p12 => ?_)
    · refine aw_if_ne (tgt := 20) dT_worth_15 (by decide) (fun _ => ?_) (fun q => absurd q (by decide))
      obtain ⟨k, hk, rfl⟩ := isRow_k p1
      refine aw_aload_r dT_worth_20 rfl ?_
      refine aw_get fg_T_19 dT_worth_21 rfl rfl ?_
      refine aw_iload_n dT_worth_24 rfl ?_
      refine an_ldT dT_worth_25 at_4 rfl hk (by decide) ?_
      rw [(hI.1 k hk).2.2.2.1]
      refine aw_istore_n dT_worth_26 (by decide) ?_
      refine aw_aload_r dT_worth_27 rfl ?_
      refine aw_get fg_T_19 dT_worth_28 rfl rfl ?_
      refine aw_iload_n dT_worth_31 rfl ?_
      refine aw_iload_n dT_worth_32 rfl ?_
      refine an_stT dT_worth_33 at_4 rfl hk (by decide) ?_
      refine aw_iload_n dT_worth_34 rfl ?_
      exact aw_iret rfl dT_worth_35 (by unfold sp_worth; rw [cif_t ⟨p1, p12⟩, rn_n (by omega)]; exact ⟨rfl, _, _, rfl, tinv_worth hI hk v⟩)
    · refine aw_if_ne (tgt := 20) dT_worth_15 (by decide) (fun q => absurd q (by decide)) (fun _ => ?_)
      refine aw_iconst (v := (-1)) dT_worth_18 (by decide) ?_
      exact aw_iret rfl dT_worth_19 (by unfold sp_worth; rw [cif_f (fun q => p12 q.2)]; exact ⟨rfl, J, B, rfl, hI⟩)
  · refine aw_if_eq (tgt := 18) dT_worth_4 (by decide) (fun _ => ?_) (fun q => absurd q (by decide))
    refine aw_iconst (v := (-1)) dT_worth_18 (by decide) ?_
    exact aw_iret rfl dT_worth_19 (by unfold sp_worth; rw [cif_f (fun q => p1 q.1)]; exact ⟨rfl, J, B, rfl, hI⟩)

set_option maxHeartbeats 4000000 in
set_option maxRecDepth 100000 in
theorem c_T_part (N : Nat → Nat) (V : Nat → Nat → Int32) (K : Nat → Int32) (J : Nat → Int32) (B : Nat → Nat → Int32) (hI : TInv N V K J B) (v : Int32) : AM kT_part 2 [.ref 0, .int v] (hT J B) (TR (sp_part N V K v)) := by
  refine AMet.of (by decide) (by simp [Value.category]) (Nat.le_of_ble_eq_true rfl) ?_
  refine aw_iload_n dT_part_0 rfl ?_
  refine aw_iconst (v := 0) dT_part_1 (by decide) ?_
  refine aw_sipush (v := 10000) dT_part_2 (by decide) ?_
  refine an_callSb cg_T_80 (c_T_isIn _ _ _ _) dT_part_5 rfl rfl (Nat.le_of_ble_eq_true rfl) (Nat.le_of_ble_eq_true rfl) (fun p5 => ?_) (fun p5 => ?_)
  · refine aw_if_ne (tgt := 13) dT_part_8 (by decide) (fun _ => ?_) (fun q => absurd q (by decide))
    refine aw_aload_r dT_part_13 rfl ?_
    refine aw_get fg_T_22 dT_part_14 rfl rfl ?_
    show AN _ _ _ _ _ (.int (J 4) :: _) _
    rw [hI.2.1]
    refine aw_istore_n dT_part_17 (by decide) ?_
    refine aw_aload_r dT_part_18 rfl ?_
    refine aw_iload_n dT_part_19 rfl ?_
    refine an_putT fp_T_22 dT_part_20 (by decide) ?_
    refine aw_iload_n dT_part_23 rfl ?_
    exact aw_iret rfl dT_part_24 (by unfold sp_part; rw [cif_t p5]; exact ⟨rfl, _, _, rfl, tinv_8 hI v⟩)
  · refine aw_if_ne (tgt := 13) dT_part_8 (by decide) (fun q => absurd q (by decide)) (fun _ => ?_)
    refine aw_iconst (v := (-1)) dT_part_11 (by decide) ?_
    exact aw_iret rfl dT_part_12 (by unfold sp_part; rw [cif_f p5]; exact ⟨rfl, J, B, rfl, hI⟩)

set_option maxHeartbeats 4000000 in
set_option maxRecDepth 100000 in
theorem c_T_at (N : Nat → Nat) (V : Nat → Nat → Int32) (K : Nat → Int32) (J : Nat → Int32) (B : Nat → Nat → Int32) (hI : TInv N V K J B) (r s : Int32) : AM kT_at 3 [.ref 0, .int r, .int s] (hT J B) (TR (sp_at N V K r s)) := by
  refine AMet.of (by decide) (by simp [Value.category]) (Nat.le_of_ble_eq_true rfl) ?_
  refine aw_aload_r dT_at_0 rfl ?_
  refine aw_iload_n dT_at_1 rfl ?_
  refine aw_iload_n dT_at_2 rfl ?_
  refine an_callVb cg_T_76 (c_T_isStep _ _ _ _ _ hI _ _) dT_at_3 rfl rfl rfl rfl rfl (Nat.le_of_ble_eq_true rfl) (Nat.le_of_ble_eq_true rfl) (fun p3 => ?_) (fun p3 => ?_)
  · refine aw_if_eq (tgt := 18) dT_at_6 (by decide) (fun q => absurd q (by decide)) (fun _ => ?_)
    obtain ⟨k, i, hk, hi, rfl, rfl⟩ := id p3
    have hN := hI.n k hk
    refine aw_aload_r dT_at_9 rfl ?_
    refine aw_iload_n dT_at_10 rfl ?_
    refine aw_iload_n dT_at_11 rfl ?_
    refine an_callVr cg_T_88 (c_T_valueAt _ _ _ _ _ hI hk (by omega)) dT_at_12 rfl rfl rfl rfl rfl (Nat.le_of_ble_eq_true rfl) (Nat.le_of_ble_eq_true rfl) ?_
    refine aw_goto (tgt := 21) dT_at_15 (by decide) ?_
    exact aw_iret rfl dT_at_21 (by unfold sp_at; rw [cif_t p3, rn_n (by omega), rn_n (by omega)]; exact ⟨rfl, J, B, rfl, hI⟩)
  · refine aw_if_eq (tgt := 18) dT_at_6 (by decide) (fun _ => ?_) (fun q => absurd q (by decide))
    refine aw_sipush (v := (-6000)) dT_at_18 (by decide) ?_
    exact aw_iret rfl dT_at_21 (by unfold sp_at; rw [cif_f p3]; exact ⟨rfl, J, B, rfl, hI⟩)

set_option maxHeartbeats 4000000 in
set_option maxRecDepth 100000 in
theorem c_T_ear (N : Nat → Nat) (V : Nat → Nat → Int32) (K : Nat → Int32) (J : Nat → Int32) (B : Nat → Nat → Int32) (hI : TInv N V K J B) (h l : Int32) : AM kT_ear 2 [.ref 0, .int h, .int l] (hT J B) (TR (sp_ear N V K h l)) := by
  refine AMet.of (by decide) (by simp [Value.category]) (Nat.le_of_ble_eq_true rfl) ?_
  refine aw_iload_n dT_ear_0 rfl ?_
  refine aw_iconst (v := 0) dT_ear_1 (by decide) ?_
  refine aw_bipush (v := 60) dT_ear_2 (by decide) ?_
  refine an_callSb cg_T_80 (c_T_isIn _ _ _ _) dT_ear_4 rfl rfl (Nat.le_of_ble_eq_true rfl) (Nat.le_of_ble_eq_true rfl) (fun p4 => ?_) (fun p4 => ?_)
  · refine aw_if_eq (tgt := 20) dT_ear_7 (by decide) (fun q => absurd q (by decide)) (fun _ => ?_)
    refine aw_iload_n dT_ear_10 rfl ?_
    refine aw_iconst (v := 0) dT_ear_11 (by decide) ?_
    refine aw_bipush (v := 100) dT_ear_12 (by decide) ?_
    refine an_callSb cg_T_80 (c_T_isIn _ _ _ _) dT_ear_14 rfl rfl (Nat.le_of_ble_eq_true rfl) (Nat.le_of_ble_eq_true rfl) (fun p14 => ?_) (fun p14 => ?_)
    · refine aw_if_ne (tgt := 22) dT_ear_17 (by decide) (fun _ => ?_) (fun q => absurd q (by decide))
      refine aw_aload_r dT_ear_22 rfl ?_
      refine aw_iload_n dT_ear_23 rfl ?_
      refine an_putT fp_T_50 dT_ear_24 (by decide) ?_
      refine aw_aload_r dT_ear_27 rfl ?_
      refine aw_iload_n dT_ear_28 rfl ?_
      refine an_putT fp_T_53 dT_ear_29 (by decide) ?_
      refine aw_iconst (v := 1) dT_ear_32 (by decide) ?_
      exact aw_zret rfl (Or.inr rfl) dT_ear_33 (by unfold sp_ear; rw [cif_t ⟨p4, p14⟩]; exact ⟨rfl, _, _, rfl, tinv_11 (tinv_10 hI h) l⟩)
    · refine aw_if_ne (tgt := 22) dT_ear_17 (by decide) (fun q => absurd q (by decide)) (fun _ => ?_)
      refine aw_iconst (v := 0) dT_ear_20 (by decide) ?_
      exact aw_zret rfl (Or.inl rfl) dT_ear_21 (by unfold sp_ear; rw [cif_f (fun q => p14 q.2)]; exact ⟨rfl, J, B, rfl, hI⟩)
  · refine aw_if_eq (tgt := 20) dT_ear_7 (by decide) (fun _ => ?_) (fun q => absurd q (by decide))
    refine aw_iconst (v := 0) dT_ear_20 (by decide) ?_
    exact aw_zret rfl (Or.inl rfl) dT_ear_21 (by unfold sp_ear; rw [cif_f (fun q => p4 q.1)]; exact ⟨rfl, J, B, rfl, hI⟩)

set_option maxHeartbeats 4000000 in
set_option maxRecDepth 100000 in
theorem c_T_walk (N : Nat → Nat) (V : Nat → Nat → Int32) (K : Nat → Int32) (J : Nat → Int32) (B : Nat → Nat → Int32) (hI : TInv N V K J B) (r s : Int32) : AM kT_walk 3 [.ref 0, .int r, .int s] (hT J B) (TR (sp_walk N V K r s)) := by
  refine AMet.of (by decide) (by simp [Value.category]) (Nat.le_of_ble_eq_true rfl) ?_
  refine aw_aload_r dT_walk_0 rfl ?_
  refine aw_iload_n dT_walk_1 rfl ?_
  refine aw_iload_n dT_walk_2 rfl ?_
  refine an_callVb cg_T_76 (c_T_isStep _ _ _ _ _ hI _ _) dT_walk_3 rfl rfl rfl rfl rfl (Nat.le_of_ble_eq_true rfl) (Nat.le_of_ble_eq_true rfl) (fun p3 => ?_) (fun p3 => ?_)
  · refine aw_if_ne (tgt := 11) dT_walk_6 (by decide) (fun _ => ?_) (fun q => absurd q (by decide))
    refine aw_aload_r dT_walk_11 rfl ?_
    refine aw_iload_n dT_walk_12 rfl ?_
    refine an_putT fp_T_26 dT_walk_13 (by decide) ?_
    refine aw_aload_r dT_walk_16 rfl ?_
    refine aw_iload_n dT_walk_17 rfl ?_
    refine an_putT fp_T_163 dT_walk_18 (by decide) ?_
    refine aw_iconst (v := 1) dT_walk_21 (by decide) ?_
    exact aw_zret rfl (Or.inr rfl) dT_walk_22 (by unfold sp_walk; rw [cif_t p3]; exact ⟨rfl, _, _, rfl, tinv_13 (tinv_12 hI r) s⟩)
  · refine aw_if_ne (tgt := 11) dT_walk_6 (by decide) (fun q => absurd q (by decide)) (fun _ => ?_)
    refine aw_iconst (v := 0) dT_walk_9 (by decide) ?_
    exact aw_zret rfl (Or.inl rfl) dT_walk_10 (by unfold sp_walk; rw [cif_f p3]; exact ⟨rfl, J, B, rfl, hI⟩)

set_option maxHeartbeats 4000000 in
set_option maxRecDepth 100000 in
theorem c_T_where (N : Nat → Nat) (V : Nat → Nat → Int32) (K : Nat → Int32) (J : Nat → Int32) (B : Nat → Nat → Int32) (hI : TInv N V K J B) (w : Int32) : AM kT_where 1 [.ref 0, .int w] (hT J B) (TR (sp_where N V K w)) := by
  refine AMet.of (by decide) (by simp [Value.category]) (Nat.le_of_ble_eq_true rfl) ?_
  refine aw_aload_r dT_where_0 rfl ?_
  refine aw_get fg_T_26 dT_where_1 rfl rfl ?_
  show AN _ _ _ _ _ (.int (J 5) :: _) _
  rw [hI.2.2.2.2.2.1]
  refine aw_iconst (v := (-1)) dT_where_4 (by decide) ?_
  refine aw_icmp_ne (tgt := 12) dT_where_5 (by decide) (fun c5 => ?_) (fun c5 => ?_)
  · refine aw_iload_n dT_where_12 rfl ?_
    refine aw_if_ne (tgt := 23) dT_where_13 (by decide) (fun c13 => ?_) (fun c13 => ?_)
    · refine aw_iload_n dT_where_23 rfl ?_
      refine aw_iconst (v := 1) dT_where_24 (by decide) ?_
      refine aw_icmp_ne (tgt := 35) dT_where_25 (by decide) (fun c25 => ?_) (fun c25 => ?_)
      · refine aw_iconst (v := (-1)) dT_where_35 (by decide) ?_
        exact aw_iret rfl dT_where_36 ⟨by show _ = some (Value.int (if _ then _ else _)); simp [c5, c13, c25], J, B, rfl, hI⟩
      · refine aw_aload_r dT_where_28 rfl ?_
        refine aw_get fg_T_163 dT_where_29 rfl rfl ?_
        show AN _ _ _ _ _ (.int (J 6) :: _) _
        rw [hI.2.2.2.2.2.2]
        refine aw_goto (tgt := 36) dT_where_32 (by decide) ?_
        exact aw_iret rfl dT_where_36 ⟨by show _ = some (Value.int (if _ then _ else _)); simp [c5, c13, c25], J, B, rfl, hI⟩
    · refine aw_aload_r dT_where_16 rfl ?_
      refine aw_get fg_T_26 dT_where_17 rfl rfl ?_
      show AN _ _ _ _ _ (.int (J 5) :: _) _
      rw [hI.2.2.2.2.2.1]
      refine aw_goto (tgt := 36) dT_where_20 (by decide) ?_
      exact aw_iret rfl dT_where_36 ⟨by show _ = some (Value.int (if _ then _ else _)); simp [c5, c13], J, B, rfl, hI⟩
  · refine aw_iconst (v := (-1)) dT_where_8 (by decide) ?_
    refine aw_goto (tgt := 36) dT_where_9 (by decide) ?_
    exact aw_iret rfl dT_where_36 ⟨by show _ = some (Value.int (if _ then _ else _)); simp [c5], J, B, rfl, hI⟩

set_option maxHeartbeats 4000000 in
set_option maxRecDepth 100000 in
theorem c_T_go (N : Nat → Nat) (V : Nat → Nat → Int32) (K : Nat → Int32) (J : Nat → Int32) (B : Nat → Nat → Int32) (hI : TInv N V K J B) (on : Int32) : AM kT_go 3 [.ref 0, .int on] (hT J B) (TR (sp_go N V K on)) := by
  refine AMet.of (by decide) (by simp [Value.category]) (Nat.le_of_ble_eq_true rfl) ?_
  refine aw_aload_r dT_go_0 rfl ?_
  refine aw_get fg_T_163 dT_go_1 rfl rfl ?_
  show AN _ _ _ _ _ (.int (J 6) :: _) _
  rw [hI.2.2.2.2.2.2]
  refine aw_iload_n dT_go_4 rfl ?_
  refine aw_if_eq (tgt := 12) dT_go_5 (by decide) (fun c5 => ?_) (fun c5 => ?_)
  · refine aw_iconst (v := (-1)) dT_go_12 (by decide) ?_
    refine aw_iadd dT_go_13 ?_
    refine an_top (show K 13 + (-1) = (if on = 0 then K 13 - 1 else K 13 + 1) by rw [if_pos c5]; exact (Int32.sub_eq_add_neg _ _).symm) ?_
    refine aw_istore_n dT_go_14 (by decide) ?_
    refine aw_aload_r dT_go_15 rfl ?_
    refine aw_get fg_T_26 dT_go_16 rfl rfl ?_
    show AN _ _ _ _ _ (.int (J 5) :: _) _
    rw [hI.2.2.2.2.2.1]
    refine aw_iconst (v := (-1)) dT_go_19 (by decide) ?_
    refine aw_icmp_eq (tgt := 35) dT_go_20 (by decide) (fun c20 => ?_) (fun c20 => ?_)
    · refine aw_iconst (v := (-1)) dT_go_35 (by decide) ?_
      exact aw_iret rfl dT_go_36 (by unfold sp_go; rw [cif_f (fun q => q.1 c20)]; exact ⟨rfl, J, B, rfl, hI⟩)
    · refine aw_aload_r dT_go_23 rfl ?_
      refine aw_aload_r dT_go_24 rfl ?_
      refine aw_get fg_T_26 dT_go_25 rfl rfl ?_
      show AN _ _ _ _ _ (.int (J 5) :: _) _
      rw [hI.2.2.2.2.2.1]
      refine aw_iload_n dT_go_28 rfl ?_
      refine an_callVb cg_T_76 (c_T_isStep _ _ _ _ _ hI _ _) dT_go_29 rfl rfl rfl rfl rfl (Nat.le_of_ble_eq_true rfl) (Nat.le_of_ble_eq_true rfl) (fun p29 => ?_) (fun p29 => ?_)
      · refine aw_if_ne (tgt := 37) dT_go_32 (by decide) (fun _ => ?_) (fun q => absurd q (by decide))
        refine aw_aload_r dT_go_37 rfl ?_
        refine aw_iload_n dT_go_38 rfl ?_
        refine an_putT fp_T_163 dT_go_39 (by decide) ?_
        refine aw_iload_n dT_go_42 rfl ?_
        exact aw_iret rfl dT_go_43 (by unfold sp_go; rw [cif_t ⟨c20, p29⟩]; exact ⟨rfl, _, _, rfl, tinv_13 hI _⟩)
      · refine aw_if_ne (tgt := 37) dT_go_32 (by decide) (fun q => absurd q (by decide)) (fun _ => ?_)
        refine aw_iconst (v := (-1)) dT_go_35 (by decide) ?_
        exact aw_iret rfl dT_go_36 (by unfold sp_go; rw [cif_f (fun q => p29 q.2)]; exact ⟨rfl, J, B, rfl, hI⟩)
  · refine aw_iconst (v := 1) dT_go_8 (by decide) ?_
    refine aw_goto (tgt := 13) dT_go_9 (by decide) ?_
    refine aw_iadd dT_go_13 ?_
    refine an_top (show K 13 + 1 = (if on = 0 then K 13 - 1 else K 13 + 1) by rw [if_neg c5]) ?_
    refine aw_istore_n dT_go_14 (by decide) ?_
    refine aw_aload_r dT_go_15 rfl ?_
    refine aw_get fg_T_26 dT_go_16 rfl rfl ?_
    show AN _ _ _ _ _ (.int (J 5) :: _) _
    rw [hI.2.2.2.2.2.1]
    refine aw_iconst (v := (-1)) dT_go_19 (by decide) ?_
    refine aw_icmp_eq (tgt := 35) dT_go_20 (by decide) (fun c20 => ?_) (fun c20 => ?_)
    · refine aw_iconst (v := (-1)) dT_go_35 (by decide) ?_
      exact aw_iret rfl dT_go_36 (by unfold sp_go; rw [cif_f (fun q => q.1 c20)]; exact ⟨rfl, J, B, rfl, hI⟩)
    · refine aw_aload_r dT_go_23 rfl ?_
      refine aw_aload_r dT_go_24 rfl ?_
      refine aw_get fg_T_26 dT_go_25 rfl rfl ?_
      show AN _ _ _ _ _ (.int (J 5) :: _) _
      rw [hI.2.2.2.2.2.1]
      refine aw_iload_n dT_go_28 rfl ?_
      refine an_callVb cg_T_76 (c_T_isStep _ _ _ _ _ hI _ _) dT_go_29 rfl rfl rfl rfl rfl (Nat.le_of_ble_eq_true rfl) (Nat.le_of_ble_eq_true rfl) (fun p29 => ?_) (fun p29 => ?_)
      · refine aw_if_ne (tgt := 37) dT_go_32 (by decide) (fun _ => ?_) (fun q => absurd q (by decide))
        refine aw_aload_r dT_go_37 rfl ?_
        refine aw_iload_n dT_go_38 rfl ?_
        refine an_putT fp_T_163 dT_go_39 (by decide) ?_
        refine aw_iload_n dT_go_42 rfl ?_
        exact aw_iret rfl dT_go_43 (by unfold sp_go; rw [cif_t ⟨c20, p29⟩]; exact ⟨rfl, _, _, rfl, tinv_13 hI _⟩)
      · refine aw_if_ne (tgt := 37) dT_go_32 (by decide) (fun q => absurd q (by decide)) (fun _ => ?_)
        refine aw_iconst (v := (-1)) dT_go_35 (by decide) ?_
        exact aw_iret rfl dT_go_36 (by unfold sp_go; rw [cif_f (fun q => p29 q.2)]; exact ⟨rfl, J, B, rfl, hI⟩)

set_option maxHeartbeats 4000000 in
set_option maxRecDepth 100000 in
theorem c_T_sure (N : Nat → Nat) (V : Nat → Nat → Int32) (K : Nat → Int32) (J : Nat → Int32) (B : Nat → Nat → Int32) (hI : TInv N V K J B) (a b s : Int32) : AM kT_sure 4 [.ref 0, .int a, .int b, .int s] (hT J B) (RQ (sureE N V K a b s) (hT J B)) := by
  refine AMet.of (by decide) (by simp [Value.category]) (Nat.le_of_ble_eq_true rfl) ?_
  refine aw_iload_n dT_sure_0 rfl ?_
  refine an_callSb cg_T_72 (c_T_isRow _ _) dT_sure_1 rfl rfl (Nat.le_of_ble_eq_true rfl) (Nat.le_of_ble_eq_true rfl) (fun p1 => ?_) (fun p1 => ?_)
  · refine aw_if_eq (tgt := 37) dT_sure_4 (by decide) (fun q => absurd q (by decide)) (fun _ => ?_)
    refine aw_iload_n dT_sure_7 rfl ?_
    refine an_callSb cg_T_72 (c_T_isRow _ _) dT_sure_8 rfl rfl (Nat.le_of_ble_eq_true rfl) (Nat.le_of_ble_eq_true rfl) (fun p8 => ?_) (fun p8 => ?_)
    · refine aw_if_eq (tgt := 37) dT_sure_11 (by decide) (fun q => absurd q (by decide)) (fun _ => ?_)
      refine aw_iload_n dT_sure_14 rfl ?_
      refine aw_iload_n dT_sure_15 rfl ?_
      refine aw_icmp_eq (tgt := 37) dT_sure_16 (by decide) (fun c16 => ?_) (fun c16 => ?_)
      · refine aw_bipush (v := (-2)) dT_sure_37 (by decide) ?_
        exact aw_iret rfl dT_sure_39 (by unfold sureE; rw [cif_f (fun q => q.2.2.1 c16)]; exact ⟨rfl, rfl⟩)
      · refine aw_aload_r dT_sure_19 rfl ?_
        refine aw_iload_n dT_sure_20 rfl ?_
        refine aw_iload_n dT_sure_21 rfl ?_
        refine an_callVb cg_T_91 (c_T_hasValue _ _ _ _ _ hI _ _) dT_sure_22 rfl rfl rfl rfl rfl (Nat.le_of_ble_eq_true rfl) (Nat.le_of_ble_eq_true rfl) (fun p22 => ?_) (fun p22 => ?_)
        · refine aw_if_eq (tgt := 37) dT_sure_25 (by decide) (fun q => absurd q (by decide)) (fun _ => ?_)
          refine aw_aload_r dT_sure_28 rfl ?_
          refine aw_iload_n dT_sure_29 rfl ?_
          refine aw_iload_n dT_sure_30 rfl ?_
          refine an_callVb cg_T_91 (c_T_hasValue _ _ _ _ _ hI _ _) dT_sure_31 rfl rfl rfl rfl rfl (Nat.le_of_ble_eq_true rfl) (Nat.le_of_ble_eq_true rfl) (fun p31 => ?_) (fun p31 => ?_)
          · refine aw_if_ne (tgt := 40) dT_sure_34 (by decide) (fun _ => ?_) (fun q => absurd q (by decide))
            obtain ⟨k, i, hk, hi, rfl, rfl, hv⟩ := id p22
            obtain ⟨k2, i2, hk2, hi2, rfl, e2, hv2⟩ := id p31
            have hN := hI.n k hk
            have hN2 := hI.n k2 hk2
            have e3 := nI_inj (by omega) (by omega) e2
            subst e3
            refine aw_aload_r dT_sure_40 rfl ?_
            refine aw_iload_n dT_sure_41 rfl ?_
            refine aw_iload_n dT_sure_42 rfl ?_
            refine an_callVr cg_T_88 (c_T_valueAt _ _ _ _ _ hI hk (by omega)) dT_sure_43 rfl rfl rfl rfl rfl (Nat.le_of_ble_eq_true rfl) (Nat.le_of_ble_eq_true rfl) ?_
            refine aw_aload_r dT_sure_46 rfl ?_
            refine aw_iload_n dT_sure_47 rfl ?_
            refine aw_iload_n dT_sure_48 rfl ?_
            refine an_callVr cg_T_88 (c_T_valueAt _ _ _ _ _ hI hk2 (by omega)) dT_sure_49 rfl rfl rfl rfl rfl (Nat.le_of_ble_eq_true rfl) (Nat.le_of_ble_eq_true rfl) ?_
            refine aw_isub dT_sure_52 ?_
            refine aw_istore dT_sure_53 (by decide) ?_
            refine aw_aload_r dT_sure_55 rfl ?_
            refine aw_get fg_T_16 dT_sure_56 rfl rfl ?_
            refine aw_iload_n dT_sure_59 rfl ?_
            refine an_ldT dT_sure_60 at_3 rfl hk (by decide) ?_
            rw [(hI.1 k hk).2.2.1]
            refine aw_aload_r dT_sure_61 rfl ?_
            refine aw_get fg_T_16 dT_sure_62 rfl rfl ?_
            refine aw_iload_n dT_sure_65 rfl ?_
            refine an_ldT dT_sure_66 at_3 rfl hk2 (by decide) ?_
            rw [(hI.1 k2 hk2).2.2.1]
            refine aw_iadd dT_sure_67 ?_
            refine aw_istore dT_sure_68 (by decide) ?_
            refine aw_iload dT_sure_70 rfl ?_
            refine aw_iload dT_sure_72 rfl ?_
            refine aw_icmp_le (tgt := 81) dT_sure_74 (by decide) (fun c74 => ?_) (fun c74 => ?_)
            · refine aw_iload dT_sure_81 rfl ?_
              refine aw_ineg dT_sure_83 ?_
              refine aw_iload dT_sure_84 rfl ?_
              refine aw_icmp_le (tgt := 93) dT_sure_86 (by decide) (fun c86 => ?_) (fun c86 => ?_)
              · refine aw_iconst (v := 0) dT_sure_93 (by decide) ?_
                exact aw_iret rfl dT_sure_94 (by unfold sureE sureV; rw [cif_t ⟨p1, p8, c16, p22, p31⟩, rn_n (by omega), rn_n (by omega), rn_n (by omega)]; refine ⟨rfl, ?_⟩; simp only [c74, c86, if_true, if_false, ite_true, ite_false])
              · refine aw_iconst (v := (-1)) dT_sure_89 (by decide) ?_
                refine aw_goto (tgt := 94) dT_sure_90 (by decide) ?_
                exact aw_iret rfl dT_sure_94 (by unfold sureE sureV; rw [cif_t ⟨p1, p8, c16, p22, p31⟩, rn_n (by omega), rn_n (by omega), rn_n (by omega)]; refine ⟨rfl, ?_⟩; simp only [c74, c86, if_true, if_false, ite_true, ite_false])
            · refine aw_iconst (v := 1) dT_sure_77 (by decide) ?_
              refine aw_goto (tgt := 94) dT_sure_78 (by decide) ?_
              exact aw_iret rfl dT_sure_94 (by unfold sureE sureV; rw [cif_t ⟨p1, p8, c16, p22, p31⟩, rn_n (by omega), rn_n (by omega), rn_n (by omega)]; refine ⟨rfl, ?_⟩; simp only [c74, if_true, if_false, ite_true, ite_false])
          · refine aw_if_ne (tgt := 40) dT_sure_34 (by decide) (fun q => absurd q (by decide)) (fun _ => ?_)
            refine aw_bipush (v := (-2)) dT_sure_37 (by decide) ?_
            exact aw_iret rfl dT_sure_39 (by unfold sureE; rw [cif_f (fun q => p31 q.2.2.2.2)]; exact ⟨rfl, rfl⟩)
        · refine aw_if_eq (tgt := 37) dT_sure_25 (by decide) (fun _ => ?_) (fun q => absurd q (by decide))
          refine aw_bipush (v := (-2)) dT_sure_37 (by decide) ?_
          exact aw_iret rfl dT_sure_39 (by unfold sureE; rw [cif_f (fun q => p22 q.2.2.2.1)]; exact ⟨rfl, rfl⟩)
    · refine aw_if_eq (tgt := 37) dT_sure_11 (by decide) (fun _ => ?_) (fun q => absurd q (by decide))
      refine aw_bipush (v := (-2)) dT_sure_37 (by decide) ?_
      exact aw_iret rfl dT_sure_39 (by unfold sureE; rw [cif_f (fun q => p8 q.2.1)]; exact ⟨rfl, rfl⟩)
  · refine aw_if_eq (tgt := 37) dT_sure_4 (by decide) (fun _ => ?_) (fun q => absurd q (by decide))
    refine aw_bipush (v := (-2)) dT_sure_37 (by decide) ?_
    exact aw_iret rfl dT_sure_39 (by unfold sureE; rw [cif_f (fun q => p1 q.1)]; exact ⟨rfl, rfl⟩)
end
section
/-! the class's side of the small calls -/
theorem isRow_of {r : Int32} (h : In r 0 3) : IsRow r := by
  unfold In at h; rw [z_0, z_3] at h; exact ⟨h.1, by omega⟩
theorem isRow_to {r : Int32} (h : IsRow r) : In r 0 3 := by
  unfold In; rw [z_0, z_3]; have := h.1; have := h.2; omega
section CI
variable {N : Nat → Nat} {V : Nat → Nat → Int32} {K I : Nat → Int32} {A : Nat → Nat → Int32}
theorem CInv.n (h : CInv N V K I A) : ∀ k, k < 4 → N k ≤ 40 := fun k hk => (h.1 k hk).1
theorem cinv_n (h : CInv N V K I A) {k n : Nat} (hk : k < 4) (hn : n ≤ 40) : CInv (va_up N k n) V K (upd I (201 + 200 * k) (nI n)) A := by
  obtain ⟨h1, h2, h3, h4, h5, h6, h7⟩ := h
  refine ⟨fun j hj => ?_, by rw [pk_un (by omega)]; exact h2, by rw [pk_un (by omega)]; exact h3, by rw [pk_un (by omega)]; exact h4, by rw [pk_un (by omega)]; exact h5, by rw [pk_un (by omega)]; exact h6, by rw [pk_un (by omega)]; exact h7⟩
  obtain ⟨a, b, c, d, e⟩ := h1 j hj
  by_cases q : j = k
  · subst q
    rw [up_s]
    exact ⟨hn, pk_us, by rw [pk_un (by omega)]; exact c, by rw [pk_un (by omega)]; exact d, e⟩
  · rw [up_n q]
    exact ⟨a, by rw [pk_un (by omega)]; exact b, by rw [pk_un (by omega)]; exact c, by rw [pk_un (by omega)]; exact d, e⟩
theorem cinv_v (h : CInv N V K I A) {k i : Nat} (hk : k < 4) (hi : i < 40) (v : Int32) : CInv N (va_up V k (upd (V k) i v)) K I (va_up A (3 + 2 * k) (upd (A (3 + 2 * k)) i v)) := by
  refine ⟨fun j hj => ?_, h.2⟩
  obtain ⟨a, b, c, d, e⟩ := h.1 j hj
  refine ⟨a, b, c, d, fun i' hi' => ?_⟩
  by_cases q : j = k
  · subst q
    rw [up_s, up_s]
    by_cases q2 : i' = i
    · subst q2; rw [pk_us, pk_us]
    · rw [pk_un q2, pk_un q2]; exact e i' hi'
  · rw [up_n q, up_n (by omega)]; exact e i' hi'
theorem cinv_miss (h : CInv N V K I A) {k : Nat} (hk : k < 4) (v : Int32) : CInv N V (upd K k v) (upd I (201 + 200 * k + 1) v) A := by
  obtain ⟨h1, h2, h3, h4, h5, h6, h7⟩ := h
  refine ⟨fun j hj => ?_, by rw [pk_un (by omega), pk_un (by omega)]; exact h2, by rw [pk_un (by omega), pk_un (by omega)]; exact h3, by rw [pk_un (by omega), pk_un (by omega)]; exact h4, by rw [pk_un (by omega), pk_un (by omega)]; exact h5, by rw [pk_un (by omega), pk_un (by omega)]; exact h6, by rw [pk_un (by omega), pk_un (by omega)]; exact h7⟩
  obtain ⟨a, b, c, d, e⟩ := h1 j hj
  refine ⟨a, by rw [pk_un (by omega)]; exact b, ?_, by rw [pk_un (by omega), pk_un (by omega)]; exact d, e⟩
  by_cases q : j = k
  · subst q
    rw [show 202 + 200 * j = 201 + 200 * j + 1 by omega, pk_us, pk_us]
  · rw [pk_un (by omega), pk_un q]; exact c
theorem cinv_worth (h : CInv N V K I A) {k : Nat} (hk : k < 4) (v : Int32) : CInv N V (upd K (4 + k) v) (upd I (201 + 200 * k + 2) v) A := by
  obtain ⟨h1, h2, h3, h4, h5, h6, h7⟩ := h
  refine ⟨fun j hj => ?_, by rw [pk_un (by omega), pk_un (by omega)]; exact h2, by rw [pk_un (by omega), pk_un (by omega)]; exact h3, by rw [pk_un (by omega), pk_un (by omega)]; exact h4, by rw [pk_un (by omega), pk_un (by omega)]; exact h5, by rw [pk_un (by omega), pk_un (by omega)]; exact h6, by rw [pk_un (by omega), pk_un (by omega)]; exact h7⟩
  obtain ⟨a, b, c, d, e⟩ := h1 j hj
  refine ⟨a, by rw [pk_un (by omega)]; exact b, by rw [pk_un (by omega), pk_un (by omega)]; exact c, ?_, e⟩
  by_cases q : j = k
  · subst q
    rw [show 203 + 200 * j = 201 + 200 * j + 2 by omega, pk_us, pk_us]
  · rw [pk_un (by omega), pk_un (by omega)]; exact d
theorem cinv_rows (h : CInv N V K I A) {q p : Nat} (hq : 8 ≤ q) (hp : p < 200) (v w : Int32) : ∀ k, k < 4 → N k ≤ 40 ∧ upd I p w (201 + 200 * k) = nI (N k) ∧ upd I p w (202 + 200 * k) = upd K q v k ∧ upd I p w (203 + 200 * k) = upd K q v (4 + k) ∧ ∀ i, i < 40 → A (3 + 2 * k) i = V k i := fun k hk => by
  obtain ⟨a, b, c, d, e⟩ := h.1 k hk
  exact ⟨a, by rw [pk_un (by omega)]; exact b, by rw [pk_un (by omega), pk_un (by omega)]; exact c, by rw [pk_un (by omega), pk_un (by omega)]; exact d, e⟩
theorem cinv_8 (h : CInv N V K I A) (v : Int32) : CInv N V (upd K 8 v) (upd I 5 v) A := ⟨cinv_rows h (by decide) (by decide) v v, rfl, h.2.2⟩
theorem cinv_9 (h : CInv N V K I A) (v : Int32) : CInv N V (upd K 9 v) (upd I 6 v) A := ⟨cinv_rows h (by decide) (by decide) v v, h.2.1, rfl, h.2.2.2⟩
theorem cinv_10 (h : CInv N V K I A) (v : Int32) : CInv N V (upd K 10 v) (upd I 7 v) A := ⟨cinv_rows h (by decide) (by decide) v v, h.2.1, h.2.2.1, rfl, h.2.2.2.2⟩
theorem cinv_11 (h : CInv N V K I A) (v : Int32) : CInv N V (upd K 11 v) (upd I 8 v) A := ⟨cinv_rows h (by decide) (by decide) v v, h.2.1, h.2.2.1, h.2.2.2.1, rfl, h.2.2.2.2.2⟩
theorem cinv_12 (h : CInv N V K I A) (v : Int32) : CInv N V (upd K 12 v) (upd I 9 v) A := ⟨cinv_rows h (by decide) (by decide) v v, h.2.1, h.2.2.1, h.2.2.2.1, h.2.2.2.2.1, rfl, h.2.2.2.2.2.2⟩
theorem cinv_13 (h : CInv N V K I A) (v : Int32) : CInv N V (upd K 13 v) (upd I 10 v) A := ⟨cinv_rows h (by decide) (by decide) v v, h.2.1, h.2.2.1, h.2.2.2.1, h.2.2.2.2.1, h.2.2.2.2.2.1, rfl⟩
end CI
theorem i_sub {a b : Int32} (h1 : -2147483648 ≤ a.toInt - b.toInt) (h2 : a.toInt - b.toInt < 2147483648) : (a - b).toInt = a.toInt - b.toInt := by
  rw [Int32.toInt_sub]; exact Int.bmod_eq_of_le (by omega) (by omega)
theorem i_add {a b : Int32} (h1 : -2147483648 ≤ a.toInt + b.toInt) (h2 : a.toInt + b.toInt < 2147483648) : (a + b).toInt = a.toInt + b.toInt := by
  rw [Int32.toInt_add]; exact Int.bmod_eq_of_le (by omega) (by omega)
theorem i_mul {a b : Int32} (h1 : -2147483648 ≤ a.toInt * b.toInt) (h2 : a.toInt * b.toInt < 2147483648) : (a * b).toInt = a.toInt * b.toInt := by
  rw [Int32.toInt_mul]; exact Int.bmod_eq_of_le (by omega) (by omega)
theorem i_neg {a : Int32} (h1 : -2147483647 ≤ a.toInt) : (-a).toInt = -a.toInt := by
  have := Int32.toInt_lt a
  rw [Int32.toInt_neg]; exact Int.bmod_eq_of_le (by omega) (by omega)
theorem lt_T {a b : Int32} : a < b ↔ a.toInt < b.toInt := Int32.lt_iff_toInt_lt
theorem le_T {a b : Int32} : a ≤ b ↔ a.toInt ≤ b.toInt := Int32.le_iff_toInt_le
theorem PInv.val {N : Nat → Nat} {V : Nat → Nat → Int32} {K : Nat → Int32} (h : PInv N V K) {k i : Nat} (hk : k < 4) (hi : i < N k) (hv : ¬ V k i = -5000) : -1000 ≤ (V k i).toInt ∧ (V k i).toInt ≤ 1000 := by
  rcases (h.1 k hk).2.1 i hi with q | q
  · exact absurd q hv
  · unfold In at q; rw [z_m1000, z_1000] at q; exact q
theorem PInv.miss {N : Nat → Nat} {V : Nat → Nat → Int32} {K : Nat → Int32} (h : PInv N V K) {k : Nat} (hk : k < 4) : 0 ≤ (K k).toInt ∧ (K k).toInt ≤ 200 := by
  have q := (h.1 k hk).2.2.1
  unfold In at q; rw [z_0, z_200] at q; exact q
noncomputable def sureR (N : Nat → Nat) (V : Nat → Nat → Int32) (K : Nat → Int32) (k1 k2 : Nat) (s : Int32) : Int32 := cif (HV N V (nI k1) s ∧ HV N V (nI k2) s) (sureV (V k1 (rn s)) (V k2 (rn s)) (K k1) (K k2)) (-2)
theorem sureE_R {N : Nat → Nat} {V : Nat → Nat → Int32} {K : Nat → Int32} {k1 k2 : Nat} {s : Int32} (h1 : k1 < 4) (h2 : k2 < 4) (h : k1 ≠ k2) : sureE N V K (nI k1) (nI k2) s = sureR N V K k1 k2 s := by
  have hne : ¬ nI k1 = nI k2 := fun q => h (nI_inj (by omega) (by omega) q)
  unfold sureE sureR
  by_cases q : HV N V (nI k1) s ∧ HV N V (nI k2) s
  · rw [cif_t ⟨isRow_n h1, isRow_n h2, hne, q.1, q.2⟩, cif_t q, rn_n (by omega), rn_n (by omega)]
  · rw [cif_f (fun z => q z.2.2.2), cif_f q]
theorem sure_neg {x y m1 m2 : Int32} (hx : -1000 ≤ x.toInt ∧ x.toInt ≤ 1000) (hy : -1000 ≤ y.toInt ∧ y.toInt ≤ 1000) (h1 : 0 ≤ m1.toInt ∧ m1.toInt ≤ 200) (h2 : 0 ≤ m2.toInt ∧ m2.toInt ≤ 200) : -(m1 + m2) ≤ x - y ↔ -(x - y) ≤ m1 + m2 := by
  have e1 := i_sub (a := x) (b := y) (by omega) (by omega)
  have e2 := i_add (a := m1) (b := m2) (by omega) (by omega)
  rw [le_T, le_T, i_neg (by omega), i_neg (by omega), e1, e2]
  omega
theorem sp_value_nr {N : Nat → Nat} {V : Nat → Nat → Int32} {K : Nat → Int32} {r v : Int32} (nk : ¬ IsRow r) : sp_value N V K r v = (-1, N, V, K) := by
  unfold sp_value
  by_cases q : In v (-1000) 1000
  · rw [cif_t q]; unfold sp_adds; rw [cif_f (fun z => nk z.1)]
  · rw [cif_f q]
theorem sw2 (w : Int32) : w = 0 ∨ w = 1 ∨ (¬ w = 0 ∧ ¬ w = 1) := by
  by_cases h : w = 0
  · exact Or.inl h
  · by_cases h1 : w = 1
    · exact Or.inr (Or.inl h1)
    · exact Or.inr (Or.inr ⟨h, h1⟩)
section ANX
variable {M : MI} {d : Nat} {Q : QT} {pc : Nat} {L : List (Option Value)} {st : List Value} {h : List AC}
theorem an_astore_m0 {i : Nat} (hd : decode M.2.1 pc = .ok (.astore i, 2)) (hn : i < M.2.2.1) (kk : AN M d Q (pc + 2) (L.set i (some .null)) st h) : AN M d Q pc L (.null :: st) h := aw_astore (r := none) hd hn kk
theorem an_aload_m0 {i : Nat} (hd : decode M.2.1 pc = .ok (.aload i, 2)) (hl : L[i]? = some (some .null)) (kk : AN M d Q (pc + 2) L (.null :: st) h) : AN M d Q pc L st h :=
  fun p l e s m args below meth c b D κ N0 H locs ls C X => lv_aloadN C.1 C.2.1 hd (X.2.2.2.2.at hl) (kk p l e s m args below meth c b D κ N0 H locs ls C X)
theorem an_lookup {dflt : Int} {ps : Array (Int × Int)} {len : Nat} {x : Int32} {off : Int} {tgt : Nat} (hd : decode M.2.1 pc = .ok (.lookupswitch dflt ps, len)) (hp : (ps.toList.zip (ps.toList.drop 1)).all (fun (a, next) => a.1 < next.1) = true) (ho : Op.lookupswitch.offset ps.toList dflt x.toInt = off) (ht : (pc : Int) + off = (tgt : Int)) (kk : AN M d Q tgt L st h) : AN M d Q pc L (.int x :: st) h :=
  fun p l e s m args below meth c b D κ N0 H locs ls C X => lv_lookup C.1 C.2.1 hd hp ho ht (kk p l e s m args below meth c b D κ N0 H locs ls C X)
theorem an_tabO {dflt lo hi : Int} {offs : Array Int} {len : Nat} {x : Int32} {tgt : Nat} (hd : decode M.2.1 pc = .ok (.tableswitch dflt lo hi offs, len)) (hx : x.toInt < lo ∨ hi < x.toInt) (ht : (pc : Int) + dflt = (tgt : Int)) (kk : AN M d Q tgt L st h) : AN M d Q pc L (.int x :: st) h :=
  fun p l e s m args below meth c b D κ N0 H locs ls C X => lv_tableOut C.1 C.2.1 hd hx ht (kk p l e s m args below meth c b D κ N0 H locs ls C X)
theorem an_tabI {dflt lo hi : Int} {offs : Array Int} {len : Nat} {x : Int32} {off : Int} {tgt : Nat} (hd : decode M.2.1 pc = .ok (.tableswitch dflt lo hi offs, len)) (h1 : ¬ x.toInt < lo) (h2 : ¬ hi < x.toInt) (ho : offs[(x.toInt - lo).toNat]? = some off) (ht : (pc : Int) + off = (tgt : Int)) (kk : AN M d Q tgt L st h) : AN M d Q pc L (.int x :: st) h :=
  fun p l e s m args below meth c b D κ N0 H locs ls C X => lv_tableIn C.1 C.2.1 hd h1 h2 ho ht (kk p l e s m args below meth c b D κ N0 H locs ls C X)
end ANX
end
section
set_option maxHeartbeats 4000000 in
set_option maxRecDepth 100000 in
theorem c_E_within (h : List AC) (v a b : Int32) : AM kE_within 1 [.int v, .int a, .int b] (h) (BQ (In v a b) h) := by
  refine AMet.of (by decide) (by simp [Value.category]) (Nat.le_of_ble_eq_true rfl) ?_
  refine aw_iload_n dE_within_0 rfl ?_
  refine aw_iload_n dE_within_1 rfl ?_
  refine aw_icmp_lt (tgt := 14) dE_within_2 (by decide) (fun c2 => ?_) (fun c2 => ?_)
  · refine aw_iconst (v := 0) dE_within_14 (by decide) ?_
    exact aw_zret rfl (Or.inl rfl) dE_within_15 ⟨rfl, Or.inr ⟨(by simp only [In, Int32.lt_iff_toInt_lt, Int32.le_iff_toInt_le, ← Int32.toInt_inj, z_0, z_1, z_2, z_3, z_4, z_5, z_20, z_39, z_40, z_60, z_100, z_200, z_1000, z_2000, z_10000, z_m1, z_m2, z_m1000, z_m5000, z_far] at c2 ⊢; omega), rfl⟩⟩
  · refine aw_iload_n dE_within_5 rfl ?_
    refine aw_iload_n dE_within_6 rfl ?_
    refine aw_icmp_gt (tgt := 14) dE_within_7 (by decide) (fun c7 => ?_) (fun c7 => ?_)
    · refine aw_iconst (v := 0) dE_within_14 (by decide) ?_
      exact aw_zret rfl (Or.inl rfl) dE_within_15 ⟨rfl, Or.inr ⟨(by simp only [In, Int32.lt_iff_toInt_lt, Int32.le_iff_toInt_le, ← Int32.toInt_inj, z_0, z_1, z_2, z_3, z_4, z_5, z_20, z_39, z_40, z_60, z_100, z_200, z_1000, z_2000, z_10000, z_m1, z_m2, z_m1000, z_m5000, z_far] at c2 c7 ⊢; omega), rfl⟩⟩
    · refine aw_iconst (v := 1) dE_within_10 (by decide) ?_
      refine aw_goto (tgt := 15) dE_within_11 (by decide) ?_
      exact aw_zret rfl (Or.inr rfl) dE_within_15 ⟨rfl, Or.inl ⟨(by simp only [In, Int32.lt_iff_toInt_lt, Int32.le_iff_toInt_le, ← Int32.toInt_inj, z_0, z_1, z_2, z_3, z_4, z_5, z_20, z_39, z_40, z_60, z_100, z_200, z_1000, z_2000, z_10000, z_m1, z_m2, z_m1000, z_m5000, z_far] at c2 c7 ⊢; omega), rfl⟩⟩

set_option maxHeartbeats 4000000 in
set_option maxRecDepth 100000 in
theorem c_E_isValue (h : List AC) (v : Int32) : AM kE_isValue 2 [.int v] (h) (BQ (In v (-1000) 1000) h) := by
  refine AMet.of (by decide) (by simp [Value.category]) (Nat.le_of_ble_eq_true rfl) ?_
  refine aw_iload_n dE_isValue_0 rfl ?_
  refine aw_sipush (v := (-1000)) dE_isValue_1 (by decide) ?_
  refine aw_sipush (v := 1000) dE_isValue_4 (by decide) ?_
  refine an_callSb cg_E_82 (c_E_within _ _ _ _) dE_isValue_7 rfl rfl (Nat.le_of_ble_eq_true rfl) (Nat.le_of_ble_eq_true rfl) (fun p7 => ?_) (fun p7 => ?_)
  · exact aw_zret rfl (Or.inr rfl) dE_isValue_10 ⟨rfl, Or.inl ⟨p7, rfl⟩⟩
  · exact aw_zret rfl (Or.inl rfl) dE_isValue_10 ⟨rfl, Or.inr ⟨p7, rfl⟩⟩

def RowQ (I : Nat → Int32) (A : Nat → Nat → Int32) (r : Int32) : QT := fun v h' => h' = hC I A ∧ ((∃ k : Nat, k < 4 ∧ r = nI k ∧ v = some (.ref (2 + 2 * k))) ∨ (¬ IsRow r ∧ v = some .null))
set_option maxHeartbeats 4000000 in
set_option maxRecDepth 100000 in
theorem c_E_rowOf (I : Nat → Int32) (A : Nat → Nat → Int32) (r : Int32) : AM kE_rowOf 2 [.ref 0, .int r] (hC I A) (RowQ I A r) := by
  refine AMet.of (by decide) (by simp [Value.category]) (Nat.le_of_ble_eq_true rfl) ?_
  refine aw_iload_n dE_rowOf_0 rfl ?_
  refine aw_iconst (v := 0) dE_rowOf_1 (by decide) ?_
  refine aw_iconst (v := 3) dE_rowOf_2 (by decide) ?_
  refine an_callSb cg_E_82 (c_E_within _ _ _ _) dE_rowOf_3 rfl rfl (Nat.le_of_ble_eq_true rfl) (Nat.le_of_ble_eq_true rfl) (fun p3 => ?_) (fun p3 => ?_)
  · refine aw_if_eq (tgt := 18) dE_rowOf_6 (by decide) (fun q => absurd q (by decide)) (fun _ => ?_)
    obtain ⟨k, hk, rfl⟩ := isRow_k (isRow_of p3)
    refine aw_aload_r dE_rowOf_9 rfl ?_
    refine aw_get fg_E_11 dE_rowOf_10 rfl rfl ?_
    refine aw_iload_n dE_rowOf_13 rfl ?_
    refine an_rows dE_rowOf_14 rfl hk ?_
    refine aw_goto (tgt := 19) dE_rowOf_15 (by decide) ?_
    exact an_aret_r rfl dE_rowOf_19 ⟨rfl, Or.inl ⟨k, hk, rfl, rfl⟩⟩
  · refine aw_if_eq (tgt := 18) dE_rowOf_6 (by decide) (fun _ => ?_) (fun q => absurd q (by decide))
    refine aw_null dE_rowOf_18 ?_
    exact an_aret_0 rfl dE_rowOf_19 ⟨rfl, Or.inr ⟨fun q => p3 (isRow_to q), rfl⟩⟩

set_option maxHeartbeats 4000000 in
set_option maxRecDepth 100000 in
theorem c_E_areTwoRows (h : List AC) (a b : Int32) : AM kE_areTwoRows 2 [.int a, .int b] (h) (BQ (¬ a = b ∧ IsRow a ∧ IsRow b) h) := by
  refine AMet.of (by decide) (by simp [Value.category]) (Nat.le_of_ble_eq_true rfl) ?_
  refine aw_iload_n dE_areTwoRows_0 rfl ?_
  refine aw_iload_n dE_areTwoRows_1 rfl ?_
  refine aw_icmp_eq (tgt := 27) dE_areTwoRows_2 (by decide) (fun c2 => ?_) (fun c2 => ?_)
  · refine aw_iconst (v := 0) dE_areTwoRows_27 (by decide) ?_
    exact aw_zret rfl (Or.inl rfl) dE_areTwoRows_28 ⟨rfl, Or.inr ⟨fun q => q.1 c2, rfl⟩⟩
  · refine aw_iload_n dE_areTwoRows_5 rfl ?_
    refine aw_iconst (v := 0) dE_areTwoRows_6 (by decide) ?_
    refine aw_iconst (v := 3) dE_areTwoRows_7 (by decide) ?_
    refine an_callSb cg_E_82 (c_E_within _ _ _ _) dE_areTwoRows_8 rfl rfl (Nat.le_of_ble_eq_true rfl) (Nat.le_of_ble_eq_true rfl) (fun p8 => ?_) (fun p8 => ?_)
    · refine aw_if_eq (tgt := 27) dE_areTwoRows_11 (by decide) (fun q => absurd q (by decide)) (fun _ => ?_)
      refine aw_iload_n dE_areTwoRows_14 rfl ?_
      refine aw_iconst (v := 0) dE_areTwoRows_15 (by decide) ?_
      refine aw_iconst (v := 3) dE_areTwoRows_16 (by decide) ?_
      refine an_callSb cg_E_82 (c_E_within _ _ _ _) dE_areTwoRows_17 rfl rfl (Nat.le_of_ble_eq_true rfl) (Nat.le_of_ble_eq_true rfl) (fun p17 => ?_) (fun p17 => ?_)
      · refine aw_if_eq (tgt := 27) dE_areTwoRows_20 (by decide) (fun q => absurd q (by decide)) (fun _ => ?_)
        refine aw_iconst (v := 1) dE_areTwoRows_23 (by decide) ?_
        refine aw_goto (tgt := 28) dE_areTwoRows_24 (by decide) ?_
        exact aw_zret rfl (Or.inr rfl) dE_areTwoRows_28 ⟨rfl, Or.inl ⟨⟨c2, isRow_of p8, isRow_of p17⟩, rfl⟩⟩
      · refine aw_if_eq (tgt := 27) dE_areTwoRows_20 (by decide) (fun _ => ?_) (fun q => absurd q (by decide))
        refine aw_iconst (v := 0) dE_areTwoRows_27 (by decide) ?_
        exact aw_zret rfl (Or.inl rfl) dE_areTwoRows_28 ⟨rfl, Or.inr ⟨fun q => p17 (isRow_to q.2.2), rfl⟩⟩
    · refine aw_if_eq (tgt := 27) dE_areTwoRows_11 (by decide) (fun _ => ?_) (fun q => absurd q (by decide))
      refine aw_iconst (v := 0) dE_areTwoRows_27 (by decide) ?_
      exact aw_zret rfl (Or.inl rfl) dE_areTwoRows_28 ⟨rfl, Or.inr ⟨fun q => p8 (isRow_to q.2.1), rfl⟩⟩

set_option maxHeartbeats 4000000 in
set_option maxRecDepth 100000 in
theorem c_R_hasStep (N : Nat → Nat) (V : Nat → Nat → Int32) (K : Nat → Int32) (I : Nat → Int32) (A : Nat → Nat → Int32) (hI : CInv N V K I A) {k : Nat} (hk : k < 4) (s : Int32) : AM kR_hasStep 1 [.ref (2 + 2 * k), .int s] (hC I A) (BQ (IsStp N (nI k) s) (hC I A)) := by
  refine AMet.of (by decide) (by simp [Value.category]) (Nat.le_of_ble_eq_true rfl) ?_
  refine aw_iload_n dR_hasStep_0 rfl ?_
  refine aw_if_lt (tgt := 16) dR_hasStep_1 (by decide) (fun c1 => ?_) (fun c1 => ?_)
  · refine aw_iconst (v := 0) dR_hasStep_16 (by decide) ?_
    exact aw_zret rfl (Or.inl rfl) dR_hasStep_17 ⟨rfl, Or.inr ⟨stp_f2 hI.n c1, rfl⟩⟩
  · refine aw_iload_n dR_hasStep_4 rfl ?_
    refine aw_aload_r dR_hasStep_5 rfl ?_
    refine an_getR hk fg_R_15 dR_hasStep_6 rfl ?_
    rw [(hI.1 k hk).2.1]
    refine aw_icmp_ge (tgt := 16) dR_hasStep_9 (by decide) (fun c9 => ?_) (fun c9 => ?_)
    · refine aw_iconst (v := 0) dR_hasStep_16 (by decide) ?_
      exact aw_zret rfl (Or.inl rfl) dR_hasStep_17 ⟨rfl, Or.inr ⟨stp_f3 hI.n hk c9, rfl⟩⟩
    · refine aw_iconst (v := 1) dR_hasStep_12 (by decide) ?_
      refine aw_goto (tgt := 17) dR_hasStep_13 (by decide) ?_
      exact aw_zret rfl (Or.inr rfl) dR_hasStep_17 ⟨rfl, Or.inl ⟨stp_t hk (hI.n _ hk) c1 c9, rfl⟩⟩

set_option maxHeartbeats 4000000 in
set_option maxRecDepth 100000 in
theorem c_R_hasValue (N : Nat → Nat) (V : Nat → Nat → Int32) (K : Nat → Int32) (I : Nat → Int32) (A : Nat → Nat → Int32) (hI : CInv N V K I A) {k : Nat} (hk : k < 4) (s : Int32) : AM kR_hasValue 1 [.ref (2 + 2 * k), .int s] (hC I A) (BQ (HV N V (nI k) s) (hC I A)) := by
  refine AMet.of (by decide) (by simp [Value.category]) (Nat.le_of_ble_eq_true rfl) ?_
  refine aw_iload_n dR_hasValue_0 rfl ?_
  refine aw_if_lt (tgt := 28) dR_hasValue_1 (by decide) (fun c1 => ?_) (fun c1 => ?_)
  · refine aw_iconst (v := 0) dR_hasValue_28 (by decide) ?_
    exact aw_zret rfl (Or.inl rfl) dR_hasValue_29 ⟨rfl, Or.inr ⟨hv_f (stp_f2 hI.n c1), rfl⟩⟩
  · refine aw_iload_n dR_hasValue_4 rfl ?_
    refine aw_aload_r dR_hasValue_5 rfl ?_
    refine an_getR hk fg_R_15 dR_hasValue_6 rfl ?_
    rw [(hI.1 k hk).2.1]
    refine aw_icmp_ge (tgt := 28) dR_hasValue_9 (by decide) (fun c9 => ?_) (fun c9 => ?_)
    · refine aw_iconst (v := 0) dR_hasValue_28 (by decide) ?_
      exact aw_zret rfl (Or.inl rfl) dR_hasValue_29 ⟨rfl, Or.inr ⟨hv_f (stp_f3 hI.n hk c9), rfl⟩⟩
    · have hN := hI.n k hk
      obtain ⟨i, hi, rfl⟩ := lt_of_nge (by omega) c1 c9
      refine aw_aload_r dR_hasValue_12 rfl ?_
      refine an_getR hk fg_R_9 dR_hasValue_13 rfl ?_
      refine aw_iload_n dR_hasValue_16 rfl ?_
      refine an_ldC dR_hasValue_17 (ac_val hk) rfl (by omega) (by decide) ?_
      rw [(hI.1 k hk).2.2.2.2 i (by omega)]
      refine aw_sipush (v := (-5000)) dR_hasValue_18 (by decide) ?_
      refine aw_icmp_eq (tgt := 28) dR_hasValue_21 (by decide) (fun c21 => ?_) (fun c21 => ?_)
      · refine aw_iconst (v := 0) dR_hasValue_28 (by decide) ?_
        exact aw_zret rfl (Or.inl rfl) dR_hasValue_29 ⟨rfl, Or.inr ⟨hv_f2 hI.n hk hi c21, rfl⟩⟩
      · refine aw_iconst (v := 1) dR_hasValue_24 (by decide) ?_
        refine aw_goto (tgt := 29) dR_hasValue_25 (by decide) ?_
        exact aw_zret rfl (Or.inr rfl) dR_hasValue_29 ⟨rfl, Or.inl ⟨⟨k, i, hk, hi, rfl, rfl, c21⟩, rfl⟩⟩

set_option maxHeartbeats 4000000 in
set_option maxRecDepth 100000 in
theorem c_R_hasWay (N : Nat → Nat) (V : Nat → Nat → Int32) (K : Nat → Int32) (I : Nat → Int32) (A : Nat → Nat → Int32) (hI : CInv N V K I A) {k : Nat} (hk : k < 4) (i : Nat) : AM kR_hasWay 2 [.ref (2 + 2 * k), .int (nI i)] (hC I A) (BQ (HV N V (nI k) (nI i) ∧ HV N V (nI k) (nI (i + 1))) (hC I A)) := by
  refine AMet.of (by decide) (by simp [Value.category]) (Nat.le_of_ble_eq_true rfl) ?_
  refine aw_aload_r dR_hasWay_0 rfl ?_
  refine aw_iload_n dR_hasWay_1 rfl ?_
  refine an_callVb cg_R_25 (c_R_hasValue _ _ _ _ _ hI hk _) dR_hasWay_2 rfl (hC_row _ _ hk) rfl rfl rfl (Nat.le_of_ble_eq_true rfl) (Nat.le_of_ble_eq_true rfl) (fun p2 => ?_) (fun p2 => ?_)
  · refine aw_if_eq (tgt := 22) dR_hasWay_5 (by decide) (fun q => absurd q (by decide)) (fun _ => ?_)
    refine aw_aload_r dR_hasWay_8 rfl ?_
    refine aw_iload_n dR_hasWay_9 rfl ?_
    refine aw_iconst (v := 1) dR_hasWay_10 (by decide) ?_
    refine aw_iadd dR_hasWay_11 ?_
    refine an_top (nI_1 i) ?_
    refine an_callVb cg_R_25 (c_R_hasValue _ _ _ _ _ hI hk _) dR_hasWay_12 rfl (hC_row _ _ hk) rfl rfl rfl (Nat.le_of_ble_eq_true rfl) (Nat.le_of_ble_eq_true rfl) (fun p12 => ?_) (fun p12 => ?_)
    · refine aw_if_eq (tgt := 22) dR_hasWay_15 (by decide) (fun q => absurd q (by decide)) (fun _ => ?_)
      refine aw_iconst (v := 1) dR_hasWay_18 (by decide) ?_
      refine aw_goto (tgt := 23) dR_hasWay_19 (by decide) ?_
      exact aw_zret rfl (Or.inr rfl) dR_hasWay_23 ⟨rfl, Or.inl ⟨⟨p2, p12⟩, rfl⟩⟩
    · refine aw_if_eq (tgt := 22) dR_hasWay_15 (by decide) (fun _ => ?_) (fun q => absurd q (by decide))
      refine aw_iconst (v := 0) dR_hasWay_22 (by decide) ?_
      exact aw_zret rfl (Or.inl rfl) dR_hasWay_23 ⟨rfl, Or.inr ⟨fun q => p12 q.2, rfl⟩⟩
  · refine aw_if_eq (tgt := 22) dR_hasWay_5 (by decide) (fun _ => ?_) (fun q => absurd q (by decide))
    refine aw_iconst (v := 0) dR_hasWay_22 (by decide) ?_
    exact aw_zret rfl (Or.inl rfl) dR_hasWay_23 ⟨rfl, Or.inr ⟨fun q => p2 q.1, rfl⟩⟩

set_option maxHeartbeats 4000000 in
set_option maxRecDepth 100000 in
theorem c_R_append (N : Nat → Nat) (V : Nat → Nat → Int32) (K : Nat → Int32) (I : Nat → Int32) (A : Nat → Nat → Int32) (hI : CInv N V K I A) {k : Nat} (hk : k < 4) (v : Int32) : AM kR_append 1 [.ref (2 + 2 * k), .int v] (hC I A) (CR (sp_adds N V K (nI k) v)) := by
  refine AMet.of (by decide) (by simp [Value.category]) (Nat.le_of_ble_eq_true rfl) ?_
  have hN := hI.n k hk
  refine aw_aload_r dR_append_0 rfl ?_
  refine an_getR hk fg_R_15 dR_append_1 rfl ?_
  rw [(hI.1 k hk).2.1]
  refine aw_bipush (v := 40) dR_append_4 (by decide) ?_
  refine aw_icmp_lt (tgt := 11) dR_append_6 (by decide) (fun c6 => ?_) (fun c6 => ?_)
  · have hl : N k < 40 := (nI_ltI (by omega) (by decide)).mp c6
    refine aw_aload_r dR_append_11 rfl ?_
    refine an_getR hk fg_R_9 dR_append_12 rfl ?_
    refine aw_aload_r dR_append_15 rfl ?_
    refine an_getR hk fg_R_15 dR_append_16 rfl ?_
    rw [(hI.1 k hk).2.1]
    refine aw_iload_n dR_append_19 rfl ?_
    refine an_stC dR_append_20 (ac_val hk) rfl hl (by decide) ?_
    refine aw_aload_r dR_append_21 rfl ?_
    refine aw_dup dR_append_22 rfl ?_
    refine an_getR hk fg_R_15 dR_append_23 rfl ?_
    rw [(hI.1 k hk).2.1]
    refine aw_iconst (v := 1) dR_append_26 (by decide) ?_
    refine aw_iadd dR_append_27 ?_
    refine an_top (nI_1 _) ?_
    refine an_putR (j := 0) hk fp_R_15 dR_append_28 (by decide) ?_
    refine aw_aload_r dR_append_31 rfl ?_
    refine an_getR hk fg_R_15 dR_append_32 rfl ?_
    exact aw_iret rfl dR_append_35 (by unfold sp_adds; rw [rn_n (by omega), cif_t ⟨isRow_n hk, hl⟩]; exact ⟨congrArg (fun z => some (Value.int z)) pk_us, _, _, rfl, cinv_n (cinv_v hI hk hl v) hk (by omega)⟩)
  · have hl : ¬ N k < 40 := fun q => c6 (nI_lt q (by decide))
    refine aw_iconst (v := (-1)) dR_append_9 (by decide) ?_
    exact aw_iret rfl dR_append_10 (by unfold sp_adds; rw [rn_n (by omega), cif_f (fun q => hl q.2)]; exact ⟨rfl, I, A, rfl, hI⟩)

set_option maxHeartbeats 4000000 in
set_option maxRecDepth 100000 in
theorem c_E_value (N : Nat → Nat) (V : Nat → Nat → Int32) (K : Nat → Int32) (I : Nat → Int32) (A : Nat → Nat → Int32) (hI : CInv N V K I A) (r v : Int32) : AM kE_value 3 [.ref 0, .int r, .int v] (hC I A) (CR (sp_value N V K r v)) := by
  refine AMet.of (by decide) (by simp [Value.category]) (Nat.le_of_ble_eq_true rfl) ?_
  refine aw_aload_r dE_value_0 rfl ?_
  refine aw_iload_n dE_value_1 rfl ?_
  refine an_callVx cg_E_60 (c_E_rowOf _ _ _) dE_value_2 rfl rfl rfl rfl rfl (Nat.le_of_ble_eq_true rfl) (Nat.le_of_ble_eq_true rfl) ?_
  rintro _ _ ⟨rfl, ⟨k, hk, ek, rfl⟩ | ⟨nk, rfl⟩⟩
  · refine an_astore_r dE_value_5 (by decide) ?_
    refine aw_aload_r dE_value_6 rfl ?_
    refine an_ifnull_r (tgt := 17) dE_value_7 (by decide) ?_
    refine aw_iload_n dE_value_10 rfl ?_
    refine an_callSb cg_E_64 (c_E_isValue _ _) dE_value_11 rfl rfl (Nat.le_of_ble_eq_true rfl) (Nat.le_of_ble_eq_true rfl) (fun p11 => ?_) (fun p11 => ?_)
    · refine aw_if_ne (tgt := 21) dE_value_14 (by decide) (fun _ => ?_) (fun q => absurd q (by decide))
      subst ek
      refine aw_aload_r dE_value_21 rfl ?_
      refine aw_iload_n dE_value_22 rfl ?_
      refine an_callVx cg_E_68 (c_R_append _ _ _ _ _ hI hk _) dE_value_23 rfl (hC_row _ _ hk) rfl rfl rfl (Nat.le_of_ble_eq_true rfl) (Nat.le_of_ble_eq_true rfl) ?_
      rintro _ _ ⟨rfl, I1, A1, rfl, hI1⟩
      exact aw_iret rfl dE_value_26 (by unfold sp_value; rw [cif_t p11]; exact ⟨rfl, I1, A1, rfl, hI1⟩)
    · refine aw_if_ne (tgt := 21) dE_value_14 (by decide) (fun q => absurd q (by decide)) (fun _ => ?_)
      refine aw_iconst (v := (-1)) dE_value_17 (by decide) ?_
      refine aw_goto (tgt := 26) dE_value_18 (by decide) ?_
      exact aw_iret rfl dE_value_26 (by unfold sp_value; rw [cif_f p11]; exact ⟨rfl, I, A, rfl, hI⟩)
  · refine an_astore_0 dE_value_5 (by decide) ?_
    refine an_aload_0 dE_value_6 rfl ?_
    refine an_ifnull_0 (tgt := 17) dE_value_7 (by decide) ?_
    refine aw_iconst (v := (-1)) dE_value_17 (by decide) ?_
    refine aw_goto (tgt := 26) dE_value_18 (by decide) ?_
    exact aw_iret rfl dE_value_26 (by rw [sp_value_nr nk]; exact ⟨rfl, I, A, rfl, hI⟩)

set_option maxHeartbeats 4000000 in
set_option maxRecDepth 100000 in
theorem c_E_gap (N : Nat → Nat) (V : Nat → Nat → Int32) (K : Nat → Int32) (I : Nat → Int32) (A : Nat → Nat → Int32) (hI : CInv N V K I A) (r : Int32) : AM kE_gap 3 [.ref 0, .int r] (hC I A) (CR (sp_gap N V K r)) := by
  refine AMet.of (by decide) (by simp [Value.category]) (Nat.le_of_ble_eq_true rfl) ?_
  refine aw_aload_r dE_gap_0 rfl ?_
  refine aw_iload_n dE_gap_1 rfl ?_
  refine an_callVx cg_E_60 (c_E_rowOf _ _ _) dE_gap_2 rfl rfl rfl rfl rfl (Nat.le_of_ble_eq_true rfl) (Nat.le_of_ble_eq_true rfl) ?_
  rintro _ _ ⟨rfl, ⟨k, hk, ek, rfl⟩ | ⟨nk, rfl⟩⟩
  · refine an_astore_r dE_gap_5 (by decide) ?_
    refine aw_aload_r dE_gap_6 rfl ?_
    refine an_ifnonnull_r (tgt := 14) dE_gap_7 (by decide) ?_
    subst ek
    refine aw_aload_r dE_gap_14 rfl ?_
    refine aw_sipush (v := (-5000)) dE_gap_15 (by decide) ?_
    refine an_callVx cg_E_68 (c_R_append _ _ _ _ _ hI hk _) dE_gap_18 rfl (hC_row _ _ hk) rfl rfl rfl (Nat.le_of_ble_eq_true rfl) (Nat.le_of_ble_eq_true rfl) ?_
    rintro _ _ ⟨rfl, I1, A1, rfl, hI1⟩
    exact aw_iret rfl dE_gap_21 ⟨rfl, I1, A1, rfl, hI1⟩
  · refine an_astore_0 dE_gap_5 (by decide) ?_
    refine an_aload_0 dE_gap_6 rfl ?_
    refine an_ifnonnull_0 (tgt := 14) dE_gap_7 (by decide) ?_
    refine aw_iconst (v := (-1)) dE_gap_10 (by decide) ?_
    refine aw_goto (tgt := 21) dE_gap_11 (by decide) ?_
    exact aw_iret rfl dE_gap_21 (by unfold sp_gap sp_adds; rw [cif_f (fun z => nk z.1)]; exact ⟨rfl, I, A, rfl, hI⟩)

theorem stp_row {N : Nat → Nat} {r s : Int32} (h : IsStp N r s) : IsRow r := by
  obtain ⟨k, i, hk, hi, rfl, rfl⟩ := h
  exact isRow_n hk
theorem hv_row {N : Nat → Nat} {V : Nat → Nat → Int32} {r s : Int32} (h : HV N V r s) : IsRow r := by
  obtain ⟨k, i, hk, hi, rfl, rfl, _⟩ := h
  exact isRow_n hk
theorem stp_i {N : Nat → Nat} {k : Nat} {s : Int32} (hN : ∀ k, k < 4 → N k ≤ 40) (hk : k < 4) (h : IsStp N (nI k) s) : ∃ i, i < N k ∧ s = nI i := by
  obtain ⟨k2, i, hk2, hi, e, rfl⟩ := h
  have := nI_inj (by omega) (by omega) e
  subst this
  exact ⟨i, hi, rfl⟩
theorem hv_i {N : Nat → Nat} {V : Nat → Nat → Int32} {k : Nat} {s : Int32} (hN : ∀ k, k < 4 → N k ≤ 40) (hk : k < 4) (h : HV N V (nI k) s) : ∃ i, i < N k ∧ s = nI i ∧ ¬ V k i = -5000 := by
  obtain ⟨k2, i, hk2, hi, e, rfl, hv⟩ := h
  have := nI_inj (by omega) (by omega) e
  subst this
  exact ⟨i, hi, rfl, hv⟩
set_option maxHeartbeats 4000000 in
set_option maxRecDepth 100000 in
theorem c_E_put (N : Nat → Nat) (V : Nat → Nat → Int32) (K : Nat → Int32) (I : Nat → Int32) (A : Nat → Nat → Int32) (hI : CInv N V K I A) (r s v : Int32) : AM kE_put 3 [.ref 0, .int r, .int s, .int v] (hC I A) (CR (sp_put N V K r s v)) := by
  refine AMet.of (by decide) (by simp [Value.category]) (Nat.le_of_ble_eq_true rfl) ?_
  refine aw_aload_r dE_put_0 rfl ?_
  refine aw_iload_n dE_put_1 rfl ?_
  refine an_callVx cg_E_60 (c_E_rowOf _ _ _) dE_put_2 rfl rfl rfl rfl rfl (Nat.le_of_ble_eq_true rfl) (Nat.le_of_ble_eq_true rfl) ?_
  rintro _ _ ⟨rfl, ⟨k, hk, ek, rfl⟩ | ⟨nk, rfl⟩⟩
  · refine an_astore_m dE_put_5 (by decide) ?_
    refine aw_aload dE_put_7 rfl ?_
    refine an_ifnull_r (tgt := 28) dE_put_9 (by decide) ?_
    subst ek
    refine aw_aload dE_put_12 rfl ?_
    refine aw_iload_n dE_put_14 rfl ?_
    refine an_callVb cg_E_72 (c_R_hasStep _ _ _ _ _ hI hk _) dE_put_15 rfl (hC_row _ _ hk) rfl rfl rfl (Nat.le_of_ble_eq_true rfl) (Nat.le_of_ble_eq_true rfl) (fun p15 => ?_) (fun p15 => ?_)
    · refine aw_if_eq (tgt := 28) dE_put_18 (by decide) (fun q => absurd q (by decide)) (fun _ => ?_)
      refine aw_iload_n dE_put_21 rfl ?_
      refine an_callSb cg_E_64 (c_E_isValue _ _) dE_put_22 rfl rfl (Nat.le_of_ble_eq_true rfl) (Nat.le_of_ble_eq_true rfl) (fun p22 => ?_) (fun p22 => ?_)
      · refine aw_if_ne (tgt := 30) dE_put_25 (by decide) (fun _ => ?_) (fun q => absurd q (by decide))
        have hN := hI.n k hk
        obtain ⟨i, hi, rfl⟩ := stp_i hI.n hk p15
        refine aw_aload dE_put_30 rfl ?_
        refine an_getR hk fg_E_75 dE_put_32 rfl ?_
        refine aw_iload_n dE_put_35 rfl ?_
        refine aw_iload_n dE_put_36 rfl ?_
        refine an_stC dE_put_37 (ac_val hk) rfl (by omega) (by decide) ?_
        refine aw_iconst (v := 1) dE_put_38 (by decide) ?_
        exact aw_zret rfl (Or.inr rfl) dE_put_39 (by unfold sp_put; rw [cif_t ⟨p15, p22⟩, rn_n (by omega), rn_n (by omega)]; exact ⟨rfl, _, _, rfl, cinv_v hI hk (by omega) v⟩)
      · refine aw_if_ne (tgt := 30) dE_put_25 (by decide) (fun q => absurd q (by decide)) (fun _ => ?_)
        refine aw_iconst (v := 0) dE_put_28 (by decide) ?_
        exact aw_zret rfl (Or.inl rfl) dE_put_29 (by unfold sp_put; rw [cif_f (fun q => p22 q.2)]; exact ⟨rfl, I, A, rfl, hI⟩)
    · refine aw_if_eq (tgt := 28) dE_put_18 (by decide) (fun _ => ?_) (fun q => absurd q (by decide))
      refine aw_iconst (v := 0) dE_put_28 (by decide) ?_
      exact aw_zret rfl (Or.inl rfl) dE_put_29 (by unfold sp_put; rw [cif_f (fun q => p15 q.1)]; exact ⟨rfl, I, A, rfl, hI⟩)
  · refine an_astore_m0 dE_put_5 (by decide) ?_
    refine an_aload_m0 dE_put_7 rfl ?_
    refine an_ifnull_0 (tgt := 28) dE_put_9 (by decide) ?_
    refine aw_iconst (v := 0) dE_put_28 (by decide) ?_
    exact aw_zret rfl (Or.inl rfl) dE_put_29 (by unfold sp_put; rw [cif_f (fun q => nk (stp_row q.1))]; exact ⟨rfl, I, A, rfl, hI⟩)

set_option maxHeartbeats 4000000 in
set_option maxRecDepth 100000 in
theorem c_E_clear (N : Nat → Nat) (V : Nat → Nat → Int32) (K : Nat → Int32) (I : Nat → Int32) (A : Nat → Nat → Int32) (hI : CInv N V K I A) (r : Int32) : AM kE_clear 3 [.ref 0, .int r] (hC I A) (CR (sp_clear N V K r)) := by
  refine AMet.of (by decide) (by simp [Value.category]) (Nat.le_of_ble_eq_true rfl) ?_
  refine aw_aload_r dE_clear_0 rfl ?_
  refine aw_iload_n dE_clear_1 rfl ?_
  refine an_callVx cg_E_60 (c_E_rowOf _ _ _) dE_clear_2 rfl rfl rfl rfl rfl (Nat.le_of_ble_eq_true rfl) (Nat.le_of_ble_eq_true rfl) ?_
  rintro _ _ ⟨rfl, ⟨k, hk, ek, rfl⟩ | ⟨nk, rfl⟩⟩
  · refine an_astore_r dE_clear_5 (by decide) ?_
    refine aw_aload_r dE_clear_6 rfl ?_
    refine an_ifnonnull_r (tgt := 12) dE_clear_7 (by decide) ?_
    subst ek
    refine aw_aload_r dE_clear_12 rfl ?_
    refine an_getR hk fg_E_79 dE_clear_13 rfl ?_
    rw [(hI.1 k hk).2.1]
    refine aw_istore_n dE_clear_16 (by decide) ?_
    refine aw_aload_r dE_clear_17 rfl ?_
    refine aw_iconst (v := 0) dE_clear_18 (by decide) ?_
    refine an_putR (j := 0) hk fp_E_79 dE_clear_19 (by decide) ?_
    refine aw_aload_r dE_clear_22 rfl ?_
    refine aw_get fg_E_54 dE_clear_23 rfl rfl ?_
    show AN _ _ _ _ _ (.int (upd I (201 + 200 * k + 0) 0 9) :: _) _
    rw [pk_un (by omega), hI.2.2.2.2.2.1]
    refine aw_iload_n dE_clear_26 rfl ?_
    refine aw_icmp_ne (tgt := 35) dE_clear_27 (by decide) (fun c27 => ?_) (fun c27 => ?_)
    · refine aw_iload_n dE_clear_35 rfl ?_
      exact aw_iret rfl dE_clear_36 (by unfold sp_clear; rw [cif_t (isRow_n hk), rn_n (by omega), if_neg c27]; exact ⟨rfl, _, _, rfl, cinv_n hI hk (by omega)⟩)
    · refine aw_aload_r dE_clear_30 rfl ?_
      refine aw_iconst (v := (-1)) dE_clear_31 (by decide) ?_
      refine an_putE fp_E_54 dE_clear_32 (by decide) ?_
      refine aw_iload_n dE_clear_35 rfl ?_
      exact aw_iret rfl dE_clear_36 (by unfold sp_clear; rw [cif_t (isRow_n hk), rn_n (by omega), if_pos c27]; exact ⟨rfl, _, _, rfl, cinv_12 (cinv_n hI hk (by omega)) (-1)⟩)
  · refine an_astore_0 dE_clear_5 (by decide) ?_
    refine an_aload_0 dE_clear_6 rfl ?_
    refine an_ifnonnull_0 (tgt := 12) dE_clear_7 (by decide) ?_
    refine aw_iconst (v := (-1)) dE_clear_10 (by decide) ?_
    exact aw_iret rfl dE_clear_11 (by unfold sp_clear; rw [cif_f nk]; exact ⟨rfl, I, A, rfl, hI⟩)

set_option maxHeartbeats 4000000 in
set_option maxRecDepth 100000 in
theorem c_E_miss (N : Nat → Nat) (V : Nat → Nat → Int32) (K : Nat → Int32) (I : Nat → Int32) (A : Nat → Nat → Int32) (hI : CInv N V K I A) (r v : Int32) : AM kE_miss 3 [.ref 0, .int r, .int v] (hC I A) (CR (sp_miss N V K r v)) := by
  refine AMet.of (by decide) (by simp [Value.category]) (Nat.le_of_ble_eq_true rfl) ?_
  refine aw_aload_r dE_miss_0 rfl ?_
  refine aw_iload_n dE_miss_1 rfl ?_
  refine an_callVx cg_E_60 (c_E_rowOf _ _ _) dE_miss_2 rfl rfl rfl rfl rfl (Nat.le_of_ble_eq_true rfl) (Nat.le_of_ble_eq_true rfl) ?_
  rintro _ _ ⟨rfl, ⟨k, hk, ek, rfl⟩ | ⟨nk, rfl⟩⟩
  · refine an_astore_r dE_miss_5 (by decide) ?_
    refine aw_aload_r dE_miss_6 rfl ?_
    refine an_ifnull_r (tgt := 21) dE_miss_7 (by decide) ?_
    subst ek
    refine aw_iload_n dE_miss_10 rfl ?_
    refine aw_iconst (v := 0) dE_miss_11 (by decide) ?_
    refine aw_sipush (v := 200) dE_miss_12 (by decide) ?_
    refine an_callSb cg_E_82 (c_E_within _ _ _ _) dE_miss_15 rfl rfl (Nat.le_of_ble_eq_true rfl) (Nat.le_of_ble_eq_true rfl) (fun p15 => ?_) (fun p15 => ?_)
    · refine aw_if_ne (tgt := 23) dE_miss_18 (by decide) (fun _ => ?_) (fun q => absurd q (by decide))
      refine aw_aload_r dE_miss_23 rfl ?_
      refine an_getR hk fg_E_86 dE_miss_24 rfl ?_
      rw [(hI.1 k hk).2.2.1]
      refine aw_istore dE_miss_27 (by decide) ?_
      refine aw_aload_r dE_miss_29 rfl ?_
      refine aw_iload_n dE_miss_30 rfl ?_
      refine an_putR (j := 1) hk fp_E_86 dE_miss_31 (by decide) ?_
      refine aw_iload dE_miss_34 rfl ?_
      exact aw_iret rfl dE_miss_36 (by unfold sp_miss; rw [cif_t ⟨isRow_n hk, p15⟩, rn_n (by omega)]; exact ⟨rfl, _, _, rfl, cinv_miss hI hk v⟩)
    · refine aw_if_ne (tgt := 23) dE_miss_18 (by decide) (fun q => absurd q (by decide)) (fun _ => ?_)
      refine aw_iconst (v := (-1)) dE_miss_21 (by decide) ?_
      exact aw_iret rfl dE_miss_22 (by unfold sp_miss; rw [cif_f (fun q => p15 q.2)]; exact ⟨rfl, I, A, rfl, hI⟩)
  · refine an_astore_0 dE_miss_5 (by decide) ?_
    refine an_aload_0 dE_miss_6 rfl ?_
    refine an_ifnull_0 (tgt := 21) dE_miss_7 (by decide) ?_
    refine aw_iconst (v := (-1)) dE_miss_21 (by decide) ?_
    exact aw_iret rfl dE_miss_22 (by unfold sp_miss; rw [cif_f (fun q => nk q.1)]; exact ⟨rfl, I, A, rfl, hI⟩)

set_option maxHeartbeats 4000000 in
set_option maxRecDepth 100000 in
theorem c_E_worth (N : Nat → Nat) (V : Nat → Nat → Int32) (K : Nat → Int32) (I : Nat → Int32) (A : Nat → Nat → Int32) (hI : CInv N V K I A) (r v : Int32) : AM kE_worth 3 [.ref 0, .int r, .int v] (hC I A) (CR (sp_worth N V K r v)) := by
  refine AMet.of (by decide) (by simp [Value.category]) (Nat.le_of_ble_eq_true rfl) ?_
  refine aw_aload_r dE_worth_0 rfl ?_
  refine aw_iload_n dE_worth_1 rfl ?_
  refine an_callVx cg_E_60 (c_E_rowOf _ _ _) dE_worth_2 rfl rfl rfl rfl rfl (Nat.le_of_ble_eq_true rfl) (Nat.le_of_ble_eq_true rfl) ?_
  rintro _ _ ⟨rfl, ⟨k, hk, ek, rfl⟩ | ⟨nk, rfl⟩⟩
  · refine an_astore_r dE_worth_5 (by decide) ?_
    refine aw_aload_r dE_worth_6 rfl ?_
    refine an_ifnull_r (tgt := 21) dE_worth_7 (by decide) ?_
    subst ek
    refine aw_iload_n dE_worth_10 rfl ?_
    refine aw_iconst (v := 0) dE_worth_11 (by decide) ?_
    refine aw_sipush (v := 1000) dE_worth_12 (by decide) ?_
    refine an_callSb cg_E_82 (c_E_within _ _ _ _) dE_worth_15 rfl rfl (Nat.le_of_ble_eq_true rfl) (Nat.le_of_ble_eq_true rfl) (fun p15 => ?_) (fun p15 => ?_)
    · refine aw_if_ne (tgt := 23) dE_worth_18 (by decide) (fun _ => ?_) (fun q => absurd q (by decide))
      refine aw_aload_r dE_worth_23 rfl ?_
      refine an_getR hk fg_E_145 dE_worth_24 rfl ?_
      rw [(hI.1 k hk).2.2.2.1]
      refine aw_istore dE_worth_27 (by decide) ?_
      refine aw_aload_r dE_worth_29 rfl ?_
      refine aw_iload_n dE_worth_30 rfl ?_
      refine an_putR (j := 2) hk fp_E_145 dE_worth_31 (by decide) ?_
      refine aw_iload dE_worth_34 rfl ?_
      exact aw_iret rfl dE_worth_36 (by unfold sp_worth; rw [cif_t ⟨isRow_n hk, p15⟩, rn_n (by omega)]; exact ⟨rfl, _, _, rfl, cinv_worth hI hk v⟩)
    · refine aw_if_ne (tgt := 23) dE_worth_18 (by decide) (fun q => absurd q (by decide)) (fun _ => ?_)
      refine aw_iconst (v := (-1)) dE_worth_21 (by decide) ?_
      exact aw_iret rfl dE_worth_22 (by unfold sp_worth; rw [cif_f (fun q => p15 q.2)]; exact ⟨rfl, I, A, rfl, hI⟩)
  · refine an_astore_0 dE_worth_5 (by decide) ?_
    refine an_aload_0 dE_worth_6 rfl ?_
    refine an_ifnull_0 (tgt := 21) dE_worth_7 (by decide) ?_
    refine aw_iconst (v := (-1)) dE_worth_21 (by decide) ?_
    exact aw_iret rfl dE_worth_22 (by unfold sp_worth; rw [cif_f (fun q => nk q.1)]; exact ⟨rfl, I, A, rfl, hI⟩)

set_option maxHeartbeats 4000000 in
set_option maxRecDepth 100000 in
theorem c_E_part (N : Nat → Nat) (V : Nat → Nat → Int32) (K : Nat → Int32) (I : Nat → Int32) (A : Nat → Nat → Int32) (hI : CInv N V K I A) (v : Int32) : AM kE_part 2 [.ref 0, .int v] (hC I A) (CR (sp_part N V K v)) := by
  refine AMet.of (by decide) (by simp [Value.category]) (Nat.le_of_ble_eq_true rfl) ?_
  refine aw_iload_n dE_part_0 rfl ?_
  refine aw_iconst (v := 0) dE_part_1 (by decide) ?_
  refine aw_sipush (v := 10000) dE_part_2 (by decide) ?_
  refine an_callSb cg_E_82 (c_E_within _ _ _ _) dE_part_5 rfl rfl (Nat.le_of_ble_eq_true rfl) (Nat.le_of_ble_eq_true rfl) (fun p5 => ?_) (fun p5 => ?_)
  · refine aw_if_ne (tgt := 13) dE_part_8 (by decide) (fun _ => ?_) (fun q => absurd q (by decide))
    refine aw_aload_r dE_part_13 rfl ?_
    refine aw_get fg_E_41 dE_part_14 rfl rfl ?_
    show AN _ _ _ _ _ (.int (I 5) :: _) _
    rw [hI.2.1]
    refine aw_istore_n dE_part_17 (by decide) ?_
    refine aw_aload_r dE_part_18 rfl ?_
    refine aw_iload_n dE_part_19 rfl ?_
    refine an_putE fp_E_41 dE_part_20 (by decide) ?_
    refine aw_iload_n dE_part_23 rfl ?_
    exact aw_iret rfl dE_part_24 (by unfold sp_part; rw [cif_t p5]; exact ⟨rfl, _, _, rfl, cinv_8 hI v⟩)
  · refine aw_if_ne (tgt := 13) dE_part_8 (by decide) (fun q => absurd q (by decide)) (fun _ => ?_)
    refine aw_iconst (v := (-1)) dE_part_11 (by decide) ?_
    exact aw_iret rfl dE_part_12 (by unfold sp_part; rw [cif_f p5]; exact ⟨rfl, I, A, rfl, hI⟩)

set_option maxHeartbeats 4000000 in
set_option maxRecDepth 100000 in
theorem c_E_at (N : Nat → Nat) (V : Nat → Nat → Int32) (K : Nat → Int32) (I : Nat → Int32) (A : Nat → Nat → Int32) (hI : CInv N V K I A) (r s : Int32) : AM kE_at 3 [.ref 0, .int r, .int s] (hC I A) (CR (sp_at N V K r s)) := by
  refine AMet.of (by decide) (by simp [Value.category]) (Nat.le_of_ble_eq_true rfl) ?_
  refine aw_aload_r dE_at_0 rfl ?_
  refine aw_iload_n dE_at_1 rfl ?_
  refine an_callVx cg_E_60 (c_E_rowOf _ _ _) dE_at_2 rfl rfl rfl rfl rfl (Nat.le_of_ble_eq_true rfl) (Nat.le_of_ble_eq_true rfl) ?_
  rintro _ _ ⟨rfl, ⟨k, hk, ek, rfl⟩ | ⟨nk, rfl⟩⟩
  · refine an_astore_r dE_at_5 (by decide) ?_
    refine aw_aload_r dE_at_6 rfl ?_
    refine an_ifnull_r (tgt := 18) dE_at_7 (by decide) ?_
    subst ek
    refine aw_aload_r dE_at_10 rfl ?_
    refine aw_iload_n dE_at_11 rfl ?_
    refine an_callVb cg_E_72 (c_R_hasStep _ _ _ _ _ hI hk _) dE_at_12 rfl (hC_row _ _ hk) rfl rfl rfl (Nat.le_of_ble_eq_true rfl) (Nat.le_of_ble_eq_true rfl) (fun p12 => ?_) (fun p12 => ?_)
    · refine aw_if_ne (tgt := 24) dE_at_15 (by decide) (fun _ => ?_) (fun q => absurd q (by decide))
      have hN := hI.n k hk
      obtain ⟨i, hi, rfl⟩ := stp_i hI.n hk p12
      refine aw_aload_r dE_at_24 rfl ?_
      refine an_getR hk fg_E_75 dE_at_25 rfl ?_
      refine aw_iload_n dE_at_28 rfl ?_
      refine an_ldC dE_at_29 (ac_val hk) rfl (by omega) (by decide) ?_
      rw [(hI.1 k hk).2.2.2.2 i (by omega)]
      exact aw_iret rfl dE_at_30 (by unfold sp_at; rw [cif_t p12, rn_n (by omega), rn_n (by omega)]; exact ⟨rfl, I, A, rfl, hI⟩)
    · refine aw_if_ne (tgt := 24) dE_at_15 (by decide) (fun q => absurd q (by decide)) (fun _ => ?_)
      refine aw_sipush (v := (-6000)) dE_at_18 (by decide) ?_
      refine aw_goto (tgt := 30) dE_at_21 (by decide) ?_
      exact aw_iret rfl dE_at_30 (by unfold sp_at; rw [cif_f p12]; exact ⟨rfl, I, A, rfl, hI⟩)
  · refine an_astore_0 dE_at_5 (by decide) ?_
    refine an_aload_0 dE_at_6 rfl ?_
    refine an_ifnull_0 (tgt := 18) dE_at_7 (by decide) ?_
    refine aw_sipush (v := (-6000)) dE_at_18 (by decide) ?_
    refine aw_goto (tgt := 30) dE_at_21 (by decide) ?_
    exact aw_iret rfl dE_at_30 (by unfold sp_at; rw [cif_f (fun q => nk (stp_row q))]; exact ⟨rfl, I, A, rfl, hI⟩)

set_option maxHeartbeats 4000000 in
set_option maxRecDepth 100000 in
theorem c_E_ear (N : Nat → Nat) (V : Nat → Nat → Int32) (K : Nat → Int32) (I : Nat → Int32) (A : Nat → Nat → Int32) (hI : CInv N V K I A) (h l : Int32) : AM kE_ear 2 [.ref 0, .int h, .int l] (hC I A) (CR (sp_ear N V K h l)) := by
  refine AMet.of (by decide) (by simp [Value.category]) (Nat.le_of_ble_eq_true rfl) ?_
  refine aw_iload_n dE_ear_0 rfl ?_
  refine aw_iconst (v := 0) dE_ear_1 (by decide) ?_
  refine aw_bipush (v := 60) dE_ear_2 (by decide) ?_
  refine an_callSb cg_E_82 (c_E_within _ _ _ _) dE_ear_4 rfl rfl (Nat.le_of_ble_eq_true rfl) (Nat.le_of_ble_eq_true rfl) (fun p4 => ?_) (fun p4 => ?_)
  · refine aw_if_eq (tgt := 20) dE_ear_7 (by decide) (fun q => absurd q (by decide)) (fun _ => ?_)
    refine aw_iload_n dE_ear_10 rfl ?_
    refine aw_iconst (v := 0) dE_ear_11 (by decide) ?_
    refine aw_bipush (v := 100) dE_ear_12 (by decide) ?_
    refine an_callSb cg_E_82 (c_E_within _ _ _ _) dE_ear_14 rfl rfl (Nat.le_of_ble_eq_true rfl) (Nat.le_of_ble_eq_true rfl) (fun p14 => ?_) (fun p14 => ?_)
    · refine aw_if_ne (tgt := 22) dE_ear_17 (by decide) (fun _ => ?_) (fun q => absurd q (by decide))
      refine aw_aload_r dE_ear_22 rfl ?_
      refine aw_iload_n dE_ear_23 rfl ?_
      refine an_putE fp_E_48 dE_ear_24 (by decide) ?_
      refine aw_aload_r dE_ear_27 rfl ?_
      refine aw_iload_n dE_ear_28 rfl ?_
      refine an_putE fp_E_51 dE_ear_29 (by decide) ?_
      refine aw_iconst (v := 1) dE_ear_32 (by decide) ?_
      exact aw_zret rfl (Or.inr rfl) dE_ear_33 (by unfold sp_ear; rw [cif_t ⟨p4, p14⟩]; exact ⟨rfl, _, _, rfl, cinv_11 (cinv_10 hI h) l⟩)
    · refine aw_if_ne (tgt := 22) dE_ear_17 (by decide) (fun q => absurd q (by decide)) (fun _ => ?_)
      refine aw_iconst (v := 0) dE_ear_20 (by decide) ?_
      exact aw_zret rfl (Or.inl rfl) dE_ear_21 (by unfold sp_ear; rw [cif_f (fun q => p14 q.2)]; exact ⟨rfl, I, A, rfl, hI⟩)
  · refine aw_if_eq (tgt := 20) dE_ear_7 (by decide) (fun _ => ?_) (fun q => absurd q (by decide))
    refine aw_iconst (v := 0) dE_ear_20 (by decide) ?_
    exact aw_zret rfl (Or.inl rfl) dE_ear_21 (by unfold sp_ear; rw [cif_f (fun q => p4 q.1)]; exact ⟨rfl, I, A, rfl, hI⟩)

set_option maxHeartbeats 4000000 in
set_option maxRecDepth 100000 in
theorem c_E_walk (N : Nat → Nat) (V : Nat → Nat → Int32) (K : Nat → Int32) (I : Nat → Int32) (A : Nat → Nat → Int32) (hI : CInv N V K I A) (r s : Int32) : AM kE_walk 3 [.ref 0, .int r, .int s] (hC I A) (CR (sp_walk N V K r s)) := by
  refine AMet.of (by decide) (by simp [Value.category]) (Nat.le_of_ble_eq_true rfl) ?_
  refine aw_aload_r dE_walk_0 rfl ?_
  refine aw_iload_n dE_walk_1 rfl ?_
  refine an_callVx cg_E_60 (c_E_rowOf _ _ _) dE_walk_2 rfl rfl rfl rfl rfl (Nat.le_of_ble_eq_true rfl) (Nat.le_of_ble_eq_true rfl) ?_
  rintro _ _ ⟨rfl, ⟨k, hk, ek, rfl⟩ | ⟨nk, rfl⟩⟩
  · refine an_astore_r dE_walk_5 (by decide) ?_
    refine aw_aload_r dE_walk_6 rfl ?_
    refine an_ifnull_r (tgt := 18) dE_walk_7 (by decide) ?_
    subst ek
    refine aw_aload_r dE_walk_10 rfl ?_
    refine aw_iload_n dE_walk_11 rfl ?_
    refine an_callVb cg_E_72 (c_R_hasStep _ _ _ _ _ hI hk _) dE_walk_12 rfl (hC_row _ _ hk) rfl rfl rfl (Nat.le_of_ble_eq_true rfl) (Nat.le_of_ble_eq_true rfl) (fun p12 => ?_) (fun p12 => ?_)
    · refine aw_if_ne (tgt := 20) dE_walk_15 (by decide) (fun _ => ?_) (fun q => absurd q (by decide))
      refine aw_aload_r dE_walk_20 rfl ?_
      refine aw_iload_n dE_walk_21 rfl ?_
      refine an_putE fp_E_54 dE_walk_22 (by decide) ?_
      refine aw_aload_r dE_walk_25 rfl ?_
      refine aw_iload_n dE_walk_26 rfl ?_
      refine an_putE fp_E_57 dE_walk_27 (by decide) ?_
      refine aw_iconst (v := 1) dE_walk_30 (by decide) ?_
      exact aw_zret rfl (Or.inr rfl) dE_walk_31 (by unfold sp_walk; rw [cif_t p12]; exact ⟨rfl, _, _, rfl, cinv_13 (cinv_12 hI _) s⟩)
    · refine aw_if_ne (tgt := 20) dE_walk_15 (by decide) (fun q => absurd q (by decide)) (fun _ => ?_)
      refine aw_iconst (v := 0) dE_walk_18 (by decide) ?_
      exact aw_zret rfl (Or.inl rfl) dE_walk_19 (by unfold sp_walk; rw [cif_f p12]; exact ⟨rfl, I, A, rfl, hI⟩)
  · refine an_astore_0 dE_walk_5 (by decide) ?_
    refine an_aload_0 dE_walk_6 rfl ?_
    refine an_ifnull_0 (tgt := 18) dE_walk_7 (by decide) ?_
    refine aw_iconst (v := 0) dE_walk_18 (by decide) ?_
    exact aw_zret rfl (Or.inl rfl) dE_walk_19 (by unfold sp_walk; rw [cif_f (fun q => nk (stp_row q))]; exact ⟨rfl, I, A, rfl, hI⟩)

set_option maxHeartbeats 4000000 in
set_option maxRecDepth 100000 in
theorem c_E_where (N : Nat → Nat) (V : Nat → Nat → Int32) (K : Nat → Int32) (I : Nat → Int32) (A : Nat → Nat → Int32) (hI : CInv N V K I A) (w : Int32) : AM kE_where 1 [.ref 0, .int w] (hC I A) (CR (sp_where N V K w)) := by
  refine AMet.of (by decide) (by simp [Value.category]) (Nat.le_of_ble_eq_true rfl) ?_
  refine aw_aload_r dE_where_0 rfl ?_
  refine aw_get fg_E_54 dE_where_1 rfl rfl ?_
  show AN _ _ _ _ _ (.int (I 9) :: _) _
  rw [hI.2.2.2.2.2.1]
  refine aw_iconst (v := (-1)) dE_where_4 (by decide) ?_
  refine aw_icmp_ne (tgt := 10) dE_where_5 (by decide) (fun c5 => ?_) (fun c5 => ?_)
  · refine aw_iload_n dE_where_10 rfl ?_
    rcases sw2 w with rfl | rfl | ⟨s0, s1⟩
    · refine an_lookup (off := 25) (tgt := 36) dE_where_11 (by decide) rfl (by decide) ?_
      refine aw_aload_r dE_where_36 rfl ?_
      refine aw_get fg_E_54 dE_where_37 rfl rfl ?_
      show AN _ _ _ _ _ (.int (I 9) :: _) _
      rw [hI.2.2.2.2.2.1]
      exact aw_iret rfl dE_where_40 (by unfold sp_where; rw [if_neg c5, if_pos rfl]; exact ⟨rfl, I, A, rfl, hI⟩)
    · refine an_lookup (off := 30) (tgt := 41) dE_where_11 (by decide) rfl (by decide) ?_
      refine aw_aload_r dE_where_41 rfl ?_
      refine aw_get fg_E_57 dE_where_42 rfl rfl ?_
      show AN _ _ _ _ _ (.int (I 10) :: _) _
      rw [hI.2.2.2.2.2.2]
      exact aw_iret rfl dE_where_45 (by unfold sp_where; rw [if_neg c5, if_neg (by decide), if_pos rfl]; exact ⟨rfl, I, A, rfl, hI⟩)
    · refine an_lookup (off := 35) (tgt := 46) dE_where_11 (by decide) ((lv_osw s0 rfl).trans (lv_osw s1 rfl)) (by decide) ?_
      refine aw_iconst (v := (-1)) dE_where_46 (by decide) ?_
      exact aw_iret rfl dE_where_47 (by unfold sp_where; rw [if_neg c5, if_neg s0, if_neg s1]; exact ⟨rfl, I, A, rfl, hI⟩)
  · refine aw_iconst (v := (-1)) dE_where_8 (by decide) ?_
    exact aw_iret rfl dE_where_9 (by unfold sp_where; rw [if_pos c5]; exact ⟨rfl, I, A, rfl, hI⟩)

theorem row_ne {k : Nat} (hk : k < 4) : ¬ nI k = -1 := by
  intro q
  have := congrArg Int32.toInt q
  rw [nI_toInt (by omega), z_m1] at this
  omega
set_option maxHeartbeats 4000000 in
set_option maxRecDepth 100000 in
theorem c_E_go (N : Nat → Nat) (V : Nat → Nat → Int32) (K : Nat → Int32) (I : Nat → Int32) (A : Nat → Nat → Int32) (hI : CInv N V K I A) (hP : PInv N V K) (on : Int32) : AM kE_go 3 [.ref 0, .int on] (hC I A) (CR (sp_go N V K on)) := by
  refine AMet.of (by decide) (by simp [Value.category]) (Nat.le_of_ble_eq_true rfl) ?_
  refine aw_aload_r dE_go_0 rfl ?_
  refine aw_aload_r dE_go_1 rfl ?_
  refine aw_get fg_E_54 dE_go_2 rfl rfl ?_
  show AN _ _ _ _ _ (.int (I 9) :: _) _
  rw [hI.2.2.2.2.2.1]
  refine an_callVx cg_E_60 (c_E_rowOf _ _ _) dE_go_5 rfl rfl rfl rfl rfl (Nat.le_of_ble_eq_true rfl) (Nat.le_of_ble_eq_true rfl) ?_
  rintro _ _ ⟨rfl, ⟨k, hk, ek, rfl⟩ | ⟨nk, rfl⟩⟩
  · refine an_astore_r dE_go_8 (by decide) ?_
    refine aw_iload_n dE_go_9 rfl ?_
    refine aw_if_eq (tgt := 22) dE_go_10 (by decide) (fun c10 => ?_) (fun c10 => ?_)
    · refine aw_aload_r dE_go_22 rfl ?_
      refine aw_get fg_E_57 dE_go_23 rfl rfl ?_
      show AN _ _ _ _ _ (.int (I 10) :: _) _
      rw [hI.2.2.2.2.2.2]
      refine aw_iconst (v := 1) dE_go_26 (by decide) ?_
      refine aw_isub dE_go_27 ?_
      refine an_top (show K 13 - 1 = (if on = 0 then K 13 - 1 else K 13 + 1) by rw [if_pos c10]) ?_
      refine aw_istore_n dE_go_28 (by decide) ?_
      refine aw_aload_r dE_go_29 rfl ?_
      refine an_ifnull_r (tgt := 41) dE_go_30 (by decide) ?_
      refine aw_aload_r dE_go_33 rfl ?_
      refine aw_iload_n dE_go_34 rfl ?_
      refine an_callVb cg_E_72 (c_R_hasStep _ _ _ _ _ hI hk _) dE_go_35 rfl (hC_row _ _ hk) rfl rfl rfl (Nat.le_of_ble_eq_true rfl) (Nat.le_of_ble_eq_true rfl) (fun p35 => ?_) (fun p35 => ?_)
      · refine aw_if_ne (tgt := 43) dE_go_38 (by decide) (fun _ => ?_) (fun q => absurd q (by decide))
        refine aw_aload_r dE_go_43 rfl ?_
        refine aw_iload_n dE_go_44 rfl ?_
        refine an_putE fp_E_57 dE_go_45 (by decide) ?_
        refine aw_iload_n dE_go_48 rfl ?_
        exact aw_iret rfl dE_go_49 (by unfold sp_go; rw [cif_t ⟨by rw [ek]; exact row_ne hk, by rw [ek]; exact p35⟩]; exact ⟨rfl, _, _, rfl, cinv_13 hI _⟩)
      · refine aw_if_ne (tgt := 43) dE_go_38 (by decide) (fun q => absurd q (by decide)) (fun _ => ?_)
        refine aw_iconst (v := (-1)) dE_go_41 (by decide) ?_
        exact aw_iret rfl dE_go_42 (by unfold sp_go; rw [cif_f (fun q => p35 (by rw [← ek]; exact q.2))]; exact ⟨rfl, I, A, rfl, hI⟩)
    · refine aw_aload_r dE_go_13 rfl ?_
      refine aw_get fg_E_57 dE_go_14 rfl rfl ?_
      show AN _ _ _ _ _ (.int (I 10) :: _) _
      rw [hI.2.2.2.2.2.2]
      refine aw_iconst (v := 1) dE_go_17 (by decide) ?_
      refine aw_iadd dE_go_18 ?_
      refine an_top (show K 13 + 1 = (if on = 0 then K 13 - 1 else K 13 + 1) by rw [if_neg c10]) ?_
      refine aw_goto (tgt := 28) dE_go_19 (by decide) ?_
      refine aw_istore_n dE_go_28 (by decide) ?_
      refine aw_aload_r dE_go_29 rfl ?_
      refine an_ifnull_r (tgt := 41) dE_go_30 (by decide) ?_
      refine aw_aload_r dE_go_33 rfl ?_
      refine aw_iload_n dE_go_34 rfl ?_
      refine an_callVb cg_E_72 (c_R_hasStep _ _ _ _ _ hI hk _) dE_go_35 rfl (hC_row _ _ hk) rfl rfl rfl (Nat.le_of_ble_eq_true rfl) (Nat.le_of_ble_eq_true rfl) (fun p35 => ?_) (fun p35 => ?_)
      · refine aw_if_ne (tgt := 43) dE_go_38 (by decide) (fun _ => ?_) (fun q => absurd q (by decide))
        refine aw_aload_r dE_go_43 rfl ?_
        refine aw_iload_n dE_go_44 rfl ?_
        refine an_putE fp_E_57 dE_go_45 (by decide) ?_
        refine aw_iload_n dE_go_48 rfl ?_
        exact aw_iret rfl dE_go_49 (by unfold sp_go; rw [cif_t ⟨by rw [ek]; exact row_ne hk, by rw [ek]; exact p35⟩]; exact ⟨rfl, _, _, rfl, cinv_13 hI _⟩)
      · refine aw_if_ne (tgt := 43) dE_go_38 (by decide) (fun q => absurd q (by decide)) (fun _ => ?_)
        refine aw_iconst (v := (-1)) dE_go_41 (by decide) ?_
        exact aw_iret rfl dE_go_42 (by unfold sp_go; rw [cif_f (fun q => p35 (by rw [← ek]; exact q.2))]; exact ⟨rfl, I, A, rfl, hI⟩)
  · refine an_astore_0 dE_go_8 (by decide) ?_
    refine aw_iload_n dE_go_9 rfl ?_
    refine aw_if_eq (tgt := 22) dE_go_10 (by decide) (fun c10 => ?_) (fun c10 => ?_)
    · refine aw_aload_r dE_go_22 rfl ?_
      refine aw_get fg_E_57 dE_go_23 rfl rfl ?_
      show AN _ _ _ _ _ (.int (I 10) :: _) _
      rw [hI.2.2.2.2.2.2]
      refine aw_iconst (v := 1) dE_go_26 (by decide) ?_
      refine aw_isub dE_go_27 ?_
      refine an_top (show K 13 - 1 = (if on = 0 then K 13 - 1 else K 13 + 1) by rw [if_pos c10]) ?_
      refine aw_istore_n dE_go_28 (by decide) ?_
      refine an_aload_0 dE_go_29 rfl ?_
      refine an_ifnull_0 (tgt := 41) dE_go_30 (by decide) ?_
      refine aw_iconst (v := (-1)) dE_go_41 (by decide) ?_
      exact aw_iret rfl dE_go_42 (by unfold sp_go; rw [cif_f (fun q => nk (stp_row q.2))]; exact ⟨rfl, I, A, rfl, hI⟩)
    · refine aw_aload_r dE_go_13 rfl ?_
      refine aw_get fg_E_57 dE_go_14 rfl rfl ?_
      show AN _ _ _ _ _ (.int (I 10) :: _) _
      rw [hI.2.2.2.2.2.2]
      refine aw_iconst (v := 1) dE_go_17 (by decide) ?_
      refine aw_iadd dE_go_18 ?_
      refine an_top (show K 13 + 1 = (if on = 0 then K 13 - 1 else K 13 + 1) by rw [if_neg c10]) ?_
      refine aw_goto (tgt := 28) dE_go_19 (by decide) ?_
      refine aw_istore_n dE_go_28 (by decide) ?_
      refine an_aload_0 dE_go_29 rfl ?_
      refine an_ifnull_0 (tgt := 41) dE_go_30 (by decide) ?_
      refine aw_iconst (v := (-1)) dE_go_41 (by decide) ?_
      exact aw_iret rfl dE_go_42 (by unfold sp_go; rw [cif_f (fun q => nk (stp_row q.2))]; exact ⟨rfl, I, A, rfl, hI⟩)

set_option maxHeartbeats 4000000 in
set_option maxRecDepth 100000 in
theorem c_E_compareSurely (N : Nat → Nat) (V : Nat → Nat → Int32) (K : Nat → Int32) (I : Nat → Int32) (A : Nat → Nat → Int32) (hI : CInv N V K I A) (hP : PInv N V K) {k k2 : Nat} (hk : k < 4) (hk2 : k2 < 4) (s : Int32) : AM kE_compareSurely 2 [.ref (2 + 2 * k), .ref (2 + 2 * k2), .int s] (hC I A) (RQ (sureR N V K k k2 s) (hC I A)) := by
  refine AMet.of (by decide) (by simp [Value.category]) (Nat.le_of_ble_eq_true rfl) ?_
  refine aw_aload_r dE_compareSurely_0 rfl ?_
  refine aw_iload_n dE_compareSurely_1 rfl ?_
  refine an_callVb cg_E_154 (c_R_hasValue _ _ _ _ _ hI hk _) dE_compareSurely_2 rfl (hC_row _ _ hk) rfl rfl rfl (Nat.le_of_ble_eq_true rfl) (Nat.le_of_ble_eq_true rfl) (fun p2 => ?_) (fun p2 => ?_)
  · refine aw_if_eq (tgt := 16) dE_compareSurely_5 (by decide) (fun q => absurd q (by decide)) (fun _ => ?_)
    refine aw_aload_r dE_compareSurely_8 rfl ?_
    refine aw_iload_n dE_compareSurely_9 rfl ?_
    refine an_callVb cg_E_154 (c_R_hasValue _ _ _ _ _ hI hk2 _) dE_compareSurely_10 rfl (hC_row _ _ hk2) rfl rfl rfl (Nat.le_of_ble_eq_true rfl) (Nat.le_of_ble_eq_true rfl) (fun p10 => ?_) (fun p10 => ?_)
    · refine aw_if_ne (tgt := 19) dE_compareSurely_13 (by decide) (fun _ => ?_) (fun q => absurd q (by decide))
      have hN := hI.n k hk
      have hN2 := hI.n k2 hk2
      obtain ⟨i, hi, rfl, hv⟩ := hv_i hI.n hk p2
      obtain ⟨i2, hi2, e2, hv2⟩ := hv_i hI.n hk2 p10
      have e3 := nI_inj (by omega) (by omega) e2
      subst e3
      refine aw_aload_r dE_compareSurely_19 rfl ?_
      refine an_getR hk fg_E_75 dE_compareSurely_20 rfl ?_
      refine aw_iload_n dE_compareSurely_23 rfl ?_
      refine an_ldC dE_compareSurely_24 (ac_val hk) rfl (by omega) (by decide) ?_
      rw [(hI.1 k hk).2.2.2.2 i (by omega)]
      refine aw_aload_r dE_compareSurely_25 rfl ?_
      refine an_getR hk2 fg_E_75 dE_compareSurely_26 rfl ?_
      refine aw_iload_n dE_compareSurely_29 rfl ?_
      refine an_ldC dE_compareSurely_30 (ac_val hk2) rfl (by omega) (by decide) ?_
      rw [(hI.1 k2 hk2).2.2.2.2 i (by omega)]
      refine aw_isub dE_compareSurely_31 ?_
      refine aw_istore_n dE_compareSurely_32 (by decide) ?_
      refine aw_aload_r dE_compareSurely_33 rfl ?_
      refine an_getR hk fg_E_86 dE_compareSurely_34 rfl ?_
      rw [(hI.1 k hk).2.2.1]
      refine aw_aload_r dE_compareSurely_37 rfl ?_
      refine an_getR hk2 fg_E_86 dE_compareSurely_38 rfl ?_
      rw [(hI.1 k2 hk2).2.2.1]
      refine aw_iadd dE_compareSurely_41 ?_
      refine aw_istore dE_compareSurely_42 (by decide) ?_
      refine aw_iload_n dE_compareSurely_44 rfl ?_
      refine aw_iload dE_compareSurely_45 rfl ?_
      refine aw_icmp_le (tgt := 52) dE_compareSurely_47 (by decide) (fun c47 => ?_) (fun c47 => ?_)
      · refine aw_iload_n dE_compareSurely_52 rfl ?_
        refine aw_iload dE_compareSurely_53 rfl ?_
        refine aw_ineg dE_compareSurely_55 ?_
        refine aw_icmp_ge (tgt := 63) dE_compareSurely_56 (by decide) (fun c56 => ?_) (fun c56 => ?_)
        · refine aw_iconst (v := 0) dE_compareSurely_63 (by decide) ?_
          exact aw_iret rfl dE_compareSurely_64 (by have hb := sure_neg (hP.val hk hi hv) (hP.val hk2 hi2 hv2) (hP.miss hk) (hP.miss hk2); unfold sureR sureV; rw [cif_t ⟨p2, p10⟩, rn_n (by omega)]; refine ⟨rfl, ?_⟩; rw [hb] at c56; simp only [c47, c56, if_true, if_false, ite_true, ite_false])
        · refine aw_iconst (v := (-1)) dE_compareSurely_59 (by decide) ?_
          refine aw_goto (tgt := 64) dE_compareSurely_60 (by decide) ?_
          exact aw_iret rfl dE_compareSurely_64 (by have hb := sure_neg (hP.val hk hi hv) (hP.val hk2 hi2 hv2) (hP.miss hk) (hP.miss hk2); unfold sureR sureV; rw [cif_t ⟨p2, p10⟩, rn_n (by omega)]; refine ⟨rfl, ?_⟩; rw [hb] at c56; simp only [c47, c56, if_true, if_false, ite_true, ite_false])
      · refine aw_iconst (v := 1) dE_compareSurely_50 (by decide) ?_
        exact aw_iret rfl dE_compareSurely_51 (by have hb := sure_neg (hP.val hk hi hv) (hP.val hk2 hi2 hv2) (hP.miss hk) (hP.miss hk2); unfold sureR sureV; rw [cif_t ⟨p2, p10⟩, rn_n (by omega)]; refine ⟨rfl, ?_⟩; simp only [c47, if_true, if_false, ite_true, ite_false])
    · refine aw_if_ne (tgt := 19) dE_compareSurely_13 (by decide) (fun q => absurd q (by decide)) (fun _ => ?_)
      refine aw_bipush (v := (-2)) dE_compareSurely_16 (by decide) ?_
      exact aw_iret rfl dE_compareSurely_18 (by unfold sureR; rw [cif_f (fun q => p10 q.2)]; exact ⟨rfl, rfl⟩)
  · refine aw_if_eq (tgt := 16) dE_compareSurely_5 (by decide) (fun _ => ?_) (fun q => absurd q (by decide))
    refine aw_bipush (v := (-2)) dE_compareSurely_16 (by decide) ?_
    exact aw_iret rfl dE_compareSurely_18 (by unfold sureR; rw [cif_f (fun q => p2 q.1)]; exact ⟨rfl, rfl⟩)
end
section
/-! the least and the greatest value; locals that are no longer known -/
def lsub : List (Option Value) → List (Option Value) → Prop
  | [], _ => True
  | none :: a, L => lsub a L.tail
  | some v :: a, L => L.head? = some (some v) ∧ lsub a L.tail
theorem lsub_at : ∀ (L' L : List (Option Value)), lsub L' L → ∀ (i : Nat) (v : Value), L'[i]? = some (some v) → L[i]? = some (some v)
  | [], _, _, i, v, h => by simp at h
  | none :: a, L, q, i, v, h => by
    cases i with
    | zero => simp at h
    | succ i =>
      have := lsub_at a L.tail q i v (by simpa using h)
      rwa [List.getElem?_tail] at this
  | some w :: a, L, q, i, v, h => by
    cases i with
    | zero =>
      simp at h
      subst h
      rw [← List.head?_eq_getElem?]; exact q.1
    | succ i =>
      have := lsub_at a L.tail q.2 i v (by simpa using h)
      rwa [List.getElem?_tail] at this
theorem an_weak {M : MI} {d : Nat} {Q : QT} {pc : Nat} {L L' : List (Option Value)} {st : List Value} {h : List AC} (kk : AN M d Q pc L' st h) (hs : lsub L' L) : AN M d Q pc L st h :=
  fun p l e s m args below meth c b D κ N0 H locs ls C X => kk p l e s m args below meth c b D κ N0 H locs ls C ⟨X.1, X.2.1, X.2.2.1, X.2.2.2.1, ⟨X.2.2.2.2.1.1, X.2.2.2.2.1.2.1, fun q hq => by
    obtain ⟨v, h1, h2⟩ := lvl_mem.mp hq
    exact X.2.2.2.2.1.2.2 q (lvl_mem.mpr ⟨v, lsub_at _ _ hs _ _ h1, h2⟩)⟩, fun i v hi => X.2.2.2.2.2 i v (lsub_at _ _ hs _ _ hi)⟩
def lowR (v : Nat → Int32) : Nat → Int32
  | 0 => 2147483647
  | i + 1 => if v i = -5000 then lowR v i else if v i < lowR v i then v i else lowR v i
def highR (v : Nat → Int32) : Nat → Int32
  | 0 => -2147483648
  | i + 1 => if v i = -5000 then highR v i else if highR v i < v i then v i else highR v i
def lowA (N : Nat → Nat) (V : Nat → Nat → Int32) : Nat → Int32
  | 0 => 2147483647
  | k + 1 => if lowR (V k) (N k) < lowA N V k then lowR (V k) (N k) else lowA N V k
def highA (N : Nat → Nat) (V : Nat → Nat → Int32) : Nat → Int32
  | 0 => -2147483648
  | k + 1 => if highA N V k < highR (V k) (N k) then highR (V k) (N k) else highA N V k
end
section
set_option maxHeartbeats 4000000 in
set_option maxRecDepth 100000 in
theorem l_R_lowest (N : Nat → Nat) (V : Nat → Nat → Int32) (K : Nat → Int32) (I : Nat → Int32) (A : Nat → Nat → Int32) (hI : CInv N V K I A) {k : Nat} (hk : k < 4) : ∀ (n : Nat) (i : Nat), i + n = N k → AN kR_lowest 2 (RQ (lowR (V k) (N k)) (hC I A)) 5 [some (.ref (2 + 2 * k)), some (.int (lowR (V k) i)), some (.int (nI i))] [] (hC I A) := by
  intro n
  induction n with
  | zero =>
    intro i hin
    have hN := hI.n k hk
    refine aw_iload_n dR_lowest_5 rfl ?_
    refine aw_aload_r dR_lowest_6 rfl ?_
    refine an_getR hk fg_R_15 dR_lowest_7 rfl ?_
    rw [(hI.1 k hk).2.1]
    refine aw_icmp_ge (tgt := 42) dR_lowest_10 (by decide) (fun c10 => ?_) (fun c10 => absurd (by rw [show i = N k by omega]; exact Int32.le_refl _) c10)
    refine aw_iload_n dR_lowest_42 rfl ?_
    exact aw_iret rfl dR_lowest_43 ⟨rfl, by rw [show i = N k by omega]⟩
  | succ n ih =>
    intro i hin
    have hN := hI.n k hk
    refine aw_iload_n dR_lowest_5 rfl ?_
    refine aw_aload_r dR_lowest_6 rfl ?_
    refine an_getR hk fg_R_15 dR_lowest_7 rfl ?_
    rw [(hI.1 k hk).2.1]
    refine aw_icmp_ge (tgt := 42) dR_lowest_10 (by decide) (fun c10 => absurd c10 (nI_ge (by omega) (by omega))) (fun c10 => ?_)
    refine aw_aload_r dR_lowest_13 rfl ?_
    refine an_getR hk fg_R_9 dR_lowest_14 rfl ?_
    refine aw_iload_n dR_lowest_17 rfl ?_
    refine an_ldC dR_lowest_18 (ac_val hk) rfl (by omega) (by decide) ?_
    rw [(hI.1 k hk).2.2.2.2 i (by omega)]
    refine aw_sipush (v := (-5000)) dR_lowest_19 (by decide) ?_
    refine aw_icmp_eq (tgt := 36) dR_lowest_22 (by decide) (fun c22 => ?_) (fun c22 => ?_)
    · refine aw_iinc dR_lowest_36 rfl (nI_1 i) (by decide) ?_
      refine aw_goto (tgt := 5) dR_lowest_39 (by decide) ?_
      exact an_weak (ih (i + 1) (by omega)) ⟨rfl, by rw [show lowR (V k) (i + 1) = lowR (V k) i by simp only [lowR, if_pos c22]]; rfl, rfl, trivial⟩
    · refine aw_iload_n dR_lowest_25 rfl ?_
      refine aw_aload_r dR_lowest_26 rfl ?_
      refine an_getR hk fg_R_9 dR_lowest_27 rfl ?_
      refine aw_iload_n dR_lowest_30 rfl ?_
      refine an_ldC dR_lowest_31 (ac_val hk) rfl (by omega) (by decide) ?_
      rw [(hI.1 k hk).2.2.2.2 i (by omega)]
      refine aw_min cg_R_32 dR_lowest_32 (Nat.le_of_ble_eq_true rfl) (Nat.le_of_ble_eq_true rfl) ⟨Nat.le_refl _, Nat.le_refl _⟩ ?_
      refine an_top (show (if V k i < lowR (V k) i then V k i else lowR (V k) i) = lowR (V k) (i + 1) by simp only [lowR, if_neg c22]) ?_
      refine aw_istore_n dR_lowest_35 (by decide) ?_
      refine aw_iinc dR_lowest_36 rfl (nI_1 i) (by decide) ?_
      refine aw_goto (tgt := 5) dR_lowest_39 (by decide) ?_
      exact an_weak (ih (i + 1) (by omega)) ⟨rfl, rfl, rfl, trivial⟩

set_option maxHeartbeats 4000000 in
set_option maxRecDepth 100000 in
theorem c_R_lowest (N : Nat → Nat) (V : Nat → Nat → Int32) (K : Nat → Int32) (I : Nat → Int32) (A : Nat → Nat → Int32) (hI : CInv N V K I A) {k : Nat} (hk : k < 4) : AM kR_lowest 2 [.ref (2 + 2 * k)] (hC I A) (RQ (lowR (V k) (N k)) (hC I A)) := by
  refine AMet.of (by decide) (by simp [Value.category]) (Nat.le_of_ble_eq_true rfl) ?_
  refine aw_ldc (v := 2147483647) (k_at 396 (by decide +kernel) (by decide +kernel)) dR_lowest_0 ?_
  refine aw_istore_n dR_lowest_2 (by decide) ?_
  refine aw_iconst (v := 0) dR_lowest_3 (by decide) ?_
  refine aw_istore_n dR_lowest_4 (by decide) ?_
  exact l_R_lowest N V K I A hI hk (N k) 0 (by omega)

set_option maxHeartbeats 4000000 in
set_option maxRecDepth 100000 in
theorem l_R_highest (N : Nat → Nat) (V : Nat → Nat → Int32) (K : Nat → Int32) (I : Nat → Int32) (A : Nat → Nat → Int32) (hI : CInv N V K I A) {k : Nat} (hk : k < 4) : ∀ (n : Nat) (i : Nat), i + n = N k → AN kR_highest 2 (RQ (highR (V k) (N k)) (hC I A)) 5 [some (.ref (2 + 2 * k)), some (.int (highR (V k) i)), some (.int (nI i))] [] (hC I A) := by
  intro n
  induction n with
  | zero =>
    intro i hin
    have hN := hI.n k hk
    refine aw_iload_n dR_highest_5 rfl ?_
    refine aw_aload_r dR_highest_6 rfl ?_
    refine an_getR hk fg_R_15 dR_highest_7 rfl ?_
    rw [(hI.1 k hk).2.1]
    refine aw_icmp_ge (tgt := 42) dR_highest_10 (by decide) (fun c10 => ?_) (fun c10 => absurd (by rw [show i = N k by omega]; exact Int32.le_refl _) c10)
    refine aw_iload_n dR_highest_42 rfl ?_
    exact aw_iret rfl dR_highest_43 ⟨rfl, by rw [show i = N k by omega]⟩
  | succ n ih =>
    intro i hin
    have hN := hI.n k hk
    refine aw_iload_n dR_highest_5 rfl ?_
    refine aw_aload_r dR_highest_6 rfl ?_
    refine an_getR hk fg_R_15 dR_highest_7 rfl ?_
    rw [(hI.1 k hk).2.1]
    refine aw_icmp_ge (tgt := 42) dR_highest_10 (by decide) (fun c10 => absurd c10 (nI_ge (by omega) (by omega))) (fun c10 => ?_)
    refine aw_aload_r dR_highest_13 rfl ?_
    refine an_getR hk fg_R_9 dR_highest_14 rfl ?_
    refine aw_iload_n dR_highest_17 rfl ?_
    refine an_ldC dR_highest_18 (ac_val hk) rfl (by omega) (by decide) ?_
    rw [(hI.1 k hk).2.2.2.2 i (by omega)]
    refine aw_sipush (v := (-5000)) dR_highest_19 (by decide) ?_
    refine aw_icmp_eq (tgt := 36) dR_highest_22 (by decide) (fun c22 => ?_) (fun c22 => ?_)
    · refine aw_iinc dR_highest_36 rfl (nI_1 i) (by decide) ?_
      refine aw_goto (tgt := 5) dR_highest_39 (by decide) ?_
      exact an_weak (ih (i + 1) (by omega)) ⟨rfl, by rw [show highR (V k) (i + 1) = highR (V k) i by simp only [highR, if_pos c22]]; rfl, rfl, trivial⟩
    · refine aw_iload_n dR_highest_25 rfl ?_
      refine aw_aload_r dR_highest_26 rfl ?_
      refine an_getR hk fg_R_9 dR_highest_27 rfl ?_
      refine aw_iload_n dR_highest_30 rfl ?_
      refine an_ldC dR_highest_31 (ac_val hk) rfl (by omega) (by decide) ?_
      rw [(hI.1 k hk).2.2.2.2 i (by omega)]
      refine aw_max cg_R_39 dR_highest_32 (Nat.le_of_ble_eq_true rfl) (Nat.le_of_ble_eq_true rfl) ⟨Nat.le_refl _, Nat.le_refl _⟩ ?_
      refine an_top (show (if highR (V k) i < V k i then V k i else highR (V k) i) = highR (V k) (i + 1) by simp only [highR, if_neg c22]) ?_
      refine aw_istore_n dR_highest_35 (by decide) ?_
      refine aw_iinc dR_highest_36 rfl (nI_1 i) (by decide) ?_
      refine aw_goto (tgt := 5) dR_highest_39 (by decide) ?_
      exact an_weak (ih (i + 1) (by omega)) ⟨rfl, rfl, rfl, trivial⟩

set_option maxHeartbeats 4000000 in
set_option maxRecDepth 100000 in
theorem c_R_highest (N : Nat → Nat) (V : Nat → Nat → Int32) (K : Nat → Int32) (I : Nat → Int32) (A : Nat → Nat → Int32) (hI : CInv N V K I A) {k : Nat} (hk : k < 4) : AM kR_highest 2 [.ref (2 + 2 * k)] (hC I A) (RQ (highR (V k) (N k)) (hC I A)) := by
  refine AMet.of (by decide) (by simp [Value.category]) (Nat.le_of_ble_eq_true rfl) ?_
  refine aw_ldc (v := (-2147483648)) (k_at 408 (by decide +kernel) (by decide +kernel)) dR_highest_0 ?_
  refine aw_istore_n dR_highest_2 (by decide) ?_
  refine aw_iconst (v := 0) dR_highest_3 (by decide) ?_
  refine aw_istore_n dR_highest_4 (by decide) ?_
  exact l_R_highest N V K I A hI hk (N k) 0 (by omega)

set_option maxHeartbeats 4000000 in
set_option maxRecDepth 100000 in
theorem l_E_lowestValue (N : Nat → Nat) (V : Nat → Nat → Int32) (K : Nat → Int32) (I : Nat → Int32) (A : Nat → Nat → Int32) (hI : CInv N V K I A) : ∀ (n : Nat) (k : Nat), k + n = 4 → AN kE_lowestValue 3 (RQ (lowA N V 4) (hC I A)) 5 [some (.ref 0), some (.int (lowA N V k)), some (.int (nI k))] [] (hC I A) := by
  intro n
  induction n with
  | zero =>
    intro k hin
    refine aw_iload_n dE_lowestValue_5 rfl ?_
    refine aw_iconst (v := 4) dE_lowestValue_6 (by decide) ?_
    refine aw_icmp_ge (tgt := 30) dE_lowestValue_7 (by decide) (fun c7 => ?_) (fun c7 => absurd (by rw [show k = 4 by omega]; decide) c7)
    refine aw_iload_n dE_lowestValue_30 rfl ?_
    exact aw_iret rfl dE_lowestValue_31 ⟨rfl, by rw [show k = 4 by omega]⟩
  | succ n ih =>
    intro k hin
    have hk : k < 4 := by omega
    refine aw_iload_n dE_lowestValue_5 rfl ?_
    refine aw_iconst (v := 4) dE_lowestValue_6 (by decide) ?_
    refine aw_icmp_ge (tgt := 30) dE_lowestValue_7 (by decide) (fun c7 => absurd c7 (nI_ge (b := 4) (by omega) (by omega))) (fun c7 => ?_)
    refine aw_iload_n dE_lowestValue_10 rfl ?_
    refine aw_aload_r dE_lowestValue_11 rfl ?_
    refine aw_get fg_E_11 dE_lowestValue_12 rfl rfl ?_
    refine aw_iload_n dE_lowestValue_15 rfl ?_
    refine an_rows dE_lowestValue_16 rfl hk ?_
    refine an_callVr cg_E_189 (c_R_lowest _ _ _ _ _ hI hk) dE_lowestValue_17 rfl (hC_row _ _ hk) rfl rfl rfl (Nat.le_of_ble_eq_true rfl) (Nat.le_of_ble_eq_true rfl) ?_
    refine aw_min cg_E_192 dE_lowestValue_20 (Nat.le_of_ble_eq_true rfl) (Nat.le_of_ble_eq_true rfl) ⟨Nat.le_refl _, Nat.le_refl _⟩ ?_
    refine an_top (show (if lowR (V k) (N k) < lowA N V k then lowR (V k) (N k) else lowA N V k) = lowA N V (k + 1) from rfl) ?_
    refine aw_istore_n dE_lowestValue_23 (by decide) ?_
    refine aw_iinc dE_lowestValue_24 rfl (nI_1 k) (by decide) ?_
    refine aw_goto (tgt := 5) dE_lowestValue_27 (by decide) ?_
    exact an_weak (ih (k + 1) (by omega)) ⟨rfl, rfl, rfl, trivial⟩

set_option maxHeartbeats 4000000 in
set_option maxRecDepth 100000 in
theorem c_E_lowestValue (N : Nat → Nat) (V : Nat → Nat → Int32) (K : Nat → Int32) (I : Nat → Int32) (A : Nat → Nat → Int32) (hI : CInv N V K I A) : AM kE_lowestValue 3 [.ref 0] (hC I A) (RQ (lowA N V 4) (hC I A)) := by
  refine AMet.of (by decide) (by simp [Value.category]) (Nat.le_of_ble_eq_true rfl) ?_
  refine aw_ldc (v := 2147483647) (k_at 391 (by decide +kernel) (by decide +kernel)) dE_lowestValue_0 ?_
  refine aw_istore_n dE_lowestValue_2 (by decide) ?_
  refine aw_iconst (v := 0) dE_lowestValue_3 (by decide) ?_
  refine aw_istore_n dE_lowestValue_4 (by decide) ?_
  exact l_E_lowestValue N V K I A hI 4 0 (by omega)

set_option maxHeartbeats 4000000 in
set_option maxRecDepth 100000 in
theorem l_E_highestValue (N : Nat → Nat) (V : Nat → Nat → Int32) (K : Nat → Int32) (I : Nat → Int32) (A : Nat → Nat → Int32) (hI : CInv N V K I A) : ∀ (n : Nat) (k : Nat), k + n = 4 → AN kE_highestValue 3 (RQ (highA N V 4) (hC I A)) 5 [some (.ref 0), some (.int (highA N V k)), some (.int (nI k))] [] (hC I A) := by
  intro n
  induction n with
  | zero =>
    intro k hin
    refine aw_iload_n dE_highestValue_5 rfl ?_
    refine aw_iconst (v := 4) dE_highestValue_6 (by decide) ?_
    refine aw_icmp_ge (tgt := 30) dE_highestValue_7 (by decide) (fun c7 => ?_) (fun c7 => absurd (by rw [show k = 4 by omega]; decide) c7)
    refine aw_iload_n dE_highestValue_30 rfl ?_
    exact aw_iret rfl dE_highestValue_31 ⟨rfl, by rw [show k = 4 by omega]⟩
  | succ n ih =>
    intro k hin
    have hk : k < 4 := by omega
    refine aw_iload_n dE_highestValue_5 rfl ?_
    refine aw_iconst (v := 4) dE_highestValue_6 (by decide) ?_
    refine aw_icmp_ge (tgt := 30) dE_highestValue_7 (by decide) (fun c7 => absurd c7 (nI_ge (b := 4) (by omega) (by omega))) (fun c7 => ?_)
    refine aw_iload_n dE_highestValue_10 rfl ?_
    refine aw_aload_r dE_highestValue_11 rfl ?_
    refine aw_get fg_E_11 dE_highestValue_12 rfl rfl ?_
    refine aw_iload_n dE_highestValue_15 rfl ?_
    refine an_rows dE_highestValue_16 rfl hk ?_
    refine an_callVr cg_E_198 (c_R_highest _ _ _ _ _ hI hk) dE_highestValue_17 rfl (hC_row _ _ hk) rfl rfl rfl (Nat.le_of_ble_eq_true rfl) (Nat.le_of_ble_eq_true rfl) ?_
    refine aw_max cg_E_201 dE_highestValue_20 (Nat.le_of_ble_eq_true rfl) (Nat.le_of_ble_eq_true rfl) ⟨Nat.le_refl _, Nat.le_refl _⟩ ?_
    refine an_top (show (if highA N V k < highR (V k) (N k) then highR (V k) (N k) else highA N V k) = highA N V (k + 1) from rfl) ?_
    refine aw_istore_n dE_highestValue_23 (by decide) ?_
    refine aw_iinc dE_highestValue_24 rfl (nI_1 k) (by decide) ?_
    refine aw_goto (tgt := 5) dE_highestValue_27 (by decide) ?_
    exact an_weak (ih (k + 1) (by omega)) ⟨rfl, rfl, rfl, trivial⟩

set_option maxHeartbeats 4000000 in
set_option maxRecDepth 100000 in
theorem c_E_highestValue (N : Nat → Nat) (V : Nat → Nat → Int32) (K : Nat → Int32) (I : Nat → Int32) (A : Nat → Nat → Int32) (hI : CInv N V K I A) : AM kE_highestValue 3 [.ref 0] (hC I A) (RQ (highA N V 4) (hC I A)) := by
  refine AMet.of (by decide) (by simp [Value.category]) (Nat.le_of_ble_eq_true rfl) ?_
  refine aw_ldc (v := (-2147483648)) (k_at 403 (by decide +kernel) (by decide +kernel)) dE_highestValue_0 ?_
  refine aw_istore_n dE_highestValue_2 (by decide) ?_
  refine aw_iconst (v := 0) dE_highestValue_3 (by decide) ?_
  refine aw_istore_n dE_highestValue_4 (by decide) ?_
  exact l_E_highestValue N V K I A hI 4 0 (by omega)
end
section
/-! the reference's ends, its scale and heights -/
def SameL (J J' : Nat → Int32) : Prop := ∀ q, q ≠ 21 → q ≠ 22 → J' q = J q
theorem SameL.rf {J : Nat → Int32} : SameL J J := fun _ _ _ => rfl
theorem SameL.u21 {J J' : Nat → Int32} (h : SameL J J') (v : Int32) : SameL J (upd J' 21 v) := fun q a b => by rw [pk_un a]; exact h q a b
theorem SameL.u22 {J J' : Nat → Int32} (h : SameL J J') (v : Int32) : SameL J (upd J' 22 v) := fun q a b => by rw [pk_un b]; exact h q a b
theorem SameL.tr {J J' J2 : Nat → Int32} (h : SameL J J') (h2 : SameL J' J2) : SameL J J2 := fun q a b => (h2 q a b).trans (h q a b)
theorem tinv_sl {N : Nat → Nat} {V : Nat → Nat → Int32} {K J J' : Nat → Int32} {B : Nat → Nat → Int32} (h : TInv N V K J B) (s : SameL J J') : TInv N V K J' B := by
  obtain ⟨h1, h2, h3, h4, h5, h6, h7⟩ := h
  exact ⟨h1, (s 4 (by decide) (by decide)).trans h2, (s 18 (by decide) (by decide)).trans h3, (s 19 (by decide) (by decide)).trans h4, (s 20 (by decide) (by decide)).trans h5, (s 5 (by decide) (by decide)).trans h6, (s 6 (by decide) (by decide)).trans h7⟩
theorem z_max : (2147483647 : Int32).toInt = 2147483647 := by decide
theorem z_min : (-2147483648 : Int32).toInt = -2147483648 := by decide
def AnyP (N : Nat → Nat) (V : Nat → Nat → Int32) (r s : Nat) : Prop := ∃ k i, i < N k ∧ ¬ V k i = -5000 ∧ (k < r ∨ (k = r ∧ i < s))
def AnyV (N : Nat → Nat) (V : Nat → Nat → Int32) : Prop := AnyP N V 4 0
def mnP (N : Nat → Nat) (V : Nat → Nat → Int32) (r s : Nat) : Int32 := if lowR (V r) s < lowA N V r then lowR (V r) s else lowA N V r
def mxP (N : Nat → Nat) (V : Nat → Nat → Int32) (r s : Nat) : Int32 := if highA N V r < highR (V r) s then highR (V r) s else highA N V r
def EInv (N : Nat → Nat) (V : Nat → Nat → Int32) (k i : Nat) (a : Int32) (J : Nat → Int32) : Prop := (a = 1 ∧ AnyP N V k i ∧ J 21 = mnP N V k i ∧ J 22 = mxP N V k i) ∨ (a = 0 ∧ ¬ AnyP N V k i)
section EN
variable {N : Nat → Nat} {V : Nat → Nat → Int32} {K J J1 J2 : Nat → Int32} {k i : Nat} {a : Int32}
theorem low_none : ∀ s, (∀ j, j < s → V k j = -5000) → lowR (V k) s = 2147483647 ∧ highR (V k) s = -2147483648
  | 0, _ => ⟨rfl, rfl⟩
  | s + 1, h => by
    have h1 := h s (by omega)
    have := low_none s (fun j hj => h j (by omega))
    simp only [lowR, highR, if_pos h1]
    exact this
theorem lowA_none : ∀ r, (∀ k, k < r → ∀ j, j < N k → V k j = -5000) → lowA N V r = 2147483647 ∧ highA N V r = -2147483648
  | 0, _ => ⟨rfl, rfl⟩
  | r + 1, h => by
    have h1 := low_none (V := V) (k := r) (N r) (h r (by omega))
    have h2 := lowA_none r (fun k hk => h k (by omega))
    simp only [lowA, highA, h1.1, h1.2, h2.1, h2.2]
    exact ⟨if_neg (by decide), if_neg (by decide)⟩
theorem any_none (hi : i ≤ N k) (h : ¬ AnyP N V k i) : lowA N V k = 2147483647 ∧ highA N V k = -2147483648 ∧ lowR (V k) i = 2147483647 ∧ highR (V k) i = -2147483648 := by
  have h1 := lowA_none (N := N) (V := V) k (fun k' hk' j hj => Classical.byContradiction fun q => h ⟨k', j, hj, q, Or.inl hk'⟩)
  have h2 := low_none (V := V) (k := k) i (fun j hj => Classical.byContradiction fun q => h ⟨k, j, by omega, q, Or.inr ⟨rfl, hj⟩⟩)
  exact ⟨h1.1, h1.2, h2.1, h2.2⟩
theorem any_skip (hv : ¬ (i < N k ∧ ¬ V k i = -5000)) : AnyP N V k (i + 1) ↔ AnyP N V k i := by
  constructor
  · rintro ⟨k', j, hj, q, h | ⟨rfl, h⟩⟩
    · exact ⟨k', j, hj, q, Or.inl h⟩
    · by_cases e : j = i
      · subst e; exact absurd ⟨hj, q⟩ hv
      · exact ⟨k', j, hj, q, Or.inr ⟨rfl, by omega⟩⟩
  · rintro ⟨k', j, hj, q, h | ⟨rfl, h⟩⟩
    · exact ⟨k', j, hj, q, Or.inl h⟩
    · exact ⟨k', j, hj, q, Or.inr ⟨rfl, by omega⟩⟩
theorem any_row : AnyP N V k (N k) ↔ AnyP N V (k + 1) 0 := by
  constructor
  · rintro ⟨k', j, hj, q, h | ⟨rfl, h⟩⟩
    · exact ⟨k', j, hj, q, Or.inl (by omega)⟩
    · exact ⟨k', j, hj, q, Or.inl (by omega)⟩
  · rintro ⟨k', j, hj, q, h | ⟨rfl, h⟩⟩
    · by_cases e : k' = k
      · subst e; exact ⟨k', j, hj, q, Or.inr ⟨rfl, hj⟩⟩
      · exact ⟨k', j, hj, q, Or.inl (by omega)⟩
    · omega
theorem e_skip (hv : V k i = -5000) (h : EInv N V k i a J1) : EInv N V k (i + 1) a J1 := by
  have e1 : lowR (V k) (i + 1) = lowR (V k) i := by simp only [lowR, if_pos hv]
  have e2 : highR (V k) (i + 1) = highR (V k) i := by simp only [highR, if_pos hv]
  have e3 := any_skip (N := N) (V := V) (k := k) (i := i) (fun q => q.2 hv)
  unfold EInv mnP mxP at *
  rw [e1, e2, e3]
  exact h
theorem e_row (h : EInv N V k (N k) a J1) : EInv N V (k + 1) 0 a J1 := by
  have n1 : ∀ x : Int32, ¬ (2147483647 : Int32) < x := fun x q => by rw [lt_T, z_max] at q; have := Int32.toInt_lt x; omega
  have n2 : ∀ x : Int32, ¬ x < (-2147483648 : Int32) := fun x q => by rw [lt_T, z_min] at q; have := Int32.le_toInt x; omega
  rcases h with ⟨h1, h2, h3, h4⟩ | ⟨h1, h2⟩
  · refine Or.inl ⟨h1, any_row.mp h2, ?_, ?_⟩
    · rw [h3, show mnP N V (k + 1) 0 = lowA N V (k + 1) from if_neg (n1 _)]; rfl
    · rw [h4, show mxP N V (k + 1) 0 = highA N V (k + 1) from if_neg (n2 _)]; rfl
  · exact Or.inr ⟨h1, fun q => h2 (any_row.mpr q)⟩
theorem e_val (hi : i < N k) (hv : ¬ V k i = -5000) (hb : -1000 ≤ (V k i).toInt ∧ (V k i).toInt ≤ 1000) (h : EInv N V k i a J1) (h21 : J2 21 = if a = 0 ∨ V k i < J1 21 then V k i else J1 21) (h22 : J2 22 = if a = 0 ∨ J1 22 < V k i then V k i else J1 22) : EInv N V k (i + 1) 1 J2 := by
  refine Or.inl ⟨rfl, ⟨k, i, hi, hv, Or.inr ⟨rfl, by omega⟩⟩, ?_, ?_⟩
  · rw [h21]
    unfold mnP
    simp only [lowR, if_neg hv]
    rcases h with ⟨rfl, -, h3, -⟩ | ⟨rfl, h2⟩
    · rw [h3]
      unfold mnP
      simp only [lt_T]
      generalize V k i = v, lowR (V k) i = x, lowA N V k = y
      have : ¬ (1 : Int32) = 0 := by decide
      simp only [this, false_or]
      by_cases c1 : x.toInt < y.toInt <;> by_cases c2 : v.toInt < x.toInt <;> by_cases c3 : v.toInt < y.toInt <;> simp [c1, c2, c3] <;> omega
    · obtain ⟨a1, -, a3, -⟩ := any_none (by omega) h2
      rw [a1, a3, if_pos (Or.inl rfl), if_pos, if_pos]
      · rw [lt_T, z_max]; omega
      · rw [if_pos] <;> rw [lt_T, z_max] <;> omega
  · rw [h22]
    unfold mxP
    simp only [highR, if_neg hv]
    rcases h with ⟨rfl, -, -, h4⟩ | ⟨rfl, h2⟩
    · rw [h4]
      unfold mxP
      simp only [lt_T]
      generalize V k i = v, highR (V k) i = x, highA N V k = y
      have : ¬ (1 : Int32) = 0 := by decide
      simp only [this, false_or]
      by_cases c1 : y.toInt < x.toInt <;> by_cases c2 : x.toInt < v.toInt <;> by_cases c3 : y.toInt < v.toInt <;> simp [c1, c2, c3] <;> omega
    · obtain ⟨-, a2, -, a4⟩ := any_none (by omega) h2
      rw [a2, a4, if_pos (Or.inl rfl), if_pos, if_pos]
      · rw [lt_T, z_min]; omega
      · rw [if_pos] <;> rw [lt_T, z_min] <;> omega
theorem e_end (h : EInv N V 4 0 a J1) : (a = 1 ∧ AnyV N V ∧ J1 21 = lowA N V 4 ∧ J1 22 = highA N V 4) ∨ (a = 0 ∧ ¬ AnyV N V) := by
  have n1 : ∀ x : Int32, ¬ (2147483647 : Int32) < x := fun x q => by rw [lt_T, z_max] at q; have := Int32.toInt_lt x; omega
  have n2 : ∀ x : Int32, ¬ x < (-2147483648 : Int32) := fun x q => by rw [lt_T, z_min] at q; have := Int32.le_toInt x; omega
  rcases h with ⟨h1, h2, h3, h4⟩ | ⟨h1, h2⟩
  · refine Or.inl ⟨h1, h2, ?_, ?_⟩
    · rw [h3]; exact if_neg (n1 _)
    · rw [h4]; exact if_neg (n2 _)
  · exact Or.inr ⟨h1, h2⟩
end EN
def EQ (N : Nat → Nat) (V : Nat → Nat → Int32) (J : Nat → Int32) (B : Nat → Nat → Int32) : QT := fun v h' => ∃ J', h' = hT J' B ∧ SameL J J' ∧ ((v = some (.int 1) ∧ AnyV N V ∧ J' 21 = lowA N V 4 ∧ J' 22 = highA N V 4) ∨ (v = some (.int 0) ∧ ¬ AnyV N V))
end
section

set_option maxHeartbeats 4000000 in
set_option maxRecDepth 100000 in
theorem l_T_ends1 (N : Nat → Nat) (V : Nat → Nat → Int32) (K : Nat → Int32) (J : Nat → Int32) (B : Nat → Nat → Int32) (hI : TInv N V K J B) (hP : PInv N V K) {Q : QT} {k : Nat} (hk : k < 4) : ∀ (n : Nat) (i : Nat) (a : Int32) (J1 : Nat → Int32), i + n = N k → SameL J J1 → EInv N V k i a J1 → (∀ (a2 : Int32) (J2 : Nat → Int32), SameL J J2 → EInv N V k (N k) a2 J2 → AN kT_ends 4 Q 87 [some (.ref 0), some (.int a2), some (.int (nI k)), none, none] [] (hT J2 B)) → AN kT_ends 4 Q 11 [some (.ref 0), some (.int a), some (.int (nI k)), some (.int (nI i)), none] [] (hT J1 B) := by
  intro n
  induction n with
  | zero =>
    intro i a J1 hin hS hE kk
    have hN := hI.n k hk
    have h1 := tinv_sl hI hS
    refine aw_iload_n dT_ends_11 rfl ?_
    refine aw_aload_r dT_ends_12 rfl ?_
    refine aw_get fg_T_7 dT_ends_13 rfl rfl ?_
    refine aw_iload_n dT_ends_16 rfl ?_
    refine an_ldT dT_ends_17 at_1 rfl hk (by decide) ?_
    rw [(h1.1 k hk).2.1]
    refine aw_icmp_ge (tgt := 87) dT_ends_18 (by decide) (fun c18 => ?_) (fun c18 => absurd (by rw [show i = N k by omega]; exact Int32.le_refl _) c18)
    exact an_weak (kk a J1 hS (by rw [← show i = N k by omega]; exact hE)) ⟨rfl, rfl, rfl, trivial⟩
  | succ n ih =>
    intro i a J1 hin hS hE kk
    have hN := hI.n k hk
    have h1 := tinv_sl hI hS
    have hil : i < N k := by omega
    rcases id hE with ⟨rfl, -⟩ | ⟨rfl, -⟩
    · refine aw_iload_n dT_ends_11 rfl ?_
      refine aw_aload_r dT_ends_12 rfl ?_
      refine aw_get fg_T_7 dT_ends_13 rfl rfl ?_
      refine aw_iload_n dT_ends_16 rfl ?_
      refine an_ldT dT_ends_17 at_1 rfl hk (by decide) ?_
      rw [(h1.1 k hk).2.1]
      refine aw_icmp_ge (tgt := 87) dT_ends_18 (by decide) (fun c18 => absurd c18 (nI_ge (by omega) (by omega))) (fun c18 => ?_)
      refine aw_aload_r dT_ends_21 rfl ?_
      refine aw_iload_n dT_ends_22 rfl ?_
      refine aw_iload_n dT_ends_23 rfl ?_
      refine an_callVb cg_T_91 (c_T_hasValue _ _ _ _ _ h1 _ _) dT_ends_24 rfl rfl rfl rfl rfl (Nat.le_of_ble_eq_true rfl) (Nat.le_of_ble_eq_true rfl) (fun p24 => ?_) (fun p24 => ?_)
      · refine aw_if_ne (tgt := 33) dT_ends_27 (by decide) (fun _ => ?_) (fun q => absurd q (by decide))
        have hv : ¬ V k i = -5000 := by
          obtain ⟨i2, hi2, e2, hv2⟩ := hv_i hI.n hk p24
          rw [nI_inj (by omega) (by omega) e2]; exact hv2
        refine aw_aload_r dT_ends_33 rfl ?_
        refine aw_iload_n dT_ends_34 rfl ?_
        refine aw_iload_n dT_ends_35 rfl ?_
        refine an_callVr cg_T_88 (c_T_valueAt _ _ _ _ _ h1 hk (by omega)) dT_ends_36 rfl rfl rfl rfl rfl (Nat.le_of_ble_eq_true rfl) (Nat.le_of_ble_eq_true rfl) ?_
        refine aw_istore dT_ends_39 (by decide) ?_
        refine aw_iload_n dT_ends_41 rfl ?_
        refine aw_if_eq (tgt := 54) dT_ends_42 (by decide) (fun q => absurd q (by decide)) (fun _ => ?_)
        refine aw_iload dT_ends_45 rfl ?_
        refine aw_aload_r dT_ends_47 rfl ?_
        refine aw_get fg_T_135 dT_ends_48 rfl rfl ?_
        refine aw_icmp_ge (tgt := 60) dT_ends_51 (by decide) (fun c51 => ?_) (fun c51 => ?_)
        · refine aw_iload_n dT_ends_60 rfl ?_
          refine aw_if_eq (tgt := 73) dT_ends_61 (by decide) (fun q => absurd q (by decide)) (fun _ => ?_)
          refine aw_iload dT_ends_64 rfl ?_
          refine aw_aload_r dT_ends_66 rfl ?_
          refine aw_get fg_T_138 dT_ends_67 rfl rfl ?_
          refine aw_icmp_le (tgt := 79) dT_ends_70 (by decide) (fun c70 => ?_) (fun c70 => ?_)
          · refine aw_iconst (v := 1) dT_ends_79 (by decide) ?_
            refine aw_istore_n dT_ends_80 (by decide) ?_
            refine aw_iinc dT_ends_81 rfl (nI_1 i) (by decide) ?_
            refine aw_goto (tgt := 11) dT_ends_84 (by decide) ?_
            exact an_weak (ih (i + 1) 1 J1 (by omega) hS (e_val (J2 := J1) hil hv (hP.val hk hil hv) hE (if_neg (fun q => q.elim (by decide) (fun z => absurd c51 (Int32.not_le.mpr z)))).symm (if_neg (fun q => q.elim (by decide) (fun z => absurd c70 (Int32.not_le.mpr z)))).symm) kk) ⟨rfl, rfl, rfl, rfl, trivial⟩
          · refine aw_aload_r dT_ends_73 rfl ?_
            refine aw_iload dT_ends_74 rfl ?_
            refine an_putT fp_T_138 dT_ends_76 (by decide) ?_
            refine aw_iconst (v := 1) dT_ends_79 (by decide) ?_
            refine aw_istore_n dT_ends_80 (by decide) ?_
            refine aw_iinc dT_ends_81 rfl (nI_1 i) (by decide) ?_
            refine aw_goto (tgt := 11) dT_ends_84 (by decide) ?_
            exact an_weak (ih (i + 1) 1 (upd J1 22 (V k i)) (by omega) (hS.u22 _) (e_val (J2 := (upd J1 22 (V k i))) hil hv (hP.val hk hil hv) hE (if_neg (fun q => q.elim (by decide) (fun z => absurd c51 (Int32.not_le.mpr z)))).symm (if_pos (Or.inr (Int32.not_le.mp c70))).symm) kk) ⟨rfl, rfl, rfl, rfl, trivial⟩
        · refine aw_aload_r dT_ends_54 rfl ?_
          refine aw_iload dT_ends_55 rfl ?_
          refine an_putT fp_T_135 dT_ends_57 (by decide) ?_
          refine aw_iload_n dT_ends_60 rfl ?_
          refine aw_if_eq (tgt := 73) dT_ends_61 (by decide) (fun q => absurd q (by decide)) (fun _ => ?_)
          refine aw_iload dT_ends_64 rfl ?_
          refine aw_aload_r dT_ends_66 rfl ?_
          refine aw_get fg_T_138 dT_ends_67 rfl rfl ?_
          refine aw_icmp_le (tgt := 79) dT_ends_70 (by decide) (fun c70 => ?_) (fun c70 => ?_)
          · refine aw_iconst (v := 1) dT_ends_79 (by decide) ?_
            refine aw_istore_n dT_ends_80 (by decide) ?_
            refine aw_iinc dT_ends_81 rfl (nI_1 i) (by decide) ?_
            refine aw_goto (tgt := 11) dT_ends_84 (by decide) ?_
            exact an_weak (ih (i + 1) 1 (upd J1 21 (V k i)) (by omega) (hS.u21 _) (e_val (J2 := (upd J1 21 (V k i))) hil hv (hP.val hk hil hv) hE (if_pos (Or.inr (Int32.not_le.mp c51))).symm (if_neg (fun q => q.elim (by decide) (fun z => absurd c70 (Int32.not_le.mpr z)))).symm) kk) ⟨rfl, rfl, rfl, rfl, trivial⟩
          · refine aw_aload_r dT_ends_73 rfl ?_
            refine aw_iload dT_ends_74 rfl ?_
            refine an_putT fp_T_138 dT_ends_76 (by decide) ?_
            refine aw_iconst (v := 1) dT_ends_79 (by decide) ?_
            refine aw_istore_n dT_ends_80 (by decide) ?_
            refine aw_iinc dT_ends_81 rfl (nI_1 i) (by decide) ?_
            refine aw_goto (tgt := 11) dT_ends_84 (by decide) ?_
            exact an_weak (ih (i + 1) 1 (upd (upd J1 21 (V k i)) 22 (V k i)) (by omega) ((hS.u21 _).u22 _) (e_val (J2 := (upd (upd J1 21 (V k i)) 22 (V k i))) hil hv (hP.val hk hil hv) hE (if_pos (Or.inr (Int32.not_le.mp c51))).symm (if_pos (Or.inr (Int32.not_le.mp c70))).symm) kk) ⟨rfl, rfl, rfl, rfl, trivial⟩
      · refine aw_if_ne (tgt := 33) dT_ends_27 (by decide) (fun q => absurd q (by decide)) (fun _ => ?_)
        refine aw_goto (tgt := 81) dT_ends_30 (by decide) ?_
        refine aw_iinc dT_ends_81 rfl (nI_1 i) (by decide) ?_
        refine aw_goto (tgt := 11) dT_ends_84 (by decide) ?_
        exact an_weak (ih (i + 1) _ J1 (by omega) hS (e_skip (Classical.byContradiction fun q => p24 ⟨k, i, hk, hil, rfl, rfl, q⟩) hE) kk) ⟨rfl, rfl, rfl, rfl, trivial⟩
    · refine aw_iload_n dT_ends_11 rfl ?_
      refine aw_aload_r dT_ends_12 rfl ?_
      refine aw_get fg_T_7 dT_ends_13 rfl rfl ?_
      refine aw_iload_n dT_ends_16 rfl ?_
      refine an_ldT dT_ends_17 at_1 rfl hk (by decide) ?_
      rw [(h1.1 k hk).2.1]
      refine aw_icmp_ge (tgt := 87) dT_ends_18 (by decide) (fun c18 => absurd c18 (nI_ge (by omega) (by omega))) (fun c18 => ?_)
      refine aw_aload_r dT_ends_21 rfl ?_
      refine aw_iload_n dT_ends_22 rfl ?_
      refine aw_iload_n dT_ends_23 rfl ?_
      refine an_callVb cg_T_91 (c_T_hasValue _ _ _ _ _ h1 _ _) dT_ends_24 rfl rfl rfl rfl rfl (Nat.le_of_ble_eq_true rfl) (Nat.le_of_ble_eq_true rfl) (fun p24 => ?_) (fun p24 => ?_)
      · refine aw_if_ne (tgt := 33) dT_ends_27 (by decide) (fun _ => ?_) (fun q => absurd q (by decide))
        have hv : ¬ V k i = -5000 := by
          obtain ⟨i2, hi2, e2, hv2⟩ := hv_i hI.n hk p24
          rw [nI_inj (by omega) (by omega) e2]; exact hv2
        refine aw_aload_r dT_ends_33 rfl ?_
        refine aw_iload_n dT_ends_34 rfl ?_
        refine aw_iload_n dT_ends_35 rfl ?_
        refine an_callVr cg_T_88 (c_T_valueAt _ _ _ _ _ h1 hk (by omega)) dT_ends_36 rfl rfl rfl rfl rfl (Nat.le_of_ble_eq_true rfl) (Nat.le_of_ble_eq_true rfl) ?_
        refine aw_istore dT_ends_39 (by decide) ?_
        refine aw_iload_n dT_ends_41 rfl ?_
        refine aw_if_eq (tgt := 54) dT_ends_42 (by decide) (fun _ => ?_) (fun q => absurd q (by decide))
        refine aw_aload_r dT_ends_54 rfl ?_
        refine aw_iload dT_ends_55 rfl ?_
        refine an_putT fp_T_135 dT_ends_57 (by decide) ?_
        refine aw_iload_n dT_ends_60 rfl ?_
        refine aw_if_eq (tgt := 73) dT_ends_61 (by decide) (fun _ => ?_) (fun q => absurd q (by decide))
        refine aw_aload_r dT_ends_73 rfl ?_
        refine aw_iload dT_ends_74 rfl ?_
        refine an_putT fp_T_138 dT_ends_76 (by decide) ?_
        refine aw_iconst (v := 1) dT_ends_79 (by decide) ?_
        refine aw_istore_n dT_ends_80 (by decide) ?_
        refine aw_iinc dT_ends_81 rfl (nI_1 i) (by decide) ?_
        refine aw_goto (tgt := 11) dT_ends_84 (by decide) ?_
        exact an_weak (ih (i + 1) 1 (upd (upd J1 21 (V k i)) 22 (V k i)) (by omega) ((hS.u21 _).u22 _) (e_val (J2 := (upd (upd J1 21 (V k i)) 22 (V k i))) hil hv (hP.val hk hil hv) hE (if_pos (Or.inl rfl)).symm (if_pos (Or.inl rfl)).symm) kk) ⟨rfl, rfl, rfl, rfl, trivial⟩
      · refine aw_if_ne (tgt := 33) dT_ends_27 (by decide) (fun q => absurd q (by decide)) (fun _ => ?_)
        refine aw_goto (tgt := 81) dT_ends_30 (by decide) ?_
        refine aw_iinc dT_ends_81 rfl (nI_1 i) (by decide) ?_
        refine aw_goto (tgt := 11) dT_ends_84 (by decide) ?_
        exact an_weak (ih (i + 1) _ J1 (by omega) hS (e_skip (Classical.byContradiction fun q => p24 ⟨k, i, hk, hil, rfl, rfl, q⟩) hE) kk) ⟨rfl, rfl, rfl, rfl, trivial⟩

set_option maxHeartbeats 4000000 in
set_option maxRecDepth 100000 in
theorem l_T_ends2 (N : Nat → Nat) (V : Nat → Nat → Int32) (K : Nat → Int32) (J : Nat → Int32) (B : Nat → Nat → Int32) (hI : TInv N V K J B) (hP : PInv N V K) : ∀ (n : Nat) (k : Nat) (a : Int32) (J1 : Nat → Int32), k + n = 4 → SameL J J1 → EInv N V k 0 a J1 → AN kT_ends 4 (EQ N V J B) 4 [some (.ref 0), some (.int a), some (.int (nI k)), none, none] [] (hT J1 B) := by
  intro n
  induction n with
  | zero =>
    intro k a J1 hin hS hE
    have hk4 : k = 4 := by omega
    subst hk4
    rcases e_end hE with ⟨rfl, h2, h3, h4⟩ | ⟨rfl, h2⟩
    · refine aw_iload_n dT_ends_4 rfl ?_
      refine aw_iconst (v := 4) dT_ends_5 (by decide) ?_
      refine aw_icmp_ge (tgt := 93) dT_ends_6 (by decide) (fun c6 => ?_) (fun c6 => absurd (by decide) c6)
      refine aw_iload_n dT_ends_93 rfl ?_
      exact aw_zret rfl (Or.inr rfl) dT_ends_94 ⟨J1, rfl, hS, Or.inl ⟨rfl, h2, h3, h4⟩⟩
    · refine aw_iload_n dT_ends_4 rfl ?_
      refine aw_iconst (v := 4) dT_ends_5 (by decide) ?_
      refine aw_icmp_ge (tgt := 93) dT_ends_6 (by decide) (fun c6 => ?_) (fun c6 => absurd (by decide) c6)
      refine aw_iload_n dT_ends_93 rfl ?_
      exact aw_zret rfl (Or.inl rfl) dT_ends_94 ⟨J1, rfl, hS, Or.inr ⟨rfl, h2⟩⟩
  | succ n ih =>
    intro k a J1 hin hS hE
    have hk : k < 4 := by omega
    refine aw_iload_n dT_ends_4 rfl ?_
    refine aw_iconst (v := 4) dT_ends_5 (by decide) ?_
    refine aw_icmp_ge (tgt := 93) dT_ends_6 (by decide) (fun c6 => absurd c6 (nI_ge (b := 4) (by omega) (by omega))) (fun c6 => ?_)
    refine aw_iconst (v := 0) dT_ends_9 (by decide) ?_
    refine aw_istore_n dT_ends_10 (by decide) ?_
    refine an_weak (l_T_ends1 N V K J B hI hP hk (N k) 0 a J1 (by omega) hS hE (fun a2 J2 hS2 hE2 => ?_)) ⟨rfl, rfl, rfl, rfl, trivial⟩
    refine aw_iinc dT_ends_87 rfl (nI_1 k) (by decide) ?_
    refine aw_goto (tgt := 4) dT_ends_90 (by decide) ?_
    exact an_weak (ih (k + 1) a2 J2 (by omega) hS2 (e_row hE2)) ⟨rfl, rfl, rfl, trivial⟩

set_option maxHeartbeats 4000000 in
set_option maxRecDepth 100000 in
theorem c_T_ends (N : Nat → Nat) (V : Nat → Nat → Int32) (K : Nat → Int32) (J : Nat → Int32) (B : Nat → Nat → Int32) (hI : TInv N V K J B) (hP : PInv N V K) : AM kT_ends 4 [.ref 0] (hT J B) (EQ N V J B) := by
  refine AMet.of (by decide) (by simp [Value.category]) (Nat.le_of_ble_eq_true rfl) ?_
  refine aw_iconst (v := 0) dT_ends_0 (by decide) ?_
  refine aw_istore_n dT_ends_1 (by decide) ?_
  refine aw_iconst (v := 0) dT_ends_2 (by decide) ?_
  refine aw_istore_n dT_ends_3 (by decide) ?_
  exact an_weak (l_T_ends2 N V K J B hI hP 4 0 0 J (by omega) SameL.rf (Or.inr ⟨rfl, fun ⟨k, i, _, _, h⟩ => by omega⟩)) ⟨rfl, rfl, rfl, trivial⟩
end
section
/-! the scale and the heights -/
theorem i_div {a b : Int32} (ha : 0 ≤ a.toInt) (hb : 0 < b.toInt) : (a / b).toInt = a.toInt / b.toInt := by
  have h1 : a.toInt.tdiv b.toInt = a.toInt / b.toInt := Int.tdiv_eq_ediv_of_nonneg ha
  have h2 : a.toInt / b.toInt ≤ a.toInt := Int.ediv_le_self _ ha
  have h3 : 0 ≤ a.toInt / b.toInt := Int.ediv_nonneg ha (by omega)
  have h4 := Int32.toInt_lt a
  rw [Int32.toInt_div, h1]
  exact Int.bmod_eq_of_le (by omega) (by omega)
section SC
variable {N : Nat → Nat} {V : Nat → Nat → Int32} {K : Nat → Int32}
theorem lowR_le {v : Nat → Int32} : ∀ (n i : Nat), i < n → ¬ v i = -5000 → (lowR v n).toInt ≤ (v i).toInt ∧ (v i).toInt ≤ (highR v n).toInt
  | 0, i, h, _ => by omega
  | n + 1, i, h, hv => by
    by_cases e : i = n
    · subst e
      simp only [lowR, highR, if_neg hv, lt_T]
      constructor
      · split <;> omega
      · split <;> omega
    · have := lowR_le n i (by omega) hv
      simp only [lowR, highR, lt_T]
      constructor
      · split
        · exact this.1
        · split <;> omega
      · split
        · exact this.2
        · split <;> omega
theorem lowA_le : ∀ (r k : Nat), k < r → (lowA N V r).toInt ≤ (lowR (V k) (N k)).toInt ∧ (highR (V k) (N k)).toInt ≤ (highA N V r).toInt
  | 0, k, h => by omega
  | r + 1, k, h => by
    by_cases e : k = r
    · subst e
      simp only [lowA, highA, lt_T]
      constructor <;> split <;> omega
    · have := lowA_le r k (by omega)
      simp only [lowA, highA, lt_T]
      constructor <;> split <;> omega
theorem any_le (h : AnyV N V) : (lowA N V 4).toInt ≤ (highA N V 4).toInt := by
  obtain ⟨k, i, hi, hv, h | h⟩ := h
  · have h1 := lowR_le (v := V k) (N k) i hi hv
    have h2 := lowA_le (N := N) (V := V) 4 k h
    omega
  · omega
theorem any_iff : AnyV N V ↔ ¬ highA N V 4 < lowA N V 4 := by
  constructor
  · intro h q
    rw [lt_T] at q
    have := any_le h
    omega
  · intro h
    by_cases q : AnyV N V
    · exact q
    · obtain ⟨a1, a2, -, -⟩ := any_none (k := 4) (i := 0) (Nat.zero_le _) q
      rw [a1, a2] at h
      exact absurd (by decide) h
theorem any_hv {r s : Int32} (h : HV N V r s) : AnyV N V := by
  obtain ⟨k, i, hk, hi, -, -, hv⟩ := h
  exact ⟨k, i, hi, hv, Or.inl hk⟩
noncomputable def sp_scale (N : Nat → Nat) (V : Nat → Nat → Int32) (K : Nat → Int32) (d ap : Int32) : RS := cif (In d 1 2000 ∧ In ap 1 20) (cif (AnyV N V ∧ ¬ d / ap = 0 ∧ (highA N V 4 - lowA N V 4) / (d / ap) + 1 ≤ 60) (d / ap, N, V, upd K 9 (d / ap)) (-2, N, V, K)) (-1, N, V, K)
theorem sc_nz {ap : Int32} (h : In ap 1 20) : ¬ ap = 0 := fun q => by
  unfold In at h; rw [q, z_1, z_0] at h; omega
theorem sc_g {d ap : Int32} (h : In d 1 2000) (h2 : In ap 1 20) : 0 ≤ (d / ap).toInt ∧ (d / ap).toInt ≤ 2000 := by
  unfold In at h h2; rw [z_1, z_2000] at h; rw [z_1, z_20] at h2
  rw [i_div (by omega) (by omega)]
  have h3 := Int.ediv_le_self (b := ap.toInt) (a := d.toInt) (by omega)
  have h4 := Int.ediv_nonneg (a := d.toInt) (b := ap.toInt) (by omega) (by omega)
  omega
theorem sc_lt {d ap : Int32} (h : In d 1 2000) (h2 : In ap 1 20) : d / ap < 1 ↔ d / ap = 0 := by
  have := sc_g h h2
  rw [lt_T, ← Int32.toInt_inj, z_1, z_0]
  omega
noncomputable def hgtE (N : Nat → Nat) (V : Nat → Nat → Int32) (K : Nat → Int32) (r s : Int32) : Int32 := cif (¬ K 9 = 0 ∧ HV N V r s) ((V (rn r) (rn s) - lowA N V 4) / K 9) (-1)
theorem k9_lt (h : PInv N V K) : K 9 < 1 ↔ K 9 = 0 := by
  have q := h.2.2.1
  unfold In at q; rw [z_0] at q
  rw [lt_T, ← Int32.toInt_inj, z_1, z_0]
  omega
noncomputable def sp_height (N : Nat → Nat) (V : Nat → Nat → Int32) (K : Nat → Int32) (r s : Int32) : RS := (hgtE N V K r s, N, V, K)
def HQ (E : Int32) (J : Nat → Int32) (B : Nat → Nat → Int32) : QT := fun v h' => v = some (.int E) ∧ ∃ J', h' = hT J' B ∧ SameL J J'
end SC
end
section
set_option maxHeartbeats 4000000 in
set_option maxRecDepth 100000 in
theorem c_E_scale (N : Nat → Nat) (V : Nat → Nat → Int32) (K : Nat → Int32) (I : Nat → Int32) (A : Nat → Nat → Int32) (hI : CInv N V K I A) (hP : PInv N V K) (d ap : Int32) : AM kE_scale 4 [.ref 0, .int d, .int ap] (hC I A) (CR (sp_scale N V K d ap)) := by
  refine AMet.of (by decide) (by simp [Value.category]) (Nat.le_of_ble_eq_true rfl) ?_
  refine aw_iload_n dE_scale_0 rfl ?_
  refine aw_iconst (v := 1) dE_scale_1 (by decide) ?_
  refine aw_sipush (v := 2000) dE_scale_2 (by decide) ?_
  refine an_callSb cg_E_82 (c_E_within _ _ _ _) dE_scale_5 rfl rfl (Nat.le_of_ble_eq_true rfl) (Nat.le_of_ble_eq_true rfl) (fun p5 => ?_) (fun p5 => ?_)
  · refine aw_if_eq (tgt := 21) dE_scale_8 (by decide) (fun q => absurd q (by decide)) (fun _ => ?_)
    refine aw_iload_n dE_scale_11 rfl ?_
    refine aw_iconst (v := 1) dE_scale_12 (by decide) ?_
    refine aw_bipush (v := 20) dE_scale_13 (by decide) ?_
    refine an_callSb cg_E_82 (c_E_within _ _ _ _) dE_scale_15 rfl rfl (Nat.le_of_ble_eq_true rfl) (Nat.le_of_ble_eq_true rfl) (fun p15 => ?_) (fun p15 => ?_)
    · refine aw_if_ne (tgt := 23) dE_scale_18 (by decide) (fun _ => ?_) (fun q => absurd q (by decide))
      refine aw_iload_n dE_scale_23 rfl ?_
      refine aw_iload_n dE_scale_24 rfl ?_
      refine aw_idiv dE_scale_25 (sc_nz p15) ?_
      refine aw_istore_n dE_scale_26 (by decide) ?_
      refine aw_aload_r dE_scale_27 rfl ?_
      refine an_callVr cg_E_134 (c_E_lowestValue _ _ _ _ _ hI) dE_scale_28 rfl rfl rfl rfl rfl (Nat.le_of_ble_eq_true rfl) (Nat.le_of_ble_eq_true rfl) ?_
      refine aw_istore dE_scale_31 (by decide) ?_
      refine aw_aload_r dE_scale_33 rfl ?_
      refine an_callVr cg_E_138 (c_E_highestValue _ _ _ _ _ hI) dE_scale_34 rfl rfl rfl rfl rfl (Nat.le_of_ble_eq_true rfl) (Nat.le_of_ble_eq_true rfl) ?_
      refine aw_istore dE_scale_37 (by decide) ?_
      refine aw_iload dE_scale_39 rfl ?_
      refine aw_iload dE_scale_41 rfl ?_
      refine aw_icmp_gt (tgt := 65) dE_scale_43 (by decide) (fun c43 => ?_) (fun c43 => ?_)
      · refine aw_bipush (v := (-2)) dE_scale_65 (by decide) ?_
        exact aw_iret rfl dE_scale_67 (by unfold sp_scale; rw [cif_t ⟨p5, p15⟩, cif_f (fun q => any_iff.mp q.1 c43)]; exact ⟨rfl, I, A, rfl, hI⟩)
      · refine aw_iload_n dE_scale_46 rfl ?_
        refine aw_iconst (v := 1) dE_scale_47 (by decide) ?_
        refine aw_icmp_lt (tgt := 65) dE_scale_48 (by decide) (fun c48 => ?_) (fun c48 => ?_)
        · refine aw_bipush (v := (-2)) dE_scale_65 (by decide) ?_
          exact aw_iret rfl dE_scale_67 (by unfold sp_scale; rw [cif_t ⟨p5, p15⟩, cif_f (fun q => q.2.1 ((sc_lt p5 p15).mp c48))]; exact ⟨rfl, I, A, rfl, hI⟩)
        · refine aw_iload dE_scale_51 rfl ?_
          refine aw_iload dE_scale_53 rfl ?_
          refine aw_isub dE_scale_55 ?_
          refine aw_iload_n dE_scale_56 rfl ?_
          refine aw_idiv dE_scale_57 (fun q => c48 ((sc_lt p5 p15).mpr q)) ?_
          refine aw_iconst (v := 1) dE_scale_58 (by decide) ?_
          refine aw_iadd dE_scale_59 ?_
          refine aw_bipush (v := 60) dE_scale_60 (by decide) ?_
          refine aw_icmp_le (tgt := 68) dE_scale_62 (by decide) (fun c62 => ?_) (fun c62 => ?_)
          · refine aw_aload_r dE_scale_68 rfl ?_
            refine aw_iload_n dE_scale_69 rfl ?_
            refine an_putE fp_E_45 dE_scale_70 (by decide) ?_
            refine aw_iload_n dE_scale_73 rfl ?_
            exact aw_iret rfl dE_scale_74 (by unfold sp_scale; rw [cif_t ⟨p5, p15⟩, cif_t ⟨any_iff.mpr c43, fun q => c48 ((sc_lt p5 p15).mpr q), c62⟩]; exact ⟨rfl, _, _, rfl, cinv_9 hI _⟩)
          · refine aw_bipush (v := (-2)) dE_scale_65 (by decide) ?_
            exact aw_iret rfl dE_scale_67 (by unfold sp_scale; rw [cif_t ⟨p5, p15⟩, cif_f (fun q => c62 q.2.2)]; exact ⟨rfl, I, A, rfl, hI⟩)
    · refine aw_if_ne (tgt := 23) dE_scale_18 (by decide) (fun q => absurd q (by decide)) (fun _ => ?_)
      refine aw_iconst (v := (-1)) dE_scale_21 (by decide) ?_
      exact aw_iret rfl dE_scale_22 (by unfold sp_scale; rw [cif_f (fun q => p15 q.2)]; exact ⟨rfl, I, A, rfl, hI⟩)
  · refine aw_if_eq (tgt := 21) dE_scale_8 (by decide) (fun _ => ?_) (fun q => absurd q (by decide))
    refine aw_iconst (v := (-1)) dE_scale_21 (by decide) ?_
    exact aw_iret rfl dE_scale_22 (by unfold sp_scale; rw [cif_f (fun q => p5 q.1)]; exact ⟨rfl, I, A, rfl, hI⟩)

set_option maxHeartbeats 4000000 in
set_option maxRecDepth 100000 in
theorem c_E_heightAbove (N : Nat → Nat) (V : Nat → Nat → Int32) (K : Nat → Int32) (I : Nat → Int32) (A : Nat → Nat → Int32) (hI : CInv N V K I A) (hP : PInv N V K) {k : Nat} (hk : k < 4) (s : Int32) : AM kE_heightAbove 2 [.ref 0, .int (lowA N V 4), .ref (2 + 2 * k), .int s] (hC I A) (RQ (hgtE N V K (nI k) s) (hC I A)) := by
  refine AMet.of (by decide) (by simp [Value.category]) (Nat.le_of_ble_eq_true rfl) ?_
  refine aw_aload_r dE_heightAbove_0 rfl ?_
  refine aw_get fg_E_45 dE_heightAbove_1 rfl rfl ?_
  show AN _ _ _ _ _ (.int (I 6) :: _) _
  rw [hI.2.2.1]
  refine aw_iconst (v := 1) dE_heightAbove_4 (by decide) ?_
  refine aw_icmp_lt (tgt := 16) dE_heightAbove_5 (by decide) (fun c5 => ?_) (fun c5 => ?_)
  · refine aw_iconst (v := (-1)) dE_heightAbove_16 (by decide) ?_
    refine aw_goto (tgt := 33) dE_heightAbove_17 (by decide) ?_
    exact aw_iret rfl dE_heightAbove_33 (by unfold hgtE; rw [cif_f (fun q => q.1 ((k9_lt hP).mp c5))]; exact ⟨rfl, rfl⟩)
  · refine aw_aload_r dE_heightAbove_8 rfl ?_
    refine aw_iload_n dE_heightAbove_9 rfl ?_
    refine an_callVb cg_E_154 (c_R_hasValue _ _ _ _ _ hI hk _) dE_heightAbove_10 rfl (hC_row _ _ hk) rfl rfl rfl (Nat.le_of_ble_eq_true rfl) (Nat.le_of_ble_eq_true rfl) (fun p10 => ?_) (fun p10 => ?_)
    · refine aw_if_ne (tgt := 20) dE_heightAbove_13 (by decide) (fun _ => ?_) (fun q => absurd q (by decide))
      have hN := hI.n k hk
      obtain ⟨i, hi, rfl, hv⟩ := hv_i hI.n hk p10
      refine aw_aload_r dE_heightAbove_20 rfl ?_
      refine an_getR hk fg_E_75 dE_heightAbove_21 rfl ?_
      refine aw_iload_n dE_heightAbove_24 rfl ?_
      refine an_ldC dE_heightAbove_25 (ac_val hk) rfl (by omega) (by decide) ?_
      rw [(hI.1 k hk).2.2.2.2 i (by omega)]
      refine aw_iload_n dE_heightAbove_26 rfl ?_
      refine aw_isub dE_heightAbove_27 ?_
      refine aw_aload_r dE_heightAbove_28 rfl ?_
      refine aw_get fg_E_45 dE_heightAbove_29 rfl rfl ?_
      show AN _ _ _ _ _ (.int (I 6) :: _) _
      rw [hI.2.2.1]
      refine aw_idiv dE_heightAbove_32 (fun q => c5 ((k9_lt hP).mpr q)) ?_
      exact aw_iret rfl dE_heightAbove_33 (by unfold hgtE; rw [cif_t ⟨fun q => c5 ((k9_lt hP).mpr q), p10⟩, rn_n (by omega), rn_n (by omega)]; exact ⟨rfl, rfl⟩)
    · refine aw_if_ne (tgt := 20) dE_heightAbove_13 (by decide) (fun q => absurd q (by decide)) (fun _ => ?_)
      refine aw_iconst (v := (-1)) dE_heightAbove_16 (by decide) ?_
      refine aw_goto (tgt := 33) dE_heightAbove_17 (by decide) ?_
      exact aw_iret rfl dE_heightAbove_33 (by unfold hgtE; rw [cif_f (fun q => p10 q.2)]; exact ⟨rfl, rfl⟩)

set_option maxHeartbeats 4000000 in
set_option maxRecDepth 100000 in
theorem c_E_height (N : Nat → Nat) (V : Nat → Nat → Int32) (K : Nat → Int32) (I : Nat → Int32) (A : Nat → Nat → Int32) (hI : CInv N V K I A) (hP : PInv N V K) (r s : Int32) : AM kE_height 4 [.ref 0, .int r, .int s] (hC I A) (CR (sp_height N V K r s)) := by
  refine AMet.of (by decide) (by simp [Value.category]) (Nat.le_of_ble_eq_true rfl) ?_
  refine aw_aload_r dE_height_0 rfl ?_
  refine aw_iload_n dE_height_1 rfl ?_
  refine an_callVx cg_E_60 (c_E_rowOf _ _ _) dE_height_2 rfl rfl rfl rfl rfl (Nat.le_of_ble_eq_true rfl) (Nat.le_of_ble_eq_true rfl) ?_
  rintro _ _ ⟨rfl, ⟨k, hk, ek, rfl⟩ | ⟨nk, rfl⟩⟩
  · refine an_astore_r dE_height_5 (by decide) ?_
    refine aw_aload_r dE_height_6 rfl ?_
    refine an_ifnonnull_r (tgt := 14) dE_height_7 (by decide) ?_
    subst ek
    refine aw_aload_r dE_height_14 rfl ?_
    refine aw_aload_r dE_height_15 rfl ?_
    refine an_callVr cg_E_134 (c_E_lowestValue _ _ _ _ _ hI) dE_height_16 rfl rfl rfl rfl rfl (Nat.le_of_ble_eq_true rfl) (Nat.le_of_ble_eq_true rfl) ?_
    refine aw_aload_r dE_height_19 rfl ?_
    refine aw_iload_n dE_height_20 rfl ?_
    refine an_callVr cg_E_141 (c_E_heightAbove _ _ _ _ _ hI hP hk _) dE_height_21 rfl rfl rfl rfl rfl (Nat.le_of_ble_eq_true rfl) (Nat.le_of_ble_eq_true rfl) ?_
    exact aw_iret rfl dE_height_24 ⟨rfl, I, A, rfl, hI⟩
  · refine an_astore_0 dE_height_5 (by decide) ?_
    refine an_aload_0 dE_height_6 rfl ?_
    refine an_ifnonnull_0 (tgt := 14) dE_height_7 (by decide) ?_
    refine aw_iconst (v := (-1)) dE_height_10 (by decide) ?_
    refine aw_goto (tgt := 24) dE_height_11 (by decide) ?_
    exact aw_iret rfl dE_height_24 (by unfold sp_height hgtE; rw [cif_f (fun q => nk (hv_row q.2))]; exact ⟨rfl, I, A, rfl, hI⟩)

set_option maxHeartbeats 4000000 in
set_option maxRecDepth 100000 in
theorem c_T_scale (N : Nat → Nat) (V : Nat → Nat → Int32) (K : Nat → Int32) (J : Nat → Int32) (B : Nat → Nat → Int32) (hI : TInv N V K J B) (hP : PInv N V K) (d ap : Int32) : AM kT_scale 5 [.ref 0, .int d, .int ap] (hT J B) (TR (sp_scale N V K d ap)) := by
  refine AMet.of (by decide) (by simp [Value.category]) (Nat.le_of_ble_eq_true rfl) ?_
  refine aw_iload_n dT_scale_0 rfl ?_
  refine aw_iconst (v := 1) dT_scale_1 (by decide) ?_
  refine aw_sipush (v := 2000) dT_scale_2 (by decide) ?_
  refine an_callSb cg_T_80 (c_T_isIn _ _ _ _) dT_scale_5 rfl rfl (Nat.le_of_ble_eq_true rfl) (Nat.le_of_ble_eq_true rfl) (fun p5 => ?_) (fun p5 => ?_)
  · refine aw_if_eq (tgt := 21) dT_scale_8 (by decide) (fun q => absurd q (by decide)) (fun _ => ?_)
    refine aw_iload_n dT_scale_11 rfl ?_
    refine aw_iconst (v := 1) dT_scale_12 (by decide) ?_
    refine aw_bipush (v := 20) dT_scale_13 (by decide) ?_
    refine an_callSb cg_T_80 (c_T_isIn _ _ _ _) dT_scale_15 rfl rfl (Nat.le_of_ble_eq_true rfl) (Nat.le_of_ble_eq_true rfl) (fun p15 => ?_) (fun p15 => ?_)
    · refine aw_if_ne (tgt := 23) dT_scale_18 (by decide) (fun _ => ?_) (fun q => absurd q (by decide))
      refine aw_iload_n dT_scale_23 rfl ?_
      refine aw_iload_n dT_scale_24 rfl ?_
      refine aw_idiv dT_scale_25 (sc_nz p15) ?_
      refine aw_istore_n dT_scale_26 (by decide) ?_
      refine aw_aload_r dT_scale_27 rfl ?_
      refine an_callVx cg_T_141 (c_T_ends N V K J B hI hP) dT_scale_28 rfl rfl rfl rfl rfl (Nat.le_of_ble_eq_true rfl) (Nat.le_of_ble_eq_true rfl) ?_
      rintro _ _ ⟨J1, rfl, hS, ⟨rfl, hA, e21, e22⟩ | ⟨rfl, hA⟩⟩ <;> have h1 := tinv_sl hI hS
      · refine aw_if_eq (tgt := 56) dT_scale_31 (by decide) (fun q => absurd q (by decide)) (fun _ => ?_)
        refine aw_iload_n dT_scale_34 rfl ?_
        refine aw_if_eq (tgt := 56) dT_scale_35 (by decide) (fun c35 => ?_) (fun c35 => ?_)
        · refine aw_bipush (v := (-2)) dT_scale_56 (by decide) ?_
          exact aw_iret rfl dT_scale_58 (by unfold sp_scale; rw [cif_t ⟨p5, p15⟩, cif_f (fun q => q.2.1 c35)]; exact ⟨rfl, J1, B, rfl, h1⟩)
        · refine aw_aload_r dT_scale_38 rfl ?_
          refine aw_get fg_T_138 dT_scale_39 rfl rfl ?_
          rw [e22]
          refine aw_aload_r dT_scale_42 rfl ?_
          refine aw_get fg_T_135 dT_scale_43 rfl rfl ?_
          rw [e21]
          refine aw_isub dT_scale_46 ?_
          refine aw_iload_n dT_scale_47 rfl ?_
          refine aw_idiv dT_scale_48 c35 ?_
          refine aw_iconst (v := 1) dT_scale_49 (by decide) ?_
          refine aw_iadd dT_scale_50 ?_
          refine aw_bipush (v := 60) dT_scale_51 (by decide) ?_
          refine aw_icmp_le (tgt := 59) dT_scale_53 (by decide) (fun c53 => ?_) (fun c53 => ?_)
          · refine aw_aload_r dT_scale_59 rfl ?_
            refine aw_iload_n dT_scale_60 rfl ?_
            refine an_putT fp_T_145 dT_scale_61 (by decide) ?_
            refine aw_iload_n dT_scale_64 rfl ?_
            exact aw_iret rfl dT_scale_65 (by unfold sp_scale; rw [cif_t ⟨p5, p15⟩, cif_t ⟨hA, c35, c53⟩]; exact ⟨rfl, _, _, rfl, tinv_9 h1 _⟩)
          · refine aw_bipush (v := (-2)) dT_scale_56 (by decide) ?_
            exact aw_iret rfl dT_scale_58 (by unfold sp_scale; rw [cif_t ⟨p5, p15⟩, cif_f (fun q => c53 q.2.2)]; exact ⟨rfl, J1, B, rfl, h1⟩)
      · refine aw_if_eq (tgt := 56) dT_scale_31 (by decide) (fun _ => ?_) (fun q => absurd q (by decide))
        refine aw_bipush (v := (-2)) dT_scale_56 (by decide) ?_
        exact aw_iret rfl dT_scale_58 (by unfold sp_scale; rw [cif_t ⟨p5, p15⟩, cif_f (fun q => hA q.1)]; exact ⟨rfl, J1, B, rfl, h1⟩)
    · refine aw_if_ne (tgt := 23) dT_scale_18 (by decide) (fun q => absurd q (by decide)) (fun _ => ?_)
      refine aw_iconst (v := (-1)) dT_scale_21 (by decide) ?_
      exact aw_iret rfl dT_scale_22 (by unfold sp_scale; rw [cif_f (fun q => p15 q.2)]; exact ⟨rfl, J, B, rfl, hI⟩)
  · refine aw_if_eq (tgt := 21) dT_scale_8 (by decide) (fun _ => ?_) (fun q => absurd q (by decide))
    refine aw_iconst (v := (-1)) dT_scale_21 (by decide) ?_
    exact aw_iret rfl dT_scale_22 (by unfold sp_scale; rw [cif_f (fun q => p5 q.1)]; exact ⟨rfl, J, B, rfl, hI⟩)

set_option maxHeartbeats 4000000 in
set_option maxRecDepth 100000 in
theorem c_T_height (N : Nat → Nat) (V : Nat → Nat → Int32) (K : Nat → Int32) (J : Nat → Int32) (B : Nat → Nat → Int32) (hI : TInv N V K J B) (hP : PInv N V K) (r s : Int32) : AM kT_height 5 [.ref 0, .int r, .int s] (hT J B) (HQ (hgtE N V K r s) J B) := by
  refine AMet.of (by decide) (by simp [Value.category]) (Nat.le_of_ble_eq_true rfl) ?_
  refine aw_aload_r dT_height_0 rfl ?_
  refine aw_get fg_T_145 dT_height_1 rfl rfl ?_
  show AN _ _ _ _ _ (.int (J 18) :: _) _
  rw [hI.2.2.1]
  refine aw_if_eq (tgt := 16) dT_height_4 (by decide) (fun c4 => ?_) (fun c4 => ?_)
  · refine aw_iconst (v := (-1)) dT_height_16 (by decide) ?_
    exact aw_iret rfl dT_height_17 (by unfold hgtE; rw [cif_f (fun q => q.1 c4)]; exact ⟨rfl, J, rfl, SameL.rf⟩)
  · refine aw_aload_r dT_height_7 rfl ?_
    refine aw_iload_n dT_height_8 rfl ?_
    refine aw_iload_n dT_height_9 rfl ?_
    refine an_callVb cg_T_91 (c_T_hasValue _ _ _ _ _ hI _ _) dT_height_10 rfl rfl rfl rfl rfl (Nat.le_of_ble_eq_true rfl) (Nat.le_of_ble_eq_true rfl) (fun p10 => ?_) (fun p10 => ?_)
    · refine aw_if_ne (tgt := 18) dT_height_13 (by decide) (fun _ => ?_) (fun q => absurd q (by decide))
      obtain ⟨k, i, hk, hi, rfl, rfl, hv⟩ := id p10
      have hN := hI.n k hk
      refine aw_aload_r dT_height_18 rfl ?_
      refine an_callVx cg_T_141 (c_T_ends N V K J B hI hP) dT_height_19 rfl rfl rfl rfl rfl (Nat.le_of_ble_eq_true rfl) (Nat.le_of_ble_eq_true rfl) ?_
      rintro _ _ ⟨J1, rfl, hS, ⟨rfl, hA, e21, e22⟩ | ⟨rfl, hA⟩⟩ 
      rotate_left
      · exact absurd (any_hv p10) hA
      have h1 := tinv_sl hI hS
      refine aw_pop dT_height_22 rfl ?_
      refine aw_aload_r dT_height_23 rfl ?_
      refine aw_iload_n dT_height_24 rfl ?_
      refine aw_iload_n dT_height_25 rfl ?_
      refine an_callVr cg_T_88 (c_T_valueAt _ _ _ _ _ h1 hk (by omega)) dT_height_26 rfl rfl rfl rfl rfl (Nat.le_of_ble_eq_true rfl) (Nat.le_of_ble_eq_true rfl) ?_
      refine aw_aload_r dT_height_29 rfl ?_
      refine aw_get fg_T_135 dT_height_30 rfl rfl ?_
      show AN _ _ _ _ _ (.int (J1 21) :: _) _
      rw [e21]
      refine aw_isub dT_height_33 ?_
      refine aw_aload_r dT_height_34 rfl ?_
      refine aw_get fg_T_145 dT_height_35 rfl rfl ?_
      show AN _ _ _ _ _ (.int (J1 18) :: _) _
      rw [h1.2.2.1]
      refine aw_idiv dT_height_38 c4 ?_
      exact aw_iret rfl dT_height_39 (by unfold hgtE; rw [cif_t ⟨c4, p10⟩, rn_n (by omega), rn_n (by omega)]; exact ⟨rfl, J1, rfl, hS⟩)
    · refine aw_if_ne (tgt := 18) dT_height_13 (by decide) (fun q => absurd q (by decide)) (fun _ => ?_)
      refine aw_iconst (v := (-1)) dT_height_16 (by decide) ?_
      exact aw_iret rfl dT_height_17 (by unfold hgtE; rw [cif_f (fun q => p10 q.2)]; exact ⟨rfl, J, rfl, SameL.rf⟩)
end
section
/-! crossings -/
def crL (s : Nat → Int32) : Nat → List Nat × Int32
  | 0 => ([], 0)
  | i + 1 => if s i = -2 then ((crL s i).1, 0) else if s i = 0 then crL s i else if (crL s i).2 = -(s i) then ((crL s i).1 ++ [i], s i) else ((crL s i).1, s i)
noncomputable def svF (N : Nat → Nat) (V : Nat → Nat → Int32) (K : Nat → Int32) (k1 k2 : Nat) : Nat → Int32 := fun i => sureR N V K k1 k2 (nI i)
theorem sv_range {N : Nat → Nat} {V : Nat → Nat → Int32} {K : Nat → Int32} {k1 k2 i : Nat} : svF N V K k1 k2 i = 1 ∨ svF N V K k1 k2 i = -1 ∨ svF N V K k1 k2 i = 0 ∨ svF N V K k1 k2 i = -2 := by
  unfold svF sureR
  by_cases q : HV N V (nI k1) (nI i) ∧ HV N V (nI k2) (nI i)
  · rw [cif_t q]
    unfold sureV
    split
    · split
      · exact Or.inr (Or.inr (Or.inl rfl))
      · exact Or.inr (Or.inl rfl)
    · exact Or.inl rfl
  · rw [cif_f q]; exact Or.inr (Or.inr (Or.inr rfl))
/-- an array's first places hold a list's steps -/
def AL (f : Nat → Int32) (l : List Nat) : Prop := ∀ j, j < l.length → f j = nI (l.getD j 0)
theorem AL.nil {f : Nat → Int32} : AL f [] := fun j h => by simp at h
theorem AL.snoc {f : Nat → Int32} {l : List Nat} (h : AL f l) (i : Nat) : AL (upd f l.length (nI i)) (l ++ [i]) := by
  intro j hj
  simp at hj
  by_cases e : j = l.length
  · subst e
    rw [pk_us]
    simp
  · rw [pk_un e, h j (by omega)]
    simp [List.getElem?_append_left (show j < l.length by omega)]
section CR
variable {s : Nat → Int32} {i : Nat}
theorem crL_len : ∀ i, (crL s i).1.length ≤ i
  | 0 => Nat.le_refl _
  | i + 1 => by
    have := crL_len i
    simp only [crL]
    split
    · show (crL s i).1.length ≤ i + 1; omega
    · split
      · omega
      · split
        · simp; omega
        · show (crL s i).1.length ≤ i + 1; omega
theorem crL_lt : ∀ i, ∀ x ∈ (crL s i).1, x < i ∧ ¬ s x = -2
  | 0, x, h => by simp [crL] at h
  | i + 1, x, h => by
    simp only [crL] at h
    split at h
    · have := crL_lt i x h; exact ⟨by omega, this.2⟩
    · rename_i h2
      split at h
      · have := crL_lt i x h; exact ⟨by omega, this.2⟩
      · split at h
        · rcases List.mem_append.mp h with h | h
          · have := crL_lt i x h; exact ⟨by omega, this.2⟩
          · rw [List.mem_singleton.mp h]; exact ⟨by omega, h2⟩
        · have := crL_lt i x h; exact ⟨by omega, this.2⟩
theorem crL_u (h : s i = -2) : crL s (i + 1) = ((crL s i).1, 0) := by simp only [crL]; rw [if_pos h]
theorem crL_0 (h : s i = 0) : crL s (i + 1) = crL s i := by
  simp only [crL]; rw [if_neg (by rw [h]; decide), if_pos h]
theorem crL_h (h : s i = 1 ∨ s i = -1) (q : (crL s i).2 = -(s i)) : crL s (i + 1) = ((crL s i).1 ++ [i], s i) := by
  simp only [crL]; rw [if_neg (by rcases h with h | h <;> rw [h] <;> decide), if_neg (by rcases h with h | h <;> rw [h] <;> decide), if_pos q]
theorem crL_m (h : s i = 1 ∨ s i = -1) (q : ¬ (crL s i).2 = -(s i)) : crL s (i + 1) = ((crL s i).1, s i) := by
  simp only [crL]; rw [if_neg (by rcases h with h | h <;> rw [h] <;> decide), if_neg (by rcases h with h | h <;> rw [h] <;> decide), if_neg q]
end CR
noncomputable def crossL (N : Nat → Nat) (V : Nat → Nat → Int32) (K : Nat → Int32) (k1 k2 : Nat) : List Nat := (crL (svF N V K k1 k2) 40).1
noncomputable def sp_sure (N : Nat → Nat) (V : Nat → Nat → Int32) (K : Nat → Int32) (a b s : Int32) : RS := (sureE N V K a b s, N, V, K)
noncomputable def sp_crossings (N : Nat → Nat) (V : Nat → Nat → Int32) (K : Nat → Int32) (a b : Int32) : RS := (cif (¬ a = b ∧ IsRow a ∧ IsRow b) (nI (crossL N V K (rn a) (rn b)).length) (-1), N, V, K)
noncomputable def sp_crossing (N : Nat → Nat) (V : Nat → Nat → Int32) (K : Nat → Int32) (a b k : Int32) : RS := (cif ((¬ a = b ∧ IsRow a ∧ IsRow b) ∧ 0 ≤ k.toInt ∧ k.toInt < ((crossL N V K (rn a) (rn b)).length : Int)) (nI ((crossL N V K (rn a) (rn b)).getD (rn k) 0)) (-1), N, V, K)
section CI2
variable {N : Nat → Nat} {V : Nat → Nat → Int32} {K I J : Nat → Int32} {A B : Nat → Nat → Int32}
theorem cinv_s (h : CInv N V K I A) {p : Nat} (hp : 1000 ≤ p) (v : Int32) : CInv N V K (upd I p v) A := by
  obtain ⟨h1, h2, h3, h4, h5, h6, h7⟩ := h
  refine ⟨fun j hj => ?_, by rw [pk_un (by omega)]; exact h2, by rw [pk_un (by omega)]; exact h3, by rw [pk_un (by omega)]; exact h4, by rw [pk_un (by omega)]; exact h5, by rw [pk_un (by omega)]; exact h6, by rw [pk_un (by omega)]; exact h7⟩
  obtain ⟨a, b, c, d, e⟩ := h1 j hj
  exact ⟨a, by rw [pk_un (by omega)]; exact b, by rw [pk_un (by omega)]; exact c, by rw [pk_un (by omega)]; exact d, e⟩
theorem cinv_a (h : CInv N V K I A) {c : Nat} (hc : 10 ≤ c) (f : Nat → Int32) : CInv N V K I (va_up A c f) := by
  refine ⟨fun j hj => ?_, h.2⟩
  obtain ⟨a, b, c, d, e⟩ := h.1 j hj
  exact ⟨a, b, c, d, fun i hi => by rw [up_n (by omega)]; exact e i hi⟩
end CI2
def XQT (N : Nat → Nat) (V : Nat → Nat → Int32) (K : Nat → Int32) (l : List Nat) : QT := fun v h' => v = none ∧ ∃ J' B', h' = hT J' B' ∧ TInv N V K J' B' ∧ J' 16 = nI l.length ∧ AL (B' 11) l
def XQC (N : Nat → Nat) (V : Nat → Nat → Int32) (K I : Nat → Int32) (A : Nat → Nat → Int32) (l : List Nat) : QT := fun v h' => v = none ∧ ∃ I' A', h' = hC I' A' ∧ CInv N V K I' A' ∧ I' 2001 = nI l.length ∧ AL (A' 21) l ∧ A' 27 = A 27
theorem in_ix {k : Int32} {n : Nat} (hn : n < 2 ^ 31) (h0 : 0 ≤ k.toInt) (h : k.toInt < (n : Int)) : ∃ j : Nat, j < n ∧ k = nI j := by
  refine ⟨k.toInt.toNat, by omega, ?_⟩
  apply Int32.toInt_inj.mp
  rw [nI_toInt (by omega)]
  omega
theorem in_pred {k : Int32} {n : Nat} (hn : n ≤ 40) : In k 0 (nI n - 1) ↔ 0 ≤ k.toInt ∧ k.toInt < (n : Int) := by
  unfold In
  have h1 := nI_toInt (n := n) (by omega)
  rw [z_0, i_sub (by rw [h1, z_1]; omega) (by rw [h1, z_1]; omega), h1, z_1]
  omega
end
section
theorem AMet.mono {M : MI} {al : Bool} {d mc ms : Nat} {as : List Value} {h : List AC} {Q Q' : QT} (hm : AMet M al d mc ms as h Q) (hq : ∀ v h', Q v h' → Q' v h') : AMet M al d mc ms as h Q' := by
  intro l b D κ p e ha hc hk s m args below hf hpre hP hK
  obtain ⟨t, o, a1, b1, b2, ⟨⟨r, h', q1, q2, q3⟩, q4⟩, hF⟩ := hm l b D κ p e ha hc hk s m args below hf hpre hP hK
  exact ⟨t, o, a1, b1, b2, ⟨⟨r, h', q1, hq _ _ q2, q3⟩, q4⟩, hF⟩
set_option maxHeartbeats 4000000 in
set_option maxRecDepth 100000 in
theorem l_T_crosses (N : Nat → Nat) (V : Nat → Nat → Int32) (K : Nat → Int32) (J : Nat → Int32) (B : Nat → Nat → Int32) (hI : TInv N V K J B) (hP : PInv N V K) {k1 k2 : Nat} (hk1 : k1 < 4) (hk2 : k2 < 4) (hne : k1 ≠ k2) : ∀ (n : Nat) (i : Nat) (J1 : Nat → Int32) (B1 : Nat → Nat → Int32), i + n = 40 → TInv N V K J1 B1 → J1 16 = nI (crL (svF N V K k1 k2) i).1.length → AL (B1 11) (crL (svF N V K k1 k2) i).1 → AN kT_crosses 5 (XQT N V K (crossL N V K k1 k2)) 10 [some (.ref 0), some (.int (nI k1)), some (.int (nI k2)), some (.int (crL (svF N V K k1 k2) i).2), some (.int (nI i)), none] [] (hT J1 B1) := by
  intro n
  induction n with
  | zero =>
    intro i J1 B1 hin h2 h3 h4
    refine aw_iload dT_crosses_10 rfl ?_
    refine aw_bipush (v := 40) dT_crosses_12 (by decide) ?_
    refine aw_icmp_ge (tgt := 88) dT_crosses_14 (by decide) (fun c14 => ?_) (fun c14 => absurd (by rw [show i = 40 by omega]; decide) c14)
    exact aw_vret rfl dT_crosses_88 ⟨rfl, J1, B1, rfl, h2, by rw [h3, show i = 40 by omega]; rfl, by rw [show i = 40 by omega] at h4; exact h4⟩
  | succ n ih =>
    intro i J1 B1 hin h2 h3 h4
    have hlen := crL_len (s := (svF N V K k1 k2)) i
    refine aw_iload dT_crosses_10 rfl ?_
    refine aw_bipush (v := 40) dT_crosses_12 (by decide) ?_
    refine aw_icmp_ge (tgt := 88) dT_crosses_14 (by decide) (fun c14 => absurd c14 (nI_ge (b := 40) (by omega) (by omega))) (fun c14 => ?_)
    refine aw_aload_r dT_crosses_17 rfl ?_
    refine aw_iload_n dT_crosses_18 rfl ?_
    refine aw_iload_n dT_crosses_19 rfl ?_
    refine aw_iload dT_crosses_20 rfl ?_
    refine an_callVr cg_T_128 (c_T_sure _ _ _ _ _ h2 _ _ _) dT_crosses_22 rfl rfl rfl rfl rfl (Nat.le_of_ble_eq_true rfl) (Nat.le_of_ble_eq_true rfl) ?_
    rw [sureE_R hk1 hk2 hne]
    refine an_top (show sureR N V K k1 k2 (nI i) = (svF N V K k1 k2) i from rfl) ?_
    refine aw_istore dT_crosses_25 (by decide) ?_
    refine aw_iload dT_crosses_27 rfl ?_
    refine aw_bipush (v := (-2)) dT_crosses_29 (by decide) ?_
    refine aw_icmp_ne (tgt := 36) dT_crosses_31 (by decide) (fun c31 => ?_) (fun c31 => ?_)
    · refine aw_iload dT_crosses_36 rfl ?_
      refine aw_iconst (v := 1) dT_crosses_38 (by decide) ?_
      refine aw_icmp_eq (tgt := 51) dT_crosses_39 (by decide) (fun c39 => ?_) (fun c39 => ?_)
      · refine aw_iload_n dT_crosses_51 rfl ?_
        refine aw_iload dT_crosses_52 rfl ?_
        refine aw_ineg dT_crosses_54 ?_
        refine aw_icmp_ne (tgt := 79) dT_crosses_55 (by decide) (fun c55 => ?_) (fun c55 => ?_)
        · refine aw_iload dT_crosses_79 rfl ?_
          refine aw_istore_n dT_crosses_81 (by decide) ?_
          refine aw_iinc dT_crosses_82 rfl (nI_1 i) (by decide) ?_
          refine aw_goto (tgt := 10) dT_crosses_85 (by decide) ?_
          have e := crL_m (s := (svF N V K k1 k2)) (i := i) (Or.inl c39) c55
          exact an_weak (ih (i + 1) J1 B1 (by omega) h2 (by rw [e]; exact h3) (by rw [e]; exact h4)) ⟨rfl, rfl, rfl, by rw [e]; rfl, rfl, trivial⟩
        · refine aw_aload_r dT_crosses_58 rfl ?_
          refine aw_get fg_T_47 dT_crosses_59 rfl rfl ?_
          refine aw_aload_r dT_crosses_62 rfl ?_
          refine aw_get fg_T_125 dT_crosses_63 rfl rfl ?_
          rw [h3]
          refine aw_iload dT_crosses_66 rfl ?_
          refine an_stT dT_crosses_68 at_11 rfl (by omega) (by decide) ?_
          refine aw_aload_r dT_crosses_69 rfl ?_
          refine aw_dup dT_crosses_70 rfl ?_
          refine aw_get fg_T_125 dT_crosses_71 rfl rfl ?_
          rw [h3]
          refine aw_iconst (v := 1) dT_crosses_74 (by decide) ?_
          refine aw_iadd dT_crosses_75 ?_
          refine an_top (nI_1 _) ?_
          refine an_putT fp_T_125 dT_crosses_76 (by decide) ?_
          refine aw_iload dT_crosses_79 rfl ?_
          refine aw_istore_n dT_crosses_81 (by decide) ?_
          refine aw_iinc dT_crosses_82 rfl (nI_1 i) (by decide) ?_
          refine aw_goto (tgt := 10) dT_crosses_85 (by decide) ?_
          have e := crL_h (s := (svF N V K k1 k2)) (i := i) (Or.inl c39) c55
          exact an_weak (ih (i + 1) _ _ (by omega) h2 (by rw [e]; simp; exact rfl) (by rw [e]; exact h4.snoc i)) ⟨rfl, rfl, rfl, by rw [e]; rfl, rfl, trivial⟩
      · refine aw_iload dT_crosses_42 rfl ?_
        refine aw_iconst (v := (-1)) dT_crosses_44 (by decide) ?_
        refine aw_icmp_eq (tgt := 51) dT_crosses_45 (by decide) (fun c45 => ?_) (fun c45 => ?_)
        · refine aw_iload_n dT_crosses_51 rfl ?_
          refine aw_iload dT_crosses_52 rfl ?_
          refine aw_ineg dT_crosses_54 ?_
          refine aw_icmp_ne (tgt := 79) dT_crosses_55 (by decide) (fun c55 => ?_) (fun c55 => ?_)
          · refine aw_iload dT_crosses_79 rfl ?_
            refine aw_istore_n dT_crosses_81 (by decide) ?_
            refine aw_iinc dT_crosses_82 rfl (nI_1 i) (by decide) ?_
            refine aw_goto (tgt := 10) dT_crosses_85 (by decide) ?_
            have e := crL_m (s := (svF N V K k1 k2)) (i := i) (Or.inr c45) c55
            exact an_weak (ih (i + 1) J1 B1 (by omega) h2 (by rw [e]; exact h3) (by rw [e]; exact h4)) ⟨rfl, rfl, rfl, by rw [e]; rfl, rfl, trivial⟩
          · refine aw_aload_r dT_crosses_58 rfl ?_
            refine aw_get fg_T_47 dT_crosses_59 rfl rfl ?_
            refine aw_aload_r dT_crosses_62 rfl ?_
            refine aw_get fg_T_125 dT_crosses_63 rfl rfl ?_
            rw [h3]
            refine aw_iload dT_crosses_66 rfl ?_
            refine an_stT dT_crosses_68 at_11 rfl (by omega) (by decide) ?_
            refine aw_aload_r dT_crosses_69 rfl ?_
            refine aw_dup dT_crosses_70 rfl ?_
            refine aw_get fg_T_125 dT_crosses_71 rfl rfl ?_
            rw [h3]
            refine aw_iconst (v := 1) dT_crosses_74 (by decide) ?_
            refine aw_iadd dT_crosses_75 ?_
            refine an_top (nI_1 _) ?_
            refine an_putT fp_T_125 dT_crosses_76 (by decide) ?_
            refine aw_iload dT_crosses_79 rfl ?_
            refine aw_istore_n dT_crosses_81 (by decide) ?_
            refine aw_iinc dT_crosses_82 rfl (nI_1 i) (by decide) ?_
            refine aw_goto (tgt := 10) dT_crosses_85 (by decide) ?_
            have e := crL_h (s := (svF N V K k1 k2)) (i := i) (Or.inr c45) c55
            exact an_weak (ih (i + 1) _ _ (by omega) h2 (by rw [e]; simp; exact rfl) (by rw [e]; exact h4.snoc i)) ⟨rfl, rfl, rfl, by rw [e]; rfl, rfl, trivial⟩
        · refine aw_goto (tgt := 82) dT_crosses_48 (by decide) ?_
          refine aw_iinc dT_crosses_82 rfl (nI_1 i) (by decide) ?_
          refine aw_goto (tgt := 10) dT_crosses_85 (by decide) ?_
          have e := crL_0 (s := (svF N V K k1 k2)) (i := i) ((sv_range.resolve_left c39).resolve_left c45 |>.resolve_right c31)
          exact an_weak (ih (i + 1) J1 B1 (by omega) h2 (by rw [e]; exact h3) (by rw [e]; exact h4)) ⟨rfl, rfl, rfl, by rw [e]; rfl, rfl, trivial⟩
    · refine aw_iconst (v := 0) dT_crosses_34 (by decide) ?_
      refine aw_istore_n dT_crosses_35 (by decide) ?_
      refine aw_iload dT_crosses_36 rfl ?_
      refine aw_iconst (v := 1) dT_crosses_38 (by decide) ?_
      refine aw_icmp_eq (tgt := 51) dT_crosses_39 (by decide) (fun c39 => absurd (c31.symm.trans c39) (by decide)) (fun c39 => ?_)
      refine aw_iload dT_crosses_42 rfl ?_
      refine aw_iconst (v := (-1)) dT_crosses_44 (by decide) ?_
      refine aw_icmp_eq (tgt := 51) dT_crosses_45 (by decide) (fun c45 => absurd (c31.symm.trans c45) (by decide)) (fun c45 => ?_)
      refine aw_goto (tgt := 82) dT_crosses_48 (by decide) ?_
      refine aw_iinc dT_crosses_82 rfl (nI_1 i) (by decide) ?_
      refine aw_goto (tgt := 10) dT_crosses_85 (by decide) ?_
      have e := crL_u (s := (svF N V K k1 k2)) (i := i) c31
      exact an_weak (ih (i + 1) J1 B1 (by omega) h2 (by rw [e]; exact h3) (by rw [e]; exact h4)) ⟨rfl, rfl, rfl, by rw [e]; rfl, rfl, trivial⟩

set_option maxHeartbeats 4000000 in
set_option maxRecDepth 100000 in
theorem c_T_crosses (N : Nat → Nat) (V : Nat → Nat → Int32) (K : Nat → Int32) (J : Nat → Int32) (B : Nat → Nat → Int32) (hI : TInv N V K J B) (hP : PInv N V K) {k1 k2 : Nat} (hk1 : k1 < 4) (hk2 : k2 < 4) (hne : k1 ≠ k2) : AM kT_crosses 5 [.ref 0, .int (nI k1), .int (nI k2)] (hT J B) (XQT N V K (crossL N V K k1 k2)) := by
  refine AMet.of (by decide) (by simp [Value.category]) (Nat.le_of_ble_eq_true rfl) ?_
  refine aw_aload_r dT_crosses_0 rfl ?_
  refine aw_iconst (v := 0) dT_crosses_1 (by decide) ?_
  refine an_putT fp_T_125 dT_crosses_2 (by decide) ?_
  refine aw_iconst (v := 0) dT_crosses_5 (by decide) ?_
  refine aw_istore_n dT_crosses_6 (by decide) ?_
  refine aw_iconst (v := 0) dT_crosses_7 (by decide) ?_
  refine aw_istore dT_crosses_8 (by decide) ?_
  exact an_weak (l_T_crosses N V K J B hI hP hk1 hk2 hne 40 0 _ _ (by omega) (show TInv N V K (upd J 16 0) B from hI) rfl AL.nil) ⟨rfl, rfl, rfl, rfl, rfl, trivial⟩

set_option maxHeartbeats 4000000 in
set_option maxRecDepth 100000 in
theorem c_T_crossings (N : Nat → Nat) (V : Nat → Nat → Int32) (K : Nat → Int32) (J : Nat → Int32) (B : Nat → Nat → Int32) (hI : TInv N V K J B) (hP : PInv N V K) (a b : Int32) : AM kT_crossings 6 [.ref 0, .int a, .int b] (hT J B) (TR (sp_crossings N V K a b)) := by
  refine AMet.of (by decide) (by simp [Value.category]) (Nat.le_of_ble_eq_true rfl) ?_
  refine aw_iload_n dT_crossings_0 rfl ?_
  refine an_callSb cg_T_72 (c_T_isRow _ _) dT_crossings_1 rfl rfl (Nat.le_of_ble_eq_true rfl) (Nat.le_of_ble_eq_true rfl) (fun p1 => ?_) (fun p1 => ?_)
  · refine aw_if_eq (tgt := 19) dT_crossings_4 (by decide) (fun q => absurd q (by decide)) (fun _ => ?_)
    refine aw_iload_n dT_crossings_7 rfl ?_
    refine an_callSb cg_T_72 (c_T_isRow _ _) dT_crossings_8 rfl rfl (Nat.le_of_ble_eq_true rfl) (Nat.le_of_ble_eq_true rfl) (fun p8 => ?_) (fun p8 => ?_)
    · refine aw_if_eq (tgt := 19) dT_crossings_11 (by decide) (fun q => absurd q (by decide)) (fun _ => ?_)
      refine aw_iload_n dT_crossings_14 rfl ?_
      refine aw_iload_n dT_crossings_15 rfl ?_
      refine aw_icmp_ne (tgt := 21) dT_crossings_16 (by decide) (fun c16 => ?_) (fun c16 => ?_)
      · obtain ⟨k1, hk1, rfl⟩ := isRow_k p1
        obtain ⟨k2, hk2, rfl⟩ := isRow_k p8
        have hne : k1 ≠ k2 := fun q => c16 (by rw [q])
        have hln := crL_len (s := svF N V K k1 k2) 40
        refine aw_aload_r dT_crossings_21 rfl ?_
        refine aw_iload_n dT_crossings_22 rfl ?_
        refine aw_iload_n dT_crossings_23 rfl ?_
        refine an_callVx cg_T_131 (c_T_crosses _ _ _ _ _ hI hP hk1 hk2 hne) dT_crossings_24 rfl rfl rfl rfl rfl (Nat.le_of_ble_eq_true rfl) (Nat.le_of_ble_eq_true rfl) ?_
        rintro _ _ ⟨rfl, J1, B1, rfl, h1, e16, hal⟩
        refine aw_aload_r dT_crossings_27 rfl ?_
        refine aw_get fg_T_125 dT_crossings_28 rfl rfl ?_
        rw [e16]
        exact aw_iret rfl dT_crossings_31 (by unfold sp_crossings; rw [cif_t ⟨c16, p1, p8⟩, rn_n (by omega), rn_n (by omega)]; exact ⟨rfl, J1, B1, rfl, h1⟩)
      · refine aw_iconst (v := (-1)) dT_crossings_19 (by decide) ?_
        exact aw_iret rfl dT_crossings_20 (by unfold sp_crossings; rw [cif_f (fun q => q.1 c16)]; exact ⟨rfl, J, B, rfl, hI⟩)
    · refine aw_if_eq (tgt := 19) dT_crossings_11 (by decide) (fun _ => ?_) (fun q => absurd q (by decide))
      refine aw_iconst (v := (-1)) dT_crossings_19 (by decide) ?_
      exact aw_iret rfl dT_crossings_20 (by unfold sp_crossings; rw [cif_f (fun q => p8 q.2.2)]; exact ⟨rfl, J, B, rfl, hI⟩)
  · refine aw_if_eq (tgt := 19) dT_crossings_4 (by decide) (fun _ => ?_) (fun q => absurd q (by decide))
    refine aw_iconst (v := (-1)) dT_crossings_19 (by decide) ?_
    exact aw_iret rfl dT_crossings_20 (by unfold sp_crossings; rw [cif_f (fun q => p1 q.2.1)]; exact ⟨rfl, J, B, rfl, hI⟩)

set_option maxHeartbeats 4000000 in
set_option maxRecDepth 100000 in
theorem c_T_crossing (N : Nat → Nat) (V : Nat → Nat → Int32) (K : Nat → Int32) (J : Nat → Int32) (B : Nat → Nat → Int32) (hI : TInv N V K J B) (hP : PInv N V K) (a b k : Int32) : AM kT_crossing 6 [.ref 0, .int a, .int b, .int k] (hT J B) (TR (sp_crossing N V K a b k)) := by
  refine AMet.of (by decide) (by simp [Value.category]) (Nat.le_of_ble_eq_true rfl) ?_
  refine aw_iload_n dT_crossing_0 rfl ?_
  refine an_callSb cg_T_72 (c_T_isRow _ _) dT_crossing_1 rfl rfl (Nat.le_of_ble_eq_true rfl) (Nat.le_of_ble_eq_true rfl) (fun p1 => ?_) (fun p1 => ?_)
  · refine aw_if_eq (tgt := 23) dT_crossing_4 (by decide) (fun q => absurd q (by decide)) (fun _ => ?_)
    refine aw_iload_n dT_crossing_7 rfl ?_
    refine an_callSb cg_T_72 (c_T_isRow _ _) dT_crossing_8 rfl rfl (Nat.le_of_ble_eq_true rfl) (Nat.le_of_ble_eq_true rfl) (fun p8 => ?_) (fun p8 => ?_)
    · refine aw_if_eq (tgt := 23) dT_crossing_11 (by decide) (fun q => absurd q (by decide)) (fun _ => ?_)
      refine aw_iload_n dT_crossing_14 rfl ?_
      refine aw_iload_n dT_crossing_15 rfl ?_
      refine aw_icmp_eq (tgt := 23) dT_crossing_16 (by decide) (fun c16 => ?_) (fun c16 => ?_)
      · refine aw_iconst (v := (-1)) dT_crossing_23 (by decide) ?_
        exact aw_iret rfl dT_crossing_24 (by unfold sp_crossing; rw [cif_f (fun q => q.1.1 c16)]; exact ⟨rfl, J, B, rfl, hI⟩)
      · refine aw_iload_n dT_crossing_19 rfl ?_
        refine aw_if_ge (tgt := 25) dT_crossing_20 (by decide) (fun c20 => ?_) (fun c20 => ?_)
        · obtain ⟨k1, hk1, rfl⟩ := isRow_k p1
          obtain ⟨k2, hk2, rfl⟩ := isRow_k p8
          have hne : k1 ≠ k2 := fun q => c16 (by rw [q])
          have hln := crL_len (s := svF N V K k1 k2) 40
          refine aw_aload_r dT_crossing_25 rfl ?_
          refine aw_iload_n dT_crossing_26 rfl ?_
          refine aw_iload_n dT_crossing_27 rfl ?_
          refine an_callVx cg_T_131 (c_T_crosses _ _ _ _ _ hI hP hk1 hk2 hne) dT_crossing_28 rfl rfl rfl rfl rfl (Nat.le_of_ble_eq_true rfl) (Nat.le_of_ble_eq_true rfl) ?_
          rintro _ _ ⟨rfl, J1, B1, rfl, h1, e16, hal⟩
          refine aw_iload_n dT_crossing_31 rfl ?_
          refine aw_aload_r dT_crossing_32 rfl ?_
          refine aw_get fg_T_125 dT_crossing_33 rfl rfl ?_
          rw [e16]
          refine aw_icmp_ge (tgt := 48) dT_crossing_36 (by decide) (fun c36 => ?_) (fun c36 => ?_)
          · refine aw_iconst (v := (-1)) dT_crossing_48 (by decide) ?_
            exact aw_iret rfl dT_crossing_49 (by unfold sp_crossing; rw [cif_f (fun q => by rw [rn_n (by omega), rn_n (by omega)] at q; rw [le_T, nI_toInt (by unfold crossL; omega)] at c36; omega)]; exact ⟨rfl, J1, B1, rfl, h1⟩)
          · have hj : k.toInt < ((crossL N V K k1 k2).length : Int) := by
              rw [← nI_toInt (n := (crossL N V K k1 k2).length) (by unfold crossL; omega)]
              rw [le_T] at c36; omega
            rw [le_T, z_0] at c20
            obtain ⟨j, hjl, rfl⟩ := in_ix (n := (crossL N V K k1 k2).length) (by unfold crossL; omega) c20 hj
            have hj40 : j < 40 := by unfold crossL at hjl; omega
            refine aw_aload_r dT_crossing_39 rfl ?_
            refine aw_get fg_T_47 dT_crossing_40 rfl rfl ?_
            refine aw_iload_n dT_crossing_43 rfl ?_
            refine an_ldT dT_crossing_44 at_11 rfl hj40 (by decide) ?_
            rw [hal j hjl]
            refine aw_goto (tgt := 49) dT_crossing_45 (by decide) ?_
            exact aw_iret rfl dT_crossing_49 (by unfold sp_crossing; rw [rn_n (k := k1) (by omega), rn_n (k := k2) (by omega), cif_t ⟨⟨c16, p1, p8⟩, c20, hj⟩, rn_n (by omega)]; exact ⟨rfl, J1, B1, rfl, h1⟩)
        · refine aw_iconst (v := (-1)) dT_crossing_23 (by decide) ?_
          exact aw_iret rfl dT_crossing_24 (by unfold sp_crossing; rw [cif_f (fun q => c20 (by rw [le_T, z_0]; exact q.2.1))]; exact ⟨rfl, J, B, rfl, hI⟩)
    · refine aw_if_eq (tgt := 23) dT_crossing_11 (by decide) (fun _ => ?_) (fun q => absurd q (by decide))
      refine aw_iconst (v := (-1)) dT_crossing_23 (by decide) ?_
      exact aw_iret rfl dT_crossing_24 (by unfold sp_crossing; rw [cif_f (fun q => p8 q.1.2.2)]; exact ⟨rfl, J, B, rfl, hI⟩)
  · refine aw_if_eq (tgt := 23) dT_crossing_4 (by decide) (fun _ => ?_) (fun q => absurd q (by decide))
    refine aw_iconst (v := (-1)) dT_crossing_23 (by decide) ?_
    exact aw_iret rfl dT_crossing_24 (by unfold sp_crossing; rw [cif_f (fun q => p1 q.1.2.1)]; exact ⟨rfl, J, B, rfl, hI⟩)

theorem c_T_sureP (N : Nat → Nat) (V : Nat → Nat → Int32) (K : Nat → Int32) (J : Nat → Int32) (B : Nat → Nat → Int32) (hI : TInv N V K J B) (hP : PInv N V K) (a b s : Int32) : AM kT_sure 4 [.ref 0, .int a, .int b, .int s] (hT J B) (TR (sp_sure N V K a b s)) := (c_T_sure N V K J B hI a b s).mono (fun v h' q => by obtain ⟨rfl, rfl⟩ := q; exact ⟨rfl, J, B, rfl, hI⟩)
set_option maxHeartbeats 4000000 in
set_option maxRecDepth 100000 in
theorem l_M_read (N : Nat → Nat) (V : Nat → Nat → Int32) (K : Nat → Int32) (I : Nat → Int32) (A : Nat → Nat → Int32) (hI : CInv N V K I A) (hP : PInv N V K) {k k2 : Nat} (hk : k < 4) (hk2 : k2 < 4) : ∀ (n : Nat) (i : Nat) (I1 : Nat → Int32) (A1 : Nat → Nat → Int32), i + n = 40 → CInv N V K I1 A1 → I1 2001 = nI (crL (svF N V K k k2) i).1.length → AL (A1 21) (crL (svF N V K k k2) i).1 → A1 27 = A 27 → AN kM_read 3 (XQC N V K I A (crossL N V K k k2)) 10 [some (.ref 20), some (.ref (2 + 2 * k)), some (.ref (2 + 2 * k2)), some (.int (crL (svF N V K k k2) i).2), some (.int (nI i)), none] [] (hC I1 A1) := by
  intro n
  induction n with
  | zero =>
    intro i I1 A1 hin h2 h3 h4 h5
    refine aw_iload dM_read_10 rfl ?_
    refine aw_bipush (v := 40) dM_read_12 (by decide) ?_
    refine aw_icmp_ge (tgt := 80) dM_read_14 (by decide) (fun c14 => ?_) (fun c14 => absurd (by rw [show i = 40 by omega]; decide) c14)
    exact aw_vret rfl dM_read_80 ⟨rfl, I1, A1, rfl, h2, by rw [h3, show i = 40 by omega]; rfl, by rw [show i = 40 by omega] at h4; exact h4, h5⟩
  | succ n ih =>
    intro i I1 A1 hin h2 h3 h4 h5
    have hlen := crL_len (s := (svF N V K k k2)) i
    refine aw_iload dM_read_10 rfl ?_
    refine aw_bipush (v := 40) dM_read_12 (by decide) ?_
    refine aw_icmp_ge (tgt := 80) dM_read_14 (by decide) (fun c14 => absurd c14 (nI_ge (b := 40) (by omega) (by omega))) (fun c14 => ?_)
    refine aw_aload_r dM_read_17 rfl ?_
    refine aw_aload_r dM_read_18 rfl ?_
    refine aw_iload dM_read_19 rfl ?_
    refine an_callSr cg_M_19 (c_E_compareSurely _ _ _ _ _ h2 hP hk hk2 _) dM_read_21 rfl rfl (Nat.le_of_ble_eq_true rfl) (Nat.le_of_ble_eq_true rfl) ?_
    refine an_top (show sureR N V K k k2 (nI i) = (svF N V K k k2) i from rfl) ?_
    refine aw_istore dM_read_24 (by decide) ?_
    refine aw_iload dM_read_26 rfl ?_
    refine aw_bipush (v := (-2)) dM_read_28 (by decide) ?_
    refine aw_icmp_ne (tgt := 38) dM_read_30 (by decide) (fun c30 => ?_) (fun c30 => ?_)
    · refine aw_iload dM_read_38 rfl ?_
      refine aw_if_eq (tgt := 74) dM_read_40 (by decide) (fun c40 => ?_) (fun c40 => ?_)
      · refine aw_iinc dM_read_74 rfl (nI_1 i) (by decide) ?_
        refine aw_goto (tgt := 10) dM_read_77 (by decide) ?_
        have e := crL_0 (s := (svF N V K k k2)) (i := i) c40
        exact an_weak (ih (i + 1) I1 A1 (by omega) h2 (by rw [e]; exact h3) (by rw [e]; exact h4) h5) ⟨rfl, rfl, rfl, by rw [e]; rfl, rfl, trivial⟩
      · refine aw_iload_n dM_read_43 rfl ?_
        refine aw_iload dM_read_44 rfl ?_
        refine aw_ineg dM_read_46 ?_
        refine aw_icmp_ne (tgt := 71) dM_read_47 (by decide) (fun c47 => ?_) (fun c47 => ?_)
        · refine aw_iload dM_read_71 rfl ?_
          refine aw_istore_n dM_read_73 (by decide) ?_
          refine aw_iinc dM_read_74 rfl (nI_1 i) (by decide) ?_
          refine aw_goto (tgt := 10) dM_read_77 (by decide) ?_
          have e := crL_m (s := (svF N V K k k2)) (i := i) (sv_range.elim Or.inl (fun q => q.elim Or.inr (fun q => absurd (q.resolve_right c30) c40))) c47
          exact an_weak (ih (i + 1) I1 A1 (by omega) h2 (by rw [e]; exact h3) (by rw [e]; exact h4) h5) ⟨rfl, rfl, rfl, by rw [e]; rfl, rfl, trivial⟩
        · refine aw_aload_r dM_read_50 rfl ?_
          refine aw_get fg_M_9 dM_read_51 rfl rfl ?_
          refine aw_aload_r dM_read_54 rfl ?_
          refine aw_get fg_M_15 dM_read_55 rfl rfl ?_
          rw [h3]
          refine aw_iload dM_read_58 rfl ?_
          refine an_stC dM_read_60 ac_21 rfl (by omega) (by decide) ?_
          refine aw_aload_r dM_read_61 rfl ?_
          refine aw_dup dM_read_62 rfl ?_
          refine aw_get fg_M_15 dM_read_63 rfl rfl ?_
          rw [h3]
          refine aw_iconst (v := 1) dM_read_66 (by decide) ?_
          refine aw_iadd dM_read_67 ?_
          refine an_top (nI_1 _) ?_
          refine an_putM fp_M_15 dM_read_68 ?_
          refine aw_iload dM_read_71 rfl ?_
          refine aw_istore_n dM_read_73 (by decide) ?_
          refine aw_iinc dM_read_74 rfl (nI_1 i) (by decide) ?_
          refine aw_goto (tgt := 10) dM_read_77 (by decide) ?_
          have e := crL_h (s := (svF N V K k k2)) (i := i) (sv_range.elim Or.inl (fun q => q.elim Or.inr (fun q => absurd (q.resolve_right c30) c40))) c47
          exact an_weak (ih (i + 1) _ _ (by omega) (cinv_s (cinv_a h2 (by decide) _) (by decide) _) (by rw [e]; simp; exact rfl) (by rw [e]; exact h4.snoc i) h5) ⟨rfl, rfl, rfl, by rw [e]; rfl, rfl, trivial⟩
    · refine aw_iconst (v := 0) dM_read_33 (by decide) ?_
      refine aw_istore_n dM_read_34 (by decide) ?_
      refine aw_goto (tgt := 74) dM_read_35 (by decide) ?_
      refine aw_iinc dM_read_74 rfl (nI_1 i) (by decide) ?_
      refine aw_goto (tgt := 10) dM_read_77 (by decide) ?_
      have e := crL_u (s := (svF N V K k k2)) (i := i) c30
      exact an_weak (ih (i + 1) I1 A1 (by omega) h2 (by rw [e]; exact h3) (by rw [e]; exact h4) h5) ⟨rfl, rfl, rfl, by rw [e]; rfl, rfl, trivial⟩

set_option maxHeartbeats 4000000 in
set_option maxRecDepth 100000 in
theorem c_M_read (N : Nat → Nat) (V : Nat → Nat → Int32) (K : Nat → Int32) (I : Nat → Int32) (A : Nat → Nat → Int32) (hI : CInv N V K I A) (hP : PInv N V K) {k k2 : Nat} (hk : k < 4) (hk2 : k2 < 4) : AM kM_read 3 [.ref 20, .ref (2 + 2 * k), .ref (2 + 2 * k2)] (hC I A) (XQC N V K I A (crossL N V K k k2)) := by
  refine AMet.of (by decide) (by simp [Value.category]) (Nat.le_of_ble_eq_true rfl) ?_
  refine aw_aload_r dM_read_0 rfl ?_
  refine aw_iconst (v := 0) dM_read_1 (by decide) ?_
  refine an_putM fp_M_15 dM_read_2 ?_
  refine aw_iconst (v := 0) dM_read_5 (by decide) ?_
  refine aw_istore_n dM_read_6 (by decide) ?_
  refine aw_iconst (v := 0) dM_read_7 (by decide) ?_
  refine aw_istore dM_read_8 (by decide) ?_
  exact an_weak (l_M_read N V K I A hI hP hk hk2 40 0 _ _ (by omega) (cinv_s hI (by decide) 0) rfl AL.nil rfl) ⟨rfl, rfl, rfl, rfl, rfl, trivial⟩

def RMQ (N : Nat → Nat) (V : Nat → Nat → Int32) (K I : Nat → Int32) (A : Nat → Nat → Int32) (a b : Int32) : QT := fun v h' => (¬ (¬ a = b ∧ IsRow a ∧ IsRow b) ∧ v = some (.int 0) ∧ h' = hC I A) ∨ ((¬ a = b ∧ IsRow a ∧ IsRow b) ∧ v = some (.int 1) ∧ XQC N V K I A (crossL N V K (rn a) (rn b)) none h')
set_option maxHeartbeats 4000000 in
set_option maxRecDepth 100000 in
theorem c_E_readMeeting (N : Nat → Nat) (V : Nat → Nat → Int32) (K : Nat → Int32) (I : Nat → Int32) (A : Nat → Nat → Int32) (hI : CInv N V K I A) (hP : PInv N V K) (a b : Int32) : AM kE_readMeeting 4 [.ref 0, .int a, .int b] (hC I A) (RMQ N V K I A a b) := by
  refine AMet.of (by decide) (by simp [Value.category]) (Nat.le_of_ble_eq_true rfl) ?_
  refine aw_iload_n dE_readMeeting_0 rfl ?_
  refine aw_iload_n dE_readMeeting_1 rfl ?_
  refine an_callSb cg_E_119 (c_E_areTwoRows _ _ _) dE_readMeeting_2 rfl rfl (Nat.le_of_ble_eq_true rfl) (Nat.le_of_ble_eq_true rfl) (fun p2 => ?_) (fun p2 => ?_)
  · refine aw_if_ne (tgt := 10) dE_readMeeting_5 (by decide) (fun _ => ?_) (fun q => absurd q (by decide))
    obtain ⟨k, hk, rfl⟩ := isRow_k p2.2.1
    obtain ⟨k2, hk2, rfl⟩ := isRow_k p2.2.2
    refine aw_aload_r dE_readMeeting_10 rfl ?_
    refine aw_get fg_E_26 dE_readMeeting_11 rfl rfl ?_
    refine aw_aload_r dE_readMeeting_14 rfl ?_
    refine aw_get fg_E_11 dE_readMeeting_15 rfl rfl ?_
    refine aw_iload_n dE_readMeeting_18 rfl ?_
    refine an_rows dE_readMeeting_19 rfl hk ?_
    refine aw_aload_r dE_readMeeting_20 rfl ?_
    refine aw_get fg_E_11 dE_readMeeting_21 rfl rfl ?_
    refine aw_iload_n dE_readMeeting_24 rfl ?_
    refine an_rows dE_readMeeting_25 rfl hk2 ?_
    refine an_callVx cg_E_183 (c_M_read _ _ _ _ _ hI hP hk hk2) dE_readMeeting_26 rfl rfl rfl rfl rfl (Nat.le_of_ble_eq_true rfl) (Nat.le_of_ble_eq_true rfl) ?_
    rintro _ _ ⟨rfl, I1, A1, rfl, h1, e16, hal, h27⟩
    refine aw_iconst (v := 1) dE_readMeeting_29 (by decide) ?_
    exact aw_zret rfl (Or.inr rfl) dE_readMeeting_30 (Or.inr ⟨p2, rfl, by rw [rn_n (by omega), rn_n (by omega)]; exact ⟨rfl, I1, A1, rfl, h1, e16, hal, h27⟩⟩)
  · refine aw_if_ne (tgt := 10) dE_readMeeting_5 (by decide) (fun q => absurd q (by decide)) (fun _ => ?_)
    refine aw_iconst (v := 0) dE_readMeeting_8 (by decide) ?_
    exact aw_zret rfl (Or.inl rfl) dE_readMeeting_9 (Or.inl ⟨p2, rfl, rfl⟩)

set_option maxHeartbeats 4000000 in
set_option maxRecDepth 100000 in
theorem c_E_sure (N : Nat → Nat) (V : Nat → Nat → Int32) (K : Nat → Int32) (I : Nat → Int32) (A : Nat → Nat → Int32) (hI : CInv N V K I A) (hP : PInv N V K) (a b s : Int32) : AM kE_sure 3 [.ref 0, .int a, .int b, .int s] (hC I A) (CR (sp_sure N V K a b s)) := by
  refine AMet.of (by decide) (by simp [Value.category]) (Nat.le_of_ble_eq_true rfl) ?_
  refine aw_iload_n dE_sure_0 rfl ?_
  refine aw_iload_n dE_sure_1 rfl ?_
  refine an_callSb cg_E_119 (c_E_areTwoRows _ _ _) dE_sure_2 rfl rfl (Nat.le_of_ble_eq_true rfl) (Nat.le_of_ble_eq_true rfl) (fun p2 => ?_) (fun p2 => ?_)
  · refine aw_if_eq (tgt := 27) dE_sure_5 (by decide) (fun q => absurd q (by decide)) (fun _ => ?_)
    obtain ⟨k, hk, rfl⟩ := isRow_k p2.2.1
    obtain ⟨k2, hk2, rfl⟩ := isRow_k p2.2.2
    refine aw_aload_r dE_sure_8 rfl ?_
    refine aw_get fg_E_11 dE_sure_9 rfl rfl ?_
    refine aw_iload_n dE_sure_12 rfl ?_
    refine an_rows dE_sure_13 rfl hk ?_
    refine aw_aload_r dE_sure_14 rfl ?_
    refine aw_get fg_E_11 dE_sure_15 rfl rfl ?_
    refine aw_iload_n dE_sure_18 rfl ?_
    refine an_rows dE_sure_19 rfl hk2 ?_
    refine aw_iload_n dE_sure_20 rfl ?_
    refine an_callSr cg_E_123 (c_E_compareSurely _ _ _ _ _ hI hP hk hk2 _) dE_sure_21 rfl rfl (Nat.le_of_ble_eq_true rfl) (Nat.le_of_ble_eq_true rfl) ?_
    refine aw_goto (tgt := 29) dE_sure_24 (by decide) ?_
    exact aw_iret rfl dE_sure_29 (by unfold sp_sure; rw [sureE_R hk hk2 (fun q => p2.1 (by rw [q]))]; exact ⟨rfl, I, A, rfl, hI⟩)
  · refine aw_if_eq (tgt := 27) dE_sure_5 (by decide) (fun _ => ?_) (fun q => absurd q (by decide))
    refine aw_bipush (v := (-2)) dE_sure_27 (by decide) ?_
    exact aw_iret rfl dE_sure_29 (by unfold sp_sure sureE; rw [cif_f (fun q => p2 ⟨q.2.2.1, q.1, q.2.1⟩)]; exact ⟨rfl, I, A, rfl, hI⟩)

set_option maxHeartbeats 4000000 in
set_option maxRecDepth 100000 in
theorem c_E_crossings (N : Nat → Nat) (V : Nat → Nat → Int32) (K : Nat → Int32) (I : Nat → Int32) (A : Nat → Nat → Int32) (hI : CInv N V K I A) (hP : PInv N V K) (a b : Int32) : AM kE_crossings 5 [.ref 0, .int a, .int b] (hC I A) (CR (sp_crossings N V K a b)) := by
  refine AMet.of (by decide) (by simp [Value.category]) (Nat.le_of_ble_eq_true rfl) ?_
  refine aw_aload_r dE_crossings_0 rfl ?_
  refine aw_iload_n dE_crossings_1 rfl ?_
  refine aw_iload_n dE_crossings_2 rfl ?_
  refine an_callVx cg_E_127 (c_E_readMeeting _ _ _ _ _ hI hP _ _) dE_crossings_3 rfl rfl rfl rfl rfl (Nat.le_of_ble_eq_true rfl) (Nat.le_of_ble_eq_true rfl) ?_
  rintro _ _ (⟨p3, rfl, rfl⟩ | ⟨p3, rfl, -, I1, A1, rfl, h1, e16, hal, h27⟩)
  · refine aw_if_eq (tgt := 19) dE_crossings_6 (by decide) (fun _ => ?_) (fun q => absurd q (by decide))
    refine aw_iconst (v := (-1)) dE_crossings_19 (by decide) ?_
    exact aw_iret rfl dE_crossings_20 (by unfold sp_crossings; rw [cif_f p3]; exact ⟨rfl, I, A, rfl, hI⟩)
  · refine aw_if_eq (tgt := 19) dE_crossings_6 (by decide) (fun q => absurd q (by decide)) (fun _ => ?_)
    refine aw_aload_r dE_crossings_9 rfl ?_
    refine aw_get fg_E_26 dE_crossings_10 rfl rfl ?_
    refine aw_get fg_E_130 dE_crossings_13 rfl rfl ?_
    show AN _ _ _ _ _ (.int (I1 2001) :: _) _
    rw [e16]
    refine aw_goto (tgt := 20) dE_crossings_16 (by decide) ?_
    exact aw_iret rfl dE_crossings_20 (by unfold sp_crossings; rw [cif_t p3]; exact ⟨rfl, I1, A1, rfl, h1⟩)

set_option maxHeartbeats 4000000 in
set_option maxRecDepth 100000 in
theorem c_E_crossing (N : Nat → Nat) (V : Nat → Nat → Int32) (K : Nat → Int32) (I : Nat → Int32) (A : Nat → Nat → Int32) (hI : CInv N V K I A) (hP : PInv N V K) (a b k : Int32) : AM kE_crossing 5 [.ref 0, .int a, .int b, .int k] (hC I A) (CR (sp_crossing N V K a b k)) := by
  refine AMet.of (by decide) (by simp [Value.category]) (Nat.le_of_ble_eq_true rfl) ?_
  refine aw_aload_r dE_crossing_0 rfl ?_
  refine aw_iload_n dE_crossing_1 rfl ?_
  refine aw_iload_n dE_crossing_2 rfl ?_
  refine an_callVx cg_E_127 (c_E_readMeeting _ _ _ _ _ hI hP _ _) dE_crossing_3 rfl rfl rfl rfl rfl (Nat.le_of_ble_eq_true rfl) (Nat.le_of_ble_eq_true rfl) ?_
  rintro _ _ (⟨p3, rfl, rfl⟩ | ⟨p3, rfl, -, I1, A1, rfl, h1, e16, hal, h27⟩)
  · refine aw_if_eq (tgt := 38) dE_crossing_6 (by decide) (fun _ => ?_) (fun q => absurd q (by decide))
    refine aw_iconst (v := (-1)) dE_crossing_38 (by decide) ?_
    exact aw_iret rfl dE_crossing_39 (by unfold sp_crossing; rw [cif_f (fun q => p3 q.1)]; exact ⟨rfl, I, A, rfl, hI⟩)
  · refine aw_if_eq (tgt := 38) dE_crossing_6 (by decide) (fun q => absurd q (by decide)) (fun _ => ?_)
    have hln : (crossL N V K (rn a) (rn b)).length ≤ 40 := crL_len _
    refine aw_iload_n dE_crossing_9 rfl ?_
    refine aw_iconst (v := 0) dE_crossing_10 (by decide) ?_
    refine aw_aload_r dE_crossing_11 rfl ?_
    refine aw_get fg_E_26 dE_crossing_12 rfl rfl ?_
    refine aw_get fg_E_130 dE_crossing_15 rfl rfl ?_
    show AN _ _ _ _ _ (.int (I1 2001) :: _) _
    rw [e16]
    refine aw_iconst (v := 1) dE_crossing_18 (by decide) ?_
    refine aw_isub dE_crossing_19 ?_
    refine an_callSb cg_E_82 (c_E_within _ _ _ _) dE_crossing_20 rfl rfl (Nat.le_of_ble_eq_true rfl) (Nat.le_of_ble_eq_true rfl) (fun p20 => ?_) (fun p20 => ?_)
    · refine aw_if_eq (tgt := 38) dE_crossing_23 (by decide) (fun q => absurd q (by decide)) (fun _ => ?_)
      rw [in_pred hln] at p20
      obtain ⟨j, hjl, rfl⟩ := in_ix (n := (crossL N V K (rn a) (rn b)).length) (by omega) p20.1 p20.2
      refine aw_aload_r dE_crossing_26 rfl ?_
      refine aw_get fg_E_26 dE_crossing_27 rfl rfl ?_
      refine aw_get fg_E_131 dE_crossing_30 rfl rfl ?_
      refine aw_iload_n dE_crossing_33 rfl ?_
      refine an_ldC dE_crossing_34 ac_21 rfl (by omega) (by decide) ?_
      rw [hal j hjl]
      refine aw_goto (tgt := 39) dE_crossing_35 (by decide) ?_
      exact aw_iret rfl dE_crossing_39 (by unfold sp_crossing; rw [cif_t ⟨p3, p20⟩, rn_n (k := j) (by omega)]; exact ⟨rfl, I1, A1, rfl, h1⟩)
    · refine aw_if_eq (tgt := 38) dE_crossing_23 (by decide) (fun _ => ?_) (fun q => absurd q (by decide))
      refine aw_iconst (v := (-1)) dE_crossing_38 (by decide) ?_
      exact aw_iret rfl dE_crossing_39 (by unfold sp_crossing; rw [cif_f (fun q => p20 ((in_pred hln).mpr q.2))]; exact ⟨rfl, I1, A1, rfl, h1⟩)
end
section
/-! shapes: the least costs from the end on, the kinds, the spans -/
abbrev wy (v : Nat → Int32) (n i : Nat) : Prop := i + 1 < n ∧ ¬ v i = -5000 ∧ ¬ v (i + 1) = -5000
def wc (v : Nat → Int32) (i kd : Nat) : Int32 := if kd = 1 then (if v (i + 1) - v i < 0 then -(v (i + 1) - v i) else 0) else if kd = 2 then (if 0 < v (i + 1) - v i then v (i + 1) - v i else 0) else (if v (i + 1) - v i < 0 then -(v (i + 1) - v i) else v (i + 1) - v i)
def cb (g : Nat → Int32) (p : Int32) (b q : Nat) : Int32 := if q = b then g q else g q + p
def mn3 (g : Nat → Int32) (p : Int32) (b : Nat) : Int32 := if cb g p b 3 < (if cb g p b 2 < cb g p b 1 then cb g p b 2 else cb g p b 1) then cb g p b 3 else (if cb g p b 2 < cb g p b 1 then cb g p b 2 else cb g p b 1)
def bk2 (g : Nat → Int32) (p : Int32) (b : Nat) : Nat := if cb g p b 2 < cb g p b 1 then 2 else 1
def bk (g : Nat → Int32) (p : Int32) (b : Nat) : Nat := if cb g p b 3 < cb g p b (bk2 g p b) then 3 else bk2 g p b
def dpf (v : Nat → Int32) (n : Nat) (p : Int32) : Nat → Nat → Nat → Int32
  | 0, _, _ => 0
  | f + 1, i, kd => if wy v n i then wc v i kd + (if wy v n (i + 1) then mn3 (dpf v n p f (i + 1)) p kd else 0) else 0
def DP (v : Nat → Int32) (n : Nat) (p : Int32) (i kd : Nat) : Int32 := dpf v n p (41 - i) i kd
def kq (v : Nat → Int32) (n : Nat) (p : Int32) : Nat → Nat
  | 0 => if wy v n 0 then bk (DP v n p 0) p 0 else 0
  | i + 1 => if wy v n (i + 1) then bk (DP v n p (i + 1)) p (kq v n p i) else 0
def bef (v : Nat → Int32) (n : Nat) (p : Int32) : Nat → Nat
  | 0 => 0
  | i + 1 => kq v n p i
section DPS
variable {v : Nat → Int32} {n : Nat} {p : Int32} {i kd b q : Nat} {g g' : Nat → Int32}
theorem kq_eq : ∀ i, kq v n p i = if wy v n i then bk (DP v n p i) p (bef v n p i) else 0
  | 0 => rfl
  | _ + 1 => rfl
theorem DP_eq (hi : i ≤ 40) : DP v n p i kd = if wy v n i then wc v i kd + (if wy v n (i + 1) then mn3 (DP v n p (i + 1)) p kd else 0) else 0 := by
  unfold DP
  rw [show 41 - i = (41 - (i + 1)) + 1 by omega]
  rfl
theorem cb_congr (h : ∀ q, 1 ≤ q → q ≤ 3 → g q = g' q) (h1 : 1 ≤ q) (h3 : q ≤ 3) : cb g p b q = cb g' p b q := by
  unfold cb; rw [h q h1 h3]
theorem bk2_range : 1 ≤ bk2 g p b ∧ bk2 g p b ≤ 2 := by unfold bk2; split <;> omega
theorem bk_range : 1 ≤ bk g p b ∧ bk g p b ≤ 3 := by
  have := bk2_range (g := g) (p := p) (b := b)
  unfold bk; split <;> omega
theorem mn3_congr (h : ∀ q, 1 ≤ q → q ≤ 3 → g q = g' q) : mn3 g p b = mn3 g' p b := by
  unfold mn3
  rw [cb_congr h (by decide) (by decide), cb_congr h (by decide) (by decide), cb_congr h (by decide) (by decide)]
theorem bk_congr (h : ∀ q, 1 ≤ q → q ≤ 3 → g q = g' q) : bk g p b = bk g' p b := by
  have e2 : bk2 g p b = bk2 g' p b := by
    unfold bk2
    rw [cb_congr h (by decide) (by decide), cb_congr h (by decide) (by decide)]
  have r := bk2_range (g := g') (p := p) (b := b)
  unfold bk
  rw [e2, cb_congr h (by decide) (by decide), cb_congr h r.1 (by omega)]
theorem mn3_bk : mn3 g p b = cb g p b (bk g p b) := by
  unfold mn3 bk bk2
  by_cases h : cb g p b 2 < cb g p b 1
  · simp only [h, if_true]
    split <;> rfl
  · simp only [h, if_false]
    split <;> rfl
theorem wy_lt (h : wy v n i) (hn : n ≤ 40) : i < 39 := by have := h.1; omega
theorem kq_range (h : wy v n i) : 1 ≤ kq v n p i ∧ kq v n p i ≤ 3 := by
  rw [kq_eq, if_pos h]; exact bk_range
theorem kq_no (h : ¬ wy v n i) : kq v n p i = 0 := by rw [kq_eq, if_neg h]
end DPS
theorem wy_hv {N : Nat → Nat} {V : Nat → Nat → Int32} (hN : ∀ k, k < 4 → N k ≤ 40) {k i : Nat} (hk : k < 4) (hi : i < 1000) : (HV N V (nI k) (nI i) ∧ HV N V (nI k) (nI (i + 1))) ↔ wy (V k) (N k) i := by
  have h40 := hN k hk
  constructor
  · rintro ⟨h1, h2⟩
    obtain ⟨a, ha, e1, q1⟩ := hv_i hN hk h1
    obtain ⟨c, hc, e2, q2⟩ := hv_i hN hk h2
    have := nI_inj (by omega) (by omega) e1
    have := nI_inj (by omega) (by omega) e2
    subst_vars
    exact ⟨by omega, q1, q2⟩
  · rintro ⟨h1, h2, h3⟩
    exact ⟨⟨k, i, hk, by omega, rfl, rfl, h2⟩, ⟨k, i + 1, hk, by omega, rfl, rfl, h3⟩⟩
/-- bounds -/
def VB (v : Nat → Int32) (n : Nat) : Prop := ∀ i, i < n → ¬ v i = -5000 → -1000 ≤ (v i).toInt ∧ (v i).toInt ≤ 1000
theorem PInv.vb {N : Nat → Nat} {V : Nat → Nat → Int32} {K : Nat → Int32} (h : PInv N V K) {k : Nat} (hk : k < 4) : VB (V k) (N k) := fun i hi hv => h.val hk hi hv
theorem PInv.part {N : Nat → Nat} {V : Nat → Nat → Int32} {K : Nat → Int32} (h : PInv N V K) : 0 ≤ (K 8).toInt ∧ (K 8).toInt ≤ 10000 := by
  have q := h.2.1
  unfold In at q; rw [z_0, z_10000] at q; exact q
section BND
variable {v : Nat → Int32} {n : Nat} {p : Int32} {i kd b q : Nat} {g : Nat → Int32}
theorem wd_b (hv : VB v n) (h : wy v n i) : (v (i + 1) - v i).toInt = (v (i + 1)).toInt - (v i).toInt ∧ -2000 ≤ (v (i + 1)).toInt - (v i).toInt ∧ (v (i + 1)).toInt - (v i).toInt ≤ 2000 := by
  have h1 := hv i (by have := h.1; omega) h.2.1
  have h2 := hv (i + 1) h.1 h.2.2
  refine ⟨i_sub (by omega) (by omega), by omega, by omega⟩
theorem wc_b (hv : VB v n) (h : wy v n i) : 0 ≤ (wc v i kd).toInt ∧ (wc v i kd).toInt ≤ 2000 := by
  obtain ⟨e, h1, h2⟩ := wd_b hv h
  have en := i_neg (a := v (i + 1) - v i) (by omega)
  unfold wc
  simp only [lt_T, e, z_0]
  split
  · split
    · rw [en]; omega
    · rw [z_0]; omega
  · split
    · split
      · rw [e]; omega
      · rw [z_0]; omega
    · split
      · rw [en]; omega
      · rw [e]; omega
theorem cb_b {M : Int} (hM : M ≤ 1000000) (hp : 0 ≤ p.toInt ∧ p.toInt ≤ 10000) (hg : 0 ≤ (g q).toInt ∧ (g q).toInt ≤ M) : 0 ≤ (cb g p b q).toInt ∧ (cb g p b q).toInt ≤ M + 10000 := by
  unfold cb
  split
  · omega
  · rw [i_add (by omega) (by omega)]; omega
theorem mn3_b {M : Int} (hM : M ≤ 1000000) (hp : 0 ≤ p.toInt ∧ p.toInt ≤ 10000) (hg : ∀ q, 0 ≤ (g q).toInt ∧ (g q).toInt ≤ M) : 0 ≤ (mn3 g p b).toInt ∧ (mn3 g p b).toInt ≤ M + 10000 := by
  rw [mn3_bk]; exact cb_b hM hp (hg _)
theorem dpf_b (hv : VB v n) (hp : 0 ≤ p.toInt ∧ p.toInt ≤ 10000) : ∀ f, f ≤ 41 → ∀ i kd, 0 ≤ (dpf v n p f i kd).toInt ∧ (dpf v n p f i kd).toInt ≤ 12000 * (f : Int)
  | 0, _, i, kd => by
    simp only [dpf, z_0]; omega
  | f + 1, hf, i, kd => by
    have ih := dpf_b hv hp f (by omega)
    simp only [dpf]
    split
    · rename_i hw
      have h1 := wc_b (kd := kd) hv hw
      split
      · have h2 := mn3_b (M := 12000 * (f : Int)) (b := kd) (by omega) hp (ih (i + 1))
        rw [i_add (by omega) (by omega)]
        omega
      · rw [i_add (by rw [z_0]; omega) (by rw [z_0]; omega), z_0]
        omega
    · rw [z_0]; omega
theorem DP_b (hv : VB v n) (hp : 0 ≤ p.toInt ∧ p.toInt ≤ 10000) (i kd : Nat) : 0 ≤ (DP v n p i kd).toInt ∧ (DP v n p i kd).toInt ≤ 492000 := by
  have := dpf_b hv hp (41 - i) (by omega) i kd
  unfold DP
  omega
end BND
end
section
/-! locals as plain lists: a store gives a plain list again -/
section LOC
variable {M : MI} {d : Nat} {Q : QT} {pc : Nat} {st : List Value} {h : List AC}
theorem si1_0 {a0 : Option Value} {v : Int32} (hd : decode M.2.1 pc = .ok (.istore_n 0, 1)) (hn : 0 < M.2.2.1) (kk : AN M d Q (pc + 1) [some (.int v)] st h) : AN M d Q pc [a0] (.int v :: st) h := aw_istore_n hd hn kk
theorem sa1_0 {a0 : Option Value} {v : Nat} (hd : decode M.2.1 pc = .ok (.astore_n 0, 1)) (hn : 0 < M.2.2.1) (kk : AN M d Q (pc + 1) [some (.ref v)] st h) : AN M d Q pc [a0] (.ref v :: st) h := an_astore_r hd hn kk
theorem ic1_0 {v w : Int32} {z : Int} (hd : decode M.2.1 pc = .ok (.iinc 0 z, 3)) (e : v + Int32.ofInt z = w) (hn : 0 < M.2.2.1) (kk : AN M d Q (pc + 3) [some (.int w)] st h) : AN M d Q pc [some (.int v)] st h := aw_iinc hd rfl e hn kk
theorem si2_0 {a0 a1 : Option Value} {v : Int32} (hd : decode M.2.1 pc = .ok (.istore_n 0, 1)) (hn : 0 < M.2.2.1) (kk : AN M d Q (pc + 1) [some (.int v), a1] st h) : AN M d Q pc [a0, a1] (.int v :: st) h := aw_istore_n hd hn kk
theorem sa2_0 {a0 a1 : Option Value} {v : Nat} (hd : decode M.2.1 pc = .ok (.astore_n 0, 1)) (hn : 0 < M.2.2.1) (kk : AN M d Q (pc + 1) [some (.ref v), a1] st h) : AN M d Q pc [a0, a1] (.ref v :: st) h := an_astore_r hd hn kk
theorem ic2_0 {a1 : Option Value} {v w : Int32} {z : Int} (hd : decode M.2.1 pc = .ok (.iinc 0 z, 3)) (e : v + Int32.ofInt z = w) (hn : 0 < M.2.2.1) (kk : AN M d Q (pc + 3) [some (.int w), a1] st h) : AN M d Q pc [some (.int v), a1] st h := aw_iinc hd rfl e hn kk
theorem si2_1 {a0 a1 : Option Value} {v : Int32} (hd : decode M.2.1 pc = .ok (.istore_n 1, 1)) (hn : 1 < M.2.2.1) (kk : AN M d Q (pc + 1) [a0, some (.int v)] st h) : AN M d Q pc [a0, a1] (.int v :: st) h := aw_istore_n hd hn kk
theorem sa2_1 {a0 a1 : Option Value} {v : Nat} (hd : decode M.2.1 pc = .ok (.astore_n 1, 1)) (hn : 1 < M.2.2.1) (kk : AN M d Q (pc + 1) [a0, some (.ref v)] st h) : AN M d Q pc [a0, a1] (.ref v :: st) h := an_astore_r hd hn kk
theorem ic2_1 {a0 : Option Value} {v w : Int32} {z : Int} (hd : decode M.2.1 pc = .ok (.iinc 1 z, 3)) (e : v + Int32.ofInt z = w) (hn : 1 < M.2.2.1) (kk : AN M d Q (pc + 3) [a0, some (.int w)] st h) : AN M d Q pc [a0, some (.int v)] st h := aw_iinc hd rfl e hn kk
theorem si3_0 {a0 a1 a2 : Option Value} {v : Int32} (hd : decode M.2.1 pc = .ok (.istore_n 0, 1)) (hn : 0 < M.2.2.1) (kk : AN M d Q (pc + 1) [some (.int v), a1, a2] st h) : AN M d Q pc [a0, a1, a2] (.int v :: st) h := aw_istore_n hd hn kk
theorem sa3_0 {a0 a1 a2 : Option Value} {v : Nat} (hd : decode M.2.1 pc = .ok (.astore_n 0, 1)) (hn : 0 < M.2.2.1) (kk : AN M d Q (pc + 1) [some (.ref v), a1, a2] st h) : AN M d Q pc [a0, a1, a2] (.ref v :: st) h := an_astore_r hd hn kk
theorem ic3_0 {a1 a2 : Option Value} {v w : Int32} {z : Int} (hd : decode M.2.1 pc = .ok (.iinc 0 z, 3)) (e : v + Int32.ofInt z = w) (hn : 0 < M.2.2.1) (kk : AN M d Q (pc + 3) [some (.int w), a1, a2] st h) : AN M d Q pc [some (.int v), a1, a2] st h := aw_iinc hd rfl e hn kk
theorem si3_1 {a0 a1 a2 : Option Value} {v : Int32} (hd : decode M.2.1 pc = .ok (.istore_n 1, 1)) (hn : 1 < M.2.2.1) (kk : AN M d Q (pc + 1) [a0, some (.int v), a2] st h) : AN M d Q pc [a0, a1, a2] (.int v :: st) h := aw_istore_n hd hn kk
theorem sa3_1 {a0 a1 a2 : Option Value} {v : Nat} (hd : decode M.2.1 pc = .ok (.astore_n 1, 1)) (hn : 1 < M.2.2.1) (kk : AN M d Q (pc + 1) [a0, some (.ref v), a2] st h) : AN M d Q pc [a0, a1, a2] (.ref v :: st) h := an_astore_r hd hn kk
theorem ic3_1 {a0 a2 : Option Value} {v w : Int32} {z : Int} (hd : decode M.2.1 pc = .ok (.iinc 1 z, 3)) (e : v + Int32.ofInt z = w) (hn : 1 < M.2.2.1) (kk : AN M d Q (pc + 3) [a0, some (.int w), a2] st h) : AN M d Q pc [a0, some (.int v), a2] st h := aw_iinc hd rfl e hn kk
theorem si3_2 {a0 a1 a2 : Option Value} {v : Int32} (hd : decode M.2.1 pc = .ok (.istore_n 2, 1)) (hn : 2 < M.2.2.1) (kk : AN M d Q (pc + 1) [a0, a1, some (.int v)] st h) : AN M d Q pc [a0, a1, a2] (.int v :: st) h := aw_istore_n hd hn kk
theorem sa3_2 {a0 a1 a2 : Option Value} {v : Nat} (hd : decode M.2.1 pc = .ok (.astore_n 2, 1)) (hn : 2 < M.2.2.1) (kk : AN M d Q (pc + 1) [a0, a1, some (.ref v)] st h) : AN M d Q pc [a0, a1, a2] (.ref v :: st) h := an_astore_r hd hn kk
theorem ic3_2 {a0 a1 : Option Value} {v w : Int32} {z : Int} (hd : decode M.2.1 pc = .ok (.iinc 2 z, 3)) (e : v + Int32.ofInt z = w) (hn : 2 < M.2.2.1) (kk : AN M d Q (pc + 3) [a0, a1, some (.int w)] st h) : AN M d Q pc [a0, a1, some (.int v)] st h := aw_iinc hd rfl e hn kk
theorem si4_0 {a0 a1 a2 a3 : Option Value} {v : Int32} (hd : decode M.2.1 pc = .ok (.istore_n 0, 1)) (hn : 0 < M.2.2.1) (kk : AN M d Q (pc + 1) [some (.int v), a1, a2, a3] st h) : AN M d Q pc [a0, a1, a2, a3] (.int v :: st) h := aw_istore_n hd hn kk
theorem sa4_0 {a0 a1 a2 a3 : Option Value} {v : Nat} (hd : decode M.2.1 pc = .ok (.astore_n 0, 1)) (hn : 0 < M.2.2.1) (kk : AN M d Q (pc + 1) [some (.ref v), a1, a2, a3] st h) : AN M d Q pc [a0, a1, a2, a3] (.ref v :: st) h := an_astore_r hd hn kk
theorem ic4_0 {a1 a2 a3 : Option Value} {v w : Int32} {z : Int} (hd : decode M.2.1 pc = .ok (.iinc 0 z, 3)) (e : v + Int32.ofInt z = w) (hn : 0 < M.2.2.1) (kk : AN M d Q (pc + 3) [some (.int w), a1, a2, a3] st h) : AN M d Q pc [some (.int v), a1, a2, a3] st h := aw_iinc hd rfl e hn kk
theorem si4_1 {a0 a1 a2 a3 : Option Value} {v : Int32} (hd : decode M.2.1 pc = .ok (.istore_n 1, 1)) (hn : 1 < M.2.2.1) (kk : AN M d Q (pc + 1) [a0, some (.int v), a2, a3] st h) : AN M d Q pc [a0, a1, a2, a3] (.int v :: st) h := aw_istore_n hd hn kk
theorem sa4_1 {a0 a1 a2 a3 : Option Value} {v : Nat} (hd : decode M.2.1 pc = .ok (.astore_n 1, 1)) (hn : 1 < M.2.2.1) (kk : AN M d Q (pc + 1) [a0, some (.ref v), a2, a3] st h) : AN M d Q pc [a0, a1, a2, a3] (.ref v :: st) h := an_astore_r hd hn kk
theorem ic4_1 {a0 a2 a3 : Option Value} {v w : Int32} {z : Int} (hd : decode M.2.1 pc = .ok (.iinc 1 z, 3)) (e : v + Int32.ofInt z = w) (hn : 1 < M.2.2.1) (kk : AN M d Q (pc + 3) [a0, some (.int w), a2, a3] st h) : AN M d Q pc [a0, some (.int v), a2, a3] st h := aw_iinc hd rfl e hn kk
theorem si4_2 {a0 a1 a2 a3 : Option Value} {v : Int32} (hd : decode M.2.1 pc = .ok (.istore_n 2, 1)) (hn : 2 < M.2.2.1) (kk : AN M d Q (pc + 1) [a0, a1, some (.int v), a3] st h) : AN M d Q pc [a0, a1, a2, a3] (.int v :: st) h := aw_istore_n hd hn kk
theorem sa4_2 {a0 a1 a2 a3 : Option Value} {v : Nat} (hd : decode M.2.1 pc = .ok (.astore_n 2, 1)) (hn : 2 < M.2.2.1) (kk : AN M d Q (pc + 1) [a0, a1, some (.ref v), a3] st h) : AN M d Q pc [a0, a1, a2, a3] (.ref v :: st) h := an_astore_r hd hn kk
theorem ic4_2 {a0 a1 a3 : Option Value} {v w : Int32} {z : Int} (hd : decode M.2.1 pc = .ok (.iinc 2 z, 3)) (e : v + Int32.ofInt z = w) (hn : 2 < M.2.2.1) (kk : AN M d Q (pc + 3) [a0, a1, some (.int w), a3] st h) : AN M d Q pc [a0, a1, some (.int v), a3] st h := aw_iinc hd rfl e hn kk
theorem si4_3 {a0 a1 a2 a3 : Option Value} {v : Int32} (hd : decode M.2.1 pc = .ok (.istore_n 3, 1)) (hn : 3 < M.2.2.1) (kk : AN M d Q (pc + 1) [a0, a1, a2, some (.int v)] st h) : AN M d Q pc [a0, a1, a2, a3] (.int v :: st) h := aw_istore_n hd hn kk
theorem sa4_3 {a0 a1 a2 a3 : Option Value} {v : Nat} (hd : decode M.2.1 pc = .ok (.astore_n 3, 1)) (hn : 3 < M.2.2.1) (kk : AN M d Q (pc + 1) [a0, a1, a2, some (.ref v)] st h) : AN M d Q pc [a0, a1, a2, a3] (.ref v :: st) h := an_astore_r hd hn kk
theorem ic4_3 {a0 a1 a2 : Option Value} {v w : Int32} {z : Int} (hd : decode M.2.1 pc = .ok (.iinc 3 z, 3)) (e : v + Int32.ofInt z = w) (hn : 3 < M.2.2.1) (kk : AN M d Q (pc + 3) [a0, a1, a2, some (.int w)] st h) : AN M d Q pc [a0, a1, a2, some (.int v)] st h := aw_iinc hd rfl e hn kk
theorem si5_0 {a0 a1 a2 a3 a4 : Option Value} {v : Int32} (hd : decode M.2.1 pc = .ok (.istore_n 0, 1)) (hn : 0 < M.2.2.1) (kk : AN M d Q (pc + 1) [some (.int v), a1, a2, a3, a4] st h) : AN M d Q pc [a0, a1, a2, a3, a4] (.int v :: st) h := aw_istore_n hd hn kk
theorem sa5_0 {a0 a1 a2 a3 a4 : Option Value} {v : Nat} (hd : decode M.2.1 pc = .ok (.astore_n 0, 1)) (hn : 0 < M.2.2.1) (kk : AN M d Q (pc + 1) [some (.ref v), a1, a2, a3, a4] st h) : AN M d Q pc [a0, a1, a2, a3, a4] (.ref v :: st) h := an_astore_r hd hn kk
theorem ic5_0 {a1 a2 a3 a4 : Option Value} {v w : Int32} {z : Int} (hd : decode M.2.1 pc = .ok (.iinc 0 z, 3)) (e : v + Int32.ofInt z = w) (hn : 0 < M.2.2.1) (kk : AN M d Q (pc + 3) [some (.int w), a1, a2, a3, a4] st h) : AN M d Q pc [some (.int v), a1, a2, a3, a4] st h := aw_iinc hd rfl e hn kk
theorem si5_1 {a0 a1 a2 a3 a4 : Option Value} {v : Int32} (hd : decode M.2.1 pc = .ok (.istore_n 1, 1)) (hn : 1 < M.2.2.1) (kk : AN M d Q (pc + 1) [a0, some (.int v), a2, a3, a4] st h) : AN M d Q pc [a0, a1, a2, a3, a4] (.int v :: st) h := aw_istore_n hd hn kk
theorem sa5_1 {a0 a1 a2 a3 a4 : Option Value} {v : Nat} (hd : decode M.2.1 pc = .ok (.astore_n 1, 1)) (hn : 1 < M.2.2.1) (kk : AN M d Q (pc + 1) [a0, some (.ref v), a2, a3, a4] st h) : AN M d Q pc [a0, a1, a2, a3, a4] (.ref v :: st) h := an_astore_r hd hn kk
theorem ic5_1 {a0 a2 a3 a4 : Option Value} {v w : Int32} {z : Int} (hd : decode M.2.1 pc = .ok (.iinc 1 z, 3)) (e : v + Int32.ofInt z = w) (hn : 1 < M.2.2.1) (kk : AN M d Q (pc + 3) [a0, some (.int w), a2, a3, a4] st h) : AN M d Q pc [a0, some (.int v), a2, a3, a4] st h := aw_iinc hd rfl e hn kk
theorem si5_2 {a0 a1 a2 a3 a4 : Option Value} {v : Int32} (hd : decode M.2.1 pc = .ok (.istore_n 2, 1)) (hn : 2 < M.2.2.1) (kk : AN M d Q (pc + 1) [a0, a1, some (.int v), a3, a4] st h) : AN M d Q pc [a0, a1, a2, a3, a4] (.int v :: st) h := aw_istore_n hd hn kk
theorem sa5_2 {a0 a1 a2 a3 a4 : Option Value} {v : Nat} (hd : decode M.2.1 pc = .ok (.astore_n 2, 1)) (hn : 2 < M.2.2.1) (kk : AN M d Q (pc + 1) [a0, a1, some (.ref v), a3, a4] st h) : AN M d Q pc [a0, a1, a2, a3, a4] (.ref v :: st) h := an_astore_r hd hn kk
theorem ic5_2 {a0 a1 a3 a4 : Option Value} {v w : Int32} {z : Int} (hd : decode M.2.1 pc = .ok (.iinc 2 z, 3)) (e : v + Int32.ofInt z = w) (hn : 2 < M.2.2.1) (kk : AN M d Q (pc + 3) [a0, a1, some (.int w), a3, a4] st h) : AN M d Q pc [a0, a1, some (.int v), a3, a4] st h := aw_iinc hd rfl e hn kk
theorem si5_3 {a0 a1 a2 a3 a4 : Option Value} {v : Int32} (hd : decode M.2.1 pc = .ok (.istore_n 3, 1)) (hn : 3 < M.2.2.1) (kk : AN M d Q (pc + 1) [a0, a1, a2, some (.int v), a4] st h) : AN M d Q pc [a0, a1, a2, a3, a4] (.int v :: st) h := aw_istore_n hd hn kk
theorem sa5_3 {a0 a1 a2 a3 a4 : Option Value} {v : Nat} (hd : decode M.2.1 pc = .ok (.astore_n 3, 1)) (hn : 3 < M.2.2.1) (kk : AN M d Q (pc + 1) [a0, a1, a2, some (.ref v), a4] st h) : AN M d Q pc [a0, a1, a2, a3, a4] (.ref v :: st) h := an_astore_r hd hn kk
theorem ic5_3 {a0 a1 a2 a4 : Option Value} {v w : Int32} {z : Int} (hd : decode M.2.1 pc = .ok (.iinc 3 z, 3)) (e : v + Int32.ofInt z = w) (hn : 3 < M.2.2.1) (kk : AN M d Q (pc + 3) [a0, a1, a2, some (.int w), a4] st h) : AN M d Q pc [a0, a1, a2, some (.int v), a4] st h := aw_iinc hd rfl e hn kk
theorem si5_4 {a0 a1 a2 a3 a4 : Option Value} {v : Int32} (hd : decode M.2.1 pc = .ok (.istore 4, 2)) (hn : 4 < M.2.2.1) (kk : AN M d Q (pc + 2) [a0, a1, a2, a3, some (.int v)] st h) : AN M d Q pc [a0, a1, a2, a3, a4] (.int v :: st) h := aw_istore hd hn kk
theorem sa5_4 {a0 a1 a2 a3 a4 : Option Value} {v : Nat} (hd : decode M.2.1 pc = .ok (.astore 4, 2)) (hn : 4 < M.2.2.1) (kk : AN M d Q (pc + 2) [a0, a1, a2, a3, some (.ref v)] st h) : AN M d Q pc [a0, a1, a2, a3, a4] (.ref v :: st) h := an_astore_m hd hn kk
theorem ic5_4 {a0 a1 a2 a3 : Option Value} {v w : Int32} {z : Int} (hd : decode M.2.1 pc = .ok (.iinc 4 z, 3)) (e : v + Int32.ofInt z = w) (hn : 4 < M.2.2.1) (kk : AN M d Q (pc + 3) [a0, a1, a2, a3, some (.int w)] st h) : AN M d Q pc [a0, a1, a2, a3, some (.int v)] st h := aw_iinc hd rfl e hn kk
theorem si6_0 {a0 a1 a2 a3 a4 a5 : Option Value} {v : Int32} (hd : decode M.2.1 pc = .ok (.istore_n 0, 1)) (hn : 0 < M.2.2.1) (kk : AN M d Q (pc + 1) [some (.int v), a1, a2, a3, a4, a5] st h) : AN M d Q pc [a0, a1, a2, a3, a4, a5] (.int v :: st) h := aw_istore_n hd hn kk
theorem sa6_0 {a0 a1 a2 a3 a4 a5 : Option Value} {v : Nat} (hd : decode M.2.1 pc = .ok (.astore_n 0, 1)) (hn : 0 < M.2.2.1) (kk : AN M d Q (pc + 1) [some (.ref v), a1, a2, a3, a4, a5] st h) : AN M d Q pc [a0, a1, a2, a3, a4, a5] (.ref v :: st) h := an_astore_r hd hn kk
theorem ic6_0 {a1 a2 a3 a4 a5 : Option Value} {v w : Int32} {z : Int} (hd : decode M.2.1 pc = .ok (.iinc 0 z, 3)) (e : v + Int32.ofInt z = w) (hn : 0 < M.2.2.1) (kk : AN M d Q (pc + 3) [some (.int w), a1, a2, a3, a4, a5] st h) : AN M d Q pc [some (.int v), a1, a2, a3, a4, a5] st h := aw_iinc hd rfl e hn kk
theorem si6_1 {a0 a1 a2 a3 a4 a5 : Option Value} {v : Int32} (hd : decode M.2.1 pc = .ok (.istore_n 1, 1)) (hn : 1 < M.2.2.1) (kk : AN M d Q (pc + 1) [a0, some (.int v), a2, a3, a4, a5] st h) : AN M d Q pc [a0, a1, a2, a3, a4, a5] (.int v :: st) h := aw_istore_n hd hn kk
theorem sa6_1 {a0 a1 a2 a3 a4 a5 : Option Value} {v : Nat} (hd : decode M.2.1 pc = .ok (.astore_n 1, 1)) (hn : 1 < M.2.2.1) (kk : AN M d Q (pc + 1) [a0, some (.ref v), a2, a3, a4, a5] st h) : AN M d Q pc [a0, a1, a2, a3, a4, a5] (.ref v :: st) h := an_astore_r hd hn kk
theorem ic6_1 {a0 a2 a3 a4 a5 : Option Value} {v w : Int32} {z : Int} (hd : decode M.2.1 pc = .ok (.iinc 1 z, 3)) (e : v + Int32.ofInt z = w) (hn : 1 < M.2.2.1) (kk : AN M d Q (pc + 3) [a0, some (.int w), a2, a3, a4, a5] st h) : AN M d Q pc [a0, some (.int v), a2, a3, a4, a5] st h := aw_iinc hd rfl e hn kk
theorem si6_2 {a0 a1 a2 a3 a4 a5 : Option Value} {v : Int32} (hd : decode M.2.1 pc = .ok (.istore_n 2, 1)) (hn : 2 < M.2.2.1) (kk : AN M d Q (pc + 1) [a0, a1, some (.int v), a3, a4, a5] st h) : AN M d Q pc [a0, a1, a2, a3, a4, a5] (.int v :: st) h := aw_istore_n hd hn kk
theorem sa6_2 {a0 a1 a2 a3 a4 a5 : Option Value} {v : Nat} (hd : decode M.2.1 pc = .ok (.astore_n 2, 1)) (hn : 2 < M.2.2.1) (kk : AN M d Q (pc + 1) [a0, a1, some (.ref v), a3, a4, a5] st h) : AN M d Q pc [a0, a1, a2, a3, a4, a5] (.ref v :: st) h := an_astore_r hd hn kk
theorem ic6_2 {a0 a1 a3 a4 a5 : Option Value} {v w : Int32} {z : Int} (hd : decode M.2.1 pc = .ok (.iinc 2 z, 3)) (e : v + Int32.ofInt z = w) (hn : 2 < M.2.2.1) (kk : AN M d Q (pc + 3) [a0, a1, some (.int w), a3, a4, a5] st h) : AN M d Q pc [a0, a1, some (.int v), a3, a4, a5] st h := aw_iinc hd rfl e hn kk
theorem si6_3 {a0 a1 a2 a3 a4 a5 : Option Value} {v : Int32} (hd : decode M.2.1 pc = .ok (.istore_n 3, 1)) (hn : 3 < M.2.2.1) (kk : AN M d Q (pc + 1) [a0, a1, a2, some (.int v), a4, a5] st h) : AN M d Q pc [a0, a1, a2, a3, a4, a5] (.int v :: st) h := aw_istore_n hd hn kk
theorem sa6_3 {a0 a1 a2 a3 a4 a5 : Option Value} {v : Nat} (hd : decode M.2.1 pc = .ok (.astore_n 3, 1)) (hn : 3 < M.2.2.1) (kk : AN M d Q (pc + 1) [a0, a1, a2, some (.ref v), a4, a5] st h) : AN M d Q pc [a0, a1, a2, a3, a4, a5] (.ref v :: st) h := an_astore_r hd hn kk
theorem ic6_3 {a0 a1 a2 a4 a5 : Option Value} {v w : Int32} {z : Int} (hd : decode M.2.1 pc = .ok (.iinc 3 z, 3)) (e : v + Int32.ofInt z = w) (hn : 3 < M.2.2.1) (kk : AN M d Q (pc + 3) [a0, a1, a2, some (.int w), a4, a5] st h) : AN M d Q pc [a0, a1, a2, some (.int v), a4, a5] st h := aw_iinc hd rfl e hn kk
theorem si6_4 {a0 a1 a2 a3 a4 a5 : Option Value} {v : Int32} (hd : decode M.2.1 pc = .ok (.istore 4, 2)) (hn : 4 < M.2.2.1) (kk : AN M d Q (pc + 2) [a0, a1, a2, a3, some (.int v), a5] st h) : AN M d Q pc [a0, a1, a2, a3, a4, a5] (.int v :: st) h := aw_istore hd hn kk
theorem sa6_4 {a0 a1 a2 a3 a4 a5 : Option Value} {v : Nat} (hd : decode M.2.1 pc = .ok (.astore 4, 2)) (hn : 4 < M.2.2.1) (kk : AN M d Q (pc + 2) [a0, a1, a2, a3, some (.ref v), a5] st h) : AN M d Q pc [a0, a1, a2, a3, a4, a5] (.ref v :: st) h := an_astore_m hd hn kk
theorem ic6_4 {a0 a1 a2 a3 a5 : Option Value} {v w : Int32} {z : Int} (hd : decode M.2.1 pc = .ok (.iinc 4 z, 3)) (e : v + Int32.ofInt z = w) (hn : 4 < M.2.2.1) (kk : AN M d Q (pc + 3) [a0, a1, a2, a3, some (.int w), a5] st h) : AN M d Q pc [a0, a1, a2, a3, some (.int v), a5] st h := aw_iinc hd rfl e hn kk
theorem si6_5 {a0 a1 a2 a3 a4 a5 : Option Value} {v : Int32} (hd : decode M.2.1 pc = .ok (.istore 5, 2)) (hn : 5 < M.2.2.1) (kk : AN M d Q (pc + 2) [a0, a1, a2, a3, a4, some (.int v)] st h) : AN M d Q pc [a0, a1, a2, a3, a4, a5] (.int v :: st) h := aw_istore hd hn kk
theorem sa6_5 {a0 a1 a2 a3 a4 a5 : Option Value} {v : Nat} (hd : decode M.2.1 pc = .ok (.astore 5, 2)) (hn : 5 < M.2.2.1) (kk : AN M d Q (pc + 2) [a0, a1, a2, a3, a4, some (.ref v)] st h) : AN M d Q pc [a0, a1, a2, a3, a4, a5] (.ref v :: st) h := an_astore_m hd hn kk
theorem ic6_5 {a0 a1 a2 a3 a4 : Option Value} {v w : Int32} {z : Int} (hd : decode M.2.1 pc = .ok (.iinc 5 z, 3)) (e : v + Int32.ofInt z = w) (hn : 5 < M.2.2.1) (kk : AN M d Q (pc + 3) [a0, a1, a2, a3, a4, some (.int w)] st h) : AN M d Q pc [a0, a1, a2, a3, a4, some (.int v)] st h := aw_iinc hd rfl e hn kk
theorem si7_0 {a0 a1 a2 a3 a4 a5 a6 : Option Value} {v : Int32} (hd : decode M.2.1 pc = .ok (.istore_n 0, 1)) (hn : 0 < M.2.2.1) (kk : AN M d Q (pc + 1) [some (.int v), a1, a2, a3, a4, a5, a6] st h) : AN M d Q pc [a0, a1, a2, a3, a4, a5, a6] (.int v :: st) h := aw_istore_n hd hn kk
theorem sa7_0 {a0 a1 a2 a3 a4 a5 a6 : Option Value} {v : Nat} (hd : decode M.2.1 pc = .ok (.astore_n 0, 1)) (hn : 0 < M.2.2.1) (kk : AN M d Q (pc + 1) [some (.ref v), a1, a2, a3, a4, a5, a6] st h) : AN M d Q pc [a0, a1, a2, a3, a4, a5, a6] (.ref v :: st) h := an_astore_r hd hn kk
theorem ic7_0 {a1 a2 a3 a4 a5 a6 : Option Value} {v w : Int32} {z : Int} (hd : decode M.2.1 pc = .ok (.iinc 0 z, 3)) (e : v + Int32.ofInt z = w) (hn : 0 < M.2.2.1) (kk : AN M d Q (pc + 3) [some (.int w), a1, a2, a3, a4, a5, a6] st h) : AN M d Q pc [some (.int v), a1, a2, a3, a4, a5, a6] st h := aw_iinc hd rfl e hn kk
theorem si7_1 {a0 a1 a2 a3 a4 a5 a6 : Option Value} {v : Int32} (hd : decode M.2.1 pc = .ok (.istore_n 1, 1)) (hn : 1 < M.2.2.1) (kk : AN M d Q (pc + 1) [a0, some (.int v), a2, a3, a4, a5, a6] st h) : AN M d Q pc [a0, a1, a2, a3, a4, a5, a6] (.int v :: st) h := aw_istore_n hd hn kk
theorem sa7_1 {a0 a1 a2 a3 a4 a5 a6 : Option Value} {v : Nat} (hd : decode M.2.1 pc = .ok (.astore_n 1, 1)) (hn : 1 < M.2.2.1) (kk : AN M d Q (pc + 1) [a0, some (.ref v), a2, a3, a4, a5, a6] st h) : AN M d Q pc [a0, a1, a2, a3, a4, a5, a6] (.ref v :: st) h := an_astore_r hd hn kk
theorem ic7_1 {a0 a2 a3 a4 a5 a6 : Option Value} {v w : Int32} {z : Int} (hd : decode M.2.1 pc = .ok (.iinc 1 z, 3)) (e : v + Int32.ofInt z = w) (hn : 1 < M.2.2.1) (kk : AN M d Q (pc + 3) [a0, some (.int w), a2, a3, a4, a5, a6] st h) : AN M d Q pc [a0, some (.int v), a2, a3, a4, a5, a6] st h := aw_iinc hd rfl e hn kk
theorem si7_2 {a0 a1 a2 a3 a4 a5 a6 : Option Value} {v : Int32} (hd : decode M.2.1 pc = .ok (.istore_n 2, 1)) (hn : 2 < M.2.2.1) (kk : AN M d Q (pc + 1) [a0, a1, some (.int v), a3, a4, a5, a6] st h) : AN M d Q pc [a0, a1, a2, a3, a4, a5, a6] (.int v :: st) h := aw_istore_n hd hn kk
theorem sa7_2 {a0 a1 a2 a3 a4 a5 a6 : Option Value} {v : Nat} (hd : decode M.2.1 pc = .ok (.astore_n 2, 1)) (hn : 2 < M.2.2.1) (kk : AN M d Q (pc + 1) [a0, a1, some (.ref v), a3, a4, a5, a6] st h) : AN M d Q pc [a0, a1, a2, a3, a4, a5, a6] (.ref v :: st) h := an_astore_r hd hn kk
theorem ic7_2 {a0 a1 a3 a4 a5 a6 : Option Value} {v w : Int32} {z : Int} (hd : decode M.2.1 pc = .ok (.iinc 2 z, 3)) (e : v + Int32.ofInt z = w) (hn : 2 < M.2.2.1) (kk : AN M d Q (pc + 3) [a0, a1, some (.int w), a3, a4, a5, a6] st h) : AN M d Q pc [a0, a1, some (.int v), a3, a4, a5, a6] st h := aw_iinc hd rfl e hn kk
theorem si7_3 {a0 a1 a2 a3 a4 a5 a6 : Option Value} {v : Int32} (hd : decode M.2.1 pc = .ok (.istore_n 3, 1)) (hn : 3 < M.2.2.1) (kk : AN M d Q (pc + 1) [a0, a1, a2, some (.int v), a4, a5, a6] st h) : AN M d Q pc [a0, a1, a2, a3, a4, a5, a6] (.int v :: st) h := aw_istore_n hd hn kk
theorem sa7_3 {a0 a1 a2 a3 a4 a5 a6 : Option Value} {v : Nat} (hd : decode M.2.1 pc = .ok (.astore_n 3, 1)) (hn : 3 < M.2.2.1) (kk : AN M d Q (pc + 1) [a0, a1, a2, some (.ref v), a4, a5, a6] st h) : AN M d Q pc [a0, a1, a2, a3, a4, a5, a6] (.ref v :: st) h := an_astore_r hd hn kk
theorem ic7_3 {a0 a1 a2 a4 a5 a6 : Option Value} {v w : Int32} {z : Int} (hd : decode M.2.1 pc = .ok (.iinc 3 z, 3)) (e : v + Int32.ofInt z = w) (hn : 3 < M.2.2.1) (kk : AN M d Q (pc + 3) [a0, a1, a2, some (.int w), a4, a5, a6] st h) : AN M d Q pc [a0, a1, a2, some (.int v), a4, a5, a6] st h := aw_iinc hd rfl e hn kk
theorem si7_4 {a0 a1 a2 a3 a4 a5 a6 : Option Value} {v : Int32} (hd : decode M.2.1 pc = .ok (.istore 4, 2)) (hn : 4 < M.2.2.1) (kk : AN M d Q (pc + 2) [a0, a1, a2, a3, some (.int v), a5, a6] st h) : AN M d Q pc [a0, a1, a2, a3, a4, a5, a6] (.int v :: st) h := aw_istore hd hn kk
theorem sa7_4 {a0 a1 a2 a3 a4 a5 a6 : Option Value} {v : Nat} (hd : decode M.2.1 pc = .ok (.astore 4, 2)) (hn : 4 < M.2.2.1) (kk : AN M d Q (pc + 2) [a0, a1, a2, a3, some (.ref v), a5, a6] st h) : AN M d Q pc [a0, a1, a2, a3, a4, a5, a6] (.ref v :: st) h := an_astore_m hd hn kk
theorem ic7_4 {a0 a1 a2 a3 a5 a6 : Option Value} {v w : Int32} {z : Int} (hd : decode M.2.1 pc = .ok (.iinc 4 z, 3)) (e : v + Int32.ofInt z = w) (hn : 4 < M.2.2.1) (kk : AN M d Q (pc + 3) [a0, a1, a2, a3, some (.int w), a5, a6] st h) : AN M d Q pc [a0, a1, a2, a3, some (.int v), a5, a6] st h := aw_iinc hd rfl e hn kk
theorem si7_5 {a0 a1 a2 a3 a4 a5 a6 : Option Value} {v : Int32} (hd : decode M.2.1 pc = .ok (.istore 5, 2)) (hn : 5 < M.2.2.1) (kk : AN M d Q (pc + 2) [a0, a1, a2, a3, a4, some (.int v), a6] st h) : AN M d Q pc [a0, a1, a2, a3, a4, a5, a6] (.int v :: st) h := aw_istore hd hn kk
theorem sa7_5 {a0 a1 a2 a3 a4 a5 a6 : Option Value} {v : Nat} (hd : decode M.2.1 pc = .ok (.astore 5, 2)) (hn : 5 < M.2.2.1) (kk : AN M d Q (pc + 2) [a0, a1, a2, a3, a4, some (.ref v), a6] st h) : AN M d Q pc [a0, a1, a2, a3, a4, a5, a6] (.ref v :: st) h := an_astore_m hd hn kk
theorem ic7_5 {a0 a1 a2 a3 a4 a6 : Option Value} {v w : Int32} {z : Int} (hd : decode M.2.1 pc = .ok (.iinc 5 z, 3)) (e : v + Int32.ofInt z = w) (hn : 5 < M.2.2.1) (kk : AN M d Q (pc + 3) [a0, a1, a2, a3, a4, some (.int w), a6] st h) : AN M d Q pc [a0, a1, a2, a3, a4, some (.int v), a6] st h := aw_iinc hd rfl e hn kk
theorem si7_6 {a0 a1 a2 a3 a4 a5 a6 : Option Value} {v : Int32} (hd : decode M.2.1 pc = .ok (.istore 6, 2)) (hn : 6 < M.2.2.1) (kk : AN M d Q (pc + 2) [a0, a1, a2, a3, a4, a5, some (.int v)] st h) : AN M d Q pc [a0, a1, a2, a3, a4, a5, a6] (.int v :: st) h := aw_istore hd hn kk
theorem sa7_6 {a0 a1 a2 a3 a4 a5 a6 : Option Value} {v : Nat} (hd : decode M.2.1 pc = .ok (.astore 6, 2)) (hn : 6 < M.2.2.1) (kk : AN M d Q (pc + 2) [a0, a1, a2, a3, a4, a5, some (.ref v)] st h) : AN M d Q pc [a0, a1, a2, a3, a4, a5, a6] (.ref v :: st) h := an_astore_m hd hn kk
theorem ic7_6 {a0 a1 a2 a3 a4 a5 : Option Value} {v w : Int32} {z : Int} (hd : decode M.2.1 pc = .ok (.iinc 6 z, 3)) (e : v + Int32.ofInt z = w) (hn : 6 < M.2.2.1) (kk : AN M d Q (pc + 3) [a0, a1, a2, a3, a4, a5, some (.int w)] st h) : AN M d Q pc [a0, a1, a2, a3, a4, a5, some (.int v)] st h := aw_iinc hd rfl e hn kk
theorem si8_0 {a0 a1 a2 a3 a4 a5 a6 a7 : Option Value} {v : Int32} (hd : decode M.2.1 pc = .ok (.istore_n 0, 1)) (hn : 0 < M.2.2.1) (kk : AN M d Q (pc + 1) [some (.int v), a1, a2, a3, a4, a5, a6, a7] st h) : AN M d Q pc [a0, a1, a2, a3, a4, a5, a6, a7] (.int v :: st) h := aw_istore_n hd hn kk
theorem sa8_0 {a0 a1 a2 a3 a4 a5 a6 a7 : Option Value} {v : Nat} (hd : decode M.2.1 pc = .ok (.astore_n 0, 1)) (hn : 0 < M.2.2.1) (kk : AN M d Q (pc + 1) [some (.ref v), a1, a2, a3, a4, a5, a6, a7] st h) : AN M d Q pc [a0, a1, a2, a3, a4, a5, a6, a7] (.ref v :: st) h := an_astore_r hd hn kk
theorem ic8_0 {a1 a2 a3 a4 a5 a6 a7 : Option Value} {v w : Int32} {z : Int} (hd : decode M.2.1 pc = .ok (.iinc 0 z, 3)) (e : v + Int32.ofInt z = w) (hn : 0 < M.2.2.1) (kk : AN M d Q (pc + 3) [some (.int w), a1, a2, a3, a4, a5, a6, a7] st h) : AN M d Q pc [some (.int v), a1, a2, a3, a4, a5, a6, a7] st h := aw_iinc hd rfl e hn kk
theorem si8_1 {a0 a1 a2 a3 a4 a5 a6 a7 : Option Value} {v : Int32} (hd : decode M.2.1 pc = .ok (.istore_n 1, 1)) (hn : 1 < M.2.2.1) (kk : AN M d Q (pc + 1) [a0, some (.int v), a2, a3, a4, a5, a6, a7] st h) : AN M d Q pc [a0, a1, a2, a3, a4, a5, a6, a7] (.int v :: st) h := aw_istore_n hd hn kk
theorem sa8_1 {a0 a1 a2 a3 a4 a5 a6 a7 : Option Value} {v : Nat} (hd : decode M.2.1 pc = .ok (.astore_n 1, 1)) (hn : 1 < M.2.2.1) (kk : AN M d Q (pc + 1) [a0, some (.ref v), a2, a3, a4, a5, a6, a7] st h) : AN M d Q pc [a0, a1, a2, a3, a4, a5, a6, a7] (.ref v :: st) h := an_astore_r hd hn kk
theorem ic8_1 {a0 a2 a3 a4 a5 a6 a7 : Option Value} {v w : Int32} {z : Int} (hd : decode M.2.1 pc = .ok (.iinc 1 z, 3)) (e : v + Int32.ofInt z = w) (hn : 1 < M.2.2.1) (kk : AN M d Q (pc + 3) [a0, some (.int w), a2, a3, a4, a5, a6, a7] st h) : AN M d Q pc [a0, some (.int v), a2, a3, a4, a5, a6, a7] st h := aw_iinc hd rfl e hn kk
theorem si8_2 {a0 a1 a2 a3 a4 a5 a6 a7 : Option Value} {v : Int32} (hd : decode M.2.1 pc = .ok (.istore_n 2, 1)) (hn : 2 < M.2.2.1) (kk : AN M d Q (pc + 1) [a0, a1, some (.int v), a3, a4, a5, a6, a7] st h) : AN M d Q pc [a0, a1, a2, a3, a4, a5, a6, a7] (.int v :: st) h := aw_istore_n hd hn kk
theorem sa8_2 {a0 a1 a2 a3 a4 a5 a6 a7 : Option Value} {v : Nat} (hd : decode M.2.1 pc = .ok (.astore_n 2, 1)) (hn : 2 < M.2.2.1) (kk : AN M d Q (pc + 1) [a0, a1, some (.ref v), a3, a4, a5, a6, a7] st h) : AN M d Q pc [a0, a1, a2, a3, a4, a5, a6, a7] (.ref v :: st) h := an_astore_r hd hn kk
theorem ic8_2 {a0 a1 a3 a4 a5 a6 a7 : Option Value} {v w : Int32} {z : Int} (hd : decode M.2.1 pc = .ok (.iinc 2 z, 3)) (e : v + Int32.ofInt z = w) (hn : 2 < M.2.2.1) (kk : AN M d Q (pc + 3) [a0, a1, some (.int w), a3, a4, a5, a6, a7] st h) : AN M d Q pc [a0, a1, some (.int v), a3, a4, a5, a6, a7] st h := aw_iinc hd rfl e hn kk
theorem si8_3 {a0 a1 a2 a3 a4 a5 a6 a7 : Option Value} {v : Int32} (hd : decode M.2.1 pc = .ok (.istore_n 3, 1)) (hn : 3 < M.2.2.1) (kk : AN M d Q (pc + 1) [a0, a1, a2, some (.int v), a4, a5, a6, a7] st h) : AN M d Q pc [a0, a1, a2, a3, a4, a5, a6, a7] (.int v :: st) h := aw_istore_n hd hn kk
theorem sa8_3 {a0 a1 a2 a3 a4 a5 a6 a7 : Option Value} {v : Nat} (hd : decode M.2.1 pc = .ok (.astore_n 3, 1)) (hn : 3 < M.2.2.1) (kk : AN M d Q (pc + 1) [a0, a1, a2, some (.ref v), a4, a5, a6, a7] st h) : AN M d Q pc [a0, a1, a2, a3, a4, a5, a6, a7] (.ref v :: st) h := an_astore_r hd hn kk
theorem ic8_3 {a0 a1 a2 a4 a5 a6 a7 : Option Value} {v w : Int32} {z : Int} (hd : decode M.2.1 pc = .ok (.iinc 3 z, 3)) (e : v + Int32.ofInt z = w) (hn : 3 < M.2.2.1) (kk : AN M d Q (pc + 3) [a0, a1, a2, some (.int w), a4, a5, a6, a7] st h) : AN M d Q pc [a0, a1, a2, some (.int v), a4, a5, a6, a7] st h := aw_iinc hd rfl e hn kk
theorem si8_4 {a0 a1 a2 a3 a4 a5 a6 a7 : Option Value} {v : Int32} (hd : decode M.2.1 pc = .ok (.istore 4, 2)) (hn : 4 < M.2.2.1) (kk : AN M d Q (pc + 2) [a0, a1, a2, a3, some (.int v), a5, a6, a7] st h) : AN M d Q pc [a0, a1, a2, a3, a4, a5, a6, a7] (.int v :: st) h := aw_istore hd hn kk
theorem sa8_4 {a0 a1 a2 a3 a4 a5 a6 a7 : Option Value} {v : Nat} (hd : decode M.2.1 pc = .ok (.astore 4, 2)) (hn : 4 < M.2.2.1) (kk : AN M d Q (pc + 2) [a0, a1, a2, a3, some (.ref v), a5, a6, a7] st h) : AN M d Q pc [a0, a1, a2, a3, a4, a5, a6, a7] (.ref v :: st) h := an_astore_m hd hn kk
theorem ic8_4 {a0 a1 a2 a3 a5 a6 a7 : Option Value} {v w : Int32} {z : Int} (hd : decode M.2.1 pc = .ok (.iinc 4 z, 3)) (e : v + Int32.ofInt z = w) (hn : 4 < M.2.2.1) (kk : AN M d Q (pc + 3) [a0, a1, a2, a3, some (.int w), a5, a6, a7] st h) : AN M d Q pc [a0, a1, a2, a3, some (.int v), a5, a6, a7] st h := aw_iinc hd rfl e hn kk
theorem si8_5 {a0 a1 a2 a3 a4 a5 a6 a7 : Option Value} {v : Int32} (hd : decode M.2.1 pc = .ok (.istore 5, 2)) (hn : 5 < M.2.2.1) (kk : AN M d Q (pc + 2) [a0, a1, a2, a3, a4, some (.int v), a6, a7] st h) : AN M d Q pc [a0, a1, a2, a3, a4, a5, a6, a7] (.int v :: st) h := aw_istore hd hn kk
theorem sa8_5 {a0 a1 a2 a3 a4 a5 a6 a7 : Option Value} {v : Nat} (hd : decode M.2.1 pc = .ok (.astore 5, 2)) (hn : 5 < M.2.2.1) (kk : AN M d Q (pc + 2) [a0, a1, a2, a3, a4, some (.ref v), a6, a7] st h) : AN M d Q pc [a0, a1, a2, a3, a4, a5, a6, a7] (.ref v :: st) h := an_astore_m hd hn kk
theorem ic8_5 {a0 a1 a2 a3 a4 a6 a7 : Option Value} {v w : Int32} {z : Int} (hd : decode M.2.1 pc = .ok (.iinc 5 z, 3)) (e : v + Int32.ofInt z = w) (hn : 5 < M.2.2.1) (kk : AN M d Q (pc + 3) [a0, a1, a2, a3, a4, some (.int w), a6, a7] st h) : AN M d Q pc [a0, a1, a2, a3, a4, some (.int v), a6, a7] st h := aw_iinc hd rfl e hn kk
theorem si8_6 {a0 a1 a2 a3 a4 a5 a6 a7 : Option Value} {v : Int32} (hd : decode M.2.1 pc = .ok (.istore 6, 2)) (hn : 6 < M.2.2.1) (kk : AN M d Q (pc + 2) [a0, a1, a2, a3, a4, a5, some (.int v), a7] st h) : AN M d Q pc [a0, a1, a2, a3, a4, a5, a6, a7] (.int v :: st) h := aw_istore hd hn kk
theorem sa8_6 {a0 a1 a2 a3 a4 a5 a6 a7 : Option Value} {v : Nat} (hd : decode M.2.1 pc = .ok (.astore 6, 2)) (hn : 6 < M.2.2.1) (kk : AN M d Q (pc + 2) [a0, a1, a2, a3, a4, a5, some (.ref v), a7] st h) : AN M d Q pc [a0, a1, a2, a3, a4, a5, a6, a7] (.ref v :: st) h := an_astore_m hd hn kk
theorem ic8_6 {a0 a1 a2 a3 a4 a5 a7 : Option Value} {v w : Int32} {z : Int} (hd : decode M.2.1 pc = .ok (.iinc 6 z, 3)) (e : v + Int32.ofInt z = w) (hn : 6 < M.2.2.1) (kk : AN M d Q (pc + 3) [a0, a1, a2, a3, a4, a5, some (.int w), a7] st h) : AN M d Q pc [a0, a1, a2, a3, a4, a5, some (.int v), a7] st h := aw_iinc hd rfl e hn kk
theorem si8_7 {a0 a1 a2 a3 a4 a5 a6 a7 : Option Value} {v : Int32} (hd : decode M.2.1 pc = .ok (.istore 7, 2)) (hn : 7 < M.2.2.1) (kk : AN M d Q (pc + 2) [a0, a1, a2, a3, a4, a5, a6, some (.int v)] st h) : AN M d Q pc [a0, a1, a2, a3, a4, a5, a6, a7] (.int v :: st) h := aw_istore hd hn kk
theorem sa8_7 {a0 a1 a2 a3 a4 a5 a6 a7 : Option Value} {v : Nat} (hd : decode M.2.1 pc = .ok (.astore 7, 2)) (hn : 7 < M.2.2.1) (kk : AN M d Q (pc + 2) [a0, a1, a2, a3, a4, a5, a6, some (.ref v)] st h) : AN M d Q pc [a0, a1, a2, a3, a4, a5, a6, a7] (.ref v :: st) h := an_astore_m hd hn kk
theorem ic8_7 {a0 a1 a2 a3 a4 a5 a6 : Option Value} {v w : Int32} {z : Int} (hd : decode M.2.1 pc = .ok (.iinc 7 z, 3)) (e : v + Int32.ofInt z = w) (hn : 7 < M.2.2.1) (kk : AN M d Q (pc + 3) [a0, a1, a2, a3, a4, a5, a6, some (.int w)] st h) : AN M d Q pc [a0, a1, a2, a3, a4, a5, a6, some (.int v)] st h := aw_iinc hd rfl e hn kk
theorem si9_0 {a0 a1 a2 a3 a4 a5 a6 a7 a8 : Option Value} {v : Int32} (hd : decode M.2.1 pc = .ok (.istore_n 0, 1)) (hn : 0 < M.2.2.1) (kk : AN M d Q (pc + 1) [some (.int v), a1, a2, a3, a4, a5, a6, a7, a8] st h) : AN M d Q pc [a0, a1, a2, a3, a4, a5, a6, a7, a8] (.int v :: st) h := aw_istore_n hd hn kk
theorem sa9_0 {a0 a1 a2 a3 a4 a5 a6 a7 a8 : Option Value} {v : Nat} (hd : decode M.2.1 pc = .ok (.astore_n 0, 1)) (hn : 0 < M.2.2.1) (kk : AN M d Q (pc + 1) [some (.ref v), a1, a2, a3, a4, a5, a6, a7, a8] st h) : AN M d Q pc [a0, a1, a2, a3, a4, a5, a6, a7, a8] (.ref v :: st) h := an_astore_r hd hn kk
theorem ic9_0 {a1 a2 a3 a4 a5 a6 a7 a8 : Option Value} {v w : Int32} {z : Int} (hd : decode M.2.1 pc = .ok (.iinc 0 z, 3)) (e : v + Int32.ofInt z = w) (hn : 0 < M.2.2.1) (kk : AN M d Q (pc + 3) [some (.int w), a1, a2, a3, a4, a5, a6, a7, a8] st h) : AN M d Q pc [some (.int v), a1, a2, a3, a4, a5, a6, a7, a8] st h := aw_iinc hd rfl e hn kk
theorem si9_1 {a0 a1 a2 a3 a4 a5 a6 a7 a8 : Option Value} {v : Int32} (hd : decode M.2.1 pc = .ok (.istore_n 1, 1)) (hn : 1 < M.2.2.1) (kk : AN M d Q (pc + 1) [a0, some (.int v), a2, a3, a4, a5, a6, a7, a8] st h) : AN M d Q pc [a0, a1, a2, a3, a4, a5, a6, a7, a8] (.int v :: st) h := aw_istore_n hd hn kk
theorem sa9_1 {a0 a1 a2 a3 a4 a5 a6 a7 a8 : Option Value} {v : Nat} (hd : decode M.2.1 pc = .ok (.astore_n 1, 1)) (hn : 1 < M.2.2.1) (kk : AN M d Q (pc + 1) [a0, some (.ref v), a2, a3, a4, a5, a6, a7, a8] st h) : AN M d Q pc [a0, a1, a2, a3, a4, a5, a6, a7, a8] (.ref v :: st) h := an_astore_r hd hn kk
theorem ic9_1 {a0 a2 a3 a4 a5 a6 a7 a8 : Option Value} {v w : Int32} {z : Int} (hd : decode M.2.1 pc = .ok (.iinc 1 z, 3)) (e : v + Int32.ofInt z = w) (hn : 1 < M.2.2.1) (kk : AN M d Q (pc + 3) [a0, some (.int w), a2, a3, a4, a5, a6, a7, a8] st h) : AN M d Q pc [a0, some (.int v), a2, a3, a4, a5, a6, a7, a8] st h := aw_iinc hd rfl e hn kk
theorem si9_2 {a0 a1 a2 a3 a4 a5 a6 a7 a8 : Option Value} {v : Int32} (hd : decode M.2.1 pc = .ok (.istore_n 2, 1)) (hn : 2 < M.2.2.1) (kk : AN M d Q (pc + 1) [a0, a1, some (.int v), a3, a4, a5, a6, a7, a8] st h) : AN M d Q pc [a0, a1, a2, a3, a4, a5, a6, a7, a8] (.int v :: st) h := aw_istore_n hd hn kk
theorem sa9_2 {a0 a1 a2 a3 a4 a5 a6 a7 a8 : Option Value} {v : Nat} (hd : decode M.2.1 pc = .ok (.astore_n 2, 1)) (hn : 2 < M.2.2.1) (kk : AN M d Q (pc + 1) [a0, a1, some (.ref v), a3, a4, a5, a6, a7, a8] st h) : AN M d Q pc [a0, a1, a2, a3, a4, a5, a6, a7, a8] (.ref v :: st) h := an_astore_r hd hn kk
theorem ic9_2 {a0 a1 a3 a4 a5 a6 a7 a8 : Option Value} {v w : Int32} {z : Int} (hd : decode M.2.1 pc = .ok (.iinc 2 z, 3)) (e : v + Int32.ofInt z = w) (hn : 2 < M.2.2.1) (kk : AN M d Q (pc + 3) [a0, a1, some (.int w), a3, a4, a5, a6, a7, a8] st h) : AN M d Q pc [a0, a1, some (.int v), a3, a4, a5, a6, a7, a8] st h := aw_iinc hd rfl e hn kk
theorem si9_3 {a0 a1 a2 a3 a4 a5 a6 a7 a8 : Option Value} {v : Int32} (hd : decode M.2.1 pc = .ok (.istore_n 3, 1)) (hn : 3 < M.2.2.1) (kk : AN M d Q (pc + 1) [a0, a1, a2, some (.int v), a4, a5, a6, a7, a8] st h) : AN M d Q pc [a0, a1, a2, a3, a4, a5, a6, a7, a8] (.int v :: st) h := aw_istore_n hd hn kk
theorem sa9_3 {a0 a1 a2 a3 a4 a5 a6 a7 a8 : Option Value} {v : Nat} (hd : decode M.2.1 pc = .ok (.astore_n 3, 1)) (hn : 3 < M.2.2.1) (kk : AN M d Q (pc + 1) [a0, a1, a2, some (.ref v), a4, a5, a6, a7, a8] st h) : AN M d Q pc [a0, a1, a2, a3, a4, a5, a6, a7, a8] (.ref v :: st) h := an_astore_r hd hn kk
theorem ic9_3 {a0 a1 a2 a4 a5 a6 a7 a8 : Option Value} {v w : Int32} {z : Int} (hd : decode M.2.1 pc = .ok (.iinc 3 z, 3)) (e : v + Int32.ofInt z = w) (hn : 3 < M.2.2.1) (kk : AN M d Q (pc + 3) [a0, a1, a2, some (.int w), a4, a5, a6, a7, a8] st h) : AN M d Q pc [a0, a1, a2, some (.int v), a4, a5, a6, a7, a8] st h := aw_iinc hd rfl e hn kk
theorem si9_4 {a0 a1 a2 a3 a4 a5 a6 a7 a8 : Option Value} {v : Int32} (hd : decode M.2.1 pc = .ok (.istore 4, 2)) (hn : 4 < M.2.2.1) (kk : AN M d Q (pc + 2) [a0, a1, a2, a3, some (.int v), a5, a6, a7, a8] st h) : AN M d Q pc [a0, a1, a2, a3, a4, a5, a6, a7, a8] (.int v :: st) h := aw_istore hd hn kk
theorem sa9_4 {a0 a1 a2 a3 a4 a5 a6 a7 a8 : Option Value} {v : Nat} (hd : decode M.2.1 pc = .ok (.astore 4, 2)) (hn : 4 < M.2.2.1) (kk : AN M d Q (pc + 2) [a0, a1, a2, a3, some (.ref v), a5, a6, a7, a8] st h) : AN M d Q pc [a0, a1, a2, a3, a4, a5, a6, a7, a8] (.ref v :: st) h := an_astore_m hd hn kk
theorem ic9_4 {a0 a1 a2 a3 a5 a6 a7 a8 : Option Value} {v w : Int32} {z : Int} (hd : decode M.2.1 pc = .ok (.iinc 4 z, 3)) (e : v + Int32.ofInt z = w) (hn : 4 < M.2.2.1) (kk : AN M d Q (pc + 3) [a0, a1, a2, a3, some (.int w), a5, a6, a7, a8] st h) : AN M d Q pc [a0, a1, a2, a3, some (.int v), a5, a6, a7, a8] st h := aw_iinc hd rfl e hn kk
theorem si9_5 {a0 a1 a2 a3 a4 a5 a6 a7 a8 : Option Value} {v : Int32} (hd : decode M.2.1 pc = .ok (.istore 5, 2)) (hn : 5 < M.2.2.1) (kk : AN M d Q (pc + 2) [a0, a1, a2, a3, a4, some (.int v), a6, a7, a8] st h) : AN M d Q pc [a0, a1, a2, a3, a4, a5, a6, a7, a8] (.int v :: st) h := aw_istore hd hn kk
theorem sa9_5 {a0 a1 a2 a3 a4 a5 a6 a7 a8 : Option Value} {v : Nat} (hd : decode M.2.1 pc = .ok (.astore 5, 2)) (hn : 5 < M.2.2.1) (kk : AN M d Q (pc + 2) [a0, a1, a2, a3, a4, some (.ref v), a6, a7, a8] st h) : AN M d Q pc [a0, a1, a2, a3, a4, a5, a6, a7, a8] (.ref v :: st) h := an_astore_m hd hn kk
theorem ic9_5 {a0 a1 a2 a3 a4 a6 a7 a8 : Option Value} {v w : Int32} {z : Int} (hd : decode M.2.1 pc = .ok (.iinc 5 z, 3)) (e : v + Int32.ofInt z = w) (hn : 5 < M.2.2.1) (kk : AN M d Q (pc + 3) [a0, a1, a2, a3, a4, some (.int w), a6, a7, a8] st h) : AN M d Q pc [a0, a1, a2, a3, a4, some (.int v), a6, a7, a8] st h := aw_iinc hd rfl e hn kk
theorem si9_6 {a0 a1 a2 a3 a4 a5 a6 a7 a8 : Option Value} {v : Int32} (hd : decode M.2.1 pc = .ok (.istore 6, 2)) (hn : 6 < M.2.2.1) (kk : AN M d Q (pc + 2) [a0, a1, a2, a3, a4, a5, some (.int v), a7, a8] st h) : AN M d Q pc [a0, a1, a2, a3, a4, a5, a6, a7, a8] (.int v :: st) h := aw_istore hd hn kk
theorem sa9_6 {a0 a1 a2 a3 a4 a5 a6 a7 a8 : Option Value} {v : Nat} (hd : decode M.2.1 pc = .ok (.astore 6, 2)) (hn : 6 < M.2.2.1) (kk : AN M d Q (pc + 2) [a0, a1, a2, a3, a4, a5, some (.ref v), a7, a8] st h) : AN M d Q pc [a0, a1, a2, a3, a4, a5, a6, a7, a8] (.ref v :: st) h := an_astore_m hd hn kk
theorem ic9_6 {a0 a1 a2 a3 a4 a5 a7 a8 : Option Value} {v w : Int32} {z : Int} (hd : decode M.2.1 pc = .ok (.iinc 6 z, 3)) (e : v + Int32.ofInt z = w) (hn : 6 < M.2.2.1) (kk : AN M d Q (pc + 3) [a0, a1, a2, a3, a4, a5, some (.int w), a7, a8] st h) : AN M d Q pc [a0, a1, a2, a3, a4, a5, some (.int v), a7, a8] st h := aw_iinc hd rfl e hn kk
theorem si9_7 {a0 a1 a2 a3 a4 a5 a6 a7 a8 : Option Value} {v : Int32} (hd : decode M.2.1 pc = .ok (.istore 7, 2)) (hn : 7 < M.2.2.1) (kk : AN M d Q (pc + 2) [a0, a1, a2, a3, a4, a5, a6, some (.int v), a8] st h) : AN M d Q pc [a0, a1, a2, a3, a4, a5, a6, a7, a8] (.int v :: st) h := aw_istore hd hn kk
theorem sa9_7 {a0 a1 a2 a3 a4 a5 a6 a7 a8 : Option Value} {v : Nat} (hd : decode M.2.1 pc = .ok (.astore 7, 2)) (hn : 7 < M.2.2.1) (kk : AN M d Q (pc + 2) [a0, a1, a2, a3, a4, a5, a6, some (.ref v), a8] st h) : AN M d Q pc [a0, a1, a2, a3, a4, a5, a6, a7, a8] (.ref v :: st) h := an_astore_m hd hn kk
theorem ic9_7 {a0 a1 a2 a3 a4 a5 a6 a8 : Option Value} {v w : Int32} {z : Int} (hd : decode M.2.1 pc = .ok (.iinc 7 z, 3)) (e : v + Int32.ofInt z = w) (hn : 7 < M.2.2.1) (kk : AN M d Q (pc + 3) [a0, a1, a2, a3, a4, a5, a6, some (.int w), a8] st h) : AN M d Q pc [a0, a1, a2, a3, a4, a5, a6, some (.int v), a8] st h := aw_iinc hd rfl e hn kk
theorem si9_8 {a0 a1 a2 a3 a4 a5 a6 a7 a8 : Option Value} {v : Int32} (hd : decode M.2.1 pc = .ok (.istore 8, 2)) (hn : 8 < M.2.2.1) (kk : AN M d Q (pc + 2) [a0, a1, a2, a3, a4, a5, a6, a7, some (.int v)] st h) : AN M d Q pc [a0, a1, a2, a3, a4, a5, a6, a7, a8] (.int v :: st) h := aw_istore hd hn kk
theorem sa9_8 {a0 a1 a2 a3 a4 a5 a6 a7 a8 : Option Value} {v : Nat} (hd : decode M.2.1 pc = .ok (.astore 8, 2)) (hn : 8 < M.2.2.1) (kk : AN M d Q (pc + 2) [a0, a1, a2, a3, a4, a5, a6, a7, some (.ref v)] st h) : AN M d Q pc [a0, a1, a2, a3, a4, a5, a6, a7, a8] (.ref v :: st) h := an_astore_m hd hn kk
theorem ic9_8 {a0 a1 a2 a3 a4 a5 a6 a7 : Option Value} {v w : Int32} {z : Int} (hd : decode M.2.1 pc = .ok (.iinc 8 z, 3)) (e : v + Int32.ofInt z = w) (hn : 8 < M.2.2.1) (kk : AN M d Q (pc + 3) [a0, a1, a2, a3, a4, a5, a6, a7, some (.int w)] st h) : AN M d Q pc [a0, a1, a2, a3, a4, a5, a6, a7, some (.int v)] st h := aw_iinc hd rfl e hn kk
theorem si10_0 {a0 a1 a2 a3 a4 a5 a6 a7 a8 a9 : Option Value} {v : Int32} (hd : decode M.2.1 pc = .ok (.istore_n 0, 1)) (hn : 0 < M.2.2.1) (kk : AN M d Q (pc + 1) [some (.int v), a1, a2, a3, a4, a5, a6, a7, a8, a9] st h) : AN M d Q pc [a0, a1, a2, a3, a4, a5, a6, a7, a8, a9] (.int v :: st) h := aw_istore_n hd hn kk
theorem sa10_0 {a0 a1 a2 a3 a4 a5 a6 a7 a8 a9 : Option Value} {v : Nat} (hd : decode M.2.1 pc = .ok (.astore_n 0, 1)) (hn : 0 < M.2.2.1) (kk : AN M d Q (pc + 1) [some (.ref v), a1, a2, a3, a4, a5, a6, a7, a8, a9] st h) : AN M d Q pc [a0, a1, a2, a3, a4, a5, a6, a7, a8, a9] (.ref v :: st) h := an_astore_r hd hn kk
theorem ic10_0 {a1 a2 a3 a4 a5 a6 a7 a8 a9 : Option Value} {v w : Int32} {z : Int} (hd : decode M.2.1 pc = .ok (.iinc 0 z, 3)) (e : v + Int32.ofInt z = w) (hn : 0 < M.2.2.1) (kk : AN M d Q (pc + 3) [some (.int w), a1, a2, a3, a4, a5, a6, a7, a8, a9] st h) : AN M d Q pc [some (.int v), a1, a2, a3, a4, a5, a6, a7, a8, a9] st h := aw_iinc hd rfl e hn kk
theorem si10_1 {a0 a1 a2 a3 a4 a5 a6 a7 a8 a9 : Option Value} {v : Int32} (hd : decode M.2.1 pc = .ok (.istore_n 1, 1)) (hn : 1 < M.2.2.1) (kk : AN M d Q (pc + 1) [a0, some (.int v), a2, a3, a4, a5, a6, a7, a8, a9] st h) : AN M d Q pc [a0, a1, a2, a3, a4, a5, a6, a7, a8, a9] (.int v :: st) h := aw_istore_n hd hn kk
theorem sa10_1 {a0 a1 a2 a3 a4 a5 a6 a7 a8 a9 : Option Value} {v : Nat} (hd : decode M.2.1 pc = .ok (.astore_n 1, 1)) (hn : 1 < M.2.2.1) (kk : AN M d Q (pc + 1) [a0, some (.ref v), a2, a3, a4, a5, a6, a7, a8, a9] st h) : AN M d Q pc [a0, a1, a2, a3, a4, a5, a6, a7, a8, a9] (.ref v :: st) h := an_astore_r hd hn kk
theorem ic10_1 {a0 a2 a3 a4 a5 a6 a7 a8 a9 : Option Value} {v w : Int32} {z : Int} (hd : decode M.2.1 pc = .ok (.iinc 1 z, 3)) (e : v + Int32.ofInt z = w) (hn : 1 < M.2.2.1) (kk : AN M d Q (pc + 3) [a0, some (.int w), a2, a3, a4, a5, a6, a7, a8, a9] st h) : AN M d Q pc [a0, some (.int v), a2, a3, a4, a5, a6, a7, a8, a9] st h := aw_iinc hd rfl e hn kk
theorem si10_2 {a0 a1 a2 a3 a4 a5 a6 a7 a8 a9 : Option Value} {v : Int32} (hd : decode M.2.1 pc = .ok (.istore_n 2, 1)) (hn : 2 < M.2.2.1) (kk : AN M d Q (pc + 1) [a0, a1, some (.int v), a3, a4, a5, a6, a7, a8, a9] st h) : AN M d Q pc [a0, a1, a2, a3, a4, a5, a6, a7, a8, a9] (.int v :: st) h := aw_istore_n hd hn kk
theorem sa10_2 {a0 a1 a2 a3 a4 a5 a6 a7 a8 a9 : Option Value} {v : Nat} (hd : decode M.2.1 pc = .ok (.astore_n 2, 1)) (hn : 2 < M.2.2.1) (kk : AN M d Q (pc + 1) [a0, a1, some (.ref v), a3, a4, a5, a6, a7, a8, a9] st h) : AN M d Q pc [a0, a1, a2, a3, a4, a5, a6, a7, a8, a9] (.ref v :: st) h := an_astore_r hd hn kk
theorem ic10_2 {a0 a1 a3 a4 a5 a6 a7 a8 a9 : Option Value} {v w : Int32} {z : Int} (hd : decode M.2.1 pc = .ok (.iinc 2 z, 3)) (e : v + Int32.ofInt z = w) (hn : 2 < M.2.2.1) (kk : AN M d Q (pc + 3) [a0, a1, some (.int w), a3, a4, a5, a6, a7, a8, a9] st h) : AN M d Q pc [a0, a1, some (.int v), a3, a4, a5, a6, a7, a8, a9] st h := aw_iinc hd rfl e hn kk
theorem si10_3 {a0 a1 a2 a3 a4 a5 a6 a7 a8 a9 : Option Value} {v : Int32} (hd : decode M.2.1 pc = .ok (.istore_n 3, 1)) (hn : 3 < M.2.2.1) (kk : AN M d Q (pc + 1) [a0, a1, a2, some (.int v), a4, a5, a6, a7, a8, a9] st h) : AN M d Q pc [a0, a1, a2, a3, a4, a5, a6, a7, a8, a9] (.int v :: st) h := aw_istore_n hd hn kk
theorem sa10_3 {a0 a1 a2 a3 a4 a5 a6 a7 a8 a9 : Option Value} {v : Nat} (hd : decode M.2.1 pc = .ok (.astore_n 3, 1)) (hn : 3 < M.2.2.1) (kk : AN M d Q (pc + 1) [a0, a1, a2, some (.ref v), a4, a5, a6, a7, a8, a9] st h) : AN M d Q pc [a0, a1, a2, a3, a4, a5, a6, a7, a8, a9] (.ref v :: st) h := an_astore_r hd hn kk
theorem ic10_3 {a0 a1 a2 a4 a5 a6 a7 a8 a9 : Option Value} {v w : Int32} {z : Int} (hd : decode M.2.1 pc = .ok (.iinc 3 z, 3)) (e : v + Int32.ofInt z = w) (hn : 3 < M.2.2.1) (kk : AN M d Q (pc + 3) [a0, a1, a2, some (.int w), a4, a5, a6, a7, a8, a9] st h) : AN M d Q pc [a0, a1, a2, some (.int v), a4, a5, a6, a7, a8, a9] st h := aw_iinc hd rfl e hn kk
theorem si10_4 {a0 a1 a2 a3 a4 a5 a6 a7 a8 a9 : Option Value} {v : Int32} (hd : decode M.2.1 pc = .ok (.istore 4, 2)) (hn : 4 < M.2.2.1) (kk : AN M d Q (pc + 2) [a0, a1, a2, a3, some (.int v), a5, a6, a7, a8, a9] st h) : AN M d Q pc [a0, a1, a2, a3, a4, a5, a6, a7, a8, a9] (.int v :: st) h := aw_istore hd hn kk
theorem sa10_4 {a0 a1 a2 a3 a4 a5 a6 a7 a8 a9 : Option Value} {v : Nat} (hd : decode M.2.1 pc = .ok (.astore 4, 2)) (hn : 4 < M.2.2.1) (kk : AN M d Q (pc + 2) [a0, a1, a2, a3, some (.ref v), a5, a6, a7, a8, a9] st h) : AN M d Q pc [a0, a1, a2, a3, a4, a5, a6, a7, a8, a9] (.ref v :: st) h := an_astore_m hd hn kk
theorem ic10_4 {a0 a1 a2 a3 a5 a6 a7 a8 a9 : Option Value} {v w : Int32} {z : Int} (hd : decode M.2.1 pc = .ok (.iinc 4 z, 3)) (e : v + Int32.ofInt z = w) (hn : 4 < M.2.2.1) (kk : AN M d Q (pc + 3) [a0, a1, a2, a3, some (.int w), a5, a6, a7, a8, a9] st h) : AN M d Q pc [a0, a1, a2, a3, some (.int v), a5, a6, a7, a8, a9] st h := aw_iinc hd rfl e hn kk
theorem si10_5 {a0 a1 a2 a3 a4 a5 a6 a7 a8 a9 : Option Value} {v : Int32} (hd : decode M.2.1 pc = .ok (.istore 5, 2)) (hn : 5 < M.2.2.1) (kk : AN M d Q (pc + 2) [a0, a1, a2, a3, a4, some (.int v), a6, a7, a8, a9] st h) : AN M d Q pc [a0, a1, a2, a3, a4, a5, a6, a7, a8, a9] (.int v :: st) h := aw_istore hd hn kk
theorem sa10_5 {a0 a1 a2 a3 a4 a5 a6 a7 a8 a9 : Option Value} {v : Nat} (hd : decode M.2.1 pc = .ok (.astore 5, 2)) (hn : 5 < M.2.2.1) (kk : AN M d Q (pc + 2) [a0, a1, a2, a3, a4, some (.ref v), a6, a7, a8, a9] st h) : AN M d Q pc [a0, a1, a2, a3, a4, a5, a6, a7, a8, a9] (.ref v :: st) h := an_astore_m hd hn kk
theorem ic10_5 {a0 a1 a2 a3 a4 a6 a7 a8 a9 : Option Value} {v w : Int32} {z : Int} (hd : decode M.2.1 pc = .ok (.iinc 5 z, 3)) (e : v + Int32.ofInt z = w) (hn : 5 < M.2.2.1) (kk : AN M d Q (pc + 3) [a0, a1, a2, a3, a4, some (.int w), a6, a7, a8, a9] st h) : AN M d Q pc [a0, a1, a2, a3, a4, some (.int v), a6, a7, a8, a9] st h := aw_iinc hd rfl e hn kk
theorem si10_6 {a0 a1 a2 a3 a4 a5 a6 a7 a8 a9 : Option Value} {v : Int32} (hd : decode M.2.1 pc = .ok (.istore 6, 2)) (hn : 6 < M.2.2.1) (kk : AN M d Q (pc + 2) [a0, a1, a2, a3, a4, a5, some (.int v), a7, a8, a9] st h) : AN M d Q pc [a0, a1, a2, a3, a4, a5, a6, a7, a8, a9] (.int v :: st) h := aw_istore hd hn kk
theorem sa10_6 {a0 a1 a2 a3 a4 a5 a6 a7 a8 a9 : Option Value} {v : Nat} (hd : decode M.2.1 pc = .ok (.astore 6, 2)) (hn : 6 < M.2.2.1) (kk : AN M d Q (pc + 2) [a0, a1, a2, a3, a4, a5, some (.ref v), a7, a8, a9] st h) : AN M d Q pc [a0, a1, a2, a3, a4, a5, a6, a7, a8, a9] (.ref v :: st) h := an_astore_m hd hn kk
theorem ic10_6 {a0 a1 a2 a3 a4 a5 a7 a8 a9 : Option Value} {v w : Int32} {z : Int} (hd : decode M.2.1 pc = .ok (.iinc 6 z, 3)) (e : v + Int32.ofInt z = w) (hn : 6 < M.2.2.1) (kk : AN M d Q (pc + 3) [a0, a1, a2, a3, a4, a5, some (.int w), a7, a8, a9] st h) : AN M d Q pc [a0, a1, a2, a3, a4, a5, some (.int v), a7, a8, a9] st h := aw_iinc hd rfl e hn kk
theorem si10_7 {a0 a1 a2 a3 a4 a5 a6 a7 a8 a9 : Option Value} {v : Int32} (hd : decode M.2.1 pc = .ok (.istore 7, 2)) (hn : 7 < M.2.2.1) (kk : AN M d Q (pc + 2) [a0, a1, a2, a3, a4, a5, a6, some (.int v), a8, a9] st h) : AN M d Q pc [a0, a1, a2, a3, a4, a5, a6, a7, a8, a9] (.int v :: st) h := aw_istore hd hn kk
theorem sa10_7 {a0 a1 a2 a3 a4 a5 a6 a7 a8 a9 : Option Value} {v : Nat} (hd : decode M.2.1 pc = .ok (.astore 7, 2)) (hn : 7 < M.2.2.1) (kk : AN M d Q (pc + 2) [a0, a1, a2, a3, a4, a5, a6, some (.ref v), a8, a9] st h) : AN M d Q pc [a0, a1, a2, a3, a4, a5, a6, a7, a8, a9] (.ref v :: st) h := an_astore_m hd hn kk
theorem ic10_7 {a0 a1 a2 a3 a4 a5 a6 a8 a9 : Option Value} {v w : Int32} {z : Int} (hd : decode M.2.1 pc = .ok (.iinc 7 z, 3)) (e : v + Int32.ofInt z = w) (hn : 7 < M.2.2.1) (kk : AN M d Q (pc + 3) [a0, a1, a2, a3, a4, a5, a6, some (.int w), a8, a9] st h) : AN M d Q pc [a0, a1, a2, a3, a4, a5, a6, some (.int v), a8, a9] st h := aw_iinc hd rfl e hn kk
theorem si10_8 {a0 a1 a2 a3 a4 a5 a6 a7 a8 a9 : Option Value} {v : Int32} (hd : decode M.2.1 pc = .ok (.istore 8, 2)) (hn : 8 < M.2.2.1) (kk : AN M d Q (pc + 2) [a0, a1, a2, a3, a4, a5, a6, a7, some (.int v), a9] st h) : AN M d Q pc [a0, a1, a2, a3, a4, a5, a6, a7, a8, a9] (.int v :: st) h := aw_istore hd hn kk
theorem sa10_8 {a0 a1 a2 a3 a4 a5 a6 a7 a8 a9 : Option Value} {v : Nat} (hd : decode M.2.1 pc = .ok (.astore 8, 2)) (hn : 8 < M.2.2.1) (kk : AN M d Q (pc + 2) [a0, a1, a2, a3, a4, a5, a6, a7, some (.ref v), a9] st h) : AN M d Q pc [a0, a1, a2, a3, a4, a5, a6, a7, a8, a9] (.ref v :: st) h := an_astore_m hd hn kk
theorem ic10_8 {a0 a1 a2 a3 a4 a5 a6 a7 a9 : Option Value} {v w : Int32} {z : Int} (hd : decode M.2.1 pc = .ok (.iinc 8 z, 3)) (e : v + Int32.ofInt z = w) (hn : 8 < M.2.2.1) (kk : AN M d Q (pc + 3) [a0, a1, a2, a3, a4, a5, a6, a7, some (.int w), a9] st h) : AN M d Q pc [a0, a1, a2, a3, a4, a5, a6, a7, some (.int v), a9] st h := aw_iinc hd rfl e hn kk
theorem si10_9 {a0 a1 a2 a3 a4 a5 a6 a7 a8 a9 : Option Value} {v : Int32} (hd : decode M.2.1 pc = .ok (.istore 9, 2)) (hn : 9 < M.2.2.1) (kk : AN M d Q (pc + 2) [a0, a1, a2, a3, a4, a5, a6, a7, a8, some (.int v)] st h) : AN M d Q pc [a0, a1, a2, a3, a4, a5, a6, a7, a8, a9] (.int v :: st) h := aw_istore hd hn kk
theorem sa10_9 {a0 a1 a2 a3 a4 a5 a6 a7 a8 a9 : Option Value} {v : Nat} (hd : decode M.2.1 pc = .ok (.astore 9, 2)) (hn : 9 < M.2.2.1) (kk : AN M d Q (pc + 2) [a0, a1, a2, a3, a4, a5, a6, a7, a8, some (.ref v)] st h) : AN M d Q pc [a0, a1, a2, a3, a4, a5, a6, a7, a8, a9] (.ref v :: st) h := an_astore_m hd hn kk
theorem ic10_9 {a0 a1 a2 a3 a4 a5 a6 a7 a8 : Option Value} {v w : Int32} {z : Int} (hd : decode M.2.1 pc = .ok (.iinc 9 z, 3)) (e : v + Int32.ofInt z = w) (hn : 9 < M.2.2.1) (kk : AN M d Q (pc + 3) [a0, a1, a2, a3, a4, a5, a6, a7, a8, some (.int w)] st h) : AN M d Q pc [a0, a1, a2, a3, a4, a5, a6, a7, a8, some (.int v)] st h := aw_iinc hd rfl e hn kk
end LOC
end
section
/-! the reference's table of least costs -/
theorem list_set_self {α : Type} {L : List α} {i : Nat} {v : α} (h : L[i]? = some v) : L.set i v = L := by
  apply List.ext_getElem?
  intro j
  rw [List.getElem?_set]
  by_cases e : i = j
  · subst e
    have := (List.getElem?_eq_some_iff.mp h).1
    rw [if_pos rfl, if_pos this, h]
  · rw [if_neg e]
theorem ix4_1 {i : Nat} : (4 : Int32) * nI i + 1 = nI (4 * i + 1) := ix4 (k := i) (i := 1)
theorem ix4_2 {i : Nat} : (4 : Int32) * nI i + 2 = nI (4 * i + 2) := ix4 (k := i) (i := 2)
theorem ix4_3 {i : Nat} : (4 : Int32) * nI i + 3 = nI (4 * i + 3) := ix4 (k := i) (i := 3)
def tblD (f v : Nat → Int32) (n : Nat) (p : Int32) (m : Nat) : Prop := ∀ i, m ≤ i → i < n → ∀ kd, 1 ≤ kd → kd ≤ 3 → f (4 * i + kd) = DP v n p i kd
theorem tbl_step {f v : Nat → Int32} {n : Nat} {p : Int32} {m : Nat} {x1 x2 x3 : Int32} (h : tblD f v n p (m + 1)) (h1 : x1 = DP v n p m 1) (h2 : x2 = DP v n p m 2) (h3 : x3 = DP v n p m 3) : tblD (upd (upd (upd f (4 * m + 1) x1) (4 * m + 2) x2) (4 * m + 3) x3) v n p m := by
  intro i hi hn kd a b
  by_cases e : i = m
  · subst e
    rcases (show kd = 1 ∨ kd = 2 ∨ kd = 3 by omega) with rfl | rfl | rfl
    · rw [pk_un (by omega), pk_un (by omega), pk_us]; exact h1
    · rw [pk_un (by omega), pk_us]; exact h2
    · rw [pk_us]; exact h3
  · rw [pk_un (by omega), pk_un (by omega), pk_un (by omega)]
    exact h i (by omega) hn kd a b
theorem cb_same (g : Nat → Int32) (p : Int32) (q : Nat) : g q + 0 = cb g p q q := by
  unfold cb; rw [if_pos rfl, Int32.add_zero]
theorem cb_far {v : Nat → Int32} {n : Nat} {p : Int32} {i b q : Nat} (hv : VB v n) (hp : 0 ≤ p.toInt ∧ p.toInt ≤ 10000) : cb (DP v n p i) p b q < 1000000000 := by
  have := cb_b (g := DP v n p i) (b := b) (q := q) (M := 492000) (by omega) hp (DP_b hv hp i q)
  rw [lt_T, z_far]; omega
end
section
set_option maxHeartbeats 4000000 in
set_option maxRecDepth 100000 in
theorem c_T_isWay (N : Nat → Nat) (V : Nat → Nat → Int32) (K : Nat → Int32) (J : Nat → Int32) (B : Nat → Nat → Int32) (hI : TInv N V K J B) {k i : Nat} (hk : k < 4) (hi : i < 1000) : AM kT_isWay 4 [.ref 0, .int (nI k), .int (nI i)] (hT J B) (BQ (wy (V k) (N k) i) (hT J B)) := by
  refine AMet.of (by decide) (by simp [Value.category]) (Nat.le_of_ble_eq_true rfl) ?_
  show AN _ _ _ 0 [some _, some _, some _] [] _
  refine aw_aload_r dT_isWay_0 rfl ?_
  refine aw_iload_n dT_isWay_1 rfl ?_
  refine aw_iload_n dT_isWay_2 rfl ?_
  refine an_callVb cg_T_91 (c_T_hasValue _ _ _ _ _ hI _ _) dT_isWay_3 rfl rfl rfl rfl rfl (Nat.le_of_ble_eq_true rfl) (Nat.le_of_ble_eq_true rfl) (fun p3 => ?_) (fun p3 => ?_)
  · refine aw_if_eq (tgt := 24) dT_isWay_6 (by decide) (fun q => absurd q (by decide)) (fun _ => ?_)
    refine aw_aload_r dT_isWay_9 rfl ?_
    refine aw_iload_n dT_isWay_10 rfl ?_
    refine aw_iload_n dT_isWay_11 rfl ?_
    refine aw_iconst (v := 1) dT_isWay_12 (by decide) ?_
    refine aw_iadd dT_isWay_13 ?_
    refine an_top (nI_1 i) ?_
    refine an_callVb cg_T_91 (c_T_hasValue _ _ _ _ _ hI _ _) dT_isWay_14 rfl rfl rfl rfl rfl (Nat.le_of_ble_eq_true rfl) (Nat.le_of_ble_eq_true rfl) (fun p14 => ?_) (fun p14 => ?_)
    · refine aw_if_eq (tgt := 24) dT_isWay_17 (by decide) (fun q => absurd q (by decide)) (fun _ => ?_)
      refine aw_iconst (v := 1) dT_isWay_20 (by decide) ?_
      refine aw_goto (tgt := 25) dT_isWay_21 (by decide) ?_
      exact aw_zret rfl (Or.inr rfl) dT_isWay_25 ⟨rfl, Or.inl ⟨(wy_hv hI.n hk hi).mp ⟨p3, p14⟩, rfl⟩⟩
    · refine aw_if_eq (tgt := 24) dT_isWay_17 (by decide) (fun _ => ?_) (fun q => absurd q (by decide))
      refine aw_iconst (v := 0) dT_isWay_24 (by decide) ?_
      exact aw_zret rfl (Or.inl rfl) dT_isWay_25 ⟨rfl, Or.inr ⟨fun q => p14 ((wy_hv hI.n hk hi).mpr q).2, rfl⟩⟩
  · refine aw_if_eq (tgt := 24) dT_isWay_6 (by decide) (fun _ => ?_) (fun q => absurd q (by decide))
    refine aw_iconst (v := 0) dT_isWay_24 (by decide) ?_
    exact aw_zret rfl (Or.inl rfl) dT_isWay_25 ⟨rfl, Or.inr ⟨fun q => p3 ((wy_hv hI.n hk hi).mpr q).1, rfl⟩⟩

set_option maxHeartbeats 4000000 in
set_option maxRecDepth 100000 in
theorem c_T_wayCost1 (N : Nat → Nat) (V : Nat → Nat → Int32) (K : Nat → Int32) (J : Nat → Int32) (B : Nat → Nat → Int32) (hI : TInv N V K J B) {k i : Nat} (hk : k < 4) (hi : i + 1 < 40) : AM kT_wayCost 2 [.ref 0, .int (nI k), .int (nI i), .int 1] (hT J B) (RQ (wc (V k) i 1) (hT J B)) := by
  refine AMet.of (by decide) (by simp [Value.category]) (Nat.le_of_ble_eq_true rfl) ?_
  show AN _ _ _ 0 [some _, some _, some _, some _, none] [] _
  refine aw_aload_r dT_wayCost_0 rfl ?_
  refine aw_iload_n dT_wayCost_1 rfl ?_
  refine aw_iload_n dT_wayCost_2 rfl ?_
  refine aw_iconst (v := 1) dT_wayCost_3 (by decide) ?_
  refine aw_iadd dT_wayCost_4 ?_
  refine an_top (nI_1 i) ?_
  refine an_callVr cg_T_88 (c_T_valueAt _ _ _ _ _ hI hk hi) dT_wayCost_5 rfl rfl rfl rfl rfl (Nat.le_of_ble_eq_true rfl) (Nat.le_of_ble_eq_true rfl) ?_
  refine aw_aload_r dT_wayCost_8 rfl ?_
  refine aw_iload_n dT_wayCost_9 rfl ?_
  refine aw_iload_n dT_wayCost_10 rfl ?_
  refine an_callVr cg_T_88 (c_T_valueAt _ _ _ _ _ hI hk (by omega)) dT_wayCost_11 rfl rfl rfl rfl rfl (Nat.le_of_ble_eq_true rfl) (Nat.le_of_ble_eq_true rfl) ?_
  refine aw_isub dT_wayCost_14 ?_
  refine si5_4 dT_wayCost_15 (by decide) ?_
  refine aw_iload_n dT_wayCost_17 rfl ?_
  refine aw_iconst (v := 1) dT_wayCost_18 (by decide) ?_
  refine aw_icmp_ne (tgt := 35) dT_wayCost_19 (by decide) (fun q => absurd q (by decide)) (fun _ => ?_)
  refine aw_iload dT_wayCost_22 rfl ?_
  refine aw_if_ge (tgt := 33) dT_wayCost_24 (by decide) (fun c24 => ?_) (fun c24 => ?_)
  · refine aw_iconst (v := 0) dT_wayCost_33 (by decide) ?_
    exact aw_iret rfl dT_wayCost_34 (by unfold wc; rw [if_pos rfl, if_neg (Int32.not_lt.mpr c24)]; exact ⟨rfl, rfl⟩)
  · refine aw_iload dT_wayCost_27 rfl ?_
    refine aw_ineg dT_wayCost_29 ?_
    refine aw_goto (tgt := 34) dT_wayCost_30 (by decide) ?_
    exact aw_iret rfl dT_wayCost_34 (by unfold wc; rw [if_pos rfl, if_pos (Int32.not_le.mp c24)]; exact ⟨rfl, rfl⟩)

set_option maxHeartbeats 4000000 in
set_option maxRecDepth 100000 in
theorem c_T_wayCost2 (N : Nat → Nat) (V : Nat → Nat → Int32) (K : Nat → Int32) (J : Nat → Int32) (B : Nat → Nat → Int32) (hI : TInv N V K J B) {k i : Nat} (hk : k < 4) (hi : i + 1 < 40) : AM kT_wayCost 2 [.ref 0, .int (nI k), .int (nI i), .int 2] (hT J B) (RQ (wc (V k) i 2) (hT J B)) := by
  refine AMet.of (by decide) (by simp [Value.category]) (Nat.le_of_ble_eq_true rfl) ?_
  show AN _ _ _ 0 [some _, some _, some _, some _, none] [] _
  refine aw_aload_r dT_wayCost_0 rfl ?_
  refine aw_iload_n dT_wayCost_1 rfl ?_
  refine aw_iload_n dT_wayCost_2 rfl ?_
  refine aw_iconst (v := 1) dT_wayCost_3 (by decide) ?_
  refine aw_iadd dT_wayCost_4 ?_
  refine an_top (nI_1 i) ?_
  refine an_callVr cg_T_88 (c_T_valueAt _ _ _ _ _ hI hk hi) dT_wayCost_5 rfl rfl rfl rfl rfl (Nat.le_of_ble_eq_true rfl) (Nat.le_of_ble_eq_true rfl) ?_
  refine aw_aload_r dT_wayCost_8 rfl ?_
  refine aw_iload_n dT_wayCost_9 rfl ?_
  refine aw_iload_n dT_wayCost_10 rfl ?_
  refine an_callVr cg_T_88 (c_T_valueAt _ _ _ _ _ hI hk (by omega)) dT_wayCost_11 rfl rfl rfl rfl rfl (Nat.le_of_ble_eq_true rfl) (Nat.le_of_ble_eq_true rfl) ?_
  refine aw_isub dT_wayCost_14 ?_
  refine si5_4 dT_wayCost_15 (by decide) ?_
  refine aw_iload_n dT_wayCost_17 rfl ?_
  refine aw_iconst (v := 1) dT_wayCost_18 (by decide) ?_
  refine aw_icmp_ne (tgt := 35) dT_wayCost_19 (by decide) (fun _ => ?_) (fun q => absurd q (by decide))
  refine aw_iload_n dT_wayCost_35 rfl ?_
  refine aw_iconst (v := 2) dT_wayCost_36 (by decide) ?_
  refine aw_icmp_ne (tgt := 52) dT_wayCost_37 (by decide) (fun q => absurd q (by decide)) (fun _ => ?_)
  refine aw_iload dT_wayCost_40 rfl ?_
  refine aw_if_le (tgt := 50) dT_wayCost_42 (by decide) (fun c42 => ?_) (fun c42 => ?_)
  · refine aw_iconst (v := 0) dT_wayCost_50 (by decide) ?_
    exact aw_iret rfl dT_wayCost_51 (by unfold wc; rw [if_neg (by decide), if_pos rfl, if_neg (Int32.not_lt.mpr c42)]; exact ⟨rfl, rfl⟩)
  · refine aw_iload dT_wayCost_45 rfl ?_
    refine aw_goto (tgt := 51) dT_wayCost_47 (by decide) ?_
    exact aw_iret rfl dT_wayCost_51 (by unfold wc; rw [if_neg (by decide), if_pos rfl, if_pos (Int32.not_le.mp c42)]; exact ⟨rfl, rfl⟩)

set_option maxHeartbeats 4000000 in
set_option maxRecDepth 100000 in
theorem c_T_wayCost3 (N : Nat → Nat) (V : Nat → Nat → Int32) (K : Nat → Int32) (J : Nat → Int32) (B : Nat → Nat → Int32) (hI : TInv N V K J B) {k i : Nat} (hk : k < 4) (hi : i + 1 < 40) : AM kT_wayCost 2 [.ref 0, .int (nI k), .int (nI i), .int 3] (hT J B) (RQ (wc (V k) i 3) (hT J B)) := by
  refine AMet.of (by decide) (by simp [Value.category]) (Nat.le_of_ble_eq_true rfl) ?_
  show AN _ _ _ 0 [some _, some _, some _, some _, none] [] _
  refine aw_aload_r dT_wayCost_0 rfl ?_
  refine aw_iload_n dT_wayCost_1 rfl ?_
  refine aw_iload_n dT_wayCost_2 rfl ?_
  refine aw_iconst (v := 1) dT_wayCost_3 (by decide) ?_
  refine aw_iadd dT_wayCost_4 ?_
  refine an_top (nI_1 i) ?_
  refine an_callVr cg_T_88 (c_T_valueAt _ _ _ _ _ hI hk hi) dT_wayCost_5 rfl rfl rfl rfl rfl (Nat.le_of_ble_eq_true rfl) (Nat.le_of_ble_eq_true rfl) ?_
  refine aw_aload_r dT_wayCost_8 rfl ?_
  refine aw_iload_n dT_wayCost_9 rfl ?_
  refine aw_iload_n dT_wayCost_10 rfl ?_
  refine an_callVr cg_T_88 (c_T_valueAt _ _ _ _ _ hI hk (by omega)) dT_wayCost_11 rfl rfl rfl rfl rfl (Nat.le_of_ble_eq_true rfl) (Nat.le_of_ble_eq_true rfl) ?_
  refine aw_isub dT_wayCost_14 ?_
  refine si5_4 dT_wayCost_15 (by decide) ?_
  refine aw_iload_n dT_wayCost_17 rfl ?_
  refine aw_iconst (v := 1) dT_wayCost_18 (by decide) ?_
  refine aw_icmp_ne (tgt := 35) dT_wayCost_19 (by decide) (fun _ => ?_) (fun q => absurd q (by decide))
  refine aw_iload_n dT_wayCost_35 rfl ?_
  refine aw_iconst (v := 2) dT_wayCost_36 (by decide) ?_
  refine aw_icmp_ne (tgt := 52) dT_wayCost_37 (by decide) (fun _ => ?_) (fun q => absurd q (by decide))
  refine aw_iload dT_wayCost_52 rfl ?_
  refine aw_if_ge (tgt := 63) dT_wayCost_54 (by decide) (fun c54 => ?_) (fun c54 => ?_)
  · refine aw_iload dT_wayCost_63 rfl ?_
    exact aw_iret rfl dT_wayCost_65 (by unfold wc; rw [if_neg (by decide), if_neg (by decide), if_neg (Int32.not_lt.mpr c54)]; exact ⟨rfl, rfl⟩)
  · refine aw_iload dT_wayCost_57 rfl ?_
    refine aw_ineg dT_wayCost_59 ?_
    refine aw_goto (tgt := 65) dT_wayCost_60 (by decide) ?_
    exact aw_iret rfl dT_wayCost_65 (by unfold wc; rw [if_neg (by decide), if_neg (by decide), if_pos (Int32.not_le.mp c54)]; exact ⟨rfl, rfl⟩)

theorem c_T_wayCost (N : Nat → Nat) (V : Nat → Nat → Int32) (K : Nat → Int32) (J : Nat → Int32) (B : Nat → Nat → Int32) (hI : TInv N V K J B) {k i kd : Nat} (hk : k < 4) (hi : i + 1 < 40) (h1 : 1 ≤ kd) (h3 : kd ≤ 3) : AM kT_wayCost 2 [.ref 0, .int (nI k), .int (nI i), .int (nI kd)] (hT J B) (RQ (wc (V k) i kd) (hT J B)) := by
  rcases (show kd = 1 ∨ kd = 2 ∨ kd = 3 by omega) with rfl | rfl | rfl
  · exact c_T_wayCost1 N V K J B hI hk hi
  · exact c_T_wayCost2 N V K J B hI hk hi
  · exact c_T_wayCost3 N V K J B hI hk hi

theorem g_T_w77 {d : Nat} {Q : QT} {a0 a1 a2 a3 a5 : Option Value} {st : List Value} {h : List AC} {x b : Int32} (kk : AN kT_weighs d Q 88 [a0, a1, a2, a3, some (.int (if x < b then x else b)), a5, some (.int x)] st h) : AN kT_weighs d Q 77 [a0, a1, a2, a3, some (.int b), a5, some (.int x)] st h := by
  refine aw_iload dT_weighs_77 rfl ?_
  refine aw_iload dT_weighs_79 rfl ?_
  refine aw_icmp_ge (tgt := 88) dT_weighs_81 (by decide) (fun c => ?_) (fun c => ?_)
  · rw [if_neg (Int32.not_lt.mpr c)] at kk; exact kk
  · refine aw_iload dT_weighs_84 rfl ?_
    refine si7_4 dT_weighs_86 (by decide) ?_
    rw [if_pos (Int32.not_le.mp c)] at kk; exact kk

def WQT (N : Nat → Nat) (V : Nat → Nat → Int32) (K J : Nat → Int32) (k : Nat) : QT := fun r h' => r = none ∧ ∃ B', h' = hT J B' ∧ TInv N V K J B' ∧ tblD (B' 6) (V k) (N k) (K 8) 0
set_option maxHeartbeats 4000000 in
set_option maxRecDepth 100000 in
theorem l_T_weighs (N : Nat → Nat) (V : Nat → Nat → Int32) (K : Nat → Int32) (J : Nat → Int32) (B : Nat → Nat → Int32) (hI : TInv N V K J B) (hP : PInv N V K) {k : Nat} (hk : k < 4) : ∀ (m : Nat) (B1 : Nat → Nat → Int32), m ≤ N k → TInv N V K J B1 → tblD (B1 6) (V k) (N k) (K 8) m → AN kT_weighs 5 (WQT N V K J k) 9 [some (.ref 0), some (.int (nI k)), some (.int (nI m - 1)), none, none, none, none] [] (hT J B1) := by
  have hv := hP.vb hk
  have hp := hP.part
  intro m
  induction m with
  | zero =>
    intro B1 hm h1 hD
    refine aw_iload_n dT_weighs_9 rfl ?_
    refine aw_if_lt (tgt := 139) dT_weighs_10 (by decide) (fun c10 => ?_) (fun c10 => absurd (by decide) c10)
    exact aw_vret rfl dT_weighs_139 ⟨rfl, B1, rfl, h1, hD⟩
  | succ m ih =>
    intro B1 hm h1 hD
    have h40 := hI.n k hk
    rw [nI_pred m]
    by_cases w1 : wy (V k) (N k) m
    · by_cases w2 : wy (V k) (N k) (m + 1)
      · refine aw_iload_n dT_weighs_9 rfl ?_
        refine aw_if_lt (tgt := 139) dT_weighs_10 (by decide) (fun c10 => absurd c10 (nI_pos (by omega))) (fun c10 => ?_)
        refine aw_iconst (v := 1) dT_weighs_13 (by decide) ?_
        refine si7_3 dT_weighs_14 (by decide) ?_
        refine aw_iload_n dT_weighs_15 rfl ?_
        refine aw_iconst (v := 4) dT_weighs_16 (by decide) ?_
        refine aw_icmp_ge (tgt := 133) dT_weighs_17 (by decide) (fun q => absurd q (by decide)) (fun _ => ?_)
        refine aw_iconst (v := 0) dT_weighs_20 (by decide) ?_
        refine si7_4 dT_weighs_21 (by decide) ?_
        refine aw_aload_r dT_weighs_23 rfl ?_
        refine aw_iload_n dT_weighs_24 rfl ?_
        refine aw_iload_n dT_weighs_25 rfl ?_
        refine aw_iconst (v := 1) dT_weighs_26 (by decide) ?_
        refine aw_iadd dT_weighs_27 ?_
        refine an_top (nI_1 m) ?_
        refine an_callVb cg_T_94 (c_T_isWay N V K _ _ (by exact h1) hk (by omega)) dT_weighs_28 rfl rfl rfl rfl rfl (Nat.le_of_ble_eq_true rfl) (Nat.le_of_ble_eq_true rfl) (fun p28 => ?_) (fun q9 => absurd (w2) q9)
        refine aw_if_eq (tgt := 94) dT_weighs_31 (by decide) (fun q => absurd q (by decide)) (fun _ => ?_)
        refine aw_ldc (v := 1000000000) (k_at 677 (by decide +kernel) (by decide +kernel)) dT_weighs_34 ?_
        refine si7_4 dT_weighs_36 (by decide) ?_
        refine aw_iconst (v := 1) dT_weighs_38 (by decide) ?_
        refine si7_5 dT_weighs_39 (by decide) ?_
        refine aw_iload dT_weighs_41 rfl ?_
        refine aw_iconst (v := 4) dT_weighs_43 (by decide) ?_
        refine aw_icmp_ge (tgt := 94) dT_weighs_44 (by decide) (fun q => absurd q (by decide)) (fun _ => ?_)
        refine aw_aload_r dT_weighs_47 rfl ?_
        refine aw_get fg_T_32 dT_weighs_48 rfl rfl ?_
        refine aw_iconst (v := 4) dT_weighs_51 (by decide) ?_
        refine aw_iload_n dT_weighs_52 rfl ?_
        refine aw_iconst (v := 1) dT_weighs_53 (by decide) ?_
        refine aw_iadd dT_weighs_54 ?_
        refine an_top (nI_1 m) ?_
        refine aw_imul dT_weighs_55 ?_
        refine aw_iload dT_weighs_56 rfl ?_
        refine aw_iadd dT_weighs_58 ?_
        refine an_ldT dT_weighs_59 at_6 ix4_1 (by omega) (by decide) ?_
        refine an_top (y := DP (V k) (N k) (K 8) (m + 1) 1) (hD (m + 1) (by omega) (by have := w2.1; omega) 1 (by decide) (by decide)) ?_
        refine aw_iload dT_weighs_60 rfl ?_
        refine aw_iload_n dT_weighs_62 rfl ?_
        refine aw_icmp_ne (tgt := 70) dT_weighs_63 (by decide) (fun q => absurd q (by decide)) (fun _ => ?_)
        refine aw_iconst (v := 0) dT_weighs_66 (by decide) ?_
        refine aw_goto (tgt := 74) dT_weighs_67 (by decide) ?_
        refine aw_iadd dT_weighs_74 ?_
        refine an_top (cb_same (DP (V k) (N k) (K 8) (m + 1)) (K 8) 1) ?_
        refine si7_6 dT_weighs_75 (by decide) ?_
        refine g_T_w77 ?_
        rw [if_pos (cb_far hv hp)]
        refine ic7_5 (w := 2) dT_weighs_88 (by decide) (by decide) ?_
        refine aw_goto (tgt := 41) dT_weighs_91 (by decide) ?_
        refine aw_iload dT_weighs_41 rfl ?_
        refine aw_iconst (v := 4) dT_weighs_43 (by decide) ?_
        refine aw_icmp_ge (tgt := 94) dT_weighs_44 (by decide) (fun q => absurd q (by decide)) (fun _ => ?_)
        refine aw_aload_r dT_weighs_47 rfl ?_
        refine aw_get fg_T_32 dT_weighs_48 rfl rfl ?_
        refine aw_iconst (v := 4) dT_weighs_51 (by decide) ?_
        refine aw_iload_n dT_weighs_52 rfl ?_
        refine aw_iconst (v := 1) dT_weighs_53 (by decide) ?_
        refine aw_iadd dT_weighs_54 ?_
        refine an_top (nI_1 m) ?_
        refine aw_imul dT_weighs_55 ?_
        refine aw_iload dT_weighs_56 rfl ?_
        refine aw_iadd dT_weighs_58 ?_
        refine an_ldT dT_weighs_59 at_6 ix4_2 (by omega) (by decide) ?_
        refine an_top (y := DP (V k) (N k) (K 8) (m + 1) 2) (hD (m + 1) (by omega) (by have := w2.1; omega) 2 (by decide) (by decide)) ?_
        refine aw_iload dT_weighs_60 rfl ?_
        refine aw_iload_n dT_weighs_62 rfl ?_
        refine aw_icmp_ne (tgt := 70) dT_weighs_63 (by decide) (fun _ => ?_) (fun q => absurd q (by decide))
        refine aw_aload_r dT_weighs_70 rfl ?_
        refine aw_get fg_T_22 dT_weighs_71 rfl rfl ?_
        show AN _ _ _ _ _ (.int (J 4) :: _) _
        rw [h1.2.1]
        refine aw_iadd dT_weighs_74 ?_
        refine an_top (show DP (V k) (N k) (K 8) (m + 1) 2 + K 8 = cb (DP (V k) (N k) (K 8) (m + 1)) (K 8) 1 2 from rfl) ?_
        refine si7_6 dT_weighs_75 (by decide) ?_
        refine g_T_w77 ?_
        refine ic7_5 (w := 3) dT_weighs_88 (by decide) (by decide) ?_
        refine aw_goto (tgt := 41) dT_weighs_91 (by decide) ?_
        refine aw_iload dT_weighs_41 rfl ?_
        refine aw_iconst (v := 4) dT_weighs_43 (by decide) ?_
        refine aw_icmp_ge (tgt := 94) dT_weighs_44 (by decide) (fun q => absurd q (by decide)) (fun _ => ?_)
        refine aw_aload_r dT_weighs_47 rfl ?_
        refine aw_get fg_T_32 dT_weighs_48 rfl rfl ?_
        refine aw_iconst (v := 4) dT_weighs_51 (by decide) ?_
        refine aw_iload_n dT_weighs_52 rfl ?_
        refine aw_iconst (v := 1) dT_weighs_53 (by decide) ?_
        refine aw_iadd dT_weighs_54 ?_
        refine an_top (nI_1 m) ?_
        refine aw_imul dT_weighs_55 ?_
        refine aw_iload dT_weighs_56 rfl ?_
        refine aw_iadd dT_weighs_58 ?_
        refine an_ldT dT_weighs_59 at_6 ix4_3 (by omega) (by decide) ?_
        refine an_top (y := DP (V k) (N k) (K 8) (m + 1) 3) (hD (m + 1) (by omega) (by have := w2.1; omega) 3 (by decide) (by decide)) ?_
        refine aw_iload dT_weighs_60 rfl ?_
        refine aw_iload_n dT_weighs_62 rfl ?_
        refine aw_icmp_ne (tgt := 70) dT_weighs_63 (by decide) (fun _ => ?_) (fun q => absurd q (by decide))
        refine aw_aload_r dT_weighs_70 rfl ?_
        refine aw_get fg_T_22 dT_weighs_71 rfl rfl ?_
        show AN _ _ _ _ _ (.int (J 4) :: _) _
        rw [h1.2.1]
        refine aw_iadd dT_weighs_74 ?_
        refine an_top (show DP (V k) (N k) (K 8) (m + 1) 3 + K 8 = cb (DP (V k) (N k) (K 8) (m + 1)) (K 8) 1 3 from rfl) ?_
        refine si7_6 dT_weighs_75 (by decide) ?_
        refine g_T_w77 ?_
        refine ic7_5 (w := 4) dT_weighs_88 (by decide) (by decide) ?_
        refine aw_goto (tgt := 41) dT_weighs_91 (by decide) ?_
        refine aw_iload dT_weighs_41 rfl ?_
        refine aw_iconst (v := 4) dT_weighs_43 (by decide) ?_
        refine aw_icmp_ge (tgt := 94) dT_weighs_44 (by decide) (fun _ => ?_) (fun q => absurd q (by decide))
        refine aw_aload_r dT_weighs_94 rfl ?_
        refine aw_get fg_T_32 dT_weighs_95 rfl rfl ?_
        refine aw_iconst (v := 4) dT_weighs_98 (by decide) ?_
        refine aw_iload_n dT_weighs_99 rfl ?_
        refine aw_imul dT_weighs_100 ?_
        refine aw_iload_n dT_weighs_101 rfl ?_
        refine aw_iadd dT_weighs_102 ?_
        refine aw_aload_r dT_weighs_103 rfl ?_
        refine aw_iload_n dT_weighs_104 rfl ?_
        refine aw_iload_n dT_weighs_105 rfl ?_
        refine an_callVb cg_T_94 (c_T_isWay N V K _ _ (by exact h1) hk (by omega)) dT_weighs_106 rfl rfl rfl rfl rfl (Nat.le_of_ble_eq_true rfl) (Nat.le_of_ble_eq_true rfl) (fun p106 => ?_) (fun q9 => absurd (w1) q9)
        refine aw_if_eq (tgt := 125) dT_weighs_109 (by decide) (fun q => absurd q (by decide)) (fun _ => ?_)
        refine aw_aload_r dT_weighs_112 rfl ?_
        refine aw_iload_n dT_weighs_113 rfl ?_
        refine aw_iload_n dT_weighs_114 rfl ?_
        refine aw_iload_n dT_weighs_115 rfl ?_
        refine an_callVr cg_T_98 (c_T_wayCost1 N V K _ _ (by exact h1) hk (by have := w1.1; omega)) dT_weighs_116 rfl rfl rfl rfl rfl (Nat.le_of_ble_eq_true rfl) (Nat.le_of_ble_eq_true rfl) ?_
        refine aw_iload dT_weighs_119 rfl ?_
        refine aw_iadd dT_weighs_121 ?_
        refine aw_goto (tgt := 126) dT_weighs_122 (by decide) ?_
        refine an_stT dT_weighs_126 at_6 ix4_1 (by omega) (by decide) ?_
        refine ic7_3 (w := 2) dT_weighs_127 (by decide) (by decide) ?_
        refine aw_goto (tgt := 15) dT_weighs_130 (by decide) ?_
        refine aw_iload_n dT_weighs_15 rfl ?_
        refine aw_iconst (v := 4) dT_weighs_16 (by decide) ?_
        refine aw_icmp_ge (tgt := 133) dT_weighs_17 (by decide) (fun q => absurd q (by decide)) (fun _ => ?_)
        refine aw_iconst (v := 0) dT_weighs_20 (by decide) ?_
        refine si7_4 dT_weighs_21 (by decide) ?_
        refine aw_aload_r dT_weighs_23 rfl ?_
        refine aw_iload_n dT_weighs_24 rfl ?_
        refine aw_iload_n dT_weighs_25 rfl ?_
        refine aw_iconst (v := 1) dT_weighs_26 (by decide) ?_
        refine aw_iadd dT_weighs_27 ?_
        refine an_top (nI_1 m) ?_
        refine an_callVb cg_T_94 (c_T_isWay N V K _ _ (by exact h1) hk (by omega)) dT_weighs_28 rfl rfl rfl rfl rfl (Nat.le_of_ble_eq_true rfl) (Nat.le_of_ble_eq_true rfl) (fun p28 => ?_) (fun q9 => absurd (w2) q9)
        refine aw_if_eq (tgt := 94) dT_weighs_31 (by decide) (fun q => absurd q (by decide)) (fun _ => ?_)
        refine aw_ldc (v := 1000000000) (k_at 677 (by decide +kernel) (by decide +kernel)) dT_weighs_34 ?_
        refine si7_4 dT_weighs_36 (by decide) ?_
        refine aw_iconst (v := 1) dT_weighs_38 (by decide) ?_
        refine si7_5 dT_weighs_39 (by decide) ?_
        refine aw_iload dT_weighs_41 rfl ?_
        refine aw_iconst (v := 4) dT_weighs_43 (by decide) ?_
        refine aw_icmp_ge (tgt := 94) dT_weighs_44 (by decide) (fun q => absurd q (by decide)) (fun _ => ?_)
        refine aw_aload_r dT_weighs_47 rfl ?_
        refine aw_get fg_T_32 dT_weighs_48 rfl rfl ?_
        refine aw_iconst (v := 4) dT_weighs_51 (by decide) ?_
        refine aw_iload_n dT_weighs_52 rfl ?_
        refine aw_iconst (v := 1) dT_weighs_53 (by decide) ?_
        refine aw_iadd dT_weighs_54 ?_
        refine an_top (nI_1 m) ?_
        refine aw_imul dT_weighs_55 ?_
        refine aw_iload dT_weighs_56 rfl ?_
        refine aw_iadd dT_weighs_58 ?_
        refine an_ldT dT_weighs_59 at_6 ix4_1 (by omega) (by decide) ?_
        refine an_top (y := DP (V k) (N k) (K 8) (m + 1) 1) (by simp only [up_s, pk_un (show 4 * (m + 1) + 1 ≠ 4 * m + 1 by omega), pk_un (show 4 * (m + 1) + 1 ≠ 4 * m + 2 by omega)]; exact hD (m + 1) (by omega) (by have := w2.1; omega) 1 (by decide) (by decide)) ?_
        refine aw_iload dT_weighs_60 rfl ?_
        refine aw_iload_n dT_weighs_62 rfl ?_
        refine aw_icmp_ne (tgt := 70) dT_weighs_63 (by decide) (fun _ => ?_) (fun q => absurd q (by decide))
        refine aw_aload_r dT_weighs_70 rfl ?_
        refine aw_get fg_T_22 dT_weighs_71 rfl rfl ?_
        show AN _ _ _ _ _ (.int (J 4) :: _) _
        rw [h1.2.1]
        refine aw_iadd dT_weighs_74 ?_
        refine an_top (show DP (V k) (N k) (K 8) (m + 1) 1 + K 8 = cb (DP (V k) (N k) (K 8) (m + 1)) (K 8) 2 1 from rfl) ?_
        refine si7_6 dT_weighs_75 (by decide) ?_
        refine g_T_w77 ?_
        rw [if_pos (cb_far hv hp)]
        refine ic7_5 (w := 2) dT_weighs_88 (by decide) (by decide) ?_
        refine aw_goto (tgt := 41) dT_weighs_91 (by decide) ?_
        refine aw_iload dT_weighs_41 rfl ?_
        refine aw_iconst (v := 4) dT_weighs_43 (by decide) ?_
        refine aw_icmp_ge (tgt := 94) dT_weighs_44 (by decide) (fun q => absurd q (by decide)) (fun _ => ?_)
        refine aw_aload_r dT_weighs_47 rfl ?_
        refine aw_get fg_T_32 dT_weighs_48 rfl rfl ?_
        refine aw_iconst (v := 4) dT_weighs_51 (by decide) ?_
        refine aw_iload_n dT_weighs_52 rfl ?_
        refine aw_iconst (v := 1) dT_weighs_53 (by decide) ?_
        refine aw_iadd dT_weighs_54 ?_
        refine an_top (nI_1 m) ?_
        refine aw_imul dT_weighs_55 ?_
        refine aw_iload dT_weighs_56 rfl ?_
        refine aw_iadd dT_weighs_58 ?_
        refine an_ldT dT_weighs_59 at_6 ix4_2 (by omega) (by decide) ?_
        refine an_top (y := DP (V k) (N k) (K 8) (m + 1) 2) (by simp only [up_s, pk_un (show 4 * (m + 1) + 2 ≠ 4 * m + 1 by omega), pk_un (show 4 * (m + 1) + 2 ≠ 4 * m + 2 by omega)]; exact hD (m + 1) (by omega) (by have := w2.1; omega) 2 (by decide) (by decide)) ?_
        refine aw_iload dT_weighs_60 rfl ?_
        refine aw_iload_n dT_weighs_62 rfl ?_
        refine aw_icmp_ne (tgt := 70) dT_weighs_63 (by decide) (fun q => absurd q (by decide)) (fun _ => ?_)
        refine aw_iconst (v := 0) dT_weighs_66 (by decide) ?_
        refine aw_goto (tgt := 74) dT_weighs_67 (by decide) ?_
        refine aw_iadd dT_weighs_74 ?_
        refine an_top (cb_same (DP (V k) (N k) (K 8) (m + 1)) (K 8) 2) ?_
        refine si7_6 dT_weighs_75 (by decide) ?_
        refine g_T_w77 ?_
        refine ic7_5 (w := 3) dT_weighs_88 (by decide) (by decide) ?_
        refine aw_goto (tgt := 41) dT_weighs_91 (by decide) ?_
        refine aw_iload dT_weighs_41 rfl ?_
        refine aw_iconst (v := 4) dT_weighs_43 (by decide) ?_
        refine aw_icmp_ge (tgt := 94) dT_weighs_44 (by decide) (fun q => absurd q (by decide)) (fun _ => ?_)
        refine aw_aload_r dT_weighs_47 rfl ?_
        refine aw_get fg_T_32 dT_weighs_48 rfl rfl ?_
        refine aw_iconst (v := 4) dT_weighs_51 (by decide) ?_
        refine aw_iload_n dT_weighs_52 rfl ?_
        refine aw_iconst (v := 1) dT_weighs_53 (by decide) ?_
        refine aw_iadd dT_weighs_54 ?_
        refine an_top (nI_1 m) ?_
        refine aw_imul dT_weighs_55 ?_
        refine aw_iload dT_weighs_56 rfl ?_
        refine aw_iadd dT_weighs_58 ?_
        refine an_ldT dT_weighs_59 at_6 ix4_3 (by omega) (by decide) ?_
        refine an_top (y := DP (V k) (N k) (K 8) (m + 1) 3) (by simp only [up_s, pk_un (show 4 * (m + 1) + 3 ≠ 4 * m + 1 by omega), pk_un (show 4 * (m + 1) + 3 ≠ 4 * m + 2 by omega)]; exact hD (m + 1) (by omega) (by have := w2.1; omega) 3 (by decide) (by decide)) ?_
        refine aw_iload dT_weighs_60 rfl ?_
        refine aw_iload_n dT_weighs_62 rfl ?_
        refine aw_icmp_ne (tgt := 70) dT_weighs_63 (by decide) (fun _ => ?_) (fun q => absurd q (by decide))
        refine aw_aload_r dT_weighs_70 rfl ?_
        refine aw_get fg_T_22 dT_weighs_71 rfl rfl ?_
        show AN _ _ _ _ _ (.int (J 4) :: _) _
        rw [h1.2.1]
        refine aw_iadd dT_weighs_74 ?_
        refine an_top (show DP (V k) (N k) (K 8) (m + 1) 3 + K 8 = cb (DP (V k) (N k) (K 8) (m + 1)) (K 8) 2 3 from rfl) ?_
        refine si7_6 dT_weighs_75 (by decide) ?_
        refine g_T_w77 ?_
        refine ic7_5 (w := 4) dT_weighs_88 (by decide) (by decide) ?_
        refine aw_goto (tgt := 41) dT_weighs_91 (by decide) ?_
        refine aw_iload dT_weighs_41 rfl ?_
        refine aw_iconst (v := 4) dT_weighs_43 (by decide) ?_
        refine aw_icmp_ge (tgt := 94) dT_weighs_44 (by decide) (fun _ => ?_) (fun q => absurd q (by decide))
        refine aw_aload_r dT_weighs_94 rfl ?_
        refine aw_get fg_T_32 dT_weighs_95 rfl rfl ?_
        refine aw_iconst (v := 4) dT_weighs_98 (by decide) ?_
        refine aw_iload_n dT_weighs_99 rfl ?_
        refine aw_imul dT_weighs_100 ?_
        refine aw_iload_n dT_weighs_101 rfl ?_
        refine aw_iadd dT_weighs_102 ?_
        refine aw_aload_r dT_weighs_103 rfl ?_
        refine aw_iload_n dT_weighs_104 rfl ?_
        refine aw_iload_n dT_weighs_105 rfl ?_
        refine an_callVb cg_T_94 (c_T_isWay N V K _ _ (by exact h1) hk (by omega)) dT_weighs_106 rfl rfl rfl rfl rfl (Nat.le_of_ble_eq_true rfl) (Nat.le_of_ble_eq_true rfl) (fun p106 => ?_) (fun q9 => absurd (w1) q9)
        refine aw_if_eq (tgt := 125) dT_weighs_109 (by decide) (fun q => absurd q (by decide)) (fun _ => ?_)
        refine aw_aload_r dT_weighs_112 rfl ?_
        refine aw_iload_n dT_weighs_113 rfl ?_
        refine aw_iload_n dT_weighs_114 rfl ?_
        refine aw_iload_n dT_weighs_115 rfl ?_
        refine an_callVr cg_T_98 (c_T_wayCost2 N V K _ _ (by exact h1) hk (by have := w1.1; omega)) dT_weighs_116 rfl rfl rfl rfl rfl (Nat.le_of_ble_eq_true rfl) (Nat.le_of_ble_eq_true rfl) ?_
        refine aw_iload dT_weighs_119 rfl ?_
        refine aw_iadd dT_weighs_121 ?_
        refine aw_goto (tgt := 126) dT_weighs_122 (by decide) ?_
        refine an_stT dT_weighs_126 at_6 ix4_2 (by omega) (by decide) ?_
        refine ic7_3 (w := 3) dT_weighs_127 (by decide) (by decide) ?_
        refine aw_goto (tgt := 15) dT_weighs_130 (by decide) ?_
        refine aw_iload_n dT_weighs_15 rfl ?_
        refine aw_iconst (v := 4) dT_weighs_16 (by decide) ?_
        refine aw_icmp_ge (tgt := 133) dT_weighs_17 (by decide) (fun q => absurd q (by decide)) (fun _ => ?_)
        refine aw_iconst (v := 0) dT_weighs_20 (by decide) ?_
        refine si7_4 dT_weighs_21 (by decide) ?_
        refine aw_aload_r dT_weighs_23 rfl ?_
        refine aw_iload_n dT_weighs_24 rfl ?_
        refine aw_iload_n dT_weighs_25 rfl ?_
        refine aw_iconst (v := 1) dT_weighs_26 (by decide) ?_
        refine aw_iadd dT_weighs_27 ?_
        refine an_top (nI_1 m) ?_
        refine an_callVb cg_T_94 (c_T_isWay N V K _ _ (by exact h1) hk (by omega)) dT_weighs_28 rfl rfl rfl rfl rfl (Nat.le_of_ble_eq_true rfl) (Nat.le_of_ble_eq_true rfl) (fun p28 => ?_) (fun q9 => absurd (w2) q9)
        refine aw_if_eq (tgt := 94) dT_weighs_31 (by decide) (fun q => absurd q (by decide)) (fun _ => ?_)
        refine aw_ldc (v := 1000000000) (k_at 677 (by decide +kernel) (by decide +kernel)) dT_weighs_34 ?_
        refine si7_4 dT_weighs_36 (by decide) ?_
        refine aw_iconst (v := 1) dT_weighs_38 (by decide) ?_
        refine si7_5 dT_weighs_39 (by decide) ?_
        refine aw_iload dT_weighs_41 rfl ?_
        refine aw_iconst (v := 4) dT_weighs_43 (by decide) ?_
        refine aw_icmp_ge (tgt := 94) dT_weighs_44 (by decide) (fun q => absurd q (by decide)) (fun _ => ?_)
        refine aw_aload_r dT_weighs_47 rfl ?_
        refine aw_get fg_T_32 dT_weighs_48 rfl rfl ?_
        refine aw_iconst (v := 4) dT_weighs_51 (by decide) ?_
        refine aw_iload_n dT_weighs_52 rfl ?_
        refine aw_iconst (v := 1) dT_weighs_53 (by decide) ?_
        refine aw_iadd dT_weighs_54 ?_
        refine an_top (nI_1 m) ?_
        refine aw_imul dT_weighs_55 ?_
        refine aw_iload dT_weighs_56 rfl ?_
        refine aw_iadd dT_weighs_58 ?_
        refine an_ldT dT_weighs_59 at_6 ix4_1 (by omega) (by decide) ?_
        refine an_top (y := DP (V k) (N k) (K 8) (m + 1) 1) (by simp only [up_s, pk_un (show 4 * (m + 1) + 1 ≠ 4 * m + 1 by omega), pk_un (show 4 * (m + 1) + 1 ≠ 4 * m + 2 by omega)]; exact hD (m + 1) (by omega) (by have := w2.1; omega) 1 (by decide) (by decide)) ?_
        refine aw_iload dT_weighs_60 rfl ?_
        refine aw_iload_n dT_weighs_62 rfl ?_
        refine aw_icmp_ne (tgt := 70) dT_weighs_63 (by decide) (fun _ => ?_) (fun q => absurd q (by decide))
        refine aw_aload_r dT_weighs_70 rfl ?_
        refine aw_get fg_T_22 dT_weighs_71 rfl rfl ?_
        show AN _ _ _ _ _ (.int (J 4) :: _) _
        rw [h1.2.1]
        refine aw_iadd dT_weighs_74 ?_
        refine an_top (show DP (V k) (N k) (K 8) (m + 1) 1 + K 8 = cb (DP (V k) (N k) (K 8) (m + 1)) (K 8) 3 1 from rfl) ?_
        refine si7_6 dT_weighs_75 (by decide) ?_
        refine g_T_w77 ?_
        rw [if_pos (cb_far hv hp)]
        refine ic7_5 (w := 2) dT_weighs_88 (by decide) (by decide) ?_
        refine aw_goto (tgt := 41) dT_weighs_91 (by decide) ?_
        refine aw_iload dT_weighs_41 rfl ?_
        refine aw_iconst (v := 4) dT_weighs_43 (by decide) ?_
        refine aw_icmp_ge (tgt := 94) dT_weighs_44 (by decide) (fun q => absurd q (by decide)) (fun _ => ?_)
        refine aw_aload_r dT_weighs_47 rfl ?_
        refine aw_get fg_T_32 dT_weighs_48 rfl rfl ?_
        refine aw_iconst (v := 4) dT_weighs_51 (by decide) ?_
        refine aw_iload_n dT_weighs_52 rfl ?_
        refine aw_iconst (v := 1) dT_weighs_53 (by decide) ?_
        refine aw_iadd dT_weighs_54 ?_
        refine an_top (nI_1 m) ?_
        refine aw_imul dT_weighs_55 ?_
        refine aw_iload dT_weighs_56 rfl ?_
        refine aw_iadd dT_weighs_58 ?_
        refine an_ldT dT_weighs_59 at_6 ix4_2 (by omega) (by decide) ?_
        refine an_top (y := DP (V k) (N k) (K 8) (m + 1) 2) (by simp only [up_s, pk_un (show 4 * (m + 1) + 2 ≠ 4 * m + 1 by omega), pk_un (show 4 * (m + 1) + 2 ≠ 4 * m + 2 by omega)]; exact hD (m + 1) (by omega) (by have := w2.1; omega) 2 (by decide) (by decide)) ?_
        refine aw_iload dT_weighs_60 rfl ?_
        refine aw_iload_n dT_weighs_62 rfl ?_
        refine aw_icmp_ne (tgt := 70) dT_weighs_63 (by decide) (fun _ => ?_) (fun q => absurd q (by decide))
        refine aw_aload_r dT_weighs_70 rfl ?_
        refine aw_get fg_T_22 dT_weighs_71 rfl rfl ?_
        show AN _ _ _ _ _ (.int (J 4) :: _) _
        rw [h1.2.1]
        refine aw_iadd dT_weighs_74 ?_
        refine an_top (show DP (V k) (N k) (K 8) (m + 1) 2 + K 8 = cb (DP (V k) (N k) (K 8) (m + 1)) (K 8) 3 2 from rfl) ?_
        refine si7_6 dT_weighs_75 (by decide) ?_
        refine g_T_w77 ?_
        refine ic7_5 (w := 3) dT_weighs_88 (by decide) (by decide) ?_
        refine aw_goto (tgt := 41) dT_weighs_91 (by decide) ?_
        refine aw_iload dT_weighs_41 rfl ?_
        refine aw_iconst (v := 4) dT_weighs_43 (by decide) ?_
        refine aw_icmp_ge (tgt := 94) dT_weighs_44 (by decide) (fun q => absurd q (by decide)) (fun _ => ?_)
        refine aw_aload_r dT_weighs_47 rfl ?_
        refine aw_get fg_T_32 dT_weighs_48 rfl rfl ?_
        refine aw_iconst (v := 4) dT_weighs_51 (by decide) ?_
        refine aw_iload_n dT_weighs_52 rfl ?_
        refine aw_iconst (v := 1) dT_weighs_53 (by decide) ?_
        refine aw_iadd dT_weighs_54 ?_
        refine an_top (nI_1 m) ?_
        refine aw_imul dT_weighs_55 ?_
        refine aw_iload dT_weighs_56 rfl ?_
        refine aw_iadd dT_weighs_58 ?_
        refine an_ldT dT_weighs_59 at_6 ix4_3 (by omega) (by decide) ?_
        refine an_top (y := DP (V k) (N k) (K 8) (m + 1) 3) (by simp only [up_s, pk_un (show 4 * (m + 1) + 3 ≠ 4 * m + 1 by omega), pk_un (show 4 * (m + 1) + 3 ≠ 4 * m + 2 by omega)]; exact hD (m + 1) (by omega) (by have := w2.1; omega) 3 (by decide) (by decide)) ?_
        refine aw_iload dT_weighs_60 rfl ?_
        refine aw_iload_n dT_weighs_62 rfl ?_
        refine aw_icmp_ne (tgt := 70) dT_weighs_63 (by decide) (fun q => absurd q (by decide)) (fun _ => ?_)
        refine aw_iconst (v := 0) dT_weighs_66 (by decide) ?_
        refine aw_goto (tgt := 74) dT_weighs_67 (by decide) ?_
        refine aw_iadd dT_weighs_74 ?_
        refine an_top (cb_same (DP (V k) (N k) (K 8) (m + 1)) (K 8) 3) ?_
        refine si7_6 dT_weighs_75 (by decide) ?_
        refine g_T_w77 ?_
        refine ic7_5 (w := 4) dT_weighs_88 (by decide) (by decide) ?_
        refine aw_goto (tgt := 41) dT_weighs_91 (by decide) ?_
        refine aw_iload dT_weighs_41 rfl ?_
        refine aw_iconst (v := 4) dT_weighs_43 (by decide) ?_
        refine aw_icmp_ge (tgt := 94) dT_weighs_44 (by decide) (fun _ => ?_) (fun q => absurd q (by decide))
        refine aw_aload_r dT_weighs_94 rfl ?_
        refine aw_get fg_T_32 dT_weighs_95 rfl rfl ?_
        refine aw_iconst (v := 4) dT_weighs_98 (by decide) ?_
        refine aw_iload_n dT_weighs_99 rfl ?_
        refine aw_imul dT_weighs_100 ?_
        refine aw_iload_n dT_weighs_101 rfl ?_
        refine aw_iadd dT_weighs_102 ?_
        refine aw_aload_r dT_weighs_103 rfl ?_
        refine aw_iload_n dT_weighs_104 rfl ?_
        refine aw_iload_n dT_weighs_105 rfl ?_
        refine an_callVb cg_T_94 (c_T_isWay N V K _ _ (by exact h1) hk (by omega)) dT_weighs_106 rfl rfl rfl rfl rfl (Nat.le_of_ble_eq_true rfl) (Nat.le_of_ble_eq_true rfl) (fun p106 => ?_) (fun q9 => absurd (w1) q9)
        refine aw_if_eq (tgt := 125) dT_weighs_109 (by decide) (fun q => absurd q (by decide)) (fun _ => ?_)
        refine aw_aload_r dT_weighs_112 rfl ?_
        refine aw_iload_n dT_weighs_113 rfl ?_
        refine aw_iload_n dT_weighs_114 rfl ?_
        refine aw_iload_n dT_weighs_115 rfl ?_
        refine an_callVr cg_T_98 (c_T_wayCost3 N V K _ _ (by exact h1) hk (by have := w1.1; omega)) dT_weighs_116 rfl rfl rfl rfl rfl (Nat.le_of_ble_eq_true rfl) (Nat.le_of_ble_eq_true rfl) ?_
        refine aw_iload dT_weighs_119 rfl ?_
        refine aw_iadd dT_weighs_121 ?_
        refine aw_goto (tgt := 126) dT_weighs_122 (by decide) ?_
        refine an_stT dT_weighs_126 at_6 ix4_3 (by omega) (by decide) ?_
        refine ic7_3 (w := 4) dT_weighs_127 (by decide) (by decide) ?_
        refine aw_goto (tgt := 15) dT_weighs_130 (by decide) ?_
        refine aw_iload_n dT_weighs_15 rfl ?_
        refine aw_iconst (v := 4) dT_weighs_16 (by decide) ?_
        refine aw_icmp_ge (tgt := 133) dT_weighs_17 (by decide) (fun _ => ?_) (fun q => absurd q (by decide))
        refine ic7_2 dT_weighs_133 (show nI m + Int32.ofInt (-1) = nI m - 1 by rw [Int32.sub_eq_add_neg]; rfl) (by decide) ?_
        refine aw_goto (tgt := 9) dT_weighs_136 (by decide) ?_
        exact an_weak (ih _ (by omega) (by exact h1) (tbl_step hD (by rw [DP_eq (by omega), if_pos w1, if_pos w2]; rfl) (by rw [DP_eq (by omega), if_pos w1, if_pos w2]; rfl) (by rw [DP_eq (by omega), if_pos w1, if_pos w2]; rfl))) ⟨rfl, rfl, rfl, trivial⟩
      · refine aw_iload_n dT_weighs_9 rfl ?_
        refine aw_if_lt (tgt := 139) dT_weighs_10 (by decide) (fun c10 => absurd c10 (nI_pos (by omega))) (fun c10 => ?_)
        refine aw_iconst (v := 1) dT_weighs_13 (by decide) ?_
        refine si7_3 dT_weighs_14 (by decide) ?_
        refine aw_iload_n dT_weighs_15 rfl ?_
        refine aw_iconst (v := 4) dT_weighs_16 (by decide) ?_
        refine aw_icmp_ge (tgt := 133) dT_weighs_17 (by decide) (fun q => absurd q (by decide)) (fun _ => ?_)
        refine aw_iconst (v := 0) dT_weighs_20 (by decide) ?_
        refine si7_4 dT_weighs_21 (by decide) ?_
        refine aw_aload_r dT_weighs_23 rfl ?_
        refine aw_iload_n dT_weighs_24 rfl ?_
        refine aw_iload_n dT_weighs_25 rfl ?_
        refine aw_iconst (v := 1) dT_weighs_26 (by decide) ?_
        refine aw_iadd dT_weighs_27 ?_
        refine an_top (nI_1 m) ?_
        refine an_callVb cg_T_94 (c_T_isWay N V K _ _ (by exact h1) hk (by omega)) dT_weighs_28 rfl rfl rfl rfl rfl (Nat.le_of_ble_eq_true rfl) (Nat.le_of_ble_eq_true rfl) (fun q9 => absurd q9 (w2)) (fun p28 => ?_)
        refine aw_if_eq (tgt := 94) dT_weighs_31 (by decide) (fun _ => ?_) (fun q => absurd q (by decide))
        refine aw_aload_r dT_weighs_94 rfl ?_
        refine aw_get fg_T_32 dT_weighs_95 rfl rfl ?_
        refine aw_iconst (v := 4) dT_weighs_98 (by decide) ?_
        refine aw_iload_n dT_weighs_99 rfl ?_
        refine aw_imul dT_weighs_100 ?_
        refine aw_iload_n dT_weighs_101 rfl ?_
        refine aw_iadd dT_weighs_102 ?_
        refine aw_aload_r dT_weighs_103 rfl ?_
        refine aw_iload_n dT_weighs_104 rfl ?_
        refine aw_iload_n dT_weighs_105 rfl ?_
        refine an_callVb cg_T_94 (c_T_isWay N V K _ _ (by exact h1) hk (by omega)) dT_weighs_106 rfl rfl rfl rfl rfl (Nat.le_of_ble_eq_true rfl) (Nat.le_of_ble_eq_true rfl) (fun p106 => ?_) (fun q9 => absurd (w1) q9)
        refine aw_if_eq (tgt := 125) dT_weighs_109 (by decide) (fun q => absurd q (by decide)) (fun _ => ?_)
        refine aw_aload_r dT_weighs_112 rfl ?_
        refine aw_iload_n dT_weighs_113 rfl ?_
        refine aw_iload_n dT_weighs_114 rfl ?_
        refine aw_iload_n dT_weighs_115 rfl ?_
        refine an_callVr cg_T_98 (c_T_wayCost1 N V K _ _ (by exact h1) hk (by have := w1.1; omega)) dT_weighs_116 rfl rfl rfl rfl rfl (Nat.le_of_ble_eq_true rfl) (Nat.le_of_ble_eq_true rfl) ?_
        refine aw_iload dT_weighs_119 rfl ?_
        refine aw_iadd dT_weighs_121 ?_
        refine aw_goto (tgt := 126) dT_weighs_122 (by decide) ?_
        refine an_stT dT_weighs_126 at_6 ix4_1 (by omega) (by decide) ?_
        refine ic7_3 (w := 2) dT_weighs_127 (by decide) (by decide) ?_
        refine aw_goto (tgt := 15) dT_weighs_130 (by decide) ?_
        refine aw_iload_n dT_weighs_15 rfl ?_
        refine aw_iconst (v := 4) dT_weighs_16 (by decide) ?_
        refine aw_icmp_ge (tgt := 133) dT_weighs_17 (by decide) (fun q => absurd q (by decide)) (fun _ => ?_)
        refine aw_iconst (v := 0) dT_weighs_20 (by decide) ?_
        refine si7_4 dT_weighs_21 (by decide) ?_
        refine aw_aload_r dT_weighs_23 rfl ?_
        refine aw_iload_n dT_weighs_24 rfl ?_
        refine aw_iload_n dT_weighs_25 rfl ?_
        refine aw_iconst (v := 1) dT_weighs_26 (by decide) ?_
        refine aw_iadd dT_weighs_27 ?_
        refine an_top (nI_1 m) ?_
        refine an_callVb cg_T_94 (c_T_isWay N V K _ _ (by exact h1) hk (by omega)) dT_weighs_28 rfl rfl rfl rfl rfl (Nat.le_of_ble_eq_true rfl) (Nat.le_of_ble_eq_true rfl) (fun q9 => absurd q9 (w2)) (fun p28 => ?_)
        refine aw_if_eq (tgt := 94) dT_weighs_31 (by decide) (fun _ => ?_) (fun q => absurd q (by decide))
        refine aw_aload_r dT_weighs_94 rfl ?_
        refine aw_get fg_T_32 dT_weighs_95 rfl rfl ?_
        refine aw_iconst (v := 4) dT_weighs_98 (by decide) ?_
        refine aw_iload_n dT_weighs_99 rfl ?_
        refine aw_imul dT_weighs_100 ?_
        refine aw_iload_n dT_weighs_101 rfl ?_
        refine aw_iadd dT_weighs_102 ?_
        refine aw_aload_r dT_weighs_103 rfl ?_
        refine aw_iload_n dT_weighs_104 rfl ?_
        refine aw_iload_n dT_weighs_105 rfl ?_
        refine an_callVb cg_T_94 (c_T_isWay N V K _ _ (by exact h1) hk (by omega)) dT_weighs_106 rfl rfl rfl rfl rfl (Nat.le_of_ble_eq_true rfl) (Nat.le_of_ble_eq_true rfl) (fun p106 => ?_) (fun q9 => absurd (w1) q9)
        refine aw_if_eq (tgt := 125) dT_weighs_109 (by decide) (fun q => absurd q (by decide)) (fun _ => ?_)
        refine aw_aload_r dT_weighs_112 rfl ?_
        refine aw_iload_n dT_weighs_113 rfl ?_
        refine aw_iload_n dT_weighs_114 rfl ?_
        refine aw_iload_n dT_weighs_115 rfl ?_
        refine an_callVr cg_T_98 (c_T_wayCost2 N V K _ _ (by exact h1) hk (by have := w1.1; omega)) dT_weighs_116 rfl rfl rfl rfl rfl (Nat.le_of_ble_eq_true rfl) (Nat.le_of_ble_eq_true rfl) ?_
        refine aw_iload dT_weighs_119 rfl ?_
        refine aw_iadd dT_weighs_121 ?_
        refine aw_goto (tgt := 126) dT_weighs_122 (by decide) ?_
        refine an_stT dT_weighs_126 at_6 ix4_2 (by omega) (by decide) ?_
        refine ic7_3 (w := 3) dT_weighs_127 (by decide) (by decide) ?_
        refine aw_goto (tgt := 15) dT_weighs_130 (by decide) ?_
        refine aw_iload_n dT_weighs_15 rfl ?_
        refine aw_iconst (v := 4) dT_weighs_16 (by decide) ?_
        refine aw_icmp_ge (tgt := 133) dT_weighs_17 (by decide) (fun q => absurd q (by decide)) (fun _ => ?_)
        refine aw_iconst (v := 0) dT_weighs_20 (by decide) ?_
        refine si7_4 dT_weighs_21 (by decide) ?_
        refine aw_aload_r dT_weighs_23 rfl ?_
        refine aw_iload_n dT_weighs_24 rfl ?_
        refine aw_iload_n dT_weighs_25 rfl ?_
        refine aw_iconst (v := 1) dT_weighs_26 (by decide) ?_
        refine aw_iadd dT_weighs_27 ?_
        refine an_top (nI_1 m) ?_
        refine an_callVb cg_T_94 (c_T_isWay N V K _ _ (by exact h1) hk (by omega)) dT_weighs_28 rfl rfl rfl rfl rfl (Nat.le_of_ble_eq_true rfl) (Nat.le_of_ble_eq_true rfl) (fun q9 => absurd q9 (w2)) (fun p28 => ?_)
        refine aw_if_eq (tgt := 94) dT_weighs_31 (by decide) (fun _ => ?_) (fun q => absurd q (by decide))
        refine aw_aload_r dT_weighs_94 rfl ?_
        refine aw_get fg_T_32 dT_weighs_95 rfl rfl ?_
        refine aw_iconst (v := 4) dT_weighs_98 (by decide) ?_
        refine aw_iload_n dT_weighs_99 rfl ?_
        refine aw_imul dT_weighs_100 ?_
        refine aw_iload_n dT_weighs_101 rfl ?_
        refine aw_iadd dT_weighs_102 ?_
        refine aw_aload_r dT_weighs_103 rfl ?_
        refine aw_iload_n dT_weighs_104 rfl ?_
        refine aw_iload_n dT_weighs_105 rfl ?_
        refine an_callVb cg_T_94 (c_T_isWay N V K _ _ (by exact h1) hk (by omega)) dT_weighs_106 rfl rfl rfl rfl rfl (Nat.le_of_ble_eq_true rfl) (Nat.le_of_ble_eq_true rfl) (fun p106 => ?_) (fun q9 => absurd (w1) q9)
        refine aw_if_eq (tgt := 125) dT_weighs_109 (by decide) (fun q => absurd q (by decide)) (fun _ => ?_)
        refine aw_aload_r dT_weighs_112 rfl ?_
        refine aw_iload_n dT_weighs_113 rfl ?_
        refine aw_iload_n dT_weighs_114 rfl ?_
        refine aw_iload_n dT_weighs_115 rfl ?_
        refine an_callVr cg_T_98 (c_T_wayCost3 N V K _ _ (by exact h1) hk (by have := w1.1; omega)) dT_weighs_116 rfl rfl rfl rfl rfl (Nat.le_of_ble_eq_true rfl) (Nat.le_of_ble_eq_true rfl) ?_
        refine aw_iload dT_weighs_119 rfl ?_
        refine aw_iadd dT_weighs_121 ?_
        refine aw_goto (tgt := 126) dT_weighs_122 (by decide) ?_
        refine an_stT dT_weighs_126 at_6 ix4_3 (by omega) (by decide) ?_
        refine ic7_3 (w := 4) dT_weighs_127 (by decide) (by decide) ?_
        refine aw_goto (tgt := 15) dT_weighs_130 (by decide) ?_
        refine aw_iload_n dT_weighs_15 rfl ?_
        refine aw_iconst (v := 4) dT_weighs_16 (by decide) ?_
        refine aw_icmp_ge (tgt := 133) dT_weighs_17 (by decide) (fun _ => ?_) (fun q => absurd q (by decide))
        refine ic7_2 dT_weighs_133 (show nI m + Int32.ofInt (-1) = nI m - 1 by rw [Int32.sub_eq_add_neg]; rfl) (by decide) ?_
        refine aw_goto (tgt := 9) dT_weighs_136 (by decide) ?_
        exact an_weak (ih _ (by omega) (by exact h1) (tbl_step hD (by rw [DP_eq (by omega), if_pos w1, if_neg w2]) (by rw [DP_eq (by omega), if_pos w1, if_neg w2]) (by rw [DP_eq (by omega), if_pos w1, if_neg w2]))) ⟨rfl, rfl, rfl, trivial⟩
    · by_cases w2 : wy (V k) (N k) (m + 1)
      · refine aw_iload_n dT_weighs_9 rfl ?_
        refine aw_if_lt (tgt := 139) dT_weighs_10 (by decide) (fun c10 => absurd c10 (nI_pos (by omega))) (fun c10 => ?_)
        refine aw_iconst (v := 1) dT_weighs_13 (by decide) ?_
        refine si7_3 dT_weighs_14 (by decide) ?_
        refine aw_iload_n dT_weighs_15 rfl ?_
        refine aw_iconst (v := 4) dT_weighs_16 (by decide) ?_
        refine aw_icmp_ge (tgt := 133) dT_weighs_17 (by decide) (fun q => absurd q (by decide)) (fun _ => ?_)
        refine aw_iconst (v := 0) dT_weighs_20 (by decide) ?_
        refine si7_4 dT_weighs_21 (by decide) ?_
        refine aw_aload_r dT_weighs_23 rfl ?_
        refine aw_iload_n dT_weighs_24 rfl ?_
        refine aw_iload_n dT_weighs_25 rfl ?_
        refine aw_iconst (v := 1) dT_weighs_26 (by decide) ?_
        refine aw_iadd dT_weighs_27 ?_
        refine an_top (nI_1 m) ?_
        refine an_callVb cg_T_94 (c_T_isWay N V K _ _ (by exact h1) hk (by omega)) dT_weighs_28 rfl rfl rfl rfl rfl (Nat.le_of_ble_eq_true rfl) (Nat.le_of_ble_eq_true rfl) (fun p28 => ?_) (fun q9 => absurd (w2) q9)
        refine aw_if_eq (tgt := 94) dT_weighs_31 (by decide) (fun q => absurd q (by decide)) (fun _ => ?_)
        refine aw_ldc (v := 1000000000) (k_at 677 (by decide +kernel) (by decide +kernel)) dT_weighs_34 ?_
        refine si7_4 dT_weighs_36 (by decide) ?_
        refine aw_iconst (v := 1) dT_weighs_38 (by decide) ?_
        refine si7_5 dT_weighs_39 (by decide) ?_
        refine aw_iload dT_weighs_41 rfl ?_
        refine aw_iconst (v := 4) dT_weighs_43 (by decide) ?_
        refine aw_icmp_ge (tgt := 94) dT_weighs_44 (by decide) (fun q => absurd q (by decide)) (fun _ => ?_)
        refine aw_aload_r dT_weighs_47 rfl ?_
        refine aw_get fg_T_32 dT_weighs_48 rfl rfl ?_
        refine aw_iconst (v := 4) dT_weighs_51 (by decide) ?_
        refine aw_iload_n dT_weighs_52 rfl ?_
        refine aw_iconst (v := 1) dT_weighs_53 (by decide) ?_
        refine aw_iadd dT_weighs_54 ?_
        refine an_top (nI_1 m) ?_
        refine aw_imul dT_weighs_55 ?_
        refine aw_iload dT_weighs_56 rfl ?_
        refine aw_iadd dT_weighs_58 ?_
        refine an_ldT dT_weighs_59 at_6 ix4_1 (by omega) (by decide) ?_
        refine an_top (y := DP (V k) (N k) (K 8) (m + 1) 1) (hD (m + 1) (by omega) (by have := w2.1; omega) 1 (by decide) (by decide)) ?_
        refine aw_iload dT_weighs_60 rfl ?_
        refine aw_iload_n dT_weighs_62 rfl ?_
        refine aw_icmp_ne (tgt := 70) dT_weighs_63 (by decide) (fun q => absurd q (by decide)) (fun _ => ?_)
        refine aw_iconst (v := 0) dT_weighs_66 (by decide) ?_
        refine aw_goto (tgt := 74) dT_weighs_67 (by decide) ?_
        refine aw_iadd dT_weighs_74 ?_
        refine an_top (cb_same (DP (V k) (N k) (K 8) (m + 1)) (K 8) 1) ?_
        refine si7_6 dT_weighs_75 (by decide) ?_
        refine g_T_w77 ?_
        rw [if_pos (cb_far hv hp)]
        refine ic7_5 (w := 2) dT_weighs_88 (by decide) (by decide) ?_
        refine aw_goto (tgt := 41) dT_weighs_91 (by decide) ?_
        refine aw_iload dT_weighs_41 rfl ?_
        refine aw_iconst (v := 4) dT_weighs_43 (by decide) ?_
        refine aw_icmp_ge (tgt := 94) dT_weighs_44 (by decide) (fun q => absurd q (by decide)) (fun _ => ?_)
        refine aw_aload_r dT_weighs_47 rfl ?_
        refine aw_get fg_T_32 dT_weighs_48 rfl rfl ?_
        refine aw_iconst (v := 4) dT_weighs_51 (by decide) ?_
        refine aw_iload_n dT_weighs_52 rfl ?_
        refine aw_iconst (v := 1) dT_weighs_53 (by decide) ?_
        refine aw_iadd dT_weighs_54 ?_
        refine an_top (nI_1 m) ?_
        refine aw_imul dT_weighs_55 ?_
        refine aw_iload dT_weighs_56 rfl ?_
        refine aw_iadd dT_weighs_58 ?_
        refine an_ldT dT_weighs_59 at_6 ix4_2 (by omega) (by decide) ?_
        refine an_top (y := DP (V k) (N k) (K 8) (m + 1) 2) (hD (m + 1) (by omega) (by have := w2.1; omega) 2 (by decide) (by decide)) ?_
        refine aw_iload dT_weighs_60 rfl ?_
        refine aw_iload_n dT_weighs_62 rfl ?_
        refine aw_icmp_ne (tgt := 70) dT_weighs_63 (by decide) (fun _ => ?_) (fun q => absurd q (by decide))
        refine aw_aload_r dT_weighs_70 rfl ?_
        refine aw_get fg_T_22 dT_weighs_71 rfl rfl ?_
        show AN _ _ _ _ _ (.int (J 4) :: _) _
        rw [h1.2.1]
        refine aw_iadd dT_weighs_74 ?_
        refine an_top (show DP (V k) (N k) (K 8) (m + 1) 2 + K 8 = cb (DP (V k) (N k) (K 8) (m + 1)) (K 8) 1 2 from rfl) ?_
        refine si7_6 dT_weighs_75 (by decide) ?_
        refine g_T_w77 ?_
        refine ic7_5 (w := 3) dT_weighs_88 (by decide) (by decide) ?_
        refine aw_goto (tgt := 41) dT_weighs_91 (by decide) ?_
        refine aw_iload dT_weighs_41 rfl ?_
        refine aw_iconst (v := 4) dT_weighs_43 (by decide) ?_
        refine aw_icmp_ge (tgt := 94) dT_weighs_44 (by decide) (fun q => absurd q (by decide)) (fun _ => ?_)
        refine aw_aload_r dT_weighs_47 rfl ?_
        refine aw_get fg_T_32 dT_weighs_48 rfl rfl ?_
        refine aw_iconst (v := 4) dT_weighs_51 (by decide) ?_
        refine aw_iload_n dT_weighs_52 rfl ?_
        refine aw_iconst (v := 1) dT_weighs_53 (by decide) ?_
        refine aw_iadd dT_weighs_54 ?_
        refine an_top (nI_1 m) ?_
        refine aw_imul dT_weighs_55 ?_
        refine aw_iload dT_weighs_56 rfl ?_
        refine aw_iadd dT_weighs_58 ?_
        refine an_ldT dT_weighs_59 at_6 ix4_3 (by omega) (by decide) ?_
        refine an_top (y := DP (V k) (N k) (K 8) (m + 1) 3) (hD (m + 1) (by omega) (by have := w2.1; omega) 3 (by decide) (by decide)) ?_
        refine aw_iload dT_weighs_60 rfl ?_
        refine aw_iload_n dT_weighs_62 rfl ?_
        refine aw_icmp_ne (tgt := 70) dT_weighs_63 (by decide) (fun _ => ?_) (fun q => absurd q (by decide))
        refine aw_aload_r dT_weighs_70 rfl ?_
        refine aw_get fg_T_22 dT_weighs_71 rfl rfl ?_
        show AN _ _ _ _ _ (.int (J 4) :: _) _
        rw [h1.2.1]
        refine aw_iadd dT_weighs_74 ?_
        refine an_top (show DP (V k) (N k) (K 8) (m + 1) 3 + K 8 = cb (DP (V k) (N k) (K 8) (m + 1)) (K 8) 1 3 from rfl) ?_
        refine si7_6 dT_weighs_75 (by decide) ?_
        refine g_T_w77 ?_
        refine ic7_5 (w := 4) dT_weighs_88 (by decide) (by decide) ?_
        refine aw_goto (tgt := 41) dT_weighs_91 (by decide) ?_
        refine aw_iload dT_weighs_41 rfl ?_
        refine aw_iconst (v := 4) dT_weighs_43 (by decide) ?_
        refine aw_icmp_ge (tgt := 94) dT_weighs_44 (by decide) (fun _ => ?_) (fun q => absurd q (by decide))
        refine aw_aload_r dT_weighs_94 rfl ?_
        refine aw_get fg_T_32 dT_weighs_95 rfl rfl ?_
        refine aw_iconst (v := 4) dT_weighs_98 (by decide) ?_
        refine aw_iload_n dT_weighs_99 rfl ?_
        refine aw_imul dT_weighs_100 ?_
        refine aw_iload_n dT_weighs_101 rfl ?_
        refine aw_iadd dT_weighs_102 ?_
        refine aw_aload_r dT_weighs_103 rfl ?_
        refine aw_iload_n dT_weighs_104 rfl ?_
        refine aw_iload_n dT_weighs_105 rfl ?_
        refine an_callVb cg_T_94 (c_T_isWay N V K _ _ (by exact h1) hk (by omega)) dT_weighs_106 rfl rfl rfl rfl rfl (Nat.le_of_ble_eq_true rfl) (Nat.le_of_ble_eq_true rfl) (fun q9 => absurd q9 (w1)) (fun p106 => ?_)
        refine aw_if_eq (tgt := 125) dT_weighs_109 (by decide) (fun _ => ?_) (fun q => absurd q (by decide))
        refine aw_iconst (v := 0) dT_weighs_125 (by decide) ?_
        refine an_stT dT_weighs_126 at_6 ix4_1 (by omega) (by decide) ?_
        refine ic7_3 (w := 2) dT_weighs_127 (by decide) (by decide) ?_
        refine aw_goto (tgt := 15) dT_weighs_130 (by decide) ?_
        refine aw_iload_n dT_weighs_15 rfl ?_
        refine aw_iconst (v := 4) dT_weighs_16 (by decide) ?_
        refine aw_icmp_ge (tgt := 133) dT_weighs_17 (by decide) (fun q => absurd q (by decide)) (fun _ => ?_)
        refine aw_iconst (v := 0) dT_weighs_20 (by decide) ?_
        refine si7_4 dT_weighs_21 (by decide) ?_
        refine aw_aload_r dT_weighs_23 rfl ?_
        refine aw_iload_n dT_weighs_24 rfl ?_
        refine aw_iload_n dT_weighs_25 rfl ?_
        refine aw_iconst (v := 1) dT_weighs_26 (by decide) ?_
        refine aw_iadd dT_weighs_27 ?_
        refine an_top (nI_1 m) ?_
        refine an_callVb cg_T_94 (c_T_isWay N V K _ _ (by exact h1) hk (by omega)) dT_weighs_28 rfl rfl rfl rfl rfl (Nat.le_of_ble_eq_true rfl) (Nat.le_of_ble_eq_true rfl) (fun p28 => ?_) (fun q9 => absurd (w2) q9)
        refine aw_if_eq (tgt := 94) dT_weighs_31 (by decide) (fun q => absurd q (by decide)) (fun _ => ?_)
        refine aw_ldc (v := 1000000000) (k_at 677 (by decide +kernel) (by decide +kernel)) dT_weighs_34 ?_
        refine si7_4 dT_weighs_36 (by decide) ?_
        refine aw_iconst (v := 1) dT_weighs_38 (by decide) ?_
        refine si7_5 dT_weighs_39 (by decide) ?_
        refine aw_iload dT_weighs_41 rfl ?_
        refine aw_iconst (v := 4) dT_weighs_43 (by decide) ?_
        refine aw_icmp_ge (tgt := 94) dT_weighs_44 (by decide) (fun q => absurd q (by decide)) (fun _ => ?_)
        refine aw_aload_r dT_weighs_47 rfl ?_
        refine aw_get fg_T_32 dT_weighs_48 rfl rfl ?_
        refine aw_iconst (v := 4) dT_weighs_51 (by decide) ?_
        refine aw_iload_n dT_weighs_52 rfl ?_
        refine aw_iconst (v := 1) dT_weighs_53 (by decide) ?_
        refine aw_iadd dT_weighs_54 ?_
        refine an_top (nI_1 m) ?_
        refine aw_imul dT_weighs_55 ?_
        refine aw_iload dT_weighs_56 rfl ?_
        refine aw_iadd dT_weighs_58 ?_
        refine an_ldT dT_weighs_59 at_6 ix4_1 (by omega) (by decide) ?_
        refine an_top (y := DP (V k) (N k) (K 8) (m + 1) 1) (by simp only [up_s, pk_un (show 4 * (m + 1) + 1 ≠ 4 * m + 1 by omega), pk_un (show 4 * (m + 1) + 1 ≠ 4 * m + 2 by omega)]; exact hD (m + 1) (by omega) (by have := w2.1; omega) 1 (by decide) (by decide)) ?_
        refine aw_iload dT_weighs_60 rfl ?_
        refine aw_iload_n dT_weighs_62 rfl ?_
        refine aw_icmp_ne (tgt := 70) dT_weighs_63 (by decide) (fun _ => ?_) (fun q => absurd q (by decide))
        refine aw_aload_r dT_weighs_70 rfl ?_
        refine aw_get fg_T_22 dT_weighs_71 rfl rfl ?_
        show AN _ _ _ _ _ (.int (J 4) :: _) _
        rw [h1.2.1]
        refine aw_iadd dT_weighs_74 ?_
        refine an_top (show DP (V k) (N k) (K 8) (m + 1) 1 + K 8 = cb (DP (V k) (N k) (K 8) (m + 1)) (K 8) 2 1 from rfl) ?_
        refine si7_6 dT_weighs_75 (by decide) ?_
        refine g_T_w77 ?_
        rw [if_pos (cb_far hv hp)]
        refine ic7_5 (w := 2) dT_weighs_88 (by decide) (by decide) ?_
        refine aw_goto (tgt := 41) dT_weighs_91 (by decide) ?_
        refine aw_iload dT_weighs_41 rfl ?_
        refine aw_iconst (v := 4) dT_weighs_43 (by decide) ?_
        refine aw_icmp_ge (tgt := 94) dT_weighs_44 (by decide) (fun q => absurd q (by decide)) (fun _ => ?_)
        refine aw_aload_r dT_weighs_47 rfl ?_
        refine aw_get fg_T_32 dT_weighs_48 rfl rfl ?_
        refine aw_iconst (v := 4) dT_weighs_51 (by decide) ?_
        refine aw_iload_n dT_weighs_52 rfl ?_
        refine aw_iconst (v := 1) dT_weighs_53 (by decide) ?_
        refine aw_iadd dT_weighs_54 ?_
        refine an_top (nI_1 m) ?_
        refine aw_imul dT_weighs_55 ?_
        refine aw_iload dT_weighs_56 rfl ?_
        refine aw_iadd dT_weighs_58 ?_
        refine an_ldT dT_weighs_59 at_6 ix4_2 (by omega) (by decide) ?_
        refine an_top (y := DP (V k) (N k) (K 8) (m + 1) 2) (by simp only [up_s, pk_un (show 4 * (m + 1) + 2 ≠ 4 * m + 1 by omega), pk_un (show 4 * (m + 1) + 2 ≠ 4 * m + 2 by omega)]; exact hD (m + 1) (by omega) (by have := w2.1; omega) 2 (by decide) (by decide)) ?_
        refine aw_iload dT_weighs_60 rfl ?_
        refine aw_iload_n dT_weighs_62 rfl ?_
        refine aw_icmp_ne (tgt := 70) dT_weighs_63 (by decide) (fun q => absurd q (by decide)) (fun _ => ?_)
        refine aw_iconst (v := 0) dT_weighs_66 (by decide) ?_
        refine aw_goto (tgt := 74) dT_weighs_67 (by decide) ?_
        refine aw_iadd dT_weighs_74 ?_
        refine an_top (cb_same (DP (V k) (N k) (K 8) (m + 1)) (K 8) 2) ?_
        refine si7_6 dT_weighs_75 (by decide) ?_
        refine g_T_w77 ?_
        refine ic7_5 (w := 3) dT_weighs_88 (by decide) (by decide) ?_
        refine aw_goto (tgt := 41) dT_weighs_91 (by decide) ?_
        refine aw_iload dT_weighs_41 rfl ?_
        refine aw_iconst (v := 4) dT_weighs_43 (by decide) ?_
        refine aw_icmp_ge (tgt := 94) dT_weighs_44 (by decide) (fun q => absurd q (by decide)) (fun _ => ?_)
        refine aw_aload_r dT_weighs_47 rfl ?_
        refine aw_get fg_T_32 dT_weighs_48 rfl rfl ?_
        refine aw_iconst (v := 4) dT_weighs_51 (by decide) ?_
        refine aw_iload_n dT_weighs_52 rfl ?_
        refine aw_iconst (v := 1) dT_weighs_53 (by decide) ?_
        refine aw_iadd dT_weighs_54 ?_
        refine an_top (nI_1 m) ?_
        refine aw_imul dT_weighs_55 ?_
        refine aw_iload dT_weighs_56 rfl ?_
        refine aw_iadd dT_weighs_58 ?_
        refine an_ldT dT_weighs_59 at_6 ix4_3 (by omega) (by decide) ?_
        refine an_top (y := DP (V k) (N k) (K 8) (m + 1) 3) (by simp only [up_s, pk_un (show 4 * (m + 1) + 3 ≠ 4 * m + 1 by omega), pk_un (show 4 * (m + 1) + 3 ≠ 4 * m + 2 by omega)]; exact hD (m + 1) (by omega) (by have := w2.1; omega) 3 (by decide) (by decide)) ?_
        refine aw_iload dT_weighs_60 rfl ?_
        refine aw_iload_n dT_weighs_62 rfl ?_
        refine aw_icmp_ne (tgt := 70) dT_weighs_63 (by decide) (fun _ => ?_) (fun q => absurd q (by decide))
        refine aw_aload_r dT_weighs_70 rfl ?_
        refine aw_get fg_T_22 dT_weighs_71 rfl rfl ?_
        show AN _ _ _ _ _ (.int (J 4) :: _) _
        rw [h1.2.1]
        refine aw_iadd dT_weighs_74 ?_
        refine an_top (show DP (V k) (N k) (K 8) (m + 1) 3 + K 8 = cb (DP (V k) (N k) (K 8) (m + 1)) (K 8) 2 3 from rfl) ?_
        refine si7_6 dT_weighs_75 (by decide) ?_
        refine g_T_w77 ?_
        refine ic7_5 (w := 4) dT_weighs_88 (by decide) (by decide) ?_
        refine aw_goto (tgt := 41) dT_weighs_91 (by decide) ?_
        refine aw_iload dT_weighs_41 rfl ?_
        refine aw_iconst (v := 4) dT_weighs_43 (by decide) ?_
        refine aw_icmp_ge (tgt := 94) dT_weighs_44 (by decide) (fun _ => ?_) (fun q => absurd q (by decide))
        refine aw_aload_r dT_weighs_94 rfl ?_
        refine aw_get fg_T_32 dT_weighs_95 rfl rfl ?_
        refine aw_iconst (v := 4) dT_weighs_98 (by decide) ?_
        refine aw_iload_n dT_weighs_99 rfl ?_
        refine aw_imul dT_weighs_100 ?_
        refine aw_iload_n dT_weighs_101 rfl ?_
        refine aw_iadd dT_weighs_102 ?_
        refine aw_aload_r dT_weighs_103 rfl ?_
        refine aw_iload_n dT_weighs_104 rfl ?_
        refine aw_iload_n dT_weighs_105 rfl ?_
        refine an_callVb cg_T_94 (c_T_isWay N V K _ _ (by exact h1) hk (by omega)) dT_weighs_106 rfl rfl rfl rfl rfl (Nat.le_of_ble_eq_true rfl) (Nat.le_of_ble_eq_true rfl) (fun q9 => absurd q9 (w1)) (fun p106 => ?_)
        refine aw_if_eq (tgt := 125) dT_weighs_109 (by decide) (fun _ => ?_) (fun q => absurd q (by decide))
        refine aw_iconst (v := 0) dT_weighs_125 (by decide) ?_
        refine an_stT dT_weighs_126 at_6 ix4_2 (by omega) (by decide) ?_
        refine ic7_3 (w := 3) dT_weighs_127 (by decide) (by decide) ?_
        refine aw_goto (tgt := 15) dT_weighs_130 (by decide) ?_
        refine aw_iload_n dT_weighs_15 rfl ?_
        refine aw_iconst (v := 4) dT_weighs_16 (by decide) ?_
        refine aw_icmp_ge (tgt := 133) dT_weighs_17 (by decide) (fun q => absurd q (by decide)) (fun _ => ?_)
        refine aw_iconst (v := 0) dT_weighs_20 (by decide) ?_
        refine si7_4 dT_weighs_21 (by decide) ?_
        refine aw_aload_r dT_weighs_23 rfl ?_
        refine aw_iload_n dT_weighs_24 rfl ?_
        refine aw_iload_n dT_weighs_25 rfl ?_
        refine aw_iconst (v := 1) dT_weighs_26 (by decide) ?_
        refine aw_iadd dT_weighs_27 ?_
        refine an_top (nI_1 m) ?_
        refine an_callVb cg_T_94 (c_T_isWay N V K _ _ (by exact h1) hk (by omega)) dT_weighs_28 rfl rfl rfl rfl rfl (Nat.le_of_ble_eq_true rfl) (Nat.le_of_ble_eq_true rfl) (fun p28 => ?_) (fun q9 => absurd (w2) q9)
        refine aw_if_eq (tgt := 94) dT_weighs_31 (by decide) (fun q => absurd q (by decide)) (fun _ => ?_)
        refine aw_ldc (v := 1000000000) (k_at 677 (by decide +kernel) (by decide +kernel)) dT_weighs_34 ?_
        refine si7_4 dT_weighs_36 (by decide) ?_
        refine aw_iconst (v := 1) dT_weighs_38 (by decide) ?_
        refine si7_5 dT_weighs_39 (by decide) ?_
        refine aw_iload dT_weighs_41 rfl ?_
        refine aw_iconst (v := 4) dT_weighs_43 (by decide) ?_
        refine aw_icmp_ge (tgt := 94) dT_weighs_44 (by decide) (fun q => absurd q (by decide)) (fun _ => ?_)
        refine aw_aload_r dT_weighs_47 rfl ?_
        refine aw_get fg_T_32 dT_weighs_48 rfl rfl ?_
        refine aw_iconst (v := 4) dT_weighs_51 (by decide) ?_
        refine aw_iload_n dT_weighs_52 rfl ?_
        refine aw_iconst (v := 1) dT_weighs_53 (by decide) ?_
        refine aw_iadd dT_weighs_54 ?_
        refine an_top (nI_1 m) ?_
        refine aw_imul dT_weighs_55 ?_
        refine aw_iload dT_weighs_56 rfl ?_
        refine aw_iadd dT_weighs_58 ?_
        refine an_ldT dT_weighs_59 at_6 ix4_1 (by omega) (by decide) ?_
        refine an_top (y := DP (V k) (N k) (K 8) (m + 1) 1) (by simp only [up_s, pk_un (show 4 * (m + 1) + 1 ≠ 4 * m + 1 by omega), pk_un (show 4 * (m + 1) + 1 ≠ 4 * m + 2 by omega)]; exact hD (m + 1) (by omega) (by have := w2.1; omega) 1 (by decide) (by decide)) ?_
        refine aw_iload dT_weighs_60 rfl ?_
        refine aw_iload_n dT_weighs_62 rfl ?_
        refine aw_icmp_ne (tgt := 70) dT_weighs_63 (by decide) (fun _ => ?_) (fun q => absurd q (by decide))
        refine aw_aload_r dT_weighs_70 rfl ?_
        refine aw_get fg_T_22 dT_weighs_71 rfl rfl ?_
        show AN _ _ _ _ _ (.int (J 4) :: _) _
        rw [h1.2.1]
        refine aw_iadd dT_weighs_74 ?_
        refine an_top (show DP (V k) (N k) (K 8) (m + 1) 1 + K 8 = cb (DP (V k) (N k) (K 8) (m + 1)) (K 8) 3 1 from rfl) ?_
        refine si7_6 dT_weighs_75 (by decide) ?_
        refine g_T_w77 ?_
        rw [if_pos (cb_far hv hp)]
        refine ic7_5 (w := 2) dT_weighs_88 (by decide) (by decide) ?_
        refine aw_goto (tgt := 41) dT_weighs_91 (by decide) ?_
        refine aw_iload dT_weighs_41 rfl ?_
        refine aw_iconst (v := 4) dT_weighs_43 (by decide) ?_
        refine aw_icmp_ge (tgt := 94) dT_weighs_44 (by decide) (fun q => absurd q (by decide)) (fun _ => ?_)
        refine aw_aload_r dT_weighs_47 rfl ?_
        refine aw_get fg_T_32 dT_weighs_48 rfl rfl ?_
        refine aw_iconst (v := 4) dT_weighs_51 (by decide) ?_
        refine aw_iload_n dT_weighs_52 rfl ?_
        refine aw_iconst (v := 1) dT_weighs_53 (by decide) ?_
        refine aw_iadd dT_weighs_54 ?_
        refine an_top (nI_1 m) ?_
        refine aw_imul dT_weighs_55 ?_
        refine aw_iload dT_weighs_56 rfl ?_
        refine aw_iadd dT_weighs_58 ?_
        refine an_ldT dT_weighs_59 at_6 ix4_2 (by omega) (by decide) ?_
        refine an_top (y := DP (V k) (N k) (K 8) (m + 1) 2) (by simp only [up_s, pk_un (show 4 * (m + 1) + 2 ≠ 4 * m + 1 by omega), pk_un (show 4 * (m + 1) + 2 ≠ 4 * m + 2 by omega)]; exact hD (m + 1) (by omega) (by have := w2.1; omega) 2 (by decide) (by decide)) ?_
        refine aw_iload dT_weighs_60 rfl ?_
        refine aw_iload_n dT_weighs_62 rfl ?_
        refine aw_icmp_ne (tgt := 70) dT_weighs_63 (by decide) (fun _ => ?_) (fun q => absurd q (by decide))
        refine aw_aload_r dT_weighs_70 rfl ?_
        refine aw_get fg_T_22 dT_weighs_71 rfl rfl ?_
        show AN _ _ _ _ _ (.int (J 4) :: _) _
        rw [h1.2.1]
        refine aw_iadd dT_weighs_74 ?_
        refine an_top (show DP (V k) (N k) (K 8) (m + 1) 2 + K 8 = cb (DP (V k) (N k) (K 8) (m + 1)) (K 8) 3 2 from rfl) ?_
        refine si7_6 dT_weighs_75 (by decide) ?_
        refine g_T_w77 ?_
        refine ic7_5 (w := 3) dT_weighs_88 (by decide) (by decide) ?_
        refine aw_goto (tgt := 41) dT_weighs_91 (by decide) ?_
        refine aw_iload dT_weighs_41 rfl ?_
        refine aw_iconst (v := 4) dT_weighs_43 (by decide) ?_
        refine aw_icmp_ge (tgt := 94) dT_weighs_44 (by decide) (fun q => absurd q (by decide)) (fun _ => ?_)
        refine aw_aload_r dT_weighs_47 rfl ?_
        refine aw_get fg_T_32 dT_weighs_48 rfl rfl ?_
        refine aw_iconst (v := 4) dT_weighs_51 (by decide) ?_
        refine aw_iload_n dT_weighs_52 rfl ?_
        refine aw_iconst (v := 1) dT_weighs_53 (by decide) ?_
        refine aw_iadd dT_weighs_54 ?_
        refine an_top (nI_1 m) ?_
        refine aw_imul dT_weighs_55 ?_
        refine aw_iload dT_weighs_56 rfl ?_
        refine aw_iadd dT_weighs_58 ?_
        refine an_ldT dT_weighs_59 at_6 ix4_3 (by omega) (by decide) ?_
        refine an_top (y := DP (V k) (N k) (K 8) (m + 1) 3) (by simp only [up_s, pk_un (show 4 * (m + 1) + 3 ≠ 4 * m + 1 by omega), pk_un (show 4 * (m + 1) + 3 ≠ 4 * m + 2 by omega)]; exact hD (m + 1) (by omega) (by have := w2.1; omega) 3 (by decide) (by decide)) ?_
        refine aw_iload dT_weighs_60 rfl ?_
        refine aw_iload_n dT_weighs_62 rfl ?_
        refine aw_icmp_ne (tgt := 70) dT_weighs_63 (by decide) (fun q => absurd q (by decide)) (fun _ => ?_)
        refine aw_iconst (v := 0) dT_weighs_66 (by decide) ?_
        refine aw_goto (tgt := 74) dT_weighs_67 (by decide) ?_
        refine aw_iadd dT_weighs_74 ?_
        refine an_top (cb_same (DP (V k) (N k) (K 8) (m + 1)) (K 8) 3) ?_
        refine si7_6 dT_weighs_75 (by decide) ?_
        refine g_T_w77 ?_
        refine ic7_5 (w := 4) dT_weighs_88 (by decide) (by decide) ?_
        refine aw_goto (tgt := 41) dT_weighs_91 (by decide) ?_
        refine aw_iload dT_weighs_41 rfl ?_
        refine aw_iconst (v := 4) dT_weighs_43 (by decide) ?_
        refine aw_icmp_ge (tgt := 94) dT_weighs_44 (by decide) (fun _ => ?_) (fun q => absurd q (by decide))
        refine aw_aload_r dT_weighs_94 rfl ?_
        refine aw_get fg_T_32 dT_weighs_95 rfl rfl ?_
        refine aw_iconst (v := 4) dT_weighs_98 (by decide) ?_
        refine aw_iload_n dT_weighs_99 rfl ?_
        refine aw_imul dT_weighs_100 ?_
        refine aw_iload_n dT_weighs_101 rfl ?_
        refine aw_iadd dT_weighs_102 ?_
        refine aw_aload_r dT_weighs_103 rfl ?_
        refine aw_iload_n dT_weighs_104 rfl ?_
        refine aw_iload_n dT_weighs_105 rfl ?_
        refine an_callVb cg_T_94 (c_T_isWay N V K _ _ (by exact h1) hk (by omega)) dT_weighs_106 rfl rfl rfl rfl rfl (Nat.le_of_ble_eq_true rfl) (Nat.le_of_ble_eq_true rfl) (fun q9 => absurd q9 (w1)) (fun p106 => ?_)
        refine aw_if_eq (tgt := 125) dT_weighs_109 (by decide) (fun _ => ?_) (fun q => absurd q (by decide))
        refine aw_iconst (v := 0) dT_weighs_125 (by decide) ?_
        refine an_stT dT_weighs_126 at_6 ix4_3 (by omega) (by decide) ?_
        refine ic7_3 (w := 4) dT_weighs_127 (by decide) (by decide) ?_
        refine aw_goto (tgt := 15) dT_weighs_130 (by decide) ?_
        refine aw_iload_n dT_weighs_15 rfl ?_
        refine aw_iconst (v := 4) dT_weighs_16 (by decide) ?_
        refine aw_icmp_ge (tgt := 133) dT_weighs_17 (by decide) (fun _ => ?_) (fun q => absurd q (by decide))
        refine ic7_2 dT_weighs_133 (show nI m + Int32.ofInt (-1) = nI m - 1 by rw [Int32.sub_eq_add_neg]; rfl) (by decide) ?_
        refine aw_goto (tgt := 9) dT_weighs_136 (by decide) ?_
        exact an_weak (ih _ (by omega) (by exact h1) (tbl_step hD (by rw [DP_eq (by omega), if_neg w1]) (by rw [DP_eq (by omega), if_neg w1]) (by rw [DP_eq (by omega), if_neg w1]))) ⟨rfl, rfl, rfl, trivial⟩
      · refine aw_iload_n dT_weighs_9 rfl ?_
        refine aw_if_lt (tgt := 139) dT_weighs_10 (by decide) (fun c10 => absurd c10 (nI_pos (by omega))) (fun c10 => ?_)
        refine aw_iconst (v := 1) dT_weighs_13 (by decide) ?_
        refine si7_3 dT_weighs_14 (by decide) ?_
        refine aw_iload_n dT_weighs_15 rfl ?_
        refine aw_iconst (v := 4) dT_weighs_16 (by decide) ?_
        refine aw_icmp_ge (tgt := 133) dT_weighs_17 (by decide) (fun q => absurd q (by decide)) (fun _ => ?_)
        refine aw_iconst (v := 0) dT_weighs_20 (by decide) ?_
        refine si7_4 dT_weighs_21 (by decide) ?_
        refine aw_aload_r dT_weighs_23 rfl ?_
        refine aw_iload_n dT_weighs_24 rfl ?_
        refine aw_iload_n dT_weighs_25 rfl ?_
        refine aw_iconst (v := 1) dT_weighs_26 (by decide) ?_
        refine aw_iadd dT_weighs_27 ?_
        refine an_top (nI_1 m) ?_
        refine an_callVb cg_T_94 (c_T_isWay N V K _ _ (by exact h1) hk (by omega)) dT_weighs_28 rfl rfl rfl rfl rfl (Nat.le_of_ble_eq_true rfl) (Nat.le_of_ble_eq_true rfl) (fun q9 => absurd q9 (w2)) (fun p28 => ?_)
        refine aw_if_eq (tgt := 94) dT_weighs_31 (by decide) (fun _ => ?_) (fun q => absurd q (by decide))
        refine aw_aload_r dT_weighs_94 rfl ?_
        refine aw_get fg_T_32 dT_weighs_95 rfl rfl ?_
        refine aw_iconst (v := 4) dT_weighs_98 (by decide) ?_
        refine aw_iload_n dT_weighs_99 rfl ?_
        refine aw_imul dT_weighs_100 ?_
        refine aw_iload_n dT_weighs_101 rfl ?_
        refine aw_iadd dT_weighs_102 ?_
        refine aw_aload_r dT_weighs_103 rfl ?_
        refine aw_iload_n dT_weighs_104 rfl ?_
        refine aw_iload_n dT_weighs_105 rfl ?_
        refine an_callVb cg_T_94 (c_T_isWay N V K _ _ (by exact h1) hk (by omega)) dT_weighs_106 rfl rfl rfl rfl rfl (Nat.le_of_ble_eq_true rfl) (Nat.le_of_ble_eq_true rfl) (fun q9 => absurd q9 (w1)) (fun p106 => ?_)
        refine aw_if_eq (tgt := 125) dT_weighs_109 (by decide) (fun _ => ?_) (fun q => absurd q (by decide))
        refine aw_iconst (v := 0) dT_weighs_125 (by decide) ?_
        refine an_stT dT_weighs_126 at_6 ix4_1 (by omega) (by decide) ?_
        refine ic7_3 (w := 2) dT_weighs_127 (by decide) (by decide) ?_
        refine aw_goto (tgt := 15) dT_weighs_130 (by decide) ?_
        refine aw_iload_n dT_weighs_15 rfl ?_
        refine aw_iconst (v := 4) dT_weighs_16 (by decide) ?_
        refine aw_icmp_ge (tgt := 133) dT_weighs_17 (by decide) (fun q => absurd q (by decide)) (fun _ => ?_)
        refine aw_iconst (v := 0) dT_weighs_20 (by decide) ?_
        refine si7_4 dT_weighs_21 (by decide) ?_
        refine aw_aload_r dT_weighs_23 rfl ?_
        refine aw_iload_n dT_weighs_24 rfl ?_
        refine aw_iload_n dT_weighs_25 rfl ?_
        refine aw_iconst (v := 1) dT_weighs_26 (by decide) ?_
        refine aw_iadd dT_weighs_27 ?_
        refine an_top (nI_1 m) ?_
        refine an_callVb cg_T_94 (c_T_isWay N V K _ _ (by exact h1) hk (by omega)) dT_weighs_28 rfl rfl rfl rfl rfl (Nat.le_of_ble_eq_true rfl) (Nat.le_of_ble_eq_true rfl) (fun q9 => absurd q9 (w2)) (fun p28 => ?_)
        refine aw_if_eq (tgt := 94) dT_weighs_31 (by decide) (fun _ => ?_) (fun q => absurd q (by decide))
        refine aw_aload_r dT_weighs_94 rfl ?_
        refine aw_get fg_T_32 dT_weighs_95 rfl rfl ?_
        refine aw_iconst (v := 4) dT_weighs_98 (by decide) ?_
        refine aw_iload_n dT_weighs_99 rfl ?_
        refine aw_imul dT_weighs_100 ?_
        refine aw_iload_n dT_weighs_101 rfl ?_
        refine aw_iadd dT_weighs_102 ?_
        refine aw_aload_r dT_weighs_103 rfl ?_
        refine aw_iload_n dT_weighs_104 rfl ?_
        refine aw_iload_n dT_weighs_105 rfl ?_
        refine an_callVb cg_T_94 (c_T_isWay N V K _ _ (by exact h1) hk (by omega)) dT_weighs_106 rfl rfl rfl rfl rfl (Nat.le_of_ble_eq_true rfl) (Nat.le_of_ble_eq_true rfl) (fun q9 => absurd q9 (w1)) (fun p106 => ?_)
        refine aw_if_eq (tgt := 125) dT_weighs_109 (by decide) (fun _ => ?_) (fun q => absurd q (by decide))
        refine aw_iconst (v := 0) dT_weighs_125 (by decide) ?_
        refine an_stT dT_weighs_126 at_6 ix4_2 (by omega) (by decide) ?_
        refine ic7_3 (w := 3) dT_weighs_127 (by decide) (by decide) ?_
        refine aw_goto (tgt := 15) dT_weighs_130 (by decide) ?_
        refine aw_iload_n dT_weighs_15 rfl ?_
        refine aw_iconst (v := 4) dT_weighs_16 (by decide) ?_
        refine aw_icmp_ge (tgt := 133) dT_weighs_17 (by decide) (fun q => absurd q (by decide)) (fun _ => ?_)
        refine aw_iconst (v := 0) dT_weighs_20 (by decide) ?_
        refine si7_4 dT_weighs_21 (by decide) ?_
        refine aw_aload_r dT_weighs_23 rfl ?_
        refine aw_iload_n dT_weighs_24 rfl ?_
        refine aw_iload_n dT_weighs_25 rfl ?_
        refine aw_iconst (v := 1) dT_weighs_26 (by decide) ?_
        refine aw_iadd dT_weighs_27 ?_
        refine an_top (nI_1 m) ?_
        refine an_callVb cg_T_94 (c_T_isWay N V K _ _ (by exact h1) hk (by omega)) dT_weighs_28 rfl rfl rfl rfl rfl (Nat.le_of_ble_eq_true rfl) (Nat.le_of_ble_eq_true rfl) (fun q9 => absurd q9 (w2)) (fun p28 => ?_)
        refine aw_if_eq (tgt := 94) dT_weighs_31 (by decide) (fun _ => ?_) (fun q => absurd q (by decide))
        refine aw_aload_r dT_weighs_94 rfl ?_
        refine aw_get fg_T_32 dT_weighs_95 rfl rfl ?_
        refine aw_iconst (v := 4) dT_weighs_98 (by decide) ?_
        refine aw_iload_n dT_weighs_99 rfl ?_
        refine aw_imul dT_weighs_100 ?_
        refine aw_iload_n dT_weighs_101 rfl ?_
        refine aw_iadd dT_weighs_102 ?_
        refine aw_aload_r dT_weighs_103 rfl ?_
        refine aw_iload_n dT_weighs_104 rfl ?_
        refine aw_iload_n dT_weighs_105 rfl ?_
        refine an_callVb cg_T_94 (c_T_isWay N V K _ _ (by exact h1) hk (by omega)) dT_weighs_106 rfl rfl rfl rfl rfl (Nat.le_of_ble_eq_true rfl) (Nat.le_of_ble_eq_true rfl) (fun q9 => absurd q9 (w1)) (fun p106 => ?_)
        refine aw_if_eq (tgt := 125) dT_weighs_109 (by decide) (fun _ => ?_) (fun q => absurd q (by decide))
        refine aw_iconst (v := 0) dT_weighs_125 (by decide) ?_
        refine an_stT dT_weighs_126 at_6 ix4_3 (by omega) (by decide) ?_
        refine ic7_3 (w := 4) dT_weighs_127 (by decide) (by decide) ?_
        refine aw_goto (tgt := 15) dT_weighs_130 (by decide) ?_
        refine aw_iload_n dT_weighs_15 rfl ?_
        refine aw_iconst (v := 4) dT_weighs_16 (by decide) ?_
        refine aw_icmp_ge (tgt := 133) dT_weighs_17 (by decide) (fun _ => ?_) (fun q => absurd q (by decide))
        refine ic7_2 dT_weighs_133 (show nI m + Int32.ofInt (-1) = nI m - 1 by rw [Int32.sub_eq_add_neg]; rfl) (by decide) ?_
        refine aw_goto (tgt := 9) dT_weighs_136 (by decide) ?_
        exact an_weak (ih _ (by omega) (by exact h1) (tbl_step hD (by rw [DP_eq (by omega), if_neg w1]) (by rw [DP_eq (by omega), if_neg w1]) (by rw [DP_eq (by omega), if_neg w1]))) ⟨rfl, rfl, rfl, trivial⟩

set_option maxHeartbeats 4000000 in
set_option maxRecDepth 100000 in
theorem c_T_weighs (N : Nat → Nat) (V : Nat → Nat → Int32) (K : Nat → Int32) (J : Nat → Int32) (B : Nat → Nat → Int32) (hI : TInv N V K J B) (hP : PInv N V K) {k : Nat} (hk : k < 4) : AM kT_weighs 5 [.ref 0, .int (nI k)] (hT J B) (WQT N V K J k) := by
  refine AMet.of (by decide) (by simp [Value.category]) (Nat.le_of_ble_eq_true rfl) ?_
  show AN _ _ _ 0 [some _, some _, none, none, none, none, none] [] _
  refine aw_aload_r dT_weighs_0 rfl ?_
  refine aw_get fg_T_7 dT_weighs_1 rfl rfl ?_
  refine aw_iload_n dT_weighs_4 rfl ?_
  refine an_ldT dT_weighs_5 at_1 rfl hk (by decide) ?_
  rw [(hI.1 k hk).2.1]
  refine aw_iconst (v := 1) dT_weighs_6 (by decide) ?_
  refine aw_isub dT_weighs_7 ?_
  refine si7_2 dT_weighs_8 (by decide) ?_
  exact an_weak (l_T_weighs N V K J B hI hP hk (N k) B (by omega) hI (fun i a b => by omega)) ⟨rfl, rfl, rfl, trivial⟩
end
section
/-! the spans, their cost -/
def SPs (v : Nat → Int32) (n : Nat) (p : Int32) : Nat → Nat × (Nat → Nat) × (Nat → Nat) × (Nat → Nat)
  | 0 => (0, fun _ => 0, fun _ => 0, fun _ => 0)
  | i + 1 => if kq v n p i = 0 then SPs v n p i else if kq v n p i = bef v n p i then ((SPs v n p i).1, (SPs v n p i).2.1, va_up (SPs v n p i).2.2.1 ((SPs v n p i).1 - 1) (i + 1), (SPs v n p i).2.2.2)
    else ((SPs v n p i).1 + 1, va_up (SPs v n p i).2.1 (SPs v n p i).1 i, va_up (SPs v n p i).2.2.1 (SPs v n p i).1 (i + 1), va_up (SPs v n p i).2.2.2 (SPs v n p i).1 (kq v n p i))
abbrev spc (v : Nat → Int32) (n : Nat) (p : Int32) (i : Nat) : Nat := (SPs v n p i).1
abbrev spf (v : Nat → Int32) (n : Nat) (p : Int32) (i : Nat) : Nat → Nat := (SPs v n p i).2.1
abbrev spl (v : Nat → Int32) (n : Nat) (p : Int32) (i : Nat) : Nat → Nat := (SPs v n p i).2.2.1
abbrev spg (v : Nat → Int32) (n : Nat) (p : Int32) (i : Nat) : Nat → Nat := (SPs v n p i).2.2.2
def alS (v : Nat → Int32) (n : Nat) (p : Int32) : Nat → Int32
  | 0 => 0
  | i + 1 => if kq v n p i = 0 then alS v n p i else alS v n p i + (wc v i (kq v n p i) + (if kq v n p i = bef v n p i then 0 else p))
def toS (v : Nat → Int32) (n : Nat) (p : Int32) : Nat → Int32
  | 0 => 0
  | i + 1 => if bef v n p i = 0 ∧ ¬ kq v n p i = 0 then toS v n p i + cb (DP v n p i) p 0 (kq v n p i) else toS v n p i
/-- an array's first c places hold f -/
def AG (F : Nat → Int32) (f : Nat → Nat) (c : Nat) : Prop := ∀ j, j < c → F j = nI (f j)
theorem AG.snoc {F : Nat → Int32} {f : Nat → Nat} {c : Nat} (h : AG F f c) (x : Nat) : AG (upd F c (nI x)) (va_up f c x) (c + 1) := by
  intro j hj
  by_cases e : j = c
  · subst e; rw [pk_us, up_s]
  · rw [pk_un e, up_n e]; exact h j (by omega)
theorem AG.put {F : Nat → Int32} {f : Nat → Nat} {c : Nat} (h : AG F f c) (i x : Nat) : AG (upd F i (nI x)) (va_up f i x) c := by
  intro j hj
  by_cases e : j = i
  · subst e; rw [pk_us, up_s]
  · rw [pk_un e, up_n e]; exact h j hj
theorem AG.zero {F : Nat → Int32} {f : Nat → Nat} : AG F f 0 := fun j h => by omega
theorem nI_pm {c : Nat} (h : 1 ≤ c) : nI c - 1 = nI (c - 1) := by
  obtain ⟨m, rfl⟩ : ∃ m, c = m + 1 := ⟨c - 1, by omega⟩
  rw [nI_pred, Nat.add_sub_cancel]
section SPL
variable {v : Nat → Int32} {n : Nat} {p : Int32}
theorem SPs_no {i : Nat} (h : kq v n p i = 0) : SPs v n p (i + 1) = SPs v n p i := by simp only [SPs]; rw [if_pos h]
theorem SPs_on {i : Nat} (h : ¬ kq v n p i = 0) (q : kq v n p i = bef v n p i) : SPs v n p (i + 1) = (spc v n p i, spf v n p i, va_up (spl v n p i) (spc v n p i - 1) (i + 1), spg v n p i) := by
  simp only [SPs]; rw [if_neg h, if_pos q]
theorem SPs_new {i : Nat} (h : ¬ kq v n p i = 0) (q : ¬ kq v n p i = bef v n p i) : SPs v n p (i + 1) = (spc v n p i + 1, va_up (spf v n p i) (spc v n p i) i, va_up (spl v n p i) (spc v n p i) (i + 1), va_up (spg v n p i) (spc v n p i) (kq v n p i)) := by
  simp only [SPs]; rw [if_neg h, if_neg q]
theorem alS_no {i : Nat} (h : kq v n p i = 0) : alS v n p (i + 1) = alS v n p i := by simp only [alS]; rw [if_pos h]
theorem alS_on {i : Nat} (h : ¬ kq v n p i = 0) (q : kq v n p i = bef v n p i) : alS v n p (i + 1) = alS v n p i + (wc v i (kq v n p i) + 0) := by simp only [alS]; rw [if_neg h, if_pos q]
theorem alS_new {i : Nat} (h : ¬ kq v n p i = 0) (q : ¬ kq v n p i = bef v n p i) : alS v n p (i + 1) = alS v n p i + (wc v i (kq v n p i) + p) := by simp only [alS]; rw [if_neg h, if_neg q]
theorem spc_le : ∀ i, spc v n p i ≤ i
  | 0 => Nat.le_refl _
  | i + 1 => by
    have ih := spc_le i
    by_cases h : kq v n p i = 0
    · show (SPs v n p (i + 1)).1 ≤ _; rw [SPs_no h]; show spc v n p i ≤ _; omega
    · by_cases q : kq v n p i = bef v n p i
      · show (SPs v n p (i + 1)).1 ≤ _; rw [SPs_on h q]; show spc v n p i ≤ _; omega
      · show (SPs v n p (i + 1)).1 ≤ _; rw [SPs_new h q]; show spc v n p i + 1 ≤ _; omega
theorem spc_pos : ∀ i, ¬ bef v n p i = 0 → 1 ≤ spc v n p i
  | 0, h => absurd rfl h
  | i + 1, h => by
    have h : ¬ kq v n p i = 0 := h
    by_cases q : kq v n p i = bef v n p i
    · have := spc_pos i (by rw [← q]; exact h)
      show 1 ≤ (SPs v n p (i + 1)).1; rw [SPs_on h q]; exact this
    · show 1 ≤ (SPs v n p (i + 1)).1; rw [SPs_new h q]; show 1 ≤ spc v n p i + 1; omega
/-- behind the row's last way nothing changes -/
theorem SPs_end {i : Nat} (h : n ≤ i) : ∀ j, SPs v n p (i + j) = SPs v n p i ∧ alS v n p (i + j) = alS v n p i
  | 0 => ⟨rfl, rfl⟩
  | j + 1 => by
    have hz : kq v n p (i + j) = 0 := kq_no (fun w => by have := w.1; omega)
    have := SPs_end h j
    exact ⟨(SPs_no hz).trans this.1, (alS_no hz).trans this.2⟩
theorem SPs_40 (h : n ≤ 40) : SPs v n p 40 = SPs v n p n ∧ alS v n p 40 = alS v n p n := by
  have := SPs_end (v := v) (n := n) (p := p) (Nat.le_refl n) (40 - n)
  rwa [show n + (40 - n) = 40 by omega] at this
theorem spc_no {i : Nat} (h : kq v n p i = 0) : spc v n p (i + 1) = spc v n p i := congrArg Prod.fst (SPs_no h)
theorem spc_on {i : Nat} (h : ¬ kq v n p i = 0) (q : kq v n p i = bef v n p i) : spc v n p (i + 1) = spc v n p i := (congrArg Prod.fst (SPs_on h q) :)
theorem spc_new {i : Nat} (h : ¬ kq v n p i = 0) (q : ¬ kq v n p i = bef v n p i) : spc v n p (i + 1) = spc v n p i + 1 := (congrArg Prod.fst (SPs_new h q) :)
theorem spc_40 (h : n ≤ 40) : spc v n p 40 = spc v n p n := congrArg Prod.fst (SPs_40 h).1
theorem spf_no {i : Nat} (h : kq v n p i = 0) : spf v n p (i + 1) = spf v n p i := congrArg (fun z => z.2.1) (SPs_no h)
theorem spf_on {i : Nat} (h : ¬ kq v n p i = 0) (q : kq v n p i = bef v n p i) : spf v n p (i + 1) = spf v n p i := (congrArg (fun z => z.2.1) (SPs_on h q) :)
theorem spf_new {i : Nat} (h : ¬ kq v n p i = 0) (q : ¬ kq v n p i = bef v n p i) : spf v n p (i + 1) = va_up (spf v n p i) (spc v n p i) i := (congrArg (fun z => z.2.1) (SPs_new h q) :)
theorem spf_40 (h : n ≤ 40) : spf v n p 40 = spf v n p n := congrArg (fun z => z.2.1) (SPs_40 h).1
theorem spl_no {i : Nat} (h : kq v n p i = 0) : spl v n p (i + 1) = spl v n p i := congrArg (fun z => z.2.2.1) (SPs_no h)
theorem spl_on {i : Nat} (h : ¬ kq v n p i = 0) (q : kq v n p i = bef v n p i) : spl v n p (i + 1) = va_up (spl v n p i) (spc v n p i - 1) (i + 1) := (congrArg (fun z => z.2.2.1) (SPs_on h q) :)
theorem spl_new {i : Nat} (h : ¬ kq v n p i = 0) (q : ¬ kq v n p i = bef v n p i) : spl v n p (i + 1) = va_up (spl v n p i) (spc v n p i) (i + 1) := (congrArg (fun z => z.2.2.1) (SPs_new h q) :)
theorem spl_40 (h : n ≤ 40) : spl v n p 40 = spl v n p n := congrArg (fun z => z.2.2.1) (SPs_40 h).1
theorem spg_no {i : Nat} (h : kq v n p i = 0) : spg v n p (i + 1) = spg v n p i := congrArg (fun z => z.2.2.2) (SPs_no h)
theorem spg_on {i : Nat} (h : ¬ kq v n p i = 0) (q : kq v n p i = bef v n p i) : spg v n p (i + 1) = spg v n p i := (congrArg (fun z => z.2.2.2) (SPs_on h q) :)
theorem spg_new {i : Nat} (h : ¬ kq v n p i = 0) (q : ¬ kq v n p i = bef v n p i) : spg v n p (i + 1) = va_up (spg v n p i) (spc v n p i) (kq v n p i) := (congrArg (fun z => z.2.2.2) (SPs_new h q) :)
theorem spg_40 (h : n ≤ 40) : spg v n p 40 = spg v n p n := congrArg (fun z => z.2.2.2) (SPs_40 h).1
def remS (v : Nat → Int32) (n : Nat) (p : Int32) (i : Nat) : Int32 := if ¬ bef v n p i = 0 ∧ wy v n i then cb (DP v n p i) p (bef v n p i) (kq v n p i) else 0
theorem cb_val {g : Nat → Int32} {b q : Nat} : cb g p b q = g q + (if q = b then 0 else p) := by
  unfold cb
  split
  · rw [Int32.add_zero]
  · rfl
theorem tot_inv : ∀ i, i ≤ 40 → toS v n p i = alS v n p i + remS v n p i
  | 0, _ => by
    unfold remS
    rw [if_neg (fun q => q.1 rfl)]
    rfl
  | i + 1, hi => by
    have ih := tot_inv i (by omega)
    by_cases w : wy v n i
    · have hk := kq_range (p := p) w
      have hk0 : ¬ kq v n p i = 0 := by omega
      have hr : DP v n p i (kq v n p i) = wc v i (kq v n p i) + remS v n p (i + 1) := by
        rw [DP_eq (by omega), if_pos w]
        congr 1
        unfold remS
        show _ = if ¬ kq v n p i = 0 ∧ wy v n (i + 1) then cb (DP v n p (i + 1)) p (kq v n p i) (kq v n p (i + 1)) else 0
        by_cases w2 : wy v n (i + 1)
        · rw [if_pos w2, if_pos ⟨hk0, w2⟩, mn3_bk, kq_eq (i + 1), if_pos w2]; rfl
        · rw [if_neg w2, if_neg (fun q => w2 q.2)]
      have ha : alS v n p (i + 1) = alS v n p i + (wc v i (kq v n p i) + (if kq v n p i = bef v n p i then 0 else p)) := by simp only [alS]; rw [if_neg hk0]
      by_cases hb : bef v n p i = 0
      · have ht : toS v n p (i + 1) = toS v n p i + cb (DP v n p i) p 0 (kq v n p i) := by simp only [toS]; rw [if_pos ⟨hb, hk0⟩]
        have hz : remS v n p i = 0 := by unfold remS; rw [if_neg (fun q => q.1 hb)]
        rw [ht, ha, ih, hz, cb_val, hr, hb]
        simp only [Int32.add_zero]
        ac_rfl
      · have ht : toS v n p (i + 1) = toS v n p i := by simp only [toS]; rw [if_neg (fun q => hb q.1)]
        have hz : remS v n p i = cb (DP v n p i) p (bef v n p i) (kq v n p i) := by unfold remS; rw [if_pos ⟨hb, w⟩]
        rw [ht, ha, ih, hz, cb_val, hr]
        ac_rfl
    · have hk0 := kq_no (p := p) w
      have ht : toS v n p (i + 1) = toS v n p i := by simp only [toS]; rw [if_neg (fun q => q.2 hk0)]
      have hz : remS v n p i = 0 := by unfold remS; rw [if_neg (fun q => w q.2)]
      have hz2 : remS v n p (i + 1) = 0 := by
        unfold remS; rw [if_neg (fun q => q.1 hk0)]
      rw [ht, alS_no hk0, ih, hz, hz2]
theorem tot_eq (h : n ≤ 40) : toS v n p 40 = alS v n p 40 := by
  rw [tot_inv 40 (Nat.le_refl _)]
  unfold remS
  rw [if_neg (fun q => by have := q.2.1; omega), Int32.add_zero]
end SPL
def ShQ (N : Nat → Nat) (V : Nat → Nat → Int32) (K : Nat → Int32) (k : Nat) (J : Nat → Int32) (B : Nat → Nat → Int32) : Prop := TInv N V K J B ∧ J 10 = nI (spc (V k) (N k) (K 8) 40) ∧ J 9 = alS (V k) (N k) (K 8) 40 ∧ (∀ j, j < N k → B 5 j = nI (kq (V k) (N k) (K 8) j)) ∧ AG (B 7) (spg (V k) (N k) (K 8) 40) (spc (V k) (N k) (K 8) 40) ∧ AG (B 8) (spf (V k) (N k) (K 8) 40) (spc (V k) (N k) (K 8) 40) ∧ AG (B 9) (spl (V k) (N k) (K 8) 40) (spc (V k) (N k) (K 8) 40)
def SQT (N : Nat → Nat) (V : Nat → Nat → Int32) (K : Nat → Int32) (k : Nat) : QT := fun r h' => r = none ∧ ∃ J' B', h' = hT J' B' ∧ ShQ N V K k J' B'
end
section
set_option maxHeartbeats 4000000 in
set_option maxRecDepth 100000 in
theorem g_T_s46 {d : Nat} {Q : QT} {a1 a4 a5 a6 a3 : Option Value} {N : Nat → Nat} {V : Nat → Nat → Int32} {K J : Nat → Int32} {B : Nat → Nat → Int32} {k i : Nat} (hi : i < 40) (h5 : ∀ j, j < i → B 5 j = nI (kq (V k) (N k) (K 8) j)) (kk : AN kT_shapes d Q 63 [some (.ref 0), a1, some (.int (nI i)), some (.int (nI (bef (V k) (N k) (K 8) i))), a4, a5, a6] [] (hT J B)) : AN kT_shapes d Q 46 [some (.ref 0), a1, some (.int (nI i)), a3, a4, a5, a6] [] (hT J B) := by
  refine aw_iload_n dT_shapes_46 rfl ?_
  refine aw_if_le (tgt := 61) dT_shapes_47 (by decide) (fun c47 => ?_) (fun c47 => ?_)
  · have h0 : i = 0 := by
      rw [le_T, nI_toInt (by omega), z_0] at c47; omega
    subst h0
    refine aw_iconst (v := 0) dT_shapes_61 (by decide) ?_
    refine si7_3 dT_shapes_62 (by decide) ?_
    exact kk
  · obtain ⟨j, rfl⟩ : ∃ j, i = j + 1 := ⟨i - 1, by rw [le_T, nI_toInt (by omega), z_0] at c47; omega⟩
    refine aw_aload_r dT_shapes_50 rfl ?_
    refine aw_get fg_T_29 dT_shapes_51 rfl rfl ?_
    refine aw_iload_n dT_shapes_54 rfl ?_
    refine aw_iconst (v := 1) dT_shapes_55 (by decide) ?_
    refine aw_isub dT_shapes_56 ?_
    refine an_top (nI_pred j) ?_
    refine an_ldT dT_shapes_57 at_5 rfl (by omega) (by decide) ?_
    rw [h5 j (by omega)]
    refine aw_goto (tgt := 62) dT_shapes_58 (by decide) ?_
    refine si7_3 dT_shapes_62 (by decide) ?_
    exact kk

set_option maxHeartbeats 4000000 in
set_option maxRecDepth 100000 in
theorem g_T_s75 {d : Nat} {Q : QT} {a1 a4 a6 : Option Value} {N : Nat → Nat} {V : Nat → Nat → Int32} {K J : Nat → Int32} {B : Nat → Nat → Int32} {k i b q : Nat} (h1 : TInv N V K J B) (hi : i < 40) (hb : b < 1000) (hq1 : 1 ≤ q) (hq3 : q ≤ 3) (hD : ∀ q, 1 ≤ q → q ≤ 3 → B 6 (4 * i + q) = DP (V k) (N k) (K 8) i q) (kk : AN kT_shapes d Q 103 [some (.ref 0), a1, some (.int (nI i)), some (.int (nI b)), a4, some (.int (nI q)), some (.int (cb (DP (V k) (N k) (K 8) i) (K 8) b q))] [] (hT J B)) : AN kT_shapes d Q 75 [some (.ref 0), a1, some (.int (nI i)), some (.int (nI b)), a4, some (.int (nI q)), a6] [] (hT J B) := by
  refine aw_aload_r dT_shapes_75 rfl ?_
  refine aw_get fg_T_32 dT_shapes_76 rfl rfl ?_
  refine aw_iconst (v := 4) dT_shapes_79 (by decide) ?_
  refine aw_iload_n dT_shapes_80 rfl ?_
  refine aw_imul dT_shapes_81 ?_
  refine aw_iload dT_shapes_82 rfl ?_
  refine aw_iadd dT_shapes_84 ?_
  refine an_ldT dT_shapes_85 at_6 ix4 (by omega) (by decide) ?_
  rw [hD q hq1 hq3]
  refine aw_iload dT_shapes_86 rfl ?_
  refine aw_iload_n dT_shapes_88 rfl ?_
  refine aw_icmp_ne (tgt := 96) dT_shapes_89 (by decide) (fun c89 => ?_) (fun c89 => ?_)
  · refine aw_aload_r dT_shapes_96 rfl ?_
    refine aw_get fg_T_22 dT_shapes_97 rfl rfl ?_
    show AN _ _ _ _ _ (.int (J 4) :: _) _
    rw [h1.2.1]
    refine aw_iadd dT_shapes_100 ?_
    refine an_top (show _ = (cb (DP (V k) (N k) (K 8) i) (K 8) b q) by rw [cb_val, if_neg (fun e => c89 (by rw [e]))]) ?_
    refine si7_6 dT_shapes_101 (by decide) ?_
    exact kk
  · refine aw_iconst (v := 0) dT_shapes_92 (by decide) ?_
    refine aw_goto (tgt := 100) dT_shapes_93 (by decide) ?_
    refine aw_iadd dT_shapes_100 ?_
    refine an_top (show _ = (cb (DP (V k) (N k) (K 8) i) (K 8) b q) by rw [cb_val, if_pos (nI_inj (by omega) (by omega) c89)]) ?_
    refine si7_6 dT_shapes_101 (by decide) ?_
    exact kk

set_option maxHeartbeats 4000000 in
set_option maxRecDepth 100000 in
theorem g_T_s103 {d : Nat} {Q : QT} {a1 : Option Value} {bb : Nat} {N : Nat → Nat} {V : Nat → Nat → Int32} {K J : Nat → Int32} {B : Nat → Nat → Int32} {k i b q : Nat} (h1 : TInv N V K J B) (hi : i < 40) (hb : b < 1000) (hq1 : 1 ≤ q) (hq3 : q ≤ 3) (hD : ∀ q, 1 ≤ q → q ≤ 3 → B 6 (4 * i + q) = DP (V k) (N k) (K 8) i q) (hb1 : 1 ≤ bb) (hb3 : bb ≤ 3) (kk : AN kT_shapes d Q 143 [some (.ref 0), a1, some (.int (nI i)), some (.int (nI b)), some (.int (nI (if (cb (DP (V k) (N k) (K 8) i) (K 8) b q) < (cb (DP (V k) (N k) (K 8) i) (K 8) b bb) then q else bb))), some (.int (nI q)), some (.int (cb (DP (V k) (N k) (K 8) i) (K 8) b q))] [] (hT J B)) : AN kT_shapes d Q 103 [some (.ref 0), a1, some (.int (nI i)), some (.int (nI b)), some (.int (nI bb)), some (.int (nI q)), some (.int (cb (DP (V k) (N k) (K 8) i) (K 8) b q))] [] (hT J B) := by
  refine aw_iload dT_shapes_103 rfl ?_
  refine aw_if_eq (tgt := 139) dT_shapes_105 (by decide) (fun c105 => absurd c105 (nI_ne0 (by omega) (by omega))) (fun c105 => ?_)
  refine aw_iload dT_shapes_108 rfl ?_
  refine aw_aload_r dT_shapes_110 rfl ?_
  refine aw_get fg_T_32 dT_shapes_111 rfl rfl ?_
  refine aw_iconst (v := 4) dT_shapes_114 (by decide) ?_
  refine aw_iload_n dT_shapes_115 rfl ?_
  refine aw_imul dT_shapes_116 ?_
  refine aw_iload dT_shapes_117 rfl ?_
  refine aw_iadd dT_shapes_119 ?_
  refine an_ldT dT_shapes_120 at_6 ix4 (by omega) (by decide) ?_
  rw [hD bb hb1 hb3]
  refine aw_iload dT_shapes_121 rfl ?_
  refine aw_iload_n dT_shapes_123 rfl ?_
  refine aw_icmp_ne (tgt := 131) dT_shapes_124 (by decide) (fun c124 => ?_) (fun c124 => ?_)
  · refine aw_aload_r dT_shapes_131 rfl ?_
    refine aw_get fg_T_22 dT_shapes_132 rfl rfl ?_
    show AN _ _ _ _ _ (.int (J 4) :: _) _
    rw [h1.2.1]
    refine aw_iadd dT_shapes_135 ?_
    refine an_top (show _ = (cb (DP (V k) (N k) (K 8) i) (K 8) b bb) by rw [cb_val, if_neg (fun e => c124 (by rw [e]))]) ?_
    refine aw_icmp_ge (tgt := 143) dT_shapes_136 (by decide) (fun c136 => ?_) (fun c136 => ?_)
    · rw [if_neg (Int32.not_lt.mpr c136)] at kk
      exact kk
    · refine aw_iload dT_shapes_139 rfl ?_
      refine si7_4 dT_shapes_141 (by decide) ?_
      rw [if_pos (Int32.not_le.mp c136)] at kk
      exact kk
  · refine aw_iconst (v := 0) dT_shapes_127 (by decide) ?_
    refine aw_goto (tgt := 135) dT_shapes_128 (by decide) ?_
    refine aw_iadd dT_shapes_135 ?_
    refine an_top (show _ = (cb (DP (V k) (N k) (K 8) i) (K 8) b bb) by rw [cb_val, if_pos (nI_inj (by omega) (by omega) c124)]) ?_
    refine aw_icmp_ge (tgt := 143) dT_shapes_136 (by decide) (fun c136 => ?_) (fun c136 => ?_)
    · rw [if_neg (Int32.not_lt.mpr c136)] at kk
      exact kk
    · refine aw_iload dT_shapes_139 rfl ?_
      refine si7_4 dT_shapes_141 (by decide) ?_
      rw [if_pos (Int32.not_le.mp c136)] at kk
      exact kk

theorem bef_lt {v : Nat → Int32} {n : Nat} {p : Int32} {i : Nat} : bef v n p i < 1000 := by
  cases i with
  | zero => show 0 < 1000; decide
  | succ i =>
    show kq v n p i < 1000
    rw [kq_eq]
    split
    · have := bk_range (g := DP v n p i) (p := p) (b := bef v n p i); omega
    · omega
theorem kin2 {f : Nat → Int32} {g : Nat → Nat} {i : Nat} (h : ∀ j, j < i → f j = nI (g j)) (j : Nat) (hj : j < i + 1) : upd (upd f i 0) i (nI (g i)) j = nI (g j) := by
  by_cases e : j = i
  · subst e; rw [pk_us]
  · rw [pk_un e, pk_un e]; exact h j (by omega)
theorem kin0 {f : Nat → Int32} {g : Nat → Nat} {i : Nat} (h : ∀ j, j < i → f j = nI (g j)) (hz : g i = 0) (j : Nat) (hj : j < i + 1) : upd f i 0 j = nI (g j) := by
  by_cases e : j = i
  · subst e; rw [pk_us, hz]; rfl
  · rw [pk_un e]; exact h j (by omega)

set_option maxHeartbeats 4000000 in
set_option maxRecDepth 100000 in
theorem l_T_shapes (N : Nat → Nat) (V : Nat → Nat → Int32) (K : Nat → Int32) (J : Nat → Int32) (B : Nat → Nat → Int32) (hI : TInv N V K J B) (hP : PInv N V K) {k : Nat} (hk : k < 4) : ∀ (n i : Nat) (J1 : Nat → Int32) (B1 : Nat → Nat → Int32), i + n = N k → TInv N V K J1 B1 → J1 10 = nI (spc (V k) (N k) (K 8) i) → J1 9 = (alS (V k) (N k) (K 8) i) → (∀ j, j < i → B1 5 j = nI (kq (V k) (N k) (K 8) j)) → AG (B1 7) (spg (V k) (N k) (K 8) i) (spc (V k) (N k) (K 8) i) → AG (B1 8) (spf (V k) (N k) (K 8) i) (spc (V k) (N k) (K 8) i) → AG (B1 9) (spl (V k) (N k) (K 8) i) (spc (V k) (N k) (K 8) i) → tblD (B1 6) (V k) (N k) (K 8) 0 → AN kT_shapes 6 (SQT N V K k) 17 [some (.ref 0), some (.int (nI k)), some (.int (nI i)), none, none, none, none] [] (hT J1 B1) := by
  have h40 := hI.n k hk
  intro n
  induction n with
  | zero =>
    intro i J1 B1 hin h1 h10 h9 h5 h7 h8 h11 hD
    have hiN : i = N k := by omega
    subst hiN
    refine aw_iload_n dT_shapes_17 rfl ?_
    refine aw_aload_r dT_shapes_18 rfl ?_
    refine aw_get fg_T_7 dT_shapes_19 rfl rfl ?_
    refine aw_iload_n dT_shapes_22 rfl ?_
    refine an_ldT dT_shapes_23 at_1 rfl hk (by decide) ?_
    rw [(h1.1 k hk).2.1]
    refine aw_icmp_ge (tgt := 246) dT_shapes_24 (by decide) (fun c24 => ?_) (fun c24 => absurd (Int32.le_refl _) c24)
    exact aw_vret rfl dT_shapes_246 ⟨rfl, J1, B1, rfl, h1, by rw [spc_40 h40]; exact h10, by rw [(SPs_40 h40).2]; exact h9, h5, by rw [spg_40 h40, spc_40 h40]; exact h7, by rw [spf_40 h40, spc_40 h40]; exact h8, by rw [spl_40 h40, spc_40 h40]; exact h11⟩
  | succ n ih =>
    intro i J1 B1 hin h1 h10 h9 h5 h7 h8 h11 hD
    have hi40 : i < 40 := by omega
    have hcl := spc_le (v := V k) (n := N k) (p := K 8) i
    refine aw_iload_n dT_shapes_17 rfl ?_
    refine aw_aload_r dT_shapes_18 rfl ?_
    refine aw_get fg_T_7 dT_shapes_19 rfl rfl ?_
    refine aw_iload_n dT_shapes_22 rfl ?_
    refine an_ldT dT_shapes_23 at_1 rfl hk (by decide) ?_
    rw [(h1.1 k hk).2.1]
    refine aw_icmp_ge (tgt := 246) dT_shapes_24 (by decide) (fun c24 => absurd c24 (nI_ge (by omega) (by omega))) (fun c24 => ?_)
    refine aw_aload_r dT_shapes_27 rfl ?_
    refine aw_get fg_T_29 dT_shapes_28 rfl rfl ?_
    refine aw_iload_n dT_shapes_31 rfl ?_
    refine aw_iconst (v := 0) dT_shapes_32 (by decide) ?_
    refine an_stT dT_shapes_33 at_5 rfl hi40 (by decide) ?_
    refine aw_aload_r dT_shapes_34 rfl ?_
    refine aw_iload_n dT_shapes_35 rfl ?_
    refine aw_iload_n dT_shapes_36 rfl ?_
    refine an_callVb cg_T_94 (c_T_isWay N V K _ _ (by exact h1) hk (by omega)) dT_shapes_37 rfl rfl rfl rfl rfl (Nat.le_of_ble_eq_true rfl) (Nat.le_of_ble_eq_true rfl) (fun p37 => ?_) (fun p37 => ?_)
    · refine aw_if_ne (tgt := 46) dT_shapes_40 (by decide) (fun _ => ?_) (fun q => absurd q (by decide))
      have h5u : ∀ j, j < i → (va_up B1 5 (upd (B1 5) i 0)) 5 j = nI (kq (V k) (N k) (K 8) j) := fun j hj => (pk_un (by omega)).trans (h5 j hj)
      have hDi : ∀ q, 1 ≤ q → q ≤ 3 → (va_up B1 5 (upd (B1 5) i 0)) 6 (4 * i + q) = DP (V k) (N k) (K 8) i q := fun q a b => hD i (by omega) (by omega) q a b
      have hbf : (bef (V k) (N k) (K 8) i) < 1000 := bef_lt
      refine g_T_s46 hi40 h5u ?_
      refine aw_iconst (v := 0) dT_shapes_63 (by decide) ?_
      refine si7_4 dT_shapes_64 (by decide) ?_
      refine aw_iconst (v := 1) dT_shapes_66 (by decide) ?_
      refine si7_5 dT_shapes_67 (by decide) ?_
      refine aw_iload dT_shapes_69 rfl ?_
      refine aw_iconst (v := 4) dT_shapes_71 (by decide) ?_
      refine aw_icmp_ge (tgt := 149) dT_shapes_72 (by decide) (fun q => absurd q (by decide)) (fun _ => ?_)
      refine g_T_s75 (q := 1) (by exact h1) hi40 hbf (by decide) (by decide) hDi ?_
      refine aw_iload dT_shapes_103 rfl ?_
      refine aw_if_eq (tgt := 139) dT_shapes_105 (by decide) (fun _ => ?_) (fun q => absurd q (by decide))
      refine aw_iload dT_shapes_139 rfl ?_
      refine si7_4 dT_shapes_141 (by decide) ?_
      refine ic7_5 (w := 2) dT_shapes_143 (by decide) (by decide) ?_
      refine aw_goto (tgt := 69) dT_shapes_146 (by decide) ?_
      refine aw_iload dT_shapes_69 rfl ?_
      refine aw_iconst (v := 4) dT_shapes_71 (by decide) ?_
      refine aw_icmp_ge (tgt := 149) dT_shapes_72 (by decide) (fun q => absurd q (by decide)) (fun _ => ?_)
      refine g_T_s75 (q := 2) (by exact h1) hi40 hbf (by decide) (by decide) hDi ?_
      refine g_T_s103 (q := 2) (bb := 1) (by exact h1) hi40 hbf (by decide) (by decide) hDi (by decide) (by decide) ?_
      refine ic7_5 (w := 3) dT_shapes_143 (by decide) (by decide) ?_
      refine aw_goto (tgt := 69) dT_shapes_146 (by decide) ?_
      refine aw_iload dT_shapes_69 rfl ?_
      refine aw_iconst (v := 4) dT_shapes_71 (by decide) ?_
      refine aw_icmp_ge (tgt := 149) dT_shapes_72 (by decide) (fun q => absurd q (by decide)) (fun _ => ?_)
      refine g_T_s75 (q := 3) (by exact h1) hi40 hbf (by decide) (by decide) hDi ?_
      refine g_T_s103 (q := 3) (by exact h1) hi40 hbf (by decide) (by decide) hDi (by split <;> omega) (by split <;> omega) ?_
      refine ic7_5 (w := 4) dT_shapes_143 (by decide) (by decide) ?_
      refine aw_goto (tgt := 69) dT_shapes_146 (by decide) ?_
      refine aw_iload dT_shapes_69 rfl ?_
      refine aw_iconst (v := 4) dT_shapes_71 (by decide) ?_
      refine aw_icmp_ge (tgt := 149) dT_shapes_72 (by decide) (fun _ => ?_) (fun q => absurd q (by decide))
      refine an_weak (L' := [some (.ref 0), some (.int (nI k)), some (.int (nI i)), some (.int (nI (bef (V k) (N k) (K 8) i))), some (.int (nI (kq (V k) (N k) (K 8) i))), none, none]) ?_ ⟨rfl, rfl, rfl, rfl, by rw [kq_eq, if_pos p37]; rfl, trivial⟩
      have hkr := kq_range (p := K 8) p37
      have hk0 : ¬ (kq (V k) (N k) (K 8) i) = 0 := by omega
      refine aw_aload_r dT_shapes_149 rfl ?_
      refine aw_get fg_T_29 dT_shapes_150 rfl rfl ?_
      refine aw_iload_n dT_shapes_153 rfl ?_
      refine aw_iload dT_shapes_154 rfl ?_
      refine an_stT dT_shapes_156 at_5 rfl hi40 (by decide) ?_
      refine aw_aload_r dT_shapes_157 rfl ?_
      refine aw_dup dT_shapes_158 rfl ?_
      refine aw_get fg_T_109 dT_shapes_159 rfl rfl ?_
      refine an_top (y := (alS (V k) (N k) (K 8) i)) h9 ?_
      refine aw_aload_r dT_shapes_162 rfl ?_
      refine aw_iload_n dT_shapes_163 rfl ?_
      refine aw_iload_n dT_shapes_164 rfl ?_
      refine aw_iload dT_shapes_165 rfl ?_
      refine an_callVr cg_T_98 (c_T_wayCost N V K _ _ (by exact h1) hk (by have := p37.1; omega) hkr.1 hkr.2) dT_shapes_167 rfl rfl rfl rfl rfl (Nat.le_of_ble_eq_true rfl) (Nat.le_of_ble_eq_true rfl) ?_
      refine aw_iload dT_shapes_170 rfl ?_
      refine aw_iload_n dT_shapes_172 rfl ?_
      refine aw_icmp_ne (tgt := 180) dT_shapes_173 (by decide) (fun c173 => ?_) (fun c173 => ?_)
      · have q0 : ¬ (kq (V k) (N k) (K 8) i) = (bef (V k) (N k) (K 8) i) := fun e => c173 (by rw [e])
        refine aw_aload_r dT_shapes_180 rfl ?_
        refine aw_get fg_T_22 dT_shapes_181 rfl rfl ?_
        refine an_top (y := K 8) h1.2.1 ?_
        refine aw_iadd dT_shapes_184 ?_
        refine aw_iadd dT_shapes_185 ?_
        refine an_putT fp_T_109 dT_shapes_186 (by decide) ?_
        refine aw_iload dT_shapes_189 rfl ?_
        refine aw_iload_n dT_shapes_191 rfl ?_
        refine aw_icmp_eq (tgt := 226) dT_shapes_192 (by decide) (fun c192 => absurd c192 c173) (fun c192 => ?_)
        refine aw_aload_r dT_shapes_195 rfl ?_
        refine aw_get fg_T_35 dT_shapes_196 rfl rfl ?_
        refine aw_aload_r dT_shapes_199 rfl ?_
        refine aw_get fg_T_106 dT_shapes_200 rfl rfl ?_
        refine aw_iload dT_shapes_203 rfl ?_
        refine an_stT dT_shapes_205 at_7 h10 (by omega) (by decide) ?_
        refine aw_aload_r dT_shapes_206 rfl ?_
        refine aw_get fg_T_38 dT_shapes_207 rfl rfl ?_
        refine aw_aload_r dT_shapes_210 rfl ?_
        refine aw_get fg_T_106 dT_shapes_211 rfl rfl ?_
        refine aw_iload_n dT_shapes_214 rfl ?_
        refine an_stT dT_shapes_215 at_8 h10 (by omega) (by decide) ?_
        refine aw_aload_r dT_shapes_216 rfl ?_
        refine aw_dup dT_shapes_217 rfl ?_
        refine aw_get fg_T_106 dT_shapes_218 rfl rfl ?_
        refine an_top (y := nI (spc (V k) (N k) (K 8) i)) h10 ?_
        refine aw_iconst (v := 1) dT_shapes_221 (by decide) ?_
        refine aw_iadd dT_shapes_222 ?_
        refine an_top (nI_1 _) ?_
        refine an_putT fp_T_106 dT_shapes_223 (by decide) ?_
        refine aw_aload_r dT_shapes_226 rfl ?_
        refine aw_get fg_T_41 dT_shapes_227 rfl rfl ?_
        refine aw_aload_r dT_shapes_230 rfl ?_
        refine aw_get fg_T_106 dT_shapes_231 rfl rfl ?_
        refine an_top (y := nI ((spc (V k) (N k) (K 8) i) + 1)) rfl ?_
        refine aw_iconst (v := 1) dT_shapes_234 (by decide) ?_
        refine aw_isub dT_shapes_235 ?_
        refine an_top (nI_pred _) ?_
        refine aw_iload_n dT_shapes_236 rfl ?_
        refine aw_iconst (v := 1) dT_shapes_237 (by decide) ?_
        refine aw_iadd dT_shapes_238 ?_
        refine an_top (nI_1 i) ?_
        refine an_stT dT_shapes_239 at_9 rfl (by omega) (by decide) ?_
        refine ic7_2 dT_shapes_240 (nI_1 i) (by decide) ?_
        refine aw_goto (tgt := 17) dT_shapes_243 (by decide) ?_
        exact an_weak (ih (i + 1) _ _ (by omega) (by exact h1) (by rw [spc_new hk0 q0]; rfl) (by rw [alS_new hk0 q0]; rfl) (fun j hj => kin2 h5 j hj) (by rw [spg_new hk0 q0, spc_new hk0 q0]; exact h7.snoc _) (by rw [spf_new hk0 q0, spc_new hk0 q0]; exact h8.snoc _) (by rw [spl_new hk0 q0, spc_new hk0 q0]; exact h11.snoc _) hD) ⟨rfl, rfl, rfl, trivial⟩
      · have q0 : (kq (V k) (N k) (K 8) i) = (bef (V k) (N k) (K 8) i) := nI_inj (by omega) (by omega) c173
        refine aw_iconst (v := 0) dT_shapes_176 (by decide) ?_
        refine aw_goto (tgt := 184) dT_shapes_177 (by decide) ?_
        refine aw_iadd dT_shapes_184 ?_
        refine aw_iadd dT_shapes_185 ?_
        refine an_putT fp_T_109 dT_shapes_186 (by decide) ?_
        refine aw_iload dT_shapes_189 rfl ?_
        refine aw_iload_n dT_shapes_191 rfl ?_
        refine aw_icmp_eq (tgt := 226) dT_shapes_192 (by decide) (fun c192 => ?_) (fun c192 => absurd c173 c192)
        refine aw_aload_r dT_shapes_226 rfl ?_
        refine aw_get fg_T_41 dT_shapes_227 rfl rfl ?_
        refine aw_aload_r dT_shapes_230 rfl ?_
        refine aw_get fg_T_106 dT_shapes_231 rfl rfl ?_
        refine an_top (y := nI (spc (V k) (N k) (K 8) i)) h10 ?_
        refine aw_iconst (v := 1) dT_shapes_234 (by decide) ?_
        refine aw_isub dT_shapes_235 ?_
        refine an_top (nI_pm (spc_pos i (fun e => hk0 (q0.trans e)))) ?_
        refine aw_iload_n dT_shapes_236 rfl ?_
        refine aw_iconst (v := 1) dT_shapes_237 (by decide) ?_
        refine aw_iadd dT_shapes_238 ?_
        refine an_top (nI_1 i) ?_
        refine an_stT dT_shapes_239 at_9 rfl (by omega) (by decide) ?_
        refine ic7_2 dT_shapes_240 (nI_1 i) (by decide) ?_
        refine aw_goto (tgt := 17) dT_shapes_243 (by decide) ?_
        exact an_weak (ih (i + 1) _ _ (by omega) (by exact h1) (by rw [spc_on hk0 q0]; exact h10) (by rw [alS_on hk0 q0]; rfl) (fun j hj => kin2 h5 j hj) (by rw [spg_on hk0 q0, spc_on hk0 q0]; exact h7) (by rw [spf_on hk0 q0, spc_on hk0 q0]; exact h8) (by rw [spl_on hk0 q0, spc_on hk0 q0]; exact h11.put _ _) hD) ⟨rfl, rfl, rfl, trivial⟩
    · refine aw_if_ne (tgt := 46) dT_shapes_40 (by decide) (fun q => absurd q (by decide)) (fun _ => ?_)
      refine aw_goto (tgt := 240) dT_shapes_43 (by decide) ?_
      refine ic7_2 dT_shapes_240 (nI_1 i) (by decide) ?_
      refine aw_goto (tgt := 17) dT_shapes_243 (by decide) ?_
      have hz : (kq (V k) (N k) (K 8) i) = 0 := kq_no p37
      exact an_weak (ih (i + 1) _ _ (by omega) (by exact h1) (by rw [spc_no hz]; exact h10) (by rw [alS_no hz]; exact h9) (kin0 h5 hz) (by rw [spg_no hz, spc_no hz]; exact h7) (by rw [spf_no hz, spc_no hz]; exact h8) (by rw [spl_no hz, spc_no hz]; exact h11) hD) ⟨rfl, rfl, rfl, trivial⟩

set_option maxHeartbeats 4000000 in
set_option maxRecDepth 100000 in
theorem c_T_shapes (N : Nat → Nat) (V : Nat → Nat → Int32) (K : Nat → Int32) (J : Nat → Int32) (B : Nat → Nat → Int32) (hI : TInv N V K J B) (hP : PInv N V K) {k : Nat} (hk : k < 4) : AM kT_shapes 6 [.ref 0, .int (nI k)] (hT J B) (SQT N V K k) := by
  refine AMet.of (by decide) (by simp [Value.category]) (Nat.le_of_ble_eq_true rfl) ?_
  show AN _ _ _ 0 [some _, some _, none, none, none, none, none] [] _
  refine aw_aload_r dT_shapes_0 rfl ?_
  refine aw_iload_n dT_shapes_1 rfl ?_
  refine an_callVx cg_T_102 (c_T_weighs N V K J B hI hP hk) dT_shapes_2 rfl rfl rfl rfl rfl (Nat.le_of_ble_eq_true rfl) (Nat.le_of_ble_eq_true rfl) ?_
  rintro _ _ ⟨rfl, B1, rfl, h1, hD⟩
  refine aw_aload_r dT_shapes_5 rfl ?_
  refine aw_iconst (v := 0) dT_shapes_6 (by decide) ?_
  refine an_putT fp_T_106 dT_shapes_7 (by decide) ?_
  refine aw_aload_r dT_shapes_10 rfl ?_
  refine aw_iconst (v := 0) dT_shapes_11 (by decide) ?_
  refine an_putT fp_T_109 dT_shapes_12 (by decide) ?_
  refine aw_iconst (v := 0) dT_shapes_15 (by decide) ?_
  refine si7_2 dT_shapes_16 (by decide) ?_
  exact an_weak (l_T_shapes N V K J B hI hP hk (N k) 0 _ _ (by omega) (show TInv N V K (upd (upd J 10 0) 9 0) B1 from h1) rfl rfl (fun j hj => by omega) AG.zero AG.zero AG.zero hD) ⟨rfl, rfl, rfl, trivial⟩
end
section
/-! the class's costs -/
section CCO
variable {A : Nat → Nat → Int32} {c m q i : Nat} {x : Int32}
theorem u_ne (h : i ≠ m) : (va_up A (16 + c) (upd (A (16 + c)) m x)) (16 + q) i = A (16 + q) i := by
  by_cases e : q = c
  · subst e; rw [up_s, pk_un h]
  · rw [up_n (by omega)]
theorem u_eq : (va_up A (16 + c) (upd (A (16 + c)) m x)) (16 + c) m = x := by rw [up_s, pk_us]
theorem u_q (h : q ≠ c) : (va_up A (16 + c) (upd (A (16 + c)) m x)) (16 + q) i = A (16 + q) i := by rw [up_n (by omega)]
end CCO
def tblC (A : Nat → Nat → Int32) (v : Nat → Int32) (n : Nat) (p : Int32) (m : Nat) : Prop := ∀ i, m ≤ i → wy v n i → ∀ kd, 1 ≤ kd → kd ≤ 3 → A (16 + kd) i = DP v n p i kd
theorem wc1 {v : Nat → Int32} {n i : Nat} (hv : VB v n) (w : wy v n i) : (if (0 : Int32) < -(v (i + 1) - v i) then -(v (i + 1) - v i) else 0) = wc v i 1 := by
  obtain ⟨e, h1, h2⟩ := wd_b hv w
  have en := i_neg (a := v (i + 1) - v i) (by omega)
  unfold wc
  rw [if_pos rfl]
  by_cases c : v (i + 1) - v i < 0
  · rw [if_pos c, if_pos]; rw [lt_T, en, z_0]; rw [lt_T, z_0] at c; omega
  · rw [if_neg c, if_neg]; rw [lt_T, en, z_0]; rw [lt_T, z_0] at c; omega
theorem wc3 {v : Nat → Int32} {i : Nat} : (if (0 : Int32) ≤ v (i + 1) - v i then v (i + 1) - v i else 0 - (v (i + 1) - v i)) = wc v i 3 := by
  unfold wc
  rw [if_neg (show ¬ (3 : Nat) = 1 by decide), if_neg (show ¬ (3 : Nat) = 2 by decide)]
  by_cases c : v (i + 1) - v i < 0
  · rw [if_pos c, if_neg (Int32.not_le.mpr c), Int32.zero_sub]
  · rw [if_neg c, if_pos (Int32.not_lt.mp c)]
end
section
set_option maxHeartbeats 4000000 in
set_option maxRecDepth 100000 in
theorem c_S_costOfWay1 (h : List AC) {v : Nat → Int32} {n i : Nat} (hv : VB v n) (w : wy v n i) : AM kS_costOfWay 2 [.int 1, .int (v (i + 1) - v i)] h (RQ (wc v i 1) h) := by
  refine AMet.of (by decide) (by simp [Value.category]) (Nat.le_of_ble_eq_true rfl) ?_
  show AN _ _ _ 0 [some _, some _] [] _
  refine aw_iload_n dS_costOfWay_0 rfl ?_
  refine aw_iconst (v := 1) dS_costOfWay_1 (by decide) ?_
  refine aw_icmp_ne (tgt := 12) dS_costOfWay_2 (by decide) (fun q => absurd q (by decide)) (fun _ => ?_)
  refine aw_iconst (v := 0) dS_costOfWay_5 (by decide) ?_
  refine aw_iload_n dS_costOfWay_6 rfl ?_
  refine aw_ineg dS_costOfWay_7 ?_
  refine aw_max cg_S_71 dS_costOfWay_8 (Nat.le_of_ble_eq_true rfl) (Nat.le_of_ble_eq_true rfl) ⟨Nat.le_refl _, Nat.le_refl _⟩ ?_
  refine an_top (wc1 hv w) ?_
  exact aw_iret rfl dS_costOfWay_11 ⟨rfl, rfl⟩

set_option maxHeartbeats 4000000 in
set_option maxRecDepth 100000 in
theorem c_S_costOfWay2 (h : List AC) {v : Nat → Int32} {n i : Nat} (hv : VB v n) (w : wy v n i) : AM kS_costOfWay 2 [.int 2, .int (v (i + 1) - v i)] h (RQ (wc v i 2) h) := by
  refine AMet.of (by decide) (by simp [Value.category]) (Nat.le_of_ble_eq_true rfl) ?_
  show AN _ _ _ 0 [some _, some _] [] _
  refine aw_iload_n dS_costOfWay_0 rfl ?_
  refine aw_iconst (v := 1) dS_costOfWay_1 (by decide) ?_
  refine aw_icmp_ne (tgt := 12) dS_costOfWay_2 (by decide) (fun _ => ?_) (fun q => absurd q (by decide))
  refine aw_iload_n dS_costOfWay_12 rfl ?_
  refine aw_iconst (v := 2) dS_costOfWay_13 (by decide) ?_
  refine aw_icmp_ne (tgt := 25) dS_costOfWay_14 (by decide) (fun q => absurd q (by decide)) (fun _ => ?_)
  refine aw_iconst (v := 0) dS_costOfWay_17 (by decide) ?_
  refine aw_iload_n dS_costOfWay_18 rfl ?_
  refine aw_max cg_S_71 dS_costOfWay_19 (Nat.le_of_ble_eq_true rfl) (Nat.le_of_ble_eq_true rfl) ⟨Nat.le_refl _, Nat.le_refl _⟩ ?_
  refine an_top (show _ = wc v i 2 by unfold wc; rw [if_neg (show ¬ (2 : Nat) = 1 by decide), if_pos (rfl : (2 : Nat) = 2)]) ?_
  refine aw_goto (tgt := 29) dS_costOfWay_22 (by decide) ?_
  exact aw_iret rfl dS_costOfWay_29 ⟨rfl, rfl⟩

set_option maxHeartbeats 4000000 in
set_option maxRecDepth 100000 in
theorem c_S_costOfWay3 (h : List AC) {v : Nat → Int32} {n i : Nat} (hv : VB v n) (w : wy v n i) : AM kS_costOfWay 2 [.int 3, .int (v (i + 1) - v i)] h (RQ (wc v i 3) h) := by
  refine AMet.of (by decide) (by simp [Value.category]) (Nat.le_of_ble_eq_true rfl) ?_
  show AN _ _ _ 0 [some _, some _] [] _
  refine aw_iload_n dS_costOfWay_0 rfl ?_
  refine aw_iconst (v := 1) dS_costOfWay_1 (by decide) ?_
  refine aw_icmp_ne (tgt := 12) dS_costOfWay_2 (by decide) (fun _ => ?_) (fun q => absurd q (by decide))
  refine aw_iload_n dS_costOfWay_12 rfl ?_
  refine aw_iconst (v := 2) dS_costOfWay_13 (by decide) ?_
  refine aw_icmp_ne (tgt := 25) dS_costOfWay_14 (by decide) (fun _ => ?_) (fun q => absurd q (by decide))
  refine aw_iload_n dS_costOfWay_25 rfl ?_
  refine aw_abs cg_S_76 dS_costOfWay_26 (Nat.le_of_ble_eq_true rfl) (Nat.le_of_ble_eq_true rfl) ⟨Nat.le_refl _, Nat.le_refl _⟩ ?_
  refine an_top wc3 ?_
  exact aw_iret rfl dS_costOfWay_29 ⟨rfl, rfl⟩

set_option maxHeartbeats 4000000 in
set_option maxRecDepth 100000 in
theorem c_S_costBehind (I : Nat → Int32) (A : Nat → Nat → Int32) {b i q : Nat} (p : Int32) (hb : b < 1000) (hi : i < 40) (hq : q < 4) : AM kS_costBehind 1 [.ref 10, .int (nI b), .int (nI i), .int (nI q), .int p] (hC I A) (RQ (cb (fun q => A (16 + q) i) p b q) (hC I A)) := by
  refine AMet.of (by decide) (by simp [Value.category]) (Nat.le_of_ble_eq_true rfl) ?_
  show AN _ _ _ 0 [some _, some _, some _, some _, some _] [] _
  refine aw_iload_n dS_costBehind_0 rfl ?_
  refine aw_iload_n dS_costBehind_1 rfl ?_
  refine aw_icmp_ne (tgt := 16) dS_costBehind_2 (by decide) (fun c2 => ?_) (fun c2 => ?_)
  · refine aw_aload_r dS_costBehind_16 rfl ?_
    refine aw_get fg_S_26 dS_costBehind_17 rfl rfl ?_
    refine aw_iload_n dS_costBehind_20 rfl ?_
    refine an_costs dS_costBehind_21 rfl hq ?_
    refine aw_iload_n dS_costBehind_22 rfl ?_
    refine an_ldC dS_costBehind_23 (ac_cost hq) rfl hi (by decide) ?_
    refine aw_iload dS_costBehind_24 rfl ?_
    refine aw_iadd dS_costBehind_26 ?_
    exact aw_iret rfl dS_costBehind_27 ⟨rfl, by unfold cb; rw [if_neg (fun e => c2 (by rw [e]))]⟩
  · refine aw_aload_r dS_costBehind_5 rfl ?_
    refine aw_get fg_S_26 dS_costBehind_6 rfl rfl ?_
    refine aw_iload_n dS_costBehind_9 rfl ?_
    refine an_costs dS_costBehind_10 rfl hq ?_
    refine aw_iload_n dS_costBehind_11 rfl ?_
    refine an_ldC dS_costBehind_12 (ac_cost hq) rfl hi (by decide) ?_
    refine aw_goto (tgt := 27) dS_costBehind_13 (by decide) ?_
    exact aw_iret rfl dS_costBehind_27 ⟨rfl, by unfold cb; rw [if_pos (nI_inj (by omega) (by omega) c2)]⟩

set_option maxHeartbeats 4000000 in
set_option maxRecDepth 100000 in
theorem c_S_bestKind (I : Nat → Int32) (A : Nat → Nat → Int32) {b i : Nat} (p : Int32) (hb : b < 1000) (hi : i < 40) : AM kS_bestKind 2 [.ref 10, .int (nI b), .int (nI i), .int p] (hC I A) (RQ (nI (bk (fun q => A (16 + q) i) p b)) (hC I A)) := by
  refine AMet.of (by decide) (by simp [Value.category]) (Nat.le_of_ble_eq_true rfl) ?_
  show AN _ _ _ 0 [some _, some _, some _, some _, none, none] [] _
  refine aw_iconst (v := 1) dS_bestKind_0 (by decide) ?_
  refine si6_4 dS_bestKind_1 (by decide) ?_
  refine aw_iconst (v := 2) dS_bestKind_3 (by decide) ?_
  refine si6_5 dS_bestKind_4 (by decide) ?_
  refine aw_iload dS_bestKind_6 rfl ?_
  refine aw_iconst (v := 3) dS_bestKind_8 (by decide) ?_
  refine aw_icmp_gt (tgt := 43) dS_bestKind_9 (by decide) (fun q => absurd q (by decide)) (fun _ => ?_)
  refine aw_aload_r dS_bestKind_12 rfl ?_
  refine aw_iload_n dS_bestKind_13 rfl ?_
  refine aw_iload_n dS_bestKind_14 rfl ?_
  refine aw_iload dS_bestKind_15 rfl ?_
  refine aw_iload_n dS_bestKind_17 rfl ?_
  refine an_callVr cg_S_67 (c_S_costBehind I A (b := b) (i := i) (q := 2) p hb hi (by decide)) dS_bestKind_18 rfl rfl rfl rfl rfl (Nat.le_of_ble_eq_true rfl) (Nat.le_of_ble_eq_true rfl) ?_
  refine aw_aload_r dS_bestKind_21 rfl ?_
  refine aw_iload_n dS_bestKind_22 rfl ?_
  refine aw_iload_n dS_bestKind_23 rfl ?_
  refine aw_iload dS_bestKind_24 rfl ?_
  refine aw_iload_n dS_bestKind_26 rfl ?_
  refine an_callVr cg_S_67 (c_S_costBehind I A (b := b) (i := i) (q := 1) p hb hi (by decide)) dS_bestKind_27 rfl rfl rfl rfl rfl (Nat.le_of_ble_eq_true rfl) (Nat.le_of_ble_eq_true rfl) ?_
  refine aw_icmp_ge (tgt := 37) dS_bestKind_30 (by decide) (fun c30 => ?_) (fun c30 => ?_)
  · refine ic6_5 (w := 3) dS_bestKind_37 (by decide) (by decide) ?_
    refine aw_goto (tgt := 6) dS_bestKind_40 (by decide) ?_
    refine aw_iload dS_bestKind_6 rfl ?_
    refine aw_iconst (v := 3) dS_bestKind_8 (by decide) ?_
    refine aw_icmp_gt (tgt := 43) dS_bestKind_9 (by decide) (fun q => absurd q (by decide)) (fun _ => ?_)
    refine aw_aload_r dS_bestKind_12 rfl ?_
    refine aw_iload_n dS_bestKind_13 rfl ?_
    refine aw_iload_n dS_bestKind_14 rfl ?_
    refine aw_iload dS_bestKind_15 rfl ?_
    refine aw_iload_n dS_bestKind_17 rfl ?_
    refine an_callVr cg_S_67 (c_S_costBehind I A (b := b) (i := i) (q := 3) p hb hi (by decide)) dS_bestKind_18 rfl rfl rfl rfl rfl (Nat.le_of_ble_eq_true rfl) (Nat.le_of_ble_eq_true rfl) ?_
    refine aw_aload_r dS_bestKind_21 rfl ?_
    refine aw_iload_n dS_bestKind_22 rfl ?_
    refine aw_iload_n dS_bestKind_23 rfl ?_
    refine aw_iload dS_bestKind_24 rfl ?_
    refine aw_iload_n dS_bestKind_26 rfl ?_
    refine an_callVr cg_S_67 (c_S_costBehind I A (b := b) (i := i) (q := 1) p hb hi (by decide)) dS_bestKind_27 rfl rfl rfl rfl rfl (Nat.le_of_ble_eq_true rfl) (Nat.le_of_ble_eq_true rfl) ?_
    refine aw_icmp_ge (tgt := 37) dS_bestKind_30 (by decide) (fun c30_2 => ?_) (fun c30_2 => ?_)
    · refine ic6_5 (w := 4) dS_bestKind_37 (by decide) (by decide) ?_
      refine aw_goto (tgt := 6) dS_bestKind_40 (by decide) ?_
      refine aw_iload dS_bestKind_6 rfl ?_
      refine aw_iconst (v := 3) dS_bestKind_8 (by decide) ?_
      refine aw_icmp_gt (tgt := 43) dS_bestKind_9 (by decide) (fun _ => ?_) (fun q => absurd q (by decide))
      refine aw_iload dS_bestKind_43 rfl ?_
      exact aw_iret rfl dS_bestKind_45 ⟨rfl, by unfold bk; rw [show bk2 (fun q => A (16 + q) i) p b = 1 by unfold bk2; rw [if_neg (Int32.not_lt.mpr c30)]]; rw [if_neg (Int32.not_lt.mpr c30_2)]; rfl⟩
    · refine aw_iload dS_bestKind_33 rfl ?_
      refine si6_4 dS_bestKind_35 (by decide) ?_
      refine ic6_5 (w := 4) dS_bestKind_37 (by decide) (by decide) ?_
      refine aw_goto (tgt := 6) dS_bestKind_40 (by decide) ?_
      refine aw_iload dS_bestKind_6 rfl ?_
      refine aw_iconst (v := 3) dS_bestKind_8 (by decide) ?_
      refine aw_icmp_gt (tgt := 43) dS_bestKind_9 (by decide) (fun _ => ?_) (fun q => absurd q (by decide))
      refine aw_iload dS_bestKind_43 rfl ?_
      exact aw_iret rfl dS_bestKind_45 ⟨rfl, by unfold bk; rw [show bk2 (fun q => A (16 + q) i) p b = 1 by unfold bk2; rw [if_neg (Int32.not_lt.mpr c30)]]; rw [if_pos (Int32.not_le.mp c30_2)]; rfl⟩
  · refine aw_iload dS_bestKind_33 rfl ?_
    refine si6_4 dS_bestKind_35 (by decide) ?_
    refine ic6_5 (w := 3) dS_bestKind_37 (by decide) (by decide) ?_
    refine aw_goto (tgt := 6) dS_bestKind_40 (by decide) ?_
    refine aw_iload dS_bestKind_6 rfl ?_
    refine aw_iconst (v := 3) dS_bestKind_8 (by decide) ?_
    refine aw_icmp_gt (tgt := 43) dS_bestKind_9 (by decide) (fun q => absurd q (by decide)) (fun _ => ?_)
    refine aw_aload_r dS_bestKind_12 rfl ?_
    refine aw_iload_n dS_bestKind_13 rfl ?_
    refine aw_iload_n dS_bestKind_14 rfl ?_
    refine aw_iload dS_bestKind_15 rfl ?_
    refine aw_iload_n dS_bestKind_17 rfl ?_
    refine an_callVr cg_S_67 (c_S_costBehind I A (b := b) (i := i) (q := 3) p hb hi (by decide)) dS_bestKind_18 rfl rfl rfl rfl rfl (Nat.le_of_ble_eq_true rfl) (Nat.le_of_ble_eq_true rfl) ?_
    refine aw_aload_r dS_bestKind_21 rfl ?_
    refine aw_iload_n dS_bestKind_22 rfl ?_
    refine aw_iload_n dS_bestKind_23 rfl ?_
    refine aw_iload dS_bestKind_24 rfl ?_
    refine aw_iload_n dS_bestKind_26 rfl ?_
    refine an_callVr cg_S_67 (c_S_costBehind I A (b := b) (i := i) (q := 2) p hb hi (by decide)) dS_bestKind_27 rfl rfl rfl rfl rfl (Nat.le_of_ble_eq_true rfl) (Nat.le_of_ble_eq_true rfl) ?_
    refine aw_icmp_ge (tgt := 37) dS_bestKind_30 (by decide) (fun c30_2 => ?_) (fun c30_2 => ?_)
    · refine ic6_5 (w := 4) dS_bestKind_37 (by decide) (by decide) ?_
      refine aw_goto (tgt := 6) dS_bestKind_40 (by decide) ?_
      refine aw_iload dS_bestKind_6 rfl ?_
      refine aw_iconst (v := 3) dS_bestKind_8 (by decide) ?_
      refine aw_icmp_gt (tgt := 43) dS_bestKind_9 (by decide) (fun _ => ?_) (fun q => absurd q (by decide))
      refine aw_iload dS_bestKind_43 rfl ?_
      exact aw_iret rfl dS_bestKind_45 ⟨rfl, by unfold bk; rw [show bk2 (fun q => A (16 + q) i) p b = 2 by unfold bk2; rw [if_pos (Int32.not_le.mp c30)]]; rw [if_neg (Int32.not_lt.mpr c30_2)]; rfl⟩
    · refine aw_iload dS_bestKind_33 rfl ?_
      refine si6_4 dS_bestKind_35 (by decide) ?_
      refine ic6_5 (w := 4) dS_bestKind_37 (by decide) (by decide) ?_
      refine aw_goto (tgt := 6) dS_bestKind_40 (by decide) ?_
      refine aw_iload dS_bestKind_6 rfl ?_
      refine aw_iconst (v := 3) dS_bestKind_8 (by decide) ?_
      refine aw_icmp_gt (tgt := 43) dS_bestKind_9 (by decide) (fun _ => ?_) (fun q => absurd q (by decide))
      refine aw_iload dS_bestKind_43 rfl ?_
      exact aw_iret rfl dS_bestKind_45 ⟨rfl, by unfold bk; rw [show bk2 (fun q => A (16 + q) i) p b = 2 by unfold bk2; rw [if_pos (Int32.not_le.mp c30)]]; rw [if_pos (Int32.not_le.mp c30_2)]; rfl⟩

theorem upC {A : Nat → Nat → Int32} {c m : Nat} {x : Int32} {g : Nat → Int32} (h : ∀ q, 1 ≤ q → q ≤ 3 → A (16 + q) (m + 1) = g q) : ∀ q, 1 ≤ q → q ≤ 3 → (va_up A (16 + c) (upd (A (16 + c)) m x)) (16 + q) (m + 1) = g q := fun q a b => by
  rw [u_ne (by omega)]; exact h q a b
def WQC (N : Nat → Nat) (V : Nat → Nat → Int32) (K I : Nat → Int32) (A : Nat → Nat → Int32) (k : Nat) : QT := fun r h' => r = none ∧ ∃ A', h' = hC I A' ∧ CInv N V K I A' ∧ tblC A' (V k) (N k) (K 8) 0 ∧ A' 27 = A 27
set_option maxHeartbeats 4000000 in
set_option maxRecDepth 100000 in
theorem l_S_weighWays (N : Nat → Nat) (V : Nat → Nat → Int32) (K : Nat → Int32) (I : Nat → Int32) (A : Nat → Nat → Int32) (hI : CInv N V K I A) (hP : PInv N V K) {k : Nat} (hk : k < 4) : ∀ (m : Nat) (A1 : Nat → Nat → Int32), m ≤ 39 → CInv N V K I A1 → tblC A1 (V k) (N k) (K 8) m → A1 27 = A 27 → AN kS_weighWays 4 (WQC N V K I A k) 3 [some (.ref 10), some (.ref (2 + 2 * k)), some (.int (K 8)), some (.int (nI m - 1)), none, none] [] (hC I A1) := by
  have hv := hP.vb hk
  have h40 := hI.n k hk
  have h01 : 1 < 4 := by decide
  have h02 : 2 < 4 := by decide
  have h03 : 3 < 4 := by decide
  intro m
  induction m with
  | zero =>
    intro A1 hm h1 hD h27
    refine aw_iload_n dS_weighWays_3 rfl ?_
    refine aw_if_lt (tgt := 114) dS_weighWays_4 (by decide) (fun c4 => ?_) (fun c4 => absurd (by decide) c4)
    exact aw_vret rfl dS_weighWays_114 ⟨rfl, A1, rfl, h1, hD, h27⟩
  | succ m ih =>
    intro A1 hm h1 hD h27
    rw [nI_pred m]
    by_cases w1 : wy (V k) (N k) m
    · by_cases w2 : wy (V k) (N k) (m + 1)
      · refine aw_iload_n dS_weighWays_3 rfl ?_
        refine aw_if_lt (tgt := 114) dS_weighWays_4 (by decide) (fun c4 => absurd c4 (nI_pos (by omega))) (fun c4 => ?_)
        refine aw_aload_r dS_weighWays_7 rfl ?_
        refine aw_iload_n dS_weighWays_8 rfl ?_
        refine an_callVb cg_S_50 (c_R_hasWay N V K _ _ h1 hk m) dS_weighWays_9 rfl (hC_row _ _ hk) rfl rfl rfl (Nat.le_of_ble_eq_true rfl) (Nat.le_of_ble_eq_true rfl) (fun p9 => ?_) (fun q9 => absurd ((wy_hv hI.n hk (by omega)).mpr w1) q9)
        refine aw_if_ne (tgt := 18) dS_weighWays_12 (by decide) (fun _ => ?_) (fun q => absurd q (by decide))
        refine aw_aload_r dS_weighWays_18 rfl ?_
        refine an_getR hk fg_S_56 dS_weighWays_19 rfl ?_
        refine aw_iload_n dS_weighWays_22 rfl ?_
        refine aw_iconst (v := 1) dS_weighWays_23 (by decide) ?_
        refine aw_iadd dS_weighWays_24 ?_
        refine an_top (nI_1 m) ?_
        refine an_ldC dS_weighWays_25 (ac_val hk) rfl (by have := w1.1; omega) (by decide) ?_
        rw [(h1.1 k hk).2.2.2.2 (m + 1) (by have := w1.1; omega)]
        refine aw_aload_r dS_weighWays_26 rfl ?_
        refine an_getR hk fg_S_56 dS_weighWays_27 rfl ?_
        refine aw_iload_n dS_weighWays_30 rfl ?_
        refine an_ldC dS_weighWays_31 (ac_val hk) rfl (by have := w1.1; omega) (by decide) ?_
        rw [(h1.1 k hk).2.2.2.2 m (by have := w1.1; omega)]
        refine aw_isub dS_weighWays_32 ?_
        refine si6_4 dS_weighWays_33 (by decide) ?_
        have hA : ∀ q, 1 ≤ q → q ≤ 3 → A1 (16 + q) (m + 1) = DP (V k) (N k) (K 8) (m + 1) q := fun q a b => hD (m + 1) (by omega) w2 q a b
        refine aw_iconst (v := 1) dS_weighWays_35 (by decide) ?_
        refine si6_5 dS_weighWays_36 (by decide) ?_
        refine aw_iload dS_weighWays_38 rfl ?_
        refine aw_iconst (v := 3) dS_weighWays_40 (by decide) ?_
        refine aw_icmp_gt (tgt := 108) dS_weighWays_41 (by decide) (fun q => absurd q (by decide)) (fun _ => ?_)
        refine aw_aload_r dS_weighWays_44 rfl ?_
        refine aw_get fg_S_26 dS_weighWays_45 rfl rfl ?_
        refine aw_iload dS_weighWays_48 rfl ?_
        refine an_costs dS_weighWays_50 (rfl : (1 : Int32) = nI 1) h01 ?_
        refine aw_iload_n dS_weighWays_51 rfl ?_
        refine aw_iload dS_weighWays_52 rfl ?_
        refine aw_iload dS_weighWays_54 rfl ?_
        refine an_callSr cg_S_59 (c_S_costOfWay1 _ hv w1) dS_weighWays_56 rfl rfl (Nat.le_of_ble_eq_true rfl) (Nat.le_of_ble_eq_true rfl) ?_
        refine an_stC dS_weighWays_59 (ac_cost h01) rfl (by omega) (by decide) ?_
        refine aw_aload_r dS_weighWays_60 rfl ?_
        refine aw_iload_n dS_weighWays_61 rfl ?_
        refine aw_iconst (v := 1) dS_weighWays_62 (by decide) ?_
        refine aw_iadd dS_weighWays_63 ?_
        refine an_top (nI_1 m) ?_
        refine an_callVb cg_S_50 (c_R_hasWay N V K _ _ (cinv_a (h1) (by decide) _) hk (m + 1)) dS_weighWays_64 rfl (hC_row _ _ hk) rfl rfl rfl (Nat.le_of_ble_eq_true rfl) (Nat.le_of_ble_eq_true rfl) (fun p64 => ?_) (fun q9 => absurd ((wy_hv hI.n hk (by omega)).mpr w2) q9)
        refine aw_if_eq (tgt := 102) dS_weighWays_67 (by decide) (fun q => absurd q (by decide)) (fun _ => ?_)
        refine aw_aload_r dS_weighWays_70 rfl ?_
        refine aw_get fg_S_26 dS_weighWays_71 rfl rfl ?_
        refine aw_iload dS_weighWays_74 rfl ?_
        refine an_costs dS_weighWays_76 (rfl : (1 : Int32) = nI 1) h01 ?_
        refine aw_iload_n dS_weighWays_77 rfl ?_
        refine aw_dup2 dS_weighWays_78 rfl rfl ?_
        refine an_ldC dS_weighWays_79 (ac_cost h01) rfl (by omega) (by decide) ?_
        refine an_top (y := wc (V k) m 1) u_eq ?_
        refine aw_aload_r dS_weighWays_80 rfl ?_
        refine aw_iload dS_weighWays_81 rfl ?_
        refine aw_iload_n dS_weighWays_83 rfl ?_
        refine aw_iconst (v := 1) dS_weighWays_84 (by decide) ?_
        refine aw_iadd dS_weighWays_85 ?_
        refine an_top (nI_1 m) ?_
        refine aw_aload_r dS_weighWays_86 rfl ?_
        refine aw_iload dS_weighWays_87 rfl ?_
        refine aw_iload_n dS_weighWays_89 rfl ?_
        refine aw_iconst (v := 1) dS_weighWays_90 (by decide) ?_
        refine aw_iadd dS_weighWays_91 ?_
        refine an_top (nI_1 m) ?_
        refine aw_iload_n dS_weighWays_92 rfl ?_
        refine an_callVr cg_S_63 (c_S_bestKind I _ (b := 1) (i := m + 1) (K 8) (by decide) (by have := w2.1; omega)) dS_weighWays_93 rfl rfl rfl rfl rfl (Nat.le_of_ble_eq_true rfl) (Nat.le_of_ble_eq_true rfl) ?_
        refine an_top (congrArg nI (bk_congr (upC hA))) ?_
        refine aw_iload_n dS_weighWays_96 rfl ?_
        refine an_callVr cg_S_67 (c_S_costBehind I _ (b := 1) (i := m + 1) (q := bk (DP (V k) (N k) (K 8) (m + 1)) (K 8) 1) (K 8) (by decide) (by have := w2.1; omega) (by have := bk_range (g := (DP (V k) (N k) (K 8) (m + 1))) (p := K 8) (b := 1); omega)) dS_weighWays_97 rfl rfl rfl rfl rfl (Nat.le_of_ble_eq_true rfl) (Nat.le_of_ble_eq_true rfl) ?_
        refine an_top ((cb_congr (upC hA) bk_range.1 bk_range.2).trans mn3_bk.symm) ?_
        refine aw_iadd dS_weighWays_100 ?_
        refine an_top (show wc (V k) m 1 + mn3 (DP (V k) (N k) (K 8) (m + 1)) (K 8) 1 = DP (V k) (N k) (K 8) m 1 by rw [DP_eq (by omega), if_pos w1, if_pos w2]) ?_
        refine an_stC dS_weighWays_101 (ac_cost h01) rfl (by omega) (by decide) ?_
        refine ic6_5 (w := 2) dS_weighWays_102 (by decide) (by decide) ?_
        refine aw_goto (tgt := 38) dS_weighWays_105 (by decide) ?_
        refine aw_iload dS_weighWays_38 rfl ?_
        refine aw_iconst (v := 3) dS_weighWays_40 (by decide) ?_
        refine aw_icmp_gt (tgt := 108) dS_weighWays_41 (by decide) (fun q => absurd q (by decide)) (fun _ => ?_)
        refine aw_aload_r dS_weighWays_44 rfl ?_
        refine aw_get fg_S_26 dS_weighWays_45 rfl rfl ?_
        refine aw_iload dS_weighWays_48 rfl ?_
        refine an_costs dS_weighWays_50 (rfl : (2 : Int32) = nI 2) h02 ?_
        refine aw_iload_n dS_weighWays_51 rfl ?_
        refine aw_iload dS_weighWays_52 rfl ?_
        refine aw_iload dS_weighWays_54 rfl ?_
        refine an_callSr cg_S_59 (c_S_costOfWay2 _ hv w1) dS_weighWays_56 rfl rfl (Nat.le_of_ble_eq_true rfl) (Nat.le_of_ble_eq_true rfl) ?_
        refine an_stC dS_weighWays_59 (ac_cost h02) rfl (by omega) (by decide) ?_
        refine aw_aload_r dS_weighWays_60 rfl ?_
        refine aw_iload_n dS_weighWays_61 rfl ?_
        refine aw_iconst (v := 1) dS_weighWays_62 (by decide) ?_
        refine aw_iadd dS_weighWays_63 ?_
        refine an_top (nI_1 m) ?_
        refine an_callVb cg_S_50 (c_R_hasWay N V K _ _ (cinv_a (cinv_a (cinv_a (h1) (by decide) _) (by decide) _) (by decide) _) hk (m + 1)) dS_weighWays_64 rfl (hC_row _ _ hk) rfl rfl rfl (Nat.le_of_ble_eq_true rfl) (Nat.le_of_ble_eq_true rfl) (fun p64 => ?_) (fun q9 => absurd ((wy_hv hI.n hk (by omega)).mpr w2) q9)
        refine aw_if_eq (tgt := 102) dS_weighWays_67 (by decide) (fun q => absurd q (by decide)) (fun _ => ?_)
        refine aw_aload_r dS_weighWays_70 rfl ?_
        refine aw_get fg_S_26 dS_weighWays_71 rfl rfl ?_
        refine aw_iload dS_weighWays_74 rfl ?_
        refine an_costs dS_weighWays_76 (rfl : (2 : Int32) = nI 2) h02 ?_
        refine aw_iload_n dS_weighWays_77 rfl ?_
        refine aw_dup2 dS_weighWays_78 rfl rfl ?_
        refine an_ldC dS_weighWays_79 (ac_cost h02) rfl (by omega) (by decide) ?_
        refine an_top (y := wc (V k) m 2) u_eq ?_
        refine aw_aload_r dS_weighWays_80 rfl ?_
        refine aw_iload dS_weighWays_81 rfl ?_
        refine aw_iload_n dS_weighWays_83 rfl ?_
        refine aw_iconst (v := 1) dS_weighWays_84 (by decide) ?_
        refine aw_iadd dS_weighWays_85 ?_
        refine an_top (nI_1 m) ?_
        refine aw_aload_r dS_weighWays_86 rfl ?_
        refine aw_iload dS_weighWays_87 rfl ?_
        refine aw_iload_n dS_weighWays_89 rfl ?_
        refine aw_iconst (v := 1) dS_weighWays_90 (by decide) ?_
        refine aw_iadd dS_weighWays_91 ?_
        refine an_top (nI_1 m) ?_
        refine aw_iload_n dS_weighWays_92 rfl ?_
        refine an_callVr cg_S_63 (c_S_bestKind I _ (b := 2) (i := m + 1) (K 8) (by decide) (by have := w2.1; omega)) dS_weighWays_93 rfl rfl rfl rfl rfl (Nat.le_of_ble_eq_true rfl) (Nat.le_of_ble_eq_true rfl) ?_
        refine an_top (congrArg nI (bk_congr (upC (upC (upC hA))))) ?_
        refine aw_iload_n dS_weighWays_96 rfl ?_
        refine an_callVr cg_S_67 (c_S_costBehind I _ (b := 2) (i := m + 1) (q := bk (DP (V k) (N k) (K 8) (m + 1)) (K 8) 2) (K 8) (by decide) (by have := w2.1; omega) (by have := bk_range (g := (DP (V k) (N k) (K 8) (m + 1))) (p := K 8) (b := 2); omega)) dS_weighWays_97 rfl rfl rfl rfl rfl (Nat.le_of_ble_eq_true rfl) (Nat.le_of_ble_eq_true rfl) ?_
        refine an_top ((cb_congr (upC (upC (upC hA))) bk_range.1 bk_range.2).trans mn3_bk.symm) ?_
        refine aw_iadd dS_weighWays_100 ?_
        refine an_top (show wc (V k) m 2 + mn3 (DP (V k) (N k) (K 8) (m + 1)) (K 8) 2 = DP (V k) (N k) (K 8) m 2 by rw [DP_eq (by omega), if_pos w1, if_pos w2]) ?_
        refine an_stC dS_weighWays_101 (ac_cost h02) rfl (by omega) (by decide) ?_
        refine ic6_5 (w := 3) dS_weighWays_102 (by decide) (by decide) ?_
        refine aw_goto (tgt := 38) dS_weighWays_105 (by decide) ?_
        refine aw_iload dS_weighWays_38 rfl ?_
        refine aw_iconst (v := 3) dS_weighWays_40 (by decide) ?_
        refine aw_icmp_gt (tgt := 108) dS_weighWays_41 (by decide) (fun q => absurd q (by decide)) (fun _ => ?_)
        refine aw_aload_r dS_weighWays_44 rfl ?_
        refine aw_get fg_S_26 dS_weighWays_45 rfl rfl ?_
        refine aw_iload dS_weighWays_48 rfl ?_
        refine an_costs dS_weighWays_50 (rfl : (3 : Int32) = nI 3) h03 ?_
        refine aw_iload_n dS_weighWays_51 rfl ?_
        refine aw_iload dS_weighWays_52 rfl ?_
        refine aw_iload dS_weighWays_54 rfl ?_
        refine an_callSr cg_S_59 (c_S_costOfWay3 _ hv w1) dS_weighWays_56 rfl rfl (Nat.le_of_ble_eq_true rfl) (Nat.le_of_ble_eq_true rfl) ?_
        refine an_stC dS_weighWays_59 (ac_cost h03) rfl (by omega) (by decide) ?_
        refine aw_aload_r dS_weighWays_60 rfl ?_
        refine aw_iload_n dS_weighWays_61 rfl ?_
        refine aw_iconst (v := 1) dS_weighWays_62 (by decide) ?_
        refine aw_iadd dS_weighWays_63 ?_
        refine an_top (nI_1 m) ?_
        refine an_callVb cg_S_50 (c_R_hasWay N V K _ _ (cinv_a (cinv_a (cinv_a (cinv_a (cinv_a (h1) (by decide) _) (by decide) _) (by decide) _) (by decide) _) (by decide) _) hk (m + 1)) dS_weighWays_64 rfl (hC_row _ _ hk) rfl rfl rfl (Nat.le_of_ble_eq_true rfl) (Nat.le_of_ble_eq_true rfl) (fun p64 => ?_) (fun q9 => absurd ((wy_hv hI.n hk (by omega)).mpr w2) q9)
        refine aw_if_eq (tgt := 102) dS_weighWays_67 (by decide) (fun q => absurd q (by decide)) (fun _ => ?_)
        refine aw_aload_r dS_weighWays_70 rfl ?_
        refine aw_get fg_S_26 dS_weighWays_71 rfl rfl ?_
        refine aw_iload dS_weighWays_74 rfl ?_
        refine an_costs dS_weighWays_76 (rfl : (3 : Int32) = nI 3) h03 ?_
        refine aw_iload_n dS_weighWays_77 rfl ?_
        refine aw_dup2 dS_weighWays_78 rfl rfl ?_
        refine an_ldC dS_weighWays_79 (ac_cost h03) rfl (by omega) (by decide) ?_
        refine an_top (y := wc (V k) m 3) u_eq ?_
        refine aw_aload_r dS_weighWays_80 rfl ?_
        refine aw_iload dS_weighWays_81 rfl ?_
        refine aw_iload_n dS_weighWays_83 rfl ?_
        refine aw_iconst (v := 1) dS_weighWays_84 (by decide) ?_
        refine aw_iadd dS_weighWays_85 ?_
        refine an_top (nI_1 m) ?_
        refine aw_aload_r dS_weighWays_86 rfl ?_
        refine aw_iload dS_weighWays_87 rfl ?_
        refine aw_iload_n dS_weighWays_89 rfl ?_
        refine aw_iconst (v := 1) dS_weighWays_90 (by decide) ?_
        refine aw_iadd dS_weighWays_91 ?_
        refine an_top (nI_1 m) ?_
        refine aw_iload_n dS_weighWays_92 rfl ?_
        refine an_callVr cg_S_63 (c_S_bestKind I _ (b := 3) (i := m + 1) (K 8) (by decide) (by have := w2.1; omega)) dS_weighWays_93 rfl rfl rfl rfl rfl (Nat.le_of_ble_eq_true rfl) (Nat.le_of_ble_eq_true rfl) ?_
        refine an_top (congrArg nI (bk_congr (upC (upC (upC (upC (upC hA))))))) ?_
        refine aw_iload_n dS_weighWays_96 rfl ?_
        refine an_callVr cg_S_67 (c_S_costBehind I _ (b := 3) (i := m + 1) (q := bk (DP (V k) (N k) (K 8) (m + 1)) (K 8) 3) (K 8) (by decide) (by have := w2.1; omega) (by have := bk_range (g := (DP (V k) (N k) (K 8) (m + 1))) (p := K 8) (b := 3); omega)) dS_weighWays_97 rfl rfl rfl rfl rfl (Nat.le_of_ble_eq_true rfl) (Nat.le_of_ble_eq_true rfl) ?_
        refine an_top ((cb_congr (upC (upC (upC (upC (upC hA))))) bk_range.1 bk_range.2).trans mn3_bk.symm) ?_
        refine aw_iadd dS_weighWays_100 ?_
        refine an_top (show wc (V k) m 3 + mn3 (DP (V k) (N k) (K 8) (m + 1)) (K 8) 3 = DP (V k) (N k) (K 8) m 3 by rw [DP_eq (by omega), if_pos w1, if_pos w2]) ?_
        refine an_stC dS_weighWays_101 (ac_cost h03) rfl (by omega) (by decide) ?_
        refine ic6_5 (w := 4) dS_weighWays_102 (by decide) (by decide) ?_
        refine aw_goto (tgt := 38) dS_weighWays_105 (by decide) ?_
        refine aw_iload dS_weighWays_38 rfl ?_
        refine aw_iconst (v := 3) dS_weighWays_40 (by decide) ?_
        refine aw_icmp_gt (tgt := 108) dS_weighWays_41 (by decide) (fun _ => ?_) (fun q => absurd q (by decide))
        refine ic6_3 dS_weighWays_108 (show nI m + Int32.ofInt (-1) = nI m - 1 by rw [Int32.sub_eq_add_neg]; rfl) (by decide) ?_
        refine aw_goto (tgt := 3) dS_weighWays_111 (by decide) ?_
        refine an_weak (ih _ (by omega) (cinv_a (cinv_a (cinv_a (cinv_a (cinv_a (cinv_a (h1) (by decide) _) (by decide) _) (by decide) _) (by decide) _) (by decide) _) (by decide) _) (fun i a w kd b c => ?_) h27) ⟨rfl, rfl, rfl, rfl, trivial⟩
        by_cases e : i = m
        · subst e
          rcases (show kd = 1 ∨ kd = 2 ∨ kd = 3 by omega) with rfl | rfl | rfl
          · rw [u_q (by decide), u_q (by decide), u_q (by decide), u_q (by decide), u_eq]
          · rw [u_q (by decide), u_q (by decide), u_eq]
          · rw [u_eq]
        · rw [u_ne e, u_ne e, u_ne e, u_ne e, u_ne e, u_ne e]
          exact hD i (by omega) w kd b c
      · refine aw_iload_n dS_weighWays_3 rfl ?_
        refine aw_if_lt (tgt := 114) dS_weighWays_4 (by decide) (fun c4 => absurd c4 (nI_pos (by omega))) (fun c4 => ?_)
        refine aw_aload_r dS_weighWays_7 rfl ?_
        refine aw_iload_n dS_weighWays_8 rfl ?_
        refine an_callVb cg_S_50 (c_R_hasWay N V K _ _ h1 hk m) dS_weighWays_9 rfl (hC_row _ _ hk) rfl rfl rfl (Nat.le_of_ble_eq_true rfl) (Nat.le_of_ble_eq_true rfl) (fun p9 => ?_) (fun q9 => absurd ((wy_hv hI.n hk (by omega)).mpr w1) q9)
        refine aw_if_ne (tgt := 18) dS_weighWays_12 (by decide) (fun _ => ?_) (fun q => absurd q (by decide))
        refine aw_aload_r dS_weighWays_18 rfl ?_
        refine an_getR hk fg_S_56 dS_weighWays_19 rfl ?_
        refine aw_iload_n dS_weighWays_22 rfl ?_
        refine aw_iconst (v := 1) dS_weighWays_23 (by decide) ?_
        refine aw_iadd dS_weighWays_24 ?_
        refine an_top (nI_1 m) ?_
        refine an_ldC dS_weighWays_25 (ac_val hk) rfl (by have := w1.1; omega) (by decide) ?_
        rw [(h1.1 k hk).2.2.2.2 (m + 1) (by have := w1.1; omega)]
        refine aw_aload_r dS_weighWays_26 rfl ?_
        refine an_getR hk fg_S_56 dS_weighWays_27 rfl ?_
        refine aw_iload_n dS_weighWays_30 rfl ?_
        refine an_ldC dS_weighWays_31 (ac_val hk) rfl (by have := w1.1; omega) (by decide) ?_
        rw [(h1.1 k hk).2.2.2.2 m (by have := w1.1; omega)]
        refine aw_isub dS_weighWays_32 ?_
        refine si6_4 dS_weighWays_33 (by decide) ?_
        refine aw_iconst (v := 1) dS_weighWays_35 (by decide) ?_
        refine si6_5 dS_weighWays_36 (by decide) ?_
        refine aw_iload dS_weighWays_38 rfl ?_
        refine aw_iconst (v := 3) dS_weighWays_40 (by decide) ?_
        refine aw_icmp_gt (tgt := 108) dS_weighWays_41 (by decide) (fun q => absurd q (by decide)) (fun _ => ?_)
        refine aw_aload_r dS_weighWays_44 rfl ?_
        refine aw_get fg_S_26 dS_weighWays_45 rfl rfl ?_
        refine aw_iload dS_weighWays_48 rfl ?_
        refine an_costs dS_weighWays_50 (rfl : (1 : Int32) = nI 1) h01 ?_
        refine aw_iload_n dS_weighWays_51 rfl ?_
        refine aw_iload dS_weighWays_52 rfl ?_
        refine aw_iload dS_weighWays_54 rfl ?_
        refine an_callSr cg_S_59 (c_S_costOfWay1 _ hv w1) dS_weighWays_56 rfl rfl (Nat.le_of_ble_eq_true rfl) (Nat.le_of_ble_eq_true rfl) ?_
        refine an_stC dS_weighWays_59 (ac_cost h01) rfl (by omega) (by decide) ?_
        refine aw_aload_r dS_weighWays_60 rfl ?_
        refine aw_iload_n dS_weighWays_61 rfl ?_
        refine aw_iconst (v := 1) dS_weighWays_62 (by decide) ?_
        refine aw_iadd dS_weighWays_63 ?_
        refine an_top (nI_1 m) ?_
        refine an_callVb cg_S_50 (c_R_hasWay N V K _ _ (cinv_a (h1) (by decide) _) hk (m + 1)) dS_weighWays_64 rfl (hC_row _ _ hk) rfl rfl rfl (Nat.le_of_ble_eq_true rfl) (Nat.le_of_ble_eq_true rfl) (fun q9 => absurd q9 (fun q => w2 ((wy_hv hI.n hk (by omega)).mp q))) (fun p64 => ?_)
        refine aw_if_eq (tgt := 102) dS_weighWays_67 (by decide) (fun _ => ?_) (fun q => absurd q (by decide))
        refine ic6_5 (w := 2) dS_weighWays_102 (by decide) (by decide) ?_
        refine aw_goto (tgt := 38) dS_weighWays_105 (by decide) ?_
        refine aw_iload dS_weighWays_38 rfl ?_
        refine aw_iconst (v := 3) dS_weighWays_40 (by decide) ?_
        refine aw_icmp_gt (tgt := 108) dS_weighWays_41 (by decide) (fun q => absurd q (by decide)) (fun _ => ?_)
        refine aw_aload_r dS_weighWays_44 rfl ?_
        refine aw_get fg_S_26 dS_weighWays_45 rfl rfl ?_
        refine aw_iload dS_weighWays_48 rfl ?_
        refine an_costs dS_weighWays_50 (rfl : (2 : Int32) = nI 2) h02 ?_
        refine aw_iload_n dS_weighWays_51 rfl ?_
        refine aw_iload dS_weighWays_52 rfl ?_
        refine aw_iload dS_weighWays_54 rfl ?_
        refine an_callSr cg_S_59 (c_S_costOfWay2 _ hv w1) dS_weighWays_56 rfl rfl (Nat.le_of_ble_eq_true rfl) (Nat.le_of_ble_eq_true rfl) ?_
        refine an_stC dS_weighWays_59 (ac_cost h02) rfl (by omega) (by decide) ?_
        refine aw_aload_r dS_weighWays_60 rfl ?_
        refine aw_iload_n dS_weighWays_61 rfl ?_
        refine aw_iconst (v := 1) dS_weighWays_62 (by decide) ?_
        refine aw_iadd dS_weighWays_63 ?_
        refine an_top (nI_1 m) ?_
        refine an_callVb cg_S_50 (c_R_hasWay N V K _ _ (cinv_a (cinv_a (h1) (by decide) _) (by decide) _) hk (m + 1)) dS_weighWays_64 rfl (hC_row _ _ hk) rfl rfl rfl (Nat.le_of_ble_eq_true rfl) (Nat.le_of_ble_eq_true rfl) (fun q9 => absurd q9 (fun q => w2 ((wy_hv hI.n hk (by omega)).mp q))) (fun p64 => ?_)
        refine aw_if_eq (tgt := 102) dS_weighWays_67 (by decide) (fun _ => ?_) (fun q => absurd q (by decide))
        refine ic6_5 (w := 3) dS_weighWays_102 (by decide) (by decide) ?_
        refine aw_goto (tgt := 38) dS_weighWays_105 (by decide) ?_
        refine aw_iload dS_weighWays_38 rfl ?_
        refine aw_iconst (v := 3) dS_weighWays_40 (by decide) ?_
        refine aw_icmp_gt (tgt := 108) dS_weighWays_41 (by decide) (fun q => absurd q (by decide)) (fun _ => ?_)
        refine aw_aload_r dS_weighWays_44 rfl ?_
        refine aw_get fg_S_26 dS_weighWays_45 rfl rfl ?_
        refine aw_iload dS_weighWays_48 rfl ?_
        refine an_costs dS_weighWays_50 (rfl : (3 : Int32) = nI 3) h03 ?_
        refine aw_iload_n dS_weighWays_51 rfl ?_
        refine aw_iload dS_weighWays_52 rfl ?_
        refine aw_iload dS_weighWays_54 rfl ?_
        refine an_callSr cg_S_59 (c_S_costOfWay3 _ hv w1) dS_weighWays_56 rfl rfl (Nat.le_of_ble_eq_true rfl) (Nat.le_of_ble_eq_true rfl) ?_
        refine an_stC dS_weighWays_59 (ac_cost h03) rfl (by omega) (by decide) ?_
        refine aw_aload_r dS_weighWays_60 rfl ?_
        refine aw_iload_n dS_weighWays_61 rfl ?_
        refine aw_iconst (v := 1) dS_weighWays_62 (by decide) ?_
        refine aw_iadd dS_weighWays_63 ?_
        refine an_top (nI_1 m) ?_
        refine an_callVb cg_S_50 (c_R_hasWay N V K _ _ (cinv_a (cinv_a (cinv_a (h1) (by decide) _) (by decide) _) (by decide) _) hk (m + 1)) dS_weighWays_64 rfl (hC_row _ _ hk) rfl rfl rfl (Nat.le_of_ble_eq_true rfl) (Nat.le_of_ble_eq_true rfl) (fun q9 => absurd q9 (fun q => w2 ((wy_hv hI.n hk (by omega)).mp q))) (fun p64 => ?_)
        refine aw_if_eq (tgt := 102) dS_weighWays_67 (by decide) (fun _ => ?_) (fun q => absurd q (by decide))
        refine ic6_5 (w := 4) dS_weighWays_102 (by decide) (by decide) ?_
        refine aw_goto (tgt := 38) dS_weighWays_105 (by decide) ?_
        refine aw_iload dS_weighWays_38 rfl ?_
        refine aw_iconst (v := 3) dS_weighWays_40 (by decide) ?_
        refine aw_icmp_gt (tgt := 108) dS_weighWays_41 (by decide) (fun _ => ?_) (fun q => absurd q (by decide))
        refine ic6_3 dS_weighWays_108 (show nI m + Int32.ofInt (-1) = nI m - 1 by rw [Int32.sub_eq_add_neg]; rfl) (by decide) ?_
        refine aw_goto (tgt := 3) dS_weighWays_111 (by decide) ?_
        refine an_weak (ih _ (by omega) (cinv_a (cinv_a (cinv_a (h1) (by decide) _) (by decide) _) (by decide) _) (fun i a w kd b c => ?_) h27) ⟨rfl, rfl, rfl, rfl, trivial⟩
        by_cases e : i = m
        · subst e
          rcases (show kd = 1 ∨ kd = 2 ∨ kd = 3 by omega) with rfl | rfl | rfl
          · rw [u_q (by decide), u_q (by decide), u_eq]; rw [DP_eq (by omega), if_pos w1, if_neg w2, Int32.add_zero]
          · rw [u_q (by decide), u_eq]; rw [DP_eq (by omega), if_pos w1, if_neg w2, Int32.add_zero]
          · rw [u_eq]; rw [DP_eq (by omega), if_pos w1, if_neg w2, Int32.add_zero]
        · rw [u_ne e, u_ne e, u_ne e]
          exact hD i (by omega) w kd b c
    · refine aw_iload_n dS_weighWays_3 rfl ?_
      refine aw_if_lt (tgt := 114) dS_weighWays_4 (by decide) (fun c4 => absurd c4 (nI_pos (by omega))) (fun c4 => ?_)
      refine aw_aload_r dS_weighWays_7 rfl ?_
      refine aw_iload_n dS_weighWays_8 rfl ?_
      refine an_callVb cg_S_50 (c_R_hasWay N V K _ _ h1 hk m) dS_weighWays_9 rfl (hC_row _ _ hk) rfl rfl rfl (Nat.le_of_ble_eq_true rfl) (Nat.le_of_ble_eq_true rfl) (fun q9 => absurd q9 (fun q => w1 ((wy_hv hI.n hk (by omega)).mp q))) (fun p9 => ?_)
      refine aw_if_ne (tgt := 18) dS_weighWays_12 (by decide) (fun q => absurd q (by decide)) (fun _ => ?_)
      refine aw_goto (tgt := 108) dS_weighWays_15 (by decide) ?_
      refine ic6_3 dS_weighWays_108 (show nI m + Int32.ofInt (-1) = nI m - 1 by rw [Int32.sub_eq_add_neg]; rfl) (by decide) ?_
      refine aw_goto (tgt := 3) dS_weighWays_111 (by decide) ?_
      exact an_weak (ih A1 (by omega) h1 (fun i a w kd b c => hD i (Nat.lt_of_le_of_ne a (fun e => w1 (by rw [e]; exact w))) w kd b c) h27) ⟨rfl, rfl, rfl, rfl, trivial⟩

set_option maxHeartbeats 4000000 in
set_option maxRecDepth 100000 in
theorem c_S_weighWays (N : Nat → Nat) (V : Nat → Nat → Int32) (K : Nat → Int32) (I : Nat → Int32) (A : Nat → Nat → Int32) (hI : CInv N V K I A) (hP : PInv N V K) {k : Nat} (hk : k < 4) : AM kS_weighWays 4 [.ref 10, .ref (2 + 2 * k), .int (K 8)] (hC I A) (WQC N V K I A k) := by
  refine AMet.of (by decide) (by simp [Value.category]) (Nat.le_of_ble_eq_true rfl) ?_
  show AN _ _ _ 0 [some _, some _, some _, none, none, none] [] _
  refine aw_bipush (v := 38) dS_weighWays_0 (by decide) ?_
  refine si6_3 dS_weighWays_2 (by decide) ?_
  exact an_weak (l_S_weighWays N V K I A hI hP hk 39 A (by omega) hI (fun i a w => by have := w.1; have := hI.n k hk; omega) rfl) ⟨rfl, rfl, rfl, rfl, trivial⟩
end
section
/-! what the spans are like; turns -/
section SPI
variable {v : Nat → Int32} {n : Nat} {p : Int32}
def SPok (v : Nat → Int32) (n : Nat) (p : Int32) (i : Nat) : Prop :=
  (∀ j, j < spc v n p i → spf v n p i j < spl v n p i j ∧ spl v n p i j ≤ i ∧ spl v n p i j < n ∧ 1 ≤ spg v n p i j ∧ spg v n p i j ≤ 3 ∧ kq v n p (spf v n p i j) = spg v n p i j) ∧
  (∀ j, j + 1 < spc v n p i → spl v n p i j ≤ spf v n p i (j + 1) ∧ (spl v n p i j = spf v n p i (j + 1) → spg v n p i j ≠ spg v n p i (j + 1))) ∧
  (¬ bef v n p i = 0 → 1 ≤ spc v n p i ∧ spl v n p i (spc v n p i - 1) = i ∧ spg v n p i (spc v n p i - 1) = bef v n p i) ∧
  (bef v n p i = 0 → 1 ≤ spc v n p i → spl v n p i (spc v n p i - 1) < i)
theorem kq_wy {i : Nat} (h : ¬ kq v n p i = 0) : wy v n i := by
  by_cases w : wy v n i
  · exact w
  · exact absurd (kq_no w) h
theorem sp_ok : ∀ i, SPok v n p i
  | 0 => ⟨fun j h => absurd h (Nat.not_lt_zero j), fun j h => absurd h (Nat.not_lt_zero _), fun h => absurd rfl h, fun _ h => absurd h (by show ¬ 1 ≤ 0; omega)⟩
  | i + 1 => by
    obtain ⟨ha, hb, hc, hd⟩ := sp_ok i
    by_cases h : kq v n p i = 0
    · unfold SPok
      rw [spc_no h, spf_no h, spl_no h, spg_no h]
      refine ⟨fun j hj => ?_, hb, fun q => absurd h q, fun _ h1 => ?_⟩
      · obtain ⟨a1, a2, a3, a4, a5, a6⟩ := ha j hj
        exact ⟨a1, by omega, a3, a4, a5, a6⟩
      · have := (ha (spc v n p i - 1) (by omega)).2.1
        omega
    · have w := kq_wy h
      have hr := kq_range (p := p) w
      have hn := w.1
      by_cases q : kq v n p i = bef v n p i
      · have hbf : ¬ bef v n p i = 0 := by rw [← q]; exact h
        obtain ⟨c1, c2, c3⟩ := hc hbf
        unfold SPok
        rw [spc_on h q, spf_on h q, spl_on h q, spg_on h q]
        refine ⟨fun j hj => ?_, fun j hj => ?_, fun _ => ?_, fun z => absurd z h⟩
        · obtain ⟨a1, a2, a3, a4, a5, a6⟩ := ha j hj
          by_cases e : j = spc v n p i - 1
          · rw [e, up_s]
            rw [e] at a1 a4 a5 a6
            exact ⟨by omega, by omega, hn, a4, a5, a6⟩
          · rw [up_n e]
            exact ⟨a1, by omega, a3, a4, a5, a6⟩
        · rw [up_n (by omega)]
          exact hb j hj
        · refine ⟨c1, up_s, ?_⟩
          rw [c3]; exact q.symm
      · unfold SPok
        rw [spc_new h q, spf_new h q, spl_new h q, spg_new h q]
        refine ⟨fun j hj => ?_, fun j hj => ?_, fun _ => ?_, fun z => absurd z h⟩
        · by_cases e : j = spc v n p i
          · subst e
            rw [up_s, up_s, up_s]
            exact ⟨by omega, by omega, hn, hr.1, hr.2, rfl⟩
          · rw [up_n e, up_n e, up_n e]
            obtain ⟨a1, a2, a3, a4, a5, a6⟩ := ha j (by omega)
            exact ⟨a1, by omega, a3, a4, a5, a6⟩
        · by_cases e : j + 1 = spc v n p i
          · rw [e, up_s, up_s, up_n (by omega), up_n (by omega)]
            have a2 := (ha j (by omega)).2.1
            refine ⟨a2, fun el => ?_⟩
            have hj : j = spc v n p i - 1 := by omega
            by_cases hbf : bef v n p i = 0
            · have := hd hbf (by omega)
              rw [← hj] at this
              omega
            · have := (hc hbf).2.2
              rw [← hj] at this
              rw [this]
              exact fun z => q z.symm
          · rw [up_n e, up_n e, up_n (by omega), up_n (by omega)]
            exact hb j (by omega)
        · refine ⟨by omega, ?_, ?_⟩
          · rw [Nat.add_sub_cancel, up_s]
          · rw [Nat.add_sub_cancel, up_s]; rfl
end SPI
def sz (x : Int32) : Int32 := if 0 ≤ x then x else -x
abbrev tnD (v : Nat → Int32) (ms : Int32) (f l g : Nat → Nat) (j : Nat) : Prop := l j = f (j + 1) ∧ g j + g (j + 1) = 3 ∧ ¬ sz (v (l j) - v (f j)) ≤ 2 * ms ∧ ¬ sz (v (l j) - v (l (j + 1))) ≤ 2 * ms
def tL (v : Nat → Int32) (ms : Int32) (f l g : Nat → Nat) : Nat → List Nat
  | 0 => []
  | j + 1 => if tnD v ms f l g j then tL v ms f l g j ++ [l j] else tL v ms f l g j
theorem tL_t {v : Nat → Int32} {ms : Int32} {f l g : Nat → Nat} {j : Nat} (h : tnD v ms f l g j) : tL v ms f l g (j + 1) = tL v ms f l g j ++ [l j] := by simp only [tL]; rw [if_pos h]
theorem tL_f {v : Nat → Int32} {ms : Int32} {f l g : Nat → Nat} {j : Nat} (h : ¬ tnD v ms f l g j) : tL v ms f l g (j + 1) = tL v ms f l g j := by simp only [tL]; rw [if_neg h]
theorem tL_len {v : Nat → Int32} {ms : Int32} {f l g : Nat → Nat} : ∀ j, (tL v ms f l g j).length ≤ j
  | 0 => Nat.le_refl _
  | j + 1 => by
    have := tL_len (v := v) (ms := ms) (f := f) (l := l) (g := g) j
    by_cases h : tnD v ms f l g j
    · rw [tL_t h]; simp; omega
    · rw [tL_f h]; omega
theorem tL_mem {v : Nat → Int32} {ms : Int32} {f l g : Nat → Nat} : ∀ j, ∀ x ∈ tL v ms f l g j, ∃ i, i < j ∧ x = l i
  | 0, x, h => by simp [tL] at h
  | j + 1, x, h => by
    by_cases q : tnD v ms f l g j
    · rw [tL_t q] at h
      rcases List.mem_append.mp h with h | h
      · obtain ⟨i, hi, e⟩ := tL_mem j x h
        exact ⟨i, by omega, e⟩
      · exact ⟨j, by omega, List.mem_singleton.mp h⟩
    · rw [tL_f q] at h
      obtain ⟨i, hi, e⟩ := tL_mem j x h
      exact ⟨i, by omega, e⟩
noncomputable def turnL (N : Nat → Nat) (V : Nat → Nat → Int32) (K : Nat → Int32) (k : Nat) : List Nat := tL (V k) (K k) (spf (V k) (N k) (K 8) 40) (spl (V k) (N k) (K 8) 40) (spg (V k) (N k) (K 8) 40) (spc (V k) (N k) (K 8) 40 - 1)
def TnQ (N : Nat → Nat) (V : Nat → Nat → Int32) (K : Nat → Int32) (k : Nat) : QT := fun r h' => r = none ∧ ∃ J' B', h' = hT J' B' ∧ ShQ N V K k J' B' ∧ J' 14 = nI (turnL N V K k).length ∧ AL (B' 10) (turnL N V K k)
theorem abs_sz (x : Int32) : (if 0 ≤ x then x else 0 - x) = sz x := by
  unfold sz
  split
  · rfl
  · rw [Int32.zero_sub]
theorem min_gt {a b c : Int32} : ¬ (if b < a then b else a) ≤ c ↔ ¬ a ≤ c ∧ ¬ b ≤ c := by
  simp only [lt_T, le_T]
  split <;> omega
theorem g3 {a b : Nat} (ha : 1 ≤ a ∧ a ≤ 3) (hb : 1 ≤ b ∧ b ≤ 3) (hne : a ≠ b) : a + b = 3 ↔ a ≠ 3 ∧ b ≠ 3 := by omega
end
section
set_option maxHeartbeats 4000000 in
set_option maxRecDepth 100000 in
theorem c_T_size (h : List AC) (x : Int32) : AM kT_size 1 [.int x] (h) (RQ (sz x) h) := by
  refine AMet.of (by decide) (by simp [Value.category]) (Nat.le_of_ble_eq_true rfl) ?_
  show AN _ _ _ 0 [some _] [] _
  refine aw_iload_n dT_size_0 rfl ?_
  refine aw_if_ge (tgt := 9) dT_size_1 (by decide) (fun c1 => ?_) (fun c1 => ?_)
  · refine aw_iload_n dT_size_9 rfl ?_
    exact aw_iret rfl dT_size_10 ⟨rfl, by unfold sz; rw [if_pos c1]⟩
  · refine aw_iload_n dT_size_4 rfl ?_
    refine aw_ineg dT_size_5 ?_
    refine aw_goto (tgt := 10) dT_size_6 (by decide) ?_
    exact aw_iret rfl dT_size_10 ⟨rfl, by unfold sz; rw [if_neg c1]⟩

set_option maxHeartbeats 4000000 in
set_option maxRecDepth 100000 in
theorem l_T_turnsIn (N : Nat → Nat) (V : Nat → Nat → Int32) (K : Nat → Int32) (J : Nat → Int32) (B : Nat → Nat → Int32) (hI : TInv N V K J B) (hP : PInv N V K) {k : Nat} (hk : k < 4) : ∀ (n j : Nat) (J1 : Nat → Int32) (B1 : Nat → Nat → Int32), (spc (V k) (N k) (K 8) 40) - 1 - j = n → j ≤ (spc (V k) (N k) (K 8) 40) - 1 → ShQ N V K k J1 B1 → J1 14 = nI (tL (V k) (K k) (spf (V k) (N k) (K 8) 40) (spl (V k) (N k) (K 8) 40) (spg (V k) (N k) (K 8) 40) j).length → AL (B1 10) (tL (V k) (K k) (spf (V k) (N k) (K 8) 40) (spl (V k) (N k) (K 8) 40) (spg (V k) (N k) (K 8) 40) j) → AN kT_turnsIn 7 (TnQ N V K k) 12 [some (.ref 0), some (.int (nI k)), some (.int (nI j)), none] [] (hT J1 B1) := by
  have h40 := hI.n k hk
  have hok := sp_ok (v := V k) (n := N k) (p := K 8) 40
  have hc40 := spc_le (v := V k) (n := N k) (p := K 8) 40
  intro n
  induction n with
  | zero =>
    intro j J1 B1 hn hj hs h14 hal
    have hjc : j = (spc (V k) (N k) (K 8) 40) - 1 := by omega
    obtain ⟨h1, h10, h9, h5, h7g, h8f, h9l⟩ := id hs
    refine aw_iload_n dT_turnsIn_12 rfl ?_
    refine aw_iconst (v := 1) dT_turnsIn_13 (by decide) ?_
    refine aw_iadd dT_turnsIn_14 ?_
    refine an_top (nI_1 j) ?_
    refine aw_aload_r dT_turnsIn_15 rfl ?_
    refine aw_get fg_T_106 dT_turnsIn_16 rfl rfl ?_
    refine an_top (y := nI (spc (V k) (N k) (K 8) 40)) h10 ?_
    refine aw_icmp_ge (tgt := 163) dT_turnsIn_19 (by decide) (fun c19 => ?_) (fun c19 => absurd (nI_le (by omega) (by omega)) c19)
    exact aw_vret rfl dT_turnsIn_163 ⟨rfl, J1, B1, rfl, hs, by unfold turnL; rw [← hjc]; exact h14, by unfold turnL; rw [← hjc]; exact hal⟩
  | succ n ih =>
    intro j J1 B1 hn hj hs h14 hal
    obtain ⟨h1, h10, h9, h5, h7g, h8f, h9l⟩ := id hs
    have hj1 : j + 1 < (spc (V k) (N k) (K 8) 40) := by omega
    have k1 := hok.1 j (by omega)
    have k2 := hok.1 (j + 1) hj1
    have hln := tL_len (v := V k) (ms := K k) (f := (spf (V k) (N k) (K 8) 40)) (l := (spl (V k) (N k) (K 8) 40)) (g := (spg (V k) (N k) (K 8) 40)) j
    refine aw_iload_n dT_turnsIn_12 rfl ?_
    refine aw_iconst (v := 1) dT_turnsIn_13 (by decide) ?_
    refine aw_iadd dT_turnsIn_14 ?_
    refine an_top (nI_1 j) ?_
    refine aw_aload_r dT_turnsIn_15 rfl ?_
    refine aw_get fg_T_106 dT_turnsIn_16 rfl rfl ?_
    refine an_top (y := nI (spc (V k) (N k) (K 8) 40)) h10 ?_
    refine aw_icmp_ge (tgt := 163) dT_turnsIn_19 (by decide) (fun c19 => absurd c19 (nI_ge (by omega) (by omega))) (fun c19 => ?_)
    refine aw_aload_r dT_turnsIn_22 rfl ?_
    refine aw_get fg_T_41 dT_turnsIn_23 rfl rfl ?_
    refine aw_iload_n dT_turnsIn_26 rfl ?_
    refine an_ldT dT_turnsIn_27 at_9 rfl (by omega) (by decide) ?_
    rw [h9l j (by omega)]
    refine aw_aload_r dT_turnsIn_28 rfl ?_
    refine aw_get fg_T_38 dT_turnsIn_29 rfl rfl ?_
    refine aw_iload_n dT_turnsIn_32 rfl ?_
    refine aw_iconst (v := 1) dT_turnsIn_33 (by decide) ?_
    refine aw_iadd dT_turnsIn_34 ?_
    refine an_top (nI_1 j) ?_
    refine an_ldT dT_turnsIn_35 at_8 rfl (by omega) (by decide) ?_
    rw [h8f (j + 1) (by omega)]
    refine aw_icmp_ne (tgt := 157) dT_turnsIn_36 (by decide) (fun c36 => ?_) (fun c36 => ?_)
    · refine ic4_2 dT_turnsIn_157 (nI_1 j) (by decide) ?_
      refine aw_goto (tgt := 12) dT_turnsIn_160 (by decide) ?_
      have ht : ¬ tnD (V k) (K k) (spf (V k) (N k) (K 8) 40) (spl (V k) (N k) (K 8) 40) (spg (V k) (N k) (K 8) 40) j := fun z => c36 (congrArg nI z.1)
      have e := tL_f ht
      exact an_weak (ih (j + 1) J1 B1 (by omega) (by omega) hs (by rw [e]; exact h14) (by rw [e]; exact hal)) ⟨rfl, rfl, rfl, trivial⟩
    · have q1 : (spl (V k) (N k) (K 8) 40) j = (spf (V k) (N k) (K 8) 40) (j + 1) := nI_inj (by omega) (by omega) c36
      refine aw_aload_r dT_turnsIn_39 rfl ?_
      refine aw_get fg_T_35 dT_turnsIn_40 rfl rfl ?_
      refine aw_iload_n dT_turnsIn_43 rfl ?_
      refine an_ldT dT_turnsIn_44 at_7 rfl (by omega) (by decide) ?_
      rw [h7g j (by omega)]
      refine aw_aload_r dT_turnsIn_45 rfl ?_
      refine aw_get fg_T_35 dT_turnsIn_46 rfl rfl ?_
      refine aw_iload_n dT_turnsIn_49 rfl ?_
      refine aw_iconst (v := 1) dT_turnsIn_50 (by decide) ?_
      refine aw_iadd dT_turnsIn_51 ?_
      refine an_top (nI_1 j) ?_
      refine an_ldT dT_turnsIn_52 at_7 rfl (by omega) (by decide) ?_
      rw [h7g (j + 1) (by omega)]
      refine aw_iadd dT_turnsIn_53 ?_
      refine an_top (nI_add _ _) ?_
      refine aw_iconst (v := 3) dT_turnsIn_54 (by decide) ?_
      refine aw_icmp_eq (tgt := 61) dT_turnsIn_55 (by decide) (fun c55 => ?_) (fun c55 => ?_)
      · have q2 : (spg (V k) (N k) (K 8) 40) j + (spg (V k) (N k) (K 8) 40) (j + 1) = 3 := nI_inj (b := 3) (by omega) (by decide) c55
        refine aw_aload_r dT_turnsIn_61 rfl ?_
        refine aw_iload_n dT_turnsIn_62 rfl ?_
        refine aw_aload_r dT_turnsIn_63 rfl ?_
        refine aw_get fg_T_41 dT_turnsIn_64 rfl rfl ?_
        refine aw_iload_n dT_turnsIn_67 rfl ?_
        refine an_ldT dT_turnsIn_68 at_9 rfl (by omega) (by decide) ?_
        rw [h9l j (by omega)]
        refine an_callVr cg_T_88 (c_T_valueAt N V K _ _ h1 hk (by omega)) dT_turnsIn_69 rfl rfl rfl rfl rfl (Nat.le_of_ble_eq_true rfl) (Nat.le_of_ble_eq_true rfl) ?_
        refine si4_3 dT_turnsIn_72 (by decide) ?_
        refine aw_iload_n dT_turnsIn_73 rfl ?_
        refine aw_aload_r dT_turnsIn_74 rfl ?_
        refine aw_iload_n dT_turnsIn_75 rfl ?_
        refine aw_aload_r dT_turnsIn_76 rfl ?_
        refine aw_get fg_T_38 dT_turnsIn_77 rfl rfl ?_
        refine aw_iload_n dT_turnsIn_80 rfl ?_
        refine an_ldT dT_turnsIn_81 at_8 rfl (by omega) (by decide) ?_
        rw [h8f j (by omega)]
        refine an_callVr cg_T_88 (c_T_valueAt N V K _ _ h1 hk (by omega)) dT_turnsIn_82 rfl rfl rfl rfl rfl (Nat.le_of_ble_eq_true rfl) (Nat.le_of_ble_eq_true rfl) ?_
        refine aw_isub dT_turnsIn_85 ?_
        refine an_callSr cg_T_118 (c_T_size _ _) dT_turnsIn_86 rfl rfl (Nat.le_of_ble_eq_true rfl) (Nat.le_of_ble_eq_true rfl) ?_
        refine aw_iconst (v := 2) dT_turnsIn_89 (by decide) ?_
        refine aw_aload_r dT_turnsIn_90 rfl ?_
        refine aw_get fg_T_16 dT_turnsIn_91 rfl rfl ?_
        refine aw_iload_n dT_turnsIn_94 rfl ?_
        refine an_ldT dT_turnsIn_95 at_3 rfl hk (by decide) ?_
        rw [(h1.1 k hk).2.2.1]
        refine aw_imul dT_turnsIn_96 ?_
        refine aw_icmp_le (tgt := 157) dT_turnsIn_97 (by decide) (fun c97 => ?_) (fun c97 => ?_)
        · refine ic4_2 dT_turnsIn_157 (nI_1 j) (by decide) ?_
          refine aw_goto (tgt := 12) dT_turnsIn_160 (by decide) ?_
          have ht : ¬ tnD (V k) (K k) (spf (V k) (N k) (K 8) 40) (spl (V k) (N k) (K 8) 40) (spg (V k) (N k) (K 8) 40) j := fun z => z.2.2.1 c97
          have e := tL_f ht
          exact an_weak (ih (j + 1) J1 B1 (by omega) (by omega) hs (by rw [e]; exact h14) (by rw [e]; exact hal)) ⟨rfl, rfl, rfl, trivial⟩
        · refine aw_iload_n dT_turnsIn_100 rfl ?_
          refine aw_aload_r dT_turnsIn_101 rfl ?_
          refine aw_iload_n dT_turnsIn_102 rfl ?_
          refine aw_aload_r dT_turnsIn_103 rfl ?_
          refine aw_get fg_T_41 dT_turnsIn_104 rfl rfl ?_
          refine aw_iload_n dT_turnsIn_107 rfl ?_
          refine aw_iconst (v := 1) dT_turnsIn_108 (by decide) ?_
          refine aw_iadd dT_turnsIn_109 ?_
          refine an_top (nI_1 j) ?_
          refine an_ldT dT_turnsIn_110 at_9 rfl (by omega) (by decide) ?_
          rw [h9l (j + 1) (by omega)]
          refine an_callVr cg_T_88 (c_T_valueAt N V K _ _ h1 hk (by omega)) dT_turnsIn_111 rfl rfl rfl rfl rfl (Nat.le_of_ble_eq_true rfl) (Nat.le_of_ble_eq_true rfl) ?_
          refine aw_isub dT_turnsIn_114 ?_
          refine an_callSr cg_T_118 (c_T_size _ _) dT_turnsIn_115 rfl rfl (Nat.le_of_ble_eq_true rfl) (Nat.le_of_ble_eq_true rfl) ?_
          refine aw_iconst (v := 2) dT_turnsIn_118 (by decide) ?_
          refine aw_aload_r dT_turnsIn_119 rfl ?_
          refine aw_get fg_T_16 dT_turnsIn_120 rfl rfl ?_
          refine aw_iload_n dT_turnsIn_123 rfl ?_
          refine an_ldT dT_turnsIn_124 at_3 rfl hk (by decide) ?_
          rw [(h1.1 k hk).2.2.1]
          refine aw_imul dT_turnsIn_125 ?_
          refine aw_icmp_gt (tgt := 132) dT_turnsIn_126 (by decide) (fun c126 => ?_) (fun c126 => ?_)
          · refine aw_aload_r dT_turnsIn_132 rfl ?_
            refine aw_get fg_T_44 dT_turnsIn_133 rfl rfl ?_
            refine aw_aload_r dT_turnsIn_136 rfl ?_
            refine aw_get fg_T_115 dT_turnsIn_137 rfl rfl ?_
            refine aw_aload_r dT_turnsIn_140 rfl ?_
            refine aw_get fg_T_41 dT_turnsIn_141 rfl rfl ?_
            refine aw_iload_n dT_turnsIn_144 rfl ?_
            refine an_ldT dT_turnsIn_145 at_9 rfl (by omega) (by decide) ?_
            rw [h9l j (by omega)]
            refine an_stT dT_turnsIn_146 at_10 h14 (by omega) (by decide) ?_
            refine aw_aload_r dT_turnsIn_147 rfl ?_
            refine aw_dup dT_turnsIn_148 rfl ?_
            refine aw_get fg_T_115 dT_turnsIn_149 rfl rfl ?_
            refine an_top (y := nI (tL (V k) (K k) (spf (V k) (N k) (K 8) 40) (spl (V k) (N k) (K 8) 40) (spg (V k) (N k) (K 8) 40) j).length) h14 ?_
            refine aw_iconst (v := 1) dT_turnsIn_152 (by decide) ?_
            refine aw_iadd dT_turnsIn_153 ?_
            refine an_top (nI_1 _) ?_
            refine an_putT fp_T_115 dT_turnsIn_154 (by decide) ?_
            refine ic4_2 dT_turnsIn_157 (nI_1 j) (by decide) ?_
            refine aw_goto (tgt := 12) dT_turnsIn_160 (by decide) ?_
            have ht : tnD (V k) (K k) (spf (V k) (N k) (K 8) 40) (spl (V k) (N k) (K 8) 40) (spg (V k) (N k) (K 8) 40) j := ⟨q1, q2, c97, Int32.not_le.mpr c126⟩
            have e := tL_t ht
            exact an_weak (ih (j + 1) _ _ (by omega) (by omega) (by exact hs) (by rw [e]; simp; exact rfl) (by rw [e]; exact hal.snoc _)) ⟨rfl, rfl, rfl, trivial⟩
          · refine aw_goto (tgt := 157) dT_turnsIn_129 (by decide) ?_
            refine ic4_2 dT_turnsIn_157 (nI_1 j) (by decide) ?_
            refine aw_goto (tgt := 12) dT_turnsIn_160 (by decide) ?_
            have ht : ¬ tnD (V k) (K k) (spf (V k) (N k) (K 8) 40) (spl (V k) (N k) (K 8) 40) (spg (V k) (N k) (K 8) 40) j := fun z => z.2.2.2 (Int32.not_lt.mp c126)
            have e := tL_f ht
            exact an_weak (ih (j + 1) J1 B1 (by omega) (by omega) hs (by rw [e]; exact h14) (by rw [e]; exact hal)) ⟨rfl, rfl, rfl, trivial⟩
      · refine aw_goto (tgt := 157) dT_turnsIn_58 (by decide) ?_
        refine ic4_2 dT_turnsIn_157 (nI_1 j) (by decide) ?_
        refine aw_goto (tgt := 12) dT_turnsIn_160 (by decide) ?_
        have ht : ¬ tnD (V k) (K k) (spf (V k) (N k) (K 8) 40) (spl (V k) (N k) (K 8) 40) (spg (V k) (N k) (K 8) 40) j := fun z => c55 (congrArg nI z.2.1)
        have e := tL_f ht
        exact an_weak (ih (j + 1) J1 B1 (by omega) (by omega) hs (by rw [e]; exact h14) (by rw [e]; exact hal)) ⟨rfl, rfl, rfl, trivial⟩

set_option maxHeartbeats 4000000 in
set_option maxRecDepth 100000 in
theorem c_T_turnsIn (N : Nat → Nat) (V : Nat → Nat → Int32) (K : Nat → Int32) (J : Nat → Int32) (B : Nat → Nat → Int32) (hI : TInv N V K J B) (hP : PInv N V K) {k : Nat} (hk : k < 4) : AM kT_turnsIn 7 [.ref 0, .int (nI k)] (hT J B) (TnQ N V K k) := by
  refine AMet.of (by decide) (by simp [Value.category]) (Nat.le_of_ble_eq_true rfl) ?_
  show AN _ _ _ 0 [some _, some _, none, none] [] _
  refine aw_aload_r dT_turnsIn_0 rfl ?_
  refine aw_iload_n dT_turnsIn_1 rfl ?_
  refine an_callVx cg_T_112 (c_T_shapes N V K _ _ hI hP hk) dT_turnsIn_2 rfl rfl rfl rfl rfl (Nat.le_of_ble_eq_true rfl) (Nat.le_of_ble_eq_true rfl) ?_
  rintro _ _ ⟨rfl, J1, B1, rfl, hs⟩
  refine aw_aload_r dT_turnsIn_5 rfl ?_
  refine aw_iconst (v := 0) dT_turnsIn_6 (by decide) ?_
  refine an_putT fp_T_115 dT_turnsIn_7 (by decide) ?_
  refine aw_iconst (v := 0) dT_turnsIn_10 (by decide) ?_
  refine si4_2 dT_turnsIn_11 (by decide) ?_
  exact an_weak (l_T_turnsIn N V K J B hI hP hk _ 0 _ _ rfl (by omega) (show ShQ N V K k (upd J1 14 0) B1 from hs) rfl AL.nil) ⟨rfl, rfl, rfl, trivial⟩
end
