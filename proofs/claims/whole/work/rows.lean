section
def lw_okq (q : MethodName × Nat) : Prop := (q.1.cls ≠ "java/lang/invoke/MethodHandle" ∧ q.1.cls ≠ "java/lang/invoke/VarHandle") ∧ Cond.instantiable q.1.cls q.2 ∈ tables_1 ∧ Cond.privateMethod q.1 ∈ tables_1 ∧ Cond.instanceMethod q.1 ∈ tables_1
theorem lw_p0 : lw_okq (⟨"EarChart", "rowOf", "(I)LEarChart$Row;"⟩, 11) := ⟨⟨by decide +kernel, by decide +kernel⟩, List.mem_of_getElem? (i := 10) (by decide +kernel), List.mem_of_getElem? (i := 171) (by decide +kernel), List.mem_of_getElem? (i := 172) (by decide +kernel)⟩
theorem lw_p1 : lw_okq (⟨"EarChart$Row", "append", "(I)I"⟩, 4) := ⟨⟨by decide +kernel, by decide +kernel⟩, List.mem_of_getElem? (i := 19) (by decide +kernel), List.mem_of_getElem? (i := 181) (by decide +kernel), List.mem_of_getElem? (i := 182) (by decide +kernel)⟩
theorem lw_p2 : lw_okq (⟨"EarChart$Row", "hasStep", "(I)Z"⟩, 4) := ⟨⟨by decide +kernel, by decide +kernel⟩, List.mem_of_getElem? (i := 19) (by decide +kernel), List.mem_of_getElem? (i := 193) (by decide +kernel), List.mem_of_getElem? (i := 194) (by decide +kernel)⟩
theorem lw_p3 : lw_okq (⟨"EarChart", "readShape", "(I)Z"⟩, 11) := ⟨⟨by decide +kernel, by decide +kernel⟩, List.mem_of_getElem? (i := 10) (by decide +kernel), List.mem_of_getElem? (i := 217) (by decide +kernel), List.mem_of_getElem? (i := 218) (by decide +kernel)⟩
theorem lw_p4 : lw_okq (⟨"EarChart$Shape", "read", "(LEarChart$Row;I)V"⟩, 8) := ⟨⟨by decide +kernel, by decide +kernel⟩, List.mem_of_getElem? (i := 45) (by decide +kernel), List.mem_of_getElem? (i := 221) (by decide +kernel), List.mem_of_getElem? (i := 222) (by decide +kernel)⟩
theorem lw_p5 : lw_okq (⟨"EarChart$Shape", "weighWays", "(LEarChart$Row;I)V"⟩, 8) := ⟨⟨by decide +kernel, by decide +kernel⟩, List.mem_of_getElem? (i := 45) (by decide +kernel), List.mem_of_getElem? (i := 225) (by decide +kernel), List.mem_of_getElem? (i := 226) (by decide +kernel)⟩
theorem lw_p6 : lw_okq (⟨"EarChart$Row", "hasWay", "(I)Z"⟩, 4) := ⟨⟨by decide +kernel, by decide +kernel⟩, List.mem_of_getElem? (i := 19) (by decide +kernel), List.mem_of_getElem? (i := 229) (by decide +kernel), List.mem_of_getElem? (i := 230) (by decide +kernel)⟩
theorem lw_p7 : lw_okq (⟨"EarChart$Row", "hasValue", "(I)Z"⟩, 4) := ⟨⟨by decide +kernel, by decide +kernel⟩, List.mem_of_getElem? (i := 19) (by decide +kernel), List.mem_of_getElem? (i := 233) (by decide +kernel), List.mem_of_getElem? (i := 234) (by decide +kernel)⟩
theorem lw_p8 : lw_okq (⟨"EarChart$Shape", "bestKind", "(III)I"⟩, 8) := ⟨⟨by decide +kernel, by decide +kernel⟩, List.mem_of_getElem? (i := 45) (by decide +kernel), List.mem_of_getElem? (i := 246) (by decide +kernel), List.mem_of_getElem? (i := 247) (by decide +kernel)⟩
theorem lw_p9 : lw_okq (⟨"EarChart$Shape", "costBehind", "(IIII)I"⟩, 8) := ⟨⟨by decide +kernel, by decide +kernel⟩, List.mem_of_getElem? (i := 45) (by decide +kernel), List.mem_of_getElem? (i := 250) (by decide +kernel), List.mem_of_getElem? (i := 251) (by decide +kernel)⟩
theorem lw_p10 : lw_okq (⟨"EarChart$Shape", "chooseKinds", "(LEarChart$Row;I)V"⟩, 8) := ⟨⟨by decide +kernel, by decide +kernel⟩, List.mem_of_getElem? (i := 45) (by decide +kernel), List.mem_of_getElem? (i := 254) (by decide +kernel), List.mem_of_getElem? (i := 255) (by decide +kernel)⟩
theorem lw_p11 : lw_okq (⟨"EarChart$Shape", "noteWay", "(III)V"⟩, 8) := ⟨⟨by decide +kernel, by decide +kernel⟩, List.mem_of_getElem? (i := 45) (by decide +kernel), List.mem_of_getElem? (i := 258) (by decide +kernel), List.mem_of_getElem? (i := 259) (by decide +kernel)⟩
theorem lw_p12 : lw_okq (⟨"EarChart$Shape", "findTurns", "(LEarChart$Row;)V"⟩, 8) := ⟨⟨by decide +kernel, by decide +kernel⟩, List.mem_of_getElem? (i := 45) (by decide +kernel), List.mem_of_getElem? (i := 262) (by decide +kernel), List.mem_of_getElem? (i := 263) (by decide +kernel)⟩
theorem lw_p13 : lw_okq (⟨"EarChart$Shape", "turnsAtStart", "(LEarChart$Row;I)Z"⟩, 8) := ⟨⟨by decide +kernel, by decide +kernel⟩, List.mem_of_getElem? (i := 45) (by decide +kernel), List.mem_of_getElem? (i := 266) (by decide +kernel), List.mem_of_getElem? (i := 267) (by decide +kernel)⟩
theorem lw_p14 : lw_okq (⟨"EarChart$Shape", "kindOfSpan", "(I)I"⟩, 8) := ⟨⟨by decide +kernel, by decide +kernel⟩, List.mem_of_getElem? (i := 45) (by decide +kernel), List.mem_of_getElem? (i := 270) (by decide +kernel), List.mem_of_getElem? (i := 271) (by decide +kernel)⟩
theorem lw_p15 : lw_okq (⟨"EarChart$Shape", "hasSpan", "(I)Z"⟩, 8) := ⟨⟨by decide +kernel, by decide +kernel⟩, List.mem_of_getElem? (i := 45) (by decide +kernel), List.mem_of_getElem? (i := 285) (by decide +kernel), List.mem_of_getElem? (i := 286) (by decide +kernel)⟩
def lw_privs_1 : List (MethodName × Nat) := [(⟨"EarChart", "rowOf", "(I)LEarChart$Row;"⟩, 11), (⟨"EarChart$Row", "append", "(I)I"⟩, 4), (⟨"EarChart$Row", "hasStep", "(I)Z"⟩, 4), (⟨"EarChart", "readShape", "(I)Z"⟩, 11), (⟨"EarChart$Shape", "read", "(LEarChart$Row;I)V"⟩, 8), (⟨"EarChart$Shape", "weighWays", "(LEarChart$Row;I)V"⟩, 8), (⟨"EarChart$Row", "hasWay", "(I)Z"⟩, 4), (⟨"EarChart$Row", "hasValue", "(I)Z"⟩, 4), (⟨"EarChart$Shape", "bestKind", "(III)I"⟩, 8), (⟨"EarChart$Shape", "costBehind", "(IIII)I"⟩, 8), (⟨"EarChart$Shape", "chooseKinds", "(LEarChart$Row;I)V"⟩, 8), (⟨"EarChart$Shape", "noteWay", "(III)V"⟩, 8), (⟨"EarChart$Shape", "findTurns", "(LEarChart$Row;)V"⟩, 8), (⟨"EarChart$Shape", "turnsAtStart", "(LEarChart$Row;I)Z"⟩, 8), (⟨"EarChart$Shape", "kindOfSpan", "(I)I"⟩, 8), (⟨"EarChart$Shape", "hasSpan", "(I)Z"⟩, 8)]
theorem lw_r1 : ∀ q ∈ lw_privs_1, lw_okq q := List.forall_mem_cons.mpr ⟨lw_p0, List.forall_mem_cons.mpr ⟨lw_p1, List.forall_mem_cons.mpr ⟨lw_p2, List.forall_mem_cons.mpr ⟨lw_p3, List.forall_mem_cons.mpr ⟨lw_p4, List.forall_mem_cons.mpr ⟨lw_p5, List.forall_mem_cons.mpr ⟨lw_p6, List.forall_mem_cons.mpr ⟨lw_p7, List.forall_mem_cons.mpr ⟨lw_p8, List.forall_mem_cons.mpr ⟨lw_p9, List.forall_mem_cons.mpr ⟨lw_p10, List.forall_mem_cons.mpr ⟨lw_p11, List.forall_mem_cons.mpr ⟨lw_p12, List.forall_mem_cons.mpr ⟨lw_p13, List.forall_mem_cons.mpr ⟨lw_p14, List.forall_mem_cons.mpr ⟨lw_p15, fun _ h => absurd h List.not_mem_nil⟩⟩⟩⟩⟩⟩⟩⟩⟩⟩⟩⟩⟩⟩⟩⟩
theorem lw_p16 : lw_okq (⟨"EarChart", "readMeeting", "(II)Z"⟩, 11) := ⟨⟨by decide +kernel, by decide +kernel⟩, List.mem_of_getElem? (i := 10) (by decide +kernel), List.mem_of_getElem? (i := 317) (by decide +kernel), List.mem_of_getElem? (i := 318) (by decide +kernel)⟩
theorem lw_p17 : lw_okq (⟨"EarChart$Meeting", "read", "(LEarChart$Row;LEarChart$Row;)V"⟩, 2) := ⟨⟨by decide +kernel, by decide +kernel⟩, List.mem_of_getElem? (i := 85) (by decide +kernel), List.mem_of_getElem? (i := 321) (by decide +kernel), List.mem_of_getElem? (i := 322) (by decide +kernel)⟩
theorem lw_p18 : lw_okq (⟨"EarChart", "lowestValue", "()I"⟩, 11) := ⟨⟨by decide +kernel, by decide +kernel⟩, List.mem_of_getElem? (i := 10) (by decide +kernel), List.mem_of_getElem? (i := 334) (by decide +kernel), List.mem_of_getElem? (i := 335) (by decide +kernel)⟩
theorem lw_p19 : lw_okq (⟨"EarChart$Row", "lowest", "()I"⟩, 4) := ⟨⟨by decide +kernel, by decide +kernel⟩, List.mem_of_getElem? (i := 19) (by decide +kernel), List.mem_of_getElem? (i := 338) (by decide +kernel), List.mem_of_getElem? (i := 339) (by decide +kernel)⟩
theorem lw_p20 : lw_okq (⟨"EarChart", "highestValue", "()I"⟩, 11) := ⟨⟨by decide +kernel, by decide +kernel⟩, List.mem_of_getElem? (i := 10) (by decide +kernel), List.mem_of_getElem? (i := 344) (by decide +kernel), List.mem_of_getElem? (i := 345) (by decide +kernel)⟩
theorem lw_p21 : lw_okq (⟨"EarChart$Row", "highest", "()I"⟩, 4) := ⟨⟨by decide +kernel, by decide +kernel⟩, List.mem_of_getElem? (i := 19) (by decide +kernel), List.mem_of_getElem? (i := 348) (by decide +kernel), List.mem_of_getElem? (i := 349) (by decide +kernel)⟩
theorem lw_p22 : lw_okq (⟨"EarChart", "heightAbove", "(ILEarChart$Row;I)I"⟩, 11) := ⟨⟨by decide +kernel, by decide +kernel⟩, List.mem_of_getElem? (i := 10) (by decide +kernel), List.mem_of_getElem? (i := 358) (by decide +kernel), List.mem_of_getElem? (i := 359) (by decide +kernel)⟩
theorem lw_p23 : lw_okq (⟨"EarChart", "readLaying", "(I)Z"⟩, 11) := ⟨⟨by decide +kernel, by decide +kernel⟩, List.mem_of_getElem? (i := 10) (by decide +kernel), List.mem_of_getElem? (i := 374) (by decide +kernel), List.mem_of_getElem? (i := 375) (by decide +kernel)⟩
theorem lw_p24 : lw_okq (⟨"EarChart$Laying", "find", "(II)V"⟩, 7) := ⟨⟨by decide +kernel, by decide +kernel⟩, List.mem_of_getElem? (i := 100) (by decide +kernel), List.mem_of_getElem? (i := 378) (by decide +kernel), List.mem_of_getElem? (i := 379) (by decide +kernel)⟩
theorem lw_p25 : lw_okq (⟨"EarChart$Laying", "tryFrom", "(II)V"⟩, 7) := ⟨⟨by decide +kernel, by decide +kernel⟩, List.mem_of_getElem? (i := 100) (by decide +kernel), List.mem_of_getElem? (i := 382) (by decide +kernel), List.mem_of_getElem? (i := 383) (by decide +kernel)⟩
theorem lw_p26 : lw_okq (⟨"EarChart$Laying", "tryWith", "(III)V"⟩, 7) := ⟨⟨by decide +kernel, by decide +kernel⟩, List.mem_of_getElem? (i := 100) (by decide +kernel), List.mem_of_getElem? (i := 389) (by decide +kernel), List.mem_of_getElem? (i := 390) (by decide +kernel)⟩
theorem lw_p27 : lw_okq (⟨"EarChart$Laying", "tryPlaces", "(II)V"⟩, 7) := ⟨⟨by decide +kernel, by decide +kernel⟩, List.mem_of_getElem? (i := 100) (by decide +kernel), List.mem_of_getElem? (i := 393) (by decide +kernel), List.mem_of_getElem? (i := 394) (by decide +kernel)⟩
theorem lw_p28 : lw_okq (⟨"EarChart$Laying", "isFree", "(II)Z"⟩, 7) := ⟨⟨by decide +kernel, by decide +kernel⟩, List.mem_of_getElem? (i := 100) (by decide +kernel), List.mem_of_getElem? (i := 397) (by decide +kernel), List.mem_of_getElem? (i := 398) (by decide +kernel)⟩
theorem lw_p29 : lw_okq (⟨"EarChart$Laying", "isHeard", "(I)Z"⟩, 7) := ⟨⟨by decide +kernel, by decide +kernel⟩, List.mem_of_getElem? (i := 100) (by decide +kernel), List.mem_of_getElem? (i := 410) (by decide +kernel), List.mem_of_getElem? (i := 411) (by decide +kernel)⟩
theorem lw_p30 : lw_okq (⟨"EarChart", "soundsAbove", "(II)Z"⟩, 11) := ⟨⟨by decide +kernel, by decide +kernel⟩, List.mem_of_getElem? (i := 10) (by decide +kernel), List.mem_of_getElem? (i := 414) (by decide +kernel), List.mem_of_getElem? (i := 415) (by decide +kernel)⟩
theorem lw_p31 : lw_okq (⟨"EarChart$Shape", "beatsOfSpan", "(II)I"⟩, 8) := ⟨⟨by decide +kernel, by decide +kernel⟩, List.mem_of_getElem? (i := 45) (by decide +kernel), List.mem_of_getElem? (i := 422) (by decide +kernel), List.mem_of_getElem? (i := 423) (by decide +kernel)⟩
def lw_privs_2 : List (MethodName × Nat) := [(⟨"EarChart", "readMeeting", "(II)Z"⟩, 11), (⟨"EarChart$Meeting", "read", "(LEarChart$Row;LEarChart$Row;)V"⟩, 2), (⟨"EarChart", "lowestValue", "()I"⟩, 11), (⟨"EarChart$Row", "lowest", "()I"⟩, 4), (⟨"EarChart", "highestValue", "()I"⟩, 11), (⟨"EarChart$Row", "highest", "()I"⟩, 4), (⟨"EarChart", "heightAbove", "(ILEarChart$Row;I)I"⟩, 11), (⟨"EarChart", "readLaying", "(I)Z"⟩, 11), (⟨"EarChart$Laying", "find", "(II)V"⟩, 7), (⟨"EarChart$Laying", "tryFrom", "(II)V"⟩, 7), (⟨"EarChart$Laying", "tryWith", "(III)V"⟩, 7), (⟨"EarChart$Laying", "tryPlaces", "(II)V"⟩, 7), (⟨"EarChart$Laying", "isFree", "(II)Z"⟩, 7), (⟨"EarChart$Laying", "isHeard", "(I)Z"⟩, 7), (⟨"EarChart", "soundsAbove", "(II)Z"⟩, 11), (⟨"EarChart$Shape", "beatsOfSpan", "(II)I"⟩, 8)]
theorem lw_r2 : ∀ q ∈ lw_privs_2, lw_okq q := List.forall_mem_cons.mpr ⟨lw_p16, List.forall_mem_cons.mpr ⟨lw_p17, List.forall_mem_cons.mpr ⟨lw_p18, List.forall_mem_cons.mpr ⟨lw_p19, List.forall_mem_cons.mpr ⟨lw_p20, List.forall_mem_cons.mpr ⟨lw_p21, List.forall_mem_cons.mpr ⟨lw_p22, List.forall_mem_cons.mpr ⟨lw_p23, List.forall_mem_cons.mpr ⟨lw_p24, List.forall_mem_cons.mpr ⟨lw_p25, List.forall_mem_cons.mpr ⟨lw_p26, List.forall_mem_cons.mpr ⟨lw_p27, List.forall_mem_cons.mpr ⟨lw_p28, List.forall_mem_cons.mpr ⟨lw_p29, List.forall_mem_cons.mpr ⟨lw_p30, List.forall_mem_cons.mpr ⟨lw_p31, fun _ h => absurd h List.not_mem_nil⟩⟩⟩⟩⟩⟩⟩⟩⟩⟩⟩⟩⟩⟩⟩⟩
theorem lw_p32 : lw_okq (⟨"EarChart$Shape", "allWays", "()I"⟩, 8) := ⟨⟨by decide +kernel, by decide +kernel⟩, List.mem_of_getElem? (i := 45) (by decide +kernel), List.mem_of_getElem? (i := 426) (by decide +kernel), List.mem_of_getElem? (i := 427) (by decide +kernel)⟩
theorem lw_p33 : lw_okq (⟨"EarChart$Shape", "waysOfSpan", "(I)I"⟩, 8) := ⟨⟨by decide +kernel, by decide +kernel⟩, List.mem_of_getElem? (i := 45) (by decide +kernel), List.mem_of_getElem? (i := 430) (by decide +kernel), List.mem_of_getElem? (i := 431) (by decide +kernel)⟩
theorem lw_p34 : lw_okq (⟨"EarChart", "markSought", "(LEarChart$Row;I)V"⟩, 11) := ⟨⟨by decide +kernel, by decide +kernel⟩, List.mem_of_getElem? (i := 10) (by decide +kernel), List.mem_of_getElem? (i := 450) (by decide +kernel), List.mem_of_getElem? (i := 451) (by decide +kernel)⟩
theorem lw_p35 : lw_okq (⟨"EarChart", "markTurns", "(LEarChart$Row;)V"⟩, 11) := ⟨⟨by decide +kernel, by decide +kernel⟩, List.mem_of_getElem? (i := 10) (by decide +kernel), List.mem_of_getElem? (i := 454) (by decide +kernel), List.mem_of_getElem? (i := 455) (by decide +kernel)⟩
theorem lw_p36 : lw_okq (⟨"EarChart", "markCrossings", "(LEarChart$Row;)V"⟩, 11) := ⟨⟨by decide +kernel, by decide +kernel⟩, List.mem_of_getElem? (i := 10) (by decide +kernel), List.mem_of_getElem? (i := 458) (by decide +kernel), List.mem_of_getElem? (i := 459) (by decide +kernel)⟩
theorem lw_p37 : lw_okq (⟨"EarChart", "markBehind", "(I)I"⟩, 11) := ⟨⟨by decide +kernel, by decide +kernel⟩, List.mem_of_getElem? (i := 10) (by decide +kernel), List.mem_of_getElem? (i := 462) (by decide +kernel), List.mem_of_getElem? (i := 463) (by decide +kernel)⟩
theorem lw_p38 : lw_okq (⟨"EarChart", "markAhead", "(I)I"⟩, 11) := ⟨⟨by decide +kernel, by decide +kernel⟩, List.mem_of_getElem? (i := 10) (by decide +kernel), List.mem_of_getElem? (i := 466) (by decide +kernel), List.mem_of_getElem? (i := 467) (by decide +kernel)⟩
theorem lw_p39 : lw_okq (⟨"EarChartModel", "adds", "(II)I"⟩, 28) := ⟨⟨by decide +kernel, by decide +kernel⟩, List.mem_of_getElem? (i := 470) (by decide +kernel), List.mem_of_getElem? (i := 568) (by decide +kernel), List.mem_of_getElem? (i := 569) (by decide +kernel)⟩
theorem lw_p40 : lw_okq (⟨"EarChartModel", "isStep", "(II)Z"⟩, 28) := ⟨⟨by decide +kernel, by decide +kernel⟩, List.mem_of_getElem? (i := 470) (by decide +kernel), List.mem_of_getElem? (i := 583) (by decide +kernel), List.mem_of_getElem? (i := 584) (by decide +kernel)⟩
theorem lw_p41 : lw_okq (⟨"EarChartModel", "valueAt", "(II)I"⟩, 28) := ⟨⟨by decide +kernel, by decide +kernel⟩, List.mem_of_getElem? (i := 470) (by decide +kernel), List.mem_of_getElem? (i := 603) (by decide +kernel), List.mem_of_getElem? (i := 604) (by decide +kernel)⟩
theorem lw_p42 : lw_okq (⟨"EarChartModel", "shapes", "(I)V"⟩, 28) := ⟨⟨by decide +kernel, by decide +kernel⟩, List.mem_of_getElem? (i := 470) (by decide +kernel), List.mem_of_getElem? (i := 611) (by decide +kernel), List.mem_of_getElem? (i := 612) (by decide +kernel)⟩
theorem lw_p43 : lw_okq (⟨"EarChartModel", "weighs", "(I)V"⟩, 28) := ⟨⟨by decide +kernel, by decide +kernel⟩, List.mem_of_getElem? (i := 470) (by decide +kernel), List.mem_of_getElem? (i := 615) (by decide +kernel), List.mem_of_getElem? (i := 616) (by decide +kernel)⟩
theorem lw_p44 : lw_okq (⟨"EarChartModel", "isWay", "(II)Z"⟩, 28) := ⟨⟨by decide +kernel, by decide +kernel⟩, List.mem_of_getElem? (i := 470) (by decide +kernel), List.mem_of_getElem? (i := 619) (by decide +kernel), List.mem_of_getElem? (i := 620) (by decide +kernel)⟩
theorem lw_p45 : lw_okq (⟨"EarChartModel", "hasValue", "(II)Z"⟩, 28) := ⟨⟨by decide +kernel, by decide +kernel⟩, List.mem_of_getElem? (i := 470) (by decide +kernel), List.mem_of_getElem? (i := 623) (by decide +kernel), List.mem_of_getElem? (i := 624) (by decide +kernel)⟩
theorem lw_p46 : lw_okq (⟨"EarChartModel", "wayCost", "(III)I"⟩, 28) := ⟨⟨by decide +kernel, by decide +kernel⟩, List.mem_of_getElem? (i := 470) (by decide +kernel), List.mem_of_getElem? (i := 628) (by decide +kernel), List.mem_of_getElem? (i := 629) (by decide +kernel)⟩
theorem lw_p47 : lw_okq (⟨"EarChartModel", "turnsIn", "(I)V"⟩, 28) := ⟨⟨by decide +kernel, by decide +kernel⟩, List.mem_of_getElem? (i := 470) (by decide +kernel), List.mem_of_getElem? (i := 648) (by decide +kernel), List.mem_of_getElem? (i := 649) (by decide +kernel)⟩
def lw_privs_3 : List (MethodName × Nat) := [(⟨"EarChart$Shape", "allWays", "()I"⟩, 8), (⟨"EarChart$Shape", "waysOfSpan", "(I)I"⟩, 8), (⟨"EarChart", "markSought", "(LEarChart$Row;I)V"⟩, 11), (⟨"EarChart", "markTurns", "(LEarChart$Row;)V"⟩, 11), (⟨"EarChart", "markCrossings", "(LEarChart$Row;)V"⟩, 11), (⟨"EarChart", "markBehind", "(I)I"⟩, 11), (⟨"EarChart", "markAhead", "(I)I"⟩, 11), (⟨"EarChartModel", "adds", "(II)I"⟩, 28), (⟨"EarChartModel", "isStep", "(II)Z"⟩, 28), (⟨"EarChartModel", "valueAt", "(II)I"⟩, 28), (⟨"EarChartModel", "shapes", "(I)V"⟩, 28), (⟨"EarChartModel", "weighs", "(I)V"⟩, 28), (⟨"EarChartModel", "isWay", "(II)Z"⟩, 28), (⟨"EarChartModel", "hasValue", "(II)Z"⟩, 28), (⟨"EarChartModel", "wayCost", "(III)I"⟩, 28), (⟨"EarChartModel", "turnsIn", "(I)V"⟩, 28)]
theorem lw_r3 : ∀ q ∈ lw_privs_3, lw_okq q := List.forall_mem_cons.mpr ⟨lw_p32, List.forall_mem_cons.mpr ⟨lw_p33, List.forall_mem_cons.mpr ⟨lw_p34, List.forall_mem_cons.mpr ⟨lw_p35, List.forall_mem_cons.mpr ⟨lw_p36, List.forall_mem_cons.mpr ⟨lw_p37, List.forall_mem_cons.mpr ⟨lw_p38, List.forall_mem_cons.mpr ⟨lw_p39, List.forall_mem_cons.mpr ⟨lw_p40, List.forall_mem_cons.mpr ⟨lw_p41, List.forall_mem_cons.mpr ⟨lw_p42, List.forall_mem_cons.mpr ⟨lw_p43, List.forall_mem_cons.mpr ⟨lw_p44, List.forall_mem_cons.mpr ⟨lw_p45, List.forall_mem_cons.mpr ⟨lw_p46, List.forall_mem_cons.mpr ⟨lw_p47, fun _ h => absurd h List.not_mem_nil⟩⟩⟩⟩⟩⟩⟩⟩⟩⟩⟩⟩⟩⟩⟩⟩
theorem lw_p48 : lw_okq (⟨"EarChartModel", "crosses", "(II)V"⟩, 28) := ⟨⟨by decide +kernel, by decide +kernel⟩, List.mem_of_getElem? (i := 470) (by decide +kernel), List.mem_of_getElem? (i := 667) (by decide +kernel), List.mem_of_getElem? (i := 668) (by decide +kernel)⟩
theorem lw_p49 : lw_okq (⟨"EarChartModel", "ends", "()Z"⟩, 28) := ⟨⟨by decide +kernel, by decide +kernel⟩, List.mem_of_getElem? (i := 470) (by decide +kernel), List.mem_of_getElem? (i := 680) (by decide +kernel), List.mem_of_getElem? (i := 681) (by decide +kernel)⟩
theorem lw_p50 : lw_okq (⟨"EarChartModel", "laying", "(I)I"⟩, 28) := ⟨⟨by decide +kernel, by decide +kernel⟩, List.mem_of_getElem? (i := 470) (by decide +kernel), List.mem_of_getElem? (i := 700) (by decide +kernel), List.mem_of_getElem? (i := 701) (by decide +kernel)⟩
theorem lw_p51 : lw_okq (⟨"EarChartModel", "slotCost", "(I)I"⟩, 28) := ⟨⟨by decide +kernel, by decide +kernel⟩, List.mem_of_getElem? (i := 470) (by decide +kernel), List.mem_of_getElem? (i := 705) (by decide +kernel), List.mem_of_getElem? (i := 706) (by decide +kernel)⟩
theorem lw_p52 : lw_okq (⟨"EarChartModel", "isLaid", "(I)Z"⟩, 28) := ⟨⟨by decide +kernel, by decide +kernel⟩, List.mem_of_getElem? (i := 470) (by decide +kernel), List.mem_of_getElem? (i := 709) (by decide +kernel), List.mem_of_getElem? (i := 710) (by decide +kernel)⟩
theorem lw_p53 : lw_okq (⟨"EarChartModel", "ways", "(I)I"⟩, 28) := ⟨⟨by decide +kernel, by decide +kernel⟩, List.mem_of_getElem? (i := 470) (by decide +kernel), List.mem_of_getElem? (i := 725) (by decide +kernel), List.mem_of_getElem? (i := 726) (by decide +kernel)⟩
theorem lw_p54 : lw_okq (⟨"EarChartModel", "isTurn", "(II)Z"⟩, 28) := ⟨⟨by decide +kernel, by decide +kernel⟩, List.mem_of_getElem? (i := 470) (by decide +kernel), List.mem_of_getElem? (i := 745) (by decide +kernel), List.mem_of_getElem? (i := 746) (by decide +kernel)⟩
theorem lw_p55 : lw_okq (⟨"EarChartModel", "isCross", "(II)Z"⟩, 28) := ⟨⟨by decide +kernel, by decide +kernel⟩, List.mem_of_getElem? (i := 470) (by decide +kernel), List.mem_of_getElem? (i := 749) (by decide +kernel), List.mem_of_getElem? (i := 750) (by decide +kernel)⟩
def lw_privs_4 : List (MethodName × Nat) := [(⟨"EarChartModel", "crosses", "(II)V"⟩, 28), (⟨"EarChartModel", "ends", "()Z"⟩, 28), (⟨"EarChartModel", "laying", "(I)I"⟩, 28), (⟨"EarChartModel", "slotCost", "(I)I"⟩, 28), (⟨"EarChartModel", "isLaid", "(I)Z"⟩, 28), (⟨"EarChartModel", "ways", "(I)I"⟩, 28), (⟨"EarChartModel", "isTurn", "(II)Z"⟩, 28), (⟨"EarChartModel", "isCross", "(II)Z"⟩, 28)]
theorem lw_r4 : ∀ q ∈ lw_privs_4, lw_okq q := List.forall_mem_cons.mpr ⟨lw_p48, List.forall_mem_cons.mpr ⟨lw_p49, List.forall_mem_cons.mpr ⟨lw_p50, List.forall_mem_cons.mpr ⟨lw_p51, List.forall_mem_cons.mpr ⟨lw_p52, List.forall_mem_cons.mpr ⟨lw_p53, List.forall_mem_cons.mpr ⟨lw_p54, List.forall_mem_cons.mpr ⟨lw_p55, fun _ h => absurd h List.not_mem_nil⟩⟩⟩⟩⟩⟩⟩⟩
def lw_privs : List (MethodName × Nat) := lw_privs_1 ++ (lw_privs_2 ++ (lw_privs_3 ++ (lw_privs_4)))
def lw_tbl : List Cond := k2_sels lw_privs ++ tables_1
theorem lw_privs_ok : ∀ q ∈ lw_privs, lw_okq q := by
  show ∀ q ∈ lw_privs_1 ++ (lw_privs_2 ++ (lw_privs_3 ++ (lw_privs_4))), lw_okq q
  exact List.forall_mem_append.mpr ⟨lw_r1, List.forall_mem_append.mpr ⟨lw_r2, List.forall_mem_append.mpr ⟨lw_r3, lw_r4⟩⟩⟩
end
section
theorem gr_over {args : Array Value} {first s : State} {o : Option Outcome} {idx : List Nat} (h : (Cond.arrayOver (.array .int)).holds args first o s idx = true) :
    ∃ comp c k, s.vm.findClass (FieldType.array .int).toString = some comp ∧ (s.vm.classes.findIdx? fun (x : Class) => match x.kind with | .array component _ => component == comp | _ => false) = some c ∧ s.vm.classes[c]? = some k ∧ k.kind = .array comp (.array .int) ∧ s.vm.findClass ("[" ++ (FieldType.array .int).toString) = some c := by
  unfold Cond.holds at h
  simp only [Cond.value] at h
  generalize e1 : s.vm.findClass (FieldType.array .int).toString = o1 at h
  cases o1 with
  | none => exact absurd h Bool.false_ne_true
  | some comp =>
    rw [Option.bind_some] at h
    generalize e2 : (s.vm.classes.findIdx? fun (x : Class) => match x.kind with | .array component _ => component == comp | _ => false) = o2 at h
    cases o2 with
    | none => exact absurd h Bool.false_ne_true
    | some c =>
      rw [Option.bind_some] at h
      generalize e3 : s.vm.classes[c]? = o3 at h
      cases o3 with
      | none => exact absurd h Bool.false_ne_true
      | some k =>
        have hk : s.vm.classes[c]? = some k := e3
        obtain ⟨hlt, hp, -⟩ := Array.findIdx?_eq_some_iff_getElem.mp e2
        rw [Array.getElem?_eq_getElem hlt, Option.some.injEq] at e3
        rw [e3] at hp
        refine ⟨comp, c, k, rfl, e2, hk, ?_⟩
        have h' := Option.some.inj (eq_of_beq h)
        dsimp only at h'
        generalize k.kind = q at hp h'
        cases q with
        | array a b =>
          have hp' : a = comp := eq_of_beq hp
          have h3 := Bool.and_eq_true_iff.mp h'
          exact ⟨by rw [hp', of_decide_eq_true h3.1], of_decide_eq_true h3.2⟩
        | _ => exact absurd hp Bool.false_ne_true
def gr_row (k : ClassId) : Cell := { cls := k, slots := Array.replicate 40 (.int 0) }
def gr_out (c : ClassId) (a i : Nat) : Cell := arrV c 4 (fun j => va_rf (if j < i then some (a + 1 + j) else none))
def gr_st (S : State) (c k : ClassId) : Nat → State
  | 0 => S.pushCell (gr_out c S.heap.size 0)
  | i + 1 => ((gr_st S c k i).pushCell (gr_row k)).setCell S.heap.size (gr_out c S.heap.size (i + 1))
theorem gr_out0 (c : ClassId) (a : Nat) : ({ cls := c, slots := Array.replicate 4 .null } : Cell) = gr_out c a 0 := by
  rw [show ({ cls := c, slots := Array.replicate 4 .null } : Cell) = arrV c 4 (fun _ => .null) from arrV_new c 4 .null]
  rfl
theorem gr_outS (c : ClassId) (a i : Nat) : (gr_out c a i).setSlot i (.ref (a + 1 + i)) = gr_out c a (i + 1) := by
  unfold gr_out
  rw [arrV_store]
  congr 1
  funext j
  unfold updV
  by_cases h : j = i
  · subst h; rw [if_pos rfl, if_pos (Nat.lt_succ_self _)]; rfl
  · rw [if_neg h]
    show va_rf (if j < i then some (a + 1 + j) else none) = _
    by_cases h2 : j < i
    · rw [if_pos h2, if_pos (by omega)]
    · rw [if_neg h2, if_neg (by omega)]
theorem gr_all (S : State) (c k : ClassId) : ∀ i : Nat, (gr_st S c k i).heap.size = S.heap.size + 1 + i ∧ (gr_st S c k i).heap[S.heap.size]? = some (gr_out c S.heap.size i) ∧ (gr_st S c k i).vm = S.vm ∧ (gr_st S c k i).slotsUsed = S.slotsUsed + 4 + 40 * i ∧
    (∀ x : Nat, x < S.heap.size → (gr_st S c k i).heap[x]? = S.heap[x]?) ∧ ∀ j : Nat, j < i → (gr_st S c k i).heap[S.heap.size + 1 + j]? = some (gr_row k) := by
  intro i
  induction i with
  | zero =>
    refine ⟨by show (S.heap.push _).size = _; rw [Array.size_push], State.heap_pushCell_size _ _, rfl, ?_, fun x hx => State.heap_pushCell_of_lt _ _ hx, fun j hj => by omega⟩
    show S.slotsUsed + (gr_out c S.heap.size 0).slots.size = _
    rw [show (gr_out c S.heap.size 0).slots.size = 4 from arrV_size _ _ _]
  | succ i ih =>
    obtain ⟨h1, h2, h3, h4, h5, h6⟩ := ih
    have hb : ∀ x : Nat, x < S.heap.size + 1 + i → ((gr_st S c k i).pushCell (gr_row k)).heap[x]? = (gr_st S c k i).heap[x]? := fun x hx => State.heap_pushCell_of_lt _ _ (by rw [h1]; exact hx)
    have hz : ((gr_st S c k i).pushCell (gr_row k)).heap[S.heap.size]? = some (gr_out c S.heap.size i) := (hb _ (by omega)).trans h2
    have ho : ∀ x : Nat, x ≠ S.heap.size → (gr_st S c k (i + 1)).heap[x]? = ((gr_st S c k i).pushCell (gr_row k)).heap[x]? := fun x hx => State.heap_setCell_other (fun q => hx q.symm)
    refine ⟨?_, State.heap_setCell_self hz, h3, ?_, fun x hx => ?_, fun j hj => ?_⟩
    · show (((gr_st S c k i).heap.push _).setIfInBounds _ _).size = _
      rw [Array.size_setIfInBounds, Array.size_push, h1]; omega
    · show (gr_st S c k i).slotsUsed + (Array.replicate 40 (Value.int 0)).size = _
      rw [Array.size_replicate, h4]; omega
    · exact (ho x (by omega)).trans ((hb x (by omega)).trans (h5 x hx))
    · refine (ho _ (by omega)).trans ?_
      by_cases e : j = i
      · subst e; rw [← h1]; exact State.heap_pushCell_size _ _
      · exact (hb _ (by omega)).trans (h6 j (by omega))
theorem gr_top (S : State) (f : JFrame) (c k : ClassId) : ∀ i : Nat, gr_st (S.setTop f) c k i = (gr_st S c k i).setTop f := by
  intro i
  induction i with
  | zero => rfl
  | succ i ih =>
    show ((gr_st (S.setTop f) c k i).pushCell _).setCell _ _ = _
    rw [ih]
    rfl
section GRX
variable {p : Program} {l : Launch} {e : Env} {R : Room} {s : State} {m : MethodId} {args : Array Value} {below : List Frame} {meth : Method} {cd : Code} {T : State} {locs : List Loc} {cells slots : Nat}
theorem gr_stand (X : Stand p l e R s m args below meth cd T locs cells slots) (c k : ClassId) : ∀ i : Nat, Stand p l e R s m args below meth cd (gr_st T c k i) locs (cells + 1 + i) (slots + 4 + 40 * i) := by
  intro i
  induction i with
  | zero =>
    have h := X.pushed (gr_out c T.heap.size 0)
    rw [show (gr_out c T.heap.size 0).slots.size = 4 from arrV_size _ _ _] at h
    exact h
  | succ i ih =>
    obtain ⟨h1, h2, -⟩ := gr_all T c k i
    have hb : T.heap.size < (gr_st T c k i).heap.size := by omega
    have hz : ((gr_st T c k i).pushCell (gr_row k)).heap[T.heap.size]? = some (gr_out c T.heap.size i) := (State.heap_pushCell_of_lt _ _ hb).trans h2
    have h := (ih.pushed (gr_row k)).stored hz i (.ref (T.heap.size + 1 + i))
    rw [gr_outS, show (gr_row k).slots.size = 40 from Array.size_replicate] at h
    have h' := h.dropFresh (fun x hx => by cases List.mem_singleton.mp hx; exact X.heapGrown)
    have e3 : slots + 4 + 40 * (i + 1) = slots + 4 + 40 * i + 40 := by omega
    rw [e3]
    exact h'
end GRX
section GRW
variable {E : CtlPost} {e : Env} {d : Bool} {acts : List Action} {U : State}
theorem gr_z4 : ¬ (4 : Int32) < 0 := by decide
theorem gr_z40 : ¬ (40 : Int32) < 0 := by decide
theorem gr_c4 : (4 : Int32).toNatClampNeg = 4 := by decide
theorem gr_c40 : (40 : Int32).toNatClampNeg = 40 := by decide
theorem gr_in {k cc : ClassId} {kk : Class} (h3 : U.vm.classes[k]? = some kk) (h4 : kk.kind = .array cc .int) (hl : 40 ≤ e.platform.arrayLengthLimit) (hh : 160 ≤ e.platform.maxHeapBytes) (hc : U.heap.size < e.platform.maxCells) (hs : U.slotsUsed + 40 ≤ e.platform.maxSlots)
    {Q : Addr → Pre} (hq : ∀ acts', Q U.heap.size d acts' (U.pushCell (gr_row k))) : wp (multianewarray.make k [40]) Q E e d acts U := by
  rw [multianewarray.make]
  simp only [wp_bind', W.ite, gr_z40, if_false, wp_pure', W.theClass, h3, h4, gr_c40, Option.some.injEq, exists_eq_left']
  refine W.newArray_of h3 h4 (by omega) (by show ¬ 40 * 4 > _; omega) hc hs rfl hq
theorem gr_turn {c k cc : ClassId} {kc kk : Class} (h1 : U.vm.classes[c]? = some kc) (h2 : kc.kind = .array k (.array .int)) (h3 : U.vm.classes[k]? = some kk) (h4 : kk.kind = .array cc .int) (hl : 40 ≤ e.platform.arrayLengthLimit) (hh : 160 ≤ e.platform.maxHeapBytes) (hc : U.heap.size + 5 ≤ e.platform.maxCells) (hs : U.slotsUsed + 164 ≤ e.platform.maxSlots) {i : Nat} (hi : i < 4)
    {Q : ForInStep PUnit → Pre} (hq : ∀ d' acts', Q (.yield PUnit.unit) d' acts' (gr_st U c k (i + 1))) : wp (multianewarray.make k [40]) (fun a => wp (do writeLoc U.heap.size i (.ref a); Pure.pure (ForInStep.yield PUnit.unit)) Q E e) E e d acts (gr_st U c k i) := by
  obtain ⟨g1, g2, g3, g4, -, -⟩ := gr_all U c k i
  have hb : U.heap.size < (gr_st U c k i).heap.size := by omega
  refine gr_in (by rw [g3]; exact h3) h4 hl hh (by omega) (by omega) (fun acts' => ?_)
  simp only [wp_bind', W.writeLoc, wp_pure']
  refine ⟨gr_out c U.heap.size i, (State.heap_pushCell_of_lt _ _ hb).trans g2, (by intro q; cases q), (by rw [show (gr_out c U.heap.size i).slots.size = 4 from arrV_size _ _ _]; exact hi), ?_, ?_⟩
  · show State.fitsSlot ((gr_st U c k i).pushCell (gr_row k)) c .none i _ = true
    simp [State.fitsSlot, State.slotType?, g3, h1, h2, fits]
  · rw [g1, gr_outS]
    exact hq _ _
theorem gr_make {c k cc : ClassId} {kc kk : Class} (h1 : U.vm.classes[c]? = some kc) (h2 : kc.kind = .array k (.array .int)) (h3 : U.vm.classes[k]? = some kk) (h4 : kk.kind = .array cc .int) (hl : 40 ≤ e.platform.arrayLengthLimit) (hh : 160 ≤ e.platform.maxHeapBytes) (hc : U.heap.size + 5 ≤ e.platform.maxCells) (hs : U.slotsUsed + 164 ≤ e.platform.maxSlots)
    {Q : Addr → Pre} (hq : ∀ d' acts', Q U.heap.size d' acts' (gr_st U c k 4)) : wp (multianewarray.make c [4, 40]) Q E e d acts U := by
  rw [multianewarray.make]
  simp only [wp_bind', W.ite, gr_z4, if_false, wp_pure', W.theClass, h1, h2, gr_c4, Option.some.injEq, exists_eq_left']
  refine W.newArray_of h1 h2 (by omega) (by show ¬ 4 * 4 > _; omega) (by omega) (by omega) rfl (fun acts' => ?_)
  rw [gr_out0 c U.heap.size]
  simp only [show ([40] : List Int32).find? (· < 0) = none from by decide, ite_self, Std.Legacy.Range.forIn_eq_forIn_range', show ([0:4] : Std.Legacy.Range).size = 4 from rfl, List.range'_succ, List.range'_zero, List.forIn_cons, List.forIn_nil, wp_bind', wp_pure']
  refine gr_turn (i := 0) h1 h2 h3 h4 hl hh hc hs (by decide) (fun d1 a1 => ?_)
  simp only [wp_bind']
  refine gr_turn (i := 1) h1 h2 h3 h4 hl hh hc hs (by decide) (fun d2 a2 => ?_)
  simp only [wp_bind']
  refine gr_turn (i := 2) h1 h2 h3 h4 hl hh hc hs (by decide) (fun d3 a3 => ?_)
  simp only [wp_bind']
  refine gr_turn (i := 3) h1 h2 h3 h4 hl hh hc hs (by decide) (fun d4 a4 => ?_)
  exact hq _ _
end GRW
section GRS
variable {p : Program} {l : Launch} {e : Env} {R : Room} {s : State} {m : MethodId} {args : Array Value} {below : List Frame} {meth : Method} {cd : Code} {T : State} {locs : List Loc} {cells slots : Nat}
theorem gr_step (X : Stand p l e R s m args below meth cd T locs cells slots) (hexec : p.tables.exec = Jvm.exec) {own : String} {index : Nat} (hown : s.vm.findClass own = some m.cls) (w1 : (Cond.classLink own index "[[I").before args s = true) (w2 : (Cond.arrayOver (.array .int)).before args s = true) (w3 : (Cond.arrayClass .int).before args s = true)
    {g : JFrame} (hg : g.method = m) (hdg : decode cd.code g.pc = .ok (.multianewarray index 2, 4)) {rest : List Value} (hst : g.stack = .int 40 :: .int 4 :: rest) (hcells : cells + 5 ≤ R.cells) (hslots : slots + 164 ≤ R.slots) :
    ∃ (vm₁ : Vm) (c k : ClassId), s.vm.findClass "[[I" = some c ∧ s.vm.findClass "[I" = some k ∧ Stand p l e R s m args below meth cd (gr_st (T.setVm vm₁) c k 4) locs (cells + 5) (slots + 164) ∧
      ∀ t, Steps p.tables e below ((gr_st (T.setVm vm₁) c k 4).setTop { g with pc := g.pc + 4, stack := .ref T.heap.size :: rest }) t → Steps p.tables e below (T.setTop g) t := by
  subst hg
  obtain ⟨k, c, kc, f1, -, f2, f3, f4⟩ := gr_over w2
  obtain ⟨k', kk, cc, f5, f6, f7⟩ := Cond.arrayClass_spec w3
  have s1 : (FieldType.array .int).toString = "[I" := by decide +kernel
  have s2 : "[" ++ (FieldType.array .int).toString = "[[I" := by decide +kernel
  have s3 : "[" ++ FieldType.int.toString = "[I" := by decide +kernel
  rw [s1] at f1
  rw [s2] at f4
  rw [s3] at f5
  cases f1.symm.trans f5
  obtain ⟨c', f8, hcl⟩ := Cond.classLink_spec hown w1 e.platform (by rw [X.admits.platform])
  cases f4.symm.trans f8
  obtain ⟨r1, r2, -⟩ := State.classEntry (e := e) X.warmed hcl
  generalize T.vm.noted g.method.cls index (.cls c) = vm₁ at r1 r2
  obtain ⟨kc1, q1, q2⟩ := r2.alike.2.2 _ _ f2
  obtain ⟨kk1, q3, q4⟩ := r2.alike.2.2 _ _ f6
  have f3' : kc1.kind = .array k (.array .int) := by rw [q2]; exact f3
  have f7' : kk1.kind = .array cc .int := by rw [q4]; exact f7
  have X1 := X.noted r2
  have XF := gr_stand X1 c k 4
  obtain ⟨m1, m2⟩ := X.roomAbove hcells hslots
  refine ⟨vm₁, c, k, f4, f1, XF, fun t ht => ?_⟩
  jvm_step X.here [hexec, hdg]
  simp only [multianewarray.sem, wp_bind', W.resolveClassAt_links (State.method?_setTop g X.here.top) r1]
  show wp (popN ([.int 4, .int 40] : List Value).length) _ _ e false [] ((T.setVm vm₁).setTop g)
  rw [popN_top X1.here.top (args := [.int 4, .int 40]) hst]
  simp only [List.mapM_cons, List.mapM_nil, wp_bind', wp_pure']
  refine gr_make (U := (T.setVm vm₁).setTop { g with stack := rest }) (c := c) (k := k) q1 f3' q3 f7' (by rw [Launch.admits_arrayLengthLimit X.admits]; decide) (by rw [Launch.admits_maxHeapBytes X.admits]; decide) m1 m2 (fun d' acts' => ?_)
  rw [gr_top]
  simp only [wp_bind', W.mark, W.pushRef, State.topJava?_setTop' _ XF.here.top, Option.some.injEq, exists_eq_left', State.setTop_setTop, State.heap_setTop]
  intro acts
  simp [jvm, XF.here.top]
  exact ht
end GRS
end
section
abbrev AC : Type := (Nat × vp_A) ⊕ (Nat × List Value)
def rv (b : Nat) : Value → Value
  | .ref a => .ref (b + a)
  | v => v
theorem rv_cat (b : Nat) (v : Value) : (rv b v).category = v.category := by cases v <;> rfl
theorem rv_rv (a b : Nat) (v : Value) : rv a (rv b v) = rv (a + b) v := by cases v <;> simp [rv, Nat.add_assoc]
theorem rv_rf (b : Nat) (r : Option Nat) : rv b (va_rf r) = va_rf (r.map (b + ·)) := by cases r <;> rfl
theorem rv_rvL (a b : Nat) (l : List Value) : (l.map (rv b)).map (rv a) = l.map (rv (a + b)) := by
  rw [List.map_map]
  exact List.map_congr_left (fun v _ => rv_rv a b v)
theorem rv_rvO (a b : Nat) (l : Option Value) : (l.map (rv b)).map (rv a) = l.map (rv (a + b)) := by cases l <;> simp [rv_rv]
def sa (b : Nat) (a : vp_A) : vp_A := match a with
  | (n, .inr (.inr (.inr (.inr f)))) => (n, .inr (.inr (.inr (.inr (fun j => (f j).map (b + ·))))))
  | a => a
def ec (b : Nat) (κ : Nat → ClassId) (c : AC) : va_E := match c with
  | .inl (t, a) => .inl (κ t, sa b a)
  | .inr (ci, fs) => .inr (ci, fs.map (rv b))
def sh (b : Nat) (c : AC) : AC := match c with
  | .inl (t, a) => .inl (t, sa b a)
  | .inr (ci, fs) => .inr (ci, fs.map (rv b))
theorem sa_sa (a b : Nat) (x : vp_A) : sa a (sa b x) = sa (a + b) x := by
  obtain ⟨n, f | f | f | f | f⟩ := x
  · rfl
  · rfl
  · rfl
  · rfl
  · show (n, _) = (n, _)
    congr 6
    funext j
    cases hf : f j <;> simp [hf, Nat.add_assoc]
theorem ec_sh (a b : Nat) (κ : Nat → ClassId) (c : AC) : ec a κ (sh b c) = ec (a + b) κ c := by
  rcases c with ⟨t, x⟩ | ⟨ci, fs⟩
  · show Sum.inl (κ t, sa a (sa b x)) = Sum.inl (κ t, sa (a + b) x)
    rw [sa_sa]
  · show Sum.inr (ci, (fs.map (rv b)).map (rv a)) = Sum.inr (ci, fs.map (rv (a + b)))
    rw [rv_rvL]
def wso (b : Nat) (κ : Nat → ClassId) (h : List AC) : va_W := h.mapIdx (fun i c => (b + i, ec b κ c))
theorem wso_get (b : Nat) (κ : Nat → ClassId) (h : List AC) (i : Nat) : (wso b κ h)[i]? = (h[i]?).map (fun c => (b + i, ec b κ c)) := by
  unfold wso
  rw [List.getElem?_mapIdx]
theorem wso_at {b : Nat} {κ : Nat → ClassId} {h : List AC} {i : Nat} {c : AC} (e : h[i]? = some c) : (wso b κ h)[i]? = some (b + i, ec b κ c) := by
  rw [wso_get, e]; rfl
theorem wso_of {b : Nat} {κ : Nat → ClassId} {h : List AC} {i : Nat} {q : Nat × va_E} (e : (wso b κ h)[i]? = some q) : ∃ c, h[i]? = some c ∧ q = (b + i, ec b κ c) := by
  rw [wso_get] at e
  cases hc : h[i]? with
  | none => rw [hc] at e; cases e
  | some c => rw [hc] at e; cases e; exact ⟨c, rfl, rfl⟩
theorem wso_len (b : Nat) (κ : Nat → ClassId) (h : List AC) : (wso b κ h).length = h.length := by
  unfold wso; rw [List.length_mapIdx]
theorem wso_set {b : Nat} {κ : Nat → ClassId} {h : List AC} {i : Nat} (c : AC) : (wso b κ h).set i (b + i, ec b κ c) = wso b κ (h.set i c) := by
  apply List.ext_getElem?
  intro j
  rw [List.getElem?_set, wso_get, wso_get, List.getElem?_set, wso_len]
  by_cases hj : i = j
  · subst hj
    by_cases hl : i < h.length <;> simp [hl]
  · simp [hj]
theorem wso_app {b : Nat} {κ : Nat → ClassId} {h : List AC} (c : AC) : wso b κ (h ++ [c]) = wso b κ h ++ [(b + h.length, ec b κ c)] := by
  unfold wso
  rw [List.mapIdx_append]
  simp
def AX (al : Bool) (b N0 : Nat) : Nat → Prop := fun q => b ≤ q ∧ (al = false → q < b + N0)
theorem wso_D {al : Bool} {b N0 : Nat} {κ : Nat → ClassId} {h : List AC} (hN : al = false → h.length = N0) : va_D (AX al b N0) (wso b κ h) := by
  refine ⟨fun i j p q hp hq e => ?_, fun k q hq => ?_⟩
  · obtain ⟨c1, -, rfl⟩ := wso_of hp
    obtain ⟨c2, -, rfl⟩ := wso_of hq
    have e : b + i = b + j := e
    omega
  · obtain ⟨c, hc, rfl⟩ := wso_of hq
    have hk : k < h.length := (List.getElem?_eq_some_iff.mp hc).1
    refine ⟨Nat.le_add_right _ _, fun ha => ?_⟩
    have := hN ha
    show b + k < b + N0
    omega
abbrev tyk (κ : Nat → ClassId) : List (ClassId × FieldType) := [(κ 0, .int), (κ 1, .boolean), (κ 2, .object "EarChart$Row"), (κ 3, .array .int)]
def okW : Cond → Bool
  | .fieldLinkNest .. => true
  | .methodLinkNest .. => true
  | .arrayOver (.object _) => true
  | .arrayOver (.array .int) => true
  | w => goodWord w
def ktbl : List Cond := lw_tbl.filter okW
theorem k_mem {w : Cond} (h : w ∈ lw_tbl) (ho : okW w = true) : w ∈ ktbl := List.mem_filter.mpr ⟨h, ho⟩
theorem k_at {w : Cond} (i : Nat) (h : lw_tbl[i]? = some w) (ho : okW w = true) : w ∈ ktbl := k_mem (List.mem_of_getElem? h) ho
theorem okW_of {w : Cond} (h : w ∈ ktbl) : okW w = true := (List.mem_filter.mp h).2
def onT : Cond → Bool
  | .arrayClass _ => true
  | .arrayOver _ => true
  | w => w.onTables
theorem onT_all : ktbl.all onT = true := by decide +kernel
theorem onT_args {w : Cond} (hn : onT w = true) {A A' : Array Value} {U : State} (h : w.before A U = true) : w.before A' U = true := by
  cases w
  case arrayClass => exact h
  case arrayOver => exact h
  all_goals (refine va_tabs ?_ rfl h; exact hn)
theorem tb_args {A A' : Array Value} {U : State} (h : ∀ w ∈ ktbl, w.before A U = true) : ∀ w ∈ ktbl, w.before A' U = true := fun w hw => onT_args (List.all_eq_true.mp onT_all w hw) (h w hw)
theorem ao_moved {u U : State} (hvm : u.vm.Alike U.vm) (h : va_Nw (.arrayOver (.array .int)) u) : va_Nw (.arrayOver (.array .int)) U := by
  obtain ⟨comp, c, k, h1, h2, h3, h4, h5⟩ := gr_over h
  obtain ⟨k', hk', he⟩ := hvm.2.2 _ _ h3
  have hi : (U.vm.classes.findIdx? fun (x : Class) => match x.kind with | .array component _ => component == comp | _ => false) = some c := by
    have e1 := va_idx_bare U.vm comp
    have e2 := va_idx_bare u.vm comp
    have e3 : u.vm.bare = U.vm.bare := by first | exact hvm.bare_eq | exact hvm.bare_eq.symm
    rw [← e3] at e1
    exact e1.symm.trans (e2.trans h2)
  have hkind : k'.kind = .array comp (.array .int) := by rw [he]; exact h4
  have f1 : U.vm.findClass (FieldType.array .int).toString = some comp := by rw [hvm.findClass]; exact h1
  have f2 : U.vm.findClass ("[" ++ (FieldType.array .int).toString) = some c := by rw [hvm.findClass]; exact h5
  unfold va_Nw Cond.before Cond.holds
  simp only [Cond.value]
  rw [f1, Option.bind_some]
  refine (congrArg (fun o : Option Nat => (o.bind (fun c => (U.vm.classes[c]?).map fun (k : Class) => match k.kind with | .array _ ty => decide (ty = FieldType.array .int) && decide (U.vm.findClass ("[" ++ (FieldType.array .int).toString) = some c) | _ => false) == some true)) hi).trans ?_
  simp [hk', hkind, f2]
theorem tb_word {s U : State} (hW : s.WarmedH U.vm) {A A' : Array Value} {w : Cond} (ho : okW w = true) (h : w.before A s = true) : w.before A' U = true := by
  cases w
  case fieldLinkNest => exact va_Nw.use rfl (va_Nw.warmF hW (va_Nw.of rfl h))
  case methodLinkNest => exact va_Nw.use rfl (va_Nw.warmM hW (va_Nw.of rfl h))
  case arrayOver ty =>
    cases ty
    case object C => exact va_AO.use (va_AO.moved hW.alike (va_AO.of h))
    case array t =>
      cases t
      case int => exact ao_moved hW.alike h
      all_goals exact word_at hW (good_of_word ho) h
    all_goals exact word_at hW (good_of_word ho) h
  all_goals exact word_at hW (good_of_word ho) h
theorem tb_warm {s U : State} (hW : s.WarmedH U.vm) {A A' : Array Value} (h : ∀ w ∈ ktbl, w.before A s = true) : ∀ w ∈ ktbl, w.before A' U = true :=
  fun w hw => tb_word hW (okW_of hw) (h w hw)
end
section
def F_E : u_T := fun k => match k with
  | 0 => ("EarChart", "rows", "[LEarChart$Row;", true)
  | 1 => ("EarChart", "shape", "LEarChart$Shape;", true)
  | 2 => ("EarChart", "meeting", "LEarChart$Meeting;", true)
  | 3 => ("EarChart", "laying", "LEarChart$Laying;", true)
  | 4 => ("EarChart", "marks", "[Z", true)
  | 5 => ("EarChart", "part", "I", false)
  | 6 => ("EarChart", "grain", "I", false)
  | 7 => ("EarChart", "hide", "I", false)
  | 8 => ("EarChart", "late", "I", false)
  | 9 => ("EarChart", "walkRow", "I", false)
  | _ => ("EarChart", "walkStep", "I", false)
def ft_E : Nat → FieldType := fun k => match k with
  | 0 => (.array (.object "EarChart$Row"))
  | 1 => (.object "EarChart$Shape")
  | 2 => (.object "EarChart$Meeting")
  | 3 => (.object "EarChart$Laying")
  | 4 => (.array .boolean)
  | 5 => .int
  | 6 => .int
  | 7 => .int
  | 8 => .int
  | 9 => .int
  | _ => .int
theorem fn_E : ∀ a, a < 11 → ∀ b, b < 11 → a ≠ b → (F_E a).2.1 ≠ (F_E b).2.1 := by decide +kernel
theorem fo_E : ∀ k, k < 11 → parseFieldDescriptor (F_E k).2.2.1 = some (ft_E k) := by decide +kernel
theorem fi_E : ∀ w ∈ u_ws "EarChart" F_E 11, w ∈ ktbl := by decide +kernel
def F_R : u_T := fun k => match k with
  | 0 => ("EarChart$Row", "values", "[I", true)
  | 1 => ("EarChart$Row", "count", "I", false)
  | 2 => ("EarChart$Row", "miss", "I", false)
  | _ => ("EarChart$Row", "worth", "I", false)
def ft_R : Nat → FieldType := fun k => match k with
  | 0 => (.array .int)
  | 1 => .int
  | 2 => .int
  | _ => .int
theorem fn_R : ∀ a, a < 4 → ∀ b, b < 4 → a ≠ b → (F_R a).2.1 ≠ (F_R b).2.1 := by decide +kernel
theorem fo_R : ∀ k, k < 4 → parseFieldDescriptor (F_R k).2.2.1 = some (ft_R k) := by decide +kernel
theorem fi_R : ∀ w ∈ u_ws "EarChart$Row" F_R 4, w ∈ ktbl := by decide +kernel
def F_S : u_T := fun k => match k with
  | 0 => ("EarChart$Shape", "kinds", "[I", true)
  | 1 => ("EarChart$Shape", "firsts", "[I", true)
  | 2 => ("EarChart$Shape", "lasts", "[I", true)
  | 3 => ("EarChart$Shape", "turns", "[I", true)
  | 4 => ("EarChart$Shape", "costs", "[[I", true)
  | 5 => ("EarChart$Shape", "spanCount", "I", false)
  | 6 => ("EarChart$Shape", "turnCount", "I", false)
  | _ => ("EarChart$Shape", "total", "I", false)
def ft_S : Nat → FieldType := fun k => match k with
  | 0 => (.array .int)
  | 1 => (.array .int)
  | 2 => (.array .int)
  | 3 => (.array .int)
  | 4 => (.array (.array .int))
  | 5 => .int
  | 6 => .int
  | _ => .int
theorem fn_S : ∀ a, a < 8 → ∀ b, b < 8 → a ≠ b → (F_S a).2.1 ≠ (F_S b).2.1 := by decide +kernel
theorem fo_S : ∀ k, k < 8 → parseFieldDescriptor (F_S k).2.2.1 = some (ft_S k) := by decide +kernel
theorem fi_S : ∀ w ∈ u_ws "EarChart$Shape" F_S 8, w ∈ ktbl := by decide +kernel
def F_M : u_T := fun k => match k with
  | 0 => ("EarChart$Meeting", "steps", "[I", true)
  | _ => ("EarChart$Meeting", "count", "I", false)
def ft_M : Nat → FieldType := fun k => match k with
  | 0 => (.array .int)
  | _ => .int
theorem fn_M : ∀ a, a < 2 → ∀ b, b < 2 → a ≠ b → (F_M a).2.1 ≠ (F_M b).2.1 := by decide +kernel
theorem fo_M : ∀ k, k < 2 → parseFieldDescriptor (F_M k).2.2.1 = some (ft_M k) := by decide +kernel
theorem fi_M : ∀ w ∈ u_ws "EarChart$Meeting" F_M 2, w ∈ ktbl := by decide +kernel
def F_L : u_T := fun k => match k with
  | 0 => ("EarChart$Laying", "heights", "[I", true)
  | 1 => ("EarChart$Laying", "worths", "[I", true)
  | 2 => ("EarChart$Laying", "slots", "[I", true)
  | 3 => ("EarChart$Laying", "trial", "[I", true)
  | 4 => ("EarChart$Laying", "hide", "I", false)
  | 5 => ("EarChart$Laying", "late", "I", false)
  | _ => ("EarChart$Laying", "least", "I", false)
def ft_L : Nat → FieldType := fun k => match k with
  | 0 => (.array .int)
  | 1 => (.array .int)
  | 2 => (.array .int)
  | 3 => (.array .int)
  | 4 => .int
  | 5 => .int
  | _ => .int
theorem fn_L : ∀ a, a < 7 → ∀ b, b < 7 → a ≠ b → (F_L a).2.1 ≠ (F_L b).2.1 := by decide +kernel
theorem fo_L : ∀ k, k < 7 → parseFieldDescriptor (F_L k).2.2.1 = some (ft_L k) := by decide +kernel
theorem fi_L : ∀ w ∈ u_ws "EarChart$Laying" F_L 7, w ∈ ktbl := by decide +kernel
def F_T : u_T := fun k => match k with
  | 0 => ("EarChartModel", "many", "[I", true)
  | 1 => ("EarChartModel", "values", "[I", true)
  | 2 => ("EarChartModel", "miss", "[I", true)
  | 3 => ("EarChartModel", "worth", "[I", true)
  | 4 => ("EarChartModel", "part", "I", false)
  | 5 => ("EarChartModel", "walkRow", "I", false)
  | 6 => ("EarChartModel", "walkStep", "I", false)
  | 7 => ("EarChartModel", "kinds", "[I", true)
  | 8 => ("EarChartModel", "least", "[I", true)
  | 9 => ("EarChartModel", "all", "I", false)
  | 10 => ("EarChartModel", "spans", "I", false)
  | 11 => ("EarChartModel", "spanKind", "[I", true)
  | 12 => ("EarChartModel", "spanFirst", "[I", true)
  | 13 => ("EarChartModel", "spanLast", "[I", true)
  | 14 => ("EarChartModel", "turns", "I", false)
  | 15 => ("EarChartModel", "turnStep", "[I", true)
  | 16 => ("EarChartModel", "crossings", "I", false)
  | 17 => ("EarChartModel", "crossStep", "[I", true)
  | 18 => ("EarChartModel", "scale", "I", false)
  | 19 => ("EarChartModel", "hide", "I", false)
  | 20 => ("EarChartModel", "late", "I", false)
  | 21 => ("EarChartModel", "low", "I", false)
  | 22 => ("EarChartModel", "high", "I", false)
  | 23 => ("EarChartModel", "slots", "[I", true)
  | 24 => ("EarChartModel", "bestSlots", "[I", true)
  | 25 => ("EarChartModel", "heights", "[I", true)
  | 26 => ("EarChartModel", "beats", "[I", true)
  | _ => ("EarChartModel", "more", "[Z", true)
def ft_T : Nat → FieldType := fun k => match k with
  | 0 => (.array .int)
  | 1 => (.array .int)
  | 2 => (.array .int)
  | 3 => (.array .int)
  | 4 => .int
  | 5 => .int
  | 6 => .int
  | 7 => (.array .int)
  | 8 => (.array .int)
  | 9 => .int
  | 10 => .int
  | 11 => (.array .int)
  | 12 => (.array .int)
  | 13 => (.array .int)
  | 14 => .int
  | 15 => (.array .int)
  | 16 => .int
  | 17 => (.array .int)
  | 18 => .int
  | 19 => .int
  | 20 => .int
  | 21 => .int
  | 22 => .int
  | 23 => (.array .int)
  | 24 => (.array .int)
  | 25 => (.array .int)
  | 26 => (.array .int)
  | _ => (.array .boolean)
theorem fn_T : ∀ a, a < 28 → ∀ b, b < 28 → a ≠ b → (F_T a).2.1 ≠ (F_T b).2.1 := by decide +kernel
theorem fo_T : ∀ k, k < 28 → parseFieldDescriptor (F_T k).2.2.1 = some (ft_T k) := by decide +kernel
theorem fi_T : ∀ w ∈ u_ws "EarChartModel" F_T 28, w ∈ ktbl := by decide +kernel
abbrev kclasses : List vw_C := [("EarChart", F_E, 11), ("EarChart$Row", F_R, 4), ("EarChart$Shape", F_S, 8), ("EarChart$Meeting", F_M, 2), ("EarChart$Laying", F_L, 7), ("EarChartModel", F_T, 28)]
abbrev MI : Type := MethodName × ByteArray × Nat × Option FieldType
abbrev kE_init : MI := (⟨"EarChart", "<init>", "()V"⟩, prog_1_method_1_code, 2, (none : Option FieldType))
abbrev kE_value : MI := (⟨"EarChart", "value", "(II)I"⟩, prog_1_method_2_code, 4, (some FieldType.int))
abbrev kE_gap : MI := (⟨"EarChart", "gap", "(I)I"⟩, prog_1_method_3_code, 3, (some FieldType.int))
abbrev kE_put : MI := (⟨"EarChart", "put", "(III)Z"⟩, prog_1_method_4_code, 5, (some FieldType.boolean))
abbrev kE_clear : MI := (⟨"EarChart", "clear", "(I)I"⟩, prog_1_method_5_code, 4, (some FieldType.int))
abbrev kE_miss : MI := (⟨"EarChart", "miss", "(II)I"⟩, prog_1_method_6_code, 5, (some FieldType.int))
abbrev kE_part : MI := (⟨"EarChart", "part", "(I)I"⟩, prog_1_method_7_code, 3, (some FieldType.int))
abbrev kE_at : MI := (⟨"EarChart", "at", "(II)I"⟩, prog_1_method_8_code, 4, (some FieldType.int))
abbrev kE_spans : MI := (⟨"EarChart", "spans", "(I)I"⟩, prog_1_method_9_code, 2, (some FieldType.int))
abbrev kE_cost : MI := (⟨"EarChart", "cost", "(I)I"⟩, prog_1_method_10_code, 2, (some FieldType.int))
abbrev kE_span : MI := (⟨"EarChart", "span", "(III)I"⟩, prog_1_method_11_code, 4, (some FieldType.int))
abbrev kE_kind : MI := (⟨"EarChart", "kind", "(II)I"⟩, prog_1_method_12_code, 3, (some FieldType.int))
abbrev kE_turnsOf : MI := (⟨"EarChart", "turnsOf", "(I)I"⟩, prog_1_method_13_code, 2, (some FieldType.int))
abbrev kE_turn : MI := (⟨"EarChart", "turn", "(II)I"⟩, prog_1_method_14_code, 3, (some FieldType.int))
abbrev kE_sure : MI := (⟨"EarChart", "sure", "(III)I"⟩, prog_1_method_15_code, 4, (some FieldType.int))
abbrev kE_crossings : MI := (⟨"EarChart", "crossings", "(II)I"⟩, prog_1_method_16_code, 3, (some FieldType.int))
abbrev kE_crossing : MI := (⟨"EarChart", "crossing", "(III)I"⟩, prog_1_method_17_code, 4, (some FieldType.int))
abbrev kE_scale : MI := (⟨"EarChart", "scale", "(II)I"⟩, prog_1_method_18_code, 6, (some FieldType.int))
abbrev kE_height : MI := (⟨"EarChart", "height", "(II)I"⟩, prog_1_method_19_code, 4, (some FieldType.int))
abbrev kE_ear : MI := (⟨"EarChart", "ear", "(II)Z"⟩, prog_1_method_20_code, 3, (some FieldType.boolean))
abbrev kE_worth : MI := (⟨"EarChart", "worth", "(II)I"⟩, prog_1_method_21_code, 5, (some FieldType.int))
abbrev kE_lay : MI := (⟨"EarChart", "lay", "(I)I"⟩, prog_1_method_22_code, 2, (some FieldType.int))
abbrev kE_slot : MI := (⟨"EarChart", "slot", "(II)I"⟩, prog_1_method_23_code, 4, (some FieldType.int))
abbrev kE_hears : MI := (⟨"EarChart", "hears", "(III)I"⟩, prog_1_method_24_code, 4, (some FieldType.int))
abbrev kE_whole : MI := (⟨"EarChart", "whole", "(III)I"⟩, prog_1_method_25_code, 4, (some FieldType.int))
abbrev kE_walk : MI := (⟨"EarChart", "walk", "(II)Z"⟩, prog_1_method_26_code, 4, (some FieldType.boolean))
abbrev kE_where : MI := (⟨"EarChart", "where", "(I)I"⟩, prog_1_method_27_code, 2, (some FieldType.int))
abbrev kE_go : MI := (⟨"EarChart", "go", "(Z)I"⟩, prog_1_method_28_code, 4, (some FieldType.int))
abbrev kE_seek : MI := (⟨"EarChart", "seek", "(ZI)I"⟩, prog_1_method_29_code, 5, (some FieldType.int))
abbrev kE_within : MI := (⟨"EarChart", "within", "(III)Z"⟩, prog_1_method_30_code, 3, (some FieldType.boolean))
abbrev kE_isValue : MI := (⟨"EarChart", "isValue", "(I)Z"⟩, prog_1_method_31_code, 1, (some FieldType.boolean))
abbrev kE_rowOf : MI := (⟨"EarChart", "rowOf", "(I)LEarChart$Row;"⟩, prog_1_method_32_code, 2, (some (FieldType.object "EarChart$Row")))
abbrev kE_areTwoRows : MI := (⟨"EarChart", "areTwoRows", "(II)Z"⟩, prog_1_method_33_code, 2, (some FieldType.boolean))
abbrev kE_readShape : MI := (⟨"EarChart", "readShape", "(I)Z"⟩, prog_1_method_34_code, 3, (some FieldType.boolean))
abbrev kE_readMeeting : MI := (⟨"EarChart", "readMeeting", "(II)Z"⟩, prog_1_method_35_code, 3, (some FieldType.boolean))
abbrev kE_compareSurely : MI := (⟨"EarChart", "compareSurely", "(LEarChart$Row;LEarChart$Row;I)I"⟩, prog_1_method_36_code, 5, (some FieldType.int))
abbrev kE_lowestValue : MI := (⟨"EarChart", "lowestValue", "()I"⟩, prog_1_method_37_code, 3, (some FieldType.int))
abbrev kE_highestValue : MI := (⟨"EarChart", "highestValue", "()I"⟩, prog_1_method_38_code, 3, (some FieldType.int))
abbrev kE_heightAbove : MI := (⟨"EarChart", "heightAbove", "(ILEarChart$Row;I)I"⟩, prog_1_method_39_code, 4, (some FieldType.int))
abbrev kE_readLaying : MI := (⟨"EarChart", "readLaying", "(I)Z"⟩, prog_1_method_40_code, 4, (some FieldType.boolean))
abbrev kE_soundsAbove : MI := (⟨"EarChart", "soundsAbove", "(II)Z"⟩, prog_1_method_41_code, 5, (some FieldType.boolean))
abbrev kE_markSought : MI := (⟨"EarChart", "markSought", "(LEarChart$Row;I)V"⟩, prog_1_method_42_code, 4, (none : Option FieldType))
abbrev kE_markTurns : MI := (⟨"EarChart", "markTurns", "(LEarChart$Row;)V"⟩, prog_1_method_43_code, 3, (none : Option FieldType))
abbrev kE_markCrossings : MI := (⟨"EarChart", "markCrossings", "(LEarChart$Row;)V"⟩, prog_1_method_44_code, 4, (none : Option FieldType))
abbrev kE_markBehind : MI := (⟨"EarChart", "markBehind", "(I)I"⟩, prog_1_method_45_code, 3, (some FieldType.int))
abbrev kE_markAhead : MI := (⟨"EarChart", "markAhead", "(I)I"⟩, prog_1_method_46_code, 3, (some FieldType.int))
abbrev kT_init : MI := (⟨"EarChartModel", "<init>", "()V"⟩, prog_7_method_1_code, 1, (none : Option FieldType))
abbrev kT_isRow : MI := (⟨"EarChartModel", "isRow", "(I)Z"⟩, prog_7_method_2_code, 1, (some FieldType.boolean))
abbrev kT_isIn : MI := (⟨"EarChartModel", "isIn", "(III)Z"⟩, prog_7_method_3_code, 3, (some FieldType.boolean))
abbrev kT_isStep : MI := (⟨"EarChartModel", "isStep", "(II)Z"⟩, prog_7_method_4_code, 3, (some FieldType.boolean))
abbrev kT_hasValue : MI := (⟨"EarChartModel", "hasValue", "(II)Z"⟩, prog_7_method_5_code, 3, (some FieldType.boolean))
abbrev kT_valueAt : MI := (⟨"EarChartModel", "valueAt", "(II)I"⟩, prog_7_method_6_code, 3, (some FieldType.int))
abbrev kT_adds : MI := (⟨"EarChartModel", "adds", "(II)I"⟩, prog_7_method_7_code, 3, (some FieldType.int))
abbrev kT_value : MI := (⟨"EarChartModel", "value", "(II)I"⟩, prog_7_method_8_code, 3, (some FieldType.int))
abbrev kT_gap : MI := (⟨"EarChartModel", "gap", "(I)I"⟩, prog_7_method_9_code, 2, (some FieldType.int))
abbrev kT_put : MI := (⟨"EarChartModel", "put", "(III)Z"⟩, prog_7_method_10_code, 4, (some FieldType.boolean))
abbrev kT_clear : MI := (⟨"EarChartModel", "clear", "(I)I"⟩, prog_7_method_11_code, 3, (some FieldType.int))
abbrev kT_miss : MI := (⟨"EarChartModel", "miss", "(II)I"⟩, prog_7_method_12_code, 4, (some FieldType.int))
abbrev kT_part : MI := (⟨"EarChartModel", "part", "(I)I"⟩, prog_7_method_13_code, 3, (some FieldType.int))
abbrev kT_at : MI := (⟨"EarChartModel", "at", "(II)I"⟩, prog_7_method_14_code, 3, (some FieldType.int))
abbrev kT_isWay : MI := (⟨"EarChartModel", "isWay", "(II)Z"⟩, prog_7_method_15_code, 3, (some FieldType.boolean))
abbrev kT_wayCost : MI := (⟨"EarChartModel", "wayCost", "(III)I"⟩, prog_7_method_16_code, 5, (some FieldType.int))
abbrev kT_weighs : MI := (⟨"EarChartModel", "weighs", "(I)V"⟩, prog_7_method_17_code, 7, (none : Option FieldType))
abbrev kT_shapes : MI := (⟨"EarChartModel", "shapes", "(I)V"⟩, prog_7_method_18_code, 7, (none : Option FieldType))
abbrev kT_spans : MI := (⟨"EarChartModel", "spans", "(I)I"⟩, prog_7_method_19_code, 2, (some FieldType.int))
abbrev kT_cost : MI := (⟨"EarChartModel", "cost", "(I)I"⟩, prog_7_method_20_code, 2, (some FieldType.int))
abbrev kT_span : MI := (⟨"EarChartModel", "span", "(III)I"⟩, prog_7_method_21_code, 4, (some FieldType.int))
abbrev kT_kind : MI := (⟨"EarChartModel", "kind", "(II)I"⟩, prog_7_method_22_code, 3, (some FieldType.int))
abbrev kT_size : MI := (⟨"EarChartModel", "size", "(I)I"⟩, prog_7_method_23_code, 1, (some FieldType.int))
abbrev kT_turnsIn : MI := (⟨"EarChartModel", "turnsIn", "(I)V"⟩, prog_7_method_24_code, 4, (none : Option FieldType))
abbrev kT_turnsOf : MI := (⟨"EarChartModel", "turnsOf", "(I)I"⟩, prog_7_method_25_code, 2, (some FieldType.int))
abbrev kT_turn : MI := (⟨"EarChartModel", "turn", "(II)I"⟩, prog_7_method_26_code, 3, (some FieldType.int))
abbrev kT_sure : MI := (⟨"EarChartModel", "sure", "(III)I"⟩, prog_7_method_27_code, 6, (some FieldType.int))
abbrev kT_crosses : MI := (⟨"EarChartModel", "crosses", "(II)V"⟩, prog_7_method_28_code, 6, (none : Option FieldType))
abbrev kT_crossings : MI := (⟨"EarChartModel", "crossings", "(II)I"⟩, prog_7_method_29_code, 3, (some FieldType.int))
abbrev kT_crossing : MI := (⟨"EarChartModel", "crossing", "(III)I"⟩, prog_7_method_30_code, 4, (some FieldType.int))
abbrev kT_ends : MI := (⟨"EarChartModel", "ends", "()Z"⟩, prog_7_method_31_code, 5, (some FieldType.boolean))
abbrev kT_scale : MI := (⟨"EarChartModel", "scale", "(II)I"⟩, prog_7_method_32_code, 4, (some FieldType.int))
abbrev kT_height : MI := (⟨"EarChartModel", "height", "(II)I"⟩, prog_7_method_33_code, 3, (some FieldType.int))
abbrev kT_ear : MI := (⟨"EarChartModel", "ear", "(II)Z"⟩, prog_7_method_34_code, 3, (some FieldType.boolean))
abbrev kT_worth : MI := (⟨"EarChartModel", "worth", "(II)I"⟩, prog_7_method_35_code, 4, (some FieldType.int))
abbrev kT_isLaid : MI := (⟨"EarChartModel", "isLaid", "(I)Z"⟩, prog_7_method_36_code, 4, (some FieldType.boolean))
abbrev kT_slotCost : MI := (⟨"EarChartModel", "slotCost", "(I)I"⟩, prog_7_method_37_code, 4, (some FieldType.int))
abbrev kT_laying : MI := (⟨"EarChartModel", "laying", "(I)I"⟩, prog_7_method_38_code, 7, (some FieldType.int))
abbrev kT_lay : MI := (⟨"EarChartModel", "lay", "(I)I"⟩, prog_7_method_39_code, 2, (some FieldType.int))
abbrev kT_slot : MI := (⟨"EarChartModel", "slot", "(II)I"⟩, prog_7_method_40_code, 3, (some FieldType.int))
abbrev kT_hears : MI := (⟨"EarChartModel", "hears", "(III)I"⟩, prog_7_method_41_code, 6, (some FieldType.int))
abbrev kT_ways : MI := (⟨"EarChartModel", "ways", "(I)I"⟩, prog_7_method_42_code, 2, (some FieldType.int))
abbrev kT_whole : MI := (⟨"EarChartModel", "whole", "(III)I"⟩, prog_7_method_43_code, 9, (some FieldType.int))
abbrev kT_walk : MI := (⟨"EarChartModel", "walk", "(II)Z"⟩, prog_7_method_44_code, 3, (some FieldType.boolean))
abbrev kT_where : MI := (⟨"EarChartModel", "where", "(I)I"⟩, prog_7_method_45_code, 2, (some FieldType.int))
abbrev kT_go : MI := (⟨"EarChartModel", "go", "(Z)I"⟩, prog_7_method_46_code, 3, (some FieldType.int))
abbrev kT_isCross : MI := (⟨"EarChartModel", "isCross", "(II)Z"⟩, prog_7_method_47_code, 5, (some FieldType.boolean))
abbrev kT_isTurn : MI := (⟨"EarChartModel", "isTurn", "(II)Z"⟩, prog_7_method_48_code, 4, (some FieldType.boolean))
abbrev kT_seek : MI := (⟨"EarChartModel", "seek", "(ZI)I"⟩, prog_7_method_49_code, 6, (some FieldType.int))
abbrev kL_init : MI := (⟨"EarChart$Laying", "<init>", "()V"⟩, prog_2_method_1_code, 1, (none : Option FieldType))
abbrev kL_find : MI := (⟨"EarChart$Laying", "find", "(II)V"⟩, prog_2_method_2_code, 3, (none : Option FieldType))
abbrev kL_tryFrom : MI := (⟨"EarChart$Laying", "tryFrom", "(II)V"⟩, prog_2_method_3_code, 3, (none : Option FieldType))
abbrev kL_tryPlaces : MI := (⟨"EarChart$Laying", "tryPlaces", "(II)V"⟩, prog_2_method_4_code, 4, (none : Option FieldType))
abbrev kL_tryWith : MI := (⟨"EarChart$Laying", "tryWith", "(III)V"⟩, prog_2_method_5_code, 4, (none : Option FieldType))
abbrev kL_isFree : MI := (⟨"EarChart$Laying", "isFree", "(II)Z"⟩, prog_2_method_6_code, 4, (some FieldType.boolean))
abbrev kL_isHeard : MI := (⟨"EarChart$Laying", "isHeard", "(I)Z"⟩, prog_2_method_7_code, 2, (some FieldType.boolean))
abbrev kM_init : MI := (⟨"EarChart$Meeting", "<init>", "()V"⟩, prog_3_method_1_code, 1, (none : Option FieldType))
abbrev kM_read : MI := (⟨"EarChart$Meeting", "read", "(LEarChart$Row;LEarChart$Row;)V"⟩, prog_3_method_2_code, 6, (none : Option FieldType))
abbrev kR_init : MI := (⟨"EarChart$Row", "<init>", "()V"⟩, prog_4_method_1_code, 1, (none : Option FieldType))
abbrev kR_hasStep : MI := (⟨"EarChart$Row", "hasStep", "(I)Z"⟩, prog_4_method_2_code, 2, (some FieldType.boolean))
abbrev kR_hasValue : MI := (⟨"EarChart$Row", "hasValue", "(I)Z"⟩, prog_4_method_3_code, 2, (some FieldType.boolean))
abbrev kR_hasWay : MI := (⟨"EarChart$Row", "hasWay", "(I)Z"⟩, prog_4_method_4_code, 2, (some FieldType.boolean))
abbrev kR_append : MI := (⟨"EarChart$Row", "append", "(I)I"⟩, prog_4_method_5_code, 2, (some FieldType.int))
abbrev kR_lowest : MI := (⟨"EarChart$Row", "lowest", "()I"⟩, prog_4_method_6_code, 3, (some FieldType.int))
abbrev kR_highest : MI := (⟨"EarChart$Row", "highest", "()I"⟩, prog_4_method_7_code, 3, (some FieldType.int))
abbrev kS_init : MI := (⟨"EarChart$Shape", "<init>", "()V"⟩, prog_5_method_1_code, 1, (none : Option FieldType))
abbrev kS_read : MI := (⟨"EarChart$Shape", "read", "(LEarChart$Row;I)V"⟩, prog_5_method_2_code, 3, (none : Option FieldType))
abbrev kS_weighWays : MI := (⟨"EarChart$Shape", "weighWays", "(LEarChart$Row;I)V"⟩, prog_5_method_3_code, 6, (none : Option FieldType))
abbrev kS_costOfWay : MI := (⟨"EarChart$Shape", "costOfWay", "(II)I"⟩, prog_5_method_4_code, 2, (some FieldType.int))
abbrev kS_costBehind : MI := (⟨"EarChart$Shape", "costBehind", "(IIII)I"⟩, prog_5_method_5_code, 5, (some FieldType.int))
abbrev kS_bestKind : MI := (⟨"EarChart$Shape", "bestKind", "(III)I"⟩, prog_5_method_6_code, 6, (some FieldType.int))
abbrev kS_chooseKinds : MI := (⟨"EarChart$Shape", "chooseKinds", "(LEarChart$Row;I)V"⟩, prog_5_method_7_code, 6, (none : Option FieldType))
abbrev kS_noteWay : MI := (⟨"EarChart$Shape", "noteWay", "(III)V"⟩, prog_5_method_8_code, 4, (none : Option FieldType))
abbrev kS_findTurns : MI := (⟨"EarChart$Shape", "findTurns", "(LEarChart$Row;)V"⟩, prog_5_method_9_code, 3, (none : Option FieldType))
abbrev kS_turnsAtStart : MI := (⟨"EarChart$Shape", "turnsAtStart", "(LEarChart$Row;I)Z"⟩, prog_5_method_10_code, 6, (some FieldType.boolean))
abbrev kS_hasSpan : MI := (⟨"EarChart$Shape", "hasSpan", "(I)Z"⟩, prog_5_method_11_code, 2, (some FieldType.boolean))
abbrev kS_kindOfSpan : MI := (⟨"EarChart$Shape", "kindOfSpan", "(I)I"⟩, prog_5_method_12_code, 2, (some FieldType.int))
abbrev kS_waysOfSpan : MI := (⟨"EarChart$Shape", "waysOfSpan", "(I)I"⟩, prog_5_method_13_code, 2, (some FieldType.int))
abbrev kS_allWays : MI := (⟨"EarChart$Shape", "allWays", "()I"⟩, prog_5_method_14_code, 3, (some FieldType.int))
abbrev kS_beatsOfSpan : MI := (⟨"EarChart$Shape", "beatsOfSpan", "(II)I"⟩, prog_5_method_15_code, 10, (some FieldType.int))
end
section
def RL (al : Bool) (b : Nat) (D : va_G) (κ : Nat → ClassId) (h : List AC) (U : State) : Prop := (∀ w ∈ ktbl, w.before #[] U = true) ∧ va_K D kclasses (tyk κ) U ∧ va_P D kclasses (wso b κ h) U.heap ∧ (al = true → U.heap.size = b + h.length)
theorem RL.vm {al : Bool} {b : Nat} {D : va_G} {κ : Nat → ClassId} {h : List AC} {u U : State} (hW : u.WarmedH U.vm) (hh : U.heap = u.heap) (r : RL al b D κ h u) : RL al b D κ h U := ⟨tb_warm hW r.1, va_K.moved hW.alike r.2.1, by rw [hh]; exact r.2.2.1, by rw [hh]; exact r.2.2.2⟩
def rmD (d mc ms : Nat) : Room := { frames := d, cells := mc, slots := ms, locals := 64 * d }
abbrev QT : Type := Option Value → List AC → Prop
def QC (al : Bool) (b : Nat) (D : va_G) (κ : Nat → ClassId) (N0 : Nat) (Q : QT) : Array Value → State → Outcome → State → Prop := fun _ st o t => (∃ (r : Option Value) (h' : List AC), o = .returned (r.map (rv b)) ∧ Q r h' ∧ (al = false → h'.length = N0) ∧ RL al b D κ h' t) ∧ va_F (AX al b N0) st t
def AMet (M : MI) (al : Bool) (d mc ms : Nat) (as : List Value) (h : List AC) (Q : QT) : Prop :=
  ∀ (l : Launch) (b : Nat) (D : va_G) (κ : Nat → ClassId), Met l M.1 [.code M.1 M.2.1 M.2.2.1 M.2.2.2] (rmD d mc ms) (va_Pc (as.map (rv b)) (RL al b D κ h)) (QC al b D κ h.length Q) mc ms (AX al b h.length)
def lvl (b : Nat) (L : List (Option Value)) : List (Nat × Value) := (L.mapIdx (fun i o => o.map (fun v => (i, rv b v)))).filterMap id
theorem lvl_mem {b : Nat} {L : List (Option Value)} {q : Nat × Value} : q ∈ lvl b L ↔ ∃ v, L[q.1]? = some (some v) ∧ q.2 = rv b v := by
  unfold lvl
  rw [List.mem_filterMap]
  constructor
  · rintro ⟨o, ho, e⟩
    obtain ⟨i, hi⟩ := List.mem_iff_getElem?.mp ho
    rw [List.getElem?_mapIdx] at hi
    cases hL : L[i]? with
    | none => rw [hL] at hi; cases hi
    | some v0 =>
      rw [hL] at hi
      cases v0 with
      | none => cases hi; cases e
      | some v => cases hi; cases e; exact ⟨v, hL, rfl⟩
  · rintro ⟨v, h1, h2⟩
    refine ⟨some q, List.mem_iff_getElem?.mpr ⟨q.1, ?_⟩, rfl⟩
    rw [List.getElem?_mapIdx, h1]
    simp [← h2]
def lr (b : Nat) (ls : Array Slot) (nL : Nat) (L : List (Option Value)) : Prop := lv_has ls nL (lvl b L) ∧ ∀ (i : Nat) (v : Value), L[i]? = some (some v) → v.category = 1
theorem lr.at {b : Nat} {ls : Array Slot} {nL : Nat} {L : List (Option Value)} (h : lr b ls nL L) {i : Nat} {v : Value} (hi : L[i]? = some (some v)) : ls[i]? = some (.val (rv b v)) := h.1.2.2 (i, rv b v) (lvl_mem.mpr ⟨v, hi, rfl⟩)
theorem lr.st {b : Nat} {ls ls' : Array Slot} {nL : Nat} {L : List (Option Value)} (h : lr b ls nL L) {i : Nat} {v : Value} (hc : v.category = 1) (h' : lv_has ls' nL ((i, rv b v) :: (lvl b L).filter (fun q => !(q.1 == i) && !(q.1 + 1 == i && q.2.category == 2)))) : lr b ls' nL (L.set i (some v)) := by
  refine ⟨⟨h'.1, h'.2.1, fun q hq => ?_⟩, fun j w hj => ?_⟩
  · obtain ⟨w, h1, h2⟩ := lvl_mem.mp hq
    rw [List.getElem?_set] at h1
    by_cases e : i = q.1
    · rw [if_pos e] at h1
      split at h1
      · cases h1
        exact h'.2.2 q (by rw [show q = (i, rv b v) from Prod.ext e.symm h2]; exact List.mem_cons_self)
      · cases h1
    · rw [if_neg e] at h1
      refine h'.2.2 q (List.mem_cons_of_mem _ (List.mem_filter.mpr ⟨lvl_mem.mpr ⟨w, h1, h2⟩, ?_⟩))
      have hw := h.2 _ _ h1
      have h9 : q.2.category = 1 := by rw [h2, rv_cat, hw]
      simp [h9, Ne.symm e]
  · rw [List.getElem?_set] at hj
    by_cases e : i = j
    · rw [if_pos e] at hj
      split at hj
      · cases hj; exact hc
      · cases hj
    · rw [if_neg e] at hj
      exact h.2 _ _ hj
def CX (M : MI) (al : Bool) (p : Program) (s : State) (m : MethodId) (args : Array Value) (meth : Method) (c : Code) (b : Nat) (D : va_G) (κ : Nat → ClassId) (N0 : Nat) : Prop :=
  p.tables.exec = Jvm.exec ∧ c.code = M.2.1 ∧ c.maxLocals = M.2.2.1 ∧ s.vm.findClass M.1.cls = some m.cls ∧ (∀ w ∈ ktbl, w.before args s = true) ∧ meth.sig.returnType = M.2.2.2 ∧ meth.locks = false ∧ meth.name = M.1.name ∧ va_K D kclasses (tyk κ) s ∧ (al = true → s.heap.size = b + N0)
def DX (M : MI) (al : Bool) (s : State) (b : Nat) (D : va_G) (κ : Nat → ClassId) (N0 : Nat) (L : List (Option Value)) (h : List AC) (H : Heap) (locs : List Loc) (ls : Array Slot) : Prop :=
  (al = false → h.length = N0) ∧ va_P D kclasses (wso b κ h) H ∧ (al = true → H.size = b + h.length) ∧ va_S (AX al b N0) s.heap H locs ∧ lr b ls M.2.2.1 L
def AW (M : MI) (al : Bool) (d mc ms : Nat) (Q : QT) (k n : Nat) (pc : Nat) (L : List (Option Value)) (st : List Value) (h : List AC) : Prop :=
  ∀ (p : Program) (l : Launch) (e : Env) (s : State) (m : MethodId) (args : Array Value) (below : List Frame) (meth : Method) (c : Code) (b : Nat) (D : va_G) (κ : Nat → ClassId) (N0 : Nat) (H : Heap) (locs : List Loc) (ls : Array Slot), CX M al p s m args meth c b D κ N0 → DX M al s b D κ N0 L h H locs ls →
    W p l e (rmD d mc ms) s m args below meth c H locs k n (MQ below (QC al b D κ N0 Q) args s mc ms (AX al b N0)) (F0 m pc ls (st.map (rv b)))
theorem DX.D {M : MI} {al : Bool} {s : State} {b : Nat} {D : va_G} {κ : Nat → ClassId} {N0 : Nat} {L : List (Option Value)} {h : List AC} {H : Heap} {locs : List Loc} {ls : Array Slot} (X : DX M al s b D κ N0 L h H locs ls) : va_D (AX al b N0) (wso b κ h) := wso_D X.1
theorem lvargs_mem : ∀ (vs : List Value) (k : Nat), (∀ v ∈ vs, v.category = 1) → ∀ (j : Nat) (v : Value), vs[j]? = some v → (k + j, v) ∈ lv_args k vs
  | [], _, _, j, v, h => by simp at h
  | w :: vs, k, hc, j, v, h => by
    have hw : ¬ w.category = 2 := by rw [hc w List.mem_cons_self]; decide
    rw [lv_args, if_neg hw]
    cases j with
    | zero => simp at h; subst h; exact List.mem_cons_self
    | succ j =>
      have := lvargs_mem vs (k + 1) (fun v hv => hc v (List.mem_cons_of_mem _ hv)) j v (by simpa using h)
      rw [show k + (j + 1) = k + 1 + j by omega]
      exact List.mem_cons_of_mem _ this
theorem lgsl_len : ∀ (vs : List Value), (∀ v ∈ vs, v.category = 1) → (lg_sl vs).length = vs.length
  | [], _ => rfl
  | w :: vs, hc => by
    have hw : ¬ w.category = 2 := by rw [hc w List.mem_cons_self]; decide
    have := lgsl_len vs (fun v hv => hc v (List.mem_cons_of_mem _ hv))
    unfold lg_sl at this ⊢
    rw [List.flatMap_cons, if_neg hw, List.length_append, this]
    simp; omega
def L0 (M : MI) (as : List Value) : List (Option Value) := as.map some ++ List.replicate (M.2.2.1 - as.length) none
theorem AMet.of {M : MI} {al : Bool} {d mc ms : Nat} {as : List Value} {h : List AC} {Q : QT} (hy : plainName M.1.cls = true) (hc : ∀ v ∈ as, v.category = 1) (hL : as.length ≤ M.2.2.1)
    (k : AW M al d mc ms Q 0 0 0 (L0 M as) [] h) : AMet M al d mc ms as h Q := by
  intro l b D κ
  refine Met.ofW (cc := M.2.1) (maxL := M.2.2.1) (ret := M.2.2.2) (ws' := []) hy rfl ?_
  intro p e s m args below meth c s₁ B hml hv
  obtain ⟨rfl, hT, hK, hP, hsz⟩ := hv
  rw [lg_entry_eq]
  have hcr : ∀ v ∈ as.map (rv b), v.category = 1 := fun v hv => by
    obtain ⟨w, hw, rfl⟩ := List.mem_map.mp hv
    rw [rv_cat, hc w hw]
  have hlen := lgsl_len _ hcr
  have hl := lv_entry (as.map (rv b)) (n := M.2.2.1) (by rw [hlen, List.length_map]; exact hL)
  refine k p l e s m _ below meth c b D κ h.length s.heap [] _ ⟨B.exec, B.bytes, hml, findClass_of_methodNamed B.named, tb_args hT, B.returns, B.notSynchronized, (name_of_methodNamed B.named B.method).1, hK, hsz⟩ ⟨fun _ => rfl, hP, hsz, va_S.rf, ?_⟩
  have key : ∀ (i : Nat) (v : Value), (L0 M as)[i]? = some (some v) → as[i]? = some v := fun i v hi => by
    unfold L0 at hi
    by_cases hil : i < as.length
    · rw [List.getElem?_append_left (by simpa using hil)] at hi
      simpa using hi
    · rw [List.getElem?_append_right (by simpa using hil), List.getElem?_replicate] at hi
      split at hi <;> simp at hi
  refine ⟨⟨hl.1, hl.2.1, fun q hq => ?_⟩, fun i v hi => hc v (List.mem_of_getElem? (key i v hi))⟩
  obtain ⟨v, h1, h2⟩ := lvl_mem.mp hq
  refine hl.2.2 q ?_
  have := lvargs_mem _ 0 hcr q.1 (rv b v) (by rw [List.getElem?_map, key _ _ h1]; rfl)
  rw [show q = (0 + q.1, rv b v) from Prod.ext (by simp) h2]
  exact this
section AWR
variable {M : MI} {al : Bool} {d mc ms : Nat} {Q : QT} {k n : Nat} {pc : Nat} {L : List (Option Value)} {st : List Value} {h : List AC}
theorem aw_iconst {z : Int} {v : Int32} (hd : decode M.2.1 pc = .ok (.iconst z, 1)) (hv : Int32.ofInt z = v) (kk : AW M al d mc ms Q k n (pc + 1) L (.int v :: st) h) : AW M al d mc ms Q k n pc L st h :=
  fun p l e s m args below meth c b D κ N0 H locs ls C X => lv_iconst C.1 C.2.1 hd hv (kk p l e s m args below meth c b D κ N0 H locs ls C X)
theorem aw_bipush {z : Int} {v : Int32} (hd : decode M.2.1 pc = .ok (.bipush z, 2)) (hv : (Int8.ofInt z).toInt32 = v) (kk : AW M al d mc ms Q k n (pc + 2) L (.int v :: st) h) : AW M al d mc ms Q k n pc L st h :=
  fun p l e s m args below meth c b D κ N0 H locs ls C X => lv_bipush C.1 C.2.1 hd hv (kk p l e s m args below meth c b D κ N0 H locs ls C X)
theorem aw_sipush {z : Int} {v : Int32} (hd : decode M.2.1 pc = .ok (.sipush z, 3)) (hv : (Int16.ofInt z).toInt32 = v) (kk : AW M al d mc ms Q k n (pc + 3) L (.int v :: st) h) : AW M al d mc ms Q k n pc L st h :=
  fun p l e s m args below meth c b D κ N0 H locs ls C X => lv_sipush C.1 C.2.1 hd hv (kk p l e s m args below meth c b D κ N0 H locs ls C X)
theorem aw_ldc {i : Nat} {v : Int32} (hw : Cond.constant M.1.cls i v ∈ ktbl) (hd : decode M.2.1 pc = .ok (.ldc i, 2)) (kk : AW M al d mc ms Q k n (pc + 2) L (.int v :: st) h) : AW M al d mc ms Q k n pc L st h :=
  fun p l e s m args below meth c b D κ N0 H locs ls C X => lv_ldc C.1 C.2.1 C.2.2.2.1 (C.2.2.2.2.1 _ hw) hd (kk p l e s m args below meth c b D κ N0 H locs ls C X)
theorem aw_iload_n {i : Fin 4} {v : Int32} (hd : decode M.2.1 pc = .ok (.iload_n i, 1)) (hl : L[(i : Nat)]? = some (some (.int v))) (kk : AW M al d mc ms Q k n (pc + 1) L (.int v :: st) h) : AW M al d mc ms Q k n pc L st h :=
  fun p l e s m args below meth c b D κ N0 H locs ls C X => lv_iload_n C.1 C.2.1 hd rfl (X.2.2.2.2.at hl) (kk p l e s m args below meth c b D κ N0 H locs ls C X)
theorem aw_iload {i : Nat} {v : Int32} (hd : decode M.2.1 pc = .ok (.iload i, 2)) (hl : L[i]? = some (some (.int v))) (kk : AW M al d mc ms Q k n (pc + 2) L (.int v :: st) h) : AW M al d mc ms Q k n pc L st h :=
  fun p l e s m args below meth c b D κ N0 H locs ls C X => lv_iload C.1 C.2.1 hd (X.2.2.2.2.at hl) (kk p l e s m args below meth c b D κ N0 H locs ls C X)
theorem aw_aload_n {i : Fin 4} {r : Option Nat} (hd : decode M.2.1 pc = .ok (.aload_n i, 1)) (hl : L[(i : Nat)]? = some (some (va_rf r))) (kk : AW M al d mc ms Q k n (pc + 1) L (va_rf r :: st) h) : AW M al d mc ms Q k n pc L st h :=
  fun p l e s m args below meth c b D κ N0 H locs ls C X => by
    cases r with
    | none => exact lv_aload_nN C.1 C.2.1 hd rfl (X.2.2.2.2.at hl) (kk p l e s m args below meth c b D κ N0 H locs ls C X)
    | some a => exact lv_aload_n C.1 C.2.1 hd rfl (X.2.2.2.2.at hl) (kk p l e s m args below meth c b D κ N0 H locs ls C X)
theorem aw_aload_r {i : Fin 4} {a : Nat} (hd : decode M.2.1 pc = .ok (.aload_n i, 1)) (hl : L[(i : Nat)]? = some (some (.ref a))) (kk : AW M al d mc ms Q k n (pc + 1) L (.ref a :: st) h) : AW M al d mc ms Q k n pc L st h :=
  aw_aload_n (r := some a) hd hl kk
theorem aw_aload {i : Nat} {a : Nat} (hd : decode M.2.1 pc = .ok (.aload i, 2)) (hl : L[i]? = some (some (.ref a))) (kk : AW M al d mc ms Q k n (pc + 2) L (.ref a :: st) h) : AW M al d mc ms Q k n pc L st h :=
  fun p l e s m args below meth c b D κ N0 H locs ls C X => lv_aload C.1 C.2.1 hd (X.2.2.2.2.at hl) (kk p l e s m args below meth c b D κ N0 H locs ls C X)
theorem aw_istore_n {i : Fin 4} {v : Int32} (hd : decode M.2.1 pc = .ok (.istore_n i, 1)) (hn : (i : Nat) < M.2.2.1) (kk : AW M al d mc ms Q k n (pc + 1) (L.set i (some (.int v))) st h) : AW M al d mc ms Q k n pc L (.int v :: st) h :=
  fun p l e s m args below meth c b D κ N0 H locs ls C X => lv_istore_n C.1 C.2.1 hd rfl X.2.2.2.2.1 hn rfl (fun ls' h' => kk p l e s m args below meth c b D κ N0 H locs ls' C ⟨X.1, X.2.1, X.2.2.1, X.2.2.2.1, X.2.2.2.2.st (v := .int v) rfl h'⟩)
theorem aw_istore {i : Nat} {v : Int32} (hd : decode M.2.1 pc = .ok (.istore i, 2)) (hn : i < M.2.2.1) (kk : AW M al d mc ms Q k n (pc + 2) (L.set i (some (.int v))) st h) : AW M al d mc ms Q k n pc L (.int v :: st) h :=
  fun p l e s m args below meth c b D κ N0 H locs ls C X => lv_istore C.1 C.2.1 hd X.2.2.2.2.1 hn rfl (fun ls' h' => kk p l e s m args below meth c b D κ N0 H locs ls' C ⟨X.1, X.2.1, X.2.2.1, X.2.2.2.1, X.2.2.2.2.st (v := .int v) rfl h'⟩)
theorem aw_astore_n {i : Fin 4} {r : Option Nat} (hd : decode M.2.1 pc = .ok (.astore_n i, 1)) (hn : (i : Nat) < M.2.2.1) (kk : AW M al d mc ms Q k n (pc + 1) (L.set i (some (va_rf r))) st h) : AW M al d mc ms Q k n pc L (va_rf r :: st) h :=
  fun p l e s m args below meth c b D κ N0 H locs ls C X => by
    cases r with
    | none => exact lv_astore_nN C.1 C.2.1 hd rfl X.2.2.2.2.1 hn rfl (fun ls' h' => kk p l e s m args below meth c b D κ N0 H locs ls' C ⟨X.1, X.2.1, X.2.2.1, X.2.2.2.1, X.2.2.2.2.st (v := .null) rfl h'⟩)
    | some a => exact lv_astore_n C.1 C.2.1 hd rfl X.2.2.2.2.1 hn rfl (fun ls' h' => kk p l e s m args below meth c b D κ N0 H locs ls' C ⟨X.1, X.2.1, X.2.2.1, X.2.2.2.1, X.2.2.2.2.st (v := .ref a) rfl h'⟩)
theorem aw_astore {i : Nat} {r : Option Nat} (hd : decode M.2.1 pc = .ok (.astore i, 2)) (hn : i < M.2.2.1) (kk : AW M al d mc ms Q k n (pc + 2) (L.set i (some (va_rf r))) st h) : AW M al d mc ms Q k n pc L (va_rf r :: st) h :=
  fun p l e s m args below meth c b D κ N0 H locs ls C X => by
    cases r with
    | none => exact lv_astoreN C.1 C.2.1 hd X.2.2.2.2.1 hn rfl (fun ls' h' => kk p l e s m args below meth c b D κ N0 H locs ls' C ⟨X.1, X.2.1, X.2.2.1, X.2.2.2.1, X.2.2.2.2.st (v := .null) rfl h'⟩)
    | some a => exact lv_astore C.1 C.2.1 hd X.2.2.2.2.1 hn rfl (fun ls' h' => kk p l e s m args below meth c b D κ N0 H locs ls' C ⟨X.1, X.2.1, X.2.2.1, X.2.2.2.1, X.2.2.2.2.st (v := .ref a) rfl h'⟩)
theorem aw_iinc {i : Nat} {z : Int} {v w : Int32} (hd : decode M.2.1 pc = .ok (.iinc i z, 3)) (hl : L[i]? = some (some (.int v))) (hv : v + Int32.ofInt z = w) (hn : i < M.2.2.1) (kk : AW M al d mc ms Q k n (pc + 3) (L.set i (some (.int w))) st h) : AW M al d mc ms Q k n pc L st h :=
  fun p l e s m args below meth c b D κ N0 H locs ls C X => by
    obtain ⟨j, hj⟩ := List.mem_iff_getElem?.mp (lvl_mem (b := b) (L := L) (q := (i, .int v)).mpr ⟨.int v, hl, rfl⟩)
    exact lv_iinc C.1 C.2.1 hd X.2.2.2.2.1 hj hv hn rfl (fun ls' h' => kk p l e s m args below meth c b D κ N0 H locs ls' C ⟨X.1, X.2.1, X.2.2.1, X.2.2.2.1, X.2.2.2.2.st (v := .int w) rfl h'⟩)
theorem aw_iadd {v w : Int32} (hd : decode M.2.1 pc = .ok (.iadd, 1)) (kk : AW M al d mc ms Q k n (pc + 1) L (.int (v + w) :: st) h) : AW M al d mc ms Q k n pc L (.int w :: .int v :: st) h :=
  fun p l e s m args below meth c b D κ N0 H locs ls C X => lv_iadd C.1 C.2.1 hd (kk p l e s m args below meth c b D κ N0 H locs ls C X)
theorem aw_isub {v w : Int32} (hd : decode M.2.1 pc = .ok (.isub, 1)) (kk : AW M al d mc ms Q k n (pc + 1) L (.int (v - w) :: st) h) : AW M al d mc ms Q k n pc L (.int w :: .int v :: st) h :=
  fun p l e s m args below meth c b D κ N0 H locs ls C X => lv_isub C.1 C.2.1 hd (kk p l e s m args below meth c b D κ N0 H locs ls C X)
theorem aw_imul {v w : Int32} (hd : decode M.2.1 pc = .ok (.imul, 1)) (kk : AW M al d mc ms Q k n (pc + 1) L (.int (v * w) :: st) h) : AW M al d mc ms Q k n pc L (.int w :: .int v :: st) h :=
  fun p l e s m args below meth c b D κ N0 H locs ls C X => lv_imul C.1 C.2.1 hd (kk p l e s m args below meth c b D κ N0 H locs ls C X)
theorem aw_idiv {v w : Int32} (hd : decode M.2.1 pc = .ok (.idiv, 1)) (hw : ¬ w = 0) (kk : AW M al d mc ms Q k n (pc + 1) L (.int (v / w) :: st) h) : AW M al d mc ms Q k n pc L (.int w :: .int v :: st) h :=
  fun p l e s m args below meth c b D κ N0 H locs ls C X => lv_idiv C.1 C.2.1 hd hw (kk p l e s m args below meth c b D κ N0 H locs ls C X)
theorem aw_irem {v w : Int32} (hd : decode M.2.1 pc = .ok (.irem, 1)) (hw : ¬ w = 0) (kk : AW M al d mc ms Q k n (pc + 1) L (.int (v - v / w * w) :: st) h) : AW M al d mc ms Q k n pc L (.int w :: .int v :: st) h :=
  fun p l e s m args below meth c b D κ N0 H locs ls C X => lv_irem C.1 C.2.1 hd hw (kk p l e s m args below meth c b D κ N0 H locs ls C X)
theorem aw_ineg {v : Int32} (hd : decode M.2.1 pc = .ok (.ineg, 1)) (kk : AW M al d mc ms Q k n (pc + 1) L (.int (-v) :: st) h) : AW M al d mc ms Q k n pc L (.int v :: st) h :=
  fun p l e s m args below meth c b D κ N0 H locs ls C X => lv_ineg C.1 C.2.1 hd (kk p l e s m args below meth c b D κ N0 H locs ls C X)
theorem aw_dup {v : Value} (hd : decode M.2.1 pc = .ok (.dup, 1)) (hv : v.category = 1) (kk : AW M al d mc ms Q k n (pc + 1) L (v :: v :: st) h) : AW M al d mc ms Q k n pc L (v :: st) h :=
  fun p l e s m args below meth c b D κ N0 H locs ls C X => lv_dup C.1 C.2.1 hd ((rv_cat b v).trans hv) (kk p l e s m args below meth c b D κ N0 H locs ls C X)
theorem aw_dup2 {v w : Value} (hd : decode M.2.1 pc = .ok (.dup2, 1)) (hv : v.category = 1) (hw : w.category = 1) (kk : AW M al d mc ms Q k n (pc + 1) L (v :: w :: v :: w :: st) h) : AW M al d mc ms Q k n pc L (v :: w :: st) h :=
  fun p l e s m args below meth c b D κ N0 H locs ls C X => lv_dup2_11 C.1 C.2.1 hd ((rv_cat b v).trans hv) ((rv_cat b w).trans hw) (kk p l e s m args below meth c b D κ N0 H locs ls C X)
theorem aw_pop {v : Value} (hd : decode M.2.1 pc = .ok (.pop, 1)) (hv : v.category = 1) (kk : AW M al d mc ms Q k n (pc + 1) L st h) : AW M al d mc ms Q k n pc L (v :: st) h :=
  fun p l e s m args below meth c b D κ N0 H locs ls C X => lv_pop C.1 C.2.1 hd ((rv_cat b v).trans hv) (kk p l e s m args below meth c b D κ N0 H locs ls C X)
theorem aw_goto {off : Int} {tgt : Nat} (hd : decode M.2.1 pc = .ok (.goto off, 3)) (ht : (pc : Int) + off = (tgt : Int)) (kk : AW M al d mc ms Q k n tgt L st h) : AW M al d mc ms Q k n pc L st h :=
  fun p l e s m args below meth c b D κ N0 H locs ls C X => lv_goto C.1 C.2.1 hd ht (kk p l e s m args below meth c b D κ N0 H locs ls C X)
theorem aw_null (hd : decode M.2.1 pc = .ok (.aconst_null, 1)) (kk : AW M al d mc ms Q k n (pc + 1) L (.null :: st) h) : AW M al d mc ms Q k n pc L st h :=
  fun p l e s m args below meth c b D κ N0 H locs ls C X => lv_null C.1 C.2.1 hd (kk p l e s m args below meth c b D κ N0 H locs ls C X)
theorem aw_ifnonnull {r : Option Nat} {off : Int} {tgt : Nat} (hd : decode M.2.1 pc = .ok (.ifnonnull off, 3)) (ht : (pc : Int) + off = (tgt : Int)) (kt : (∀ a, r = some a → AW M al d mc ms Q k n tgt L st h)) (kf : r = none → AW M al d mc ms Q k n (pc + 3) L st h) : AW M al d mc ms Q k n pc L (va_rf r :: st) h :=
  fun p l e s m args below meth c b D κ N0 H locs ls C X => by
    cases r with
    | none => exact lv_ifnonnullN C.1 C.2.1 hd (kf rfl p l e s m args below meth c b D κ N0 H locs ls C X)
    | some a => exact lv_ifnonnull C.1 C.2.1 hd ht (kt a rfl p l e s m args below meth c b D κ N0 H locs ls C X)
theorem aw_ifnull {r : Option Nat} {off : Int} {tgt : Nat} (hd : decode M.2.1 pc = .ok (.ifnull off, 3)) (ht : (pc : Int) + off = (tgt : Int)) (kt : r = none → AW M al d mc ms Q k n tgt L st h) (kf : ∀ a, r = some a → AW M al d mc ms Q k n (pc + 3) L st h) : AW M al d mc ms Q k n pc L (va_rf r :: st) h :=
  fun p l e s m args below meth c b D κ N0 H locs ls C X => by
    cases r with
    | none => exact lv_ifnullN C.1 C.2.1 hd ht (kt rfl p l e s m args below meth c b D κ N0 H locs ls C X)
    | some a => exact lv_ifnull C.1 C.2.1 hd (kf a rfl p l e s m args below meth c b D κ N0 H locs ls C X)
theorem aw_icmp_eq {x y : Int32} {off : Int} {tgt : Nat} (hd : decode M.2.1 pc = .ok (.if_icmp .eq off, 3)) (ht : (pc : Int) + off = (tgt : Int)) (kt : x = y → AW M al d mc ms Q k n tgt L st h) (kf : ¬ x = y → AW M al d mc ms Q k n (pc + 3) L st h) : AW M al d mc ms Q k n pc L (.int y :: .int x :: st) h :=
  fun p l e s m args below meth c b D κ N0 H locs ls C X => lv_icmp_eq C.1 C.2.1 hd ht (fun q => kt q p l e s m args below meth c b D κ N0 H locs ls C X) (fun q => kf q p l e s m args below meth c b D κ N0 H locs ls C X)
theorem aw_if_eq {x : Int32} {off : Int} {tgt : Nat} (hd : decode M.2.1 pc = .ok (.ifCond .eq off, 3)) (ht : (pc : Int) + off = (tgt : Int)) (kt : x = 0 → AW M al d mc ms Q k n tgt L st h) (kf : ¬ x = 0 → AW M al d mc ms Q k n (pc + 3) L st h) : AW M al d mc ms Q k n pc L (.int x :: st) h :=
  fun p l e s m args below meth c b D κ N0 H locs ls C X => lv_if_eq C.1 C.2.1 hd ht (fun q => kt q p l e s m args below meth c b D κ N0 H locs ls C X) (fun q => kf q p l e s m args below meth c b D κ N0 H locs ls C X)
theorem aw_icmp_ne {x y : Int32} {off : Int} {tgt : Nat} (hd : decode M.2.1 pc = .ok (.if_icmp .ne off, 3)) (ht : (pc : Int) + off = (tgt : Int)) (kt : ¬ x = y → AW M al d mc ms Q k n tgt L st h) (kf : x = y → AW M al d mc ms Q k n (pc + 3) L st h) : AW M al d mc ms Q k n pc L (.int y :: .int x :: st) h :=
  fun p l e s m args below meth c b D κ N0 H locs ls C X => lv_icmp_ne C.1 C.2.1 hd ht (fun q => kt q p l e s m args below meth c b D κ N0 H locs ls C X) (fun q => kf q p l e s m args below meth c b D κ N0 H locs ls C X)
theorem aw_if_ne {x : Int32} {off : Int} {tgt : Nat} (hd : decode M.2.1 pc = .ok (.ifCond .ne off, 3)) (ht : (pc : Int) + off = (tgt : Int)) (kt : ¬ x = 0 → AW M al d mc ms Q k n tgt L st h) (kf : x = 0 → AW M al d mc ms Q k n (pc + 3) L st h) : AW M al d mc ms Q k n pc L (.int x :: st) h :=
  fun p l e s m args below meth c b D κ N0 H locs ls C X => lv_if_ne C.1 C.2.1 hd ht (fun q => kt q p l e s m args below meth c b D κ N0 H locs ls C X) (fun q => kf q p l e s m args below meth c b D κ N0 H locs ls C X)
theorem aw_icmp_lt {x y : Int32} {off : Int} {tgt : Nat} (hd : decode M.2.1 pc = .ok (.if_icmp .lt off, 3)) (ht : (pc : Int) + off = (tgt : Int)) (kt : x < y → AW M al d mc ms Q k n tgt L st h) (kf : ¬ x < y → AW M al d mc ms Q k n (pc + 3) L st h) : AW M al d mc ms Q k n pc L (.int y :: .int x :: st) h :=
  fun p l e s m args below meth c b D κ N0 H locs ls C X => lv_icmp_lt C.1 C.2.1 hd ht (fun q => kt q p l e s m args below meth c b D κ N0 H locs ls C X) (fun q => kf q p l e s m args below meth c b D κ N0 H locs ls C X)
theorem aw_if_lt {x : Int32} {off : Int} {tgt : Nat} (hd : decode M.2.1 pc = .ok (.ifCond .lt off, 3)) (ht : (pc : Int) + off = (tgt : Int)) (kt : x < 0 → AW M al d mc ms Q k n tgt L st h) (kf : ¬ x < 0 → AW M al d mc ms Q k n (pc + 3) L st h) : AW M al d mc ms Q k n pc L (.int x :: st) h :=
  fun p l e s m args below meth c b D κ N0 H locs ls C X => lv_if_lt C.1 C.2.1 hd ht (fun q => kt q p l e s m args below meth c b D κ N0 H locs ls C X) (fun q => kf q p l e s m args below meth c b D κ N0 H locs ls C X)
theorem aw_icmp_ge {x y : Int32} {off : Int} {tgt : Nat} (hd : decode M.2.1 pc = .ok (.if_icmp .ge off, 3)) (ht : (pc : Int) + off = (tgt : Int)) (kt : y ≤ x → AW M al d mc ms Q k n tgt L st h) (kf : ¬ y ≤ x → AW M al d mc ms Q k n (pc + 3) L st h) : AW M al d mc ms Q k n pc L (.int y :: .int x :: st) h :=
  fun p l e s m args below meth c b D κ N0 H locs ls C X => lv_icmp_ge C.1 C.2.1 hd ht (fun q => kt q p l e s m args below meth c b D κ N0 H locs ls C X) (fun q => kf q p l e s m args below meth c b D κ N0 H locs ls C X)
theorem aw_if_ge {x : Int32} {off : Int} {tgt : Nat} (hd : decode M.2.1 pc = .ok (.ifCond .ge off, 3)) (ht : (pc : Int) + off = (tgt : Int)) (kt : 0 ≤ x → AW M al d mc ms Q k n tgt L st h) (kf : ¬ 0 ≤ x → AW M al d mc ms Q k n (pc + 3) L st h) : AW M al d mc ms Q k n pc L (.int x :: st) h :=
  fun p l e s m args below meth c b D κ N0 H locs ls C X => lv_if_ge C.1 C.2.1 hd ht (fun q => kt q p l e s m args below meth c b D κ N0 H locs ls C X) (fun q => kf q p l e s m args below meth c b D κ N0 H locs ls C X)
theorem aw_icmp_gt {x y : Int32} {off : Int} {tgt : Nat} (hd : decode M.2.1 pc = .ok (.if_icmp .gt off, 3)) (ht : (pc : Int) + off = (tgt : Int)) (kt : y < x → AW M al d mc ms Q k n tgt L st h) (kf : ¬ y < x → AW M al d mc ms Q k n (pc + 3) L st h) : AW M al d mc ms Q k n pc L (.int y :: .int x :: st) h :=
  fun p l e s m args below meth c b D κ N0 H locs ls C X => lv_icmp_gt C.1 C.2.1 hd ht (fun q => kt q p l e s m args below meth c b D κ N0 H locs ls C X) (fun q => kf q p l e s m args below meth c b D κ N0 H locs ls C X)
theorem aw_if_gt {x : Int32} {off : Int} {tgt : Nat} (hd : decode M.2.1 pc = .ok (.ifCond .gt off, 3)) (ht : (pc : Int) + off = (tgt : Int)) (kt : 0 < x → AW M al d mc ms Q k n tgt L st h) (kf : ¬ 0 < x → AW M al d mc ms Q k n (pc + 3) L st h) : AW M al d mc ms Q k n pc L (.int x :: st) h :=
  fun p l e s m args below meth c b D κ N0 H locs ls C X => lv_if_gt C.1 C.2.1 hd ht (fun q => kt q p l e s m args below meth c b D κ N0 H locs ls C X) (fun q => kf q p l e s m args below meth c b D κ N0 H locs ls C X)
theorem aw_icmp_le {x y : Int32} {off : Int} {tgt : Nat} (hd : decode M.2.1 pc = .ok (.if_icmp .le off, 3)) (ht : (pc : Int) + off = (tgt : Int)) (kt : x ≤ y → AW M al d mc ms Q k n tgt L st h) (kf : ¬ x ≤ y → AW M al d mc ms Q k n (pc + 3) L st h) : AW M al d mc ms Q k n pc L (.int y :: .int x :: st) h :=
  fun p l e s m args below meth c b D κ N0 H locs ls C X => lv_icmp_le C.1 C.2.1 hd ht (fun q => kt q p l e s m args below meth c b D κ N0 H locs ls C X) (fun q => kf q p l e s m args below meth c b D κ N0 H locs ls C X)
theorem aw_if_le {x : Int32} {off : Int} {tgt : Nat} (hd : decode M.2.1 pc = .ok (.ifCond .le off, 3)) (ht : (pc : Int) + off = (tgt : Int)) (kt : x ≤ 0 → AW M al d mc ms Q k n tgt L st h) (kf : ¬ x ≤ 0 → AW M al d mc ms Q k n (pc + 3) L st h) : AW M al d mc ms Q k n pc L (.int x :: st) h :=
  fun p l e s m args below meth c b D κ N0 H locs ls C X => lv_if_le C.1 C.2.1 hd ht (fun q => kt q p l e s m args below meth c b D κ N0 H locs ls C X) (fun q => kf q p l e s m args below meth c b D κ N0 H locs ls C X)
end AWR
end
section
def FG (own : String) (ix ci kf : Nat) : Prop := ∃ (C : String) (T : u_T) (N : Nat), kclasses[ci]? = some (C, T, N) ∧ (∀ w ∈ u_ws C T N, w ∈ ktbl) ∧ kf < N ∧ (Cond.fieldLink own ix (T kf).1 (T kf).2.1 (T kf).2.2.1 ∈ ktbl ∨ ∃ host, Cond.fieldLinkNest own ix (T kf).1 (T kf).2.1 (T kf).2.2.1 host ∈ ktbl)
def FP (fin : Bool) (own : String) (ix ci kf : Nat) (ty : FieldType) : Prop := ∃ (C : String) (T : u_T) (N : Nat) (ty0 : Nat → FieldType), kclasses[ci]? = some (C, T, N) ∧ (∀ w ∈ u_ws C T N, w ∈ ktbl) ∧ kf < N ∧ (∀ k, k < N → parseFieldDescriptor (T k).2.2.1 = some (ty0 k)) ∧ (∀ a, a < N → ∀ b, b < N → a ≠ b → (T a).2.1 ≠ (T b).2.1) ∧ (T kf).2.2.2 = fin ∧ ty0 kf = ty ∧ (fin = true → (T kf).1 = own) ∧ (Cond.fieldLink own ix (T kf).1 (T kf).2.1 (T kf).2.2.1 ∈ ktbl ∨ (fin = false ∧ ∃ host, Cond.fieldLinkNest own ix (T kf).1 (T kf).2.1 (T kf).2.2.1 host ∈ ktbl))
def okV (ty : FieldType) (v : Value) : Prop := ∀ b, narrow ty (rv b v) = rv b v ∧ fits ty (rv b v) = true
section AWH
variable {M : MI} {al : Bool} {d mc ms : Nat} {Q : QT} {k n : Nat} {pc : Nat} {L : List (Option Value)} {st : List Value} {h : List AC}
theorem aw_get {i ci kf ix : Nat} {fs : List Value} {v : Value} (f : FG M.1.cls ix ci kf) (hd : decode M.2.1 pc = .ok (.getfield ix, 3)) (he : h[i]? = some (.inr (ci, fs))) (hv : fs[kf]? = some v) (kk : AW M al d mc ms Q k n (pc + 3) L (v :: st) h) : AW M al d mc ms Q k n pc L (.ref i :: st) h :=
  fun p l e s m args below meth c b D κ N0 H locs ls C X => by
    obtain ⟨C0, T, N, hc, hin, hk, hl⟩ := f
    have hw := wso_at (b := b) (κ := κ) he
    have hv' : (fs.map (rv b))[kf]? = some (rv b v) := by rw [List.getElem?_map, hv]; rfl
    rcases hl with hl | ⟨host, hl⟩
    · exact va_get C.1 C.2.1 C.2.2.2.2.1 hin C.2.2.2.1 C.2.2.2.2.2.2.2.2.1 X.2.1 i hw hc kf hk (C.2.2.2.2.1 _ hl) (fun _ q => q) hv' hd (kk p l e s m args below meth c b D κ N0 H locs ls C X)
    · exact va_getN C.1 C.2.1 C.2.2.2.2.1 hin C.2.2.2.1 C.2.2.2.2.2.2.2.2.1 X.2.1 i hw hc kf hk (C.2.2.2.2.1 _ hl) (fun _ q => q) hv' hd (kk p l e s m args below meth c b D κ N0 H locs ls C X)
theorem DX.set {M : MI} {al : Bool} {s : State} {b : Nat} {D : va_G} {κ : Nat → ClassId} {N0 : Nat} {L : List (Option Value)} {h : List AC} {H H1 : Heap} {locs : List Loc} {ls : Array Slot} (X : DX M al s b D κ N0 L h H locs ls) {i : Nat} {c0 c1 : AC} (he : h[i]? = some c0) (ha : va_at D kclasses (b + i, ec b κ c1) H1) (z : H1.size = H.size) (oq : ∀ q : Nat, q ≠ b + i → H1[q]? = H[q]?) (j : Nat) : DX M al s b D κ N0 L (h.set i c1) H1 (locs ++ [⟨b + i, j⟩]) ls := by
  have hw := wso_at (b := b) (κ := κ) he
  refine ⟨fun q => by rw [List.length_set]; exact X.1 q, ?_, fun q => by rw [z, List.length_set]; exact X.2.2.1 q, X.2.2.2.1.put z oq (X.D.2 i _ hw), X.2.2.2.2⟩
  rw [← wso_set]
  exact X.2.1.set X.D hw ha oq
theorem aw_put {i ci kf ix : Nat} {fs : List Value} {v : Value} {ty : FieldType} (f : FP false M.1.cls ix ci kf ty) (hd : decode M.2.1 pc = .ok (.putfield ix, 3)) (he : h[i]? = some (.inr (ci, fs))) (hl : kf < fs.length) (hv : okV ty v) (kk : AW M al d mc ms Q k n (pc + 3) L st (h.set i (.inr (ci, fs.set kf v)))) : AW M al d mc ms Q k n pc L (v :: .ref i :: st) h :=
  fun p l e s m args below meth c b D κ N0 H locs ls C X => by
    obtain ⟨C0, T, N, ty0, hc, hin, hk, hty, hnm, hfin, hte, -, hlk⟩ := f
    have hw := wso_at (b := b) (κ := κ) he
    have hap := va_apart (own := M.1.cls) C.2.2.2.2.1 hin ty0 hty hnm C.2.2.2.2.2.2.2.2.1 hc
    obtain ⟨r, h1, cell, q1, q2, q3, q4⟩ := X.2.1 i _ hw
    have hr : r = (C0, T, N) := Option.some.inj (h1.symm.trans hc)
    subst hr
    obtain ⟨hS, hfc, kC, hkC, hkind⟩ := C.2.2.2.2.2.2.2.2.1.1 ci _ hc
    obtain ⟨cf, kf', fi, f, hi, hsl⟩ := hS kf hk
    have hlay := C.2.2.2.2.1 _ (hin _ (u_in_lay hk))
    unfold u_lay at hlay
    rw [if_neg (by rw [hfin]; decide)] at hlay
    have hst := (u_facts hfc hkC (u_lays C.2.2.2.2.1 hin hk) hi).1
    have h6 := u_store (v := rv b v) hfc hkC hkind hlay hi ((hty kf hk).trans (by rw [hte])) (hv b).1 (hv b).2
    have fin : ∀ H' : Heap, H'[b + i]? = some (cell.setSlot f.slot (rv b v)) → H'.size = H.size → (∀ q, q ≠ b + i → H'[q]? = H[q]?) → W p l e (rmD d mc ms) s m args below meth c H' (locs ++ [⟨b + i, f.slot⟩]) k n (MQ below (QC al b D κ N0 Q) args s mc ms (AX al b N0)) (F0 m (pc + 3) ls (st.map (rv b))) := fun H' e1 e2 e3 => by
      refine kk p l e s m args below meth c b D κ N0 H' _ ls C (X.set he ?_ e2 e3 _)
      refine ⟨_, hc, t_OB.to (V := updV (vp_V (fs.map (rv b))) kf (rv b v)) ⟨_, e1, q2, q3, ?_⟩ (fun j _ => ?_)⟩
      · rw [hsl]
        exact t_set q4 hap hk (rv b v)
      · rw [List.map_set]
        exact vp_updV_set (by simpa using hl) (rv b v) j
    rcases hlk with hlk | ⟨-, host, hlk⟩
    · exact W.putK C.1 C.2.1 (f := f) ⟨C.2.2.2.1, C.2.2.2.2.1 _ hlk, ⟨_, _, _, hi⟩, hst⟩ (by rw [q2]; exact h6) q1 q3 (by rw [hsl]; exact k2_hasslot (q4 kf hk)) rfl rfl hd fin
    · exact va_WputK C.1 C.2.1 (f := f) C.2.2.2.1 (C.2.2.2.2.1 _ hlk) hi hst (by rw [q2]; exact h6) q1 q3 (by rw [hsl]; exact k2_hasslot (q4 kf hk)) rfl rfl hd fin
theorem aw_putF {i ci kf ix : Nat} {fs : List Value} {v : Value} {ty : FieldType} (f : FP true M.1.cls ix ci kf ty) (hn2 : M.1.name = "<init>") (hd : decode M.2.1 pc = .ok (.putfield ix, 3)) (he : h[i]? = some (.inr (ci, fs))) (hl : kf < fs.length) (hv : okV ty v) (kk : AW M al d mc ms Q k n (pc + 3) L st (h.set i (.inr (ci, fs.set kf v)))) : AW M al d mc ms Q k n pc L (v :: .ref i :: st) h :=
  fun p l e s m args below meth c b D κ N0 H locs ls C X => by
    obtain ⟨C0, T, N, ty0, hc, hin, hk, hty, hnm, hfin, hte, hdecl, hlk⟩ := f
    have hdecl := hdecl rfl
    have hlk : Cond.fieldLink M.1.cls ix (T kf).1 (T kf).2.1 (T kf).2.2.1 ∈ ktbl := by
      rcases hlk with hlk | ⟨hx, -⟩
      · exact hlk
      · cases hx
    have hw := wso_at (b := b) (κ := κ) he
    have hap := va_apart (own := M.1.cls) C.2.2.2.2.1 hin ty0 hty hnm C.2.2.2.2.2.2.2.2.1 hc
    obtain ⟨r, h1, cell, q1, q2, q3, q4⟩ := X.2.1 i _ hw
    have hr : r = (C0, T, N) := Option.some.inj (h1.symm.trans hc)
    subst hr
    obtain ⟨hS, hfc, kC, hkC, hkind⟩ := C.2.2.2.2.2.2.2.2.1.1 ci _ hc
    obtain ⟨cf, kf', fi, f, hi, hsl⟩ := hS kf hk
    have hlay := C.2.2.2.2.1 _ (hin _ (u_in_lay hk))
    unfold u_lay at hlay
    rw [if_pos hfin] at hlay
    have hst := (u_facts hfc hkC (u_lays C.2.2.2.2.1 hin hk) hi).1
    have hcf : m.cls = cf := by
      obtain ⟨_, _, c', _, _, _, -, -, hf', -, -, -, hown2, -⟩ := Cond.laysFinal_spec hlay
      have e1 : c' = cf := by have := hi.symm.trans hf'; simp at this; exact this.1.symm
      rw [hdecl] at hown2
      rw [← e1]; exact Option.some.inj (C.2.2.2.1.symm.trans hown2)
    have h6 := u_fits (v := rv b v) hfc hkC hkind (Or.inr hlay) hi ((hty kf hk).trans (by rw [hte])) (hv b).1 (hv b).2
    refine W.putFinK C.1 C.2.1 C.2.2.2.1 (C.2.2.2.2.1 _ hlk) hi hst hcf (C.2.2.2.2.2.2.2.1.trans hn2) (by rw [q2]; exact h6) q1 q3 (by rw [hsl]; exact k2_hasslot (q4 kf hk)) rfl rfl hd fun H' e1 e2 e3 => ?_
    refine kk p l e s m args below meth c b D κ N0 H' _ ls C (X.set he ?_ e2 e3 _)
    refine ⟨_, hc, t_OB.to (V := updV (vp_V (fs.map (rv b))) kf (rv b v)) ⟨_, e1, q2, q3, ?_⟩ (fun j _ => ?_)⟩
    · rw [hsl]
      exact t_set q4 hap hk (rv b v)
    · rw [List.map_set]
      exact vp_updV_set (by simpa using hl) (rv b v) j
theorem aw_iald {i N : Nat} {f : Nat → Int32} {j : Int32} (hd : decode M.2.1 pc = .ok (.iaload, 1)) (he : h[i]? = some (.inl (0, N, .inl f))) (hj : vp_in j N) (kk : AW M al d mc ms Q k n (pc + 1) L (.int (f j.toNatClampNeg) :: st) h) : AW M al d mc ms Q k n pc L (.int j :: .ref i :: st) h :=
  fun p l e s m args below meth c b D κ N0 H locs ls C X => va_iald C.1 C.2.1 C.2.2.2.2.2.2.2.2.1 X.2.1 i 0 (wso_at he) rfl hj hd (kk p l e s m args below meth c b D κ N0 H locs ls C X)
theorem aw_zald {i N : Nat} {f : Nat → Int32} {j : Int32} (hd : decode M.2.1 pc = .ok (.baload, 1)) (he : h[i]? = some (.inl (1, N, .inl f))) (hj : vp_in j N) (kk : AW M al d mc ms Q k n (pc + 1) L (.int (f j.toNatClampNeg) :: st) h) : AW M al d mc ms Q k n pc L (.int j :: .ref i :: st) h :=
  fun p l e s m args below meth c b D κ N0 H locs ls C X => va_zald C.1 C.2.1 C.2.2.2.2.2.2.2.2.1 X.2.1 i 1 (wso_at he) rfl hj hd (kk p l e s m args below meth c b D κ N0 H locs ls C X)
theorem aw_iast {i N : Nat} {f : Nat → Int32} {j v : Int32} (hd : decode M.2.1 pc = .ok (.iastore, 1)) (he : h[i]? = some (.inl (0, N, .inl f))) (hj : vp_in j N) (kk : AW M al d mc ms Q k n (pc + 1) L st (h.set i (.inl (0, N, .inl (upd f j.toNatClampNeg v))))) : AW M al d mc ms Q k n pc L (.int v :: .int j :: .ref i :: st) h :=
  fun p l e s m args below meth c b D κ N0 H locs ls C X => by
    have ha : H[b + i]? = some (vp_cell (κ 0) (N, .inl f)) := X.2.1 i _ (wso_at he)
    refine W.iast C.1 C.2.1 ha ((C.2.2.2.2.2.2.2.2.1.2 0 _ rfl).1 N (fun j => .int (f j))) (fun q => by cases q) (by show ¬ (j < 0 ∨ (arrV _ _ _).slots.size ≤ _); rw [arrV_size]; exact hj) rfl rfl hd fun H1 e1 z oq => ?_
    refine kk p l e s m args below meth c b D κ N0 H1 _ ls C (X.set he ?_ z oq _)
    show H1[b + i]? = some (vp_cell (κ 0) (N, .inl (upd f j.toNatClampNeg v)))
    rw [e1, vp_cell_i, vp_cell_i, arrV_store]
    congr 2
    funext q
    by_cases hq : q = j.toNatClampNeg
    · subst hq
      simp [updV, upd]
    · simp [updV, upd, hq]
theorem aw_zast {i N : Nat} {f : Nat → Int32} {j v : Int32} (hd : decode M.2.1 pc = .ok (.bastore, 1)) (he : h[i]? = some (.inl (1, N, .inl f))) (hj : vp_in j N) (hv : v = 0 ∨ v = 1) (kk : AW M false d mc ms Q k n (pc + 1) L st (h.set i (.inl (1, N, .inl (upd f j.toNatClampNeg v))))) : AW M false d mc ms Q k n pc L (.int v :: .int j :: .ref i :: st) h :=
  fun p l e s m args below meth c b D κ N0 H locs ls C X => by
    have hn : vp_nar .boolean v = v := by rcases hv with rfl | rfl <;> decide
    refine va_zast C.1 C.2.1 C.2.2.2.2.2.2.2.2.1 X.2.1 X.D X.2.2.2.1 i 1 (wso_at he) rfl hj hd fun H1 locs1 hP1 hD1 hS1 => ?_
    refine kk p l e s m args below meth c b D κ N0 H1 locs1 ls C ⟨fun q => by rw [List.length_set]; exact X.1 q, ?_, fun q => (by cases q), hS1, X.2.2.2.2⟩
    rw [← wso_set]
    rw [hn] at hP1
    exact hP1
theorem aw_aald {i N t : Nat} {ty : FieldType} {f : Nat → Option Nat} {j : Int32} (ht : ∀ κ : Nat → ClassId, (tyk κ)[t]? = some (κ t, ty)) (hty : ty.isReference = true) (hd : decode M.2.1 pc = .ok (.aaload, 1)) (he : h[i]? = some (.inl (t, N, .inr (.inr (.inr (.inr f)))))) (hj : vp_in j N) (kk : AW M al d mc ms Q k n (pc + 1) L (va_rf (f j.toNatClampNeg) :: st) h) : AW M al d mc ms Q k n pc L (.int j :: .ref i :: st) h :=
  fun p l e s m args below meth c b D κ N0 H locs ls C X => by
    have hlt : j.toNatClampNeg < N := Nat.not_le.mp fun q => hj (Or.inr q)
    have ha : H[b + i]? = some (vp_cell (κ t) (N, .inr (.inr (.inr (.inr (fun q => (f q).map (b + ·))))))) := X.2.1 i _ (wso_at he)
    refine W.aald (v := rv b (va_rf (f j.toNatClampNeg))) (ty := ty) C.1 C.2.1 ha ((C.2.2.2.2.2.2.2.2.1.2 t _ (ht κ)).1 N (fun q => va_rf ((f q).map (b + ·)))) hty (fun q => by cases q) (by show ¬ (j < 0 ∨ (arrV _ _ _).slots.size ≤ _); rw [arrV_size]; exact hj) (by show (arrV _ _ _).slots[_]? = _; rw [arrV_read _ _ hlt, rv_rf]) rfl rfl hd (kk p l e s m args below meth c b D κ N0 H locs ls C X)
theorem aw_aast {i N a : Nat} {fs : List Value} {f : Nat → Option Nat} {j : Int32} (hd : decode M.2.1 pc = .ok (.aastore, 1)) (he : h[i]? = some (.inl (2, N, .inr (.inr (.inr (.inr f)))))) (hj : vp_in j N) (ha : h[a]? = some (.inr (1, fs))) (kk : AW M al d mc ms Q k n (pc + 1) L st (h.set i (.inl (2, N, .inr (.inr (.inr (.inr (va_up f j.toNatClampNeg (some a))))))))) : AW M al d mc ms Q k n pc L (.ref a :: .int j :: .ref i :: st) h :=
  fun p l e s m args below meth c b D κ N0 H locs ls C X => by
    have hlt : j.toNatClampNeg < N := Nat.not_le.mp fun q => hj (Or.inr q)
    have h0 : ¬ j < 0 := fun q => hj (Or.inl q)
    have hK := C.2.2.2.2.2.2.2.2.1
    obtain ⟨r', hr', cellV, g1, g2, g3, -⟩ := X.2.1 a _ (wso_at ha)
    have hcls := (hK.1 1 _ rfl).2
    obtain ⟨kA, comp, k1, k2, k3, -⟩ := (hK.2 2 _ rfl).2
    have hcomp : comp = D.1 1 := Option.some.inj (k3.symm.trans hcls.1)
    subst hcomp
    obtain ⟨kC, hkC, -⟩ := hcls.2
    have hcell : H[b + i]? = some (vp_cell (κ 2) (N, .inr (.inr (.inr (.inr (fun q => (f q).map (b + ·))))))) := X.2.1 i _ (wso_at he)
    refine W.aast C.1 C.2.1 hcell (fun q h => by cases h) (fun h => by cases h) k1 k2 rfl hkC ⟨h0, by show _ < (arrV _ _ _).slots.size; rw [arrV_size]; exact hlt⟩ g1 (fun q h => by rw [g3] at h; cases h) (by rw [g2]; exact hkC) (by rw [g2]; exact va_assign hcls) rfl rfl hd fun H1 e1 z oq => ?_
    refine kk p l e s m args below meth c b D κ N0 H1 _ ls C (X.set he ?_ z oq _)
    show H1[b + i]? = some (vp_cell (κ 2) (N, .inr (.inr (.inr (.inr (fun q => (va_up f j.toNatClampNeg (some a) q).map (b + ·)))))))
    rw [e1, vp_cell_q, vp_cell_q, arrV_store]
    congr 2
    funext q
    by_cases hq : q = j.toNatClampNeg
    · subst hq
      simp [updV, va_up, va_rf]
    · simp [updV, va_up, hq]
theorem aw_alen {i : Nat} {t : Nat} {ty : FieldType} {a : vp_A} (ht : ∀ κ : Nat → ClassId, (tyk κ)[t]? = some (κ t, ty)) (hd : decode M.2.1 pc = .ok (.arraylength, 1)) (he : h[i]? = some (.inl (t, a))) (kk : AW M al d mc ms Q k n (pc + 1) L (.int (Int32.ofNat a.1) :: st) h) : AW M al d mc ms Q k n pc L (.ref i :: st) h :=
  fun p l e s m args below meth c b D κ N0 H locs ls C X => va_alen C.1 C.2.1 C.2.2.2.2.2.2.2.2.1 X.2.1 i t (wso_at he) (ht κ) (by obtain ⟨n0, f | f | f | f | f⟩ := a <;> rfl) hd (kk p l e s m args below meth c b D κ N0 H locs ls C X)
theorem QC.mk {M : MI} {al : Bool} {p : Program} {s : State} {m : MethodId} {args : Array Value} {meth : Method} {c : Code} {b : Nat} {D : va_G} {κ : Nat → ClassId} {N0 : Nat} {L : List (Option Value)} {h : List AC} {H : Heap} {locs : List Loc} {ls : Array Slot} (C : CX M al p s m args meth c b D κ N0) (X : DX M al s b D κ N0 L h H locs ls) {Q : QT} {r : Option Value} (hq : Q r h) (t : State) (ht : t.heap = H) (hW : s.WarmedH t.vm) : QC al b D κ N0 Q args s (.returned (r.map (rv b))) t :=
  ⟨⟨r, h, rfl, hq, X.1, tb_warm hW C.2.2.2.2.1, va_K.moved hW.alike C.2.2.2.2.2.2.2.2.1, by rw [ht]; exact X.2.1, fun q => by rw [ht]; exact X.2.2.1 q⟩, X.2.2.2.1.F ht⟩
theorem aw_iret {v : Int32} (hr : M.2.2.2 = some .int) (hd : decode M.2.1 pc = .ok (.ireturn, 1)) (hq : Q (some (.int v)) h) : AW M al d k n Q k n pc L [.int v] h :=
  fun p l e s m args below meth c b D κ N0 H locs ls C X => W.iret C.1 C.2.1 (C.2.2.2.2.2.1.trans hr) (fun t ht hW => QC.mk C X hq t ht hW) X.2.2.2.1.2.2 hd C.2.2.2.2.2.2.1
theorem aw_zret {v : Int32} (hr : M.2.2.2 = some .boolean) (hv : v = 0 ∨ v = 1) (hd : decode M.2.1 pc = .ok (.ireturn, 1)) (hq : Q (some (.int v)) h) : AW M al d k n Q k n pc L [.int v] h :=
  fun p l e s m args below meth c b D κ N0 H locs ls C X => W.zret C.1 C.2.1 (C.2.2.2.2.2.1.trans hr) (by rcases hv with rfl | rfl <;> decide) (fun t ht hW => QC.mk C X hq t ht hW) X.2.2.2.1.2.2 hd C.2.2.2.2.2.2.1
theorem aw_vret (hr : M.2.2.2 = none) (hd : decode M.2.1 pc = .ok (.return_, 1)) (hq : Q none h) : AW M al d k n Q k n pc L [] h :=
  fun p l e s m args below meth c b D κ N0 H locs ls C X => W.vret C.1 C.2.1 (C.2.2.2.2.2.1.trans hr) (fun t ht hW => QC.mk C X (r := none) hq t ht hW) X.2.2.2.1.2.2 hd C.2.2.2.2.2.2.1
theorem aw_aret {r : Option Nat} {nm : String} (hr : M.2.2.2 = some (.object nm)) (hd : decode M.2.1 pc = .ok (.areturn, 1)) (hq : Q (some (va_rf r)) h) : AW M al d k n Q k n pc L [va_rf r] h :=
  fun p l e s m args below meth c b D κ N0 H locs ls C X => W.aret C.1 C.2.1 (C.2.2.2.2.2.1.trans hr) (Or.inl ⟨nm, rfl⟩) (by cases r with
    | none => exact Or.inl rfl
    | some a => exact Or.inr ⟨_, rfl⟩) (fun t ht hW => QC.mk C X hq t ht hW) X.2.2.2.1.2.2 hd C.2.2.2.2.2.2.1
theorem aw_widen {k' n' : Nat} (h1 : k ≤ k') (h2 : n ≤ n') (kk : AW M al d mc ms Q k' n' pc L st h) : AW M al d mc ms Q k n pc L st h :=
  fun p l e s m args below meth c b D κ N0 H locs ls C X => W.widen h1 h2 (kk p l e s m args below meth c b D κ N0 H locs ls C X)
end AWH
end
section
def CB0 (M' : MI) (nP : Nat) : Prop := Cond.code M'.1 M'.2.1 M'.2.2.1 M'.2.2.2 ∈ ktbl ∧ Cond.initialized M'.1.cls ∈ ktbl ∧ (M'.1.cls ≠ "java/lang/invoke/MethodHandle" ∧ M'.1.cls ≠ "java/lang/invoke/VarHandle") ∧ (parseMethodDescriptor M'.1.desc).map (fun q => q.parameters.length) = some nP ∧ M'.2.2.1 ≤ 45
def CGk (kind : Nat) (own : String) (ix : Nat) (M' : MI) (nP : Nat) : Prop := CB0 M' nP ∧ (Cond.methodLink own ix M'.1 ∈ ktbl ∨ ∃ host, Cond.methodLinkNest own ix M'.1 host ∈ ktbl) ∧ (match kind with
  | 0 => Cond.static M'.1 ∈ ktbl
  | 1 => Cond.instanceMethod M'.1 ∈ ktbl ∧ Cond.selects M'.1.cls M'.1 M'.1 ∈ ktbl
  | _ => Cond.instanceMethod M'.1 ∈ ktbl ∧ M'.1.name = "<init>" ∧ M'.2.2.2 = none)
theorem RL.blind {al : Bool} {b : Nat} {D : va_G} {κ : Nat → ClassId} {h : List AC} {as : List Value} : FrameBlind (va_Pc (as.map (rv b)) (RL al b D κ h)) := by
  rintro a U g mk ⟨rfl, h1, h2, h3, h4⟩
  exact ⟨rfl, tb_warm (U := U.calling g mk _) (State.WarmedH.refl U) h1, va_K.moved (u := U) (U := U.calling g mk _) (Vm.Alike.refl U.vm) h2, h3, h4⟩
theorem cb_code {M' : MI} {nP : Nat} {s : State} {args : Array Value} (hts : ∀ w ∈ ktbl, w.before args s = true) (g : CB0 M' nP) : ∀ w ∈ [Cond.code M'.1 M'.2.1 M'.2.2.1 M'.2.2.2], ∀ (a' : Array Value) (U : State), s.WarmedH U.vm → w.before a' U = true := by
  intro w hw a' U hW
  rw [List.mem_singleton.mp hw]
  exact tb_word hW (okW_of g.1) (hts _ g.1)
theorem cb_len {M' : MI} {nP : Nat} (g : CB0 M' nP) : ∀ sig, parseMethodDescriptor M'.1.desc = some sig → nP = sig.parameters.length := fun sig q => by
  have h2 := g.2.2.2.1
  rw [q] at h2
  exact (Option.some.inj h2).symm
theorem sh_zero (c : AC) : sh 0 c = c := by
  rcases c with ⟨t, n, f | f | f | f | f⟩ | ⟨ci, fs⟩
  · rfl
  · rfl
  · rfl
  · rfl
  · show Sum.inl (t, n, _) = Sum.inl (t, n, _)
    congr 8
    funext j
    cases hf : f j <;> simp [hf]
  · show Sum.inr (ci, fs.map (rv 0)) = Sum.inr (ci, fs)
    congr 2
    have : fs.map (rv 0) = fs.map id := List.map_congr_left (fun v _ => by cases v <;> simp [rv])
    rw [this, List.map_id]
theorem sh_zeroL (h : List AC) : h.map (sh 0) = h := by
  have : h.map (sh 0) = h.map id := List.map_congr_left (fun c _ => sh_zero c)
  rw [this, List.map_id]
theorem rv_zeroL (l : List Value) : l.map (rv 0) = l := by
  have : l.map (rv 0) = l.map id := List.map_congr_left (fun v _ => by cases v <;> simp [rv])
  rw [this, List.map_id]
theorem rv_zeroO (l : Option Value) : l.map (rv 0) = l := by
  cases l with
  | none => rfl
  | some v => cases v <;> simp [rv]
section AWC
variable {M : MI} {al : Bool} {d mc ms : Nat} {Q : QT} {k n : Nat} {pc : Nat} {L : List (Option Value)} {st : List Value}
theorem win_P {b : Nat} {D : va_G} {κ : Nat → ClassId} {pre hc post : List AC} {H : Heap} (hP : va_P D kclasses (wso b κ (pre ++ hc.map (sh pre.length) ++ post)) H) : va_P D kclasses (wso (b + pre.length) κ hc) H := by
  intro i q hq
  obtain ⟨c, hc1, rfl⟩ := wso_of hq
  have hil : i < hc.length := (List.getElem?_eq_some_iff.mp hc1).1
  have h1 : (pre ++ hc.map (sh pre.length) ++ post)[pre.length + i]? = some (sh pre.length c) := by
    rw [List.getElem?_append_left (by simp; omega), List.getElem?_append_right (by omega), List.getElem?_map, show pre.length + i - pre.length = i by omega, hc1]; rfl
  have := hP _ _ (wso_at (b := b) (κ := κ) h1)
  rw [ec_sh, ← Nat.add_assoc] at this
  exact this
theorem aw_ret_call {al : Bool} {pre hc post : List AC} {Q' : QT} {mc' ms' : Nat} {p : Program} {l : Launch} {e : Env} {s : State} {m : MethodId} {args : Array Value} {below : List Frame} {meth : Method} {c : Code} {b : Nat} {D : va_G} {κ : Nat → ClassId} {N0 : Nat} {H : Heap} {locs : List Loc} {ls : Array Slot} {st0 : List Value} {a : Array Value}
    (hpost : al = true → post = []) (C : CX M al p s m args meth c b D κ N0) (X : DX M al s b D κ N0 L (pre ++ hc.map (sh pre.length) ++ post) H locs ls)
    (hr : va_Run p l e (rmD d mc ms) s m args below meth c H locs k n mc' ms' (F0 m pc ls st0) (st.map (rv b)) (QC al (b + pre.length) D κ hc.length Q' a) (AX al (b + pre.length) hc.length))
    (kk : ∀ (r : Option Value) (hc' : List AC), Q' r hc' → (al = false → hc'.length = hc.length) → AW M al d mc ms Q (k + mc') (n + ms') (pc + 3) L ((r.map (rv pre.length)).toList ++ st) (pre ++ hc'.map (sh pre.length) ++ post)) :
    W p l e (rmD d mc ms) s m args below meth c H locs k n (MQ below (QC al b D κ N0 Q) args s mc ms (AX al b N0)) (F0 m pc ls st0) := by
  intro T hT S
  obtain ⟨v, st₀, t, T', Lo, h0, S', hL, e1, e2, ⟨⟨r, hc', hv, hq, hlen, hRL⟩, hF⟩, go⟩ := hr T hT S
  have hv : v = r.map (rv (b + pre.length)) := by
    have := hv
    cases this; rfl
  subst hv
  have hF : H.size ≤ t.heap.size ∧ ∀ q : Nat, q < H.size → ¬ AX al (b + pre.length) hc.length q → t.heap[q]? = H[q]? := by rw [← h0]; exact hF
  have hAA : ∀ q, AX al (b + pre.length) hc.length q → AX al b N0 q := fun q hq => by
    refine ⟨by have := hq.1; omega, fun ha => ?_⟩
    have h1 := hq.2 ha
    have h2 := X.1 ha
    simp at h2
    omega
  have hP1 : va_P D kclasses (wso b κ (pre ++ hc'.map (sh pre.length) ++ post)) t.heap := by
    intro i q hq9
    obtain ⟨c9, hc9, rfl⟩ := wso_of hq9
    by_cases hi : i < pre.length
    · rw [List.append_assoc, List.getElem?_append_left hi] at hc9
      have h1 : (pre ++ hc.map (sh pre.length) ++ post)[i]? = some c9 := by rw [List.append_assoc, List.getElem?_append_left hi]; exact hc9
      have h2 := X.2.1 _ _ (wso_at (b := b) (κ := κ) h1)
      exact h2.kept (hF.2 _ h2.lt (fun ha => by have := ha.1; simp at this; omega))
    · by_cases hi2 : i < pre.length + hc'.length
      · rw [List.getElem?_append_left (by simp; omega), List.getElem?_append_right (by omega), List.getElem?_map] at hc9
        cases h3 : hc'[i - pre.length]? with
        | none => rw [h3] at hc9; cases hc9
        | some c8 =>
          rw [h3] at hc9
          cases hc9
          have h4 := hRL.2.2.1 _ _ (wso_at (b := b + pre.length) (κ := κ) h3)
          rw [ec_sh]
          rw [show b + pre.length + (i - pre.length) = b + i by omega] at h4
          exact h4
      · cases hal : al with
        | true =>
          rw [hpost hal] at hc9
          simp at hc9
          have := (List.getElem?_eq_some_iff.mp hc9).1
          simp at this
          omega
        | false =>
          have hll := hlen hal
          have h1 : (pre ++ hc.map (sh pre.length) ++ post)[i]? = some c9 := by
            rw [List.getElem?_append_right (by simp; omega)] at hc9 ⊢
            simpa [hll] using hc9
          have h2 := X.2.1 _ _ (wso_at (b := b) (κ := κ) h1)
          refine h2.kept (hF.2 _ h2.lt (fun ha => ?_))
          have := ha.2 hal
          simp at this
          omega
  obtain ⟨t2, a1, b1⟩ := kk r hc' hq hlen p l e s m args below meth c b D κ N0 T'.heap (locs ++ Lo) ls C ⟨fun ha => by have h1 := X.1 ha; have h2 := hlen ha; simp at h1 ⊢; omega, by rw [e1]; exact hP1, fun ha => by
      rw [e1, hRL.2.2.2 ha, hpost ha]; simp; omega, ⟨Nat.le_trans X.2.2.2.1.1 (by rw [e1]; exact hF.1), fun q q1 q2 => by rw [e1, hF.2 q (Nat.lt_of_lt_of_le q1 X.2.2.2.1.1) (fun z => q2 (hAA q z))]; exact X.2.2.2.1.2.1 q q1 q2, fun q hq => by
        rcases List.mem_append.mp hq with h | h
        · exact X.2.2.2.1.2.2 q h
        · exact hAA _ (hL q h)⟩, X.2.2.2.2⟩ T' rfl S'
  refine ⟨t2, go t2 ?_, b1⟩
  have hst : (((r.map (rv pre.length)).toList ++ st).map (rv b)) = (r.map (rv (b + pre.length))).toList ++ st.map (rv b) := by
    cases r <;> simp [rv_rv]
  rw [hst] at a1
  exact a1
theorem cat_sum {b : Nat} (st : List Value) : ((st.map (rv b)).map fun v => v.category).sum = (st.map fun v => v.category).sum := by
  rw [List.map_map]
  congr 1
  exact List.map_congr_left (fun v _ => rv_cat b v)
theorem aw_callW {kind ix nP d' mc' ms' : Nat} {M' : MI} {as : List Value} {pre hc post : List AC} {Q' : QT} {st0 : List Value} (g : CGk kind M.1.cls ix M' nP) (hM : AMet M' al d' mc' ms' as hc Q')
    (hd : decode M.2.1 pc = .ok ((match kind with | 0 => .invokestatic ix | 1 => .invokevirtual ix | _ => .invokespecial ix), 3)) (hk : kind < 3)
    (hthis : 0 < kind → ∃ (a : Nat) (as' : List Value), as = .ref a :: as' ∧ as'.length = nP ∧ (kind = 1 → ∃ ci fs q, hc[a]? = some (.inr (ci, fs)) ∧ kclasses[ci]? = some q ∧ q.1 = M'.1.cls)) (hlen : kind = 0 → as.length = nP)
    (hst : st0 = (as.map (rv pre.length)).reverse ++ st) (hW : (st.map fun v => v.category).sum ≤ 8) (hdd : d' + 1 ≤ d) (hf : k + mc' ≤ mc ∧ n + ms' ≤ ms) (hpost : al = true → post = [])
    (kk : ∀ (r : Option Value) (hc' : List AC), Q' r hc' → (al = false → hc'.length = hc.length) → AW M al d mc ms Q (k + mc') (n + ms') (pc + 3) L ((r.map (rv pre.length)).toList ++ st) (pre ++ hc'.map (sh pre.length) ++ post)) :
    AW M al d mc ms Q k n pc L st0 (pre ++ hc.map (sh pre.length) ++ post) :=
  fun p l e s m args below meth c b D κ N0 H locs ls C X => by
    obtain ⟨g0, gl, gk⟩ := g
    have hx := C.1
    have hb := C.2.1
    have hml := C.2.2.1
    have hown := C.2.2.2.1
    have hts := C.2.2.2.2.1
    have hK := C.2.2.2.2.2.2.2.2.1
    have hlo : 8 + (M'.2.2.1 + 11) + (rmD d' mc' ms').locals ≤ (rmD d mc ms).locals := by
      show 8 + (M'.2.2.1 + 11) + 64 * d' ≤ 64 * d
      have := g0.2.2.2.2
      omega
    have hfr : (rmD d' mc' ms').frames + 1 ≤ (rmD d mc ms).frames := hdd
    have hws := cb_code hts g0
    have hRL : ∀ U : State, U.heap = H → s.WarmedH U.vm → va_Pc (as.map (rv (b + pre.length))) (RL al (b + pre.length) D κ hc) (as.map (rv (b + pre.length))).toArray U := fun U hU hWm => by
      refine ⟨rfl, tb_warm hWm hts, va_K.moved hWm.alike hK, by rw [hU]; exact win_P X.2.1, fun ha => ?_⟩
      rw [hU, X.2.2.1 ha, hpost ha]; simp; omega
    have hM' := hM l (b + pre.length) D κ
    have hrm : 2 * (F0 m pc ls (st0.map (rv b))).monitorRoom + ((st.map (rv b)).map fun v => v.category).sum ≤ 8 := lv_room (by rw [cat_sum]; exact hW)
    have hsize : (F0 m pc ls (st0.map (rv b))).locals.size = M.2.2.1 := X.2.2.2.2.1.1
    have hstk : st0.map (rv b) = (as.map (rv (b + pre.length))).reverse ++ st.map (rv b) := by
      rw [hst, List.map_append, List.map_reverse, rv_rvL]
    match kind, hk with
    | 0, _ =>
      have hln : (as.map (rv (b + pre.length))).length = nP := by rw [List.length_map]; exact hlen rfl
      rcases gl with gl | ⟨host, gl⟩
      · exact aw_ret_call hpost C X (va_runS (nL := M.2.2.1) (Ts := ktbl) ⟨hx, hb, hml, hown, hts⟩ hM' ⟨⟨rfl, rfl, hfr, hlo, hws, List.mem_singleton.mpr rfl, hts _ g0.1, hts _ g0.2.1, g0.2.2.1, cb_len g0, hts _ gl⟩, hts _ gk⟩ ⟨RL.blind, hRL⟩ rfl hln hsize hstk hrm hd hf) kk
      · exact aw_ret_call hpost C X (va_runSN (nL := M.2.2.1) (Ts := ktbl) ⟨hx, hb, hml, hown, hts⟩ hM' ⟨⟨⟨rfl, rfl, hfr, hlo, hws, List.mem_singleton.mpr rfl⟩, hts _ g0.1, hts _ g0.2.1, g0.2.2.1, cb_len g0, hts _ gl⟩, hts _ gk, trivial⟩ ⟨RL.blind, hRL⟩ rfl hln hsize hstk hrm hd hf) kk
    | 1, _ =>
      obtain ⟨a, as', rfl, hln, hcl⟩ := hthis (by decide)
      obtain ⟨ci, fs, q, hca, hcq, hqc⟩ := hcl rfl
      have hln : (as'.map (rv (b + pre.length))).length = nP := by rw [List.length_map]; exact hln
      have hstk2 : st0.map (rv b) = (as'.map (rv (b + pre.length))).reverse ++ .ref (b + pre.length + a) :: st.map (rv b) := by
        rw [hstk]; simp [rv]
      have hrecv := va_recv hK (win_P X.2.1) hcq (wso_at (b := b + pre.length) (κ := κ) hca)
      rw [hqc] at hrecv
      rcases gl with gl | ⟨host, gl⟩
      · exact aw_ret_call hpost C X (va_runV (nL := M.2.2.1) (Ts := ktbl) ⟨hx, hb, hml, hown, hts⟩ hM' ⟨⟨rfl, rfl, hfr, hlo, hws, List.mem_singleton.mpr rfl, hts _ g0.1, hts _ g0.2.1, g0.2.2.1, cb_len g0, hts _ gl⟩, hts _ gk.1, hts _ gk.2⟩ ⟨RL.blind, hrecv, hRL⟩ rfl hln hsize hstk2 hrm hd hf) kk
      · exact aw_ret_call hpost C X (va_runVN (nL := M.2.2.1) (Ts := ktbl) ⟨hx, hb, hml, hown, hts⟩ hM' ⟨⟨⟨rfl, rfl, hfr, hlo, hws, List.mem_singleton.mpr rfl⟩, hts _ g0.1, hts _ g0.2.1, g0.2.2.1, cb_len g0, hts _ gl⟩, hts _ gk.1, hts _ gk.2⟩ ⟨RL.blind, hrecv, hRL⟩ rfl hln hsize hstk2 hrm hd hf) kk
    | 2, _ =>
      obtain ⟨a, as', rfl, hln, -⟩ := hthis (by decide)
      have hln : (as'.map (rv (b + pre.length))).length = nP := by rw [List.length_map]; exact hln
      have hstk2 : st0.map (rv b) = (as'.map (rv (b + pre.length))).reverse ++ .ref (b + pre.length + a) :: st.map (rv b) := by
        rw [hstk]; simp [rv]
      obtain ⟨gi, gn, gr⟩ := gk
      have hws2 : ∀ w ∈ [Cond.code M'.1 M'.2.1 M'.2.2.1 none], ∀ (a' : Array Value) (U : State), s.WarmedH U.vm → w.before a' U = true := by rw [← gr]; exact hws
      have hc2 : (Cond.code M'.1 M'.2.1 M'.2.2.1 none).before args s = true := by rw [← gr]; exact hts _ g0.1
      rw [gr] at hM'
      rcases gl with gl | ⟨host, gl⟩
      · exact aw_ret_call hpost C X (va_runI (nL := M.2.2.1) (Ts := ktbl) ⟨hx, hb, hml, hown, hts⟩ hM' ⟨⟨rfl, rfl, hfr, hlo, hws2, List.mem_singleton.mpr rfl, hc2, hts _ g0.2.1, g0.2.2.1, cb_len g0, hts _ gl⟩, gn, hts _ gi⟩ ⟨RL.blind, hRL⟩ rfl hln hsize hstk2 hrm hd hf) kk
      · exact aw_ret_call hpost C X (va_runIN (nL := M.2.2.1) (Ts := ktbl) ⟨hx, hb, hml, hown, hts⟩ hM' ⟨⟨⟨rfl, rfl, hfr, hlo, hws2, List.mem_singleton.mpr rfl⟩, hc2, hts _ g0.2.1, g0.2.2.1, cb_len g0, hts _ gl⟩, gn, hts _ gi⟩ ⟨RL.blind, hRL⟩ rfl hln hsize hstk2 hrm hd hf) kk
end AWC
end
section
theorem kx_max : Cond.code Lib.Math.max.name Lib.Math.max.code 2 (some .int) ∈ ktbl := k_at 297 (by decide +kernel) (by decide +kernel)
theorem kx_min : Cond.code Lib.Math.min.name Lib.Math.min.code 2 (some .int) ∈ ktbl := k_at 331 (by decide +kernel) (by decide +kernel)
theorem kx_abs : Cond.code Lib.Math.abs.name Lib.Math.abs.code 1 (some .int) ∈ ktbl := k_at 300 (by decide +kernel) (by decide +kernel)
theorem kx_maxS : Cond.static Lib.Math.max.name ∈ ktbl := k_at 296 (by decide +kernel) (by decide +kernel)
theorem kx_minS : Cond.static Lib.Math.min.name ∈ ktbl := k_at 330 (by decide +kernel) (by decide +kernel)
theorem kx_absS : Cond.static Lib.Math.abs.name ∈ ktbl := k_at 299 (by decide +kernel) (by decide +kernel)
theorem kx_math : Cond.initialized "java/lang/Math" ∈ ktbl := k_at 63 (by decide +kernel) (by decide +kernel)
theorem kx_sys : Cond.initialized "java/lang/System" ∈ ktbl := k_at 64 (by decide +kernel) (by decide +kernel)
theorem kx_cpS : Cond.static arraycopyName ∈ ktbl := k_at 442 (by decide +kernel) (by decide +kernel)
theorem kx_cpN : Cond.native arraycopyName ∈ ktbl := k_at 443 (by decide +kernel) (by decide +kernel)
theorem kx_obI : Cond.instanceMethod Lib.objectInit ∈ ktbl := k_at 71 (by decide +kernel) (by decide +kernel)
theorem kx_obC : Cond.code Lib.objectInit ⟨#[0xb1]⟩ 1 none ∈ ktbl := k_at 72 (by decide +kernel) (by decide +kernel)
theorem kx_ai : Cond.arrayClass .int ∈ ktbl := by decide +kernel
theorem kx_az : Cond.arrayClass .boolean ∈ ktbl := by decide +kernel
theorem kx_ao : Cond.arrayOver (.object "EarChart$Row") ∈ ktbl := by decide +kernel
theorem kx_aoa : Cond.arrayOver (.array .int) ∈ ktbl := by decide +kernel
section AWM
variable {M : MI} {al : Bool} {d mc ms : Nat} {Q : QT} {k n : Nat} {pc : Nat} {L : List (Option Value)} {st : List Value} {h : List AC}
theorem aw_callG {kind ix nP d' mc' ms' : Nat} {M' : MI} {as : List Value} {Q' : QT} {st0 : List Value} (g : CGk kind M.1.cls ix M' nP) (hM : AMet M' al d' mc' ms' as h Q')
    (hd : decode M.2.1 pc = .ok ((match kind with | 0 => .invokestatic ix | 1 => .invokevirtual ix | _ => .invokespecial ix), 3)) (hk : kind < 3)
    (hthis : 0 < kind → ∃ (a : Nat) (as' : List Value), as = .ref a :: as' ∧ as'.length = nP ∧ (kind = 1 → ∃ ci fs q, h[a]? = some (.inr (ci, fs)) ∧ kclasses[ci]? = some q ∧ q.1 = M'.1.cls)) (hlen : kind = 0 → as.length = nP)
    (hst : st0 = as.reverse ++ st) (hW : (st.map fun v => v.category).sum ≤ 8) (hdd : d' + 1 ≤ d) (hf : k + mc' ≤ mc ∧ n + ms' ≤ ms)
    (kk : ∀ (r : Option Value) (h' : List AC), Q' r h' → (al = false → h'.length = h.length) → AW M al d mc ms Q (k + mc') (n + ms') (pc + 3) L (r.toList ++ st) h') :
    AW M al d mc ms Q k n pc L st0 h := by
  have e : h = [] ++ h.map (sh ([] : List AC).length) ++ [] := by simp [sh_zeroL]
  have := aw_callW (M := M) (al := al) (d := d) (mc := mc) (ms := ms) (Q := Q) (k := k) (n := n) (pc := pc) (L := L) (st := st) (pre := []) (hc := h) (post := []) (st0 := st0) g hM hd hk hthis hlen (by rw [hst]; show _ = (as.map (rv 0)).reverse ++ st; rw [rv_zeroL]) hW hdd hf (fun _ => rfl) (fun r hc' hq hl => by
    have := kk r hc' hq hl
    show AW M al d mc ms Q (k + mc') (n + ms') (pc + 3) L ((r.map (rv 0)).toList ++ st) ([] ++ hc'.map (sh 0) ++ [])
    rw [rv_zeroO, sh_zeroL]
    simpa using this)
  rw [← e] at this
  exact this
theorem aw_callS {ix nP d' mc' ms' : Nat} {M' : MI} {as : List Value} {Q' : QT} {st0 : List Value} (g : CGk 0 M.1.cls ix M' nP) (hM : AMet M' al d' mc' ms' as h Q') (hd : decode M.2.1 pc = .ok (.invokestatic ix, 3)) (hlen : as.length = nP)
    (hst : st0 = as.reverse ++ st) (hW : (st.map fun v => v.category).sum ≤ 8) (hdd : d' + 1 ≤ d) (hf : k + mc' ≤ mc ∧ n + ms' ≤ ms)
    (kk : ∀ (r : Option Value) (h' : List AC), Q' r h' → (al = false → h'.length = h.length) → AW M al d mc ms Q (k + mc') (n + ms') (pc + 3) L (r.toList ++ st) h') : AW M al d mc ms Q k n pc L st0 h :=
  aw_callG g hM hd (by decide) (fun q => absurd q (by decide)) (fun _ => hlen) hst hW hdd hf kk
theorem aw_callV {ix nP d' mc' ms' a ci : Nat} {M' : MI} {as : List Value} {fs : List Value} {Q' : QT} {st0 : List Value} {q : vw_C} (g : CGk 1 M.1.cls ix M' nP) (hM : AMet M' al d' mc' ms' (.ref a :: as) h Q') (hd : decode M.2.1 pc = .ok (.invokevirtual ix, 3)) (hlen : as.length = nP)
    (he : h[a]? = some (.inr (ci, fs))) (hc : kclasses[ci]? = some q) (hq : q.1 = M'.1.cls)
    (hst : st0 = (Value.ref a :: as).reverse ++ st) (hW : (st.map fun v => v.category).sum ≤ 8) (hdd : d' + 1 ≤ d) (hf : k + mc' ≤ mc ∧ n + ms' ≤ ms)
    (kk : ∀ (r : Option Value) (h' : List AC), Q' r h' → (al = false → h'.length = h.length) → AW M al d mc ms Q (k + mc') (n + ms') (pc + 3) L (r.toList ++ st) h') : AW M al d mc ms Q k n pc L st0 h :=
  aw_callG g hM hd (by decide) (fun _ => ⟨a, as, rfl, hlen, fun _ => ⟨ci, fs, q, he, hc, hq⟩⟩) (fun e => by cases e) hst hW hdd hf kk
theorem aw_callI {ix nP d' mc' ms' a : Nat} {M' : MI} {as : List Value} {Q' : QT} {st0 : List Value} (g : CGk 2 M.1.cls ix M' nP) (hM : AMet M' al d' mc' ms' (.ref a :: as) h Q') (hd : decode M.2.1 pc = .ok (.invokespecial ix, 3)) (hlen : as.length = nP)
    (hst : st0 = (Value.ref a :: as).reverse ++ st) (hW : (st.map fun v => v.category).sum ≤ 8) (hdd : d' + 1 ≤ d) (hf : k + mc' ≤ mc ∧ n + ms' ≤ ms)
    (kk : ∀ (r : Option Value) (h' : List AC), Q' r h' → (al = false → h'.length = h.length) → AW M al d mc ms Q (k + mc') (n + ms') (pc + 3) L (r.toList ++ st) h') : AW M al d mc ms Q k n pc L st0 h :=
  aw_callG g hM hd (by decide) (fun _ => ⟨a, as, rfl, hlen, fun e => by cases e⟩) (fun e => by cases e) hst hW hdd hf kk
theorem aw_callIw {ix nP d' mc' ms' : Nat} {M' : MI} {as : List Value} {Q' : QT} {st0 : List Value} {pre : List AC} {c0 : AC} {o : Nat} (ho : pre.length = o) (g : CGk 2 M.1.cls ix M' nP) (hM : AMet M' al d' mc' ms' (.ref 0 :: as) [c0] Q') (hd : decode M.2.1 pc = .ok (.invokespecial ix, 3)) (hlen : as.length = nP)
    (hst : st0 = ((Value.ref 0 :: as).map (rv o)).reverse ++ st) (hW : (st.map fun v => v.category).sum ≤ 8) (hdd : d' + 1 ≤ d) (hf : k + mc' ≤ mc ∧ n + ms' ≤ ms) (e : h = pre ++ [sh o c0])
    (kk : ∀ (r : Option Value) (h' : List AC), Q' r h' → AW M al d mc ms Q (k + mc') (n + ms') (pc + 3) L ((r.map (rv o)).toList ++ st) (pre ++ h'.map (sh o))) : AW M al d mc ms Q k n pc L st0 h := by
  subst ho
  subst e
  have := aw_callW (M := M) (al := al) (d := d) (mc := mc) (ms := ms) (Q := Q) (k := k) (n := n) (pc := pc) (L := L) (st := st) (pre := pre) (hc := [c0]) (post := []) (st0 := st0) g hM hd (by decide) (fun _ => ⟨0, as, rfl, hlen, fun e => by cases e⟩) (fun e => by cases e) hst hW hdd hf (fun _ => rfl) (fun r hc' hq hl => by
    have := kk r hc' hq
    simpa using this)
  simpa using this
theorem aw_max {ix : Nat} {x y : Int32} (hw : Cond.methodLink M.1.cls ix Lib.Math.max.name ∈ ktbl) (hd : decode M.2.1 pc = .ok (.invokestatic ix, 3)) (hD : 1 ≤ d) (hW : (st.map fun v => v.category).sum ≤ 8) (hf : k ≤ mc ∧ n ≤ ms) (kk : AW M al d mc ms Q k n (pc + 3) L (.int (if x < y then y else x) :: st) h) : AW M al d mc ms Q k n pc L (.int y :: .int x :: st) h :=
  fun p l e s m args below meth c b D κ N0 H locs ls C X => va_mmax C.1 C.2.1 (C.2.2.1.trans X.2.2.2.2.1.1.symm) C.2.2.2.1 (C.2.2.2.2.1 _ hw) (C.2.2.2.2.1 _ kx_maxS) (C.2.2.2.2.1 _ kx_math) (C.2.2.2.2.1 _ kx_max) hD (by rw [cat_sum]; show _ + 13 ≤ 64 * d; omega) hf.1 hf.2 hd (kk p l e s m args below meth c b D κ N0 H locs ls C X)
theorem aw_min {ix : Nat} {x y : Int32} (hw : Cond.methodLink M.1.cls ix Lib.Math.min.name ∈ ktbl) (hd : decode M.2.1 pc = .ok (.invokestatic ix, 3)) (hD : 1 ≤ d) (hW : (st.map fun v => v.category).sum ≤ 8) (hf : k ≤ mc ∧ n ≤ ms) (kk : AW M al d mc ms Q k n (pc + 3) L (.int (if y < x then y else x) :: st) h) : AW M al d mc ms Q k n pc L (.int y :: .int x :: st) h :=
  fun p l e s m args below meth c b D κ N0 H locs ls C X => va_mmin C.1 C.2.1 (C.2.2.1.trans X.2.2.2.2.1.1.symm) C.2.2.2.1 (C.2.2.2.2.1 _ hw) (C.2.2.2.2.1 _ kx_minS) (C.2.2.2.2.1 _ kx_math) (C.2.2.2.2.1 _ kx_min) hD (by rw [cat_sum]; show _ + 13 ≤ 64 * d; omega) hf.1 hf.2 hd (kk p l e s m args below meth c b D κ N0 H locs ls C X)
theorem aw_abs {ix : Nat} {x : Int32} (hw : Cond.methodLink M.1.cls ix Lib.Math.abs.name ∈ ktbl) (hd : decode M.2.1 pc = .ok (.invokestatic ix, 3)) (hD : 1 ≤ d) (hW : (st.map fun v => v.category).sum ≤ 8) (hf : k ≤ mc ∧ n ≤ ms) (kk : AW M al d mc ms Q k n (pc + 3) L (.int (if 0 ≤ x then x else 0 - x) :: st) h) : AW M al d mc ms Q k n pc L (.int x :: st) h :=
  fun p l e s m args below meth c b D κ N0 H locs ls C X => va_mabs C.1 C.2.1 (C.2.2.1.trans X.2.2.2.2.1.1.symm) C.2.2.2.1 (C.2.2.2.2.1 _ hw) (C.2.2.2.2.1 _ kx_absS) (C.2.2.2.2.1 _ kx_math) (C.2.2.2.2.1 _ kx_abs) hD (by rw [cat_sum]; show _ + 13 ≤ 64 * d; omega) hf.1 hf.2 hd (kk p l e s m args below meth c b D κ N0 H locs ls C X)
theorem aw_copy {ix i0 i1 n0 n1 : Nat} {f g : Nat → Int32} {sp dp z : Int32} (hw : Cond.methodLink M.1.cls ix arraycopyName ∈ ktbl) (hd : decode M.2.1 pc = .ok (.invokestatic ix, 3)) (h0 : h[i0]? = some (.inl (0, n0, .inl f))) (h1 : h[i1]? = some (.inl (0, n1, .inl g))) (q1 : ¬ sp < 0) (q2 : ¬ dp < 0) (q3 : ¬ z < 0) (q4 : sp.toNatClampNeg + z.toNatClampNeg ≤ n0) (q5 : dp.toNatClampNeg + z.toNatClampNeg ≤ n1) (hD : 1 ≤ d) (hW : (st.map fun v => v.category).sum ≤ 8)
    (kk : AW M false d mc ms Q k n (pc + 3) L st (h.set i1 (.inl (0, n1, .inl (va_cpy f g sp.toNatClampNeg dp.toNatClampNeg z.toNatClampNeg))))) : AW M false d mc ms Q k n pc L (.int z :: .int dp :: .ref i1 :: .int sp :: .ref i0 :: st) h :=
  fun p l e s m args below meth c b D κ N0 H locs ls C X => by
    refine va_copyi C.1 C.2.1 (C.2.2.1.trans X.2.2.2.2.1.1.symm) C.2.2.2.1 (C.2.2.2.2.1 _ hw) (C.2.2.2.2.1 _ kx_cpN) (C.2.2.2.2.1 _ kx_cpS) (C.2.2.2.2.1 _ kx_sys) C.2.2.2.2.2.2.2.2.1 X.2.1 X.D X.2.2.2.1 i0 i1 0 0 (wso_at h0) (wso_at h1) rfl rfl rfl q1 q2 q3 q4 q5 (fun i _ => rfl) hD ?_ hd fun H1 locs1 hP1 hD1 hS1 => ?_
    · have hz : nativeFrameWords "java/lang/System" "arraycopy" 5 ≤ 40 := by decide +kernel
      rw [cat_sum]
      show _ + (_ + 11) ≤ 64 * d
      omega
    · refine kk p l e s m args below meth c b D κ N0 H1 locs1 ls C ⟨fun q => by rw [List.length_set]; exact X.1 q, ?_, fun q => (by cases q), hS1, X.2.2.2.2⟩
      rw [← wso_set]
      exact hP1
theorem aw_obj {ix a : Nat} (hw : Cond.methodLink M.1.cls ix Lib.objectInit ∈ ktbl) (hd : decode M.2.1 pc = .ok (.invokespecial ix, 3)) (hD : 1 ≤ d) (hW : (st.map fun v => v.category).sum ≤ 8) (kk : AW M al d mc ms Q k n (pc + 3) L st h) : AW M al d mc ms Q k n pc L (.ref a :: st) h :=
  fun p l e s m args below meth c b D κ N0 H locs ls C X => by
    refine W.objInit C.1 C.2.1 C.2.2.2.1 (C.2.2.2.2.1 _ hw) (C.2.2.2.2.1 _ kx_obI) (C.2.2.2.2.1 _ kx_obC) rfl (X.2.2.2.2.1.1.trans C.2.2.1.symm) rfl hd hD ?_ (kk p l e s m args below meth c b D κ N0 H locs ls C X)
    rw [cat_sum]
    show 2 * 0 + _ + 12 ≤ 64 * d
    omega
theorem DX.app {M : MI} {s : State} {b : Nat} {D : va_G} {κ : Nat → ClassId} {N0 : Nat} {L : List (Option Value)} {h : List AC} {H H1 : Heap} {locs : List Loc} {ls : Array Slot} (X : DX M true s b D κ N0 L h H locs ls) {c1 : AC} (ha : va_at D kclasses (b + h.length, ec b κ c1) H1) (z : H1.size = H.size + 1) (oq : ∀ q : Nat, q < H.size → H1[q]? = H[q]?) : DX M true s b D κ N0 L (h ++ [c1]) H1 locs ls := by
  refine ⟨fun q => (by cases q), ?_, fun q => (by rw [z, X.2.2.1 rfl]; simp; omega), ⟨Nat.le_trans X.2.2.2.1.1 (by omega), fun q h1 h2 => (oq q (Nat.lt_of_lt_of_le h1 X.2.2.2.1.1)).trans (X.2.2.2.1.2.1 q h1 h2), X.2.2.2.1.2.2⟩, X.2.2.2.2⟩
  rw [wso_app]
  refine va_P.app (X.2.1.kept (fun k x hx => oq x.1 ((X.2.1 k x hx).lt))) (fun k x hx => ?_)
  have hz : k < 1 := (List.getElem?_eq_some_iff.mp hx).1
  rw [show k = 0 by omega] at hx
  cases hx
  exact ha
theorem aw_new {ix ci N : Nat} {C0 : String} {T : u_T} {ty : Nat → FieldType} {fs : List Value} (hc : kclasses[ci]? = some (C0, T, N)) (hin : ∀ w ∈ u_ws C0 T N, w ∈ ktbl) (hty : ∀ k, k < N → parseFieldDescriptor (T k).2.2.1 = some (ty k)) (w1 : Cond.classLink M.1.cls ix C0 ∈ ktbl) (w2 : Cond.instantiable C0 N ∈ ktbl) (w3 : Cond.initialized C0 ∈ ktbl) (hd : decode M.2.1 pc = .ok (.new ix, 3)) (hfs : ∀ b j, j < N → defaultValue (ty j) = vp_V (fs.map (rv b)) j) (hf : k + 1 ≤ mc ∧ n + N ≤ ms)
    (kk : AW M true d mc ms Q (k + 1) (n + N) (pc + 3) L (.ref h.length :: st) (h ++ [.inr (ci, fs)])) : AW M true d mc ms Q k n pc L st h :=
  fun p l e s m args below meth c b D κ N0 H locs ls C X => by
    have hKn := C.2.2.2.2.2.2.2.2.1.1 ci _ hc
    refine W.newcK C.1 C.2.1 C.2.2.2.1 (C.2.2.2.2.1 _ w1) (C.2.2.2.2.1 _ w2) (C.2.2.2.2.1 _ w3) rfl hd hf.1 hf.2 hKn.2.1 (X.2.2.1 rfl) fun H1 kC hkC e1 z1 o1 => ?_
    refine kk p l e s m args below meth c b D κ N0 H1 locs ls C (X.app ⟨_, hc, (u_born ty C.2.2.2.2.1 hin hKn hkC e1 hty).to (hfs b)⟩ (by rw [z1, X.2.2.1 rfl]) (fun q hq => o1 q (by rw [← X.2.2.1 rfl]; exact hq)))
theorem aw_newi {j : Int32} {N : Nat} (hd : decode M.2.1 pc = .ok (.newarray .int, 2)) (hj : ¬ j < 0) (hN : j.toNatClampNeg = N) (hb : N ≤ 1000) (hf : k + 1 ≤ mc ∧ n + N ≤ ms) (kk : AW M true d mc ms Q (k + 1) (n + N) (pc + 2) L (.ref h.length :: st) (h ++ [.inl (0, N, .inl (fun _ => 0))])) : AW M true d mc ms Q k n pc L (.int j :: st) h :=
  fun p l e s m args below meth c b D κ N0 H locs ls C X => by
    refine va_newaK (atype := .int) C.1 C.2.1 (C.2.2.2.2.1 _ kx_ai) rfl hd rfl hj hN (by show N * 4 ≤ _; omega) hf.1 hf.2 (X.2.2.1 rfl) fun H1 cA e1 z1 o1 hAr hNm => ?_
    have hk0 : cA = κ 0 := Option.some.inj (hNm.symm.trans (C.2.2.2.2.2.2.2.2.1.2 0 _ rfl).2)
    subst hk0
    exact kk p l e s m args below meth c b D κ N0 H1 locs ls C (X.app e1 (by rw [z1, X.2.2.1 rfl]) (fun q hq => o1 q (by rw [← X.2.2.1 rfl]; exact hq)))
theorem aw_newz {j : Int32} {N : Nat} (hd : decode M.2.1 pc = .ok (.newarray .boolean, 2)) (hj : ¬ j < 0) (hN : j.toNatClampNeg = N) (hb : N ≤ 1000) (hf : k + 1 ≤ mc ∧ n + N ≤ ms) (kk : AW M true d mc ms Q (k + 1) (n + N) (pc + 2) L (.ref h.length :: st) (h ++ [.inl (1, N, .inl (fun _ => 0))])) : AW M true d mc ms Q k n pc L (.int j :: st) h :=
  fun p l e s m args below meth c b D κ N0 H locs ls C X => by
    refine va_newaK (atype := .boolean) C.1 C.2.1 (C.2.2.2.2.1 _ kx_az) rfl hd rfl hj hN (by show N * 1 ≤ _; omega) hf.1 hf.2 (X.2.2.1 rfl) fun H1 cA e1 z1 o1 hAr hNm => ?_
    have hk0 : cA = κ 1 := Option.some.inj (hNm.symm.trans (C.2.2.2.2.2.2.2.2.1.2 1 _ rfl).2)
    subst hk0
    exact kk p l e s m args below meth c b D κ N0 H1 locs ls C (X.app e1 (by rw [z1, X.2.2.1 rfl]) (fun q hq => o1 q (by rw [← X.2.2.1 rfl]; exact hq)))
theorem aw_newq {ix : Nat} {j : Int32} {N : Nat} (w1 : Cond.classLink M.1.cls ix "EarChart$Row" ∈ ktbl) (hd : decode M.2.1 pc = .ok (.anewarray ix, 3)) (hj : ¬ j < 0) (hN : j.toNatClampNeg = N) (hb : N ≤ 1000) (hf : k + 1 ≤ mc ∧ n + N ≤ ms) (kk : AW M true d mc ms Q (k + 1) (n + N) (pc + 3) L (.ref h.length :: st) (h ++ [.inl (2, N, .inr (.inr (.inr (.inr (fun _ => none)))))])) : AW M true d mc ms Q k n pc L (.int j :: st) h :=
  fun p l e s m args below meth c b D κ N0 H locs ls C X => by
    subst hN
    refine W.anew (C := "EarChart$Row") C.1 C.2.1 C.2.2.2.1 (C.2.2.2.2.1 _ w1) (C.2.2.2.2.1 _ kx_ao) rfl hd rfl hj (by omega) hf.1 hf.2 fun cA kA comp f1 f2 f3 f4 => ?_
    obtain ⟨_, _, _, _, _, hNm⟩ := (C.2.2.2.2.2.2.2.2.1.2 2 _ rfl).2
    have hk0 : cA = κ 2 := Option.some.inj (f1.symm.trans hNm)
    subst hk0
    have := X.2.2.1 rfl
    rw [this]
    refine kk p l e s m args below meth c b D κ N0 _ locs ls C (X.app ?_ (by rw [Array.size_push]) (fun q hq => by rw [Array.getElem?_push, if_neg (Nat.ne_of_lt hq)]))
    show (H.push _)[b + h.length]? = some (vp_cell (κ 2) (j.toNatClampNeg, .inr (.inr (.inr (.inr (fun _ => (none : Option Nat).map (b + ·)))))))
    rw [← this, Array.getElem?_push_size, vp_cell_q, ← arrV_new]
    rfl
abbrev c40 : AC := .inl (0, 40, .inl (fun _ => 0))
abbrev cGr (o : Nat) : AC := .inl (3, 4, .inr (.inr (.inr (.inr (fun i => if i < 4 then some (o + 1 + i) else none)))))
end AWM
end
section
theorem kx_str1 : "[" ++ (FieldType.array .int).toString = "[[I" := by decide +kernel
theorem kx_str3 : "[" ++ FieldType.int.toString = "[I" := by decide +kernel
theorem aw_mna {M : MI} {d mc ms : Nat} {Q : QT} {k n : Nat} {pc : Nat} {L : List (Option Value)} {st : List Value} {h : List AC} {ix : Nat} (w1 : Cond.classLink M.1.cls ix "[[I" ∈ ktbl) (hd : decode M.2.1 pc = .ok (.multianewarray ix 2, 4)) (hf : k + 5 ≤ mc ∧ n + 164 ≤ ms)
    (kk : AW M true d mc ms Q (k + 5) (n + 164) (pc + 4) L (.ref h.length :: st) (h ++ [cGr h.length, c40, c40, c40, c40])) : AW M true d mc ms Q k n pc L (.int 40 :: .int 4 :: st) h :=
  fun p l e s m args below meth c b D κ N0 H locs ls C X => by
    intro T hT Xs
    obtain ⟨vm₁, cA, comp, fA, fC, X', step⟩ := gr_step Xs C.1 C.2.2.2.1 (C.2.2.2.2.1 _ w1) (C.2.2.2.2.1 _ kx_aoa) (C.2.2.2.2.1 _ kx_ai) (g := F0 m pc ls (.int 40 :: .int 4 :: st.map (rv b))) rfl (by rw [C.2.1]; exact hd) rfl hf.1 hf.2
    rw [← kx_str1] at fA
    rw [← kx_str3] at fC
    have hkA : cA = κ 3 := Option.some.inj (fA.symm.trans (C.2.2.2.2.2.2.2.2.1.2 3 _ rfl).2)
    have hkC : comp = κ 0 := Option.some.inj (fC.symm.trans (C.2.2.2.2.2.2.2.2.1.2 0 _ rfl).2)
    subst hkA
    subst hkC
    have hTh : (T.setVm vm₁).heap = H := hT
    obtain ⟨f1, f2, -, -, f5, f6⟩ := gr_all (T.setVm vm₁) (κ 3) (κ 0) 4
    generalize gr_st (T.setVm vm₁) (κ 3) (κ 0) 4 = F at X' step f1 f2 f5 f6
    rw [hTh] at f1 f2 f5 f6
    have hold : ∀ x : Nat, x < H.size → F.heap[x]? = H[x]? := fun x hx => f5 x hx
    have hrow : ∀ j : Nat, j < 4 → F.heap[H.size + 1 + j]? = some (vp_cell (κ 0) (40, .inl (fun _ => 0))) := fun j hj => by
      rw [f6 j hj]
      show some ({ cls := κ 0, slots := Array.replicate 40 (.int 0), vm := .none } : Cell) = _
      rw [arrV_new]
      rfl
    unfold gr_out at f2
    have hsz := X.2.2.1 rfl
    have DX1 : DX M true s b D κ N0 L (h ++ [cGr h.length, c40, c40, c40, c40]) F.heap locs ls := by
      refine ⟨fun q => (by cases q), ?_, fun _ => ?_, ⟨?_, fun x h1 h2 => (hold x (Nat.lt_of_lt_of_le h1 X.2.2.2.1.1)).trans (X.2.2.2.1.2.1 x h1 h2), X.2.2.2.1.2.2⟩, X.2.2.2.2⟩
      · intro i q hq
        obtain ⟨c9, hc9, rfl⟩ := wso_of hq
        by_cases hi : i < h.length
        · rw [List.getElem?_append_left hi] at hc9
          have h2 := X.2.1 _ _ (wso_at (b := b) (κ := κ) hc9)
          exact h2.kept (hold _ h2.lt)
        · rw [List.getElem?_append_right (by omega)] at hc9
          have hlt := (List.getElem?_eq_some_iff.mp hc9).1
          simp only [List.length_cons, List.length_nil] at hlt
          generalize hj : i - h.length = j at hc9 hlt
          have hij : i = h.length + j := by omega
          subst hij
          match j, hlt, hc9 with
          | 0, _, hc9 =>
            cases hc9
            show F.heap[b + (h.length + 0)]? = some (vp_cell (κ 3) (4, .inr (.inr (.inr (.inr (fun q => (if q < 4 then some (h.length + 1 + q) else none).map (b + ·)))))))
            rw [show b + (h.length + 0) = H.size by omega, f2, vp_cell_q, hsz]
            congr 2
            funext q
            by_cases hq4 : q < 4
            · rw [if_pos hq4, if_pos hq4]; exact congrArg Value.ref (show b + h.length + 1 + q = b + (h.length + 1 + q) by omega)
            · rw [if_neg hq4, if_neg hq4]; rfl
          | 1, _, hc9 => cases hc9; show F.heap[b + (h.length + 1)]? = _; rw [show b + (h.length + 1) = H.size + 1 + 0 by omega]; exact hrow 0 (by decide)
          | 2, _, hc9 => cases hc9; show F.heap[b + (h.length + 2)]? = _; rw [show b + (h.length + 2) = H.size + 1 + 1 by omega]; exact hrow 1 (by decide)
          | 3, _, hc9 => cases hc9; show F.heap[b + (h.length + 3)]? = _; rw [show b + (h.length + 3) = H.size + 1 + 2 by omega]; exact hrow 2 (by decide)
          | 4, _, hc9 => cases hc9; show F.heap[b + (h.length + 4)]? = _; rw [show b + (h.length + 4) = H.size + 1 + 3 by omega]; exact hrow 3 (by decide)
          | j + 5, hlt, _ => omega
      · rw [f1, hsz]; simp; omega
      · rw [f1]; have := X.2.2.2.1.1; omega
    obtain ⟨t, a1, b1⟩ := kk p l e s m args below meth c b D κ N0 F.heap locs ls C DX1 F rfl X'
    refine ⟨t, step t ?_, b1⟩
    have e1 : T.heap.size = b + h.length := by rw [hT]; exact hsz
    rw [e1]
    exact a1
end
