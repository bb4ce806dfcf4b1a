theorem dE_heightAbove_0 : decode kE_heightAbove.2.1 0 = .ok (.aload_n 0, 1) := by decide +kernel
theorem dE_heightAbove_1 : decode kE_heightAbove.2.1 1 = .ok (.getfield 45, 3) := by decide +kernel
theorem dE_heightAbove_4 : decode kE_heightAbove.2.1 4 = .ok (.iconst 1, 1) := by decide +kernel
theorem dE_heightAbove_5 : decode kE_heightAbove.2.1 5 = .ok (.if_icmp .lt 11, 3) := by decide +kernel
theorem dE_heightAbove_8 : decode kE_heightAbove.2.1 8 = .ok (.aload_n 2, 1) := by decide +kernel
theorem dE_heightAbove_9 : decode kE_heightAbove.2.1 9 = .ok (.iload_n 3, 1) := by decide +kernel
theorem dE_heightAbove_10 : decode kE_heightAbove.2.1 10 = .ok (.invokevirtual 154, 3) := by decide +kernel
theorem dE_heightAbove_13 : decode kE_heightAbove.2.1 13 = .ok (.ifCond .ne 7, 3) := by decide +kernel
theorem dE_heightAbove_16 : decode kE_heightAbove.2.1 16 = .ok (.iconst (-1), 1) := by decide +kernel
theorem dE_heightAbove_17 : decode kE_heightAbove.2.1 17 = .ok (.goto 16, 3) := by decide +kernel
theorem dE_heightAbove_20 : decode kE_heightAbove.2.1 20 = .ok (.aload_n 2, 1) := by decide +kernel
theorem dE_heightAbove_21 : decode kE_heightAbove.2.1 21 = .ok (.getfield 75, 3) := by decide +kernel
theorem dE_heightAbove_24 : decode kE_heightAbove.2.1 24 = .ok (.iload_n 3, 1) := by decide +kernel
theorem dE_heightAbove_25 : decode kE_heightAbove.2.1 25 = .ok (.iaload, 1) := by decide +kernel
theorem dE_heightAbove_26 : decode kE_heightAbove.2.1 26 = .ok (.iload_n 1, 1) := by decide +kernel
theorem dE_heightAbove_27 : decode kE_heightAbove.2.1 27 = .ok (.isub, 1) := by decide +kernel
theorem dE_heightAbove_28 : decode kE_heightAbove.2.1 28 = .ok (.aload_n 0, 1) := by decide +kernel
theorem dE_heightAbove_29 : decode kE_heightAbove.2.1 29 = .ok (.getfield 45, 3) := by decide +kernel
theorem dE_heightAbove_32 : decode kE_heightAbove.2.1 32 = .ok (.idiv, 1) := by decide +kernel
theorem dE_heightAbove_33 : decode kE_heightAbove.2.1 33 = .ok (.ireturn, 1) := by decide +kernel
theorem dE_readLaying_0 : decode kE_readLaying.2.1 0 = .ok (.aload_n 0, 1) := by decide +kernel
theorem dE_readLaying_1 : decode kE_readLaying.2.1 1 = .ok (.getfield 45, 3) := by decide +kernel
theorem dE_readLaying_4 : decode kE_readLaying.2.1 4 = .ok (.iconst 1, 1) := by decide +kernel
theorem dE_readLaying_5 : decode kE_readLaying.2.1 5 = .ok (.if_icmp .lt 13, 3) := by decide +kernel
theorem dE_readLaying_8 : decode kE_readLaying.2.1 8 = .ok (.iload_n 1, 1) := by decide +kernel
theorem dE_readLaying_9 : decode kE_readLaying.2.1 9 = .ok (.iconst 0, 1) := by decide +kernel
theorem dE_readLaying_10 : decode kE_readLaying.2.1 10 = .ok (.bipush 39, 2) := by decide +kernel
theorem dE_readLaying_12 : decode kE_readLaying.2.1 12 = .ok (.invokestatic 82, 3) := by decide +kernel
theorem dE_readLaying_15 : decode kE_readLaying.2.1 15 = .ok (.ifCond .ne 5, 3) := by decide +kernel
theorem dE_readLaying_18 : decode kE_readLaying.2.1 18 = .ok (.iconst 0, 1) := by decide +kernel
theorem dE_readLaying_19 : decode kE_readLaying.2.1 19 = .ok (.ireturn, 1) := by decide +kernel
theorem dE_readLaying_20 : decode kE_readLaying.2.1 20 = .ok (.aload_n 0, 1) := by decide +kernel
theorem dE_readLaying_21 : decode kE_readLaying.2.1 21 = .ok (.invokevirtual 134, 3) := by decide +kernel
theorem dE_readLaying_24 : decode kE_readLaying.2.1 24 = .ok (.istore_n 2, 1) := by decide +kernel
theorem dE_readLaying_25 : decode kE_readLaying.2.1 25 = .ok (.iconst 0, 1) := by decide +kernel
theorem dE_readLaying_26 : decode kE_readLaying.2.1 26 = .ok (.istore_n 3, 1) := by decide +kernel
theorem dE_readLaying_27 : decode kE_readLaying.2.1 27 = .ok (.iload_n 3, 1) := by decide +kernel
theorem dE_readLaying_28 : decode kE_readLaying.2.1 28 = .ok (.iconst 4, 1) := by decide +kernel
theorem dE_readLaying_29 : decode kE_readLaying.2.1 29 = .ok (.if_icmp .ge 48, 3) := by decide +kernel
theorem dE_readLaying_32 : decode kE_readLaying.2.1 32 = .ok (.aload_n 0, 1) := by decide +kernel
theorem dE_readLaying_33 : decode kE_readLaying.2.1 33 = .ok (.getfield 33, 3) := by decide +kernel
theorem dE_readLaying_36 : decode kE_readLaying.2.1 36 = .ok (.getfield 200, 3) := by decide +kernel
theorem dE_readLaying_39 : decode kE_readLaying.2.1 39 = .ok (.iload_n 3, 1) := by decide +kernel
theorem dE_readLaying_40 : decode kE_readLaying.2.1 40 = .ok (.aload_n 0, 1) := by decide +kernel
theorem dE_readLaying_41 : decode kE_readLaying.2.1 41 = .ok (.iload_n 2, 1) := by decide +kernel
theorem dE_readLaying_42 : decode kE_readLaying.2.1 42 = .ok (.aload_n 0, 1) := by decide +kernel
theorem dE_readLaying_43 : decode kE_readLaying.2.1 43 = .ok (.getfield 11, 3) := by decide +kernel
theorem dE_readLaying_46 : decode kE_readLaying.2.1 46 = .ok (.iload_n 3, 1) := by decide +kernel
theorem dE_readLaying_47 : decode kE_readLaying.2.1 47 = .ok (.aaload, 1) := by decide +kernel
theorem dE_readLaying_48 : decode kE_readLaying.2.1 48 = .ok (.iload_n 1, 1) := by decide +kernel
theorem dE_readLaying_49 : decode kE_readLaying.2.1 49 = .ok (.invokevirtual 141, 3) := by decide +kernel
theorem dE_readLaying_52 : decode kE_readLaying.2.1 52 = .ok (.iastore, 1) := by decide +kernel
theorem dE_readLaying_53 : decode kE_readLaying.2.1 53 = .ok (.aload_n 0, 1) := by decide +kernel
theorem dE_readLaying_54 : decode kE_readLaying.2.1 54 = .ok (.getfield 33, 3) := by decide +kernel
theorem dE_readLaying_57 : decode kE_readLaying.2.1 57 = .ok (.getfield 203, 3) := by decide +kernel
theorem dE_readLaying_60 : decode kE_readLaying.2.1 60 = .ok (.iload_n 3, 1) := by decide +kernel
theorem dE_readLaying_61 : decode kE_readLaying.2.1 61 = .ok (.aload_n 0, 1) := by decide +kernel
theorem dE_readLaying_62 : decode kE_readLaying.2.1 62 = .ok (.getfield 11, 3) := by decide +kernel
theorem dE_readLaying_65 : decode kE_readLaying.2.1 65 = .ok (.iload_n 3, 1) := by decide +kernel
theorem dE_readLaying_66 : decode kE_readLaying.2.1 66 = .ok (.aaload, 1) := by decide +kernel
theorem dE_readLaying_67 : decode kE_readLaying.2.1 67 = .ok (.getfield 145, 3) := by decide +kernel
theorem dE_readLaying_70 : decode kE_readLaying.2.1 70 = .ok (.iastore, 1) := by decide +kernel
theorem dE_readLaying_71 : decode kE_readLaying.2.1 71 = .ok (.iinc 3 1, 3) := by decide +kernel
theorem dE_readLaying_74 : decode kE_readLaying.2.1 74 = .ok (.goto (-47), 3) := by decide +kernel
theorem dE_readLaying_77 : decode kE_readLaying.2.1 77 = .ok (.aload_n 0, 1) := by decide +kernel
theorem dE_readLaying_78 : decode kE_readLaying.2.1 78 = .ok (.getfield 33, 3) := by decide +kernel
theorem dE_readLaying_81 : decode kE_readLaying.2.1 81 = .ok (.aload_n 0, 1) := by decide +kernel
theorem dE_readLaying_82 : decode kE_readLaying.2.1 82 = .ok (.getfield 48, 3) := by decide +kernel
theorem dE_readLaying_85 : decode kE_readLaying.2.1 85 = .ok (.aload_n 0, 1) := by decide +kernel
theorem dE_readLaying_86 : decode kE_readLaying.2.1 86 = .ok (.getfield 51, 3) := by decide +kernel
theorem dE_readLaying_89 : decode kE_readLaying.2.1 89 = .ok (.invokevirtual 206, 3) := by decide +kernel
theorem dE_readLaying_92 : decode kE_readLaying.2.1 92 = .ok (.iconst 1, 1) := by decide +kernel
theorem dE_readLaying_93 : decode kE_readLaying.2.1 93 = .ok (.ireturn, 1) := by decide +kernel
theorem dE_soundsAbove_0 : decode kE_soundsAbove.2.1 0 = .ok (.aload_n 0, 1) := by decide +kernel
theorem dE_soundsAbove_1 : decode kE_soundsAbove.2.1 1 = .ok (.getfield 45, 3) := by decide +kernel
theorem dE_soundsAbove_4 : decode kE_soundsAbove.2.1 4 = .ok (.aload_n 0, 1) := by decide +kernel
theorem dE_soundsAbove_5 : decode kE_soundsAbove.2.1 5 = .ok (.getfield 33, 3) := by decide +kernel
theorem dE_soundsAbove_8 : decode kE_soundsAbove.2.1 8 = .ok (.getfield 200, 3) := by decide +kernel
theorem dE_soundsAbove_11 : decode kE_soundsAbove.2.1 11 = .ok (.iload_n 1, 1) := by decide +kernel
theorem dE_soundsAbove_12 : decode kE_soundsAbove.2.1 12 = .ok (.iaload, 1) := by decide +kernel
theorem dE_soundsAbove_13 : decode kE_soundsAbove.2.1 13 = .ok (.imul, 1) := by decide +kernel
theorem dE_soundsAbove_14 : decode kE_soundsAbove.2.1 14 = .ok (.aload_n 0, 1) := by decide +kernel
theorem dE_soundsAbove_15 : decode kE_soundsAbove.2.1 15 = .ok (.getfield 11, 3) := by decide +kernel
theorem dE_soundsAbove_18 : decode kE_soundsAbove.2.1 18 = .ok (.iload_n 1, 1) := by decide +kernel
theorem dE_soundsAbove_19 : decode kE_soundsAbove.2.1 19 = .ok (.aaload, 1) := by decide +kernel
theorem dE_soundsAbove_20 : decode kE_soundsAbove.2.1 20 = .ok (.getfield 86, 3) := by decide +kernel
theorem dE_soundsAbove_23 : decode kE_soundsAbove.2.1 23 = .ok (.isub, 1) := by decide +kernel
theorem dE_soundsAbove_24 : decode kE_soundsAbove.2.1 24 = .ok (.istore_n 3, 1) := by decide +kernel
theorem dE_soundsAbove_25 : decode kE_soundsAbove.2.1 25 = .ok (.aload_n 0, 1) := by decide +kernel
theorem dE_soundsAbove_26 : decode kE_soundsAbove.2.1 26 = .ok (.getfield 45, 3) := by decide +kernel
theorem dE_soundsAbove_29 : decode kE_soundsAbove.2.1 29 = .ok (.aload_n 0, 1) := by decide +kernel
theorem dE_soundsAbove_30 : decode kE_soundsAbove.2.1 30 = .ok (.getfield 33, 3) := by decide +kernel
theorem dE_soundsAbove_33 : decode kE_soundsAbove.2.1 33 = .ok (.getfield 200, 3) := by decide +kernel
theorem dE_soundsAbove_36 : decode kE_soundsAbove.2.1 36 = .ok (.iload_n 2, 1) := by decide +kernel
theorem dE_soundsAbove_37 : decode kE_soundsAbove.2.1 37 = .ok (.iaload, 1) := by decide +kernel
theorem dE_soundsAbove_38 : decode kE_soundsAbove.2.1 38 = .ok (.imul, 1) := by decide +kernel
theorem dE_soundsAbove_39 : decode kE_soundsAbove.2.1 39 = .ok (.aload_n 0, 1) := by decide +kernel
theorem dE_soundsAbove_40 : decode kE_soundsAbove.2.1 40 = .ok (.getfield 45, 3) := by decide +kernel
theorem dE_soundsAbove_43 : decode kE_soundsAbove.2.1 43 = .ok (.iadd, 1) := by decide +kernel
theorem dE_soundsAbove_44 : decode kE_soundsAbove.2.1 44 = .ok (.iconst 1, 1) := by decide +kernel
theorem dE_soundsAbove_45 : decode kE_soundsAbove.2.1 45 = .ok (.isub, 1) := by decide +kernel
theorem dE_soundsAbove_46 : decode kE_soundsAbove.2.1 46 = .ok (.aload_n 0, 1) := by decide +kernel
theorem dE_soundsAbove_47 : decode kE_soundsAbove.2.1 47 = .ok (.getfield 11, 3) := by decide +kernel
theorem dE_soundsAbove_50 : decode kE_soundsAbove.2.1 50 = .ok (.iload_n 2, 1) := by decide +kernel
theorem dE_soundsAbove_51 : decode kE_soundsAbove.2.1 51 = .ok (.aaload, 1) := by decide +kernel
theorem dE_soundsAbove_52 : decode kE_soundsAbove.2.1 52 = .ok (.getfield 86, 3) := by decide +kernel
theorem dE_soundsAbove_55 : decode kE_soundsAbove.2.1 55 = .ok (.iadd, 1) := by decide +kernel
theorem dE_soundsAbove_56 : decode kE_soundsAbove.2.1 56 = .ok (.istore 4, 2) := by decide +kernel
theorem dE_soundsAbove_58 : decode kE_soundsAbove.2.1 58 = .ok (.iload_n 3, 1) := by decide +kernel
theorem dE_soundsAbove_59 : decode kE_soundsAbove.2.1 59 = .ok (.iload 4, 2) := by decide +kernel
theorem dE_soundsAbove_61 : decode kE_soundsAbove.2.1 61 = .ok (.if_icmp .le 7, 3) := by decide +kernel
theorem dE_soundsAbove_64 : decode kE_soundsAbove.2.1 64 = .ok (.iconst 1, 1) := by decide +kernel
theorem dE_soundsAbove_65 : decode kE_soundsAbove.2.1 65 = .ok (.goto 4, 3) := by decide +kernel
theorem dE_soundsAbove_68 : decode kE_soundsAbove.2.1 68 = .ok (.iconst 0, 1) := by decide +kernel
theorem dE_soundsAbove_69 : decode kE_soundsAbove.2.1 69 = .ok (.ireturn, 1) := by decide +kernel
theorem dE_markSought_0 : decode kE_markSought.2.1 0 = .ok (.iconst 0, 1) := by decide +kernel
theorem dE_markSought_1 : decode kE_markSought.2.1 1 = .ok (.istore_n 3, 1) := by decide +kernel
theorem dE_markSought_2 : decode kE_markSought.2.1 2 = .ok (.iload_n 3, 1) := by decide +kernel
theorem dE_markSought_3 : decode kE_markSought.2.1 3 = .ok (.bipush 40, 2) := by decide +kernel
theorem dE_markSought_5 : decode kE_markSought.2.1 5 = .ok (.if_icmp .ge 41, 3) := by decide +kernel
theorem dE_markSought_8 : decode kE_markSought.2.1 8 = .ok (.aload_n 0, 1) := by decide +kernel
theorem dE_markSought_9 : decode kE_markSought.2.1 9 = .ok (.getfield 37, 3) := by decide +kernel
theorem dE_markSought_12 : decode kE_markSought.2.1 12 = .ok (.iload_n 3, 1) := by decide +kernel
theorem dE_markSought_13 : decode kE_markSought.2.1 13 = .ok (.iload_n 2, 1) := by decide +kernel
theorem dE_markSought_14 : decode kE_markSought.2.1 14 = .ok (.iconst 2, 1) := by decide +kernel
theorem dE_markSought_15 : decode kE_markSought.2.1 15 = .ok (.if_icmp .ne 23, 3) := by decide +kernel
theorem dE_markSought_18 : decode kE_markSought.2.1 18 = .ok (.aload_n 1, 1) := by decide +kernel
theorem dE_markSought_19 : decode kE_markSought.2.1 19 = .ok (.iload_n 3, 1) := by decide +kernel
theorem dE_markSought_20 : decode kE_markSought.2.1 20 = .ok (.invokevirtual 72, 3) := by decide +kernel
theorem dE_markSought_23 : decode kE_markSought.2.1 23 = .ok (.ifCond .eq 15, 3) := by decide +kernel
theorem dE_markSought_26 : decode kE_markSought.2.1 26 = .ok (.aload_n 1, 1) := by decide +kernel
theorem dE_markSought_27 : decode kE_markSought.2.1 27 = .ok (.iload_n 3, 1) := by decide +kernel
theorem dE_markSought_28 : decode kE_markSought.2.1 28 = .ok (.invokevirtual 154, 3) := by decide +kernel
theorem dE_markSought_31 : decode kE_markSought.2.1 31 = .ok (.ifCond .ne 7, 3) := by decide +kernel
theorem dE_markSought_34 : decode kE_markSought.2.1 34 = .ok (.iconst 1, 1) := by decide +kernel
theorem dE_markSought_35 : decode kE_markSought.2.1 35 = .ok (.goto 4, 3) := by decide +kernel
theorem dE_markSought_38 : decode kE_markSought.2.1 38 = .ok (.iconst 0, 1) := by decide +kernel
theorem dE_markSought_39 : decode kE_markSought.2.1 39 = .ok (.bastore, 1) := by decide +kernel
theorem dE_markSought_40 : decode kE_markSought.2.1 40 = .ok (.iinc 3 1, 3) := by decide +kernel
theorem dE_markSought_43 : decode kE_markSought.2.1 43 = .ok (.goto (-41), 3) := by decide +kernel
theorem dE_markSought_46 : decode kE_markSought.2.1 46 = .ok (.iload_n 2, 1) := by decide +kernel
theorem dE_markSought_47 : decode kE_markSought.2.1 47 = .ok (.ifCond .ne 11, 3) := by decide +kernel
theorem dE_markSought_50 : decode kE_markSought.2.1 50 = .ok (.aload_n 0, 1) := by decide +kernel
theorem dE_markSought_51 : decode kE_markSought.2.1 51 = .ok (.aload_n 1, 1) := by decide +kernel
theorem dE_markSought_52 : decode kE_markSought.2.1 52 = .ok (.invokevirtual 210, 3) := by decide +kernel
theorem dE_markSought_55 : decode kE_markSought.2.1 55 = .ok (.goto 13, 3) := by decide +kernel
theorem dE_markSought_58 : decode kE_markSought.2.1 58 = .ok (.iload_n 2, 1) := by decide +kernel
theorem dE_markSought_59 : decode kE_markSought.2.1 59 = .ok (.iconst 1, 1) := by decide +kernel
theorem dE_markSought_60 : decode kE_markSought.2.1 60 = .ok (.if_icmp .ne 8, 3) := by decide +kernel
theorem dE_markSought_63 : decode kE_markSought.2.1 63 = .ok (.aload_n 0, 1) := by decide +kernel
theorem dE_markSought_64 : decode kE_markSought.2.1 64 = .ok (.aload_n 1, 1) := by decide +kernel
theorem dE_markSought_65 : decode kE_markSought.2.1 65 = .ok (.invokevirtual 214, 3) := by decide +kernel
theorem dE_markSought_68 : decode kE_markSought.2.1 68 = .ok (.return_, 1) := by decide +kernel
theorem dE_markTurns_0 : decode kE_markTurns.2.1 0 = .ok (.aload_n 0, 1) := by decide +kernel
theorem dE_markTurns_1 : decode kE_markTurns.2.1 1 = .ok (.getfield 19, 3) := by decide +kernel
theorem dE_markTurns_4 : decode kE_markTurns.2.1 4 = .ok (.aload_n 1, 1) := by decide +kernel
theorem dE_markTurns_5 : decode kE_markTurns.2.1 5 = .ok (.aload_n 0, 1) := by decide +kernel
theorem dE_markTurns_6 : decode kE_markTurns.2.1 6 = .ok (.getfield 41, 3) := by decide +kernel
theorem dE_markTurns_9 : decode kE_markTurns.2.1 9 = .ok (.invokevirtual 180, 3) := by decide +kernel
theorem dE_markTurns_12 : decode kE_markTurns.2.1 12 = .ok (.iconst 0, 1) := by decide +kernel
theorem dE_markTurns_13 : decode kE_markTurns.2.1 13 = .ok (.istore_n 2, 1) := by decide +kernel
theorem dE_markTurns_14 : decode kE_markTurns.2.1 14 = .ok (.iload_n 2, 1) := by decide +kernel
theorem dE_markTurns_15 : decode kE_markTurns.2.1 15 = .ok (.aload_n 0, 1) := by decide +kernel
theorem dE_markTurns_16 : decode kE_markTurns.2.1 16 = .ok (.getfield 19, 3) := by decide +kernel
theorem dE_markTurns_19 : decode kE_markTurns.2.1 19 = .ok (.getfield 113, 3) := by decide +kernel
theorem dE_markTurns_22 : decode kE_markTurns.2.1 22 = .ok (.if_icmp .ge 24, 3) := by decide +kernel
theorem dE_markTurns_25 : decode kE_markTurns.2.1 25 = .ok (.aload_n 0, 1) := by decide +kernel
theorem dE_markTurns_26 : decode kE_markTurns.2.1 26 = .ok (.getfield 37, 3) := by decide +kernel
theorem dE_markTurns_29 : decode kE_markTurns.2.1 29 = .ok (.aload_n 0, 1) := by decide +kernel
theorem dE_markTurns_30 : decode kE_markTurns.2.1 30 = .ok (.getfield 19, 3) := by decide +kernel
theorem dE_markTurns_33 : decode kE_markTurns.2.1 33 = .ok (.getfield 116, 3) := by decide +kernel
theorem dE_markTurns_36 : decode kE_markTurns.2.1 36 = .ok (.iload_n 2, 1) := by decide +kernel
theorem dE_markTurns_37 : decode kE_markTurns.2.1 37 = .ok (.iaload, 1) := by decide +kernel
theorem dE_markTurns_38 : decode kE_markTurns.2.1 38 = .ok (.iconst 1, 1) := by decide +kernel
theorem dE_markTurns_39 : decode kE_markTurns.2.1 39 = .ok (.bastore, 1) := by decide +kernel
theorem dE_markTurns_40 : decode kE_markTurns.2.1 40 = .ok (.iinc 2 1, 3) := by decide +kernel
theorem dE_markTurns_43 : decode kE_markTurns.2.1 43 = .ok (.goto (-29), 3) := by decide +kernel
theorem dE_markTurns_46 : decode kE_markTurns.2.1 46 = .ok (.return_, 1) := by decide +kernel
theorem dE_markCrossings_0 : decode kE_markCrossings.2.1 0 = .ok (.iconst 0, 1) := by decide +kernel
theorem dE_markCrossings_1 : decode kE_markCrossings.2.1 1 = .ok (.istore_n 2, 1) := by decide +kernel
theorem dE_markCrossings_2 : decode kE_markCrossings.2.1 2 = .ok (.iload_n 2, 1) := by decide +kernel
theorem dE_markCrossings_3 : decode kE_markCrossings.2.1 3 = .ok (.iconst 4, 1) := by decide +kernel
theorem dE_markCrossings_4 : decode kE_markCrossings.2.1 4 = .ok (.if_icmp .ge 68, 3) := by decide +kernel
theorem dE_markCrossings_7 : decode kE_markCrossings.2.1 7 = .ok (.iload_n 2, 1) := by decide +kernel
theorem dE_markCrossings_8 : decode kE_markCrossings.2.1 8 = .ok (.aload_n 0, 1) := by decide +kernel
theorem dE_markCrossings_9 : decode kE_markCrossings.2.1 9 = .ok (.getfield 54, 3) := by decide +kernel
theorem dE_markCrossings_12 : decode kE_markCrossings.2.1 12 = .ok (.if_icmp .ne 6, 3) := by decide +kernel
theorem dE_markCrossings_15 : decode kE_markCrossings.2.1 15 = .ok (.goto 51, 3) := by decide +kernel
theorem dE_markCrossings_18 : decode kE_markCrossings.2.1 18 = .ok (.aload_n 0, 1) := by decide +kernel
theorem dE_markCrossings_19 : decode kE_markCrossings.2.1 19 = .ok (.getfield 26, 3) := by decide +kernel
theorem dE_markCrossings_22 : decode kE_markCrossings.2.1 22 = .ok (.aload_n 1, 1) := by decide +kernel
theorem dE_markCrossings_23 : decode kE_markCrossings.2.1 23 = .ok (.aload_n 0, 1) := by decide +kernel
theorem dE_markCrossings_24 : decode kE_markCrossings.2.1 24 = .ok (.getfield 11, 3) := by decide +kernel
theorem dE_markCrossings_27 : decode kE_markCrossings.2.1 27 = .ok (.iload_n 2, 1) := by decide +kernel
theorem dE_markCrossings_28 : decode kE_markCrossings.2.1 28 = .ok (.aaload, 1) := by decide +kernel
theorem dE_markCrossings_29 : decode kE_markCrossings.2.1 29 = .ok (.invokevirtual 183, 3) := by decide +kernel
theorem dE_markCrossings_32 : decode kE_markCrossings.2.1 32 = .ok (.iconst 0, 1) := by decide +kernel
theorem dE_markCrossings_33 : decode kE_markCrossings.2.1 33 = .ok (.istore_n 3, 1) := by decide +kernel
theorem dE_markCrossings_34 : decode kE_markCrossings.2.1 34 = .ok (.iload_n 3, 1) := by decide +kernel
theorem dE_markCrossings_35 : decode kE_markCrossings.2.1 35 = .ok (.aload_n 0, 1) := by decide +kernel
theorem dE_markCrossings_36 : decode kE_markCrossings.2.1 36 = .ok (.getfield 26, 3) := by decide +kernel
theorem dE_markCrossings_39 : decode kE_markCrossings.2.1 39 = .ok (.getfield 130, 3) := by decide +kernel
theorem dE_markCrossings_42 : decode kE_markCrossings.2.1 42 = .ok (.if_icmp .ge 24, 3) := by decide +kernel
theorem dE_markCrossings_45 : decode kE_markCrossings.2.1 45 = .ok (.aload_n 0, 1) := by decide +kernel
theorem dE_markCrossings_46 : decode kE_markCrossings.2.1 46 = .ok (.getfield 37, 3) := by decide +kernel
theorem dE_markCrossings_49 : decode kE_markCrossings.2.1 49 = .ok (.aload_n 0, 1) := by decide +kernel
theorem dE_markCrossings_50 : decode kE_markCrossings.2.1 50 = .ok (.getfield 26, 3) := by decide +kernel
theorem dE_markCrossings_53 : decode kE_markCrossings.2.1 53 = .ok (.getfield 131, 3) := by decide +kernel
theorem dE_markCrossings_56 : decode kE_markCrossings.2.1 56 = .ok (.iload_n 3, 1) := by decide +kernel
theorem dE_markCrossings_57 : decode kE_markCrossings.2.1 57 = .ok (.iaload, 1) := by decide +kernel
theorem dE_markCrossings_58 : decode kE_markCrossings.2.1 58 = .ok (.iconst 1, 1) := by decide +kernel
theorem dE_markCrossings_59 : decode kE_markCrossings.2.1 59 = .ok (.bastore, 1) := by decide +kernel
theorem dE_markCrossings_60 : decode kE_markCrossings.2.1 60 = .ok (.iinc 3 1, 3) := by decide +kernel
theorem dE_markCrossings_63 : decode kE_markCrossings.2.1 63 = .ok (.goto (-29), 3) := by decide +kernel
theorem dE_markCrossings_66 : decode kE_markCrossings.2.1 66 = .ok (.iinc 2 1, 3) := by decide +kernel
theorem dE_markCrossings_69 : decode kE_markCrossings.2.1 69 = .ok (.goto (-67), 3) := by decide +kernel
theorem dE_markCrossings_72 : decode kE_markCrossings.2.1 72 = .ok (.return_, 1) := by decide +kernel
theorem dE_markBehind_0 : decode kE_markBehind.2.1 0 = .ok (.iload_n 1, 1) := by decide +kernel
theorem dE_markBehind_1 : decode kE_markBehind.2.1 1 = .ok (.iconst 1, 1) := by decide +kernel
theorem dE_markBehind_2 : decode kE_markBehind.2.1 2 = .ok (.iadd, 1) := by decide +kernel
theorem dE_markBehind_3 : decode kE_markBehind.2.1 3 = .ok (.istore_n 2, 1) := by decide +kernel
theorem dE_markBehind_4 : decode kE_markBehind.2.1 4 = .ok (.iload_n 2, 1) := by decide +kernel
theorem dE_markBehind_5 : decode kE_markBehind.2.1 5 = .ok (.bipush 40, 2) := by decide +kernel
theorem dE_markBehind_7 : decode kE_markBehind.2.1 7 = .ok (.if_icmp .ge 20, 3) := by decide +kernel
theorem dE_markBehind_10 : decode kE_markBehind.2.1 10 = .ok (.aload_n 0, 1) := by decide +kernel
theorem dE_markBehind_11 : decode kE_markBehind.2.1 11 = .ok (.getfield 37, 3) := by decide +kernel
theorem dE_markBehind_14 : decode kE_markBehind.2.1 14 = .ok (.iload_n 2, 1) := by decide +kernel
theorem dE_markBehind_15 : decode kE_markBehind.2.1 15 = .ok (.baload, 1) := by decide +kernel
theorem dE_markBehind_16 : decode kE_markBehind.2.1 16 = .ok (.ifCond .eq 5, 3) := by decide +kernel
theorem dE_markBehind_19 : decode kE_markBehind.2.1 19 = .ok (.iload_n 2, 1) := by decide +kernel
theorem dE_markBehind_20 : decode kE_markBehind.2.1 20 = .ok (.ireturn, 1) := by decide +kernel
theorem dE_markBehind_21 : decode kE_markBehind.2.1 21 = .ok (.iinc 2 1, 3) := by decide +kernel
theorem dE_markBehind_24 : decode kE_markBehind.2.1 24 = .ok (.goto (-20), 3) := by decide +kernel
theorem dE_markBehind_27 : decode kE_markBehind.2.1 27 = .ok (.iconst (-1), 1) := by decide +kernel
theorem dE_markBehind_28 : decode kE_markBehind.2.1 28 = .ok (.ireturn, 1) := by decide +kernel
theorem dE_markAhead_0 : decode kE_markAhead.2.1 0 = .ok (.iload_n 1, 1) := by decide +kernel
theorem dE_markAhead_1 : decode kE_markAhead.2.1 1 = .ok (.iconst 1, 1) := by decide +kernel
theorem dE_markAhead_2 : decode kE_markAhead.2.1 2 = .ok (.isub, 1) := by decide +kernel
theorem dE_markAhead_3 : decode kE_markAhead.2.1 3 = .ok (.istore_n 2, 1) := by decide +kernel
theorem dE_markAhead_4 : decode kE_markAhead.2.1 4 = .ok (.iload_n 2, 1) := by decide +kernel
theorem dE_markAhead_5 : decode kE_markAhead.2.1 5 = .ok (.ifCond .lt 20, 3) := by decide +kernel
theorem dE_markAhead_8 : decode kE_markAhead.2.1 8 = .ok (.aload_n 0, 1) := by decide +kernel
theorem dE_markAhead_9 : decode kE_markAhead.2.1 9 = .ok (.getfield 37, 3) := by decide +kernel
theorem dE_markAhead_12 : decode kE_markAhead.2.1 12 = .ok (.iload_n 2, 1) := by decide +kernel
theorem dE_markAhead_13 : decode kE_markAhead.2.1 13 = .ok (.baload, 1) := by decide +kernel
theorem dE_markAhead_14 : decode kE_markAhead.2.1 14 = .ok (.ifCond .eq 5, 3) := by decide +kernel
theorem dE_markAhead_17 : decode kE_markAhead.2.1 17 = .ok (.iload_n 2, 1) := by decide +kernel
theorem dE_markAhead_18 : decode kE_markAhead.2.1 18 = .ok (.ireturn, 1) := by decide +kernel
theorem dE_markAhead_19 : decode kE_markAhead.2.1 19 = .ok (.iinc 2 (-1), 3) := by decide +kernel
theorem dE_markAhead_22 : decode kE_markAhead.2.1 22 = .ok (.goto (-18), 3) := by decide +kernel
theorem dE_markAhead_25 : decode kE_markAhead.2.1 25 = .ok (.iconst (-1), 1) := by decide +kernel
theorem dE_markAhead_26 : decode kE_markAhead.2.1 26 = .ok (.ireturn, 1) := by decide +kernel
theorem dL_init_0 : decode kL_init.2.1 0 = .ok (.aload_n 0, 1) := by decide +kernel
theorem dL_init_1 : decode kL_init.2.1 1 = .ok (.invokespecial 3, 3) := by decide +kernel
theorem dL_init_4 : decode kL_init.2.1 4 = .ok (.aload_n 0, 1) := by decide +kernel
theorem dL_init_5 : decode kL_init.2.1 5 = .ok (.iconst 4, 1) := by decide +kernel
theorem dL_init_6 : decode kL_init.2.1 6 = .ok (.newarray .int, 2) := by decide +kernel
theorem dL_init_8 : decode kL_init.2.1 8 = .ok (.putfield 9, 3) := by decide +kernel
theorem dL_init_11 : decode kL_init.2.1 11 = .ok (.aload_n 0, 1) := by decide +kernel
theorem dL_init_12 : decode kL_init.2.1 12 = .ok (.iconst 4, 1) := by decide +kernel
theorem dL_init_13 : decode kL_init.2.1 13 = .ok (.newarray .int, 2) := by decide +kernel
theorem dL_init_15 : decode kL_init.2.1 15 = .ok (.putfield 15, 3) := by decide +kernel
theorem dL_init_18 : decode kL_init.2.1 18 = .ok (.aload_n 0, 1) := by decide +kernel
theorem dL_init_19 : decode kL_init.2.1 19 = .ok (.iconst 4, 1) := by decide +kernel
theorem dL_init_20 : decode kL_init.2.1 20 = .ok (.newarray .int, 2) := by decide +kernel
theorem dL_init_22 : decode kL_init.2.1 22 = .ok (.putfield 18, 3) := by decide +kernel
theorem dL_init_25 : decode kL_init.2.1 25 = .ok (.aload_n 0, 1) := by decide +kernel
theorem dL_init_26 : decode kL_init.2.1 26 = .ok (.iconst 4, 1) := by decide +kernel
theorem dL_init_27 : decode kL_init.2.1 27 = .ok (.newarray .int, 2) := by decide +kernel
theorem dL_init_29 : decode kL_init.2.1 29 = .ok (.putfield 21, 3) := by decide +kernel
theorem dL_init_32 : decode kL_init.2.1 32 = .ok (.aload_n 0, 1) := by decide +kernel
theorem dL_init_33 : decode kL_init.2.1 33 = .ok (.iconst 0, 1) := by decide +kernel
theorem dL_init_34 : decode kL_init.2.1 34 = .ok (.putfield 24, 3) := by decide +kernel
theorem dL_init_37 : decode kL_init.2.1 37 = .ok (.aload_n 0, 1) := by decide +kernel
theorem dL_init_38 : decode kL_init.2.1 38 = .ok (.iconst 0, 1) := by decide +kernel
theorem dL_init_39 : decode kL_init.2.1 39 = .ok (.putfield 28, 3) := by decide +kernel
theorem dL_init_42 : decode kL_init.2.1 42 = .ok (.aload_n 0, 1) := by decide +kernel
theorem dL_init_43 : decode kL_init.2.1 43 = .ok (.iconst 0, 1) := by decide +kernel
theorem dL_init_44 : decode kL_init.2.1 44 = .ok (.putfield 31, 3) := by decide +kernel
theorem dL_init_47 : decode kL_init.2.1 47 = .ok (.return_, 1) := by decide +kernel
theorem dL_find_0 : decode kL_find.2.1 0 = .ok (.aload_n 0, 1) := by decide +kernel
theorem dL_find_1 : decode kL_find.2.1 1 = .ok (.iload_n 1, 1) := by decide +kernel
theorem dL_find_2 : decode kL_find.2.1 2 = .ok (.putfield 24, 3) := by decide +kernel
theorem dL_find_5 : decode kL_find.2.1 5 = .ok (.aload_n 0, 1) := by decide +kernel
theorem dL_find_6 : decode kL_find.2.1 6 = .ok (.iload_n 2, 1) := by decide +kernel
theorem dL_find_7 : decode kL_find.2.1 7 = .ok (.putfield 28, 3) := by decide +kernel
theorem dL_find_10 : decode kL_find.2.1 10 = .ok (.aload_n 0, 1) := by decide +kernel
theorem dL_find_11 : decode kL_find.2.1 11 = .ok (.sipush 4001, 3) := by decide +kernel
theorem dL_find_14 : decode kL_find.2.1 14 = .ok (.putfield 31, 3) := by decide +kernel
theorem dL_find_17 : decode kL_find.2.1 17 = .ok (.aload_n 0, 1) := by decide +kernel
theorem dL_find_18 : decode kL_find.2.1 18 = .ok (.iconst 0, 1) := by decide +kernel
theorem dL_find_19 : decode kL_find.2.1 19 = .ok (.iconst 0, 1) := by decide +kernel
theorem dL_find_20 : decode kL_find.2.1 20 = .ok (.invokevirtual 34, 3) := by decide +kernel
theorem dL_find_23 : decode kL_find.2.1 23 = .ok (.return_, 1) := by decide +kernel
theorem dL_tryFrom_0 : decode kL_tryFrom.2.1 0 = .ok (.iload_n 2, 1) := by decide +kernel
theorem dL_tryFrom_1 : decode kL_tryFrom.2.1 1 = .ok (.aload_n 0, 1) := by decide +kernel
theorem dL_tryFrom_2 : decode kL_tryFrom.2.1 2 = .ok (.getfield 31, 3) := by decide +kernel
theorem dL_tryFrom_5 : decode kL_tryFrom.2.1 5 = .ok (.if_icmp .lt 4, 3) := by decide +kernel
theorem dL_tryFrom_8 : decode kL_tryFrom.2.1 8 = .ok (.return_, 1) := by decide +kernel
theorem dL_tryFrom_9 : decode kL_tryFrom.2.1 9 = .ok (.iload_n 1, 1) := by decide +kernel
theorem dL_tryFrom_10 : decode kL_tryFrom.2.1 10 = .ok (.iconst 4, 1) := by decide +kernel
theorem dL_tryFrom_11 : decode kL_tryFrom.2.1 11 = .ok (.if_icmp .lt 25, 3) := by decide +kernel
theorem dL_tryFrom_14 : decode kL_tryFrom.2.1 14 = .ok (.aload_n 0, 1) := by decide +kernel
theorem dL_tryFrom_15 : decode kL_tryFrom.2.1 15 = .ok (.iload_n 2, 1) := by decide +kernel
theorem dL_tryFrom_16 : decode kL_tryFrom.2.1 16 = .ok (.putfield 31, 3) := by decide +kernel
theorem dL_tryFrom_19 : decode kL_tryFrom.2.1 19 = .ok (.aload_n 0, 1) := by decide +kernel
theorem dL_tryFrom_20 : decode kL_tryFrom.2.1 20 = .ok (.getfield 21, 3) := by decide +kernel
theorem dL_tryFrom_23 : decode kL_tryFrom.2.1 23 = .ok (.iconst 0, 1) := by decide +kernel
theorem dL_tryFrom_24 : decode kL_tryFrom.2.1 24 = .ok (.aload_n 0, 1) := by decide +kernel
theorem dL_tryFrom_25 : decode kL_tryFrom.2.1 25 = .ok (.getfield 18, 3) := by decide +kernel
theorem dL_tryFrom_28 : decode kL_tryFrom.2.1 28 = .ok (.iconst 0, 1) := by decide +kernel
theorem dL_tryFrom_29 : decode kL_tryFrom.2.1 29 = .ok (.iconst 4, 1) := by decide +kernel
theorem dL_tryFrom_30 : decode kL_tryFrom.2.1 30 = .ok (.invokestatic 38, 3) := by decide +kernel
theorem dL_tryFrom_33 : decode kL_tryFrom.2.1 33 = .ok (.goto 29, 3) := by decide +kernel
theorem dL_tryFrom_36 : decode kL_tryFrom.2.1 36 = .ok (.aload_n 0, 1) := by decide +kernel
theorem dL_tryFrom_37 : decode kL_tryFrom.2.1 37 = .ok (.getfield 9, 3) := by decide +kernel
theorem dL_tryFrom_40 : decode kL_tryFrom.2.1 40 = .ok (.iload_n 1, 1) := by decide +kernel
theorem dL_tryFrom_41 : decode kL_tryFrom.2.1 41 = .ok (.iaload, 1) := by decide +kernel
theorem dL_tryFrom_42 : decode kL_tryFrom.2.1 42 = .ok (.iconst (-1), 1) := by decide +kernel
theorem dL_tryFrom_43 : decode kL_tryFrom.2.1 43 = .ok (.if_icmp .ne 13, 3) := by decide +kernel
theorem dL_tryFrom_46 : decode kL_tryFrom.2.1 46 = .ok (.aload_n 0, 1) := by decide +kernel
theorem dL_tryFrom_47 : decode kL_tryFrom.2.1 47 = .ok (.iload_n 1, 1) := by decide +kernel
theorem dL_tryFrom_48 : decode kL_tryFrom.2.1 48 = .ok (.iconst (-1), 1) := by decide +kernel
theorem dL_tryFrom_49 : decode kL_tryFrom.2.1 49 = .ok (.iload_n 2, 1) := by decide +kernel
theorem dL_tryFrom_50 : decode kL_tryFrom.2.1 50 = .ok (.invokevirtual 44, 3) := by decide +kernel
theorem dL_tryFrom_53 : decode kL_tryFrom.2.1 53 = .ok (.goto 9, 3) := by decide +kernel
theorem dL_tryFrom_56 : decode kL_tryFrom.2.1 56 = .ok (.aload_n 0, 1) := by decide +kernel
theorem dL_tryFrom_57 : decode kL_tryFrom.2.1 57 = .ok (.iload_n 1, 1) := by decide +kernel
theorem dL_tryFrom_58 : decode kL_tryFrom.2.1 58 = .ok (.iload_n 2, 1) := by decide +kernel
theorem dL_tryFrom_59 : decode kL_tryFrom.2.1 59 = .ok (.invokevirtual 48, 3) := by decide +kernel
theorem dL_tryFrom_62 : decode kL_tryFrom.2.1 62 = .ok (.return_, 1) := by decide +kernel
theorem dL_tryPlaces_0 : decode kL_tryPlaces.2.1 0 = .ok (.iconst 0, 1) := by decide +kernel
theorem dL_tryPlaces_1 : decode kL_tryPlaces.2.1 1 = .ok (.istore_n 3, 1) := by decide +kernel
theorem dL_tryPlaces_2 : decode kL_tryPlaces.2.1 2 = .ok (.iload_n 3, 1) := by decide +kernel
theorem dL_tryPlaces_3 : decode kL_tryPlaces.2.1 3 = .ok (.iconst 4, 1) := by decide +kernel
theorem dL_tryPlaces_4 : decode kL_tryPlaces.2.1 4 = .ok (.if_icmp .ge 32, 3) := by decide +kernel
theorem dL_tryPlaces_7 : decode kL_tryPlaces.2.1 7 = .ok (.aload_n 0, 1) := by decide +kernel
theorem dL_tryPlaces_8 : decode kL_tryPlaces.2.1 8 = .ok (.iload_n 1, 1) := by decide +kernel
theorem dL_tryPlaces_9 : decode kL_tryPlaces.2.1 9 = .ok (.iload_n 3, 1) := by decide +kernel
theorem dL_tryPlaces_10 : decode kL_tryPlaces.2.1 10 = .ok (.invokevirtual 51, 3) := by decide +kernel
theorem dL_tryPlaces_13 : decode kL_tryPlaces.2.1 13 = .ok (.ifCond .eq 17, 3) := by decide +kernel
theorem dL_tryPlaces_16 : decode kL_tryPlaces.2.1 16 = .ok (.aload_n 0, 1) := by decide +kernel
theorem dL_tryPlaces_17 : decode kL_tryPlaces.2.1 17 = .ok (.iload_n 1, 1) := by decide +kernel
theorem dL_tryPlaces_18 : decode kL_tryPlaces.2.1 18 = .ok (.iload_n 3, 1) := by decide +kernel
theorem dL_tryPlaces_19 : decode kL_tryPlaces.2.1 19 = .ok (.iload_n 2, 1) := by decide +kernel
theorem dL_tryPlaces_20 : decode kL_tryPlaces.2.1 20 = .ok (.iload_n 3, 1) := by decide +kernel
theorem dL_tryPlaces_21 : decode kL_tryPlaces.2.1 21 = .ok (.aload_n 0, 1) := by decide +kernel
theorem dL_tryPlaces_22 : decode kL_tryPlaces.2.1 22 = .ok (.getfield 28, 3) := by decide +kernel
theorem dL_tryPlaces_25 : decode kL_tryPlaces.2.1 25 = .ok (.imul, 1) := by decide +kernel
theorem dL_tryPlaces_26 : decode kL_tryPlaces.2.1 26 = .ok (.iadd, 1) := by decide +kernel
theorem dL_tryPlaces_27 : decode kL_tryPlaces.2.1 27 = .ok (.invokevirtual 44, 3) := by decide +kernel
theorem dL_tryPlaces_30 : decode kL_tryPlaces.2.1 30 = .ok (.iinc 3 1, 3) := by decide +kernel
theorem dL_tryPlaces_33 : decode kL_tryPlaces.2.1 33 = .ok (.goto (-31), 3) := by decide +kernel
theorem dL_tryPlaces_36 : decode kL_tryPlaces.2.1 36 = .ok (.aload_n 0, 1) := by decide +kernel
theorem dL_tryPlaces_37 : decode kL_tryPlaces.2.1 37 = .ok (.iload_n 1, 1) := by decide +kernel
theorem dL_tryPlaces_38 : decode kL_tryPlaces.2.1 38 = .ok (.iconst 4, 1) := by decide +kernel
theorem dL_tryPlaces_39 : decode kL_tryPlaces.2.1 39 = .ok (.iload_n 2, 1) := by decide +kernel
theorem dL_tryPlaces_40 : decode kL_tryPlaces.2.1 40 = .ok (.aload_n 0, 1) := by decide +kernel
theorem dL_tryPlaces_41 : decode kL_tryPlaces.2.1 41 = .ok (.getfield 15, 3) := by decide +kernel
theorem dL_tryPlaces_44 : decode kL_tryPlaces.2.1 44 = .ok (.iload_n 1, 1) := by decide +kernel
theorem dL_tryPlaces_45 : decode kL_tryPlaces.2.1 45 = .ok (.iaload, 1) := by decide +kernel
theorem dL_tryPlaces_46 : decode kL_tryPlaces.2.1 46 = .ok (.iadd, 1) := by decide +kernel
theorem dL_tryPlaces_47 : decode kL_tryPlaces.2.1 47 = .ok (.invokevirtual 44, 3) := by decide +kernel
theorem dL_tryPlaces_50 : decode kL_tryPlaces.2.1 50 = .ok (.return_, 1) := by decide +kernel
theorem dL_tryWith_0 : decode kL_tryWith.2.1 0 = .ok (.aload_n 0, 1) := by decide +kernel
theorem dL_tryWith_1 : decode kL_tryWith.2.1 1 = .ok (.getfield 21, 3) := by decide +kernel
theorem dL_tryWith_4 : decode kL_tryWith.2.1 4 = .ok (.iload_n 1, 1) := by decide +kernel
theorem dL_tryWith_5 : decode kL_tryWith.2.1 5 = .ok (.iload_n 2, 1) := by decide +kernel
theorem dL_tryWith_6 : decode kL_tryWith.2.1 6 = .ok (.iastore, 1) := by decide +kernel
theorem dL_tryWith_7 : decode kL_tryWith.2.1 7 = .ok (.aload_n 0, 1) := by decide +kernel
theorem dL_tryWith_8 : decode kL_tryWith.2.1 8 = .ok (.iload_n 1, 1) := by decide +kernel
theorem dL_tryWith_9 : decode kL_tryWith.2.1 9 = .ok (.iconst 1, 1) := by decide +kernel
theorem dL_tryWith_10 : decode kL_tryWith.2.1 10 = .ok (.iadd, 1) := by decide +kernel
theorem dL_tryWith_11 : decode kL_tryWith.2.1 11 = .ok (.iload_n 3, 1) := by decide +kernel
theorem dL_tryWith_12 : decode kL_tryWith.2.1 12 = .ok (.invokevirtual 34, 3) := by decide +kernel
theorem dL_tryWith_15 : decode kL_tryWith.2.1 15 = .ok (.return_, 1) := by decide +kernel
theorem dL_isFree_0 : decode kL_isFree.2.1 0 = .ok (.iconst 0, 1) := by decide +kernel
theorem dL_isFree_1 : decode kL_isFree.2.1 1 = .ok (.istore_n 3, 1) := by decide +kernel
theorem dL_isFree_2 : decode kL_isFree.2.1 2 = .ok (.iload_n 3, 1) := by decide +kernel
theorem dL_isFree_3 : decode kL_isFree.2.1 3 = .ok (.iload_n 1, 1) := by decide +kernel
theorem dL_isFree_4 : decode kL_isFree.2.1 4 = .ok (.if_icmp .ge 44, 3) := by decide +kernel
theorem dL_isFree_7 : decode kL_isFree.2.1 7 = .ok (.aload_n 0, 1) := by decide +kernel
theorem dL_isFree_8 : decode kL_isFree.2.1 8 = .ok (.getfield 21, 3) := by decide +kernel
theorem dL_isFree_11 : decode kL_isFree.2.1 11 = .ok (.iload_n 3, 1) := by decide +kernel
theorem dL_isFree_12 : decode kL_isFree.2.1 12 = .ok (.iaload, 1) := by decide +kernel
theorem dL_isFree_13 : decode kL_isFree.2.1 13 = .ok (.iload_n 2, 1) := by decide +kernel
theorem dL_isFree_14 : decode kL_isFree.2.1 14 = .ok (.if_icmp .ne 28, 3) := by decide +kernel
theorem dL_isFree_17 : decode kL_isFree.2.1 17 = .ok (.aload_n 0, 1) := by decide +kernel
theorem dL_isFree_18 : decode kL_isFree.2.1 18 = .ok (.getfield 9, 3) := by decide +kernel
theorem dL_isFree_21 : decode kL_isFree.2.1 21 = .ok (.iload_n 1, 1) := by decide +kernel
theorem dL_isFree_22 : decode kL_isFree.2.1 22 = .ok (.iaload, 1) := by decide +kernel
theorem dL_isFree_23 : decode kL_isFree.2.1 23 = .ok (.aload_n 0, 1) := by decide +kernel
theorem dL_isFree_24 : decode kL_isFree.2.1 24 = .ok (.getfield 9, 3) := by decide +kernel
theorem dL_isFree_27 : decode kL_isFree.2.1 27 = .ok (.iload_n 3, 1) := by decide +kernel
theorem dL_isFree_28 : decode kL_isFree.2.1 28 = .ok (.iaload, 1) := by decide +kernel
theorem dL_isFree_29 : decode kL_isFree.2.1 29 = .ok (.isub, 1) := by decide +kernel
theorem dL_isFree_30 : decode kL_isFree.2.1 30 = .ok (.invokestatic 55, 3) := by decide +kernel
theorem dL_isFree_33 : decode kL_isFree.2.1 33 = .ok (.aload_n 0, 1) := by decide +kernel
theorem dL_isFree_34 : decode kL_isFree.2.1 34 = .ok (.getfield 24, 3) := by decide +kernel
theorem dL_isFree_37 : decode kL_isFree.2.1 37 = .ok (.if_icmp .ge 5, 3) := by decide +kernel
theorem dL_isFree_40 : decode kL_isFree.2.1 40 = .ok (.iconst 0, 1) := by decide +kernel
theorem dL_isFree_41 : decode kL_isFree.2.1 41 = .ok (.ireturn, 1) := by decide +kernel
theorem dL_isFree_42 : decode kL_isFree.2.1 42 = .ok (.iinc 3 1, 3) := by decide +kernel
theorem dL_isFree_45 : decode kL_isFree.2.1 45 = .ok (.goto (-43), 3) := by decide +kernel
theorem dL_isFree_48 : decode kL_isFree.2.1 48 = .ok (.iconst 1, 1) := by decide +kernel
theorem dL_isFree_49 : decode kL_isFree.2.1 49 = .ok (.ireturn, 1) := by decide +kernel
theorem dL_isHeard_0 : decode kL_isHeard.2.1 0 = .ok (.aload_n 0, 1) := by decide +kernel
theorem dL_isHeard_1 : decode kL_isHeard.2.1 1 = .ok (.getfield 18, 3) := by decide +kernel
theorem dL_isHeard_4 : decode kL_isHeard.2.1 4 = .ok (.iload_n 1, 1) := by decide +kernel
theorem dL_isHeard_5 : decode kL_isHeard.2.1 5 = .ok (.iaload, 1) := by decide +kernel
theorem dL_isHeard_6 : decode kL_isHeard.2.1 6 = .ok (.iconst (-1), 1) := by decide +kernel
theorem dL_isHeard_7 : decode kL_isHeard.2.1 7 = .ok (.if_icmp .eq 17, 3) := by decide +kernel
theorem dL_isHeard_10 : decode kL_isHeard.2.1 10 = .ok (.aload_n 0, 1) := by decide +kernel
theorem dL_isHeard_11 : decode kL_isHeard.2.1 11 = .ok (.getfield 18, 3) := by decide +kernel
theorem dL_isHeard_14 : decode kL_isHeard.2.1 14 = .ok (.iload_n 1, 1) := by decide +kernel
theorem dL_isHeard_15 : decode kL_isHeard.2.1 15 = .ok (.iaload, 1) := by decide +kernel
theorem dL_isHeard_16 : decode kL_isHeard.2.1 16 = .ok (.iconst 4, 1) := by decide +kernel
theorem dL_isHeard_17 : decode kL_isHeard.2.1 17 = .ok (.if_icmp .eq 7, 3) := by decide +kernel
theorem dL_isHeard_20 : decode kL_isHeard.2.1 20 = .ok (.iconst 1, 1) := by decide +kernel
theorem dL_isHeard_21 : decode kL_isHeard.2.1 21 = .ok (.goto 4, 3) := by decide +kernel
theorem dL_isHeard_24 : decode kL_isHeard.2.1 24 = .ok (.iconst 0, 1) := by decide +kernel
theorem dL_isHeard_25 : decode kL_isHeard.2.1 25 = .ok (.ireturn, 1) := by decide +kernel
theorem dM_init_0 : decode kM_init.2.1 0 = .ok (.aload_n 0, 1) := by decide +kernel
theorem dM_init_1 : decode kM_init.2.1 1 = .ok (.invokespecial 3, 3) := by decide +kernel
theorem dM_init_4 : decode kM_init.2.1 4 = .ok (.aload_n 0, 1) := by decide +kernel
theorem dM_init_5 : decode kM_init.2.1 5 = .ok (.bipush 40, 2) := by decide +kernel
theorem dM_init_7 : decode kM_init.2.1 7 = .ok (.newarray .int, 2) := by decide +kernel
theorem dM_init_9 : decode kM_init.2.1 9 = .ok (.putfield 9, 3) := by decide +kernel
theorem dM_init_12 : decode kM_init.2.1 12 = .ok (.aload_n 0, 1) := by decide +kernel
theorem dM_init_13 : decode kM_init.2.1 13 = .ok (.iconst 0, 1) := by decide +kernel
theorem dM_init_14 : decode kM_init.2.1 14 = .ok (.putfield 15, 3) := by decide +kernel
theorem dM_init_17 : decode kM_init.2.1 17 = .ok (.return_, 1) := by decide +kernel
theorem dM_read_0 : decode kM_read.2.1 0 = .ok (.aload_n 0, 1) := by decide +kernel
theorem dM_read_1 : decode kM_read.2.1 1 = .ok (.iconst 0, 1) := by decide +kernel
theorem dM_read_2 : decode kM_read.2.1 2 = .ok (.putfield 15, 3) := by decide +kernel
theorem dM_read_5 : decode kM_read.2.1 5 = .ok (.iconst 0, 1) := by decide +kernel
theorem dM_read_6 : decode kM_read.2.1 6 = .ok (.istore_n 3, 1) := by decide +kernel
theorem dM_read_7 : decode kM_read.2.1 7 = .ok (.iconst 0, 1) := by decide +kernel
theorem dM_read_8 : decode kM_read.2.1 8 = .ok (.istore 4, 2) := by decide +kernel
theorem dM_read_10 : decode kM_read.2.1 10 = .ok (.iload 4, 2) := by decide +kernel
theorem dM_read_12 : decode kM_read.2.1 12 = .ok (.bipush 40, 2) := by decide +kernel
theorem dM_read_14 : decode kM_read.2.1 14 = .ok (.if_icmp .ge 66, 3) := by decide +kernel
theorem dM_read_17 : decode kM_read.2.1 17 = .ok (.aload_n 1, 1) := by decide +kernel
theorem dM_read_18 : decode kM_read.2.1 18 = .ok (.aload_n 2, 1) := by decide +kernel
theorem dM_read_19 : decode kM_read.2.1 19 = .ok (.iload 4, 2) := by decide +kernel
theorem dM_read_21 : decode kM_read.2.1 21 = .ok (.invokestatic 19, 3) := by decide +kernel
theorem dM_read_24 : decode kM_read.2.1 24 = .ok (.istore 5, 2) := by decide +kernel
theorem dM_read_26 : decode kM_read.2.1 26 = .ok (.iload 5, 2) := by decide +kernel
theorem dM_read_28 : decode kM_read.2.1 28 = .ok (.bipush (-2), 2) := by decide +kernel
theorem dM_read_30 : decode kM_read.2.1 30 = .ok (.if_icmp .ne 8, 3) := by decide +kernel
theorem dM_read_33 : decode kM_read.2.1 33 = .ok (.iconst 0, 1) := by decide +kernel
theorem dM_read_34 : decode kM_read.2.1 34 = .ok (.istore_n 3, 1) := by decide +kernel
theorem dM_read_35 : decode kM_read.2.1 35 = .ok (.goto 39, 3) := by decide +kernel
theorem dM_read_38 : decode kM_read.2.1 38 = .ok (.iload 5, 2) := by decide +kernel
theorem dM_read_40 : decode kM_read.2.1 40 = .ok (.ifCond .eq 34, 3) := by decide +kernel
theorem dM_read_43 : decode kM_read.2.1 43 = .ok (.iload_n 3, 1) := by decide +kernel
theorem dM_read_44 : decode kM_read.2.1 44 = .ok (.iload 5, 2) := by decide +kernel
theorem dM_read_46 : decode kM_read.2.1 46 = .ok (.ineg, 1) := by decide +kernel
theorem dM_read_47 : decode kM_read.2.1 47 = .ok (.if_icmp .ne 24, 3) := by decide +kernel
theorem dM_read_50 : decode kM_read.2.1 50 = .ok (.aload_n 0, 1) := by decide +kernel
theorem dM_read_51 : decode kM_read.2.1 51 = .ok (.getfield 9, 3) := by decide +kernel
theorem dM_read_54 : decode kM_read.2.1 54 = .ok (.aload_n 0, 1) := by decide +kernel
theorem dM_read_55 : decode kM_read.2.1 55 = .ok (.getfield 15, 3) := by decide +kernel
theorem dM_read_58 : decode kM_read.2.1 58 = .ok (.iload 4, 2) := by decide +kernel
theorem dM_read_60 : decode kM_read.2.1 60 = .ok (.iastore, 1) := by decide +kernel
theorem dM_read_61 : decode kM_read.2.1 61 = .ok (.aload_n 0, 1) := by decide +kernel
theorem dM_read_62 : decode kM_read.2.1 62 = .ok (.dup, 1) := by decide +kernel
theorem dM_read_63 : decode kM_read.2.1 63 = .ok (.getfield 15, 3) := by decide +kernel
theorem dM_read_66 : decode kM_read.2.1 66 = .ok (.iconst 1, 1) := by decide +kernel
theorem dM_read_67 : decode kM_read.2.1 67 = .ok (.iadd, 1) := by decide +kernel
theorem dM_read_68 : decode kM_read.2.1 68 = .ok (.putfield 15, 3) := by decide +kernel
theorem dM_read_71 : decode kM_read.2.1 71 = .ok (.iload 5, 2) := by decide +kernel
theorem dM_read_73 : decode kM_read.2.1 73 = .ok (.istore_n 3, 1) := by decide +kernel
theorem dM_read_74 : decode kM_read.2.1 74 = .ok (.iinc 4 1, 3) := by decide +kernel
theorem dM_read_77 : decode kM_read.2.1 77 = .ok (.goto (-67), 3) := by decide +kernel
theorem dM_read_80 : decode kM_read.2.1 80 = .ok (.return_, 1) := by decide +kernel
theorem dR_init_0 : decode kR_init.2.1 0 = .ok (.aload_n 0, 1) := by decide +kernel
theorem dR_init_1 : decode kR_init.2.1 1 = .ok (.invokespecial 3, 3) := by decide +kernel
theorem dR_init_4 : decode kR_init.2.1 4 = .ok (.aload_n 0, 1) := by decide +kernel
theorem dR_init_5 : decode kR_init.2.1 5 = .ok (.bipush 40, 2) := by decide +kernel
theorem dR_init_7 : decode kR_init.2.1 7 = .ok (.newarray .int, 2) := by decide +kernel
theorem dR_init_9 : decode kR_init.2.1 9 = .ok (.putfield 9, 3) := by decide +kernel
theorem dR_init_12 : decode kR_init.2.1 12 = .ok (.aload_n 0, 1) := by decide +kernel
theorem dR_init_13 : decode kR_init.2.1 13 = .ok (.iconst 0, 1) := by decide +kernel
theorem dR_init_14 : decode kR_init.2.1 14 = .ok (.putfield 15, 3) := by decide +kernel
theorem dR_init_17 : decode kR_init.2.1 17 = .ok (.aload_n 0, 1) := by decide +kernel
theorem dR_init_18 : decode kR_init.2.1 18 = .ok (.iconst 0, 1) := by decide +kernel
theorem dR_init_19 : decode kR_init.2.1 19 = .ok (.putfield 19, 3) := by decide +kernel
theorem dR_init_22 : decode kR_init.2.1 22 = .ok (.aload_n 0, 1) := by decide +kernel
theorem dR_init_23 : decode kR_init.2.1 23 = .ok (.bipush 50, 2) := by decide +kernel
theorem dR_init_25 : decode kR_init.2.1 25 = .ok (.putfield 22, 3) := by decide +kernel
theorem dR_init_28 : decode kR_init.2.1 28 = .ok (.return_, 1) := by decide +kernel
theorem dR_hasStep_0 : decode kR_hasStep.2.1 0 = .ok (.iload_n 1, 1) := by decide +kernel
theorem dR_hasStep_1 : decode kR_hasStep.2.1 1 = .ok (.ifCond .lt 15, 3) := by decide +kernel
theorem dR_hasStep_4 : decode kR_hasStep.2.1 4 = .ok (.iload_n 1, 1) := by decide +kernel
theorem dR_hasStep_5 : decode kR_hasStep.2.1 5 = .ok (.aload_n 0, 1) := by decide +kernel
theorem dR_hasStep_6 : decode kR_hasStep.2.1 6 = .ok (.getfield 15, 3) := by decide +kernel
theorem dR_hasStep_9 : decode kR_hasStep.2.1 9 = .ok (.if_icmp .ge 7, 3) := by decide +kernel
theorem dR_hasStep_12 : decode kR_hasStep.2.1 12 = .ok (.iconst 1, 1) := by decide +kernel
theorem dR_hasStep_13 : decode kR_hasStep.2.1 13 = .ok (.goto 4, 3) := by decide +kernel
theorem dR_hasStep_16 : decode kR_hasStep.2.1 16 = .ok (.iconst 0, 1) := by decide +kernel
theorem dR_hasStep_17 : decode kR_hasStep.2.1 17 = .ok (.ireturn, 1) := by decide +kernel
theorem dR_hasValue_0 : decode kR_hasValue.2.1 0 = .ok (.iload_n 1, 1) := by decide +kernel
theorem dR_hasValue_1 : decode kR_hasValue.2.1 1 = .ok (.ifCond .lt 27, 3) := by decide +kernel
theorem dR_hasValue_4 : decode kR_hasValue.2.1 4 = .ok (.iload_n 1, 1) := by decide +kernel
theorem dR_hasValue_5 : decode kR_hasValue.2.1 5 = .ok (.aload_n 0, 1) := by decide +kernel
theorem dR_hasValue_6 : decode kR_hasValue.2.1 6 = .ok (.getfield 15, 3) := by decide +kernel
theorem dR_hasValue_9 : decode kR_hasValue.2.1 9 = .ok (.if_icmp .ge 19, 3) := by decide +kernel
theorem dR_hasValue_12 : decode kR_hasValue.2.1 12 = .ok (.aload_n 0, 1) := by decide +kernel
theorem dR_hasValue_13 : decode kR_hasValue.2.1 13 = .ok (.getfield 9, 3) := by decide +kernel
theorem dR_hasValue_16 : decode kR_hasValue.2.1 16 = .ok (.iload_n 1, 1) := by decide +kernel
theorem dR_hasValue_17 : decode kR_hasValue.2.1 17 = .ok (.iaload, 1) := by decide +kernel
theorem dR_hasValue_18 : decode kR_hasValue.2.1 18 = .ok (.sipush (-5000), 3) := by decide +kernel
theorem dR_hasValue_21 : decode kR_hasValue.2.1 21 = .ok (.if_icmp .eq 7, 3) := by decide +kernel
theorem dR_hasValue_24 : decode kR_hasValue.2.1 24 = .ok (.iconst 1, 1) := by decide +kernel
theorem dR_hasValue_25 : decode kR_hasValue.2.1 25 = .ok (.goto 4, 3) := by decide +kernel
theorem dR_hasValue_28 : decode kR_hasValue.2.1 28 = .ok (.iconst 0, 1) := by decide +kernel
theorem dR_hasValue_29 : decode kR_hasValue.2.1 29 = .ok (.ireturn, 1) := by decide +kernel
theorem dR_hasWay_0 : decode kR_hasWay.2.1 0 = .ok (.aload_n 0, 1) := by decide +kernel
theorem dR_hasWay_1 : decode kR_hasWay.2.1 1 = .ok (.iload_n 1, 1) := by decide +kernel
theorem dR_hasWay_2 : decode kR_hasWay.2.1 2 = .ok (.invokevirtual 25, 3) := by decide +kernel
theorem dR_hasWay_5 : decode kR_hasWay.2.1 5 = .ok (.ifCond .eq 17, 3) := by decide +kernel
theorem dR_hasWay_8 : decode kR_hasWay.2.1 8 = .ok (.aload_n 0, 1) := by decide +kernel
theorem dR_hasWay_9 : decode kR_hasWay.2.1 9 = .ok (.iload_n 1, 1) := by decide +kernel
theorem dR_hasWay_10 : decode kR_hasWay.2.1 10 = .ok (.iconst 1, 1) := by decide +kernel
theorem dR_hasWay_11 : decode kR_hasWay.2.1 11 = .ok (.iadd, 1) := by decide +kernel
theorem dR_hasWay_12 : decode kR_hasWay.2.1 12 = .ok (.invokevirtual 25, 3) := by decide +kernel
theorem dR_hasWay_15 : decode kR_hasWay.2.1 15 = .ok (.ifCond .eq 7, 3) := by decide +kernel
theorem dR_hasWay_18 : decode kR_hasWay.2.1 18 = .ok (.iconst 1, 1) := by decide +kernel
theorem dR_hasWay_19 : decode kR_hasWay.2.1 19 = .ok (.goto 4, 3) := by decide +kernel
theorem dR_hasWay_22 : decode kR_hasWay.2.1 22 = .ok (.iconst 0, 1) := by decide +kernel
theorem dR_hasWay_23 : decode kR_hasWay.2.1 23 = .ok (.ireturn, 1) := by decide +kernel
theorem dR_append_0 : decode kR_append.2.1 0 = .ok (.aload_n 0, 1) := by decide +kernel
theorem dR_append_1 : decode kR_append.2.1 1 = .ok (.getfield 15, 3) := by decide +kernel
theorem dR_append_4 : decode kR_append.2.1 4 = .ok (.bipush 40, 2) := by decide +kernel
theorem dR_append_6 : decode kR_append.2.1 6 = .ok (.if_icmp .lt 5, 3) := by decide +kernel
theorem dR_append_9 : decode kR_append.2.1 9 = .ok (.iconst (-1), 1) := by decide +kernel
theorem dR_append_10 : decode kR_append.2.1 10 = .ok (.ireturn, 1) := by decide +kernel
theorem dR_append_11 : decode kR_append.2.1 11 = .ok (.aload_n 0, 1) := by decide +kernel
theorem dR_append_12 : decode kR_append.2.1 12 = .ok (.getfield 9, 3) := by decide +kernel
theorem dR_append_15 : decode kR_append.2.1 15 = .ok (.aload_n 0, 1) := by decide +kernel
theorem dR_append_16 : decode kR_append.2.1 16 = .ok (.getfield 15, 3) := by decide +kernel
theorem dR_append_19 : decode kR_append.2.1 19 = .ok (.iload_n 1, 1) := by decide +kernel
theorem dR_append_20 : decode kR_append.2.1 20 = .ok (.iastore, 1) := by decide +kernel
theorem dR_append_21 : decode kR_append.2.1 21 = .ok (.aload_n 0, 1) := by decide +kernel
theorem dR_append_22 : decode kR_append.2.1 22 = .ok (.dup, 1) := by decide +kernel
theorem dR_append_23 : decode kR_append.2.1 23 = .ok (.getfield 15, 3) := by decide +kernel
theorem dR_append_26 : decode kR_append.2.1 26 = .ok (.iconst 1, 1) := by decide +kernel
theorem dR_append_27 : decode kR_append.2.1 27 = .ok (.iadd, 1) := by decide +kernel
theorem dR_append_28 : decode kR_append.2.1 28 = .ok (.putfield 15, 3) := by decide +kernel
theorem dR_append_31 : decode kR_append.2.1 31 = .ok (.aload_n 0, 1) := by decide +kernel
theorem dR_append_32 : decode kR_append.2.1 32 = .ok (.getfield 15, 3) := by decide +kernel
theorem dR_append_35 : decode kR_append.2.1 35 = .ok (.ireturn, 1) := by decide +kernel
theorem dR_lowest_0 : decode kR_lowest.2.1 0 = .ok (.sipush 1001, 3) := by decide +kernel
theorem dR_lowest_3 : decode kR_lowest.2.1 3 = .ok (.istore_n 1, 1) := by decide +kernel
theorem dR_lowest_4 : decode kR_lowest.2.1 4 = .ok (.iconst 0, 1) := by decide +kernel
theorem dR_lowest_5 : decode kR_lowest.2.1 5 = .ok (.istore_n 2, 1) := by decide +kernel
theorem dR_lowest_6 : decode kR_lowest.2.1 6 = .ok (.iload_n 2, 1) := by decide +kernel
theorem dR_lowest_7 : decode kR_lowest.2.1 7 = .ok (.aload_n 0, 1) := by decide +kernel
theorem dR_lowest_8 : decode kR_lowest.2.1 8 = .ok (.getfield 15, 3) := by decide +kernel
theorem dR_lowest_11 : decode kR_lowest.2.1 11 = .ok (.if_icmp .ge 32, 3) := by decide +kernel
theorem dR_lowest_14 : decode kR_lowest.2.1 14 = .ok (.aload_n 0, 1) := by decide +kernel
theorem dR_lowest_15 : decode kR_lowest.2.1 15 = .ok (.getfield 9, 3) := by decide +kernel
theorem dR_lowest_18 : decode kR_lowest.2.1 18 = .ok (.iload_n 2, 1) := by decide +kernel
theorem dR_lowest_19 : decode kR_lowest.2.1 19 = .ok (.iaload, 1) := by decide +kernel
theorem dR_lowest_20 : decode kR_lowest.2.1 20 = .ok (.sipush (-5000), 3) := by decide +kernel
theorem dR_lowest_23 : decode kR_lowest.2.1 23 = .ok (.if_icmp .eq 14, 3) := by decide +kernel
theorem dR_lowest_26 : decode kR_lowest.2.1 26 = .ok (.iload_n 1, 1) := by decide +kernel
theorem dR_lowest_27 : decode kR_lowest.2.1 27 = .ok (.aload_n 0, 1) := by decide +kernel
theorem dR_lowest_28 : decode kR_lowest.2.1 28 = .ok (.getfield 9, 3) := by decide +kernel
theorem dR_lowest_31 : decode kR_lowest.2.1 31 = .ok (.iload_n 2, 1) := by decide +kernel
theorem dR_lowest_32 : decode kR_lowest.2.1 32 = .ok (.iaload, 1) := by decide +kernel
theorem dR_lowest_33 : decode kR_lowest.2.1 33 = .ok (.invokestatic 29, 3) := by decide +kernel
theorem dR_lowest_36 : decode kR_lowest.2.1 36 = .ok (.istore_n 1, 1) := by decide +kernel
theorem dR_lowest_37 : decode kR_lowest.2.1 37 = .ok (.iinc 2 1, 3) := by decide +kernel
theorem dR_lowest_40 : decode kR_lowest.2.1 40 = .ok (.goto (-34), 3) := by decide +kernel
theorem dR_lowest_43 : decode kR_lowest.2.1 43 = .ok (.iload_n 1, 1) := by decide +kernel
theorem dR_lowest_44 : decode kR_lowest.2.1 44 = .ok (.ireturn, 1) := by decide +kernel
theorem dR_highest_0 : decode kR_highest.2.1 0 = .ok (.sipush (-1001), 3) := by decide +kernel
theorem dR_highest_3 : decode kR_highest.2.1 3 = .ok (.istore_n 1, 1) := by decide +kernel
theorem dR_highest_4 : decode kR_highest.2.1 4 = .ok (.iconst 0, 1) := by decide +kernel
theorem dR_highest_5 : decode kR_highest.2.1 5 = .ok (.istore_n 2, 1) := by decide +kernel
theorem dR_highest_6 : decode kR_highest.2.1 6 = .ok (.iload_n 2, 1) := by decide +kernel
theorem dR_highest_7 : decode kR_highest.2.1 7 = .ok (.aload_n 0, 1) := by decide +kernel
theorem dR_highest_8 : decode kR_highest.2.1 8 = .ok (.getfield 15, 3) := by decide +kernel
theorem dR_highest_11 : decode kR_highest.2.1 11 = .ok (.if_icmp .ge 32, 3) := by decide +kernel
theorem dR_highest_14 : decode kR_highest.2.1 14 = .ok (.aload_n 0, 1) := by decide +kernel
theorem dR_highest_15 : decode kR_highest.2.1 15 = .ok (.getfield 9, 3) := by decide +kernel
theorem dR_highest_18 : decode kR_highest.2.1 18 = .ok (.iload_n 2, 1) := by decide +kernel
theorem dR_highest_19 : decode kR_highest.2.1 19 = .ok (.iaload, 1) := by decide +kernel
theorem dR_highest_20 : decode kR_highest.2.1 20 = .ok (.sipush (-5000), 3) := by decide +kernel
theorem dR_highest_23 : decode kR_highest.2.1 23 = .ok (.if_icmp .eq 14, 3) := by decide +kernel
theorem dR_highest_26 : decode kR_highest.2.1 26 = .ok (.iload_n 1, 1) := by decide +kernel
theorem dR_highest_27 : decode kR_highest.2.1 27 = .ok (.aload_n 0, 1) := by decide +kernel
theorem dR_highest_28 : decode kR_highest.2.1 28 = .ok (.getfield 9, 3) := by decide +kernel
theorem dR_highest_31 : decode kR_highest.2.1 31 = .ok (.iload_n 2, 1) := by decide +kernel
theorem dR_highest_32 : decode kR_highest.2.1 32 = .ok (.iaload, 1) := by decide +kernel
theorem dR_highest_33 : decode kR_highest.2.1 33 = .ok (.invokestatic 35, 3) := by decide +kernel
theorem dR_highest_36 : decode kR_highest.2.1 36 = .ok (.istore_n 1, 1) := by decide +kernel
theorem dR_highest_37 : decode kR_highest.2.1 37 = .ok (.iinc 2 1, 3) := by decide +kernel
theorem dR_highest_40 : decode kR_highest.2.1 40 = .ok (.goto (-34), 3) := by decide +kernel
theorem dR_highest_43 : decode kR_highest.2.1 43 = .ok (.iload_n 1, 1) := by decide +kernel
theorem dR_highest_44 : decode kR_highest.2.1 44 = .ok (.ireturn, 1) := by decide +kernel
theorem dS_init_0 : decode kS_init.2.1 0 = .ok (.aload_n 0, 1) := by decide +kernel
theorem dS_init_1 : decode kS_init.2.1 1 = .ok (.invokespecial 3, 3) := by decide +kernel
theorem dS_init_4 : decode kS_init.2.1 4 = .ok (.aload_n 0, 1) := by decide +kernel
theorem dS_init_5 : decode kS_init.2.1 5 = .ok (.bipush 40, 2) := by decide +kernel
theorem dS_init_7 : decode kS_init.2.1 7 = .ok (.newarray .int, 2) := by decide +kernel
theorem dS_init_9 : decode kS_init.2.1 9 = .ok (.putfield 9, 3) := by decide +kernel
theorem dS_init_12 : decode kS_init.2.1 12 = .ok (.aload_n 0, 1) := by decide +kernel
theorem dS_init_13 : decode kS_init.2.1 13 = .ok (.bipush 40, 2) := by decide +kernel
theorem dS_init_15 : decode kS_init.2.1 15 = .ok (.newarray .int, 2) := by decide +kernel
theorem dS_init_17 : decode kS_init.2.1 17 = .ok (.putfield 15, 3) := by decide +kernel
theorem dS_init_20 : decode kS_init.2.1 20 = .ok (.aload_n 0, 1) := by decide +kernel
theorem dS_init_21 : decode kS_init.2.1 21 = .ok (.bipush 40, 2) := by decide +kernel
theorem dS_init_23 : decode kS_init.2.1 23 = .ok (.newarray .int, 2) := by decide +kernel
theorem dS_init_25 : decode kS_init.2.1 25 = .ok (.putfield 18, 3) := by decide +kernel
theorem dS_init_28 : decode kS_init.2.1 28 = .ok (.aload_n 0, 1) := by decide +kernel
theorem dS_init_29 : decode kS_init.2.1 29 = .ok (.bipush 40, 2) := by decide +kernel
theorem dS_init_31 : decode kS_init.2.1 31 = .ok (.newarray .int, 2) := by decide +kernel
theorem dS_init_33 : decode kS_init.2.1 33 = .ok (.putfield 21, 3) := by decide +kernel
theorem dS_init_36 : decode kS_init.2.1 36 = .ok (.aload_n 0, 1) := by decide +kernel
theorem dS_init_37 : decode kS_init.2.1 37 = .ok (.iconst 4, 1) := by decide +kernel
theorem dS_init_38 : decode kS_init.2.1 38 = .ok (.bipush 40, 2) := by decide +kernel
theorem dS_init_40 : decode kS_init.2.1 40 = .ok (.multianewarray 24 2, 4) := by decide +kernel
theorem dS_init_44 : decode kS_init.2.1 44 = .ok (.putfield 26, 3) := by decide +kernel
theorem dS_init_47 : decode kS_init.2.1 47 = .ok (.aload_n 0, 1) := by decide +kernel
theorem dS_init_48 : decode kS_init.2.1 48 = .ok (.iconst 0, 1) := by decide +kernel
theorem dS_init_49 : decode kS_init.2.1 49 = .ok (.putfield 29, 3) := by decide +kernel
theorem dS_init_52 : decode kS_init.2.1 52 = .ok (.aload_n 0, 1) := by decide +kernel
theorem dS_init_53 : decode kS_init.2.1 53 = .ok (.iconst 0, 1) := by decide +kernel
theorem dS_init_54 : decode kS_init.2.1 54 = .ok (.putfield 33, 3) := by decide +kernel
theorem dS_init_57 : decode kS_init.2.1 57 = .ok (.aload_n 0, 1) := by decide +kernel
theorem dS_init_58 : decode kS_init.2.1 58 = .ok (.iconst 0, 1) := by decide +kernel
theorem dS_init_59 : decode kS_init.2.1 59 = .ok (.putfield 36, 3) := by decide +kernel
theorem dS_init_62 : decode kS_init.2.1 62 = .ok (.return_, 1) := by decide +kernel
theorem dS_read_0 : decode kS_read.2.1 0 = .ok (.aload_n 0, 1) := by decide +kernel
theorem dS_read_1 : decode kS_read.2.1 1 = .ok (.aload_n 1, 1) := by decide +kernel
theorem dS_read_2 : decode kS_read.2.1 2 = .ok (.iload_n 2, 1) := by decide +kernel
theorem dS_read_3 : decode kS_read.2.1 3 = .ok (.invokevirtual 39, 3) := by decide +kernel
theorem dS_read_6 : decode kS_read.2.1 6 = .ok (.aload_n 0, 1) := by decide +kernel
theorem dS_read_7 : decode kS_read.2.1 7 = .ok (.aload_n 1, 1) := by decide +kernel
theorem dS_read_8 : decode kS_read.2.1 8 = .ok (.iload_n 2, 1) := by decide +kernel
theorem dS_read_9 : decode kS_read.2.1 9 = .ok (.invokevirtual 43, 3) := by decide +kernel
theorem dS_read_12 : decode kS_read.2.1 12 = .ok (.aload_n 0, 1) := by decide +kernel
theorem dS_read_13 : decode kS_read.2.1 13 = .ok (.aload_n 1, 1) := by decide +kernel
theorem dS_read_14 : decode kS_read.2.1 14 = .ok (.invokevirtual 46, 3) := by decide +kernel
theorem dS_read_17 : decode kS_read.2.1 17 = .ok (.return_, 1) := by decide +kernel
theorem dS_weighWays_0 : decode kS_weighWays.2.1 0 = .ok (.bipush 38, 2) := by decide +kernel
theorem dS_weighWays_2 : decode kS_weighWays.2.1 2 = .ok (.istore_n 3, 1) := by decide +kernel
theorem dS_weighWays_3 : decode kS_weighWays.2.1 3 = .ok (.iload_n 3, 1) := by decide +kernel
theorem dS_weighWays_4 : decode kS_weighWays.2.1 4 = .ok (.ifCond .lt 110, 3) := by decide +kernel
theorem dS_weighWays_7 : decode kS_weighWays.2.1 7 = .ok (.aload_n 1, 1) := by decide +kernel
theorem dS_weighWays_8 : decode kS_weighWays.2.1 8 = .ok (.iload_n 3, 1) := by decide +kernel
theorem dS_weighWays_9 : decode kS_weighWays.2.1 9 = .ok (.invokevirtual 50, 3) := by decide +kernel
theorem dS_weighWays_12 : decode kS_weighWays.2.1 12 = .ok (.ifCond .ne 6, 3) := by decide +kernel
theorem dS_weighWays_15 : decode kS_weighWays.2.1 15 = .ok (.goto 93, 3) := by decide +kernel
theorem dS_weighWays_18 : decode kS_weighWays.2.1 18 = .ok (.aload_n 1, 1) := by decide +kernel
theorem dS_weighWays_19 : decode kS_weighWays.2.1 19 = .ok (.getfield 56, 3) := by decide +kernel
theorem dS_weighWays_22 : decode kS_weighWays.2.1 22 = .ok (.iload_n 3, 1) := by decide +kernel
theorem dS_weighWays_23 : decode kS_weighWays.2.1 23 = .ok (.iconst 1, 1) := by decide +kernel
theorem dS_weighWays_24 : decode kS_weighWays.2.1 24 = .ok (.iadd, 1) := by decide +kernel
theorem dS_weighWays_25 : decode kS_weighWays.2.1 25 = .ok (.iaload, 1) := by decide +kernel
theorem dS_weighWays_26 : decode kS_weighWays.2.1 26 = .ok (.aload_n 1, 1) := by decide +kernel
theorem dS_weighWays_27 : decode kS_weighWays.2.1 27 = .ok (.getfield 56, 3) := by decide +kernel
theorem dS_weighWays_30 : decode kS_weighWays.2.1 30 = .ok (.iload_n 3, 1) := by decide +kernel
theorem dS_weighWays_31 : decode kS_weighWays.2.1 31 = .ok (.iaload, 1) := by decide +kernel
theorem dS_weighWays_32 : decode kS_weighWays.2.1 32 = .ok (.isub, 1) := by decide +kernel
theorem dS_weighWays_33 : decode kS_weighWays.2.1 33 = .ok (.istore 4, 2) := by decide +kernel
theorem dS_weighWays_35 : decode kS_weighWays.2.1 35 = .ok (.iconst 1, 1) := by decide +kernel
theorem dS_weighWays_36 : decode kS_weighWays.2.1 36 = .ok (.istore 5, 2) := by decide +kernel
theorem dS_weighWays_38 : decode kS_weighWays.2.1 38 = .ok (.iload 5, 2) := by decide +kernel
theorem dS_weighWays_40 : decode kS_weighWays.2.1 40 = .ok (.iconst 3, 1) := by decide +kernel
theorem dS_weighWays_41 : decode kS_weighWays.2.1 41 = .ok (.if_icmp .gt 67, 3) := by decide +kernel
theorem dS_weighWays_44 : decode kS_weighWays.2.1 44 = .ok (.aload_n 0, 1) := by decide +kernel
theorem dS_weighWays_45 : decode kS_weighWays.2.1 45 = .ok (.getfield 26, 3) := by decide +kernel
theorem dS_weighWays_48 : decode kS_weighWays.2.1 48 = .ok (.iload 5, 2) := by decide +kernel
theorem dS_weighWays_50 : decode kS_weighWays.2.1 50 = .ok (.aaload, 1) := by decide +kernel
theorem dS_weighWays_51 : decode kS_weighWays.2.1 51 = .ok (.iload_n 3, 1) := by decide +kernel
theorem dS_weighWays_52 : decode kS_weighWays.2.1 52 = .ok (.iload 5, 2) := by decide +kernel
theorem dS_weighWays_54 : decode kS_weighWays.2.1 54 = .ok (.iload 4, 2) := by decide +kernel
theorem dS_weighWays_56 : decode kS_weighWays.2.1 56 = .ok (.invokestatic 59, 3) := by decide +kernel
theorem dS_weighWays_59 : decode kS_weighWays.2.1 59 = .ok (.iastore, 1) := by decide +kernel
theorem dS_weighWays_60 : decode kS_weighWays.2.1 60 = .ok (.aload_n 1, 1) := by decide +kernel
theorem dS_weighWays_61 : decode kS_weighWays.2.1 61 = .ok (.iload_n 3, 1) := by decide +kernel
theorem dS_weighWays_62 : decode kS_weighWays.2.1 62 = .ok (.iconst 1, 1) := by decide +kernel
theorem dS_weighWays_63 : decode kS_weighWays.2.1 63 = .ok (.iadd, 1) := by decide +kernel
theorem dS_weighWays_64 : decode kS_weighWays.2.1 64 = .ok (.invokevirtual 50, 3) := by decide +kernel
theorem dS_weighWays_67 : decode kS_weighWays.2.1 67 = .ok (.ifCond .eq 35, 3) := by decide +kernel
theorem dS_weighWays_70 : decode kS_weighWays.2.1 70 = .ok (.aload_n 0, 1) := by decide +kernel
theorem dS_weighWays_71 : decode kS_weighWays.2.1 71 = .ok (.getfield 26, 3) := by decide +kernel
theorem dS_weighWays_74 : decode kS_weighWays.2.1 74 = .ok (.iload 5, 2) := by decide +kernel
theorem dS_weighWays_76 : decode kS_weighWays.2.1 76 = .ok (.aaload, 1) := by decide +kernel
theorem dS_weighWays_77 : decode kS_weighWays.2.1 77 = .ok (.iload_n 3, 1) := by decide +kernel
theorem dS_weighWays_78 : decode kS_weighWays.2.1 78 = .ok (.dup2, 1) := by decide +kernel
theorem dS_weighWays_79 : decode kS_weighWays.2.1 79 = .ok (.iaload, 1) := by decide +kernel
theorem dS_weighWays_80 : decode kS_weighWays.2.1 80 = .ok (.aload_n 0, 1) := by decide +kernel
theorem dS_weighWays_81 : decode kS_weighWays.2.1 81 = .ok (.iload 5, 2) := by decide +kernel
theorem dS_weighWays_83 : decode kS_weighWays.2.1 83 = .ok (.iload_n 3, 1) := by decide +kernel
theorem dS_weighWays_84 : decode kS_weighWays.2.1 84 = .ok (.iconst 1, 1) := by decide +kernel
theorem dS_weighWays_85 : decode kS_weighWays.2.1 85 = .ok (.iadd, 1) := by decide +kernel
theorem dS_weighWays_86 : decode kS_weighWays.2.1 86 = .ok (.aload_n 0, 1) := by decide +kernel
theorem dS_weighWays_87 : decode kS_weighWays.2.1 87 = .ok (.iload 5, 2) := by decide +kernel
theorem dS_weighWays_89 : decode kS_weighWays.2.1 89 = .ok (.iload_n 3, 1) := by decide +kernel
theorem dS_weighWays_90 : decode kS_weighWays.2.1 90 = .ok (.iconst 1, 1) := by decide +kernel
theorem dS_weighWays_91 : decode kS_weighWays.2.1 91 = .ok (.iadd, 1) := by decide +kernel
theorem dS_weighWays_92 : decode kS_weighWays.2.1 92 = .ok (.iload_n 2, 1) := by decide +kernel
theorem dS_weighWays_93 : decode kS_weighWays.2.1 93 = .ok (.invokevirtual 63, 3) := by decide +kernel
theorem dS_weighWays_96 : decode kS_weighWays.2.1 96 = .ok (.iload_n 2, 1) := by decide +kernel
theorem dS_weighWays_97 : decode kS_weighWays.2.1 97 = .ok (.invokevirtual 67, 3) := by decide +kernel
theorem dS_weighWays_100 : decode kS_weighWays.2.1 100 = .ok (.iadd, 1) := by decide +kernel
theorem dS_weighWays_101 : decode kS_weighWays.2.1 101 = .ok (.iastore, 1) := by decide +kernel
theorem dS_weighWays_102 : decode kS_weighWays.2.1 102 = .ok (.iinc 5 1, 3) := by decide +kernel
theorem dS_weighWays_105 : decode kS_weighWays.2.1 105 = .ok (.goto (-67), 3) := by decide +kernel
theorem dS_weighWays_108 : decode kS_weighWays.2.1 108 = .ok (.iinc 3 (-1), 3) := by decide +kernel
theorem dS_weighWays_111 : decode kS_weighWays.2.1 111 = .ok (.goto (-108), 3) := by decide +kernel
theorem dS_weighWays_114 : decode kS_weighWays.2.1 114 = .ok (.return_, 1) := by decide +kernel
theorem dS_costOfWay_0 : decode kS_costOfWay.2.1 0 = .ok (.iload_n 0, 1) := by decide +kernel
theorem dS_costOfWay_1 : decode kS_costOfWay.2.1 1 = .ok (.iconst 1, 1) := by decide +kernel
theorem dS_costOfWay_2 : decode kS_costOfWay.2.1 2 = .ok (.if_icmp .ne 10, 3) := by decide +kernel
theorem dS_costOfWay_5 : decode kS_costOfWay.2.1 5 = .ok (.iconst 0, 1) := by decide +kernel
theorem dS_costOfWay_6 : decode kS_costOfWay.2.1 6 = .ok (.iload_n 1, 1) := by decide +kernel
theorem dS_costOfWay_7 : decode kS_costOfWay.2.1 7 = .ok (.ineg, 1) := by decide +kernel
theorem dS_costOfWay_8 : decode kS_costOfWay.2.1 8 = .ok (.invokestatic 71, 3) := by decide +kernel
theorem dS_costOfWay_11 : decode kS_costOfWay.2.1 11 = .ok (.ireturn, 1) := by decide +kernel
theorem dS_costOfWay_12 : decode kS_costOfWay.2.1 12 = .ok (.iload_n 0, 1) := by decide +kernel
theorem dS_costOfWay_13 : decode kS_costOfWay.2.1 13 = .ok (.iconst 2, 1) := by decide +kernel
theorem dS_costOfWay_14 : decode kS_costOfWay.2.1 14 = .ok (.if_icmp .ne 11, 3) := by decide +kernel
theorem dS_costOfWay_17 : decode kS_costOfWay.2.1 17 = .ok (.iconst 0, 1) := by decide +kernel
theorem dS_costOfWay_18 : decode kS_costOfWay.2.1 18 = .ok (.iload_n 1, 1) := by decide +kernel
theorem dS_costOfWay_19 : decode kS_costOfWay.2.1 19 = .ok (.invokestatic 71, 3) := by decide +kernel
theorem dS_costOfWay_22 : decode kS_costOfWay.2.1 22 = .ok (.goto 7, 3) := by decide +kernel
theorem dS_costOfWay_25 : decode kS_costOfWay.2.1 25 = .ok (.iload_n 1, 1) := by decide +kernel
theorem dS_costOfWay_26 : decode kS_costOfWay.2.1 26 = .ok (.invokestatic 76, 3) := by decide +kernel
theorem dS_costOfWay_29 : decode kS_costOfWay.2.1 29 = .ok (.ireturn, 1) := by decide +kernel
theorem dS_costBehind_0 : decode kS_costBehind.2.1 0 = .ok (.iload_n 3, 1) := by decide +kernel
theorem dS_costBehind_1 : decode kS_costBehind.2.1 1 = .ok (.iload_n 1, 1) := by decide +kernel
theorem dS_costBehind_2 : decode kS_costBehind.2.1 2 = .ok (.if_icmp .ne 14, 3) := by decide +kernel
theorem dS_costBehind_5 : decode kS_costBehind.2.1 5 = .ok (.aload_n 0, 1) := by decide +kernel
theorem dS_costBehind_6 : decode kS_costBehind.2.1 6 = .ok (.getfield 26, 3) := by decide +kernel
theorem dS_costBehind_9 : decode kS_costBehind.2.1 9 = .ok (.iload_n 3, 1) := by decide +kernel
theorem dS_costBehind_10 : decode kS_costBehind.2.1 10 = .ok (.aaload, 1) := by decide +kernel
theorem dS_costBehind_11 : decode kS_costBehind.2.1 11 = .ok (.iload_n 2, 1) := by decide +kernel
theorem dS_costBehind_12 : decode kS_costBehind.2.1 12 = .ok (.iaload, 1) := by decide +kernel
theorem dS_costBehind_13 : decode kS_costBehind.2.1 13 = .ok (.goto 14, 3) := by decide +kernel
theorem dS_costBehind_16 : decode kS_costBehind.2.1 16 = .ok (.aload_n 0, 1) := by decide +kernel
theorem dS_costBehind_17 : decode kS_costBehind.2.1 17 = .ok (.getfield 26, 3) := by decide +kernel
theorem dS_costBehind_20 : decode kS_costBehind.2.1 20 = .ok (.iload_n 3, 1) := by decide +kernel
theorem dS_costBehind_21 : decode kS_costBehind.2.1 21 = .ok (.aaload, 1) := by decide +kernel
theorem dS_costBehind_22 : decode kS_costBehind.2.1 22 = .ok (.iload_n 2, 1) := by decide +kernel
theorem dS_costBehind_23 : decode kS_costBehind.2.1 23 = .ok (.iaload, 1) := by decide +kernel
theorem dS_costBehind_24 : decode kS_costBehind.2.1 24 = .ok (.iload 4, 2) := by decide +kernel
theorem dS_costBehind_26 : decode kS_costBehind.2.1 26 = .ok (.iadd, 1) := by decide +kernel
theorem dS_costBehind_27 : decode kS_costBehind.2.1 27 = .ok (.ireturn, 1) := by decide +kernel
theorem dS_bestKind_0 : decode kS_bestKind.2.1 0 = .ok (.iconst 1, 1) := by decide +kernel
theorem dS_bestKind_1 : decode kS_bestKind.2.1 1 = .ok (.istore 4, 2) := by decide +kernel
theorem dS_bestKind_3 : decode kS_bestKind.2.1 3 = .ok (.iconst 2, 1) := by decide +kernel
theorem dS_bestKind_4 : decode kS_bestKind.2.1 4 = .ok (.istore 5, 2) := by decide +kernel
theorem dS_bestKind_6 : decode kS_bestKind.2.1 6 = .ok (.iload 5, 2) := by decide +kernel
theorem dS_bestKind_8 : decode kS_bestKind.2.1 8 = .ok (.iconst 3, 1) := by decide +kernel
theorem dS_bestKind_9 : decode kS_bestKind.2.1 9 = .ok (.if_icmp .gt 34, 3) := by decide +kernel
theorem dS_bestKind_12 : decode kS_bestKind.2.1 12 = .ok (.aload_n 0, 1) := by decide +kernel
theorem dS_bestKind_13 : decode kS_bestKind.2.1 13 = .ok (.iload_n 1, 1) := by decide +kernel
theorem dS_bestKind_14 : decode kS_bestKind.2.1 14 = .ok (.iload_n 2, 1) := by decide +kernel
theorem dS_bestKind_15 : decode kS_bestKind.2.1 15 = .ok (.iload 5, 2) := by decide +kernel
theorem dS_bestKind_17 : decode kS_bestKind.2.1 17 = .ok (.iload_n 3, 1) := by decide +kernel
theorem dS_bestKind_18 : decode kS_bestKind.2.1 18 = .ok (.invokevirtual 67, 3) := by decide +kernel
theorem dS_bestKind_21 : decode kS_bestKind.2.1 21 = .ok (.aload_n 0, 1) := by decide +kernel
theorem dS_bestKind_22 : decode kS_bestKind.2.1 22 = .ok (.iload_n 1, 1) := by decide +kernel
theorem dS_bestKind_23 : decode kS_bestKind.2.1 23 = .ok (.iload_n 2, 1) := by decide +kernel
theorem dS_bestKind_24 : decode kS_bestKind.2.1 24 = .ok (.iload 4, 2) := by decide +kernel
theorem dS_bestKind_26 : decode kS_bestKind.2.1 26 = .ok (.iload_n 3, 1) := by decide +kernel
theorem dS_bestKind_27 : decode kS_bestKind.2.1 27 = .ok (.invokevirtual 67, 3) := by decide +kernel
theorem dS_bestKind_30 : decode kS_bestKind.2.1 30 = .ok (.if_icmp .ge 7, 3) := by decide +kernel
theorem dS_bestKind_33 : decode kS_bestKind.2.1 33 = .ok (.iload 5, 2) := by decide +kernel
theorem dS_bestKind_35 : decode kS_bestKind.2.1 35 = .ok (.istore 4, 2) := by decide +kernel
theorem dS_bestKind_37 : decode kS_bestKind.2.1 37 = .ok (.iinc 5 1, 3) := by decide +kernel
theorem dS_bestKind_40 : decode kS_bestKind.2.1 40 = .ok (.goto (-34), 3) := by decide +kernel
theorem dS_bestKind_43 : decode kS_bestKind.2.1 43 = .ok (.iload 4, 2) := by decide +kernel
theorem dS_bestKind_45 : decode kS_bestKind.2.1 45 = .ok (.ireturn, 1) := by decide +kernel
theorem dS_chooseKinds_0 : decode kS_chooseKinds.2.1 0 = .ok (.iconst 0, 1) := by decide +kernel
theorem dS_chooseKinds_1 : decode kS_chooseKinds.2.1 1 = .ok (.istore_n 3, 1) := by decide +kernel
theorem dS_chooseKinds_2 : decode kS_chooseKinds.2.1 2 = .ok (.aload_n 0, 1) := by decide +kernel
theorem dS_chooseKinds_3 : decode kS_chooseKinds.2.1 3 = .ok (.iconst 0, 1) := by decide +kernel
theorem dS_chooseKinds_4 : decode kS_chooseKinds.2.1 4 = .ok (.putfield 29, 3) := by decide +kernel
theorem dS_chooseKinds_7 : decode kS_chooseKinds.2.1 7 = .ok (.aload_n 0, 1) := by decide +kernel
theorem dS_chooseKinds_8 : decode kS_chooseKinds.2.1 8 = .ok (.iconst 0, 1) := by decide +kernel
theorem dS_chooseKinds_9 : decode kS_chooseKinds.2.1 9 = .ok (.putfield 36, 3) := by decide +kernel
theorem dS_chooseKinds_12 : decode kS_chooseKinds.2.1 12 = .ok (.iconst 0, 1) := by decide +kernel
theorem dS_chooseKinds_13 : decode kS_chooseKinds.2.1 13 = .ok (.istore 4, 2) := by decide +kernel
theorem dS_chooseKinds_15 : decode kS_chooseKinds.2.1 15 = .ok (.iload 4, 2) := by decide +kernel
theorem dS_chooseKinds_17 : decode kS_chooseKinds.2.1 17 = .ok (.bipush 40, 2) := by decide +kernel
theorem dS_chooseKinds_19 : decode kS_chooseKinds.2.1 19 = .ok (.if_icmp .ge 72, 3) := by decide +kernel
theorem dS_chooseKinds_22 : decode kS_chooseKinds.2.1 22 = .ok (.aload_n 1, 1) := by decide +kernel
theorem dS_chooseKinds_23 : decode kS_chooseKinds.2.1 23 = .ok (.iload 4, 2) := by decide +kernel
theorem dS_chooseKinds_25 : decode kS_chooseKinds.2.1 25 = .ok (.invokevirtual 50, 3) := by decide +kernel
theorem dS_chooseKinds_28 : decode kS_chooseKinds.2.1 28 = .ok (.ifCond .eq 14, 3) := by decide +kernel
theorem dS_chooseKinds_31 : decode kS_chooseKinds.2.1 31 = .ok (.aload_n 0, 1) := by decide +kernel
theorem dS_chooseKinds_32 : decode kS_chooseKinds.2.1 32 = .ok (.iload_n 3, 1) := by decide +kernel
theorem dS_chooseKinds_33 : decode kS_chooseKinds.2.1 33 = .ok (.iload 4, 2) := by decide +kernel
theorem dS_chooseKinds_35 : decode kS_chooseKinds.2.1 35 = .ok (.iload_n 2, 1) := by decide +kernel
theorem dS_chooseKinds_36 : decode kS_chooseKinds.2.1 36 = .ok (.invokevirtual 63, 3) := by decide +kernel
theorem dS_chooseKinds_39 : decode kS_chooseKinds.2.1 39 = .ok (.goto 4, 3) := by decide +kernel
theorem dS_chooseKinds_42 : decode kS_chooseKinds.2.1 42 = .ok (.iconst 0, 1) := by decide +kernel
theorem dS_chooseKinds_43 : decode kS_chooseKinds.2.1 43 = .ok (.istore 5, 2) := by decide +kernel
theorem dS_chooseKinds_45 : decode kS_chooseKinds.2.1 45 = .ok (.iload_n 3, 1) := by decide +kernel
theorem dS_chooseKinds_46 : decode kS_chooseKinds.2.1 46 = .ok (.ifCond .ne 27, 3) := by decide +kernel
theorem dS_chooseKinds_49 : decode kS_chooseKinds.2.1 49 = .ok (.iload 5, 2) := by decide +kernel
theorem dS_chooseKinds_51 : decode kS_chooseKinds.2.1 51 = .ok (.ifCond .eq 22, 3) := by decide +kernel
theorem dS_chooseKinds_54 : decode kS_chooseKinds.2.1 54 = .ok (.aload_n 0, 1) := by decide +kernel
theorem dS_chooseKinds_55 : decode kS_chooseKinds.2.1 55 = .ok (.dup, 1) := by decide +kernel
theorem dS_chooseKinds_56 : decode kS_chooseKinds.2.1 56 = .ok (.getfield 36, 3) := by decide +kernel
theorem dS_chooseKinds_59 : decode kS_chooseKinds.2.1 59 = .ok (.aload_n 0, 1) := by decide +kernel
theorem dS_chooseKinds_60 : decode kS_chooseKinds.2.1 60 = .ok (.iconst 0, 1) := by decide +kernel
theorem dS_chooseKinds_61 : decode kS_chooseKinds.2.1 61 = .ok (.iload 4, 2) := by decide +kernel
theorem dS_chooseKinds_63 : decode kS_chooseKinds.2.1 63 = .ok (.iload 5, 2) := by decide +kernel
theorem dS_chooseKinds_65 : decode kS_chooseKinds.2.1 65 = .ok (.iload_n 2, 1) := by decide +kernel
theorem dS_chooseKinds_66 : decode kS_chooseKinds.2.1 66 = .ok (.invokevirtual 67, 3) := by decide +kernel
theorem dS_chooseKinds_69 : decode kS_chooseKinds.2.1 69 = .ok (.iadd, 1) := by decide +kernel
theorem dS_chooseKinds_70 : decode kS_chooseKinds.2.1 70 = .ok (.putfield 36, 3) := by decide +kernel
theorem dS_chooseKinds_73 : decode kS_chooseKinds.2.1 73 = .ok (.aload_n 0, 1) := by decide +kernel
theorem dS_chooseKinds_74 : decode kS_chooseKinds.2.1 74 = .ok (.iload 4, 2) := by decide +kernel
theorem dS_chooseKinds_76 : decode kS_chooseKinds.2.1 76 = .ok (.iload 5, 2) := by decide +kernel
theorem dS_chooseKinds_78 : decode kS_chooseKinds.2.1 78 = .ok (.iload_n 3, 1) := by decide +kernel
theorem dS_chooseKinds_79 : decode kS_chooseKinds.2.1 79 = .ok (.invokevirtual 80, 3) := by decide +kernel
theorem dS_chooseKinds_82 : decode kS_chooseKinds.2.1 82 = .ok (.iload 5, 2) := by decide +kernel
theorem dS_chooseKinds_84 : decode kS_chooseKinds.2.1 84 = .ok (.istore_n 3, 1) := by decide +kernel
theorem dS_chooseKinds_85 : decode kS_chooseKinds.2.1 85 = .ok (.iinc 4 1, 3) := by decide +kernel
theorem dS_chooseKinds_88 : decode kS_chooseKinds.2.1 88 = .ok (.goto (-73), 3) := by decide +kernel
theorem dS_chooseKinds_91 : decode kS_chooseKinds.2.1 91 = .ok (.return_, 1) := by decide +kernel
theorem dS_noteWay_0 : decode kS_noteWay.2.1 0 = .ok (.aload_n 0, 1) := by decide +kernel
theorem dS_noteWay_1 : decode kS_noteWay.2.1 1 = .ok (.getfield 9, 3) := by decide +kernel
theorem dS_noteWay_4 : decode kS_noteWay.2.1 4 = .ok (.iload_n 1, 1) := by decide +kernel
theorem dS_noteWay_5 : decode kS_noteWay.2.1 5 = .ok (.iload_n 2, 1) := by decide +kernel
theorem dS_noteWay_6 : decode kS_noteWay.2.1 6 = .ok (.iastore, 1) := by decide +kernel
theorem dS_noteWay_7 : decode kS_noteWay.2.1 7 = .ok (.iload_n 2, 1) := by decide +kernel
theorem dS_noteWay_8 : decode kS_noteWay.2.1 8 = .ok (.ifCond .ne 4, 3) := by decide +kernel
theorem dS_noteWay_11 : decode kS_noteWay.2.1 11 = .ok (.return_, 1) := by decide +kernel
theorem dS_noteWay_12 : decode kS_noteWay.2.1 12 = .ok (.iload_n 2, 1) := by decide +kernel
theorem dS_noteWay_13 : decode kS_noteWay.2.1 13 = .ok (.iload_n 3, 1) := by decide +kernel
theorem dS_noteWay_14 : decode kS_noteWay.2.1 14 = .ok (.if_icmp .eq 23, 3) := by decide +kernel
theorem dS_noteWay_17 : decode kS_noteWay.2.1 17 = .ok (.aload_n 0, 1) := by decide +kernel
theorem dS_noteWay_18 : decode kS_noteWay.2.1 18 = .ok (.getfield 15, 3) := by decide +kernel
theorem dS_noteWay_21 : decode kS_noteWay.2.1 21 = .ok (.aload_n 0, 1) := by decide +kernel
theorem dS_noteWay_22 : decode kS_noteWay.2.1 22 = .ok (.getfield 29, 3) := by decide +kernel
theorem dS_noteWay_25 : decode kS_noteWay.2.1 25 = .ok (.iload_n 1, 1) := by decide +kernel
theorem dS_noteWay_26 : decode kS_noteWay.2.1 26 = .ok (.iastore, 1) := by decide +kernel
theorem dS_noteWay_27 : decode kS_noteWay.2.1 27 = .ok (.aload_n 0, 1) := by decide +kernel
theorem dS_noteWay_28 : decode kS_noteWay.2.1 28 = .ok (.dup, 1) := by decide +kernel
theorem dS_noteWay_29 : decode kS_noteWay.2.1 29 = .ok (.getfield 29, 3) := by decide +kernel
theorem dS_noteWay_32 : decode kS_noteWay.2.1 32 = .ok (.iconst 1, 1) := by decide +kernel
theorem dS_noteWay_33 : decode kS_noteWay.2.1 33 = .ok (.iadd, 1) := by decide +kernel
theorem dS_noteWay_34 : decode kS_noteWay.2.1 34 = .ok (.putfield 29, 3) := by decide +kernel
theorem dS_noteWay_37 : decode kS_noteWay.2.1 37 = .ok (.aload_n 0, 1) := by decide +kernel
theorem dS_noteWay_38 : decode kS_noteWay.2.1 38 = .ok (.getfield 18, 3) := by decide +kernel
theorem dS_noteWay_41 : decode kS_noteWay.2.1 41 = .ok (.aload_n 0, 1) := by decide +kernel
theorem dS_noteWay_42 : decode kS_noteWay.2.1 42 = .ok (.getfield 29, 3) := by decide +kernel
theorem dS_noteWay_45 : decode kS_noteWay.2.1 45 = .ok (.iconst 1, 1) := by decide +kernel
theorem dS_noteWay_46 : decode kS_noteWay.2.1 46 = .ok (.isub, 1) := by decide +kernel
theorem dS_noteWay_47 : decode kS_noteWay.2.1 47 = .ok (.iload_n 1, 1) := by decide +kernel
theorem dS_noteWay_48 : decode kS_noteWay.2.1 48 = .ok (.iconst 1, 1) := by decide +kernel
theorem dS_noteWay_49 : decode kS_noteWay.2.1 49 = .ok (.iadd, 1) := by decide +kernel
theorem dS_noteWay_50 : decode kS_noteWay.2.1 50 = .ok (.iastore, 1) := by decide +kernel
theorem dS_noteWay_51 : decode kS_noteWay.2.1 51 = .ok (.return_, 1) := by decide +kernel
theorem dS_findTurns_0 : decode kS_findTurns.2.1 0 = .ok (.aload_n 0, 1) := by decide +kernel
theorem dS_findTurns_1 : decode kS_findTurns.2.1 1 = .ok (.iconst 0, 1) := by decide +kernel
theorem dS_findTurns_2 : decode kS_findTurns.2.1 2 = .ok (.putfield 33, 3) := by decide +kernel
theorem dS_findTurns_5 : decode kS_findTurns.2.1 5 = .ok (.iconst 1, 1) := by decide +kernel
theorem dS_findTurns_6 : decode kS_findTurns.2.1 6 = .ok (.istore_n 2, 1) := by decide +kernel
theorem dS_findTurns_7 : decode kS_findTurns.2.1 7 = .ok (.iload_n 2, 1) := by decide +kernel
theorem dS_findTurns_8 : decode kS_findTurns.2.1 8 = .ok (.aload_n 0, 1) := by decide +kernel
theorem dS_findTurns_9 : decode kS_findTurns.2.1 9 = .ok (.getfield 29, 3) := by decide +kernel
theorem dS_findTurns_12 : decode kS_findTurns.2.1 12 = .ok (.if_icmp .ge 43, 3) := by decide +kernel
theorem dS_findTurns_15 : decode kS_findTurns.2.1 15 = .ok (.aload_n 0, 1) := by decide +kernel
theorem dS_findTurns_16 : decode kS_findTurns.2.1 16 = .ok (.aload_n 1, 1) := by decide +kernel
theorem dS_findTurns_17 : decode kS_findTurns.2.1 17 = .ok (.iload_n 2, 1) := by decide +kernel
theorem dS_findTurns_18 : decode kS_findTurns.2.1 18 = .ok (.invokevirtual 84, 3) := by decide +kernel
theorem dS_findTurns_21 : decode kS_findTurns.2.1 21 = .ok (.ifCond .eq 28, 3) := by decide +kernel
theorem dS_findTurns_24 : decode kS_findTurns.2.1 24 = .ok (.aload_n 0, 1) := by decide +kernel
theorem dS_findTurns_25 : decode kS_findTurns.2.1 25 = .ok (.getfield 21, 3) := by decide +kernel
theorem dS_findTurns_28 : decode kS_findTurns.2.1 28 = .ok (.aload_n 0, 1) := by decide +kernel
theorem dS_findTurns_29 : decode kS_findTurns.2.1 29 = .ok (.getfield 33, 3) := by decide +kernel
theorem dS_findTurns_32 : decode kS_findTurns.2.1 32 = .ok (.aload_n 0, 1) := by decide +kernel
theorem dS_findTurns_33 : decode kS_findTurns.2.1 33 = .ok (.getfield 15, 3) := by decide +kernel
theorem dS_findTurns_36 : decode kS_findTurns.2.1 36 = .ok (.iload_n 2, 1) := by decide +kernel
theorem dS_findTurns_37 : decode kS_findTurns.2.1 37 = .ok (.iaload, 1) := by decide +kernel
theorem dS_findTurns_38 : decode kS_findTurns.2.1 38 = .ok (.iastore, 1) := by decide +kernel
theorem dS_findTurns_39 : decode kS_findTurns.2.1 39 = .ok (.aload_n 0, 1) := by decide +kernel
theorem dS_findTurns_40 : decode kS_findTurns.2.1 40 = .ok (.dup, 1) := by decide +kernel
theorem dS_findTurns_41 : decode kS_findTurns.2.1 41 = .ok (.getfield 33, 3) := by decide +kernel
theorem dS_findTurns_44 : decode kS_findTurns.2.1 44 = .ok (.iconst 1, 1) := by decide +kernel
theorem dS_findTurns_45 : decode kS_findTurns.2.1 45 = .ok (.iadd, 1) := by decide +kernel
theorem dS_findTurns_46 : decode kS_findTurns.2.1 46 = .ok (.putfield 33, 3) := by decide +kernel
theorem dS_findTurns_49 : decode kS_findTurns.2.1 49 = .ok (.iinc 2 1, 3) := by decide +kernel
theorem dS_findTurns_52 : decode kS_findTurns.2.1 52 = .ok (.goto (-45), 3) := by decide +kernel
theorem dS_findTurns_55 : decode kS_findTurns.2.1 55 = .ok (.return_, 1) := by decide +kernel
theorem dS_turnsAtStart_0 : decode kS_turnsAtStart.2.1 0 = .ok (.aload_n 0, 1) := by decide +kernel
theorem dS_turnsAtStart_1 : decode kS_turnsAtStart.2.1 1 = .ok (.getfield 15, 3) := by decide +kernel
theorem dS_turnsAtStart_4 : decode kS_turnsAtStart.2.1 4 = .ok (.iload_n 2, 1) := by decide +kernel
theorem dS_turnsAtStart_5 : decode kS_turnsAtStart.2.1 5 = .ok (.iaload, 1) := by decide +kernel
theorem dS_turnsAtStart_6 : decode kS_turnsAtStart.2.1 6 = .ok (.istore_n 3, 1) := by decide +kernel
theorem dS_turnsAtStart_7 : decode kS_turnsAtStart.2.1 7 = .ok (.aload_n 0, 1) := by decide +kernel
theorem dS_turnsAtStart_8 : decode kS_turnsAtStart.2.1 8 = .ok (.getfield 18, 3) := by decide +kernel
theorem dS_turnsAtStart_11 : decode kS_turnsAtStart.2.1 11 = .ok (.iload_n 2, 1) := by decide +kernel
theorem dS_turnsAtStart_12 : decode kS_turnsAtStart.2.1 12 = .ok (.iconst 1, 1) := by decide +kernel
theorem dS_turnsAtStart_13 : decode kS_turnsAtStart.2.1 13 = .ok (.isub, 1) := by decide +kernel
theorem dS_turnsAtStart_14 : decode kS_turnsAtStart.2.1 14 = .ok (.iaload, 1) := by decide +kernel
theorem dS_turnsAtStart_15 : decode kS_turnsAtStart.2.1 15 = .ok (.iload_n 3, 1) := by decide +kernel
theorem dS_turnsAtStart_16 : decode kS_turnsAtStart.2.1 16 = .ok (.if_icmp .ne 23, 3) := by decide +kernel
theorem dS_turnsAtStart_19 : decode kS_turnsAtStart.2.1 19 = .ok (.aload_n 0, 1) := by decide +kernel
theorem dS_turnsAtStart_20 : decode kS_turnsAtStart.2.1 20 = .ok (.iload_n 2, 1) := by decide +kernel
theorem dS_turnsAtStart_21 : decode kS_turnsAtStart.2.1 21 = .ok (.iconst 1, 1) := by decide +kernel
theorem dS_turnsAtStart_22 : decode kS_turnsAtStart.2.1 22 = .ok (.isub, 1) := by decide +kernel
theorem dS_turnsAtStart_23 : decode kS_turnsAtStart.2.1 23 = .ok (.invokevirtual 88, 3) := by decide +kernel
theorem dS_turnsAtStart_26 : decode kS_turnsAtStart.2.1 26 = .ok (.iconst 3, 1) := by decide +kernel
theorem dS_turnsAtStart_27 : decode kS_turnsAtStart.2.1 27 = .ok (.if_icmp .eq 12, 3) := by decide +kernel
theorem dS_turnsAtStart_30 : decode kS_turnsAtStart.2.1 30 = .ok (.aload_n 0, 1) := by decide +kernel
theorem dS_turnsAtStart_31 : decode kS_turnsAtStart.2.1 31 = .ok (.iload_n 2, 1) := by decide +kernel
theorem dS_turnsAtStart_32 : decode kS_turnsAtStart.2.1 32 = .ok (.invokevirtual 88, 3) := by decide +kernel
theorem dS_turnsAtStart_35 : decode kS_turnsAtStart.2.1 35 = .ok (.iconst 3, 1) := by decide +kernel
theorem dS_turnsAtStart_36 : decode kS_turnsAtStart.2.1 36 = .ok (.if_icmp .ne 5, 3) := by decide +kernel
theorem dS_turnsAtStart_39 : decode kS_turnsAtStart.2.1 39 = .ok (.iconst 0, 1) := by decide +kernel
theorem dS_turnsAtStart_40 : decode kS_turnsAtStart.2.1 40 = .ok (.ireturn, 1) := by decide +kernel
theorem dS_turnsAtStart_41 : decode kS_turnsAtStart.2.1 41 = .ok (.aload_n 1, 1) := by decide +kernel
theorem dS_turnsAtStart_42 : decode kS_turnsAtStart.2.1 42 = .ok (.getfield 56, 3) := by decide +kernel
theorem dS_turnsAtStart_45 : decode kS_turnsAtStart.2.1 45 = .ok (.iload_n 3, 1) := by decide +kernel
theorem dS_turnsAtStart_46 : decode kS_turnsAtStart.2.1 46 = .ok (.iaload, 1) := by decide +kernel
theorem dS_turnsAtStart_47 : decode kS_turnsAtStart.2.1 47 = .ok (.aload_n 1, 1) := by decide +kernel
theorem dS_turnsAtStart_48 : decode kS_turnsAtStart.2.1 48 = .ok (.getfield 56, 3) := by decide +kernel
theorem dS_turnsAtStart_51 : decode kS_turnsAtStart.2.1 51 = .ok (.aload_n 0, 1) := by decide +kernel
theorem dS_turnsAtStart_52 : decode kS_turnsAtStart.2.1 52 = .ok (.getfield 15, 3) := by decide +kernel
theorem dS_turnsAtStart_55 : decode kS_turnsAtStart.2.1 55 = .ok (.iload_n 2, 1) := by decide +kernel
theorem dS_turnsAtStart_56 : decode kS_turnsAtStart.2.1 56 = .ok (.iconst 1, 1) := by decide +kernel
theorem dS_turnsAtStart_57 : decode kS_turnsAtStart.2.1 57 = .ok (.isub, 1) := by decide +kernel
theorem dS_turnsAtStart_58 : decode kS_turnsAtStart.2.1 58 = .ok (.iaload, 1) := by decide +kernel
theorem dS_turnsAtStart_59 : decode kS_turnsAtStart.2.1 59 = .ok (.iaload, 1) := by decide +kernel
theorem dS_turnsAtStart_60 : decode kS_turnsAtStart.2.1 60 = .ok (.isub, 1) := by decide +kernel
theorem dS_turnsAtStart_61 : decode kS_turnsAtStart.2.1 61 = .ok (.invokestatic 76, 3) := by decide +kernel
theorem dS_turnsAtStart_64 : decode kS_turnsAtStart.2.1 64 = .ok (.istore 4, 2) := by decide +kernel
theorem dS_turnsAtStart_66 : decode kS_turnsAtStart.2.1 66 = .ok (.aload_n 1, 1) := by decide +kernel
theorem dS_turnsAtStart_67 : decode kS_turnsAtStart.2.1 67 = .ok (.getfield 56, 3) := by decide +kernel
theorem dS_turnsAtStart_70 : decode kS_turnsAtStart.2.1 70 = .ok (.iload_n 3, 1) := by decide +kernel
theorem dS_turnsAtStart_71 : decode kS_turnsAtStart.2.1 71 = .ok (.iaload, 1) := by decide +kernel
theorem dS_turnsAtStart_72 : decode kS_turnsAtStart.2.1 72 = .ok (.aload_n 1, 1) := by decide +kernel
theorem dS_turnsAtStart_73 : decode kS_turnsAtStart.2.1 73 = .ok (.getfield 56, 3) := by decide +kernel
theorem dS_turnsAtStart_76 : decode kS_turnsAtStart.2.1 76 = .ok (.aload_n 0, 1) := by decide +kernel
theorem dS_turnsAtStart_77 : decode kS_turnsAtStart.2.1 77 = .ok (.getfield 18, 3) := by decide +kernel
theorem dS_turnsAtStart_80 : decode kS_turnsAtStart.2.1 80 = .ok (.iload_n 2, 1) := by decide +kernel
theorem dS_turnsAtStart_81 : decode kS_turnsAtStart.2.1 81 = .ok (.iaload, 1) := by decide +kernel
theorem dS_turnsAtStart_82 : decode kS_turnsAtStart.2.1 82 = .ok (.iaload, 1) := by decide +kernel
theorem dS_turnsAtStart_83 : decode kS_turnsAtStart.2.1 83 = .ok (.isub, 1) := by decide +kernel
theorem dS_turnsAtStart_84 : decode kS_turnsAtStart.2.1 84 = .ok (.invokestatic 76, 3) := by decide +kernel
theorem dS_turnsAtStart_87 : decode kS_turnsAtStart.2.1 87 = .ok (.istore 5, 2) := by decide +kernel
theorem dS_turnsAtStart_89 : decode kS_turnsAtStart.2.1 89 = .ok (.iload 4, 2) := by decide +kernel
theorem dS_turnsAtStart_91 : decode kS_turnsAtStart.2.1 91 = .ok (.iload 5, 2) := by decide +kernel
theorem dS_turnsAtStart_93 : decode kS_turnsAtStart.2.1 93 = .ok (.invokestatic 91, 3) := by decide +kernel
theorem dS_turnsAtStart_96 : decode kS_turnsAtStart.2.1 96 = .ok (.iconst 2, 1) := by decide +kernel
theorem dS_turnsAtStart_97 : decode kS_turnsAtStart.2.1 97 = .ok (.aload_n 1, 1) := by decide +kernel
theorem dS_turnsAtStart_98 : decode kS_turnsAtStart.2.1 98 = .ok (.getfield 94, 3) := by decide +kernel
theorem dS_turnsAtStart_101 : decode kS_turnsAtStart.2.1 101 = .ok (.imul, 1) := by decide +kernel
theorem dS_turnsAtStart_102 : decode kS_turnsAtStart.2.1 102 = .ok (.if_icmp .le 7, 3) := by decide +kernel
theorem dS_turnsAtStart_105 : decode kS_turnsAtStart.2.1 105 = .ok (.iconst 1, 1) := by decide +kernel
theorem dS_turnsAtStart_106 : decode kS_turnsAtStart.2.1 106 = .ok (.goto 4, 3) := by decide +kernel
theorem dS_turnsAtStart_109 : decode kS_turnsAtStart.2.1 109 = .ok (.iconst 0, 1) := by decide +kernel
theorem dS_turnsAtStart_110 : decode kS_turnsAtStart.2.1 110 = .ok (.ireturn, 1) := by decide +kernel
theorem dS_hasSpan_0 : decode kS_hasSpan.2.1 0 = .ok (.iload_n 1, 1) := by decide +kernel
theorem dS_hasSpan_1 : decode kS_hasSpan.2.1 1 = .ok (.ifCond .lt 15, 3) := by decide +kernel
theorem dS_hasSpan_4 : decode kS_hasSpan.2.1 4 = .ok (.iload_n 1, 1) := by decide +kernel
theorem dS_hasSpan_5 : decode kS_hasSpan.2.1 5 = .ok (.aload_n 0, 1) := by decide +kernel
theorem dS_hasSpan_6 : decode kS_hasSpan.2.1 6 = .ok (.getfield 29, 3) := by decide +kernel
theorem dS_hasSpan_9 : decode kS_hasSpan.2.1 9 = .ok (.if_icmp .ge 7, 3) := by decide +kernel
theorem dS_hasSpan_12 : decode kS_hasSpan.2.1 12 = .ok (.iconst 1, 1) := by decide +kernel
theorem dS_hasSpan_13 : decode kS_hasSpan.2.1 13 = .ok (.goto 4, 3) := by decide +kernel
theorem dS_hasSpan_16 : decode kS_hasSpan.2.1 16 = .ok (.iconst 0, 1) := by decide +kernel
theorem dS_hasSpan_17 : decode kS_hasSpan.2.1 17 = .ok (.ireturn, 1) := by decide +kernel
theorem dS_kindOfSpan_0 : decode kS_kindOfSpan.2.1 0 = .ok (.aload_n 0, 1) := by decide +kernel
theorem dS_kindOfSpan_1 : decode kS_kindOfSpan.2.1 1 = .ok (.getfield 9, 3) := by decide +kernel
theorem dS_kindOfSpan_4 : decode kS_kindOfSpan.2.1 4 = .ok (.aload_n 0, 1) := by decide +kernel
theorem dS_kindOfSpan_5 : decode kS_kindOfSpan.2.1 5 = .ok (.getfield 15, 3) := by decide +kernel
theorem dS_kindOfSpan_8 : decode kS_kindOfSpan.2.1 8 = .ok (.iload_n 1, 1) := by decide +kernel
theorem dS_kindOfSpan_9 : decode kS_kindOfSpan.2.1 9 = .ok (.iaload, 1) := by decide +kernel
theorem dS_kindOfSpan_10 : decode kS_kindOfSpan.2.1 10 = .ok (.iaload, 1) := by decide +kernel
theorem dS_kindOfSpan_11 : decode kS_kindOfSpan.2.1 11 = .ok (.ireturn, 1) := by decide +kernel
theorem dS_waysOfSpan_0 : decode kS_waysOfSpan.2.1 0 = .ok (.aload_n 0, 1) := by decide +kernel
theorem dS_waysOfSpan_1 : decode kS_waysOfSpan.2.1 1 = .ok (.getfield 18, 3) := by decide +kernel
theorem dS_waysOfSpan_4 : decode kS_waysOfSpan.2.1 4 = .ok (.iload_n 1, 1) := by decide +kernel
theorem dS_waysOfSpan_5 : decode kS_waysOfSpan.2.1 5 = .ok (.iaload, 1) := by decide +kernel
theorem dS_waysOfSpan_6 : decode kS_waysOfSpan.2.1 6 = .ok (.aload_n 0, 1) := by decide +kernel
theorem dS_waysOfSpan_7 : decode kS_waysOfSpan.2.1 7 = .ok (.getfield 15, 3) := by decide +kernel
theorem dS_waysOfSpan_10 : decode kS_waysOfSpan.2.1 10 = .ok (.iload_n 1, 1) := by decide +kernel
theorem dS_waysOfSpan_11 : decode kS_waysOfSpan.2.1 11 = .ok (.iaload, 1) := by decide +kernel
theorem dS_waysOfSpan_12 : decode kS_waysOfSpan.2.1 12 = .ok (.isub, 1) := by decide +kernel
theorem dS_waysOfSpan_13 : decode kS_waysOfSpan.2.1 13 = .ok (.ireturn, 1) := by decide +kernel
theorem dS_allWays_0 : decode kS_allWays.2.1 0 = .ok (.iconst 0, 1) := by decide +kernel
theorem dS_allWays_1 : decode kS_allWays.2.1 1 = .ok (.istore_n 1, 1) := by decide +kernel
theorem dS_allWays_2 : decode kS_allWays.2.1 2 = .ok (.iconst 0, 1) := by decide +kernel
theorem dS_allWays_3 : decode kS_allWays.2.1 3 = .ok (.istore_n 2, 1) := by decide +kernel
theorem dS_allWays_4 : decode kS_allWays.2.1 4 = .ok (.iload_n 2, 1) := by decide +kernel
theorem dS_allWays_5 : decode kS_allWays.2.1 5 = .ok (.aload_n 0, 1) := by decide +kernel
theorem dS_allWays_6 : decode kS_allWays.2.1 6 = .ok (.getfield 29, 3) := by decide +kernel
theorem dS_allWays_9 : decode kS_allWays.2.1 9 = .ok (.if_icmp .ge 17, 3) := by decide +kernel
theorem dS_allWays_12 : decode kS_allWays.2.1 12 = .ok (.iload_n 1, 1) := by decide +kernel
theorem dS_allWays_13 : decode kS_allWays.2.1 13 = .ok (.aload_n 0, 1) := by decide +kernel
theorem dS_allWays_14 : decode kS_allWays.2.1 14 = .ok (.iload_n 2, 1) := by decide +kernel
theorem dS_allWays_15 : decode kS_allWays.2.1 15 = .ok (.invokevirtual 97, 3) := by decide +kernel
theorem dS_allWays_18 : decode kS_allWays.2.1 18 = .ok (.iadd, 1) := by decide +kernel
theorem dS_allWays_19 : decode kS_allWays.2.1 19 = .ok (.istore_n 1, 1) := by decide +kernel
theorem dS_allWays_20 : decode kS_allWays.2.1 20 = .ok (.iinc 2 1, 3) := by decide +kernel
theorem dS_allWays_23 : decode kS_allWays.2.1 23 = .ok (.goto (-19), 3) := by decide +kernel
theorem dS_allWays_26 : decode kS_allWays.2.1 26 = .ok (.iload_n 1, 1) := by decide +kernel
theorem dS_allWays_27 : decode kS_allWays.2.1 27 = .ok (.ireturn, 1) := by decide +kernel
theorem dS_beatsOfSpan_0 : decode kS_beatsOfSpan.2.1 0 = .ok (.aload_n 0, 1) := by decide +kernel
theorem dS_beatsOfSpan_1 : decode kS_beatsOfSpan.2.1 1 = .ok (.invokevirtual 100, 3) := by decide +kernel
theorem dS_beatsOfSpan_4 : decode kS_beatsOfSpan.2.1 4 = .ok (.istore_n 3, 1) := by decide +kernel
theorem dS_beatsOfSpan_5 : decode kS_beatsOfSpan.2.1 5 = .ok (.iload_n 3, 1) := by decide +kernel
theorem dS_beatsOfSpan_6 : decode kS_beatsOfSpan.2.1 6 = .ok (.iconst 1, 1) := by decide +kernel
theorem dS_beatsOfSpan_7 : decode kS_beatsOfSpan.2.1 7 = .ok (.if_icmp .ge 5, 3) := by decide +kernel
theorem dS_beatsOfSpan_10 : decode kS_beatsOfSpan.2.1 10 = .ok (.iconst (-1), 1) := by decide +kernel
theorem dS_beatsOfSpan_11 : decode kS_beatsOfSpan.2.1 11 = .ok (.ireturn, 1) := by decide +kernel
theorem dS_beatsOfSpan_12 : decode kS_beatsOfSpan.2.1 12 = .ok (.iload_n 2, 1) := by decide +kernel
theorem dS_beatsOfSpan_13 : decode kS_beatsOfSpan.2.1 13 = .ok (.aload_n 0, 1) := by decide +kernel
theorem dS_beatsOfSpan_14 : decode kS_beatsOfSpan.2.1 14 = .ok (.getfield 29, 3) := by decide +kernel
theorem dS_beatsOfSpan_17 : decode kS_beatsOfSpan.2.1 17 = .ok (.isub, 1) := by decide +kernel
theorem dS_beatsOfSpan_18 : decode kS_beatsOfSpan.2.1 18 = .ok (.istore 4, 2) := by decide +kernel
theorem dS_beatsOfSpan_20 : decode kS_beatsOfSpan.2.1 20 = .ok (.iload 4, 2) := by decide +kernel
theorem dS_beatsOfSpan_22 : decode kS_beatsOfSpan.2.1 22 = .ok (.istore 5, 2) := by decide +kernel
theorem dS_beatsOfSpan_24 : decode kS_beatsOfSpan.2.1 24 = .ok (.iconst 0, 1) := by decide +kernel
theorem dS_beatsOfSpan_25 : decode kS_beatsOfSpan.2.1 25 = .ok (.istore 6, 2) := by decide +kernel
theorem dS_beatsOfSpan_27 : decode kS_beatsOfSpan.2.1 27 = .ok (.iload 4, 2) := by decide +kernel
theorem dS_beatsOfSpan_29 : decode kS_beatsOfSpan.2.1 29 = .ok (.aload_n 0, 1) := by decide +kernel
theorem dS_beatsOfSpan_30 : decode kS_beatsOfSpan.2.1 30 = .ok (.iload_n 1, 1) := by decide +kernel
theorem dS_beatsOfSpan_31 : decode kS_beatsOfSpan.2.1 31 = .ok (.invokevirtual 97, 3) := by decide +kernel
theorem dS_beatsOfSpan_34 : decode kS_beatsOfSpan.2.1 34 = .ok (.imul, 1) := by decide +kernel
theorem dS_beatsOfSpan_35 : decode kS_beatsOfSpan.2.1 35 = .ok (.iload_n 3, 1) := by decide +kernel
theorem dS_beatsOfSpan_36 : decode kS_beatsOfSpan.2.1 36 = .ok (.irem, 1) := by decide +kernel
theorem dS_beatsOfSpan_37 : decode kS_beatsOfSpan.2.1 37 = .ok (.istore 7, 2) := by decide +kernel
theorem dS_beatsOfSpan_39 : decode kS_beatsOfSpan.2.1 39 = .ok (.iconst 0, 1) := by decide +kernel
theorem dS_beatsOfSpan_40 : decode kS_beatsOfSpan.2.1 40 = .ok (.istore 8, 2) := by decide +kernel
theorem dS_beatsOfSpan_42 : decode kS_beatsOfSpan.2.1 42 = .ok (.iload 8, 2) := by decide +kernel
theorem dS_beatsOfSpan_44 : decode kS_beatsOfSpan.2.1 44 = .ok (.aload_n 0, 1) := by decide +kernel
theorem dS_beatsOfSpan_45 : decode kS_beatsOfSpan.2.1 45 = .ok (.getfield 29, 3) := by decide +kernel
theorem dS_beatsOfSpan_48 : decode kS_beatsOfSpan.2.1 48 = .ok (.if_icmp .ge 61, 3) := by decide +kernel
theorem dS_beatsOfSpan_51 : decode kS_beatsOfSpan.2.1 51 = .ok (.iload 5, 2) := by decide +kernel
theorem dS_beatsOfSpan_53 : decode kS_beatsOfSpan.2.1 53 = .ok (.iload 4, 2) := by decide +kernel
theorem dS_beatsOfSpan_55 : decode kS_beatsOfSpan.2.1 55 = .ok (.aload_n 0, 1) := by decide +kernel
theorem dS_beatsOfSpan_56 : decode kS_beatsOfSpan.2.1 56 = .ok (.iload 8, 2) := by decide +kernel
theorem dS_beatsOfSpan_58 : decode kS_beatsOfSpan.2.1 58 = .ok (.invokevirtual 97, 3) := by decide +kernel
theorem dS_beatsOfSpan_61 : decode kS_beatsOfSpan.2.1 61 = .ok (.imul, 1) := by decide +kernel
theorem dS_beatsOfSpan_62 : decode kS_beatsOfSpan.2.1 62 = .ok (.iload_n 3, 1) := by decide +kernel
theorem dS_beatsOfSpan_63 : decode kS_beatsOfSpan.2.1 63 = .ok (.idiv, 1) := by decide +kernel
theorem dS_beatsOfSpan_64 : decode kS_beatsOfSpan.2.1 64 = .ok (.isub, 1) := by decide +kernel
theorem dS_beatsOfSpan_65 : decode kS_beatsOfSpan.2.1 65 = .ok (.istore 5, 2) := by decide +kernel
theorem dS_beatsOfSpan_67 : decode kS_beatsOfSpan.2.1 67 = .ok (.iload 4, 2) := by decide +kernel
theorem dS_beatsOfSpan_69 : decode kS_beatsOfSpan.2.1 69 = .ok (.aload_n 0, 1) := by decide +kernel
theorem dS_beatsOfSpan_70 : decode kS_beatsOfSpan.2.1 70 = .ok (.iload 8, 2) := by decide +kernel
theorem dS_beatsOfSpan_72 : decode kS_beatsOfSpan.2.1 72 = .ok (.invokevirtual 97, 3) := by decide +kernel
theorem dS_beatsOfSpan_75 : decode kS_beatsOfSpan.2.1 75 = .ok (.imul, 1) := by decide +kernel
theorem dS_beatsOfSpan_76 : decode kS_beatsOfSpan.2.1 76 = .ok (.iload_n 3, 1) := by decide +kernel
theorem dS_beatsOfSpan_77 : decode kS_beatsOfSpan.2.1 77 = .ok (.irem, 1) := by decide +kernel
theorem dS_beatsOfSpan_78 : decode kS_beatsOfSpan.2.1 78 = .ok (.istore 9, 2) := by decide +kernel
theorem dS_beatsOfSpan_80 : decode kS_beatsOfSpan.2.1 80 = .ok (.iload 9, 2) := by decide +kernel
theorem dS_beatsOfSpan_82 : decode kS_beatsOfSpan.2.1 82 = .ok (.iload 7, 2) := by decide +kernel
theorem dS_beatsOfSpan_84 : decode kS_beatsOfSpan.2.1 84 = .ok (.if_icmp .gt 16, 3) := by decide +kernel
theorem dS_beatsOfSpan_87 : decode kS_beatsOfSpan.2.1 87 = .ok (.iload 9, 2) := by decide +kernel
theorem dS_beatsOfSpan_89 : decode kS_beatsOfSpan.2.1 89 = .ok (.iload 7, 2) := by decide +kernel
theorem dS_beatsOfSpan_91 : decode kS_beatsOfSpan.2.1 91 = .ok (.if_icmp .ne 12, 3) := by decide +kernel
theorem dS_beatsOfSpan_94 : decode kS_beatsOfSpan.2.1 94 = .ok (.iload 8, 2) := by decide +kernel
theorem dS_beatsOfSpan_96 : decode kS_beatsOfSpan.2.1 96 = .ok (.iload_n 1, 1) := by decide +kernel
theorem dS_beatsOfSpan_97 : decode kS_beatsOfSpan.2.1 97 = .ok (.if_icmp .ge 6, 3) := by decide +kernel
theorem dS_beatsOfSpan_100 : decode kS_beatsOfSpan.2.1 100 = .ok (.iinc 6 1, 3) := by decide +kernel
theorem dS_beatsOfSpan_103 : decode kS_beatsOfSpan.2.1 103 = .ok (.iinc 8 1, 3) := by decide +kernel
theorem dS_beatsOfSpan_106 : decode kS_beatsOfSpan.2.1 106 = .ok (.goto (-64), 3) := by decide +kernel
theorem dS_beatsOfSpan_109 : decode kS_beatsOfSpan.2.1 109 = .ok (.iconst 1, 1) := by decide +kernel
theorem dS_beatsOfSpan_110 : decode kS_beatsOfSpan.2.1 110 = .ok (.iload 4, 2) := by decide +kernel
theorem dS_beatsOfSpan_112 : decode kS_beatsOfSpan.2.1 112 = .ok (.aload_n 0, 1) := by decide +kernel
theorem dS_beatsOfSpan_113 : decode kS_beatsOfSpan.2.1 113 = .ok (.iload_n 1, 1) := by decide +kernel
theorem dS_beatsOfSpan_114 : decode kS_beatsOfSpan.2.1 114 = .ok (.invokevirtual 97, 3) := by decide +kernel
theorem dS_beatsOfSpan_117 : decode kS_beatsOfSpan.2.1 117 = .ok (.imul, 1) := by decide +kernel
theorem dS_beatsOfSpan_118 : decode kS_beatsOfSpan.2.1 118 = .ok (.iload_n 3, 1) := by decide +kernel
theorem dS_beatsOfSpan_119 : decode kS_beatsOfSpan.2.1 119 = .ok (.idiv, 1) := by decide +kernel
theorem dS_beatsOfSpan_120 : decode kS_beatsOfSpan.2.1 120 = .ok (.iadd, 1) := by decide +kernel
theorem dS_beatsOfSpan_121 : decode kS_beatsOfSpan.2.1 121 = .ok (.istore 8, 2) := by decide +kernel
theorem dS_beatsOfSpan_123 : decode kS_beatsOfSpan.2.1 123 = .ok (.iload 6, 2) := by decide +kernel
theorem dS_beatsOfSpan_125 : decode kS_beatsOfSpan.2.1 125 = .ok (.iload 5, 2) := by decide +kernel
theorem dS_beatsOfSpan_127 : decode kS_beatsOfSpan.2.1 127 = .ok (.if_icmp .ge 10, 3) := by decide +kernel
theorem dS_beatsOfSpan_130 : decode kS_beatsOfSpan.2.1 130 = .ok (.iload 8, 2) := by decide +kernel
theorem dS_beatsOfSpan_132 : decode kS_beatsOfSpan.2.1 132 = .ok (.iconst 1, 1) := by decide +kernel
theorem dS_beatsOfSpan_133 : decode kS_beatsOfSpan.2.1 133 = .ok (.iadd, 1) := by decide +kernel
theorem dS_beatsOfSpan_134 : decode kS_beatsOfSpan.2.1 134 = .ok (.goto 5, 3) := by decide +kernel
theorem dS_beatsOfSpan_137 : decode kS_beatsOfSpan.2.1 137 = .ok (.iload 8, 2) := by decide +kernel
theorem dS_beatsOfSpan_139 : decode kS_beatsOfSpan.2.1 139 = .ok (.ireturn, 1) := by decide +kernel
