theorem dT_init_0 : decode kT_init.2.1 0 = .ok (.aload_n 0, 1) := by decide +kernel
theorem dT_init_1 : decode kT_init.2.1 1 = .ok (.invokespecial 1, 3) := by decide +kernel
theorem dT_init_4 : decode kT_init.2.1 4 = .ok (.aload_n 0, 1) := by decide +kernel
theorem dT_init_5 : decode kT_init.2.1 5 = .ok (.iconst 4, 1) := by decide +kernel
theorem dT_init_6 : decode kT_init.2.1 6 = .ok (.newarray .int, 2) := by decide +kernel
theorem dT_init_8 : decode kT_init.2.1 8 = .ok (.putfield 7, 3) := by decide +kernel
theorem dT_init_11 : decode kT_init.2.1 11 = .ok (.aload_n 0, 1) := by decide +kernel
theorem dT_init_12 : decode kT_init.2.1 12 = .ok (.sipush 160, 3) := by decide +kernel
theorem dT_init_15 : decode kT_init.2.1 15 = .ok (.newarray .int, 2) := by decide +kernel
theorem dT_init_17 : decode kT_init.2.1 17 = .ok (.putfield 13, 3) := by decide +kernel
theorem dT_init_20 : decode kT_init.2.1 20 = .ok (.aload_n 0, 1) := by decide +kernel
theorem dT_init_21 : decode kT_init.2.1 21 = .ok (.iconst 4, 1) := by decide +kernel
theorem dT_init_22 : decode kT_init.2.1 22 = .ok (.newarray .int, 2) := by decide +kernel
theorem dT_init_24 : decode kT_init.2.1 24 = .ok (.putfield 16, 3) := by decide +kernel
theorem dT_init_27 : decode kT_init.2.1 27 = .ok (.aload_n 0, 1) := by decide +kernel
theorem dT_init_28 : decode kT_init.2.1 28 = .ok (.iconst 4, 1) := by decide +kernel
theorem dT_init_29 : decode kT_init.2.1 29 = .ok (.newarray .int, 2) := by decide +kernel
theorem dT_init_31 : decode kT_init.2.1 31 = .ok (.dup, 1) := by decide +kernel
theorem dT_init_32 : decode kT_init.2.1 32 = .ok (.iconst 0, 1) := by decide +kernel
theorem dT_init_33 : decode kT_init.2.1 33 = .ok (.bipush 50, 2) := by decide +kernel
theorem dT_init_35 : decode kT_init.2.1 35 = .ok (.iastore, 1) := by decide +kernel
theorem dT_init_36 : decode kT_init.2.1 36 = .ok (.dup, 1) := by decide +kernel
theorem dT_init_37 : decode kT_init.2.1 37 = .ok (.iconst 1, 1) := by decide +kernel
theorem dT_init_38 : decode kT_init.2.1 38 = .ok (.bipush 50, 2) := by decide +kernel
theorem dT_init_40 : decode kT_init.2.1 40 = .ok (.iastore, 1) := by decide +kernel
theorem dT_init_41 : decode kT_init.2.1 41 = .ok (.dup, 1) := by decide +kernel
theorem dT_init_42 : decode kT_init.2.1 42 = .ok (.iconst 2, 1) := by decide +kernel
theorem dT_init_43 : decode kT_init.2.1 43 = .ok (.bipush 50, 2) := by decide +kernel
theorem dT_init_45 : decode kT_init.2.1 45 = .ok (.iastore, 1) := by decide +kernel
theorem dT_init_46 : decode kT_init.2.1 46 = .ok (.dup, 1) := by decide +kernel
theorem dT_init_47 : decode kT_init.2.1 47 = .ok (.iconst 3, 1) := by decide +kernel
theorem dT_init_48 : decode kT_init.2.1 48 = .ok (.bipush 50, 2) := by decide +kernel
theorem dT_init_50 : decode kT_init.2.1 50 = .ok (.iastore, 1) := by decide +kernel
theorem dT_init_51 : decode kT_init.2.1 51 = .ok (.putfield 19, 3) := by decide +kernel
theorem dT_init_54 : decode kT_init.2.1 54 = .ok (.aload_n 0, 1) := by decide +kernel
theorem dT_init_55 : decode kT_init.2.1 55 = .ok (.bipush 10, 2) := by decide +kernel
theorem dT_init_57 : decode kT_init.2.1 57 = .ok (.putfield 22, 3) := by decide +kernel
theorem dT_init_60 : decode kT_init.2.1 60 = .ok (.aload_n 0, 1) := by decide +kernel
theorem dT_init_61 : decode kT_init.2.1 61 = .ok (.iconst (-1), 1) := by decide +kernel
theorem dT_init_62 : decode kT_init.2.1 62 = .ok (.putfield 26, 3) := by decide +kernel
theorem dT_init_65 : decode kT_init.2.1 65 = .ok (.aload_n 0, 1) := by decide +kernel
theorem dT_init_66 : decode kT_init.2.1 66 = .ok (.bipush 40, 2) := by decide +kernel
theorem dT_init_68 : decode kT_init.2.1 68 = .ok (.newarray .int, 2) := by decide +kernel
theorem dT_init_70 : decode kT_init.2.1 70 = .ok (.putfield 29, 3) := by decide +kernel
theorem dT_init_73 : decode kT_init.2.1 73 = .ok (.aload_n 0, 1) := by decide +kernel
theorem dT_init_74 : decode kT_init.2.1 74 = .ok (.sipush 164, 3) := by decide +kernel
theorem dT_init_77 : decode kT_init.2.1 77 = .ok (.newarray .int, 2) := by decide +kernel
theorem dT_init_79 : decode kT_init.2.1 79 = .ok (.putfield 32, 3) := by decide +kernel
theorem dT_init_82 : decode kT_init.2.1 82 = .ok (.aload_n 0, 1) := by decide +kernel
theorem dT_init_83 : decode kT_init.2.1 83 = .ok (.bipush 40, 2) := by decide +kernel
theorem dT_init_85 : decode kT_init.2.1 85 = .ok (.newarray .int, 2) := by decide +kernel
theorem dT_init_87 : decode kT_init.2.1 87 = .ok (.putfield 35, 3) := by decide +kernel
theorem dT_init_90 : decode kT_init.2.1 90 = .ok (.aload_n 0, 1) := by decide +kernel
theorem dT_init_91 : decode kT_init.2.1 91 = .ok (.bipush 40, 2) := by decide +kernel
theorem dT_init_93 : decode kT_init.2.1 93 = .ok (.newarray .int, 2) := by decide +kernel
theorem dT_init_95 : decode kT_init.2.1 95 = .ok (.putfield 38, 3) := by decide +kernel
theorem dT_init_98 : decode kT_init.2.1 98 = .ok (.aload_n 0, 1) := by decide +kernel
theorem dT_init_99 : decode kT_init.2.1 99 = .ok (.bipush 40, 2) := by decide +kernel
theorem dT_init_101 : decode kT_init.2.1 101 = .ok (.newarray .int, 2) := by decide +kernel
theorem dT_init_103 : decode kT_init.2.1 103 = .ok (.putfield 41, 3) := by decide +kernel
theorem dT_init_106 : decode kT_init.2.1 106 = .ok (.aload_n 0, 1) := by decide +kernel
theorem dT_init_107 : decode kT_init.2.1 107 = .ok (.bipush 40, 2) := by decide +kernel
theorem dT_init_109 : decode kT_init.2.1 109 = .ok (.newarray .int, 2) := by decide +kernel
theorem dT_init_111 : decode kT_init.2.1 111 = .ok (.putfield 44, 3) := by decide +kernel
theorem dT_init_114 : decode kT_init.2.1 114 = .ok (.aload_n 0, 1) := by decide +kernel
theorem dT_init_115 : decode kT_init.2.1 115 = .ok (.bipush 40, 2) := by decide +kernel
theorem dT_init_117 : decode kT_init.2.1 117 = .ok (.newarray .int, 2) := by decide +kernel
theorem dT_init_119 : decode kT_init.2.1 119 = .ok (.putfield 47, 3) := by decide +kernel
theorem dT_init_122 : decode kT_init.2.1 122 = .ok (.aload_n 0, 1) := by decide +kernel
theorem dT_init_123 : decode kT_init.2.1 123 = .ok (.iconst 3, 1) := by decide +kernel
theorem dT_init_124 : decode kT_init.2.1 124 = .ok (.putfield 50, 3) := by decide +kernel
theorem dT_init_127 : decode kT_init.2.1 127 = .ok (.aload_n 0, 1) := by decide +kernel
theorem dT_init_128 : decode kT_init.2.1 128 = .ok (.iconst 1, 1) := by decide +kernel
theorem dT_init_129 : decode kT_init.2.1 129 = .ok (.putfield 53, 3) := by decide +kernel
theorem dT_init_132 : decode kT_init.2.1 132 = .ok (.aload_n 0, 1) := by decide +kernel
theorem dT_init_133 : decode kT_init.2.1 133 = .ok (.iconst 4, 1) := by decide +kernel
theorem dT_init_134 : decode kT_init.2.1 134 = .ok (.newarray .int, 2) := by decide +kernel
theorem dT_init_136 : decode kT_init.2.1 136 = .ok (.putfield 56, 3) := by decide +kernel
theorem dT_init_139 : decode kT_init.2.1 139 = .ok (.aload_n 0, 1) := by decide +kernel
theorem dT_init_140 : decode kT_init.2.1 140 = .ok (.iconst 4, 1) := by decide +kernel
theorem dT_init_141 : decode kT_init.2.1 141 = .ok (.newarray .int, 2) := by decide +kernel
theorem dT_init_143 : decode kT_init.2.1 143 = .ok (.putfield 59, 3) := by decide +kernel
theorem dT_init_146 : decode kT_init.2.1 146 = .ok (.aload_n 0, 1) := by decide +kernel
theorem dT_init_147 : decode kT_init.2.1 147 = .ok (.iconst 4, 1) := by decide +kernel
theorem dT_init_148 : decode kT_init.2.1 148 = .ok (.newarray .int, 2) := by decide +kernel
theorem dT_init_150 : decode kT_init.2.1 150 = .ok (.putfield 62, 3) := by decide +kernel
theorem dT_init_153 : decode kT_init.2.1 153 = .ok (.aload_n 0, 1) := by decide +kernel
theorem dT_init_154 : decode kT_init.2.1 154 = .ok (.bipush 40, 2) := by decide +kernel
theorem dT_init_156 : decode kT_init.2.1 156 = .ok (.newarray .int, 2) := by decide +kernel
theorem dT_init_158 : decode kT_init.2.1 158 = .ok (.putfield 65, 3) := by decide +kernel
theorem dT_init_161 : decode kT_init.2.1 161 = .ok (.aload_n 0, 1) := by decide +kernel
theorem dT_init_162 : decode kT_init.2.1 162 = .ok (.bipush 40, 2) := by decide +kernel
theorem dT_init_164 : decode kT_init.2.1 164 = .ok (.newarray .boolean, 2) := by decide +kernel
theorem dT_init_166 : decode kT_init.2.1 166 = .ok (.putfield 68, 3) := by decide +kernel
theorem dT_init_169 : decode kT_init.2.1 169 = .ok (.return_, 1) := by decide +kernel
theorem dT_isRow_0 : decode kT_isRow.2.1 0 = .ok (.iload_n 0, 1) := by decide +kernel
theorem dT_isRow_1 : decode kT_isRow.2.1 1 = .ok (.ifCond .lt 12, 3) := by decide +kernel
theorem dT_isRow_4 : decode kT_isRow.2.1 4 = .ok (.iload_n 0, 1) := by decide +kernel
theorem dT_isRow_5 : decode kT_isRow.2.1 5 = .ok (.iconst 4, 1) := by decide +kernel
theorem dT_isRow_6 : decode kT_isRow.2.1 6 = .ok (.if_icmp .ge 7, 3) := by decide +kernel
theorem dT_isRow_9 : decode kT_isRow.2.1 9 = .ok (.iconst 1, 1) := by decide +kernel
theorem dT_isRow_10 : decode kT_isRow.2.1 10 = .ok (.goto 4, 3) := by decide +kernel
theorem dT_isRow_13 : decode kT_isRow.2.1 13 = .ok (.iconst 0, 1) := by decide +kernel
theorem dT_isRow_14 : decode kT_isRow.2.1 14 = .ok (.ireturn, 1) := by decide +kernel
theorem dT_isIn_0 : decode kT_isIn.2.1 0 = .ok (.iload_n 0, 1) := by decide +kernel
theorem dT_isIn_1 : decode kT_isIn.2.1 1 = .ok (.iload_n 1, 1) := by decide +kernel
theorem dT_isIn_2 : decode kT_isIn.2.1 2 = .ok (.if_icmp .lt 12, 3) := by decide +kernel
theorem dT_isIn_5 : decode kT_isIn.2.1 5 = .ok (.iload_n 0, 1) := by decide +kernel
theorem dT_isIn_6 : decode kT_isIn.2.1 6 = .ok (.iload_n 2, 1) := by decide +kernel
theorem dT_isIn_7 : decode kT_isIn.2.1 7 = .ok (.if_icmp .gt 7, 3) := by decide +kernel
theorem dT_isIn_10 : decode kT_isIn.2.1 10 = .ok (.iconst 1, 1) := by decide +kernel
theorem dT_isIn_11 : decode kT_isIn.2.1 11 = .ok (.goto 4, 3) := by decide +kernel
theorem dT_isIn_14 : decode kT_isIn.2.1 14 = .ok (.iconst 0, 1) := by decide +kernel
theorem dT_isIn_15 : decode kT_isIn.2.1 15 = .ok (.ireturn, 1) := by decide +kernel
theorem dT_isStep_0 : decode kT_isStep.2.1 0 = .ok (.iload_n 1, 1) := by decide +kernel
theorem dT_isStep_1 : decode kT_isStep.2.1 1 = .ok (.invokestatic 72, 3) := by decide +kernel
theorem dT_isStep_4 : decode kT_isStep.2.1 4 = .ok (.ifCond .eq 21, 3) := by decide +kernel
theorem dT_isStep_7 : decode kT_isStep.2.1 7 = .ok (.iload_n 2, 1) := by decide +kernel
theorem dT_isStep_8 : decode kT_isStep.2.1 8 = .ok (.ifCond .lt 17, 3) := by decide +kernel
theorem dT_isStep_11 : decode kT_isStep.2.1 11 = .ok (.iload_n 2, 1) := by decide +kernel
theorem dT_isStep_12 : decode kT_isStep.2.1 12 = .ok (.aload_n 0, 1) := by decide +kernel
theorem dT_isStep_13 : decode kT_isStep.2.1 13 = .ok (.getfield 7, 3) := by decide +kernel
theorem dT_isStep_16 : decode kT_isStep.2.1 16 = .ok (.iload_n 1, 1) := by decide +kernel
theorem dT_isStep_17 : decode kT_isStep.2.1 17 = .ok (.iaload, 1) := by decide +kernel
theorem dT_isStep_18 : decode kT_isStep.2.1 18 = .ok (.if_icmp .ge 7, 3) := by decide +kernel
theorem dT_isStep_21 : decode kT_isStep.2.1 21 = .ok (.iconst 1, 1) := by decide +kernel
theorem dT_isStep_22 : decode kT_isStep.2.1 22 = .ok (.goto 4, 3) := by decide +kernel
theorem dT_isStep_25 : decode kT_isStep.2.1 25 = .ok (.iconst 0, 1) := by decide +kernel
theorem dT_isStep_26 : decode kT_isStep.2.1 26 = .ok (.ireturn, 1) := by decide +kernel
theorem dT_hasValue_0 : decode kT_hasValue.2.1 0 = .ok (.aload_n 0, 1) := by decide +kernel
theorem dT_hasValue_1 : decode kT_hasValue.2.1 1 = .ok (.iload_n 1, 1) := by decide +kernel
theorem dT_hasValue_2 : decode kT_hasValue.2.1 2 = .ok (.iload_n 2, 1) := by decide +kernel
theorem dT_hasValue_3 : decode kT_hasValue.2.1 3 = .ok (.invokevirtual 76, 3) := by decide +kernel
theorem dT_hasValue_6 : decode kT_hasValue.2.1 6 = .ok (.ifCond .eq 24, 3) := by decide +kernel
theorem dT_hasValue_9 : decode kT_hasValue.2.1 9 = .ok (.aload_n 0, 1) := by decide +kernel
theorem dT_hasValue_10 : decode kT_hasValue.2.1 10 = .ok (.getfield 13, 3) := by decide +kernel
theorem dT_hasValue_13 : decode kT_hasValue.2.1 13 = .ok (.bipush 40, 2) := by decide +kernel
theorem dT_hasValue_15 : decode kT_hasValue.2.1 15 = .ok (.iload_n 1, 1) := by decide +kernel
theorem dT_hasValue_16 : decode kT_hasValue.2.1 16 = .ok (.imul, 1) := by decide +kernel
theorem dT_hasValue_17 : decode kT_hasValue.2.1 17 = .ok (.iload_n 2, 1) := by decide +kernel
theorem dT_hasValue_18 : decode kT_hasValue.2.1 18 = .ok (.iadd, 1) := by decide +kernel
theorem dT_hasValue_19 : decode kT_hasValue.2.1 19 = .ok (.iaload, 1) := by decide +kernel
theorem dT_hasValue_20 : decode kT_hasValue.2.1 20 = .ok (.sipush (-5000), 3) := by decide +kernel
theorem dT_hasValue_23 : decode kT_hasValue.2.1 23 = .ok (.if_icmp .eq 7, 3) := by decide +kernel
theorem dT_hasValue_26 : decode kT_hasValue.2.1 26 = .ok (.iconst 1, 1) := by decide +kernel
theorem dT_hasValue_27 : decode kT_hasValue.2.1 27 = .ok (.goto 4, 3) := by decide +kernel
theorem dT_hasValue_30 : decode kT_hasValue.2.1 30 = .ok (.iconst 0, 1) := by decide +kernel
theorem dT_hasValue_31 : decode kT_hasValue.2.1 31 = .ok (.ireturn, 1) := by decide +kernel
theorem dT_valueAt_0 : decode kT_valueAt.2.1 0 = .ok (.aload_n 0, 1) := by decide +kernel
theorem dT_valueAt_1 : decode kT_valueAt.2.1 1 = .ok (.getfield 13, 3) := by decide +kernel
theorem dT_valueAt_4 : decode kT_valueAt.2.1 4 = .ok (.bipush 40, 2) := by decide +kernel
theorem dT_valueAt_6 : decode kT_valueAt.2.1 6 = .ok (.iload_n 1, 1) := by decide +kernel
theorem dT_valueAt_7 : decode kT_valueAt.2.1 7 = .ok (.imul, 1) := by decide +kernel
theorem dT_valueAt_8 : decode kT_valueAt.2.1 8 = .ok (.iload_n 2, 1) := by decide +kernel
theorem dT_valueAt_9 : decode kT_valueAt.2.1 9 = .ok (.iadd, 1) := by decide +kernel
theorem dT_valueAt_10 : decode kT_valueAt.2.1 10 = .ok (.iaload, 1) := by decide +kernel
theorem dT_valueAt_11 : decode kT_valueAt.2.1 11 = .ok (.ireturn, 1) := by decide +kernel
theorem dT_adds_0 : decode kT_adds.2.1 0 = .ok (.iload_n 1, 1) := by decide +kernel
theorem dT_adds_1 : decode kT_adds.2.1 1 = .ok (.invokestatic 72, 3) := by decide +kernel
theorem dT_adds_4 : decode kT_adds.2.1 4 = .ok (.ifCond .eq 14, 3) := by decide +kernel
theorem dT_adds_7 : decode kT_adds.2.1 7 = .ok (.aload_n 0, 1) := by decide +kernel
theorem dT_adds_8 : decode kT_adds.2.1 8 = .ok (.getfield 7, 3) := by decide +kernel
theorem dT_adds_11 : decode kT_adds.2.1 11 = .ok (.iload_n 1, 1) := by decide +kernel
theorem dT_adds_12 : decode kT_adds.2.1 12 = .ok (.iaload, 1) := by decide +kernel
theorem dT_adds_13 : decode kT_adds.2.1 13 = .ok (.bipush 40, 2) := by decide +kernel
theorem dT_adds_15 : decode kT_adds.2.1 15 = .ok (.if_icmp .ne 5, 3) := by decide +kernel
theorem dT_adds_18 : decode kT_adds.2.1 18 = .ok (.iconst (-1), 1) := by decide +kernel
theorem dT_adds_19 : decode kT_adds.2.1 19 = .ok (.ireturn, 1) := by decide +kernel
theorem dT_adds_20 : decode kT_adds.2.1 20 = .ok (.aload_n 0, 1) := by decide +kernel
theorem dT_adds_21 : decode kT_adds.2.1 21 = .ok (.getfield 13, 3) := by decide +kernel
theorem dT_adds_24 : decode kT_adds.2.1 24 = .ok (.bipush 40, 2) := by decide +kernel
theorem dT_adds_26 : decode kT_adds.2.1 26 = .ok (.iload_n 1, 1) := by decide +kernel
theorem dT_adds_27 : decode kT_adds.2.1 27 = .ok (.imul, 1) := by decide +kernel
theorem dT_adds_28 : decode kT_adds.2.1 28 = .ok (.aload_n 0, 1) := by decide +kernel
theorem dT_adds_29 : decode kT_adds.2.1 29 = .ok (.getfield 7, 3) := by decide +kernel
theorem dT_adds_32 : decode kT_adds.2.1 32 = .ok (.iload_n 1, 1) := by decide +kernel
theorem dT_adds_33 : decode kT_adds.2.1 33 = .ok (.iaload, 1) := by decide +kernel
theorem dT_adds_34 : decode kT_adds.2.1 34 = .ok (.iadd, 1) := by decide +kernel
theorem dT_adds_35 : decode kT_adds.2.1 35 = .ok (.iload_n 2, 1) := by decide +kernel
theorem dT_adds_36 : decode kT_adds.2.1 36 = .ok (.iastore, 1) := by decide +kernel
theorem dT_adds_37 : decode kT_adds.2.1 37 = .ok (.aload_n 0, 1) := by decide +kernel
theorem dT_adds_38 : decode kT_adds.2.1 38 = .ok (.getfield 7, 3) := by decide +kernel
theorem dT_adds_41 : decode kT_adds.2.1 41 = .ok (.iload_n 1, 1) := by decide +kernel
theorem dT_adds_42 : decode kT_adds.2.1 42 = .ok (.dup2, 1) := by decide +kernel
theorem dT_adds_43 : decode kT_adds.2.1 43 = .ok (.iaload, 1) := by decide +kernel
theorem dT_adds_44 : decode kT_adds.2.1 44 = .ok (.iconst 1, 1) := by decide +kernel
theorem dT_adds_45 : decode kT_adds.2.1 45 = .ok (.iadd, 1) := by decide +kernel
theorem dT_adds_46 : decode kT_adds.2.1 46 = .ok (.iastore, 1) := by decide +kernel
theorem dT_adds_47 : decode kT_adds.2.1 47 = .ok (.aload_n 0, 1) := by decide +kernel
theorem dT_adds_48 : decode kT_adds.2.1 48 = .ok (.getfield 7, 3) := by decide +kernel
theorem dT_adds_51 : decode kT_adds.2.1 51 = .ok (.iload_n 1, 1) := by decide +kernel
theorem dT_adds_52 : decode kT_adds.2.1 52 = .ok (.iaload, 1) := by decide +kernel
theorem dT_adds_53 : decode kT_adds.2.1 53 = .ok (.ireturn, 1) := by decide +kernel
theorem dT_value_0 : decode kT_value.2.1 0 = .ok (.iload_n 2, 1) := by decide +kernel
theorem dT_value_1 : decode kT_value.2.1 1 = .ok (.sipush (-1000), 3) := by decide +kernel
theorem dT_value_4 : decode kT_value.2.1 4 = .ok (.sipush 1000, 3) := by decide +kernel
theorem dT_value_7 : decode kT_value.2.1 7 = .ok (.invokestatic 80, 3) := by decide +kernel
theorem dT_value_10 : decode kT_value.2.1 10 = .ok (.ifCond .eq 12, 3) := by decide +kernel
theorem dT_value_13 : decode kT_value.2.1 13 = .ok (.aload_n 0, 1) := by decide +kernel
theorem dT_value_14 : decode kT_value.2.1 14 = .ok (.iload_n 1, 1) := by decide +kernel
theorem dT_value_15 : decode kT_value.2.1 15 = .ok (.iload_n 2, 1) := by decide +kernel
theorem dT_value_16 : decode kT_value.2.1 16 = .ok (.invokevirtual 84, 3) := by decide +kernel
theorem dT_value_19 : decode kT_value.2.1 19 = .ok (.goto 4, 3) := by decide +kernel
theorem dT_value_22 : decode kT_value.2.1 22 = .ok (.iconst (-1), 1) := by decide +kernel
theorem dT_value_23 : decode kT_value.2.1 23 = .ok (.ireturn, 1) := by decide +kernel
theorem dT_gap_0 : decode kT_gap.2.1 0 = .ok (.aload_n 0, 1) := by decide +kernel
theorem dT_gap_1 : decode kT_gap.2.1 1 = .ok (.iload_n 1, 1) := by decide +kernel
theorem dT_gap_2 : decode kT_gap.2.1 2 = .ok (.sipush (-5000), 3) := by decide +kernel
theorem dT_gap_5 : decode kT_gap.2.1 5 = .ok (.invokevirtual 84, 3) := by decide +kernel
theorem dT_gap_8 : decode kT_gap.2.1 8 = .ok (.ireturn, 1) := by decide +kernel
theorem dT_put_0 : decode kT_put.2.1 0 = .ok (.aload_n 0, 1) := by decide +kernel
theorem dT_put_1 : decode kT_put.2.1 1 = .ok (.iload_n 1, 1) := by decide +kernel
theorem dT_put_2 : decode kT_put.2.1 2 = .ok (.iload_n 2, 1) := by decide +kernel
theorem dT_put_3 : decode kT_put.2.1 3 = .ok (.invokevirtual 76, 3) := by decide +kernel
theorem dT_put_6 : decode kT_put.2.1 6 = .ok (.ifCond .eq 16, 3) := by decide +kernel
theorem dT_put_9 : decode kT_put.2.1 9 = .ok (.iload_n 3, 1) := by decide +kernel
theorem dT_put_10 : decode kT_put.2.1 10 = .ok (.sipush (-1000), 3) := by decide +kernel
theorem dT_put_13 : decode kT_put.2.1 13 = .ok (.sipush 1000, 3) := by decide +kernel
theorem dT_put_16 : decode kT_put.2.1 16 = .ok (.invokestatic 80, 3) := by decide +kernel
theorem dT_put_19 : decode kT_put.2.1 19 = .ok (.ifCond .ne 5, 3) := by decide +kernel
theorem dT_put_22 : decode kT_put.2.1 22 = .ok (.iconst 0, 1) := by decide +kernel
theorem dT_put_23 : decode kT_put.2.1 23 = .ok (.ireturn, 1) := by decide +kernel
theorem dT_put_24 : decode kT_put.2.1 24 = .ok (.aload_n 0, 1) := by decide +kernel
theorem dT_put_25 : decode kT_put.2.1 25 = .ok (.getfield 13, 3) := by decide +kernel
theorem dT_put_28 : decode kT_put.2.1 28 = .ok (.bipush 40, 2) := by decide +kernel
theorem dT_put_30 : decode kT_put.2.1 30 = .ok (.iload_n 1, 1) := by decide +kernel
theorem dT_put_31 : decode kT_put.2.1 31 = .ok (.imul, 1) := by decide +kernel
theorem dT_put_32 : decode kT_put.2.1 32 = .ok (.iload_n 2, 1) := by decide +kernel
theorem dT_put_33 : decode kT_put.2.1 33 = .ok (.iadd, 1) := by decide +kernel
theorem dT_put_34 : decode kT_put.2.1 34 = .ok (.iload_n 3, 1) := by decide +kernel
theorem dT_put_35 : decode kT_put.2.1 35 = .ok (.iastore, 1) := by decide +kernel
theorem dT_put_36 : decode kT_put.2.1 36 = .ok (.iconst 1, 1) := by decide +kernel
theorem dT_put_37 : decode kT_put.2.1 37 = .ok (.ireturn, 1) := by decide +kernel
theorem dT_clear_0 : decode kT_clear.2.1 0 = .ok (.iload_n 1, 1) := by decide +kernel
theorem dT_clear_1 : decode kT_clear.2.1 1 = .ok (.invokestatic 72, 3) := by decide +kernel
theorem dT_clear_4 : decode kT_clear.2.1 4 = .ok (.ifCond .ne 5, 3) := by decide +kernel
theorem dT_clear_7 : decode kT_clear.2.1 7 = .ok (.iconst (-1), 1) := by decide +kernel
theorem dT_clear_8 : decode kT_clear.2.1 8 = .ok (.ireturn, 1) := by decide +kernel
theorem dT_clear_9 : decode kT_clear.2.1 9 = .ok (.aload_n 0, 1) := by decide +kernel
theorem dT_clear_10 : decode kT_clear.2.1 10 = .ok (.getfield 7, 3) := by decide +kernel
theorem dT_clear_13 : decode kT_clear.2.1 13 = .ok (.iload_n 1, 1) := by decide +kernel
theorem dT_clear_14 : decode kT_clear.2.1 14 = .ok (.iaload, 1) := by decide +kernel
theorem dT_clear_15 : decode kT_clear.2.1 15 = .ok (.istore_n 2, 1) := by decide +kernel
theorem dT_clear_16 : decode kT_clear.2.1 16 = .ok (.aload_n 0, 1) := by decide +kernel
theorem dT_clear_17 : decode kT_clear.2.1 17 = .ok (.getfield 7, 3) := by decide +kernel
theorem dT_clear_20 : decode kT_clear.2.1 20 = .ok (.iload_n 1, 1) := by decide +kernel
theorem dT_clear_21 : decode kT_clear.2.1 21 = .ok (.iconst 0, 1) := by decide +kernel
theorem dT_clear_22 : decode kT_clear.2.1 22 = .ok (.iastore, 1) := by decide +kernel
theorem dT_clear_23 : decode kT_clear.2.1 23 = .ok (.aload_n 0, 1) := by decide +kernel
theorem dT_clear_24 : decode kT_clear.2.1 24 = .ok (.getfield 26, 3) := by decide +kernel
theorem dT_clear_27 : decode kT_clear.2.1 27 = .ok (.iload_n 1, 1) := by decide +kernel
theorem dT_clear_28 : decode kT_clear.2.1 28 = .ok (.if_icmp .ne 8, 3) := by decide +kernel
theorem dT_clear_31 : decode kT_clear.2.1 31 = .ok (.aload_n 0, 1) := by decide +kernel
theorem dT_clear_32 : decode kT_clear.2.1 32 = .ok (.iconst (-1), 1) := by decide +kernel
theorem dT_clear_33 : decode kT_clear.2.1 33 = .ok (.putfield 26, 3) := by decide +kernel
theorem dT_clear_36 : decode kT_clear.2.1 36 = .ok (.iload_n 2, 1) := by decide +kernel
theorem dT_clear_37 : decode kT_clear.2.1 37 = .ok (.ireturn, 1) := by decide +kernel
theorem dT_miss_0 : decode kT_miss.2.1 0 = .ok (.iload_n 1, 1) := by decide +kernel
theorem dT_miss_1 : decode kT_miss.2.1 1 = .ok (.invokestatic 72, 3) := by decide +kernel
theorem dT_miss_4 : decode kT_miss.2.1 4 = .ok (.ifCond .eq 14, 3) := by decide +kernel
theorem dT_miss_7 : decode kT_miss.2.1 7 = .ok (.iload_n 2, 1) := by decide +kernel
theorem dT_miss_8 : decode kT_miss.2.1 8 = .ok (.iconst 0, 1) := by decide +kernel
theorem dT_miss_9 : decode kT_miss.2.1 9 = .ok (.sipush 200, 3) := by decide +kernel
theorem dT_miss_12 : decode kT_miss.2.1 12 = .ok (.invokestatic 80, 3) := by decide +kernel
theorem dT_miss_15 : decode kT_miss.2.1 15 = .ok (.ifCond .ne 5, 3) := by decide +kernel
theorem dT_miss_18 : decode kT_miss.2.1 18 = .ok (.iconst (-1), 1) := by decide +kernel
theorem dT_miss_19 : decode kT_miss.2.1 19 = .ok (.ireturn, 1) := by decide +kernel
theorem dT_miss_20 : decode kT_miss.2.1 20 = .ok (.aload_n 0, 1) := by decide +kernel
theorem dT_miss_21 : decode kT_miss.2.1 21 = .ok (.getfield 16, 3) := by decide +kernel
theorem dT_miss_24 : decode kT_miss.2.1 24 = .ok (.iload_n 1, 1) := by decide +kernel
theorem dT_miss_25 : decode kT_miss.2.1 25 = .ok (.iaload, 1) := by decide +kernel
theorem dT_miss_26 : decode kT_miss.2.1 26 = .ok (.istore_n 3, 1) := by decide +kernel
theorem dT_miss_27 : decode kT_miss.2.1 27 = .ok (.aload_n 0, 1) := by decide +kernel
theorem dT_miss_28 : decode kT_miss.2.1 28 = .ok (.getfield 16, 3) := by decide +kernel
theorem dT_miss_31 : decode kT_miss.2.1 31 = .ok (.iload_n 1, 1) := by decide +kernel
theorem dT_miss_32 : decode kT_miss.2.1 32 = .ok (.iload_n 2, 1) := by decide +kernel
theorem dT_miss_33 : decode kT_miss.2.1 33 = .ok (.iastore, 1) := by decide +kernel
theorem dT_miss_34 : decode kT_miss.2.1 34 = .ok (.iload_n 3, 1) := by decide +kernel
theorem dT_miss_35 : decode kT_miss.2.1 35 = .ok (.ireturn, 1) := by decide +kernel
theorem dT_part_0 : decode kT_part.2.1 0 = .ok (.iload_n 1, 1) := by decide +kernel
theorem dT_part_1 : decode kT_part.2.1 1 = .ok (.iconst 0, 1) := by decide +kernel
theorem dT_part_2 : decode kT_part.2.1 2 = .ok (.sipush 10000, 3) := by decide +kernel
theorem dT_part_5 : decode kT_part.2.1 5 = .ok (.invokestatic 80, 3) := by decide +kernel
theorem dT_part_8 : decode kT_part.2.1 8 = .ok (.ifCond .ne 5, 3) := by decide +kernel
theorem dT_part_11 : decode kT_part.2.1 11 = .ok (.iconst (-1), 1) := by decide +kernel
theorem dT_part_12 : decode kT_part.2.1 12 = .ok (.ireturn, 1) := by decide +kernel
theorem dT_part_13 : decode kT_part.2.1 13 = .ok (.aload_n 0, 1) := by decide +kernel
theorem dT_part_14 : decode kT_part.2.1 14 = .ok (.getfield 22, 3) := by decide +kernel
theorem dT_part_17 : decode kT_part.2.1 17 = .ok (.istore_n 2, 1) := by decide +kernel
theorem dT_part_18 : decode kT_part.2.1 18 = .ok (.aload_n 0, 1) := by decide +kernel
theorem dT_part_19 : decode kT_part.2.1 19 = .ok (.iload_n 1, 1) := by decide +kernel
theorem dT_part_20 : decode kT_part.2.1 20 = .ok (.putfield 22, 3) := by decide +kernel
theorem dT_part_23 : decode kT_part.2.1 23 = .ok (.iload_n 2, 1) := by decide +kernel
theorem dT_part_24 : decode kT_part.2.1 24 = .ok (.ireturn, 1) := by decide +kernel
theorem dT_at_0 : decode kT_at.2.1 0 = .ok (.aload_n 0, 1) := by decide +kernel
theorem dT_at_1 : decode kT_at.2.1 1 = .ok (.iload_n 1, 1) := by decide +kernel
theorem dT_at_2 : decode kT_at.2.1 2 = .ok (.iload_n 2, 1) := by decide +kernel
theorem dT_at_3 : decode kT_at.2.1 3 = .ok (.invokevirtual 76, 3) := by decide +kernel
theorem dT_at_6 : decode kT_at.2.1 6 = .ok (.ifCond .eq 12, 3) := by decide +kernel
theorem dT_at_9 : decode kT_at.2.1 9 = .ok (.aload_n 0, 1) := by decide +kernel
theorem dT_at_10 : decode kT_at.2.1 10 = .ok (.iload_n 1, 1) := by decide +kernel
theorem dT_at_11 : decode kT_at.2.1 11 = .ok (.iload_n 2, 1) := by decide +kernel
theorem dT_at_12 : decode kT_at.2.1 12 = .ok (.invokevirtual 88, 3) := by decide +kernel
theorem dT_at_15 : decode kT_at.2.1 15 = .ok (.goto 6, 3) := by decide +kernel
theorem dT_at_18 : decode kT_at.2.1 18 = .ok (.sipush (-6000), 3) := by decide +kernel
theorem dT_at_21 : decode kT_at.2.1 21 = .ok (.ireturn, 1) := by decide +kernel
theorem dT_isWay_0 : decode kT_isWay.2.1 0 = .ok (.aload_n 0, 1) := by decide +kernel
theorem dT_isWay_1 : decode kT_isWay.2.1 1 = .ok (.iload_n 1, 1) := by decide +kernel
theorem dT_isWay_2 : decode kT_isWay.2.1 2 = .ok (.iload_n 2, 1) := by decide +kernel
theorem dT_isWay_3 : decode kT_isWay.2.1 3 = .ok (.invokevirtual 91, 3) := by decide +kernel
theorem dT_isWay_6 : decode kT_isWay.2.1 6 = .ok (.ifCond .eq 18, 3) := by decide +kernel
theorem dT_isWay_9 : decode kT_isWay.2.1 9 = .ok (.aload_n 0, 1) := by decide +kernel
theorem dT_isWay_10 : decode kT_isWay.2.1 10 = .ok (.iload_n 1, 1) := by decide +kernel
theorem dT_isWay_11 : decode kT_isWay.2.1 11 = .ok (.iload_n 2, 1) := by decide +kernel
theorem dT_isWay_12 : decode kT_isWay.2.1 12 = .ok (.iconst 1, 1) := by decide +kernel
theorem dT_isWay_13 : decode kT_isWay.2.1 13 = .ok (.iadd, 1) := by decide +kernel
theorem dT_isWay_14 : decode kT_isWay.2.1 14 = .ok (.invokevirtual 91, 3) := by decide +kernel
theorem dT_isWay_17 : decode kT_isWay.2.1 17 = .ok (.ifCond .eq 7, 3) := by decide +kernel
theorem dT_isWay_20 : decode kT_isWay.2.1 20 = .ok (.iconst 1, 1) := by decide +kernel
theorem dT_isWay_21 : decode kT_isWay.2.1 21 = .ok (.goto 4, 3) := by decide +kernel
theorem dT_isWay_24 : decode kT_isWay.2.1 24 = .ok (.iconst 0, 1) := by decide +kernel
theorem dT_isWay_25 : decode kT_isWay.2.1 25 = .ok (.ireturn, 1) := by decide +kernel
theorem dT_wayCost_0 : decode kT_wayCost.2.1 0 = .ok (.aload_n 0, 1) := by decide +kernel
theorem dT_wayCost_1 : decode kT_wayCost.2.1 1 = .ok (.iload_n 1, 1) := by decide +kernel
theorem dT_wayCost_2 : decode kT_wayCost.2.1 2 = .ok (.iload_n 2, 1) := by decide +kernel
theorem dT_wayCost_3 : decode kT_wayCost.2.1 3 = .ok (.iconst 1, 1) := by decide +kernel
theorem dT_wayCost_4 : decode kT_wayCost.2.1 4 = .ok (.iadd, 1) := by decide +kernel
theorem dT_wayCost_5 : decode kT_wayCost.2.1 5 = .ok (.invokevirtual 88, 3) := by decide +kernel
theorem dT_wayCost_8 : decode kT_wayCost.2.1 8 = .ok (.aload_n 0, 1) := by decide +kernel
theorem dT_wayCost_9 : decode kT_wayCost.2.1 9 = .ok (.iload_n 1, 1) := by decide +kernel
theorem dT_wayCost_10 : decode kT_wayCost.2.1 10 = .ok (.iload_n 2, 1) := by decide +kernel
theorem dT_wayCost_11 : decode kT_wayCost.2.1 11 = .ok (.invokevirtual 88, 3) := by decide +kernel
theorem dT_wayCost_14 : decode kT_wayCost.2.1 14 = .ok (.isub, 1) := by decide +kernel
theorem dT_wayCost_15 : decode kT_wayCost.2.1 15 = .ok (.istore 4, 2) := by decide +kernel
theorem dT_wayCost_17 : decode kT_wayCost.2.1 17 = .ok (.iload_n 3, 1) := by decide +kernel
theorem dT_wayCost_18 : decode kT_wayCost.2.1 18 = .ok (.iconst 1, 1) := by decide +kernel
theorem dT_wayCost_19 : decode kT_wayCost.2.1 19 = .ok (.if_icmp .ne 16, 3) := by decide +kernel
theorem dT_wayCost_22 : decode kT_wayCost.2.1 22 = .ok (.iload 4, 2) := by decide +kernel
theorem dT_wayCost_24 : decode kT_wayCost.2.1 24 = .ok (.ifCond .ge 9, 3) := by decide +kernel
theorem dT_wayCost_27 : decode kT_wayCost.2.1 27 = .ok (.iload 4, 2) := by decide +kernel
theorem dT_wayCost_29 : decode kT_wayCost.2.1 29 = .ok (.ineg, 1) := by decide +kernel
theorem dT_wayCost_30 : decode kT_wayCost.2.1 30 = .ok (.goto 4, 3) := by decide +kernel
theorem dT_wayCost_33 : decode kT_wayCost.2.1 33 = .ok (.iconst 0, 1) := by decide +kernel
theorem dT_wayCost_34 : decode kT_wayCost.2.1 34 = .ok (.ireturn, 1) := by decide +kernel
theorem dT_wayCost_35 : decode kT_wayCost.2.1 35 = .ok (.iload_n 3, 1) := by decide +kernel
theorem dT_wayCost_36 : decode kT_wayCost.2.1 36 = .ok (.iconst 2, 1) := by decide +kernel
theorem dT_wayCost_37 : decode kT_wayCost.2.1 37 = .ok (.if_icmp .ne 15, 3) := by decide +kernel
theorem dT_wayCost_40 : decode kT_wayCost.2.1 40 = .ok (.iload 4, 2) := by decide +kernel
theorem dT_wayCost_42 : decode kT_wayCost.2.1 42 = .ok (.ifCond .le 8, 3) := by decide +kernel
theorem dT_wayCost_45 : decode kT_wayCost.2.1 45 = .ok (.iload 4, 2) := by decide +kernel
theorem dT_wayCost_47 : decode kT_wayCost.2.1 47 = .ok (.goto 4, 3) := by decide +kernel
theorem dT_wayCost_50 : decode kT_wayCost.2.1 50 = .ok (.iconst 0, 1) := by decide +kernel
theorem dT_wayCost_51 : decode kT_wayCost.2.1 51 = .ok (.ireturn, 1) := by decide +kernel
theorem dT_wayCost_52 : decode kT_wayCost.2.1 52 = .ok (.iload 4, 2) := by decide +kernel
theorem dT_wayCost_54 : decode kT_wayCost.2.1 54 = .ok (.ifCond .ge 9, 3) := by decide +kernel
theorem dT_wayCost_57 : decode kT_wayCost.2.1 57 = .ok (.iload 4, 2) := by decide +kernel
theorem dT_wayCost_59 : decode kT_wayCost.2.1 59 = .ok (.ineg, 1) := by decide +kernel
theorem dT_wayCost_60 : decode kT_wayCost.2.1 60 = .ok (.goto 5, 3) := by decide +kernel
theorem dT_wayCost_63 : decode kT_wayCost.2.1 63 = .ok (.iload 4, 2) := by decide +kernel
theorem dT_wayCost_65 : decode kT_wayCost.2.1 65 = .ok (.ireturn, 1) := by decide +kernel
theorem dT_weighs_0 : decode kT_weighs.2.1 0 = .ok (.aload_n 0, 1) := by decide +kernel
theorem dT_weighs_1 : decode kT_weighs.2.1 1 = .ok (.getfield 7, 3) := by decide +kernel
theorem dT_weighs_4 : decode kT_weighs.2.1 4 = .ok (.iload_n 1, 1) := by decide +kernel
theorem dT_weighs_5 : decode kT_weighs.2.1 5 = .ok (.iaload, 1) := by decide +kernel
theorem dT_weighs_6 : decode kT_weighs.2.1 6 = .ok (.iconst 1, 1) := by decide +kernel
theorem dT_weighs_7 : decode kT_weighs.2.1 7 = .ok (.isub, 1) := by decide +kernel
theorem dT_weighs_8 : decode kT_weighs.2.1 8 = .ok (.istore_n 2, 1) := by decide +kernel
theorem dT_weighs_9 : decode kT_weighs.2.1 9 = .ok (.iload_n 2, 1) := by decide +kernel
theorem dT_weighs_10 : decode kT_weighs.2.1 10 = .ok (.ifCond .lt 129, 3) := by decide +kernel
theorem dT_weighs_13 : decode kT_weighs.2.1 13 = .ok (.iconst 1, 1) := by decide +kernel
theorem dT_weighs_14 : decode kT_weighs.2.1 14 = .ok (.istore_n 3, 1) := by decide +kernel
theorem dT_weighs_15 : decode kT_weighs.2.1 15 = .ok (.iload_n 3, 1) := by decide +kernel
theorem dT_weighs_16 : decode kT_weighs.2.1 16 = .ok (.iconst 4, 1) := by decide +kernel
theorem dT_weighs_17 : decode kT_weighs.2.1 17 = .ok (.if_icmp .ge 116, 3) := by decide +kernel
theorem dT_weighs_20 : decode kT_weighs.2.1 20 = .ok (.iconst 0, 1) := by decide +kernel
theorem dT_weighs_21 : decode kT_weighs.2.1 21 = .ok (.istore 4, 2) := by decide +kernel
theorem dT_weighs_23 : decode kT_weighs.2.1 23 = .ok (.aload_n 0, 1) := by decide +kernel
theorem dT_weighs_24 : decode kT_weighs.2.1 24 = .ok (.iload_n 1, 1) := by decide +kernel
theorem dT_weighs_25 : decode kT_weighs.2.1 25 = .ok (.iload_n 2, 1) := by decide +kernel
theorem dT_weighs_26 : decode kT_weighs.2.1 26 = .ok (.iconst 1, 1) := by decide +kernel
theorem dT_weighs_27 : decode kT_weighs.2.1 27 = .ok (.iadd, 1) := by decide +kernel
theorem dT_weighs_28 : decode kT_weighs.2.1 28 = .ok (.invokevirtual 94, 3) := by decide +kernel
theorem dT_weighs_31 : decode kT_weighs.2.1 31 = .ok (.ifCond .eq 63, 3) := by decide +kernel
theorem dT_weighs_34 : decode kT_weighs.2.1 34 = .ok (.ldc 97, 2) := by decide +kernel
theorem dT_weighs_36 : decode kT_weighs.2.1 36 = .ok (.istore 4, 2) := by decide +kernel
theorem dT_weighs_38 : decode kT_weighs.2.1 38 = .ok (.iconst 1, 1) := by decide +kernel
theorem dT_weighs_39 : decode kT_weighs.2.1 39 = .ok (.istore 5, 2) := by decide +kernel
theorem dT_weighs_41 : decode kT_weighs.2.1 41 = .ok (.iload 5, 2) := by decide +kernel
theorem dT_weighs_43 : decode kT_weighs.2.1 43 = .ok (.iconst 4, 1) := by decide +kernel
theorem dT_weighs_44 : decode kT_weighs.2.1 44 = .ok (.if_icmp .ge 50, 3) := by decide +kernel
theorem dT_weighs_47 : decode kT_weighs.2.1 47 = .ok (.aload_n 0, 1) := by decide +kernel
theorem dT_weighs_48 : decode kT_weighs.2.1 48 = .ok (.getfield 32, 3) := by decide +kernel
theorem dT_weighs_51 : decode kT_weighs.2.1 51 = .ok (.iconst 4, 1) := by decide +kernel
theorem dT_weighs_52 : decode kT_weighs.2.1 52 = .ok (.iload_n 2, 1) := by decide +kernel
theorem dT_weighs_53 : decode kT_weighs.2.1 53 = .ok (.iconst 1, 1) := by decide +kernel
theorem dT_weighs_54 : decode kT_weighs.2.1 54 = .ok (.iadd, 1) := by decide +kernel
theorem dT_weighs_55 : decode kT_weighs.2.1 55 = .ok (.imul, 1) := by decide +kernel
theorem dT_weighs_56 : decode kT_weighs.2.1 56 = .ok (.iload 5, 2) := by decide +kernel
theorem dT_weighs_58 : decode kT_weighs.2.1 58 = .ok (.iadd, 1) := by decide +kernel
theorem dT_weighs_59 : decode kT_weighs.2.1 59 = .ok (.iaload, 1) := by decide +kernel
theorem dT_weighs_60 : decode kT_weighs.2.1 60 = .ok (.iload 5, 2) := by decide +kernel
theorem dT_weighs_62 : decode kT_weighs.2.1 62 = .ok (.iload_n 3, 1) := by decide +kernel
theorem dT_weighs_63 : decode kT_weighs.2.1 63 = .ok (.if_icmp .ne 7, 3) := by decide +kernel
theorem dT_weighs_66 : decode kT_weighs.2.1 66 = .ok (.iconst 0, 1) := by decide +kernel
theorem dT_weighs_67 : decode kT_weighs.2.1 67 = .ok (.goto 7, 3) := by decide +kernel
theorem dT_weighs_70 : decode kT_weighs.2.1 70 = .ok (.aload_n 0, 1) := by decide +kernel
theorem dT_weighs_71 : decode kT_weighs.2.1 71 = .ok (.getfield 22, 3) := by decide +kernel
theorem dT_weighs_74 : decode kT_weighs.2.1 74 = .ok (.iadd, 1) := by decide +kernel
theorem dT_weighs_75 : decode kT_weighs.2.1 75 = .ok (.istore 6, 2) := by decide +kernel
theorem dT_weighs_77 : decode kT_weighs.2.1 77 = .ok (.iload 6, 2) := by decide +kernel
theorem dT_weighs_79 : decode kT_weighs.2.1 79 = .ok (.iload 4, 2) := by decide +kernel
theorem dT_weighs_81 : decode kT_weighs.2.1 81 = .ok (.if_icmp .ge 7, 3) := by decide +kernel
theorem dT_weighs_84 : decode kT_weighs.2.1 84 = .ok (.iload 6, 2) := by decide +kernel
theorem dT_weighs_86 : decode kT_weighs.2.1 86 = .ok (.istore 4, 2) := by decide +kernel
theorem dT_weighs_88 : decode kT_weighs.2.1 88 = .ok (.iinc 5 1, 3) := by decide +kernel
theorem dT_weighs_91 : decode kT_weighs.2.1 91 = .ok (.goto (-50), 3) := by decide +kernel
theorem dT_weighs_94 : decode kT_weighs.2.1 94 = .ok (.aload_n 0, 1) := by decide +kernel
theorem dT_weighs_95 : decode kT_weighs.2.1 95 = .ok (.getfield 32, 3) := by decide +kernel
theorem dT_weighs_98 : decode kT_weighs.2.1 98 = .ok (.iconst 4, 1) := by decide +kernel
theorem dT_weighs_99 : decode kT_weighs.2.1 99 = .ok (.iload_n 2, 1) := by decide +kernel
theorem dT_weighs_100 : decode kT_weighs.2.1 100 = .ok (.imul, 1) := by decide +kernel
theorem dT_weighs_101 : decode kT_weighs.2.1 101 = .ok (.iload_n 3, 1) := by decide +kernel
theorem dT_weighs_102 : decode kT_weighs.2.1 102 = .ok (.iadd, 1) := by decide +kernel
theorem dT_weighs_103 : decode kT_weighs.2.1 103 = .ok (.aload_n 0, 1) := by decide +kernel
theorem dT_weighs_104 : decode kT_weighs.2.1 104 = .ok (.iload_n 1, 1) := by decide +kernel
theorem dT_weighs_105 : decode kT_weighs.2.1 105 = .ok (.iload_n 2, 1) := by decide +kernel
theorem dT_weighs_106 : decode kT_weighs.2.1 106 = .ok (.invokevirtual 94, 3) := by decide +kernel
theorem dT_weighs_109 : decode kT_weighs.2.1 109 = .ok (.ifCond .eq 16, 3) := by decide +kernel
theorem dT_weighs_112 : decode kT_weighs.2.1 112 = .ok (.aload_n 0, 1) := by decide +kernel
theorem dT_weighs_113 : decode kT_weighs.2.1 113 = .ok (.iload_n 1, 1) := by decide +kernel
theorem dT_weighs_114 : decode kT_weighs.2.1 114 = .ok (.iload_n 2, 1) := by decide +kernel
theorem dT_weighs_115 : decode kT_weighs.2.1 115 = .ok (.iload_n 3, 1) := by decide +kernel
theorem dT_weighs_116 : decode kT_weighs.2.1 116 = .ok (.invokevirtual 98, 3) := by decide +kernel
theorem dT_weighs_119 : decode kT_weighs.2.1 119 = .ok (.iload 4, 2) := by decide +kernel
theorem dT_weighs_121 : decode kT_weighs.2.1 121 = .ok (.iadd, 1) := by decide +kernel
theorem dT_weighs_122 : decode kT_weighs.2.1 122 = .ok (.goto 4, 3) := by decide +kernel
theorem dT_weighs_125 : decode kT_weighs.2.1 125 = .ok (.iconst 0, 1) := by decide +kernel
theorem dT_weighs_126 : decode kT_weighs.2.1 126 = .ok (.iastore, 1) := by decide +kernel
theorem dT_weighs_127 : decode kT_weighs.2.1 127 = .ok (.iinc 3 1, 3) := by decide +kernel
theorem dT_weighs_130 : decode kT_weighs.2.1 130 = .ok (.goto (-115), 3) := by decide +kernel
theorem dT_weighs_133 : decode kT_weighs.2.1 133 = .ok (.iinc 2 (-1), 3) := by decide +kernel
theorem dT_weighs_136 : decode kT_weighs.2.1 136 = .ok (.goto (-127), 3) := by decide +kernel
theorem dT_weighs_139 : decode kT_weighs.2.1 139 = .ok (.return_, 1) := by decide +kernel
theorem dT_shapes_0 : decode kT_shapes.2.1 0 = .ok (.aload_n 0, 1) := by decide +kernel
theorem dT_shapes_1 : decode kT_shapes.2.1 1 = .ok (.iload_n 1, 1) := by decide +kernel
theorem dT_shapes_2 : decode kT_shapes.2.1 2 = .ok (.invokevirtual 102, 3) := by decide +kernel
theorem dT_shapes_5 : decode kT_shapes.2.1 5 = .ok (.aload_n 0, 1) := by decide +kernel
theorem dT_shapes_6 : decode kT_shapes.2.1 6 = .ok (.iconst 0, 1) := by decide +kernel
theorem dT_shapes_7 : decode kT_shapes.2.1 7 = .ok (.putfield 106, 3) := by decide +kernel
theorem dT_shapes_10 : decode kT_shapes.2.1 10 = .ok (.aload_n 0, 1) := by decide +kernel
theorem dT_shapes_11 : decode kT_shapes.2.1 11 = .ok (.iconst 0, 1) := by decide +kernel
theorem dT_shapes_12 : decode kT_shapes.2.1 12 = .ok (.putfield 109, 3) := by decide +kernel
theorem dT_shapes_15 : decode kT_shapes.2.1 15 = .ok (.iconst 0, 1) := by decide +kernel
theorem dT_shapes_16 : decode kT_shapes.2.1 16 = .ok (.istore_n 2, 1) := by decide +kernel
theorem dT_shapes_17 : decode kT_shapes.2.1 17 = .ok (.iload_n 2, 1) := by decide +kernel
theorem dT_shapes_18 : decode kT_shapes.2.1 18 = .ok (.aload_n 0, 1) := by decide +kernel
theorem dT_shapes_19 : decode kT_shapes.2.1 19 = .ok (.getfield 7, 3) := by decide +kernel
theorem dT_shapes_22 : decode kT_shapes.2.1 22 = .ok (.iload_n 1, 1) := by decide +kernel
theorem dT_shapes_23 : decode kT_shapes.2.1 23 = .ok (.iaload, 1) := by decide +kernel
theorem dT_shapes_24 : decode kT_shapes.2.1 24 = .ok (.if_icmp .ge 222, 3) := by decide +kernel
theorem dT_shapes_27 : decode kT_shapes.2.1 27 = .ok (.aload_n 0, 1) := by decide +kernel
theorem dT_shapes_28 : decode kT_shapes.2.1 28 = .ok (.getfield 29, 3) := by decide +kernel
theorem dT_shapes_31 : decode kT_shapes.2.1 31 = .ok (.iload_n 2, 1) := by decide +kernel
theorem dT_shapes_32 : decode kT_shapes.2.1 32 = .ok (.iconst 0, 1) := by decide +kernel
theorem dT_shapes_33 : decode kT_shapes.2.1 33 = .ok (.iastore, 1) := by decide +kernel
theorem dT_shapes_34 : decode kT_shapes.2.1 34 = .ok (.aload_n 0, 1) := by decide +kernel
theorem dT_shapes_35 : decode kT_shapes.2.1 35 = .ok (.iload_n 1, 1) := by decide +kernel
theorem dT_shapes_36 : decode kT_shapes.2.1 36 = .ok (.iload_n 2, 1) := by decide +kernel
theorem dT_shapes_37 : decode kT_shapes.2.1 37 = .ok (.invokevirtual 94, 3) := by decide +kernel
theorem dT_shapes_40 : decode kT_shapes.2.1 40 = .ok (.ifCond .ne 6, 3) := by decide +kernel
theorem dT_shapes_43 : decode kT_shapes.2.1 43 = .ok (.goto 197, 3) := by decide +kernel
theorem dT_shapes_46 : decode kT_shapes.2.1 46 = .ok (.iload_n 2, 1) := by decide +kernel
theorem dT_shapes_47 : decode kT_shapes.2.1 47 = .ok (.ifCond .le 14, 3) := by decide +kernel
theorem dT_shapes_50 : decode kT_shapes.2.1 50 = .ok (.aload_n 0, 1) := by decide +kernel
theorem dT_shapes_51 : decode kT_shapes.2.1 51 = .ok (.getfield 29, 3) := by decide +kernel
theorem dT_shapes_54 : decode kT_shapes.2.1 54 = .ok (.iload_n 2, 1) := by decide +kernel
theorem dT_shapes_55 : decode kT_shapes.2.1 55 = .ok (.iconst 1, 1) := by decide +kernel
theorem dT_shapes_56 : decode kT_shapes.2.1 56 = .ok (.isub, 1) := by decide +kernel
theorem dT_shapes_57 : decode kT_shapes.2.1 57 = .ok (.iaload, 1) := by decide +kernel
theorem dT_shapes_58 : decode kT_shapes.2.1 58 = .ok (.goto 4, 3) := by decide +kernel
theorem dT_shapes_61 : decode kT_shapes.2.1 61 = .ok (.iconst 0, 1) := by decide +kernel
theorem dT_shapes_62 : decode kT_shapes.2.1 62 = .ok (.istore_n 3, 1) := by decide +kernel
theorem dT_shapes_63 : decode kT_shapes.2.1 63 = .ok (.iconst 0, 1) := by decide +kernel
theorem dT_shapes_64 : decode kT_shapes.2.1 64 = .ok (.istore 4, 2) := by decide +kernel
theorem dT_shapes_66 : decode kT_shapes.2.1 66 = .ok (.iconst 1, 1) := by decide +kernel
theorem dT_shapes_67 : decode kT_shapes.2.1 67 = .ok (.istore 5, 2) := by decide +kernel
theorem dT_shapes_69 : decode kT_shapes.2.1 69 = .ok (.iload 5, 2) := by decide +kernel
theorem dT_shapes_71 : decode kT_shapes.2.1 71 = .ok (.iconst 4, 1) := by decide +kernel
theorem dT_shapes_72 : decode kT_shapes.2.1 72 = .ok (.if_icmp .ge 77, 3) := by decide +kernel
theorem dT_shapes_75 : decode kT_shapes.2.1 75 = .ok (.aload_n 0, 1) := by decide +kernel
theorem dT_shapes_76 : decode kT_shapes.2.1 76 = .ok (.getfield 32, 3) := by decide +kernel
theorem dT_shapes_79 : decode kT_shapes.2.1 79 = .ok (.iconst 4, 1) := by decide +kernel
theorem dT_shapes_80 : decode kT_shapes.2.1 80 = .ok (.iload_n 2, 1) := by decide +kernel
theorem dT_shapes_81 : decode kT_shapes.2.1 81 = .ok (.imul, 1) := by decide +kernel
theorem dT_shapes_82 : decode kT_shapes.2.1 82 = .ok (.iload 5, 2) := by decide +kernel
theorem dT_shapes_84 : decode kT_shapes.2.1 84 = .ok (.iadd, 1) := by decide +kernel
theorem dT_shapes_85 : decode kT_shapes.2.1 85 = .ok (.iaload, 1) := by decide +kernel
theorem dT_shapes_86 : decode kT_shapes.2.1 86 = .ok (.iload 5, 2) := by decide +kernel
theorem dT_shapes_88 : decode kT_shapes.2.1 88 = .ok (.iload_n 3, 1) := by decide +kernel
theorem dT_shapes_89 : decode kT_shapes.2.1 89 = .ok (.if_icmp .ne 7, 3) := by decide +kernel
theorem dT_shapes_92 : decode kT_shapes.2.1 92 = .ok (.iconst 0, 1) := by decide +kernel
theorem dT_shapes_93 : decode kT_shapes.2.1 93 = .ok (.goto 7, 3) := by decide +kernel
theorem dT_shapes_96 : decode kT_shapes.2.1 96 = .ok (.aload_n 0, 1) := by decide +kernel
theorem dT_shapes_97 : decode kT_shapes.2.1 97 = .ok (.getfield 22, 3) := by decide +kernel
theorem dT_shapes_100 : decode kT_shapes.2.1 100 = .ok (.iadd, 1) := by decide +kernel
theorem dT_shapes_101 : decode kT_shapes.2.1 101 = .ok (.istore 6, 2) := by decide +kernel
theorem dT_shapes_103 : decode kT_shapes.2.1 103 = .ok (.iload 4, 2) := by decide +kernel
theorem dT_shapes_105 : decode kT_shapes.2.1 105 = .ok (.ifCond .eq 34, 3) := by decide +kernel
theorem dT_shapes_108 : decode kT_shapes.2.1 108 = .ok (.iload 6, 2) := by decide +kernel
theorem dT_shapes_110 : decode kT_shapes.2.1 110 = .ok (.aload_n 0, 1) := by decide +kernel
theorem dT_shapes_111 : decode kT_shapes.2.1 111 = .ok (.getfield 32, 3) := by decide +kernel
theorem dT_shapes_114 : decode kT_shapes.2.1 114 = .ok (.iconst 4, 1) := by decide +kernel
theorem dT_shapes_115 : decode kT_shapes.2.1 115 = .ok (.iload_n 2, 1) := by decide +kernel
theorem dT_shapes_116 : decode kT_shapes.2.1 116 = .ok (.imul, 1) := by decide +kernel
theorem dT_shapes_117 : decode kT_shapes.2.1 117 = .ok (.iload 4, 2) := by decide +kernel
theorem dT_shapes_119 : decode kT_shapes.2.1 119 = .ok (.iadd, 1) := by decide +kernel
theorem dT_shapes_120 : decode kT_shapes.2.1 120 = .ok (.iaload, 1) := by decide +kernel
theorem dT_shapes_121 : decode kT_shapes.2.1 121 = .ok (.iload 4, 2) := by decide +kernel
theorem dT_shapes_123 : decode kT_shapes.2.1 123 = .ok (.iload_n 3, 1) := by decide +kernel
theorem dT_shapes_124 : decode kT_shapes.2.1 124 = .ok (.if_icmp .ne 7, 3) := by decide +kernel
theorem dT_shapes_127 : decode kT_shapes.2.1 127 = .ok (.iconst 0, 1) := by decide +kernel
theorem dT_shapes_128 : decode kT_shapes.2.1 128 = .ok (.goto 7, 3) := by decide +kernel
theorem dT_shapes_131 : decode kT_shapes.2.1 131 = .ok (.aload_n 0, 1) := by decide +kernel
theorem dT_shapes_132 : decode kT_shapes.2.1 132 = .ok (.getfield 22, 3) := by decide +kernel
theorem dT_shapes_135 : decode kT_shapes.2.1 135 = .ok (.iadd, 1) := by decide +kernel
theorem dT_shapes_136 : decode kT_shapes.2.1 136 = .ok (.if_icmp .ge 7, 3) := by decide +kernel
theorem dT_shapes_139 : decode kT_shapes.2.1 139 = .ok (.iload 5, 2) := by decide +kernel
theorem dT_shapes_141 : decode kT_shapes.2.1 141 = .ok (.istore 4, 2) := by decide +kernel
theorem dT_shapes_143 : decode kT_shapes.2.1 143 = .ok (.iinc 5 1, 3) := by decide +kernel
theorem dT_shapes_146 : decode kT_shapes.2.1 146 = .ok (.goto (-77), 3) := by decide +kernel
theorem dT_shapes_149 : decode kT_shapes.2.1 149 = .ok (.aload_n 0, 1) := by decide +kernel
theorem dT_shapes_150 : decode kT_shapes.2.1 150 = .ok (.getfield 29, 3) := by decide +kernel
theorem dT_shapes_153 : decode kT_shapes.2.1 153 = .ok (.iload_n 2, 1) := by decide +kernel
theorem dT_shapes_154 : decode kT_shapes.2.1 154 = .ok (.iload 4, 2) := by decide +kernel
theorem dT_shapes_156 : decode kT_shapes.2.1 156 = .ok (.iastore, 1) := by decide +kernel
theorem dT_shapes_157 : decode kT_shapes.2.1 157 = .ok (.aload_n 0, 1) := by decide +kernel
theorem dT_shapes_158 : decode kT_shapes.2.1 158 = .ok (.dup, 1) := by decide +kernel
theorem dT_shapes_159 : decode kT_shapes.2.1 159 = .ok (.getfield 109, 3) := by decide +kernel
theorem dT_shapes_162 : decode kT_shapes.2.1 162 = .ok (.aload_n 0, 1) := by decide +kernel
theorem dT_shapes_163 : decode kT_shapes.2.1 163 = .ok (.iload_n 1, 1) := by decide +kernel
theorem dT_shapes_164 : decode kT_shapes.2.1 164 = .ok (.iload_n 2, 1) := by decide +kernel
theorem dT_shapes_165 : decode kT_shapes.2.1 165 = .ok (.iload 4, 2) := by decide +kernel
theorem dT_shapes_167 : decode kT_shapes.2.1 167 = .ok (.invokevirtual 98, 3) := by decide +kernel
theorem dT_shapes_170 : decode kT_shapes.2.1 170 = .ok (.iload 4, 2) := by decide +kernel
theorem dT_shapes_172 : decode kT_shapes.2.1 172 = .ok (.iload_n 3, 1) := by decide +kernel
theorem dT_shapes_173 : decode kT_shapes.2.1 173 = .ok (.if_icmp .ne 7, 3) := by decide +kernel
theorem dT_shapes_176 : decode kT_shapes.2.1 176 = .ok (.iconst 0, 1) := by decide +kernel
theorem dT_shapes_177 : decode kT_shapes.2.1 177 = .ok (.goto 7, 3) := by decide +kernel
theorem dT_shapes_180 : decode kT_shapes.2.1 180 = .ok (.aload_n 0, 1) := by decide +kernel
theorem dT_shapes_181 : decode kT_shapes.2.1 181 = .ok (.getfield 22, 3) := by decide +kernel
theorem dT_shapes_184 : decode kT_shapes.2.1 184 = .ok (.iadd, 1) := by decide +kernel
theorem dT_shapes_185 : decode kT_shapes.2.1 185 = .ok (.iadd, 1) := by decide +kernel
theorem dT_shapes_186 : decode kT_shapes.2.1 186 = .ok (.putfield 109, 3) := by decide +kernel
theorem dT_shapes_189 : decode kT_shapes.2.1 189 = .ok (.iload 4, 2) := by decide +kernel
theorem dT_shapes_191 : decode kT_shapes.2.1 191 = .ok (.iload_n 3, 1) := by decide +kernel
theorem dT_shapes_192 : decode kT_shapes.2.1 192 = .ok (.if_icmp .eq 34, 3) := by decide +kernel
theorem dT_shapes_195 : decode kT_shapes.2.1 195 = .ok (.aload_n 0, 1) := by decide +kernel
theorem dT_shapes_196 : decode kT_shapes.2.1 196 = .ok (.getfield 35, 3) := by decide +kernel
theorem dT_shapes_199 : decode kT_shapes.2.1 199 = .ok (.aload_n 0, 1) := by decide +kernel
theorem dT_shapes_200 : decode kT_shapes.2.1 200 = .ok (.getfield 106, 3) := by decide +kernel
theorem dT_shapes_203 : decode kT_shapes.2.1 203 = .ok (.iload 4, 2) := by decide +kernel
theorem dT_shapes_205 : decode kT_shapes.2.1 205 = .ok (.iastore, 1) := by decide +kernel
theorem dT_shapes_206 : decode kT_shapes.2.1 206 = .ok (.aload_n 0, 1) := by decide +kernel
theorem dT_shapes_207 : decode kT_shapes.2.1 207 = .ok (.getfield 38, 3) := by decide +kernel
theorem dT_shapes_210 : decode kT_shapes.2.1 210 = .ok (.aload_n 0, 1) := by decide +kernel
theorem dT_shapes_211 : decode kT_shapes.2.1 211 = .ok (.getfield 106, 3) := by decide +kernel
theorem dT_shapes_214 : decode kT_shapes.2.1 214 = .ok (.iload_n 2, 1) := by decide +kernel
theorem dT_shapes_215 : decode kT_shapes.2.1 215 = .ok (.iastore, 1) := by decide +kernel
theorem dT_shapes_216 : decode kT_shapes.2.1 216 = .ok (.aload_n 0, 1) := by decide +kernel
theorem dT_shapes_217 : decode kT_shapes.2.1 217 = .ok (.dup, 1) := by decide +kernel
theorem dT_shapes_218 : decode kT_shapes.2.1 218 = .ok (.getfield 106, 3) := by decide +kernel
theorem dT_shapes_221 : decode kT_shapes.2.1 221 = .ok (.iconst 1, 1) := by decide +kernel
theorem dT_shapes_222 : decode kT_shapes.2.1 222 = .ok (.iadd, 1) := by decide +kernel
theorem dT_shapes_223 : decode kT_shapes.2.1 223 = .ok (.putfield 106, 3) := by decide +kernel
theorem dT_shapes_226 : decode kT_shapes.2.1 226 = .ok (.aload_n 0, 1) := by decide +kernel
theorem dT_shapes_227 : decode kT_shapes.2.1 227 = .ok (.getfield 41, 3) := by decide +kernel
theorem dT_shapes_230 : decode kT_shapes.2.1 230 = .ok (.aload_n 0, 1) := by decide +kernel
theorem dT_shapes_231 : decode kT_shapes.2.1 231 = .ok (.getfield 106, 3) := by decide +kernel
theorem dT_shapes_234 : decode kT_shapes.2.1 234 = .ok (.iconst 1, 1) := by decide +kernel
theorem dT_shapes_235 : decode kT_shapes.2.1 235 = .ok (.isub, 1) := by decide +kernel
theorem dT_shapes_236 : decode kT_shapes.2.1 236 = .ok (.iload_n 2, 1) := by decide +kernel
theorem dT_shapes_237 : decode kT_shapes.2.1 237 = .ok (.iconst 1, 1) := by decide +kernel
theorem dT_shapes_238 : decode kT_shapes.2.1 238 = .ok (.iadd, 1) := by decide +kernel
theorem dT_shapes_239 : decode kT_shapes.2.1 239 = .ok (.iastore, 1) := by decide +kernel
theorem dT_shapes_240 : decode kT_shapes.2.1 240 = .ok (.iinc 2 1, 3) := by decide +kernel
theorem dT_shapes_243 : decode kT_shapes.2.1 243 = .ok (.goto (-226), 3) := by decide +kernel
theorem dT_shapes_246 : decode kT_shapes.2.1 246 = .ok (.return_, 1) := by decide +kernel
theorem dT_spans_0 : decode kT_spans.2.1 0 = .ok (.iload_n 1, 1) := by decide +kernel
theorem dT_spans_1 : decode kT_spans.2.1 1 = .ok (.invokestatic 72, 3) := by decide +kernel
theorem dT_spans_4 : decode kT_spans.2.1 4 = .ok (.ifCond .ne 5, 3) := by decide +kernel
theorem dT_spans_7 : decode kT_spans.2.1 7 = .ok (.iconst (-1), 1) := by decide +kernel
theorem dT_spans_8 : decode kT_spans.2.1 8 = .ok (.ireturn, 1) := by decide +kernel
theorem dT_spans_9 : decode kT_spans.2.1 9 = .ok (.aload_n 0, 1) := by decide +kernel
theorem dT_spans_10 : decode kT_spans.2.1 10 = .ok (.iload_n 1, 1) := by decide +kernel
theorem dT_spans_11 : decode kT_spans.2.1 11 = .ok (.invokevirtual 112, 3) := by decide +kernel
theorem dT_spans_14 : decode kT_spans.2.1 14 = .ok (.aload_n 0, 1) := by decide +kernel
theorem dT_spans_15 : decode kT_spans.2.1 15 = .ok (.getfield 106, 3) := by decide +kernel
theorem dT_spans_18 : decode kT_spans.2.1 18 = .ok (.ireturn, 1) := by decide +kernel
theorem dT_cost_0 : decode kT_cost.2.1 0 = .ok (.iload_n 1, 1) := by decide +kernel
theorem dT_cost_1 : decode kT_cost.2.1 1 = .ok (.invokestatic 72, 3) := by decide +kernel
theorem dT_cost_4 : decode kT_cost.2.1 4 = .ok (.ifCond .ne 5, 3) := by decide +kernel
theorem dT_cost_7 : decode kT_cost.2.1 7 = .ok (.iconst (-1), 1) := by decide +kernel
theorem dT_cost_8 : decode kT_cost.2.1 8 = .ok (.ireturn, 1) := by decide +kernel
theorem dT_cost_9 : decode kT_cost.2.1 9 = .ok (.aload_n 0, 1) := by decide +kernel
theorem dT_cost_10 : decode kT_cost.2.1 10 = .ok (.iload_n 1, 1) := by decide +kernel
theorem dT_cost_11 : decode kT_cost.2.1 11 = .ok (.invokevirtual 112, 3) := by decide +kernel
theorem dT_cost_14 : decode kT_cost.2.1 14 = .ok (.aload_n 0, 1) := by decide +kernel
theorem dT_cost_15 : decode kT_cost.2.1 15 = .ok (.getfield 109, 3) := by decide +kernel
theorem dT_cost_18 : decode kT_cost.2.1 18 = .ok (.ireturn, 1) := by decide +kernel
theorem dT_span_0 : decode kT_span.2.1 0 = .ok (.iload_n 1, 1) := by decide +kernel
theorem dT_span_1 : decode kT_span.2.1 1 = .ok (.invokestatic 72, 3) := by decide +kernel
theorem dT_span_4 : decode kT_span.2.1 4 = .ok (.ifCond .eq 16, 3) := by decide +kernel
theorem dT_span_7 : decode kT_span.2.1 7 = .ok (.iload_n 2, 1) := by decide +kernel
theorem dT_span_8 : decode kT_span.2.1 8 = .ok (.ifCond .lt 12, 3) := by decide +kernel
theorem dT_span_11 : decode kT_span.2.1 11 = .ok (.iload_n 3, 1) := by decide +kernel
theorem dT_span_12 : decode kT_span.2.1 12 = .ok (.ifCond .lt 8, 3) := by decide +kernel
theorem dT_span_15 : decode kT_span.2.1 15 = .ok (.iload_n 3, 1) := by decide +kernel
theorem dT_span_16 : decode kT_span.2.1 16 = .ok (.iconst 2, 1) := by decide +kernel
theorem dT_span_17 : decode kT_span.2.1 17 = .ok (.if_icmp .le 5, 3) := by decide +kernel
theorem dT_span_20 : decode kT_span.2.1 20 = .ok (.iconst (-1), 1) := by decide +kernel
theorem dT_span_21 : decode kT_span.2.1 21 = .ok (.ireturn, 1) := by decide +kernel
theorem dT_span_22 : decode kT_span.2.1 22 = .ok (.aload_n 0, 1) := by decide +kernel
theorem dT_span_23 : decode kT_span.2.1 23 = .ok (.iload_n 1, 1) := by decide +kernel
theorem dT_span_24 : decode kT_span.2.1 24 = .ok (.invokevirtual 112, 3) := by decide +kernel
theorem dT_span_27 : decode kT_span.2.1 27 = .ok (.iload_n 2, 1) := by decide +kernel
theorem dT_span_28 : decode kT_span.2.1 28 = .ok (.aload_n 0, 1) := by decide +kernel
theorem dT_span_29 : decode kT_span.2.1 29 = .ok (.getfield 106, 3) := by decide +kernel
theorem dT_span_32 : decode kT_span.2.1 32 = .ok (.if_icmp .lt 5, 3) := by decide +kernel
theorem dT_span_35 : decode kT_span.2.1 35 = .ok (.iconst (-1), 1) := by decide +kernel
theorem dT_span_36 : decode kT_span.2.1 36 = .ok (.ireturn, 1) := by decide +kernel
theorem dT_span_37 : decode kT_span.2.1 37 = .ok (.iload_n 3, 1) := by decide +kernel
theorem dT_span_38 : decode kT_span.2.1 38 = .ok (.ifCond .ne 12, 3) := by decide +kernel
theorem dT_span_41 : decode kT_span.2.1 41 = .ok (.aload_n 0, 1) := by decide +kernel
theorem dT_span_42 : decode kT_span.2.1 42 = .ok (.getfield 35, 3) := by decide +kernel
theorem dT_span_45 : decode kT_span.2.1 45 = .ok (.iload_n 2, 1) := by decide +kernel
theorem dT_span_46 : decode kT_span.2.1 46 = .ok (.iaload, 1) := by decide +kernel
theorem dT_span_47 : decode kT_span.2.1 47 = .ok (.goto 23, 3) := by decide +kernel
theorem dT_span_50 : decode kT_span.2.1 50 = .ok (.iload_n 3, 1) := by decide +kernel
theorem dT_span_51 : decode kT_span.2.1 51 = .ok (.iconst 1, 1) := by decide +kernel
theorem dT_span_52 : decode kT_span.2.1 52 = .ok (.if_icmp .ne 12, 3) := by decide +kernel
theorem dT_span_55 : decode kT_span.2.1 55 = .ok (.aload_n 0, 1) := by decide +kernel
theorem dT_span_56 : decode kT_span.2.1 56 = .ok (.getfield 38, 3) := by decide +kernel
theorem dT_span_59 : decode kT_span.2.1 59 = .ok (.iload_n 2, 1) := by decide +kernel
theorem dT_span_60 : decode kT_span.2.1 60 = .ok (.iaload, 1) := by decide +kernel
theorem dT_span_61 : decode kT_span.2.1 61 = .ok (.goto 9, 3) := by decide +kernel
theorem dT_span_64 : decode kT_span.2.1 64 = .ok (.aload_n 0, 1) := by decide +kernel
theorem dT_span_65 : decode kT_span.2.1 65 = .ok (.getfield 41, 3) := by decide +kernel
theorem dT_span_68 : decode kT_span.2.1 68 = .ok (.iload_n 2, 1) := by decide +kernel
theorem dT_span_69 : decode kT_span.2.1 69 = .ok (.iaload, 1) := by decide +kernel
theorem dT_span_70 : decode kT_span.2.1 70 = .ok (.ireturn, 1) := by decide +kernel
theorem dT_kind_0 : decode kT_kind.2.1 0 = .ok (.aload_n 0, 1) := by decide +kernel
theorem dT_kind_1 : decode kT_kind.2.1 1 = .ok (.iload_n 1, 1) := by decide +kernel
theorem dT_kind_2 : decode kT_kind.2.1 2 = .ok (.iload_n 2, 1) := by decide +kernel
theorem dT_kind_3 : decode kT_kind.2.1 3 = .ok (.invokevirtual 76, 3) := by decide +kernel
theorem dT_kind_6 : decode kT_kind.2.1 6 = .ok (.ifCond .ne 5, 3) := by decide +kernel
theorem dT_kind_9 : decode kT_kind.2.1 9 = .ok (.iconst 0, 1) := by decide +kernel
theorem dT_kind_10 : decode kT_kind.2.1 10 = .ok (.ireturn, 1) := by decide +kernel
theorem dT_kind_11 : decode kT_kind.2.1 11 = .ok (.aload_n 0, 1) := by decide +kernel
theorem dT_kind_12 : decode kT_kind.2.1 12 = .ok (.iload_n 1, 1) := by decide +kernel
theorem dT_kind_13 : decode kT_kind.2.1 13 = .ok (.invokevirtual 112, 3) := by decide +kernel
theorem dT_kind_16 : decode kT_kind.2.1 16 = .ok (.aload_n 0, 1) := by decide +kernel
theorem dT_kind_17 : decode kT_kind.2.1 17 = .ok (.getfield 29, 3) := by decide +kernel
theorem dT_kind_20 : decode kT_kind.2.1 20 = .ok (.iload_n 2, 1) := by decide +kernel
theorem dT_kind_21 : decode kT_kind.2.1 21 = .ok (.iaload, 1) := by decide +kernel
theorem dT_kind_22 : decode kT_kind.2.1 22 = .ok (.ireturn, 1) := by decide +kernel
theorem dT_size_0 : decode kT_size.2.1 0 = .ok (.iload_n 0, 1) := by decide +kernel
theorem dT_size_1 : decode kT_size.2.1 1 = .ok (.ifCond .ge 8, 3) := by decide +kernel
theorem dT_size_4 : decode kT_size.2.1 4 = .ok (.iload_n 0, 1) := by decide +kernel
theorem dT_size_5 : decode kT_size.2.1 5 = .ok (.ineg, 1) := by decide +kernel
theorem dT_size_6 : decode kT_size.2.1 6 = .ok (.goto 4, 3) := by decide +kernel
theorem dT_size_9 : decode kT_size.2.1 9 = .ok (.iload_n 0, 1) := by decide +kernel
theorem dT_size_10 : decode kT_size.2.1 10 = .ok (.ireturn, 1) := by decide +kernel
theorem dT_turnsIn_0 : decode kT_turnsIn.2.1 0 = .ok (.aload_n 0, 1) := by decide +kernel
theorem dT_turnsIn_1 : decode kT_turnsIn.2.1 1 = .ok (.iload_n 1, 1) := by decide +kernel
theorem dT_turnsIn_2 : decode kT_turnsIn.2.1 2 = .ok (.invokevirtual 112, 3) := by decide +kernel
theorem dT_turnsIn_5 : decode kT_turnsIn.2.1 5 = .ok (.aload_n 0, 1) := by decide +kernel
theorem dT_turnsIn_6 : decode kT_turnsIn.2.1 6 = .ok (.iconst 0, 1) := by decide +kernel
theorem dT_turnsIn_7 : decode kT_turnsIn.2.1 7 = .ok (.putfield 115, 3) := by decide +kernel
theorem dT_turnsIn_10 : decode kT_turnsIn.2.1 10 = .ok (.iconst 0, 1) := by decide +kernel
theorem dT_turnsIn_11 : decode kT_turnsIn.2.1 11 = .ok (.istore_n 2, 1) := by decide +kernel
theorem dT_turnsIn_12 : decode kT_turnsIn.2.1 12 = .ok (.iload_n 2, 1) := by decide +kernel
theorem dT_turnsIn_13 : decode kT_turnsIn.2.1 13 = .ok (.iconst 1, 1) := by decide +kernel
theorem dT_turnsIn_14 : decode kT_turnsIn.2.1 14 = .ok (.iadd, 1) := by decide +kernel
theorem dT_turnsIn_15 : decode kT_turnsIn.2.1 15 = .ok (.aload_n 0, 1) := by decide +kernel
theorem dT_turnsIn_16 : decode kT_turnsIn.2.1 16 = .ok (.getfield 106, 3) := by decide +kernel
theorem dT_turnsIn_19 : decode kT_turnsIn.2.1 19 = .ok (.if_icmp .ge 144, 3) := by decide +kernel
theorem dT_turnsIn_22 : decode kT_turnsIn.2.1 22 = .ok (.aload_n 0, 1) := by decide +kernel
theorem dT_turnsIn_23 : decode kT_turnsIn.2.1 23 = .ok (.getfield 41, 3) := by decide +kernel
theorem dT_turnsIn_26 : decode kT_turnsIn.2.1 26 = .ok (.iload_n 2, 1) := by decide +kernel
theorem dT_turnsIn_27 : decode kT_turnsIn.2.1 27 = .ok (.iaload, 1) := by decide +kernel
theorem dT_turnsIn_28 : decode kT_turnsIn.2.1 28 = .ok (.aload_n 0, 1) := by decide +kernel
theorem dT_turnsIn_29 : decode kT_turnsIn.2.1 29 = .ok (.getfield 38, 3) := by decide +kernel
theorem dT_turnsIn_32 : decode kT_turnsIn.2.1 32 = .ok (.iload_n 2, 1) := by decide +kernel
theorem dT_turnsIn_33 : decode kT_turnsIn.2.1 33 = .ok (.iconst 1, 1) := by decide +kernel
theorem dT_turnsIn_34 : decode kT_turnsIn.2.1 34 = .ok (.iadd, 1) := by decide +kernel
theorem dT_turnsIn_35 : decode kT_turnsIn.2.1 35 = .ok (.iaload, 1) := by decide +kernel
theorem dT_turnsIn_36 : decode kT_turnsIn.2.1 36 = .ok (.if_icmp .ne 121, 3) := by decide +kernel
theorem dT_turnsIn_39 : decode kT_turnsIn.2.1 39 = .ok (.aload_n 0, 1) := by decide +kernel
theorem dT_turnsIn_40 : decode kT_turnsIn.2.1 40 = .ok (.getfield 35, 3) := by decide +kernel
theorem dT_turnsIn_43 : decode kT_turnsIn.2.1 43 = .ok (.iload_n 2, 1) := by decide +kernel
theorem dT_turnsIn_44 : decode kT_turnsIn.2.1 44 = .ok (.iaload, 1) := by decide +kernel
theorem dT_turnsIn_45 : decode kT_turnsIn.2.1 45 = .ok (.aload_n 0, 1) := by decide +kernel
theorem dT_turnsIn_46 : decode kT_turnsIn.2.1 46 = .ok (.getfield 35, 3) := by decide +kernel
theorem dT_turnsIn_49 : decode kT_turnsIn.2.1 49 = .ok (.iload_n 2, 1) := by decide +kernel
theorem dT_turnsIn_50 : decode kT_turnsIn.2.1 50 = .ok (.iconst 1, 1) := by decide +kernel
theorem dT_turnsIn_51 : decode kT_turnsIn.2.1 51 = .ok (.iadd, 1) := by decide +kernel
theorem dT_turnsIn_52 : decode kT_turnsIn.2.1 52 = .ok (.iaload, 1) := by decide +kernel
theorem dT_turnsIn_53 : decode kT_turnsIn.2.1 53 = .ok (.iadd, 1) := by decide +kernel
theorem dT_turnsIn_54 : decode kT_turnsIn.2.1 54 = .ok (.iconst 3, 1) := by decide +kernel
theorem dT_turnsIn_55 : decode kT_turnsIn.2.1 55 = .ok (.if_icmp .eq 6, 3) := by decide +kernel
theorem dT_turnsIn_58 : decode kT_turnsIn.2.1 58 = .ok (.goto 99, 3) := by decide +kernel
theorem dT_turnsIn_61 : decode kT_turnsIn.2.1 61 = .ok (.aload_n 0, 1) := by decide +kernel
theorem dT_turnsIn_62 : decode kT_turnsIn.2.1 62 = .ok (.iload_n 1, 1) := by decide +kernel
theorem dT_turnsIn_63 : decode kT_turnsIn.2.1 63 = .ok (.aload_n 0, 1) := by decide +kernel
theorem dT_turnsIn_64 : decode kT_turnsIn.2.1 64 = .ok (.getfield 41, 3) := by decide +kernel
theorem dT_turnsIn_67 : decode kT_turnsIn.2.1 67 = .ok (.iload_n 2, 1) := by decide +kernel
theorem dT_turnsIn_68 : decode kT_turnsIn.2.1 68 = .ok (.iaload, 1) := by decide +kernel
theorem dT_turnsIn_69 : decode kT_turnsIn.2.1 69 = .ok (.invokevirtual 88, 3) := by decide +kernel
theorem dT_turnsIn_72 : decode kT_turnsIn.2.1 72 = .ok (.istore_n 3, 1) := by decide +kernel
theorem dT_turnsIn_73 : decode kT_turnsIn.2.1 73 = .ok (.iload_n 3, 1) := by decide +kernel
theorem dT_turnsIn_74 : decode kT_turnsIn.2.1 74 = .ok (.aload_n 0, 1) := by decide +kernel
theorem dT_turnsIn_75 : decode kT_turnsIn.2.1 75 = .ok (.iload_n 1, 1) := by decide +kernel
theorem dT_turnsIn_76 : decode kT_turnsIn.2.1 76 = .ok (.aload_n 0, 1) := by decide +kernel
theorem dT_turnsIn_77 : decode kT_turnsIn.2.1 77 = .ok (.getfield 38, 3) := by decide +kernel
theorem dT_turnsIn_80 : decode kT_turnsIn.2.1 80 = .ok (.iload_n 2, 1) := by decide +kernel
theorem dT_turnsIn_81 : decode kT_turnsIn.2.1 81 = .ok (.iaload, 1) := by decide +kernel
theorem dT_turnsIn_82 : decode kT_turnsIn.2.1 82 = .ok (.invokevirtual 88, 3) := by decide +kernel
theorem dT_turnsIn_85 : decode kT_turnsIn.2.1 85 = .ok (.isub, 1) := by decide +kernel
theorem dT_turnsIn_86 : decode kT_turnsIn.2.1 86 = .ok (.invokestatic 118, 3) := by decide +kernel
theorem dT_turnsIn_89 : decode kT_turnsIn.2.1 89 = .ok (.iconst 2, 1) := by decide +kernel
theorem dT_turnsIn_90 : decode kT_turnsIn.2.1 90 = .ok (.aload_n 0, 1) := by decide +kernel
theorem dT_turnsIn_91 : decode kT_turnsIn.2.1 91 = .ok (.getfield 16, 3) := by decide +kernel
theorem dT_turnsIn_94 : decode kT_turnsIn.2.1 94 = .ok (.iload_n 1, 1) := by decide +kernel
theorem dT_turnsIn_95 : decode kT_turnsIn.2.1 95 = .ok (.iaload, 1) := by decide +kernel
theorem dT_turnsIn_96 : decode kT_turnsIn.2.1 96 = .ok (.imul, 1) := by decide +kernel
theorem dT_turnsIn_97 : decode kT_turnsIn.2.1 97 = .ok (.if_icmp .le 60, 3) := by decide +kernel
theorem dT_turnsIn_100 : decode kT_turnsIn.2.1 100 = .ok (.iload_n 3, 1) := by decide +kernel
theorem dT_turnsIn_101 : decode kT_turnsIn.2.1 101 = .ok (.aload_n 0, 1) := by decide +kernel
theorem dT_turnsIn_102 : decode kT_turnsIn.2.1 102 = .ok (.iload_n 1, 1) := by decide +kernel
theorem dT_turnsIn_103 : decode kT_turnsIn.2.1 103 = .ok (.aload_n 0, 1) := by decide +kernel
theorem dT_turnsIn_104 : decode kT_turnsIn.2.1 104 = .ok (.getfield 41, 3) := by decide +kernel
theorem dT_turnsIn_107 : decode kT_turnsIn.2.1 107 = .ok (.iload_n 2, 1) := by decide +kernel
theorem dT_turnsIn_108 : decode kT_turnsIn.2.1 108 = .ok (.iconst 1, 1) := by decide +kernel
theorem dT_turnsIn_109 : decode kT_turnsIn.2.1 109 = .ok (.iadd, 1) := by decide +kernel
theorem dT_turnsIn_110 : decode kT_turnsIn.2.1 110 = .ok (.iaload, 1) := by decide +kernel
theorem dT_turnsIn_111 : decode kT_turnsIn.2.1 111 = .ok (.invokevirtual 88, 3) := by decide +kernel
theorem dT_turnsIn_114 : decode kT_turnsIn.2.1 114 = .ok (.isub, 1) := by decide +kernel
theorem dT_turnsIn_115 : decode kT_turnsIn.2.1 115 = .ok (.invokestatic 118, 3) := by decide +kernel
theorem dT_turnsIn_118 : decode kT_turnsIn.2.1 118 = .ok (.iconst 2, 1) := by decide +kernel
theorem dT_turnsIn_119 : decode kT_turnsIn.2.1 119 = .ok (.aload_n 0, 1) := by decide +kernel
theorem dT_turnsIn_120 : decode kT_turnsIn.2.1 120 = .ok (.getfield 16, 3) := by decide +kernel
theorem dT_turnsIn_123 : decode kT_turnsIn.2.1 123 = .ok (.iload_n 1, 1) := by decide +kernel
theorem dT_turnsIn_124 : decode kT_turnsIn.2.1 124 = .ok (.iaload, 1) := by decide +kernel
theorem dT_turnsIn_125 : decode kT_turnsIn.2.1 125 = .ok (.imul, 1) := by decide +kernel
theorem dT_turnsIn_126 : decode kT_turnsIn.2.1 126 = .ok (.if_icmp .gt 6, 3) := by decide +kernel
theorem dT_turnsIn_129 : decode kT_turnsIn.2.1 129 = .ok (.goto 28, 3) := by decide +kernel
theorem dT_turnsIn_132 : decode kT_turnsIn.2.1 132 = .ok (.aload_n 0, 1) := by decide +kernel
theorem dT_turnsIn_133 : decode kT_turnsIn.2.1 133 = .ok (.getfield 44, 3) := by decide +kernel
theorem dT_turnsIn_136 : decode kT_turnsIn.2.1 136 = .ok (.aload_n 0, 1) := by decide +kernel
theorem dT_turnsIn_137 : decode kT_turnsIn.2.1 137 = .ok (.getfield 115, 3) := by decide +kernel
theorem dT_turnsIn_140 : decode kT_turnsIn.2.1 140 = .ok (.aload_n 0, 1) := by decide +kernel
theorem dT_turnsIn_141 : decode kT_turnsIn.2.1 141 = .ok (.getfield 41, 3) := by decide +kernel
theorem dT_turnsIn_144 : decode kT_turnsIn.2.1 144 = .ok (.iload_n 2, 1) := by decide +kernel
theorem dT_turnsIn_145 : decode kT_turnsIn.2.1 145 = .ok (.iaload, 1) := by decide +kernel
theorem dT_turnsIn_146 : decode kT_turnsIn.2.1 146 = .ok (.iastore, 1) := by decide +kernel
theorem dT_turnsIn_147 : decode kT_turnsIn.2.1 147 = .ok (.aload_n 0, 1) := by decide +kernel
theorem dT_turnsIn_148 : decode kT_turnsIn.2.1 148 = .ok (.dup, 1) := by decide +kernel
theorem dT_turnsIn_149 : decode kT_turnsIn.2.1 149 = .ok (.getfield 115, 3) := by decide +kernel
theorem dT_turnsIn_152 : decode kT_turnsIn.2.1 152 = .ok (.iconst 1, 1) := by decide +kernel
theorem dT_turnsIn_153 : decode kT_turnsIn.2.1 153 = .ok (.iadd, 1) := by decide +kernel
theorem dT_turnsIn_154 : decode kT_turnsIn.2.1 154 = .ok (.putfield 115, 3) := by decide +kernel
theorem dT_turnsIn_157 : decode kT_turnsIn.2.1 157 = .ok (.iinc 2 1, 3) := by decide +kernel
theorem dT_turnsIn_160 : decode kT_turnsIn.2.1 160 = .ok (.goto (-148), 3) := by decide +kernel
theorem dT_turnsIn_163 : decode kT_turnsIn.2.1 163 = .ok (.return_, 1) := by decide +kernel
theorem dT_turnsOf_0 : decode kT_turnsOf.2.1 0 = .ok (.iload_n 1, 1) := by decide +kernel
theorem dT_turnsOf_1 : decode kT_turnsOf.2.1 1 = .ok (.invokestatic 72, 3) := by decide +kernel
theorem dT_turnsOf_4 : decode kT_turnsOf.2.1 4 = .ok (.ifCond .ne 5, 3) := by decide +kernel
theorem dT_turnsOf_7 : decode kT_turnsOf.2.1 7 = .ok (.iconst (-1), 1) := by decide +kernel
theorem dT_turnsOf_8 : decode kT_turnsOf.2.1 8 = .ok (.ireturn, 1) := by decide +kernel
theorem dT_turnsOf_9 : decode kT_turnsOf.2.1 9 = .ok (.aload_n 0, 1) := by decide +kernel
theorem dT_turnsOf_10 : decode kT_turnsOf.2.1 10 = .ok (.iload_n 1, 1) := by decide +kernel
theorem dT_turnsOf_11 : decode kT_turnsOf.2.1 11 = .ok (.invokevirtual 122, 3) := by decide +kernel
theorem dT_turnsOf_14 : decode kT_turnsOf.2.1 14 = .ok (.aload_n 0, 1) := by decide +kernel
theorem dT_turnsOf_15 : decode kT_turnsOf.2.1 15 = .ok (.getfield 115, 3) := by decide +kernel
theorem dT_turnsOf_18 : decode kT_turnsOf.2.1 18 = .ok (.ireturn, 1) := by decide +kernel
theorem dT_turn_0 : decode kT_turn.2.1 0 = .ok (.iload_n 1, 1) := by decide +kernel
theorem dT_turn_1 : decode kT_turn.2.1 1 = .ok (.invokestatic 72, 3) := by decide +kernel
theorem dT_turn_4 : decode kT_turn.2.1 4 = .ok (.ifCond .eq 7, 3) := by decide +kernel
theorem dT_turn_7 : decode kT_turn.2.1 7 = .ok (.iload_n 2, 1) := by decide +kernel
theorem dT_turn_8 : decode kT_turn.2.1 8 = .ok (.ifCond .ge 5, 3) := by decide +kernel
theorem dT_turn_11 : decode kT_turn.2.1 11 = .ok (.iconst (-1), 1) := by decide +kernel
theorem dT_turn_12 : decode kT_turn.2.1 12 = .ok (.ireturn, 1) := by decide +kernel
theorem dT_turn_13 : decode kT_turn.2.1 13 = .ok (.aload_n 0, 1) := by decide +kernel
theorem dT_turn_14 : decode kT_turn.2.1 14 = .ok (.iload_n 1, 1) := by decide +kernel
theorem dT_turn_15 : decode kT_turn.2.1 15 = .ok (.invokevirtual 122, 3) := by decide +kernel
theorem dT_turn_18 : decode kT_turn.2.1 18 = .ok (.iload_n 2, 1) := by decide +kernel
theorem dT_turn_19 : decode kT_turn.2.1 19 = .ok (.aload_n 0, 1) := by decide +kernel
theorem dT_turn_20 : decode kT_turn.2.1 20 = .ok (.getfield 115, 3) := by decide +kernel
theorem dT_turn_23 : decode kT_turn.2.1 23 = .ok (.if_icmp .ge 12, 3) := by decide +kernel
theorem dT_turn_26 : decode kT_turn.2.1 26 = .ok (.aload_n 0, 1) := by decide +kernel
theorem dT_turn_27 : decode kT_turn.2.1 27 = .ok (.getfield 44, 3) := by decide +kernel
theorem dT_turn_30 : decode kT_turn.2.1 30 = .ok (.iload_n 2, 1) := by decide +kernel
theorem dT_turn_31 : decode kT_turn.2.1 31 = .ok (.iaload, 1) := by decide +kernel
theorem dT_turn_32 : decode kT_turn.2.1 32 = .ok (.goto 4, 3) := by decide +kernel
theorem dT_turn_35 : decode kT_turn.2.1 35 = .ok (.iconst (-1), 1) := by decide +kernel
theorem dT_turn_36 : decode kT_turn.2.1 36 = .ok (.ireturn, 1) := by decide +kernel
theorem dT_sure_0 : decode kT_sure.2.1 0 = .ok (.iload_n 1, 1) := by decide +kernel
theorem dT_sure_1 : decode kT_sure.2.1 1 = .ok (.invokestatic 72, 3) := by decide +kernel
theorem dT_sure_4 : decode kT_sure.2.1 4 = .ok (.ifCond .eq 33, 3) := by decide +kernel
theorem dT_sure_7 : decode kT_sure.2.1 7 = .ok (.iload_n 2, 1) := by decide +kernel
theorem dT_sure_8 : decode kT_sure.2.1 8 = .ok (.invokestatic 72, 3) := by decide +kernel
theorem dT_sure_11 : decode kT_sure.2.1 11 = .ok (.ifCond .eq 26, 3) := by decide +kernel
theorem dT_sure_14 : decode kT_sure.2.1 14 = .ok (.iload_n 1, 1) := by decide +kernel
theorem dT_sure_15 : decode kT_sure.2.1 15 = .ok (.iload_n 2, 1) := by decide +kernel
theorem dT_sure_16 : decode kT_sure.2.1 16 = .ok (.if_icmp .eq 21, 3) := by decide +kernel
theorem dT_sure_19 : decode kT_sure.2.1 19 = .ok (.aload_n 0, 1) := by decide +kernel
theorem dT_sure_20 : decode kT_sure.2.1 20 = .ok (.iload_n 1, 1) := by decide +kernel
theorem dT_sure_21 : decode kT_sure.2.1 21 = .ok (.iload_n 3, 1) := by decide +kernel
theorem dT_sure_22 : decode kT_sure.2.1 22 = .ok (.invokevirtual 91, 3) := by decide +kernel
theorem dT_sure_25 : decode kT_sure.2.1 25 = .ok (.ifCond .eq 12, 3) := by decide +kernel
theorem dT_sure_28 : decode kT_sure.2.1 28 = .ok (.aload_n 0, 1) := by decide +kernel
theorem dT_sure_29 : decode kT_sure.2.1 29 = .ok (.iload_n 2, 1) := by decide +kernel
theorem dT_sure_30 : decode kT_sure.2.1 30 = .ok (.iload_n 3, 1) := by decide +kernel
theorem dT_sure_31 : decode kT_sure.2.1 31 = .ok (.invokevirtual 91, 3) := by decide +kernel
theorem dT_sure_34 : decode kT_sure.2.1 34 = .ok (.ifCond .ne 6, 3) := by decide +kernel
theorem dT_sure_37 : decode kT_sure.2.1 37 = .ok (.bipush (-2), 2) := by decide +kernel
theorem dT_sure_39 : decode kT_sure.2.1 39 = .ok (.ireturn, 1) := by decide +kernel
theorem dT_sure_40 : decode kT_sure.2.1 40 = .ok (.aload_n 0, 1) := by decide +kernel
theorem dT_sure_41 : decode kT_sure.2.1 41 = .ok (.iload_n 1, 1) := by decide +kernel
theorem dT_sure_42 : decode kT_sure.2.1 42 = .ok (.iload_n 3, 1) := by decide +kernel
theorem dT_sure_43 : decode kT_sure.2.1 43 = .ok (.invokevirtual 88, 3) := by decide +kernel
theorem dT_sure_46 : decode kT_sure.2.1 46 = .ok (.aload_n 0, 1) := by decide +kernel
theorem dT_sure_47 : decode kT_sure.2.1 47 = .ok (.iload_n 2, 1) := by decide +kernel
theorem dT_sure_48 : decode kT_sure.2.1 48 = .ok (.iload_n 3, 1) := by decide +kernel
theorem dT_sure_49 : decode kT_sure.2.1 49 = .ok (.invokevirtual 88, 3) := by decide +kernel
theorem dT_sure_52 : decode kT_sure.2.1 52 = .ok (.isub, 1) := by decide +kernel
theorem dT_sure_53 : decode kT_sure.2.1 53 = .ok (.istore 4, 2) := by decide +kernel
theorem dT_sure_55 : decode kT_sure.2.1 55 = .ok (.aload_n 0, 1) := by decide +kernel
theorem dT_sure_56 : decode kT_sure.2.1 56 = .ok (.getfield 16, 3) := by decide +kernel
theorem dT_sure_59 : decode kT_sure.2.1 59 = .ok (.iload_n 1, 1) := by decide +kernel
theorem dT_sure_60 : decode kT_sure.2.1 60 = .ok (.iaload, 1) := by decide +kernel
theorem dT_sure_61 : decode kT_sure.2.1 61 = .ok (.aload_n 0, 1) := by decide +kernel
theorem dT_sure_62 : decode kT_sure.2.1 62 = .ok (.getfield 16, 3) := by decide +kernel
theorem dT_sure_65 : decode kT_sure.2.1 65 = .ok (.iload_n 2, 1) := by decide +kernel
theorem dT_sure_66 : decode kT_sure.2.1 66 = .ok (.iaload, 1) := by decide +kernel
theorem dT_sure_67 : decode kT_sure.2.1 67 = .ok (.iadd, 1) := by decide +kernel
theorem dT_sure_68 : decode kT_sure.2.1 68 = .ok (.istore 5, 2) := by decide +kernel
theorem dT_sure_70 : decode kT_sure.2.1 70 = .ok (.iload 4, 2) := by decide +kernel
theorem dT_sure_72 : decode kT_sure.2.1 72 = .ok (.iload 5, 2) := by decide +kernel
theorem dT_sure_74 : decode kT_sure.2.1 74 = .ok (.if_icmp .le 7, 3) := by decide +kernel
theorem dT_sure_77 : decode kT_sure.2.1 77 = .ok (.iconst 1, 1) := by decide +kernel
theorem dT_sure_78 : decode kT_sure.2.1 78 = .ok (.goto 16, 3) := by decide +kernel
theorem dT_sure_81 : decode kT_sure.2.1 81 = .ok (.iload 4, 2) := by decide +kernel
theorem dT_sure_83 : decode kT_sure.2.1 83 = .ok (.ineg, 1) := by decide +kernel
theorem dT_sure_84 : decode kT_sure.2.1 84 = .ok (.iload 5, 2) := by decide +kernel
theorem dT_sure_86 : decode kT_sure.2.1 86 = .ok (.if_icmp .le 7, 3) := by decide +kernel
theorem dT_sure_89 : decode kT_sure.2.1 89 = .ok (.iconst (-1), 1) := by decide +kernel
theorem dT_sure_90 : decode kT_sure.2.1 90 = .ok (.goto 4, 3) := by decide +kernel
theorem dT_sure_93 : decode kT_sure.2.1 93 = .ok (.iconst 0, 1) := by decide +kernel
theorem dT_sure_94 : decode kT_sure.2.1 94 = .ok (.ireturn, 1) := by decide +kernel
theorem dT_crosses_0 : decode kT_crosses.2.1 0 = .ok (.aload_n 0, 1) := by decide +kernel
theorem dT_crosses_1 : decode kT_crosses.2.1 1 = .ok (.iconst 0, 1) := by decide +kernel
theorem dT_crosses_2 : decode kT_crosses.2.1 2 = .ok (.putfield 125, 3) := by decide +kernel
theorem dT_crosses_5 : decode kT_crosses.2.1 5 = .ok (.iconst 0, 1) := by decide +kernel
theorem dT_crosses_6 : decode kT_crosses.2.1 6 = .ok (.istore_n 3, 1) := by decide +kernel
theorem dT_crosses_7 : decode kT_crosses.2.1 7 = .ok (.iconst 0, 1) := by decide +kernel
theorem dT_crosses_8 : decode kT_crosses.2.1 8 = .ok (.istore 4, 2) := by decide +kernel
theorem dT_crosses_10 : decode kT_crosses.2.1 10 = .ok (.iload 4, 2) := by decide +kernel
theorem dT_crosses_12 : decode kT_crosses.2.1 12 = .ok (.bipush 40, 2) := by decide +kernel
theorem dT_crosses_14 : decode kT_crosses.2.1 14 = .ok (.if_icmp .ge 74, 3) := by decide +kernel
theorem dT_crosses_17 : decode kT_crosses.2.1 17 = .ok (.aload_n 0, 1) := by decide +kernel
theorem dT_crosses_18 : decode kT_crosses.2.1 18 = .ok (.iload_n 1, 1) := by decide +kernel
theorem dT_crosses_19 : decode kT_crosses.2.1 19 = .ok (.iload_n 2, 1) := by decide +kernel
theorem dT_crosses_20 : decode kT_crosses.2.1 20 = .ok (.iload 4, 2) := by decide +kernel
theorem dT_crosses_22 : decode kT_crosses.2.1 22 = .ok (.invokevirtual 128, 3) := by decide +kernel
theorem dT_crosses_25 : decode kT_crosses.2.1 25 = .ok (.istore 5, 2) := by decide +kernel
theorem dT_crosses_27 : decode kT_crosses.2.1 27 = .ok (.iload 5, 2) := by decide +kernel
theorem dT_crosses_29 : decode kT_crosses.2.1 29 = .ok (.bipush (-2), 2) := by decide +kernel
theorem dT_crosses_31 : decode kT_crosses.2.1 31 = .ok (.if_icmp .ne 5, 3) := by decide +kernel
theorem dT_crosses_34 : decode kT_crosses.2.1 34 = .ok (.iconst 0, 1) := by decide +kernel
theorem dT_crosses_35 : decode kT_crosses.2.1 35 = .ok (.istore_n 3, 1) := by decide +kernel
theorem dT_crosses_36 : decode kT_crosses.2.1 36 = .ok (.iload 5, 2) := by decide +kernel
theorem dT_crosses_38 : decode kT_crosses.2.1 38 = .ok (.iconst 1, 1) := by decide +kernel
theorem dT_crosses_39 : decode kT_crosses.2.1 39 = .ok (.if_icmp .eq 12, 3) := by decide +kernel
theorem dT_crosses_42 : decode kT_crosses.2.1 42 = .ok (.iload 5, 2) := by decide +kernel
theorem dT_crosses_44 : decode kT_crosses.2.1 44 = .ok (.iconst (-1), 1) := by decide +kernel
theorem dT_crosses_45 : decode kT_crosses.2.1 45 = .ok (.if_icmp .eq 6, 3) := by decide +kernel
theorem dT_crosses_48 : decode kT_crosses.2.1 48 = .ok (.goto 34, 3) := by decide +kernel
theorem dT_crosses_51 : decode kT_crosses.2.1 51 = .ok (.iload_n 3, 1) := by decide +kernel
theorem dT_crosses_52 : decode kT_crosses.2.1 52 = .ok (.iload 5, 2) := by decide +kernel
theorem dT_crosses_54 : decode kT_crosses.2.1 54 = .ok (.ineg, 1) := by decide +kernel
theorem dT_crosses_55 : decode kT_crosses.2.1 55 = .ok (.if_icmp .ne 24, 3) := by decide +kernel
theorem dT_crosses_58 : decode kT_crosses.2.1 58 = .ok (.aload_n 0, 1) := by decide +kernel
theorem dT_crosses_59 : decode kT_crosses.2.1 59 = .ok (.getfield 47, 3) := by decide +kernel
theorem dT_crosses_62 : decode kT_crosses.2.1 62 = .ok (.aload_n 0, 1) := by decide +kernel
theorem dT_crosses_63 : decode kT_crosses.2.1 63 = .ok (.getfield 125, 3) := by decide +kernel
theorem dT_crosses_66 : decode kT_crosses.2.1 66 = .ok (.iload 4, 2) := by decide +kernel
theorem dT_crosses_68 : decode kT_crosses.2.1 68 = .ok (.iastore, 1) := by decide +kernel
theorem dT_crosses_69 : decode kT_crosses.2.1 69 = .ok (.aload_n 0, 1) := by decide +kernel
theorem dT_crosses_70 : decode kT_crosses.2.1 70 = .ok (.dup, 1) := by decide +kernel
theorem dT_crosses_71 : decode kT_crosses.2.1 71 = .ok (.getfield 125, 3) := by decide +kernel
theorem dT_crosses_74 : decode kT_crosses.2.1 74 = .ok (.iconst 1, 1) := by decide +kernel
theorem dT_crosses_75 : decode kT_crosses.2.1 75 = .ok (.iadd, 1) := by decide +kernel
theorem dT_crosses_76 : decode kT_crosses.2.1 76 = .ok (.putfield 125, 3) := by decide +kernel
theorem dT_crosses_79 : decode kT_crosses.2.1 79 = .ok (.iload 5, 2) := by decide +kernel
theorem dT_crosses_81 : decode kT_crosses.2.1 81 = .ok (.istore_n 3, 1) := by decide +kernel
theorem dT_crosses_82 : decode kT_crosses.2.1 82 = .ok (.iinc 4 1, 3) := by decide +kernel
theorem dT_crosses_85 : decode kT_crosses.2.1 85 = .ok (.goto (-75), 3) := by decide +kernel
theorem dT_crosses_88 : decode kT_crosses.2.1 88 = .ok (.return_, 1) := by decide +kernel
theorem dT_crossings_0 : decode kT_crossings.2.1 0 = .ok (.iload_n 1, 1) := by decide +kernel
theorem dT_crossings_1 : decode kT_crossings.2.1 1 = .ok (.invokestatic 72, 3) := by decide +kernel
theorem dT_crossings_4 : decode kT_crossings.2.1 4 = .ok (.ifCond .eq 15, 3) := by decide +kernel
theorem dT_crossings_7 : decode kT_crossings.2.1 7 = .ok (.iload_n 2, 1) := by decide +kernel
theorem dT_crossings_8 : decode kT_crossings.2.1 8 = .ok (.invokestatic 72, 3) := by decide +kernel
theorem dT_crossings_11 : decode kT_crossings.2.1 11 = .ok (.ifCond .eq 8, 3) := by decide +kernel
theorem dT_crossings_14 : decode kT_crossings.2.1 14 = .ok (.iload_n 1, 1) := by decide +kernel
theorem dT_crossings_15 : decode kT_crossings.2.1 15 = .ok (.iload_n 2, 1) := by decide +kernel
theorem dT_crossings_16 : decode kT_crossings.2.1 16 = .ok (.if_icmp .ne 5, 3) := by decide +kernel
theorem dT_crossings_19 : decode kT_crossings.2.1 19 = .ok (.iconst (-1), 1) := by decide +kernel
theorem dT_crossings_20 : decode kT_crossings.2.1 20 = .ok (.ireturn, 1) := by decide +kernel
theorem dT_crossings_21 : decode kT_crossings.2.1 21 = .ok (.aload_n 0, 1) := by decide +kernel
theorem dT_crossings_22 : decode kT_crossings.2.1 22 = .ok (.iload_n 1, 1) := by decide +kernel
theorem dT_crossings_23 : decode kT_crossings.2.1 23 = .ok (.iload_n 2, 1) := by decide +kernel
theorem dT_crossings_24 : decode kT_crossings.2.1 24 = .ok (.invokevirtual 131, 3) := by decide +kernel
theorem dT_crossings_27 : decode kT_crossings.2.1 27 = .ok (.aload_n 0, 1) := by decide +kernel
theorem dT_crossings_28 : decode kT_crossings.2.1 28 = .ok (.getfield 125, 3) := by decide +kernel
theorem dT_crossings_31 : decode kT_crossings.2.1 31 = .ok (.ireturn, 1) := by decide +kernel
theorem dT_crossing_0 : decode kT_crossing.2.1 0 = .ok (.iload_n 1, 1) := by decide +kernel
theorem dT_crossing_1 : decode kT_crossing.2.1 1 = .ok (.invokestatic 72, 3) := by decide +kernel
theorem dT_crossing_4 : decode kT_crossing.2.1 4 = .ok (.ifCond .eq 19, 3) := by decide +kernel
theorem dT_crossing_7 : decode kT_crossing.2.1 7 = .ok (.iload_n 2, 1) := by decide +kernel
theorem dT_crossing_8 : decode kT_crossing.2.1 8 = .ok (.invokestatic 72, 3) := by decide +kernel
theorem dT_crossing_11 : decode kT_crossing.2.1 11 = .ok (.ifCond .eq 12, 3) := by decide +kernel
theorem dT_crossing_14 : decode kT_crossing.2.1 14 = .ok (.iload_n 1, 1) := by decide +kernel
theorem dT_crossing_15 : decode kT_crossing.2.1 15 = .ok (.iload_n 2, 1) := by decide +kernel
theorem dT_crossing_16 : decode kT_crossing.2.1 16 = .ok (.if_icmp .eq 7, 3) := by decide +kernel
theorem dT_crossing_19 : decode kT_crossing.2.1 19 = .ok (.iload_n 3, 1) := by decide +kernel
theorem dT_crossing_20 : decode kT_crossing.2.1 20 = .ok (.ifCond .ge 5, 3) := by decide +kernel
theorem dT_crossing_23 : decode kT_crossing.2.1 23 = .ok (.iconst (-1), 1) := by decide +kernel
theorem dT_crossing_24 : decode kT_crossing.2.1 24 = .ok (.ireturn, 1) := by decide +kernel
theorem dT_crossing_25 : decode kT_crossing.2.1 25 = .ok (.aload_n 0, 1) := by decide +kernel
theorem dT_crossing_26 : decode kT_crossing.2.1 26 = .ok (.iload_n 1, 1) := by decide +kernel
theorem dT_crossing_27 : decode kT_crossing.2.1 27 = .ok (.iload_n 2, 1) := by decide +kernel
theorem dT_crossing_28 : decode kT_crossing.2.1 28 = .ok (.invokevirtual 131, 3) := by decide +kernel
theorem dT_crossing_31 : decode kT_crossing.2.1 31 = .ok (.iload_n 3, 1) := by decide +kernel
theorem dT_crossing_32 : decode kT_crossing.2.1 32 = .ok (.aload_n 0, 1) := by decide +kernel
theorem dT_crossing_33 : decode kT_crossing.2.1 33 = .ok (.getfield 125, 3) := by decide +kernel
theorem dT_crossing_36 : decode kT_crossing.2.1 36 = .ok (.if_icmp .ge 12, 3) := by decide +kernel
theorem dT_crossing_39 : decode kT_crossing.2.1 39 = .ok (.aload_n 0, 1) := by decide +kernel
theorem dT_crossing_40 : decode kT_crossing.2.1 40 = .ok (.getfield 47, 3) := by decide +kernel
theorem dT_crossing_43 : decode kT_crossing.2.1 43 = .ok (.iload_n 3, 1) := by decide +kernel
theorem dT_crossing_44 : decode kT_crossing.2.1 44 = .ok (.iaload, 1) := by decide +kernel
theorem dT_crossing_45 : decode kT_crossing.2.1 45 = .ok (.goto 4, 3) := by decide +kernel
theorem dT_crossing_48 : decode kT_crossing.2.1 48 = .ok (.iconst (-1), 1) := by decide +kernel
theorem dT_crossing_49 : decode kT_crossing.2.1 49 = .ok (.ireturn, 1) := by decide +kernel
theorem dT_ends_0 : decode kT_ends.2.1 0 = .ok (.iconst 0, 1) := by decide +kernel
theorem dT_ends_1 : decode kT_ends.2.1 1 = .ok (.istore_n 1, 1) := by decide +kernel
theorem dT_ends_2 : decode kT_ends.2.1 2 = .ok (.iconst 0, 1) := by decide +kernel
theorem dT_ends_3 : decode kT_ends.2.1 3 = .ok (.istore_n 2, 1) := by decide +kernel
theorem dT_ends_4 : decode kT_ends.2.1 4 = .ok (.iload_n 2, 1) := by decide +kernel
theorem dT_ends_5 : decode kT_ends.2.1 5 = .ok (.iconst 4, 1) := by decide +kernel
theorem dT_ends_6 : decode kT_ends.2.1 6 = .ok (.if_icmp .ge 87, 3) := by decide +kernel
theorem dT_ends_9 : decode kT_ends.2.1 9 = .ok (.iconst 0, 1) := by decide +kernel
theorem dT_ends_10 : decode kT_ends.2.1 10 = .ok (.istore_n 3, 1) := by decide +kernel
theorem dT_ends_11 : decode kT_ends.2.1 11 = .ok (.iload_n 3, 1) := by decide +kernel
theorem dT_ends_12 : decode kT_ends.2.1 12 = .ok (.aload_n 0, 1) := by decide +kernel
theorem dT_ends_13 : decode kT_ends.2.1 13 = .ok (.getfield 7, 3) := by decide +kernel
theorem dT_ends_16 : decode kT_ends.2.1 16 = .ok (.iload_n 2, 1) := by decide +kernel
theorem dT_ends_17 : decode kT_ends.2.1 17 = .ok (.iaload, 1) := by decide +kernel
theorem dT_ends_18 : decode kT_ends.2.1 18 = .ok (.if_icmp .ge 69, 3) := by decide +kernel
theorem dT_ends_21 : decode kT_ends.2.1 21 = .ok (.aload_n 0, 1) := by decide +kernel
theorem dT_ends_22 : decode kT_ends.2.1 22 = .ok (.iload_n 2, 1) := by decide +kernel
theorem dT_ends_23 : decode kT_ends.2.1 23 = .ok (.iload_n 3, 1) := by decide +kernel
theorem dT_ends_24 : decode kT_ends.2.1 24 = .ok (.invokevirtual 91, 3) := by decide +kernel
theorem dT_ends_27 : decode kT_ends.2.1 27 = .ok (.ifCond .ne 6, 3) := by decide +kernel
theorem dT_ends_30 : decode kT_ends.2.1 30 = .ok (.goto 51, 3) := by decide +kernel
theorem dT_ends_33 : decode kT_ends.2.1 33 = .ok (.aload_n 0, 1) := by decide +kernel
theorem dT_ends_34 : decode kT_ends.2.1 34 = .ok (.iload_n 2, 1) := by decide +kernel
theorem dT_ends_35 : decode kT_ends.2.1 35 = .ok (.iload_n 3, 1) := by decide +kernel
theorem dT_ends_36 : decode kT_ends.2.1 36 = .ok (.invokevirtual 88, 3) := by decide +kernel
theorem dT_ends_39 : decode kT_ends.2.1 39 = .ok (.istore 4, 2) := by decide +kernel
theorem dT_ends_41 : decode kT_ends.2.1 41 = .ok (.iload_n 1, 1) := by decide +kernel
theorem dT_ends_42 : decode kT_ends.2.1 42 = .ok (.ifCond .eq 12, 3) := by decide +kernel
theorem dT_ends_45 : decode kT_ends.2.1 45 = .ok (.iload 4, 2) := by decide +kernel
theorem dT_ends_47 : decode kT_ends.2.1 47 = .ok (.aload_n 0, 1) := by decide +kernel
theorem dT_ends_48 : decode kT_ends.2.1 48 = .ok (.getfield 135, 3) := by decide +kernel
theorem dT_ends_51 : decode kT_ends.2.1 51 = .ok (.if_icmp .ge 9, 3) := by decide +kernel
theorem dT_ends_54 : decode kT_ends.2.1 54 = .ok (.aload_n 0, 1) := by decide +kernel
theorem dT_ends_55 : decode kT_ends.2.1 55 = .ok (.iload 4, 2) := by decide +kernel
theorem dT_ends_57 : decode kT_ends.2.1 57 = .ok (.putfield 135, 3) := by decide +kernel
theorem dT_ends_60 : decode kT_ends.2.1 60 = .ok (.iload_n 1, 1) := by decide +kernel
theorem dT_ends_61 : decode kT_ends.2.1 61 = .ok (.ifCond .eq 12, 3) := by decide +kernel
theorem dT_ends_64 : decode kT_ends.2.1 64 = .ok (.iload 4, 2) := by decide +kernel
theorem dT_ends_66 : decode kT_ends.2.1 66 = .ok (.aload_n 0, 1) := by decide +kernel
theorem dT_ends_67 : decode kT_ends.2.1 67 = .ok (.getfield 138, 3) := by decide +kernel
theorem dT_ends_70 : decode kT_ends.2.1 70 = .ok (.if_icmp .le 9, 3) := by decide +kernel
theorem dT_ends_73 : decode kT_ends.2.1 73 = .ok (.aload_n 0, 1) := by decide +kernel
theorem dT_ends_74 : decode kT_ends.2.1 74 = .ok (.iload 4, 2) := by decide +kernel
theorem dT_ends_76 : decode kT_ends.2.1 76 = .ok (.putfield 138, 3) := by decide +kernel
theorem dT_ends_79 : decode kT_ends.2.1 79 = .ok (.iconst 1, 1) := by decide +kernel
theorem dT_ends_80 : decode kT_ends.2.1 80 = .ok (.istore_n 1, 1) := by decide +kernel
theorem dT_ends_81 : decode kT_ends.2.1 81 = .ok (.iinc 3 1, 3) := by decide +kernel
theorem dT_ends_84 : decode kT_ends.2.1 84 = .ok (.goto (-73), 3) := by decide +kernel
theorem dT_ends_87 : decode kT_ends.2.1 87 = .ok (.iinc 2 1, 3) := by decide +kernel
theorem dT_ends_90 : decode kT_ends.2.1 90 = .ok (.goto (-86), 3) := by decide +kernel
theorem dT_ends_93 : decode kT_ends.2.1 93 = .ok (.iload_n 1, 1) := by decide +kernel
theorem dT_ends_94 : decode kT_ends.2.1 94 = .ok (.ireturn, 1) := by decide +kernel
theorem dT_scale_0 : decode kT_scale.2.1 0 = .ok (.iload_n 1, 1) := by decide +kernel
theorem dT_scale_1 : decode kT_scale.2.1 1 = .ok (.iconst 1, 1) := by decide +kernel
theorem dT_scale_2 : decode kT_scale.2.1 2 = .ok (.sipush 2000, 3) := by decide +kernel
theorem dT_scale_5 : decode kT_scale.2.1 5 = .ok (.invokestatic 80, 3) := by decide +kernel
theorem dT_scale_8 : decode kT_scale.2.1 8 = .ok (.ifCond .eq 13, 3) := by decide +kernel
theorem dT_scale_11 : decode kT_scale.2.1 11 = .ok (.iload_n 2, 1) := by decide +kernel
theorem dT_scale_12 : decode kT_scale.2.1 12 = .ok (.iconst 1, 1) := by decide +kernel
theorem dT_scale_13 : decode kT_scale.2.1 13 = .ok (.bipush 20, 2) := by decide +kernel
theorem dT_scale_15 : decode kT_scale.2.1 15 = .ok (.invokestatic 80, 3) := by decide +kernel
theorem dT_scale_18 : decode kT_scale.2.1 18 = .ok (.ifCond .ne 5, 3) := by decide +kernel
theorem dT_scale_21 : decode kT_scale.2.1 21 = .ok (.iconst (-1), 1) := by decide +kernel
theorem dT_scale_22 : decode kT_scale.2.1 22 = .ok (.ireturn, 1) := by decide +kernel
theorem dT_scale_23 : decode kT_scale.2.1 23 = .ok (.iload_n 1, 1) := by decide +kernel
theorem dT_scale_24 : decode kT_scale.2.1 24 = .ok (.iload_n 2, 1) := by decide +kernel
theorem dT_scale_25 : decode kT_scale.2.1 25 = .ok (.idiv, 1) := by decide +kernel
theorem dT_scale_26 : decode kT_scale.2.1 26 = .ok (.istore_n 3, 1) := by decide +kernel
theorem dT_scale_27 : decode kT_scale.2.1 27 = .ok (.aload_n 0, 1) := by decide +kernel
theorem dT_scale_28 : decode kT_scale.2.1 28 = .ok (.invokevirtual 141, 3) := by decide +kernel
theorem dT_scale_31 : decode kT_scale.2.1 31 = .ok (.ifCond .eq 25, 3) := by decide +kernel
theorem dT_scale_34 : decode kT_scale.2.1 34 = .ok (.iload_n 3, 1) := by decide +kernel
theorem dT_scale_35 : decode kT_scale.2.1 35 = .ok (.ifCond .eq 21, 3) := by decide +kernel
theorem dT_scale_38 : decode kT_scale.2.1 38 = .ok (.aload_n 0, 1) := by decide +kernel
theorem dT_scale_39 : decode kT_scale.2.1 39 = .ok (.getfield 138, 3) := by decide +kernel
theorem dT_scale_42 : decode kT_scale.2.1 42 = .ok (.aload_n 0, 1) := by decide +kernel
theorem dT_scale_43 : decode kT_scale.2.1 43 = .ok (.getfield 135, 3) := by decide +kernel
theorem dT_scale_46 : decode kT_scale.2.1 46 = .ok (.isub, 1) := by decide +kernel
theorem dT_scale_47 : decode kT_scale.2.1 47 = .ok (.iload_n 3, 1) := by decide +kernel
theorem dT_scale_48 : decode kT_scale.2.1 48 = .ok (.idiv, 1) := by decide +kernel
theorem dT_scale_49 : decode kT_scale.2.1 49 = .ok (.iconst 1, 1) := by decide +kernel
theorem dT_scale_50 : decode kT_scale.2.1 50 = .ok (.iadd, 1) := by decide +kernel
theorem dT_scale_51 : decode kT_scale.2.1 51 = .ok (.bipush 60, 2) := by decide +kernel
theorem dT_scale_53 : decode kT_scale.2.1 53 = .ok (.if_icmp .le 6, 3) := by decide +kernel
theorem dT_scale_56 : decode kT_scale.2.1 56 = .ok (.bipush (-2), 2) := by decide +kernel
theorem dT_scale_58 : decode kT_scale.2.1 58 = .ok (.ireturn, 1) := by decide +kernel
theorem dT_scale_59 : decode kT_scale.2.1 59 = .ok (.aload_n 0, 1) := by decide +kernel
theorem dT_scale_60 : decode kT_scale.2.1 60 = .ok (.iload_n 3, 1) := by decide +kernel
theorem dT_scale_61 : decode kT_scale.2.1 61 = .ok (.putfield 145, 3) := by decide +kernel
theorem dT_scale_64 : decode kT_scale.2.1 64 = .ok (.iload_n 3, 1) := by decide +kernel
theorem dT_scale_65 : decode kT_scale.2.1 65 = .ok (.ireturn, 1) := by decide +kernel
theorem dT_height_0 : decode kT_height.2.1 0 = .ok (.aload_n 0, 1) := by decide +kernel
theorem dT_height_1 : decode kT_height.2.1 1 = .ok (.getfield 145, 3) := by decide +kernel
theorem dT_height_4 : decode kT_height.2.1 4 = .ok (.ifCond .eq 12, 3) := by decide +kernel
theorem dT_height_7 : decode kT_height.2.1 7 = .ok (.aload_n 0, 1) := by decide +kernel
theorem dT_height_8 : decode kT_height.2.1 8 = .ok (.iload_n 1, 1) := by decide +kernel
theorem dT_height_9 : decode kT_height.2.1 9 = .ok (.iload_n 2, 1) := by decide +kernel
theorem dT_height_10 : decode kT_height.2.1 10 = .ok (.invokevirtual 91, 3) := by decide +kernel
theorem dT_height_13 : decode kT_height.2.1 13 = .ok (.ifCond .ne 5, 3) := by decide +kernel
theorem dT_height_16 : decode kT_height.2.1 16 = .ok (.iconst (-1), 1) := by decide +kernel
theorem dT_height_17 : decode kT_height.2.1 17 = .ok (.ireturn, 1) := by decide +kernel
theorem dT_height_18 : decode kT_height.2.1 18 = .ok (.aload_n 0, 1) := by decide +kernel
theorem dT_height_19 : decode kT_height.2.1 19 = .ok (.invokevirtual 141, 3) := by decide +kernel
theorem dT_height_22 : decode kT_height.2.1 22 = .ok (.pop, 1) := by decide +kernel
theorem dT_height_23 : decode kT_height.2.1 23 = .ok (.aload_n 0, 1) := by decide +kernel
theorem dT_height_24 : decode kT_height.2.1 24 = .ok (.iload_n 1, 1) := by decide +kernel
theorem dT_height_25 : decode kT_height.2.1 25 = .ok (.iload_n 2, 1) := by decide +kernel
theorem dT_height_26 : decode kT_height.2.1 26 = .ok (.invokevirtual 88, 3) := by decide +kernel
theorem dT_height_29 : decode kT_height.2.1 29 = .ok (.aload_n 0, 1) := by decide +kernel
theorem dT_height_30 : decode kT_height.2.1 30 = .ok (.getfield 135, 3) := by decide +kernel
theorem dT_height_33 : decode kT_height.2.1 33 = .ok (.isub, 1) := by decide +kernel
theorem dT_height_34 : decode kT_height.2.1 34 = .ok (.aload_n 0, 1) := by decide +kernel
theorem dT_height_35 : decode kT_height.2.1 35 = .ok (.getfield 145, 3) := by decide +kernel
theorem dT_height_38 : decode kT_height.2.1 38 = .ok (.idiv, 1) := by decide +kernel
theorem dT_height_39 : decode kT_height.2.1 39 = .ok (.ireturn, 1) := by decide +kernel
theorem dT_ear_0 : decode kT_ear.2.1 0 = .ok (.iload_n 1, 1) := by decide +kernel
theorem dT_ear_1 : decode kT_ear.2.1 1 = .ok (.iconst 0, 1) := by decide +kernel
theorem dT_ear_2 : decode kT_ear.2.1 2 = .ok (.bipush 60, 2) := by decide +kernel
theorem dT_ear_4 : decode kT_ear.2.1 4 = .ok (.invokestatic 80, 3) := by decide +kernel
theorem dT_ear_7 : decode kT_ear.2.1 7 = .ok (.ifCond .eq 13, 3) := by decide +kernel
theorem dT_ear_10 : decode kT_ear.2.1 10 = .ok (.iload_n 2, 1) := by decide +kernel
theorem dT_ear_11 : decode kT_ear.2.1 11 = .ok (.iconst 0, 1) := by decide +kernel
theorem dT_ear_12 : decode kT_ear.2.1 12 = .ok (.bipush 100, 2) := by decide +kernel
theorem dT_ear_14 : decode kT_ear.2.1 14 = .ok (.invokestatic 80, 3) := by decide +kernel
theorem dT_ear_17 : decode kT_ear.2.1 17 = .ok (.ifCond .ne 5, 3) := by decide +kernel
theorem dT_ear_20 : decode kT_ear.2.1 20 = .ok (.iconst 0, 1) := by decide +kernel
theorem dT_ear_21 : decode kT_ear.2.1 21 = .ok (.ireturn, 1) := by decide +kernel
theorem dT_ear_22 : decode kT_ear.2.1 22 = .ok (.aload_n 0, 1) := by decide +kernel
theorem dT_ear_23 : decode kT_ear.2.1 23 = .ok (.iload_n 1, 1) := by decide +kernel
theorem dT_ear_24 : decode kT_ear.2.1 24 = .ok (.putfield 50, 3) := by decide +kernel
theorem dT_ear_27 : decode kT_ear.2.1 27 = .ok (.aload_n 0, 1) := by decide +kernel
theorem dT_ear_28 : decode kT_ear.2.1 28 = .ok (.iload_n 2, 1) := by decide +kernel
theorem dT_ear_29 : decode kT_ear.2.1 29 = .ok (.putfield 53, 3) := by decide +kernel
theorem dT_ear_32 : decode kT_ear.2.1 32 = .ok (.iconst 1, 1) := by decide +kernel
theorem dT_ear_33 : decode kT_ear.2.1 33 = .ok (.ireturn, 1) := by decide +kernel
theorem dT_worth_0 : decode kT_worth.2.1 0 = .ok (.iload_n 1, 1) := by decide +kernel
theorem dT_worth_1 : decode kT_worth.2.1 1 = .ok (.invokestatic 72, 3) := by decide +kernel
theorem dT_worth_4 : decode kT_worth.2.1 4 = .ok (.ifCond .eq 14, 3) := by decide +kernel
theorem dT_worth_7 : decode kT_worth.2.1 7 = .ok (.iload_n 2, 1) := by decide +kernel
theorem dT_worth_8 : decode kT_worth.2.1 8 = .ok (.iconst 0, 1) := by decide +kernel
theorem dT_worth_9 : decode kT_worth.2.1 9 = .ok (.sipush 1000, 3) := by decide +kernel
theorem dT_worth_12 : decode kT_worth.2.1 12 = .ok (.invokestatic 80, 3) := by decide +kernel
theorem dT_worth_15 : decode kT_worth.2.1 15 = .ok (.ifCond .ne 5, 3) := by decide +kernel
theorem dT_worth_18 : decode kT_worth.2.1 18 = .ok (.iconst (-1), 1) := by decide +kernel
theorem dT_worth_19 : decode kT_worth.2.1 19 = .ok (.ireturn, 1) := by decide +kernel
theorem dT_worth_20 : decode kT_worth.2.1 20 = .ok (.aload_n 0, 1) := by decide +kernel
theorem dT_worth_21 : decode kT_worth.2.1 21 = .ok (.getfield 19, 3) := by decide +kernel
theorem dT_worth_24 : decode kT_worth.2.1 24 = .ok (.iload_n 1, 1) := by decide +kernel
theorem dT_worth_25 : decode kT_worth.2.1 25 = .ok (.iaload, 1) := by decide +kernel
theorem dT_worth_26 : decode kT_worth.2.1 26 = .ok (.istore_n 3, 1) := by decide +kernel
theorem dT_worth_27 : decode kT_worth.2.1 27 = .ok (.aload_n 0, 1) := by decide +kernel
theorem dT_worth_28 : decode kT_worth.2.1 28 = .ok (.getfield 19, 3) := by decide +kernel
theorem dT_worth_31 : decode kT_worth.2.1 31 = .ok (.iload_n 1, 1) := by decide +kernel
theorem dT_worth_32 : decode kT_worth.2.1 32 = .ok (.iload_n 2, 1) := by decide +kernel
theorem dT_worth_33 : decode kT_worth.2.1 33 = .ok (.iastore, 1) := by decide +kernel
theorem dT_worth_34 : decode kT_worth.2.1 34 = .ok (.iload_n 3, 1) := by decide +kernel
theorem dT_worth_35 : decode kT_worth.2.1 35 = .ok (.ireturn, 1) := by decide +kernel
theorem dT_isLaid_0 : decode kT_isLaid.2.1 0 = .ok (.iconst 0, 1) := by decide +kernel
theorem dT_isLaid_1 : decode kT_isLaid.2.1 1 = .ok (.istore_n 2, 1) := by decide +kernel
theorem dT_isLaid_2 : decode kT_isLaid.2.1 2 = .ok (.iload_n 2, 1) := by decide +kernel
theorem dT_isLaid_3 : decode kT_isLaid.2.1 3 = .ok (.iconst 4, 1) := by decide +kernel
theorem dT_isLaid_4 : decode kT_isLaid.2.1 4 = .ok (.if_icmp .ge 95, 3) := by decide +kernel
theorem dT_isLaid_7 : decode kT_isLaid.2.1 7 = .ok (.aload_n 0, 1) := by decide +kernel
theorem dT_isLaid_8 : decode kT_isLaid.2.1 8 = .ok (.getfield 56, 3) := by decide +kernel
theorem dT_isLaid_11 : decode kT_isLaid.2.1 11 = .ok (.iload_n 2, 1) := by decide +kernel
theorem dT_isLaid_12 : decode kT_isLaid.2.1 12 = .ok (.iaload, 1) := by decide +kernel
theorem dT_isLaid_13 : decode kT_isLaid.2.1 13 = .ok (.iconst 4, 1) := by decide +kernel
theorem dT_isLaid_14 : decode kT_isLaid.2.1 14 = .ok (.if_icmp .eq 79, 3) := by decide +kernel
theorem dT_isLaid_17 : decode kT_isLaid.2.1 17 = .ok (.aload_n 0, 1) := by decide +kernel
theorem dT_isLaid_18 : decode kT_isLaid.2.1 18 = .ok (.iload_n 2, 1) := by decide +kernel
theorem dT_isLaid_19 : decode kT_isLaid.2.1 19 = .ok (.iload_n 1, 1) := by decide +kernel
theorem dT_isLaid_20 : decode kT_isLaid.2.1 20 = .ok (.invokevirtual 91, 3) := by decide +kernel
theorem dT_isLaid_23 : decode kT_isLaid.2.1 23 = .ok (.ifCond .ne 6, 3) := by decide +kernel
theorem dT_isLaid_26 : decode kT_isLaid.2.1 26 = .ok (.goto 67, 3) := by decide +kernel
theorem dT_isLaid_29 : decode kT_isLaid.2.1 29 = .ok (.iload_n 2, 1) := by decide +kernel
theorem dT_isLaid_30 : decode kT_isLaid.2.1 30 = .ok (.iconst 1, 1) := by decide +kernel
theorem dT_isLaid_31 : decode kT_isLaid.2.1 31 = .ok (.iadd, 1) := by decide +kernel
theorem dT_isLaid_32 : decode kT_isLaid.2.1 32 = .ok (.istore_n 3, 1) := by decide +kernel
theorem dT_isLaid_33 : decode kT_isLaid.2.1 33 = .ok (.iload_n 3, 1) := by decide +kernel
theorem dT_isLaid_34 : decode kT_isLaid.2.1 34 = .ok (.iconst 4, 1) := by decide +kernel
theorem dT_isLaid_35 : decode kT_isLaid.2.1 35 = .ok (.if_icmp .ge 58, 3) := by decide +kernel
theorem dT_isLaid_38 : decode kT_isLaid.2.1 38 = .ok (.aload_n 0, 1) := by decide +kernel
theorem dT_isLaid_39 : decode kT_isLaid.2.1 39 = .ok (.iload_n 3, 1) := by decide +kernel
theorem dT_isLaid_40 : decode kT_isLaid.2.1 40 = .ok (.iload_n 1, 1) := by decide +kernel
theorem dT_isLaid_41 : decode kT_isLaid.2.1 41 = .ok (.invokevirtual 91, 3) := by decide +kernel
theorem dT_isLaid_44 : decode kT_isLaid.2.1 44 = .ok (.ifCond .eq 43, 3) := by decide +kernel
theorem dT_isLaid_47 : decode kT_isLaid.2.1 47 = .ok (.aload_n 0, 1) := by decide +kernel
theorem dT_isLaid_48 : decode kT_isLaid.2.1 48 = .ok (.getfield 56, 3) := by decide +kernel
theorem dT_isLaid_51 : decode kT_isLaid.2.1 51 = .ok (.iload_n 3, 1) := by decide +kernel
theorem dT_isLaid_52 : decode kT_isLaid.2.1 52 = .ok (.iaload, 1) := by decide +kernel
theorem dT_isLaid_53 : decode kT_isLaid.2.1 53 = .ok (.aload_n 0, 1) := by decide +kernel
theorem dT_isLaid_54 : decode kT_isLaid.2.1 54 = .ok (.getfield 56, 3) := by decide +kernel
theorem dT_isLaid_57 : decode kT_isLaid.2.1 57 = .ok (.iload_n 2, 1) := by decide +kernel
theorem dT_isLaid_58 : decode kT_isLaid.2.1 58 = .ok (.iaload, 1) := by decide +kernel
theorem dT_isLaid_59 : decode kT_isLaid.2.1 59 = .ok (.if_icmp .ne 28, 3) := by decide +kernel
theorem dT_isLaid_62 : decode kT_isLaid.2.1 62 = .ok (.aload_n 0, 1) := by decide +kernel
theorem dT_isLaid_63 : decode kT_isLaid.2.1 63 = .ok (.getfield 62, 3) := by decide +kernel
theorem dT_isLaid_66 : decode kT_isLaid.2.1 66 = .ok (.iload_n 2, 1) := by decide +kernel
theorem dT_isLaid_67 : decode kT_isLaid.2.1 67 = .ok (.iaload, 1) := by decide +kernel
theorem dT_isLaid_68 : decode kT_isLaid.2.1 68 = .ok (.aload_n 0, 1) := by decide +kernel
theorem dT_isLaid_69 : decode kT_isLaid.2.1 69 = .ok (.getfield 62, 3) := by decide +kernel
theorem dT_isLaid_72 : decode kT_isLaid.2.1 72 = .ok (.iload_n 3, 1) := by decide +kernel
theorem dT_isLaid_73 : decode kT_isLaid.2.1 73 = .ok (.iaload, 1) := by decide +kernel
theorem dT_isLaid_74 : decode kT_isLaid.2.1 74 = .ok (.isub, 1) := by decide +kernel
theorem dT_isLaid_75 : decode kT_isLaid.2.1 75 = .ok (.invokestatic 118, 3) := by decide +kernel
theorem dT_isLaid_78 : decode kT_isLaid.2.1 78 = .ok (.aload_n 0, 1) := by decide +kernel
theorem dT_isLaid_79 : decode kT_isLaid.2.1 79 = .ok (.getfield 50, 3) := by decide +kernel
theorem dT_isLaid_82 : decode kT_isLaid.2.1 82 = .ok (.if_icmp .ge 5, 3) := by decide +kernel
theorem dT_isLaid_85 : decode kT_isLaid.2.1 85 = .ok (.iconst 0, 1) := by decide +kernel
theorem dT_isLaid_86 : decode kT_isLaid.2.1 86 = .ok (.ireturn, 1) := by decide +kernel
theorem dT_isLaid_87 : decode kT_isLaid.2.1 87 = .ok (.iinc 3 1, 3) := by decide +kernel
theorem dT_isLaid_90 : decode kT_isLaid.2.1 90 = .ok (.goto (-57), 3) := by decide +kernel
theorem dT_isLaid_93 : decode kT_isLaid.2.1 93 = .ok (.iinc 2 1, 3) := by decide +kernel
theorem dT_isLaid_96 : decode kT_isLaid.2.1 96 = .ok (.goto (-94), 3) := by decide +kernel
theorem dT_isLaid_99 : decode kT_isLaid.2.1 99 = .ok (.iconst 1, 1) := by decide +kernel
theorem dT_isLaid_100 : decode kT_isLaid.2.1 100 = .ok (.ireturn, 1) := by decide +kernel
theorem dT_slotCost_0 : decode kT_slotCost.2.1 0 = .ok (.iconst 0, 1) := by decide +kernel
theorem dT_slotCost_1 : decode kT_slotCost.2.1 1 = .ok (.istore_n 2, 1) := by decide +kernel
theorem dT_slotCost_2 : decode kT_slotCost.2.1 2 = .ok (.iconst 0, 1) := by decide +kernel
theorem dT_slotCost_3 : decode kT_slotCost.2.1 3 = .ok (.istore_n 3, 1) := by decide +kernel
theorem dT_slotCost_4 : decode kT_slotCost.2.1 4 = .ok (.iload_n 3, 1) := by decide +kernel
theorem dT_slotCost_5 : decode kT_slotCost.2.1 5 = .ok (.iconst 4, 1) := by decide +kernel
theorem dT_slotCost_6 : decode kT_slotCost.2.1 6 = .ok (.if_icmp .ge 51, 3) := by decide +kernel
theorem dT_slotCost_9 : decode kT_slotCost.2.1 9 = .ok (.aload_n 0, 1) := by decide +kernel
theorem dT_slotCost_10 : decode kT_slotCost.2.1 10 = .ok (.iload_n 3, 1) := by decide +kernel
theorem dT_slotCost_11 : decode kT_slotCost.2.1 11 = .ok (.iload_n 1, 1) := by decide +kernel
theorem dT_slotCost_12 : decode kT_slotCost.2.1 12 = .ok (.invokevirtual 91, 3) := by decide +kernel
theorem dT_slotCost_15 : decode kT_slotCost.2.1 15 = .ok (.ifCond .eq 36, 3) := by decide +kernel
theorem dT_slotCost_18 : decode kT_slotCost.2.1 18 = .ok (.iload_n 2, 1) := by decide +kernel
theorem dT_slotCost_19 : decode kT_slotCost.2.1 19 = .ok (.aload_n 0, 1) := by decide +kernel
theorem dT_slotCost_20 : decode kT_slotCost.2.1 20 = .ok (.getfield 56, 3) := by decide +kernel
theorem dT_slotCost_23 : decode kT_slotCost.2.1 23 = .ok (.iload_n 3, 1) := by decide +kernel
theorem dT_slotCost_24 : decode kT_slotCost.2.1 24 = .ok (.iaload, 1) := by decide +kernel
theorem dT_slotCost_25 : decode kT_slotCost.2.1 25 = .ok (.iconst 4, 1) := by decide +kernel
theorem dT_slotCost_26 : decode kT_slotCost.2.1 26 = .ok (.if_icmp .ne 12, 3) := by decide +kernel
theorem dT_slotCost_29 : decode kT_slotCost.2.1 29 = .ok (.aload_n 0, 1) := by decide +kernel
theorem dT_slotCost_30 : decode kT_slotCost.2.1 30 = .ok (.getfield 19, 3) := by decide +kernel
theorem dT_slotCost_33 : decode kT_slotCost.2.1 33 = .ok (.iload_n 3, 1) := by decide +kernel
theorem dT_slotCost_34 : decode kT_slotCost.2.1 34 = .ok (.iaload, 1) := by decide +kernel
theorem dT_slotCost_35 : decode kT_slotCost.2.1 35 = .ok (.goto 14, 3) := by decide +kernel
theorem dT_slotCost_38 : decode kT_slotCost.2.1 38 = .ok (.aload_n 0, 1) := by decide +kernel
theorem dT_slotCost_39 : decode kT_slotCost.2.1 39 = .ok (.getfield 56, 3) := by decide +kernel
theorem dT_slotCost_42 : decode kT_slotCost.2.1 42 = .ok (.iload_n 3, 1) := by decide +kernel
theorem dT_slotCost_43 : decode kT_slotCost.2.1 43 = .ok (.iaload, 1) := by decide +kernel
theorem dT_slotCost_44 : decode kT_slotCost.2.1 44 = .ok (.aload_n 0, 1) := by decide +kernel
theorem dT_slotCost_45 : decode kT_slotCost.2.1 45 = .ok (.getfield 53, 3) := by decide +kernel
theorem dT_slotCost_48 : decode kT_slotCost.2.1 48 = .ok (.imul, 1) := by decide +kernel
theorem dT_slotCost_49 : decode kT_slotCost.2.1 49 = .ok (.iadd, 1) := by decide +kernel
theorem dT_slotCost_50 : decode kT_slotCost.2.1 50 = .ok (.istore_n 2, 1) := by decide +kernel
theorem dT_slotCost_51 : decode kT_slotCost.2.1 51 = .ok (.iinc 3 1, 3) := by decide +kernel
theorem dT_slotCost_54 : decode kT_slotCost.2.1 54 = .ok (.goto (-50), 3) := by decide +kernel
theorem dT_slotCost_57 : decode kT_slotCost.2.1 57 = .ok (.iload_n 2, 1) := by decide +kernel
theorem dT_slotCost_58 : decode kT_slotCost.2.1 58 = .ok (.ireturn, 1) := by decide +kernel
theorem dT_laying_0 : decode kT_laying.2.1 0 = .ok (.iconst 0, 1) := by decide +kernel
theorem dT_laying_1 : decode kT_laying.2.1 1 = .ok (.istore_n 2, 1) := by decide +kernel
theorem dT_laying_2 : decode kT_laying.2.1 2 = .ok (.iload_n 2, 1) := by decide +kernel
theorem dT_laying_3 : decode kT_laying.2.1 3 = .ok (.iconst 4, 1) := by decide +kernel
theorem dT_laying_4 : decode kT_laying.2.1 4 = .ok (.if_icmp .ge 21, 3) := by decide +kernel
theorem dT_laying_7 : decode kT_laying.2.1 7 = .ok (.aload_n 0, 1) := by decide +kernel
theorem dT_laying_8 : decode kT_laying.2.1 8 = .ok (.getfield 62, 3) := by decide +kernel
theorem dT_laying_11 : decode kT_laying.2.1 11 = .ok (.iload_n 2, 1) := by decide +kernel
theorem dT_laying_12 : decode kT_laying.2.1 12 = .ok (.aload_n 0, 1) := by decide +kernel
theorem dT_laying_13 : decode kT_laying.2.1 13 = .ok (.iload_n 2, 1) := by decide +kernel
theorem dT_laying_14 : decode kT_laying.2.1 14 = .ok (.iload_n 1, 1) := by decide +kernel
theorem dT_laying_15 : decode kT_laying.2.1 15 = .ok (.invokevirtual 148, 3) := by decide +kernel
theorem dT_laying_18 : decode kT_laying.2.1 18 = .ok (.iastore, 1) := by decide +kernel
theorem dT_laying_19 : decode kT_laying.2.1 19 = .ok (.iinc 2 1, 3) := by decide +kernel
theorem dT_laying_22 : decode kT_laying.2.1 22 = .ok (.goto (-20), 3) := by decide +kernel
theorem dT_laying_25 : decode kT_laying.2.1 25 = .ok (.ldc 97, 2) := by decide +kernel
theorem dT_laying_27 : decode kT_laying.2.1 27 = .ok (.istore_n 2, 1) := by decide +kernel
theorem dT_laying_28 : decode kT_laying.2.1 28 = .ok (.iconst 0, 1) := by decide +kernel
theorem dT_laying_29 : decode kT_laying.2.1 29 = .ok (.istore_n 3, 1) := by decide +kernel
theorem dT_laying_30 : decode kT_laying.2.1 30 = .ok (.iload_n 3, 1) := by decide +kernel
theorem dT_laying_31 : decode kT_laying.2.1 31 = .ok (.sipush 625, 3) := by decide +kernel
theorem dT_laying_34 : decode kT_laying.2.1 34 = .ok (.if_icmp .ge 138, 3) := by decide +kernel
theorem dT_laying_37 : decode kT_laying.2.1 37 = .ok (.iload_n 3, 1) := by decide +kernel
theorem dT_laying_38 : decode kT_laying.2.1 38 = .ok (.istore 4, 2) := by decide +kernel
theorem dT_laying_40 : decode kT_laying.2.1 40 = .ok (.iconst 1, 1) := by decide +kernel
theorem dT_laying_41 : decode kT_laying.2.1 41 = .ok (.istore 5, 2) := by decide +kernel
theorem dT_laying_43 : decode kT_laying.2.1 43 = .ok (.iconst 3, 1) := by decide +kernel
theorem dT_laying_44 : decode kT_laying.2.1 44 = .ok (.istore 6, 2) := by decide +kernel
theorem dT_laying_46 : decode kT_laying.2.1 46 = .ok (.iload 6, 2) := by decide +kernel
theorem dT_laying_48 : decode kT_laying.2.1 48 = .ok (.ifCond .lt 58, 3) := by decide +kernel
theorem dT_laying_51 : decode kT_laying.2.1 51 = .ok (.aload_n 0, 1) := by decide +kernel
theorem dT_laying_52 : decode kT_laying.2.1 52 = .ok (.getfield 56, 3) := by decide +kernel
theorem dT_laying_55 : decode kT_laying.2.1 55 = .ok (.iload 6, 2) := by decide +kernel
theorem dT_laying_57 : decode kT_laying.2.1 57 = .ok (.iload 4, 2) := by decide +kernel
theorem dT_laying_59 : decode kT_laying.2.1 59 = .ok (.iconst 5, 1) := by decide +kernel
theorem dT_laying_60 : decode kT_laying.2.1 60 = .ok (.irem, 1) := by decide +kernel
theorem dT_laying_61 : decode kT_laying.2.1 61 = .ok (.iastore, 1) := by decide +kernel
theorem dT_laying_62 : decode kT_laying.2.1 62 = .ok (.iload 4, 2) := by decide +kernel
theorem dT_laying_64 : decode kT_laying.2.1 64 = .ok (.iconst 5, 1) := by decide +kernel
theorem dT_laying_65 : decode kT_laying.2.1 65 = .ok (.idiv, 1) := by decide +kernel
theorem dT_laying_66 : decode kT_laying.2.1 66 = .ok (.istore 4, 2) := by decide +kernel
theorem dT_laying_68 : decode kT_laying.2.1 68 = .ok (.iload 5, 2) := by decide +kernel
theorem dT_laying_70 : decode kT_laying.2.1 70 = .ok (.ifCond .eq 27, 3) := by decide +kernel
theorem dT_laying_73 : decode kT_laying.2.1 73 = .ok (.aload_n 0, 1) := by decide +kernel
theorem dT_laying_74 : decode kT_laying.2.1 74 = .ok (.iload 6, 2) := by decide +kernel
theorem dT_laying_76 : decode kT_laying.2.1 76 = .ok (.iload_n 1, 1) := by decide +kernel
theorem dT_laying_77 : decode kT_laying.2.1 77 = .ok (.invokevirtual 91, 3) := by decide +kernel
theorem dT_laying_80 : decode kT_laying.2.1 80 = .ok (.ifCond .ne 13, 3) := by decide +kernel
theorem dT_laying_83 : decode kT_laying.2.1 83 = .ok (.aload_n 0, 1) := by decide +kernel
theorem dT_laying_84 : decode kT_laying.2.1 84 = .ok (.getfield 56, 3) := by decide +kernel
theorem dT_laying_87 : decode kT_laying.2.1 87 = .ok (.iload 6, 2) := by decide +kernel
theorem dT_laying_89 : decode kT_laying.2.1 89 = .ok (.iaload, 1) := by decide +kernel
theorem dT_laying_90 : decode kT_laying.2.1 90 = .ok (.ifCond .ne 7, 3) := by decide +kernel
theorem dT_laying_93 : decode kT_laying.2.1 93 = .ok (.iconst 1, 1) := by decide +kernel
theorem dT_laying_94 : decode kT_laying.2.1 94 = .ok (.goto 4, 3) := by decide +kernel
theorem dT_laying_97 : decode kT_laying.2.1 97 = .ok (.iconst 0, 1) := by decide +kernel
theorem dT_laying_98 : decode kT_laying.2.1 98 = .ok (.istore 5, 2) := by decide +kernel
theorem dT_laying_100 : decode kT_laying.2.1 100 = .ok (.iinc 6 (-1), 3) := by decide +kernel
theorem dT_laying_103 : decode kT_laying.2.1 103 = .ok (.goto (-57), 3) := by decide +kernel
theorem dT_laying_106 : decode kT_laying.2.1 106 = .ok (.iload 5, 2) := by decide +kernel
theorem dT_laying_108 : decode kT_laying.2.1 108 = .ok (.ifCond .eq 58, 3) := by decide +kernel
theorem dT_laying_111 : decode kT_laying.2.1 111 = .ok (.aload_n 0, 1) := by decide +kernel
theorem dT_laying_112 : decode kT_laying.2.1 112 = .ok (.iload_n 1, 1) := by decide +kernel
theorem dT_laying_113 : decode kT_laying.2.1 113 = .ok (.invokevirtual 151, 3) := by decide +kernel
theorem dT_laying_116 : decode kT_laying.2.1 116 = .ok (.iload_n 2, 1) := by decide +kernel
theorem dT_laying_117 : decode kT_laying.2.1 117 = .ok (.if_icmp .ge 49, 3) := by decide +kernel
theorem dT_laying_120 : decode kT_laying.2.1 120 = .ok (.aload_n 0, 1) := by decide +kernel
theorem dT_laying_121 : decode kT_laying.2.1 121 = .ok (.iload_n 1, 1) := by decide +kernel
theorem dT_laying_122 : decode kT_laying.2.1 122 = .ok (.invokevirtual 154, 3) := by decide +kernel
theorem dT_laying_125 : decode kT_laying.2.1 125 = .ok (.ifCond .ne 6, 3) := by decide +kernel
theorem dT_laying_128 : decode kT_laying.2.1 128 = .ok (.goto 38, 3) := by decide +kernel
theorem dT_laying_131 : decode kT_laying.2.1 131 = .ok (.aload_n 0, 1) := by decide +kernel
theorem dT_laying_132 : decode kT_laying.2.1 132 = .ok (.iload_n 1, 1) := by decide +kernel
theorem dT_laying_133 : decode kT_laying.2.1 133 = .ok (.invokevirtual 151, 3) := by decide +kernel
theorem dT_laying_136 : decode kT_laying.2.1 136 = .ok (.istore_n 2, 1) := by decide +kernel
theorem dT_laying_137 : decode kT_laying.2.1 137 = .ok (.iconst 0, 1) := by decide +kernel
theorem dT_laying_138 : decode kT_laying.2.1 138 = .ok (.istore 6, 2) := by decide +kernel
theorem dT_laying_140 : decode kT_laying.2.1 140 = .ok (.iload 6, 2) := by decide +kernel
theorem dT_laying_142 : decode kT_laying.2.1 142 = .ok (.iconst 4, 1) := by decide +kernel
theorem dT_laying_143 : decode kT_laying.2.1 143 = .ok (.if_icmp .ge 23, 3) := by decide +kernel
theorem dT_laying_146 : decode kT_laying.2.1 146 = .ok (.aload_n 0, 1) := by decide +kernel
theorem dT_laying_147 : decode kT_laying.2.1 147 = .ok (.getfield 59, 3) := by decide +kernel
theorem dT_laying_150 : decode kT_laying.2.1 150 = .ok (.iload 6, 2) := by decide +kernel
theorem dT_laying_152 : decode kT_laying.2.1 152 = .ok (.aload_n 0, 1) := by decide +kernel
theorem dT_laying_153 : decode kT_laying.2.1 153 = .ok (.getfield 56, 3) := by decide +kernel
theorem dT_laying_156 : decode kT_laying.2.1 156 = .ok (.iload 6, 2) := by decide +kernel
theorem dT_laying_158 : decode kT_laying.2.1 158 = .ok (.iaload, 1) := by decide +kernel
theorem dT_laying_159 : decode kT_laying.2.1 159 = .ok (.iastore, 1) := by decide +kernel
theorem dT_laying_160 : decode kT_laying.2.1 160 = .ok (.iinc 6 1, 3) := by decide +kernel
theorem dT_laying_163 : decode kT_laying.2.1 163 = .ok (.goto (-23), 3) := by decide +kernel
theorem dT_laying_166 : decode kT_laying.2.1 166 = .ok (.iinc 3 1, 3) := by decide +kernel
theorem dT_laying_169 : decode kT_laying.2.1 169 = .ok (.goto (-139), 3) := by decide +kernel
theorem dT_laying_172 : decode kT_laying.2.1 172 = .ok (.iload_n 2, 1) := by decide +kernel
theorem dT_laying_173 : decode kT_laying.2.1 173 = .ok (.ireturn, 1) := by decide +kernel
theorem dT_lay_0 : decode kT_lay.2.1 0 = .ok (.aload_n 0, 1) := by decide +kernel
theorem dT_lay_1 : decode kT_lay.2.1 1 = .ok (.getfield 145, 3) := by decide +kernel
theorem dT_lay_4 : decode kT_lay.2.1 4 = .ok (.ifCond .eq 13, 3) := by decide +kernel
theorem dT_lay_7 : decode kT_lay.2.1 7 = .ok (.iload_n 1, 1) := by decide +kernel
theorem dT_lay_8 : decode kT_lay.2.1 8 = .ok (.ifCond .lt 9, 3) := by decide +kernel
theorem dT_lay_11 : decode kT_lay.2.1 11 = .ok (.iload_n 1, 1) := by decide +kernel
theorem dT_lay_12 : decode kT_lay.2.1 12 = .ok (.bipush 40, 2) := by decide +kernel
theorem dT_lay_14 : decode kT_lay.2.1 14 = .ok (.if_icmp .lt 7, 3) := by decide +kernel
theorem dT_lay_17 : decode kT_lay.2.1 17 = .ok (.iconst (-1), 1) := by decide +kernel
theorem dT_lay_18 : decode kT_lay.2.1 18 = .ok (.goto 8, 3) := by decide +kernel
theorem dT_lay_21 : decode kT_lay.2.1 21 = .ok (.aload_n 0, 1) := by decide +kernel
theorem dT_lay_22 : decode kT_lay.2.1 22 = .ok (.iload_n 1, 1) := by decide +kernel
theorem dT_lay_23 : decode kT_lay.2.1 23 = .ok (.invokevirtual 157, 3) := by decide +kernel
theorem dT_lay_26 : decode kT_lay.2.1 26 = .ok (.ireturn, 1) := by decide +kernel
theorem dT_slot_0 : decode kT_slot.2.1 0 = .ok (.aload_n 0, 1) := by decide +kernel
theorem dT_slot_1 : decode kT_slot.2.1 1 = .ok (.getfield 145, 3) := by decide +kernel
theorem dT_slot_4 : decode kT_slot.2.1 4 = .ok (.ifCond .eq 12, 3) := by decide +kernel
theorem dT_slot_7 : decode kT_slot.2.1 7 = .ok (.aload_n 0, 1) := by decide +kernel
theorem dT_slot_8 : decode kT_slot.2.1 8 = .ok (.iload_n 1, 1) := by decide +kernel
theorem dT_slot_9 : decode kT_slot.2.1 9 = .ok (.iload_n 2, 1) := by decide +kernel
theorem dT_slot_10 : decode kT_slot.2.1 10 = .ok (.invokevirtual 91, 3) := by decide +kernel
theorem dT_slot_13 : decode kT_slot.2.1 13 = .ok (.ifCond .ne 5, 3) := by decide +kernel
theorem dT_slot_16 : decode kT_slot.2.1 16 = .ok (.iconst (-1), 1) := by decide +kernel
theorem dT_slot_17 : decode kT_slot.2.1 17 = .ok (.ireturn, 1) := by decide +kernel
theorem dT_slot_18 : decode kT_slot.2.1 18 = .ok (.aload_n 0, 1) := by decide +kernel
theorem dT_slot_19 : decode kT_slot.2.1 19 = .ok (.iload_n 2, 1) := by decide +kernel
theorem dT_slot_20 : decode kT_slot.2.1 20 = .ok (.invokevirtual 157, 3) := by decide +kernel
theorem dT_slot_23 : decode kT_slot.2.1 23 = .ok (.pop, 1) := by decide +kernel
theorem dT_slot_24 : decode kT_slot.2.1 24 = .ok (.aload_n 0, 1) := by decide +kernel
theorem dT_slot_25 : decode kT_slot.2.1 25 = .ok (.getfield 59, 3) := by decide +kernel
theorem dT_slot_28 : decode kT_slot.2.1 28 = .ok (.iload_n 1, 1) := by decide +kernel
theorem dT_slot_29 : decode kT_slot.2.1 29 = .ok (.iaload, 1) := by decide +kernel
theorem dT_slot_30 : decode kT_slot.2.1 30 = .ok (.ireturn, 1) := by decide +kernel
theorem dT_hears_0 : decode kT_hears.2.1 0 = .ok (.aload_n 0, 1) := by decide +kernel
theorem dT_hears_1 : decode kT_hears.2.1 1 = .ok (.getfield 145, 3) := by decide +kernel
theorem dT_hears_4 : decode kT_hears.2.1 4 = .ok (.ifCond .eq 32, 3) := by decide +kernel
theorem dT_hears_7 : decode kT_hears.2.1 7 = .ok (.iload_n 1, 1) := by decide +kernel
theorem dT_hears_8 : decode kT_hears.2.1 8 = .ok (.invokestatic 72, 3) := by decide +kernel
theorem dT_hears_11 : decode kT_hears.2.1 11 = .ok (.ifCond .eq 25, 3) := by decide +kernel
theorem dT_hears_14 : decode kT_hears.2.1 14 = .ok (.iload_n 2, 1) := by decide +kernel
theorem dT_hears_15 : decode kT_hears.2.1 15 = .ok (.invokestatic 72, 3) := by decide +kernel
theorem dT_hears_18 : decode kT_hears.2.1 18 = .ok (.ifCond .eq 18, 3) := by decide +kernel
theorem dT_hears_21 : decode kT_hears.2.1 21 = .ok (.iload_n 1, 1) := by decide +kernel
theorem dT_hears_22 : decode kT_hears.2.1 22 = .ok (.iload_n 2, 1) := by decide +kernel
theorem dT_hears_23 : decode kT_hears.2.1 23 = .ok (.if_icmp .eq 13, 3) := by decide +kernel
theorem dT_hears_26 : decode kT_hears.2.1 26 = .ok (.iload_n 3, 1) := by decide +kernel
theorem dT_hears_27 : decode kT_hears.2.1 27 = .ok (.ifCond .lt 9, 3) := by decide +kernel
theorem dT_hears_30 : decode kT_hears.2.1 30 = .ok (.iload_n 3, 1) := by decide +kernel
theorem dT_hears_31 : decode kT_hears.2.1 31 = .ok (.bipush 40, 2) := by decide +kernel
theorem dT_hears_33 : decode kT_hears.2.1 33 = .ok (.if_icmp .lt 6, 3) := by decide +kernel
theorem dT_hears_36 : decode kT_hears.2.1 36 = .ok (.bipush (-2), 2) := by decide +kernel
theorem dT_hears_38 : decode kT_hears.2.1 38 = .ok (.ireturn, 1) := by decide +kernel
theorem dT_hears_39 : decode kT_hears.2.1 39 = .ok (.aload_n 0, 1) := by decide +kernel
theorem dT_hears_40 : decode kT_hears.2.1 40 = .ok (.iload_n 1, 1) := by decide +kernel
theorem dT_hears_41 : decode kT_hears.2.1 41 = .ok (.iload_n 3, 1) := by decide +kernel
theorem dT_hears_42 : decode kT_hears.2.1 42 = .ok (.invokevirtual 91, 3) := by decide +kernel
theorem dT_hears_45 : decode kT_hears.2.1 45 = .ok (.ifCond .eq 12, 3) := by decide +kernel
theorem dT_hears_48 : decode kT_hears.2.1 48 = .ok (.aload_n 0, 1) := by decide +kernel
theorem dT_hears_49 : decode kT_hears.2.1 49 = .ok (.iload_n 2, 1) := by decide +kernel
theorem dT_hears_50 : decode kT_hears.2.1 50 = .ok (.iload_n 3, 1) := by decide +kernel
theorem dT_hears_51 : decode kT_hears.2.1 51 = .ok (.invokevirtual 91, 3) := by decide +kernel
theorem dT_hears_54 : decode kT_hears.2.1 54 = .ok (.ifCond .ne 5, 3) := by decide +kernel
theorem dT_hears_57 : decode kT_hears.2.1 57 = .ok (.iconst 0, 1) := by decide +kernel
theorem dT_hears_58 : decode kT_hears.2.1 58 = .ok (.ireturn, 1) := by decide +kernel
theorem dT_hears_59 : decode kT_hears.2.1 59 = .ok (.aload_n 0, 1) := by decide +kernel
theorem dT_hears_60 : decode kT_hears.2.1 60 = .ok (.iload_n 3, 1) := by decide +kernel
theorem dT_hears_61 : decode kT_hears.2.1 61 = .ok (.invokevirtual 157, 3) := by decide +kernel
theorem dT_hears_64 : decode kT_hears.2.1 64 = .ok (.pop, 1) := by decide +kernel
theorem dT_hears_65 : decode kT_hears.2.1 65 = .ok (.aload_n 0, 1) := by decide +kernel
theorem dT_hears_66 : decode kT_hears.2.1 66 = .ok (.getfield 59, 3) := by decide +kernel
theorem dT_hears_69 : decode kT_hears.2.1 69 = .ok (.iload_n 1, 1) := by decide +kernel
theorem dT_hears_70 : decode kT_hears.2.1 70 = .ok (.iaload, 1) := by decide +kernel
theorem dT_hears_71 : decode kT_hears.2.1 71 = .ok (.iconst 4, 1) := by decide +kernel
theorem dT_hears_72 : decode kT_hears.2.1 72 = .ok (.if_icmp .eq 13, 3) := by decide +kernel
theorem dT_hears_75 : decode kT_hears.2.1 75 = .ok (.aload_n 0, 1) := by decide +kernel
theorem dT_hears_76 : decode kT_hears.2.1 76 = .ok (.getfield 59, 3) := by decide +kernel
theorem dT_hears_79 : decode kT_hears.2.1 79 = .ok (.iload_n 2, 1) := by decide +kernel
theorem dT_hears_80 : decode kT_hears.2.1 80 = .ok (.iaload, 1) := by decide +kernel
theorem dT_hears_81 : decode kT_hears.2.1 81 = .ok (.iconst 4, 1) := by decide +kernel
theorem dT_hears_82 : decode kT_hears.2.1 82 = .ok (.if_icmp .ne 5, 3) := by decide +kernel
theorem dT_hears_85 : decode kT_hears.2.1 85 = .ok (.iconst 0, 1) := by decide +kernel
theorem dT_hears_86 : decode kT_hears.2.1 86 = .ok (.ireturn, 1) := by decide +kernel
theorem dT_hears_87 : decode kT_hears.2.1 87 = .ok (.aload_n 0, 1) := by decide +kernel
theorem dT_hears_88 : decode kT_hears.2.1 88 = .ok (.getfield 145, 3) := by decide +kernel
theorem dT_hears_91 : decode kT_hears.2.1 91 = .ok (.aload_n 0, 1) := by decide +kernel
theorem dT_hears_92 : decode kT_hears.2.1 92 = .ok (.getfield 62, 3) := by decide +kernel
theorem dT_hears_95 : decode kT_hears.2.1 95 = .ok (.iload_n 1, 1) := by decide +kernel
theorem dT_hears_96 : decode kT_hears.2.1 96 = .ok (.iaload, 1) := by decide +kernel
theorem dT_hears_97 : decode kT_hears.2.1 97 = .ok (.imul, 1) := by decide +kernel
theorem dT_hears_98 : decode kT_hears.2.1 98 = .ok (.istore 4, 2) := by decide +kernel
theorem dT_hears_100 : decode kT_hears.2.1 100 = .ok (.aload_n 0, 1) := by decide +kernel
theorem dT_hears_101 : decode kT_hears.2.1 101 = .ok (.getfield 145, 3) := by decide +kernel
theorem dT_hears_104 : decode kT_hears.2.1 104 = .ok (.aload_n 0, 1) := by decide +kernel
theorem dT_hears_105 : decode kT_hears.2.1 105 = .ok (.getfield 62, 3) := by decide +kernel
theorem dT_hears_108 : decode kT_hears.2.1 108 = .ok (.iload_n 2, 1) := by decide +kernel
theorem dT_hears_109 : decode kT_hears.2.1 109 = .ok (.iaload, 1) := by decide +kernel
theorem dT_hears_110 : decode kT_hears.2.1 110 = .ok (.imul, 1) := by decide +kernel
theorem dT_hears_111 : decode kT_hears.2.1 111 = .ok (.istore 5, 2) := by decide +kernel
theorem dT_hears_113 : decode kT_hears.2.1 113 = .ok (.iload 4, 2) := by decide +kernel
theorem dT_hears_115 : decode kT_hears.2.1 115 = .ok (.aload_n 0, 1) := by decide +kernel
theorem dT_hears_116 : decode kT_hears.2.1 116 = .ok (.getfield 16, 3) := by decide +kernel
theorem dT_hears_119 : decode kT_hears.2.1 119 = .ok (.iload_n 1, 1) := by decide +kernel
theorem dT_hears_120 : decode kT_hears.2.1 120 = .ok (.iaload, 1) := by decide +kernel
theorem dT_hears_121 : decode kT_hears.2.1 121 = .ok (.isub, 1) := by decide +kernel
theorem dT_hears_122 : decode kT_hears.2.1 122 = .ok (.iload 5, 2) := by decide +kernel
theorem dT_hears_124 : decode kT_hears.2.1 124 = .ok (.aload_n 0, 1) := by decide +kernel
theorem dT_hears_125 : decode kT_hears.2.1 125 = .ok (.getfield 145, 3) := by decide +kernel
theorem dT_hears_128 : decode kT_hears.2.1 128 = .ok (.iadd, 1) := by decide +kernel
theorem dT_hears_129 : decode kT_hears.2.1 129 = .ok (.iconst 1, 1) := by decide +kernel
theorem dT_hears_130 : decode kT_hears.2.1 130 = .ok (.isub, 1) := by decide +kernel
theorem dT_hears_131 : decode kT_hears.2.1 131 = .ok (.aload_n 0, 1) := by decide +kernel
theorem dT_hears_132 : decode kT_hears.2.1 132 = .ok (.getfield 16, 3) := by decide +kernel
theorem dT_hears_135 : decode kT_hears.2.1 135 = .ok (.iload_n 2, 1) := by decide +kernel
theorem dT_hears_136 : decode kT_hears.2.1 136 = .ok (.iaload, 1) := by decide +kernel
theorem dT_hears_137 : decode kT_hears.2.1 137 = .ok (.iadd, 1) := by decide +kernel
theorem dT_hears_138 : decode kT_hears.2.1 138 = .ok (.if_icmp .le 5, 3) := by decide +kernel
theorem dT_hears_141 : decode kT_hears.2.1 141 = .ok (.iconst 1, 1) := by decide +kernel
theorem dT_hears_142 : decode kT_hears.2.1 142 = .ok (.ireturn, 1) := by decide +kernel
theorem dT_hears_143 : decode kT_hears.2.1 143 = .ok (.iload 5, 2) := by decide +kernel
theorem dT_hears_145 : decode kT_hears.2.1 145 = .ok (.aload_n 0, 1) := by decide +kernel
theorem dT_hears_146 : decode kT_hears.2.1 146 = .ok (.getfield 16, 3) := by decide +kernel
theorem dT_hears_149 : decode kT_hears.2.1 149 = .ok (.iload_n 2, 1) := by decide +kernel
theorem dT_hears_150 : decode kT_hears.2.1 150 = .ok (.iaload, 1) := by decide +kernel
theorem dT_hears_151 : decode kT_hears.2.1 151 = .ok (.isub, 1) := by decide +kernel
theorem dT_hears_152 : decode kT_hears.2.1 152 = .ok (.iload 4, 2) := by decide +kernel
theorem dT_hears_154 : decode kT_hears.2.1 154 = .ok (.aload_n 0, 1) := by decide +kernel
theorem dT_hears_155 : decode kT_hears.2.1 155 = .ok (.getfield 145, 3) := by decide +kernel
theorem dT_hears_158 : decode kT_hears.2.1 158 = .ok (.iadd, 1) := by decide +kernel
theorem dT_hears_159 : decode kT_hears.2.1 159 = .ok (.iconst 1, 1) := by decide +kernel
theorem dT_hears_160 : decode kT_hears.2.1 160 = .ok (.isub, 1) := by decide +kernel
theorem dT_hears_161 : decode kT_hears.2.1 161 = .ok (.aload_n 0, 1) := by decide +kernel
theorem dT_hears_162 : decode kT_hears.2.1 162 = .ok (.getfield 16, 3) := by decide +kernel
theorem dT_hears_165 : decode kT_hears.2.1 165 = .ok (.iload_n 1, 1) := by decide +kernel
theorem dT_hears_166 : decode kT_hears.2.1 166 = .ok (.iaload, 1) := by decide +kernel
theorem dT_hears_167 : decode kT_hears.2.1 167 = .ok (.iadd, 1) := by decide +kernel
theorem dT_hears_168 : decode kT_hears.2.1 168 = .ok (.if_icmp .le 7, 3) := by decide +kernel
theorem dT_hears_171 : decode kT_hears.2.1 171 = .ok (.iconst (-1), 1) := by decide +kernel
theorem dT_hears_172 : decode kT_hears.2.1 172 = .ok (.goto 4, 3) := by decide +kernel
theorem dT_hears_175 : decode kT_hears.2.1 175 = .ok (.iconst 0, 1) := by decide +kernel
theorem dT_hears_176 : decode kT_hears.2.1 176 = .ok (.ireturn, 1) := by decide +kernel
theorem dT_ways_0 : decode kT_ways.2.1 0 = .ok (.aload_n 0, 1) := by decide +kernel
theorem dT_ways_1 : decode kT_ways.2.1 1 = .ok (.getfield 41, 3) := by decide +kernel
theorem dT_ways_4 : decode kT_ways.2.1 4 = .ok (.iload_n 1, 1) := by decide +kernel
theorem dT_ways_5 : decode kT_ways.2.1 5 = .ok (.iaload, 1) := by decide +kernel
theorem dT_ways_6 : decode kT_ways.2.1 6 = .ok (.aload_n 0, 1) := by decide +kernel
theorem dT_ways_7 : decode kT_ways.2.1 7 = .ok (.getfield 38, 3) := by decide +kernel
theorem dT_ways_10 : decode kT_ways.2.1 10 = .ok (.iload_n 1, 1) := by decide +kernel
theorem dT_ways_11 : decode kT_ways.2.1 11 = .ok (.iaload, 1) := by decide +kernel
theorem dT_ways_12 : decode kT_ways.2.1 12 = .ok (.isub, 1) := by decide +kernel
theorem dT_ways_13 : decode kT_ways.2.1 13 = .ok (.ireturn, 1) := by decide +kernel
theorem dT_whole_0 : decode kT_whole.2.1 0 = .ok (.iload_n 1, 1) := by decide +kernel
theorem dT_whole_1 : decode kT_whole.2.1 1 = .ok (.invokestatic 72, 3) := by decide +kernel
theorem dT_whole_4 : decode kT_whole.2.1 4 = .ok (.ifCond .eq 18, 3) := by decide +kernel
theorem dT_whole_7 : decode kT_whole.2.1 7 = .ok (.iload_n 2, 1) := by decide +kernel
theorem dT_whole_8 : decode kT_whole.2.1 8 = .ok (.iconst 1, 1) := by decide +kernel
theorem dT_whole_9 : decode kT_whole.2.1 9 = .ok (.sipush 200, 3) := by decide +kernel
theorem dT_whole_12 : decode kT_whole.2.1 12 = .ok (.invokestatic 80, 3) := by decide +kernel
theorem dT_whole_15 : decode kT_whole.2.1 15 = .ok (.ifCond .eq 7, 3) := by decide +kernel
theorem dT_whole_18 : decode kT_whole.2.1 18 = .ok (.iload_n 3, 1) := by decide +kernel
theorem dT_whole_19 : decode kT_whole.2.1 19 = .ok (.ifCond .ge 5, 3) := by decide +kernel
theorem dT_whole_22 : decode kT_whole.2.1 22 = .ok (.iconst (-1), 1) := by decide +kernel
theorem dT_whole_23 : decode kT_whole.2.1 23 = .ok (.ireturn, 1) := by decide +kernel
theorem dT_whole_24 : decode kT_whole.2.1 24 = .ok (.aload_n 0, 1) := by decide +kernel
theorem dT_whole_25 : decode kT_whole.2.1 25 = .ok (.iload_n 1, 1) := by decide +kernel
theorem dT_whole_26 : decode kT_whole.2.1 26 = .ok (.invokevirtual 112, 3) := by decide +kernel
theorem dT_whole_29 : decode kT_whole.2.1 29 = .ok (.iload_n 3, 1) := by decide +kernel
theorem dT_whole_30 : decode kT_whole.2.1 30 = .ok (.aload_n 0, 1) := by decide +kernel
theorem dT_whole_31 : decode kT_whole.2.1 31 = .ok (.getfield 106, 3) := by decide +kernel
theorem dT_whole_34 : decode kT_whole.2.1 34 = .ok (.if_icmp .ge 11, 3) := by decide +kernel
theorem dT_whole_37 : decode kT_whole.2.1 37 = .ok (.iload_n 2, 1) := by decide +kernel
theorem dT_whole_38 : decode kT_whole.2.1 38 = .ok (.aload_n 0, 1) := by decide +kernel
theorem dT_whole_39 : decode kT_whole.2.1 39 = .ok (.getfield 106, 3) := by decide +kernel
theorem dT_whole_42 : decode kT_whole.2.1 42 = .ok (.if_icmp .ge 5, 3) := by decide +kernel
theorem dT_whole_45 : decode kT_whole.2.1 45 = .ok (.iconst (-1), 1) := by decide +kernel
theorem dT_whole_46 : decode kT_whole.2.1 46 = .ok (.ireturn, 1) := by decide +kernel
theorem dT_whole_47 : decode kT_whole.2.1 47 = .ok (.iconst 0, 1) := by decide +kernel
theorem dT_whole_48 : decode kT_whole.2.1 48 = .ok (.istore 4, 2) := by decide +kernel
theorem dT_whole_50 : decode kT_whole.2.1 50 = .ok (.iconst 0, 1) := by decide +kernel
theorem dT_whole_51 : decode kT_whole.2.1 51 = .ok (.istore 5, 2) := by decide +kernel
theorem dT_whole_53 : decode kT_whole.2.1 53 = .ok (.iload 5, 2) := by decide +kernel
theorem dT_whole_55 : decode kT_whole.2.1 55 = .ok (.aload_n 0, 1) := by decide +kernel
theorem dT_whole_56 : decode kT_whole.2.1 56 = .ok (.getfield 106, 3) := by decide +kernel
theorem dT_whole_59 : decode kT_whole.2.1 59 = .ok (.if_icmp .ge 20, 3) := by decide +kernel
theorem dT_whole_62 : decode kT_whole.2.1 62 = .ok (.iload 4, 2) := by decide +kernel
theorem dT_whole_64 : decode kT_whole.2.1 64 = .ok (.aload_n 0, 1) := by decide +kernel
theorem dT_whole_65 : decode kT_whole.2.1 65 = .ok (.iload 5, 2) := by decide +kernel
theorem dT_whole_67 : decode kT_whole.2.1 67 = .ok (.invokevirtual 160, 3) := by decide +kernel
theorem dT_whole_70 : decode kT_whole.2.1 70 = .ok (.iadd, 1) := by decide +kernel
theorem dT_whole_71 : decode kT_whole.2.1 71 = .ok (.istore 4, 2) := by decide +kernel
theorem dT_whole_73 : decode kT_whole.2.1 73 = .ok (.iinc 5 1, 3) := by decide +kernel
theorem dT_whole_76 : decode kT_whole.2.1 76 = .ok (.goto (-23), 3) := by decide +kernel
theorem dT_whole_79 : decode kT_whole.2.1 79 = .ok (.iload_n 2, 1) := by decide +kernel
theorem dT_whole_80 : decode kT_whole.2.1 80 = .ok (.aload_n 0, 1) := by decide +kernel
theorem dT_whole_81 : decode kT_whole.2.1 81 = .ok (.getfield 106, 3) := by decide +kernel
theorem dT_whole_84 : decode kT_whole.2.1 84 = .ok (.isub, 1) := by decide +kernel
theorem dT_whole_85 : decode kT_whole.2.1 85 = .ok (.istore 5, 2) := by decide +kernel
theorem dT_whole_87 : decode kT_whole.2.1 87 = .ok (.iload 5, 2) := by decide +kernel
theorem dT_whole_89 : decode kT_whole.2.1 89 = .ok (.istore 6, 2) := by decide +kernel
theorem dT_whole_91 : decode kT_whole.2.1 91 = .ok (.iconst 0, 1) := by decide +kernel
theorem dT_whole_92 : decode kT_whole.2.1 92 = .ok (.istore 7, 2) := by decide +kernel
theorem dT_whole_94 : decode kT_whole.2.1 94 = .ok (.iload 7, 2) := by decide +kernel
theorem dT_whole_96 : decode kT_whole.2.1 96 = .ok (.aload_n 0, 1) := by decide +kernel
theorem dT_whole_97 : decode kT_whole.2.1 97 = .ok (.getfield 106, 3) := by decide +kernel
theorem dT_whole_100 : decode kT_whole.2.1 100 = .ok (.if_icmp .ge 48, 3) := by decide +kernel
theorem dT_whole_103 : decode kT_whole.2.1 103 = .ok (.aload_n 0, 1) := by decide +kernel
theorem dT_whole_104 : decode kT_whole.2.1 104 = .ok (.getfield 65, 3) := by decide +kernel
theorem dT_whole_107 : decode kT_whole.2.1 107 = .ok (.iload 7, 2) := by decide +kernel
theorem dT_whole_109 : decode kT_whole.2.1 109 = .ok (.iload 5, 2) := by decide +kernel
theorem dT_whole_111 : decode kT_whole.2.1 111 = .ok (.aload_n 0, 1) := by decide +kernel
theorem dT_whole_112 : decode kT_whole.2.1 112 = .ok (.iload 7, 2) := by decide +kernel
theorem dT_whole_114 : decode kT_whole.2.1 114 = .ok (.invokevirtual 160, 3) := by decide +kernel
theorem dT_whole_117 : decode kT_whole.2.1 117 = .ok (.imul, 1) := by decide +kernel
theorem dT_whole_118 : decode kT_whole.2.1 118 = .ok (.iload 4, 2) := by decide +kernel
theorem dT_whole_120 : decode kT_whole.2.1 120 = .ok (.idiv, 1) := by decide +kernel
theorem dT_whole_121 : decode kT_whole.2.1 121 = .ok (.iastore, 1) := by decide +kernel
theorem dT_whole_122 : decode kT_whole.2.1 122 = .ok (.iload 6, 2) := by decide +kernel
theorem dT_whole_124 : decode kT_whole.2.1 124 = .ok (.aload_n 0, 1) := by decide +kernel
theorem dT_whole_125 : decode kT_whole.2.1 125 = .ok (.getfield 65, 3) := by decide +kernel
theorem dT_whole_128 : decode kT_whole.2.1 128 = .ok (.iload 7, 2) := by decide +kernel
theorem dT_whole_130 : decode kT_whole.2.1 130 = .ok (.iaload, 1) := by decide +kernel
theorem dT_whole_131 : decode kT_whole.2.1 131 = .ok (.isub, 1) := by decide +kernel
theorem dT_whole_132 : decode kT_whole.2.1 132 = .ok (.istore 6, 2) := by decide +kernel
theorem dT_whole_134 : decode kT_whole.2.1 134 = .ok (.aload_n 0, 1) := by decide +kernel
theorem dT_whole_135 : decode kT_whole.2.1 135 = .ok (.getfield 68, 3) := by decide +kernel
theorem dT_whole_138 : decode kT_whole.2.1 138 = .ok (.iload 7, 2) := by decide +kernel
theorem dT_whole_140 : decode kT_whole.2.1 140 = .ok (.iconst 0, 1) := by decide +kernel
theorem dT_whole_141 : decode kT_whole.2.1 141 = .ok (.bastore, 1) := by decide +kernel
theorem dT_whole_142 : decode kT_whole.2.1 142 = .ok (.iinc 7 1, 3) := by decide +kernel
theorem dT_whole_145 : decode kT_whole.2.1 145 = .ok (.goto (-51), 3) := by decide +kernel
theorem dT_whole_148 : decode kT_whole.2.1 148 = .ok (.iload 6, 2) := by decide +kernel
theorem dT_whole_150 : decode kT_whole.2.1 150 = .ok (.ifCond .le 85, 3) := by decide +kernel
theorem dT_whole_153 : decode kT_whole.2.1 153 = .ok (.iconst (-1), 1) := by decide +kernel
theorem dT_whole_154 : decode kT_whole.2.1 154 = .ok (.istore 7, 2) := by decide +kernel
theorem dT_whole_156 : decode kT_whole.2.1 156 = .ok (.iconst 0, 1) := by decide +kernel
theorem dT_whole_157 : decode kT_whole.2.1 157 = .ok (.istore 8, 2) := by decide +kernel
theorem dT_whole_159 : decode kT_whole.2.1 159 = .ok (.iload 8, 2) := by decide +kernel
theorem dT_whole_161 : decode kT_whole.2.1 161 = .ok (.aload_n 0, 1) := by decide +kernel
theorem dT_whole_162 : decode kT_whole.2.1 162 = .ok (.getfield 106, 3) := by decide +kernel
theorem dT_whole_165 : decode kT_whole.2.1 165 = .ok (.if_icmp .ge 56, 3) := by decide +kernel
theorem dT_whole_168 : decode kT_whole.2.1 168 = .ok (.aload_n 0, 1) := by decide +kernel
theorem dT_whole_169 : decode kT_whole.2.1 169 = .ok (.getfield 68, 3) := by decide +kernel
theorem dT_whole_172 : decode kT_whole.2.1 172 = .ok (.iload 8, 2) := by decide +kernel
theorem dT_whole_174 : decode kT_whole.2.1 174 = .ok (.baload, 1) := by decide +kernel
theorem dT_whole_175 : decode kT_whole.2.1 175 = .ok (.ifCond .ne 40, 3) := by decide +kernel
theorem dT_whole_178 : decode kT_whole.2.1 178 = .ok (.iload 7, 2) := by decide +kernel
theorem dT_whole_180 : decode kT_whole.2.1 180 = .ok (.iconst (-1), 1) := by decide +kernel
theorem dT_whole_181 : decode kT_whole.2.1 181 = .ok (.if_icmp .eq 30, 3) := by decide +kernel
theorem dT_whole_184 : decode kT_whole.2.1 184 = .ok (.iload 5, 2) := by decide +kernel
theorem dT_whole_186 : decode kT_whole.2.1 186 = .ok (.aload_n 0, 1) := by decide +kernel
theorem dT_whole_187 : decode kT_whole.2.1 187 = .ok (.iload 8, 2) := by decide +kernel
theorem dT_whole_189 : decode kT_whole.2.1 189 = .ok (.invokevirtual 160, 3) := by decide +kernel
theorem dT_whole_192 : decode kT_whole.2.1 192 = .ok (.imul, 1) := by decide +kernel
theorem dT_whole_193 : decode kT_whole.2.1 193 = .ok (.iload 4, 2) := by decide +kernel
theorem dT_whole_195 : decode kT_whole.2.1 195 = .ok (.irem, 1) := by decide +kernel
theorem dT_whole_196 : decode kT_whole.2.1 196 = .ok (.iload 5, 2) := by decide +kernel
theorem dT_whole_198 : decode kT_whole.2.1 198 = .ok (.aload_n 0, 1) := by decide +kernel
theorem dT_whole_199 : decode kT_whole.2.1 199 = .ok (.iload 7, 2) := by decide +kernel
theorem dT_whole_201 : decode kT_whole.2.1 201 = .ok (.invokevirtual 160, 3) := by decide +kernel
theorem dT_whole_204 : decode kT_whole.2.1 204 = .ok (.imul, 1) := by decide +kernel
theorem dT_whole_205 : decode kT_whole.2.1 205 = .ok (.iload 4, 2) := by decide +kernel
theorem dT_whole_207 : decode kT_whole.2.1 207 = .ok (.irem, 1) := by decide +kernel
theorem dT_whole_208 : decode kT_whole.2.1 208 = .ok (.if_icmp .le 7, 3) := by decide +kernel
theorem dT_whole_211 : decode kT_whole.2.1 211 = .ok (.iload 8, 2) := by decide +kernel
theorem dT_whole_213 : decode kT_whole.2.1 213 = .ok (.istore 7, 2) := by decide +kernel
theorem dT_whole_215 : decode kT_whole.2.1 215 = .ok (.iinc 8 1, 3) := by decide +kernel
theorem dT_whole_218 : decode kT_whole.2.1 218 = .ok (.goto (-59), 3) := by decide +kernel
theorem dT_whole_221 : decode kT_whole.2.1 221 = .ok (.aload_n 0, 1) := by decide +kernel
theorem dT_whole_222 : decode kT_whole.2.1 222 = .ok (.getfield 68, 3) := by decide +kernel
theorem dT_whole_225 : decode kT_whole.2.1 225 = .ok (.iload 7, 2) := by decide +kernel
theorem dT_whole_227 : decode kT_whole.2.1 227 = .ok (.iconst 1, 1) := by decide +kernel
theorem dT_whole_228 : decode kT_whole.2.1 228 = .ok (.bastore, 1) := by decide +kernel
theorem dT_whole_229 : decode kT_whole.2.1 229 = .ok (.iinc 6 (-1), 3) := by decide +kernel
theorem dT_whole_232 : decode kT_whole.2.1 232 = .ok (.goto (-84), 3) := by decide +kernel
theorem dT_whole_235 : decode kT_whole.2.1 235 = .ok (.iconst 1, 1) := by decide +kernel
theorem dT_whole_236 : decode kT_whole.2.1 236 = .ok (.aload_n 0, 1) := by decide +kernel
theorem dT_whole_237 : decode kT_whole.2.1 237 = .ok (.getfield 65, 3) := by decide +kernel
theorem dT_whole_240 : decode kT_whole.2.1 240 = .ok (.iload_n 3, 1) := by decide +kernel
theorem dT_whole_241 : decode kT_whole.2.1 241 = .ok (.iaload, 1) := by decide +kernel
theorem dT_whole_242 : decode kT_whole.2.1 242 = .ok (.iadd, 1) := by decide +kernel
theorem dT_whole_243 : decode kT_whole.2.1 243 = .ok (.aload_n 0, 1) := by decide +kernel
theorem dT_whole_244 : decode kT_whole.2.1 244 = .ok (.getfield 68, 3) := by decide +kernel
theorem dT_whole_247 : decode kT_whole.2.1 247 = .ok (.iload_n 3, 1) := by decide +kernel
theorem dT_whole_248 : decode kT_whole.2.1 248 = .ok (.baload, 1) := by decide +kernel
theorem dT_whole_249 : decode kT_whole.2.1 249 = .ok (.ifCond .eq 7, 3) := by decide +kernel
theorem dT_whole_252 : decode kT_whole.2.1 252 = .ok (.iconst 1, 1) := by decide +kernel
theorem dT_whole_253 : decode kT_whole.2.1 253 = .ok (.goto 4, 3) := by decide +kernel
theorem dT_whole_256 : decode kT_whole.2.1 256 = .ok (.iconst 0, 1) := by decide +kernel
theorem dT_whole_257 : decode kT_whole.2.1 257 = .ok (.iadd, 1) := by decide +kernel
theorem dT_whole_258 : decode kT_whole.2.1 258 = .ok (.ireturn, 1) := by decide +kernel
theorem dT_walk_0 : decode kT_walk.2.1 0 = .ok (.aload_n 0, 1) := by decide +kernel
theorem dT_walk_1 : decode kT_walk.2.1 1 = .ok (.iload_n 1, 1) := by decide +kernel
theorem dT_walk_2 : decode kT_walk.2.1 2 = .ok (.iload_n 2, 1) := by decide +kernel
theorem dT_walk_3 : decode kT_walk.2.1 3 = .ok (.invokevirtual 76, 3) := by decide +kernel
theorem dT_walk_6 : decode kT_walk.2.1 6 = .ok (.ifCond .ne 5, 3) := by decide +kernel
theorem dT_walk_9 : decode kT_walk.2.1 9 = .ok (.iconst 0, 1) := by decide +kernel
theorem dT_walk_10 : decode kT_walk.2.1 10 = .ok (.ireturn, 1) := by decide +kernel
theorem dT_walk_11 : decode kT_walk.2.1 11 = .ok (.aload_n 0, 1) := by decide +kernel
theorem dT_walk_12 : decode kT_walk.2.1 12 = .ok (.iload_n 1, 1) := by decide +kernel
theorem dT_walk_13 : decode kT_walk.2.1 13 = .ok (.putfield 26, 3) := by decide +kernel
theorem dT_walk_16 : decode kT_walk.2.1 16 = .ok (.aload_n 0, 1) := by decide +kernel
theorem dT_walk_17 : decode kT_walk.2.1 17 = .ok (.iload_n 2, 1) := by decide +kernel
theorem dT_walk_18 : decode kT_walk.2.1 18 = .ok (.putfield 163, 3) := by decide +kernel
theorem dT_walk_21 : decode kT_walk.2.1 21 = .ok (.iconst 1, 1) := by decide +kernel
theorem dT_walk_22 : decode kT_walk.2.1 22 = .ok (.ireturn, 1) := by decide +kernel
theorem dT_where_0 : decode kT_where.2.1 0 = .ok (.aload_n 0, 1) := by decide +kernel
theorem dT_where_1 : decode kT_where.2.1 1 = .ok (.getfield 26, 3) := by decide +kernel
theorem dT_where_4 : decode kT_where.2.1 4 = .ok (.iconst (-1), 1) := by decide +kernel
theorem dT_where_5 : decode kT_where.2.1 5 = .ok (.if_icmp .ne 7, 3) := by decide +kernel
theorem dT_where_8 : decode kT_where.2.1 8 = .ok (.iconst (-1), 1) := by decide +kernel
theorem dT_where_9 : decode kT_where.2.1 9 = .ok (.goto 27, 3) := by decide +kernel
theorem dT_where_12 : decode kT_where.2.1 12 = .ok (.iload_n 1, 1) := by decide +kernel
theorem dT_where_13 : decode kT_where.2.1 13 = .ok (.ifCond .ne 10, 3) := by decide +kernel
theorem dT_where_16 : decode kT_where.2.1 16 = .ok (.aload_n 0, 1) := by decide +kernel
theorem dT_where_17 : decode kT_where.2.1 17 = .ok (.getfield 26, 3) := by decide +kernel
theorem dT_where_20 : decode kT_where.2.1 20 = .ok (.goto 16, 3) := by decide +kernel
theorem dT_where_23 : decode kT_where.2.1 23 = .ok (.iload_n 1, 1) := by decide +kernel
theorem dT_where_24 : decode kT_where.2.1 24 = .ok (.iconst 1, 1) := by decide +kernel
theorem dT_where_25 : decode kT_where.2.1 25 = .ok (.if_icmp .ne 10, 3) := by decide +kernel
theorem dT_where_28 : decode kT_where.2.1 28 = .ok (.aload_n 0, 1) := by decide +kernel
theorem dT_where_29 : decode kT_where.2.1 29 = .ok (.getfield 163, 3) := by decide +kernel
theorem dT_where_32 : decode kT_where.2.1 32 = .ok (.goto 4, 3) := by decide +kernel
theorem dT_where_35 : decode kT_where.2.1 35 = .ok (.iconst (-1), 1) := by decide +kernel
theorem dT_where_36 : decode kT_where.2.1 36 = .ok (.ireturn, 1) := by decide +kernel
theorem dT_go_0 : decode kT_go.2.1 0 = .ok (.aload_n 0, 1) := by decide +kernel
theorem dT_go_1 : decode kT_go.2.1 1 = .ok (.getfield 163, 3) := by decide +kernel
theorem dT_go_4 : decode kT_go.2.1 4 = .ok (.iload_n 1, 1) := by decide +kernel
theorem dT_go_5 : decode kT_go.2.1 5 = .ok (.ifCond .eq 7, 3) := by decide +kernel
theorem dT_go_8 : decode kT_go.2.1 8 = .ok (.iconst 1, 1) := by decide +kernel
theorem dT_go_9 : decode kT_go.2.1 9 = .ok (.goto 4, 3) := by decide +kernel
theorem dT_go_12 : decode kT_go.2.1 12 = .ok (.iconst (-1), 1) := by decide +kernel
theorem dT_go_13 : decode kT_go.2.1 13 = .ok (.iadd, 1) := by decide +kernel
theorem dT_go_14 : decode kT_go.2.1 14 = .ok (.istore_n 2, 1) := by decide +kernel
theorem dT_go_15 : decode kT_go.2.1 15 = .ok (.aload_n 0, 1) := by decide +kernel
theorem dT_go_16 : decode kT_go.2.1 16 = .ok (.getfield 26, 3) := by decide +kernel
theorem dT_go_19 : decode kT_go.2.1 19 = .ok (.iconst (-1), 1) := by decide +kernel
theorem dT_go_20 : decode kT_go.2.1 20 = .ok (.if_icmp .eq 15, 3) := by decide +kernel
theorem dT_go_23 : decode kT_go.2.1 23 = .ok (.aload_n 0, 1) := by decide +kernel
theorem dT_go_24 : decode kT_go.2.1 24 = .ok (.aload_n 0, 1) := by decide +kernel
theorem dT_go_25 : decode kT_go.2.1 25 = .ok (.getfield 26, 3) := by decide +kernel
theorem dT_go_28 : decode kT_go.2.1 28 = .ok (.iload_n 2, 1) := by decide +kernel
theorem dT_go_29 : decode kT_go.2.1 29 = .ok (.invokevirtual 76, 3) := by decide +kernel
theorem dT_go_32 : decode kT_go.2.1 32 = .ok (.ifCond .ne 5, 3) := by decide +kernel
theorem dT_go_35 : decode kT_go.2.1 35 = .ok (.iconst (-1), 1) := by decide +kernel
theorem dT_go_36 : decode kT_go.2.1 36 = .ok (.ireturn, 1) := by decide +kernel
theorem dT_go_37 : decode kT_go.2.1 37 = .ok (.aload_n 0, 1) := by decide +kernel
theorem dT_go_38 : decode kT_go.2.1 38 = .ok (.iload_n 2, 1) := by decide +kernel
theorem dT_go_39 : decode kT_go.2.1 39 = .ok (.putfield 163, 3) := by decide +kernel
theorem dT_go_42 : decode kT_go.2.1 42 = .ok (.iload_n 2, 1) := by decide +kernel
theorem dT_go_43 : decode kT_go.2.1 43 = .ok (.ireturn, 1) := by decide +kernel
theorem dT_isCross_0 : decode kT_isCross.2.1 0 = .ok (.iconst 0, 1) := by decide +kernel
theorem dT_isCross_1 : decode kT_isCross.2.1 1 = .ok (.istore_n 3, 1) := by decide +kernel
theorem dT_isCross_2 : decode kT_isCross.2.1 2 = .ok (.iload_n 3, 1) := by decide +kernel
theorem dT_isCross_3 : decode kT_isCross.2.1 3 = .ok (.iconst 4, 1) := by decide +kernel
theorem dT_isCross_4 : decode kT_isCross.2.1 4 = .ok (.if_icmp .ge 54, 3) := by decide +kernel
theorem dT_isCross_7 : decode kT_isCross.2.1 7 = .ok (.iload_n 3, 1) := by decide +kernel
theorem dT_isCross_8 : decode kT_isCross.2.1 8 = .ok (.iload_n 1, 1) := by decide +kernel
theorem dT_isCross_9 : decode kT_isCross.2.1 9 = .ok (.if_icmp .ne 6, 3) := by decide +kernel
theorem dT_isCross_12 : decode kT_isCross.2.1 12 = .ok (.goto 40, 3) := by decide +kernel
theorem dT_isCross_15 : decode kT_isCross.2.1 15 = .ok (.aload_n 0, 1) := by decide +kernel
theorem dT_isCross_16 : decode kT_isCross.2.1 16 = .ok (.iload_n 1, 1) := by decide +kernel
theorem dT_isCross_17 : decode kT_isCross.2.1 17 = .ok (.iload_n 3, 1) := by decide +kernel
theorem dT_isCross_18 : decode kT_isCross.2.1 18 = .ok (.invokevirtual 131, 3) := by decide +kernel
theorem dT_isCross_21 : decode kT_isCross.2.1 21 = .ok (.iconst 0, 1) := by decide +kernel
theorem dT_isCross_22 : decode kT_isCross.2.1 22 = .ok (.istore 4, 2) := by decide +kernel
theorem dT_isCross_24 : decode kT_isCross.2.1 24 = .ok (.iload 4, 2) := by decide +kernel
theorem dT_isCross_26 : decode kT_isCross.2.1 26 = .ok (.aload_n 0, 1) := by decide +kernel
theorem dT_isCross_27 : decode kT_isCross.2.1 27 = .ok (.getfield 125, 3) := by decide +kernel
theorem dT_isCross_30 : decode kT_isCross.2.1 30 = .ok (.if_icmp .ge 22, 3) := by decide +kernel
theorem dT_isCross_33 : decode kT_isCross.2.1 33 = .ok (.aload_n 0, 1) := by decide +kernel
theorem dT_isCross_34 : decode kT_isCross.2.1 34 = .ok (.getfield 47, 3) := by decide +kernel
theorem dT_isCross_37 : decode kT_isCross.2.1 37 = .ok (.iload 4, 2) := by decide +kernel
theorem dT_isCross_39 : decode kT_isCross.2.1 39 = .ok (.iaload, 1) := by decide +kernel
theorem dT_isCross_40 : decode kT_isCross.2.1 40 = .ok (.iload_n 2, 1) := by decide +kernel
theorem dT_isCross_41 : decode kT_isCross.2.1 41 = .ok (.if_icmp .ne 5, 3) := by decide +kernel
theorem dT_isCross_44 : decode kT_isCross.2.1 44 = .ok (.iconst 1, 1) := by decide +kernel
theorem dT_isCross_45 : decode kT_isCross.2.1 45 = .ok (.ireturn, 1) := by decide +kernel
theorem dT_isCross_46 : decode kT_isCross.2.1 46 = .ok (.iinc 4 1, 3) := by decide +kernel
theorem dT_isCross_49 : decode kT_isCross.2.1 49 = .ok (.goto (-25), 3) := by decide +kernel
theorem dT_isCross_52 : decode kT_isCross.2.1 52 = .ok (.iinc 3 1, 3) := by decide +kernel
theorem dT_isCross_55 : decode kT_isCross.2.1 55 = .ok (.goto (-53), 3) := by decide +kernel
theorem dT_isCross_58 : decode kT_isCross.2.1 58 = .ok (.iconst 0, 1) := by decide +kernel
theorem dT_isCross_59 : decode kT_isCross.2.1 59 = .ok (.ireturn, 1) := by decide +kernel
theorem dT_isTurn_0 : decode kT_isTurn.2.1 0 = .ok (.aload_n 0, 1) := by decide +kernel
theorem dT_isTurn_1 : decode kT_isTurn.2.1 1 = .ok (.iload_n 1, 1) := by decide +kernel
theorem dT_isTurn_2 : decode kT_isTurn.2.1 2 = .ok (.invokevirtual 122, 3) := by decide +kernel
theorem dT_isTurn_5 : decode kT_isTurn.2.1 5 = .ok (.iconst 0, 1) := by decide +kernel
theorem dT_isTurn_6 : decode kT_isTurn.2.1 6 = .ok (.istore_n 3, 1) := by decide +kernel
theorem dT_isTurn_7 : decode kT_isTurn.2.1 7 = .ok (.iload_n 3, 1) := by decide +kernel
theorem dT_isTurn_8 : decode kT_isTurn.2.1 8 = .ok (.aload_n 0, 1) := by decide +kernel
theorem dT_isTurn_9 : decode kT_isTurn.2.1 9 = .ok (.getfield 115, 3) := by decide +kernel
theorem dT_isTurn_12 : decode kT_isTurn.2.1 12 = .ok (.if_icmp .ge 21, 3) := by decide +kernel
theorem dT_isTurn_15 : decode kT_isTurn.2.1 15 = .ok (.aload_n 0, 1) := by decide +kernel
theorem dT_isTurn_16 : decode kT_isTurn.2.1 16 = .ok (.getfield 44, 3) := by decide +kernel
theorem dT_isTurn_19 : decode kT_isTurn.2.1 19 = .ok (.iload_n 3, 1) := by decide +kernel
theorem dT_isTurn_20 : decode kT_isTurn.2.1 20 = .ok (.iaload, 1) := by decide +kernel
theorem dT_isTurn_21 : decode kT_isTurn.2.1 21 = .ok (.iload_n 2, 1) := by decide +kernel
theorem dT_isTurn_22 : decode kT_isTurn.2.1 22 = .ok (.if_icmp .ne 5, 3) := by decide +kernel
theorem dT_isTurn_25 : decode kT_isTurn.2.1 25 = .ok (.iconst 1, 1) := by decide +kernel
theorem dT_isTurn_26 : decode kT_isTurn.2.1 26 = .ok (.ireturn, 1) := by decide +kernel
theorem dT_isTurn_27 : decode kT_isTurn.2.1 27 = .ok (.iinc 3 1, 3) := by decide +kernel
theorem dT_isTurn_30 : decode kT_isTurn.2.1 30 = .ok (.goto (-23), 3) := by decide +kernel
theorem dT_isTurn_33 : decode kT_isTurn.2.1 33 = .ok (.iconst 0, 1) := by decide +kernel
theorem dT_isTurn_34 : decode kT_isTurn.2.1 34 = .ok (.ireturn, 1) := by decide +kernel
theorem dT_seek_0 : decode kT_seek.2.1 0 = .ok (.aload_n 0, 1) := by decide +kernel
theorem dT_seek_1 : decode kT_seek.2.1 1 = .ok (.getfield 26, 3) := by decide +kernel
theorem dT_seek_4 : decode kT_seek.2.1 4 = .ok (.iconst (-1), 1) := by decide +kernel
theorem dT_seek_5 : decode kT_seek.2.1 5 = .ok (.if_icmp .eq 12, 3) := by decide +kernel
theorem dT_seek_8 : decode kT_seek.2.1 8 = .ok (.iload_n 2, 1) := by decide +kernel
theorem dT_seek_9 : decode kT_seek.2.1 9 = .ok (.ifCond .lt 8, 3) := by decide +kernel
theorem dT_seek_12 : decode kT_seek.2.1 12 = .ok (.iload_n 2, 1) := by decide +kernel
theorem dT_seek_13 : decode kT_seek.2.1 13 = .ok (.iconst 2, 1) := by decide +kernel
theorem dT_seek_14 : decode kT_seek.2.1 14 = .ok (.if_icmp .le 5, 3) := by decide +kernel
theorem dT_seek_17 : decode kT_seek.2.1 17 = .ok (.iconst (-1), 1) := by decide +kernel
theorem dT_seek_18 : decode kT_seek.2.1 18 = .ok (.ireturn, 1) := by decide +kernel
theorem dT_seek_19 : decode kT_seek.2.1 19 = .ok (.aload_n 0, 1) := by decide +kernel
theorem dT_seek_20 : decode kT_seek.2.1 20 = .ok (.getfield 26, 3) := by decide +kernel
theorem dT_seek_23 : decode kT_seek.2.1 23 = .ok (.istore_n 3, 1) := by decide +kernel
theorem dT_seek_24 : decode kT_seek.2.1 24 = .ok (.aload_n 0, 1) := by decide +kernel
theorem dT_seek_25 : decode kT_seek.2.1 25 = .ok (.getfield 163, 3) := by decide +kernel
theorem dT_seek_28 : decode kT_seek.2.1 28 = .ok (.iload_n 1, 1) := by decide +kernel
theorem dT_seek_29 : decode kT_seek.2.1 29 = .ok (.ifCond .eq 7, 3) := by decide +kernel
theorem dT_seek_32 : decode kT_seek.2.1 32 = .ok (.iconst 1, 1) := by decide +kernel
theorem dT_seek_33 : decode kT_seek.2.1 33 = .ok (.goto 4, 3) := by decide +kernel
theorem dT_seek_36 : decode kT_seek.2.1 36 = .ok (.iconst (-1), 1) := by decide +kernel
theorem dT_seek_37 : decode kT_seek.2.1 37 = .ok (.iadd, 1) := by decide +kernel
theorem dT_seek_38 : decode kT_seek.2.1 38 = .ok (.istore 4, 2) := by decide +kernel
theorem dT_seek_40 : decode kT_seek.2.1 40 = .ok (.aload_n 0, 1) := by decide +kernel
theorem dT_seek_41 : decode kT_seek.2.1 41 = .ok (.iload_n 3, 1) := by decide +kernel
theorem dT_seek_42 : decode kT_seek.2.1 42 = .ok (.iload 4, 2) := by decide +kernel
theorem dT_seek_44 : decode kT_seek.2.1 44 = .ok (.invokevirtual 76, 3) := by decide +kernel
theorem dT_seek_47 : decode kT_seek.2.1 47 = .ok (.ifCond .eq 83, 3) := by decide +kernel
theorem dT_seek_50 : decode kT_seek.2.1 50 = .ok (.iload_n 2, 1) := by decide +kernel
theorem dT_seek_51 : decode kT_seek.2.1 51 = .ok (.ifCond .ne 13, 3) := by decide +kernel
theorem dT_seek_54 : decode kT_seek.2.1 54 = .ok (.aload_n 0, 1) := by decide +kernel
theorem dT_seek_55 : decode kT_seek.2.1 55 = .ok (.iload_n 3, 1) := by decide +kernel
theorem dT_seek_56 : decode kT_seek.2.1 56 = .ok (.iload 4, 2) := by decide +kernel
theorem dT_seek_58 : decode kT_seek.2.1 58 = .ok (.invokevirtual 166, 3) := by decide +kernel
theorem dT_seek_61 : decode kT_seek.2.1 61 = .ok (.goto 33, 3) := by decide +kernel
theorem dT_seek_64 : decode kT_seek.2.1 64 = .ok (.iload_n 2, 1) := by decide +kernel
theorem dT_seek_65 : decode kT_seek.2.1 65 = .ok (.iconst 1, 1) := by decide +kernel
theorem dT_seek_66 : decode kT_seek.2.1 66 = .ok (.if_icmp .ne 13, 3) := by decide +kernel
theorem dT_seek_69 : decode kT_seek.2.1 69 = .ok (.aload_n 0, 1) := by decide +kernel
theorem dT_seek_70 : decode kT_seek.2.1 70 = .ok (.iload_n 3, 1) := by decide +kernel
theorem dT_seek_71 : decode kT_seek.2.1 71 = .ok (.iload 4, 2) := by decide +kernel
theorem dT_seek_73 : decode kT_seek.2.1 73 = .ok (.invokevirtual 169, 3) := by decide +kernel
theorem dT_seek_76 : decode kT_seek.2.1 76 = .ok (.goto 18, 3) := by decide +kernel
theorem dT_seek_79 : decode kT_seek.2.1 79 = .ok (.aload_n 0, 1) := by decide +kernel
theorem dT_seek_80 : decode kT_seek.2.1 80 = .ok (.iload_n 3, 1) := by decide +kernel
theorem dT_seek_81 : decode kT_seek.2.1 81 = .ok (.iload 4, 2) := by decide +kernel
theorem dT_seek_83 : decode kT_seek.2.1 83 = .ok (.invokevirtual 91, 3) := by decide +kernel
theorem dT_seek_86 : decode kT_seek.2.1 86 = .ok (.ifCond .ne 7, 3) := by decide +kernel
theorem dT_seek_89 : decode kT_seek.2.1 89 = .ok (.iconst 1, 1) := by decide +kernel
theorem dT_seek_90 : decode kT_seek.2.1 90 = .ok (.goto 4, 3) := by decide +kernel
theorem dT_seek_93 : decode kT_seek.2.1 93 = .ok (.iconst 0, 1) := by decide +kernel
theorem dT_seek_94 : decode kT_seek.2.1 94 = .ok (.istore 5, 2) := by decide +kernel
theorem dT_seek_96 : decode kT_seek.2.1 96 = .ok (.iload 5, 2) := by decide +kernel
theorem dT_seek_98 : decode kT_seek.2.1 98 = .ok (.ifCond .ne 6, 3) := by decide +kernel
theorem dT_seek_101 : decode kT_seek.2.1 101 = .ok (.goto 12, 3) := by decide +kernel
theorem dT_seek_104 : decode kT_seek.2.1 104 = .ok (.aload_n 0, 1) := by decide +kernel
theorem dT_seek_105 : decode kT_seek.2.1 105 = .ok (.iload 4, 2) := by decide +kernel
theorem dT_seek_107 : decode kT_seek.2.1 107 = .ok (.putfield 163, 3) := by decide +kernel
theorem dT_seek_110 : decode kT_seek.2.1 110 = .ok (.iload 4, 2) := by decide +kernel
theorem dT_seek_112 : decode kT_seek.2.1 112 = .ok (.ireturn, 1) := by decide +kernel
theorem dT_seek_113 : decode kT_seek.2.1 113 = .ok (.iload 4, 2) := by decide +kernel
theorem dT_seek_115 : decode kT_seek.2.1 115 = .ok (.iload_n 1, 1) := by decide +kernel
theorem dT_seek_116 : decode kT_seek.2.1 116 = .ok (.ifCond .eq 7, 3) := by decide +kernel
theorem dT_seek_119 : decode kT_seek.2.1 119 = .ok (.iconst 1, 1) := by decide +kernel
theorem dT_seek_120 : decode kT_seek.2.1 120 = .ok (.goto 4, 3) := by decide +kernel
theorem dT_seek_123 : decode kT_seek.2.1 123 = .ok (.iconst (-1), 1) := by decide +kernel
theorem dT_seek_124 : decode kT_seek.2.1 124 = .ok (.iadd, 1) := by decide +kernel
theorem dT_seek_125 : decode kT_seek.2.1 125 = .ok (.istore 4, 2) := by decide +kernel
theorem dT_seek_127 : decode kT_seek.2.1 127 = .ok (.goto (-87), 3) := by decide +kernel
theorem dT_seek_130 : decode kT_seek.2.1 130 = .ok (.iconst (-1), 1) := by decide +kernel
theorem dT_seek_131 : decode kT_seek.2.1 131 = .ok (.ireturn, 1) := by decide +kernel
