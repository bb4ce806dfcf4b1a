theorem dE_init_0 : decode kE_init.2.1 0 = .ok (.aload_n 0, 1) := by decide +kernel
theorem dE_init_1 : decode kE_init.2.1 1 = .ok (.invokespecial 3, 3) := by decide +kernel
theorem dE_init_4 : decode kE_init.2.1 4 = .ok (.aload_n 0, 1) := by decide +kernel
theorem dE_init_5 : decode kE_init.2.1 5 = .ok (.iconst 4, 1) := by decide +kernel
theorem dE_init_6 : decode kE_init.2.1 6 = .ok (.anewarray 9, 3) := by decide +kernel
theorem dE_init_9 : decode kE_init.2.1 9 = .ok (.putfield 11, 3) := by decide +kernel
theorem dE_init_12 : decode kE_init.2.1 12 = .ok (.iconst 0, 1) := by decide +kernel
theorem dE_init_13 : decode kE_init.2.1 13 = .ok (.istore_n 1, 1) := by decide +kernel
theorem dE_init_14 : decode kE_init.2.1 14 = .ok (.iload_n 1, 1) := by decide +kernel
theorem dE_init_15 : decode kE_init.2.1 15 = .ok (.iconst 4, 1) := by decide +kernel
theorem dE_init_16 : decode kE_init.2.1 16 = .ok (.if_icmp .ge 22, 3) := by decide +kernel
theorem dE_init_19 : decode kE_init.2.1 19 = .ok (.aload_n 0, 1) := by decide +kernel
theorem dE_init_20 : decode kE_init.2.1 20 = .ok (.getfield 11, 3) := by decide +kernel
theorem dE_init_23 : decode kE_init.2.1 23 = .ok (.iload_n 1, 1) := by decide +kernel
theorem dE_init_24 : decode kE_init.2.1 24 = .ok (.new 9, 3) := by decide +kernel
theorem dE_init_27 : decode kE_init.2.1 27 = .ok (.dup, 1) := by decide +kernel
theorem dE_init_28 : decode kE_init.2.1 28 = .ok (.invokespecial 15, 3) := by decide +kernel
theorem dE_init_31 : decode kE_init.2.1 31 = .ok (.aastore, 1) := by decide +kernel
theorem dE_init_32 : decode kE_init.2.1 32 = .ok (.iinc 1 1, 3) := by decide +kernel
theorem dE_init_35 : decode kE_init.2.1 35 = .ok (.goto (-21), 3) := by decide +kernel
theorem dE_init_38 : decode kE_init.2.1 38 = .ok (.aload_n 0, 1) := by decide +kernel
theorem dE_init_39 : decode kE_init.2.1 39 = .ok (.new 16, 3) := by decide +kernel
theorem dE_init_42 : decode kE_init.2.1 42 = .ok (.dup, 1) := by decide +kernel
theorem dE_init_43 : decode kE_init.2.1 43 = .ok (.invokespecial 18, 3) := by decide +kernel
theorem dE_init_46 : decode kE_init.2.1 46 = .ok (.putfield 19, 3) := by decide +kernel
theorem dE_init_49 : decode kE_init.2.1 49 = .ok (.aload_n 0, 1) := by decide +kernel
theorem dE_init_50 : decode kE_init.2.1 50 = .ok (.new 23, 3) := by decide +kernel
theorem dE_init_53 : decode kE_init.2.1 53 = .ok (.dup, 1) := by decide +kernel
theorem dE_init_54 : decode kE_init.2.1 54 = .ok (.invokespecial 25, 3) := by decide +kernel
theorem dE_init_57 : decode kE_init.2.1 57 = .ok (.putfield 26, 3) := by decide +kernel
theorem dE_init_60 : decode kE_init.2.1 60 = .ok (.aload_n 0, 1) := by decide +kernel
theorem dE_init_61 : decode kE_init.2.1 61 = .ok (.new 30, 3) := by decide +kernel
theorem dE_init_64 : decode kE_init.2.1 64 = .ok (.dup, 1) := by decide +kernel
theorem dE_init_65 : decode kE_init.2.1 65 = .ok (.invokespecial 32, 3) := by decide +kernel
theorem dE_init_68 : decode kE_init.2.1 68 = .ok (.putfield 33, 3) := by decide +kernel
theorem dE_init_71 : decode kE_init.2.1 71 = .ok (.aload_n 0, 1) := by decide +kernel
theorem dE_init_72 : decode kE_init.2.1 72 = .ok (.bipush 40, 2) := by decide +kernel
theorem dE_init_74 : decode kE_init.2.1 74 = .ok (.newarray .boolean, 2) := by decide +kernel
theorem dE_init_76 : decode kE_init.2.1 76 = .ok (.putfield 37, 3) := by decide +kernel
theorem dE_init_79 : decode kE_init.2.1 79 = .ok (.aload_n 0, 1) := by decide +kernel
theorem dE_init_80 : decode kE_init.2.1 80 = .ok (.bipush 10, 2) := by decide +kernel
theorem dE_init_82 : decode kE_init.2.1 82 = .ok (.putfield 41, 3) := by decide +kernel
theorem dE_init_85 : decode kE_init.2.1 85 = .ok (.aload_n 0, 1) := by decide +kernel
theorem dE_init_86 : decode kE_init.2.1 86 = .ok (.iconst 0, 1) := by decide +kernel
theorem dE_init_87 : decode kE_init.2.1 87 = .ok (.putfield 45, 3) := by decide +kernel
theorem dE_init_90 : decode kE_init.2.1 90 = .ok (.aload_n 0, 1) := by decide +kernel
theorem dE_init_91 : decode kE_init.2.1 91 = .ok (.iconst 3, 1) := by decide +kernel
theorem dE_init_92 : decode kE_init.2.1 92 = .ok (.putfield 48, 3) := by decide +kernel
theorem dE_init_95 : decode kE_init.2.1 95 = .ok (.aload_n 0, 1) := by decide +kernel
theorem dE_init_96 : decode kE_init.2.1 96 = .ok (.iconst 1, 1) := by decide +kernel
theorem dE_init_97 : decode kE_init.2.1 97 = .ok (.putfield 51, 3) := by decide +kernel
theorem dE_init_100 : decode kE_init.2.1 100 = .ok (.aload_n 0, 1) := by decide +kernel
theorem dE_init_101 : decode kE_init.2.1 101 = .ok (.iconst (-1), 1) := by decide +kernel
theorem dE_init_102 : decode kE_init.2.1 102 = .ok (.putfield 54, 3) := by decide +kernel
theorem dE_init_105 : decode kE_init.2.1 105 = .ok (.aload_n 0, 1) := by decide +kernel
theorem dE_init_106 : decode kE_init.2.1 106 = .ok (.iconst 0, 1) := by decide +kernel
theorem dE_init_107 : decode kE_init.2.1 107 = .ok (.putfield 57, 3) := by decide +kernel
theorem dE_init_110 : decode kE_init.2.1 110 = .ok (.return_, 1) := by decide +kernel
theorem dE_value_0 : decode kE_value.2.1 0 = .ok (.aload_n 0, 1) := by decide +kernel
theorem dE_value_1 : decode kE_value.2.1 1 = .ok (.iload_n 1, 1) := by decide +kernel
theorem dE_value_2 : decode kE_value.2.1 2 = .ok (.invokevirtual 60, 3) := by decide +kernel
theorem dE_value_5 : decode kE_value.2.1 5 = .ok (.astore_n 3, 1) := by decide +kernel
theorem dE_value_6 : decode kE_value.2.1 6 = .ok (.aload_n 3, 1) := by decide +kernel
theorem dE_value_7 : decode kE_value.2.1 7 = .ok (.ifnull 10, 3) := by decide +kernel
theorem dE_value_10 : decode kE_value.2.1 10 = .ok (.iload_n 2, 1) := by decide +kernel
theorem dE_value_11 : decode kE_value.2.1 11 = .ok (.invokestatic 64, 3) := by decide +kernel
theorem dE_value_14 : decode kE_value.2.1 14 = .ok (.ifCond .ne 7, 3) := by decide +kernel
theorem dE_value_17 : decode kE_value.2.1 17 = .ok (.iconst (-1), 1) := by decide +kernel
theorem dE_value_18 : decode kE_value.2.1 18 = .ok (.goto 8, 3) := by decide +kernel
theorem dE_value_21 : decode kE_value.2.1 21 = .ok (.aload_n 3, 1) := by decide +kernel
theorem dE_value_22 : decode kE_value.2.1 22 = .ok (.iload_n 2, 1) := by decide +kernel
theorem dE_value_23 : decode kE_value.2.1 23 = .ok (.invokevirtual 68, 3) := by decide +kernel
theorem dE_value_26 : decode kE_value.2.1 26 = .ok (.ireturn, 1) := by decide +kernel
theorem dE_gap_0 : decode kE_gap.2.1 0 = .ok (.aload_n 0, 1) := by decide +kernel
theorem dE_gap_1 : decode kE_gap.2.1 1 = .ok (.iload_n 1, 1) := by decide +kernel
theorem dE_gap_2 : decode kE_gap.2.1 2 = .ok (.invokevirtual 60, 3) := by decide +kernel
theorem dE_gap_5 : decode kE_gap.2.1 5 = .ok (.astore_n 2, 1) := by decide +kernel
theorem dE_gap_6 : decode kE_gap.2.1 6 = .ok (.aload_n 2, 1) := by decide +kernel
theorem dE_gap_7 : decode kE_gap.2.1 7 = .ok (.ifnonnull 7, 3) := by decide +kernel
theorem dE_gap_10 : decode kE_gap.2.1 10 = .ok (.iconst (-1), 1) := by decide +kernel
theorem dE_gap_11 : decode kE_gap.2.1 11 = .ok (.goto 10, 3) := by decide +kernel
theorem dE_gap_14 : decode kE_gap.2.1 14 = .ok (.aload_n 2, 1) := by decide +kernel
theorem dE_gap_15 : decode kE_gap.2.1 15 = .ok (.sipush (-5000), 3) := by decide +kernel
theorem dE_gap_18 : decode kE_gap.2.1 18 = .ok (.invokevirtual 68, 3) := by decide +kernel
theorem dE_gap_21 : decode kE_gap.2.1 21 = .ok (.ireturn, 1) := by decide +kernel
theorem dE_put_0 : decode kE_put.2.1 0 = .ok (.aload_n 0, 1) := by decide +kernel
theorem dE_put_1 : decode kE_put.2.1 1 = .ok (.iload_n 1, 1) := by decide +kernel
theorem dE_put_2 : decode kE_put.2.1 2 = .ok (.invokevirtual 60, 3) := by decide +kernel
theorem dE_put_5 : decode kE_put.2.1 5 = .ok (.astore 4, 2) := by decide +kernel
theorem dE_put_7 : decode kE_put.2.1 7 = .ok (.aload 4, 2) := by decide +kernel
theorem dE_put_9 : decode kE_put.2.1 9 = .ok (.ifnull 19, 3) := by decide +kernel
theorem dE_put_12 : decode kE_put.2.1 12 = .ok (.aload 4, 2) := by decide +kernel
theorem dE_put_14 : decode kE_put.2.1 14 = .ok (.iload_n 2, 1) := by decide +kernel
theorem dE_put_15 : decode kE_put.2.1 15 = .ok (.invokevirtual 72, 3) := by decide +kernel
theorem dE_put_18 : decode kE_put.2.1 18 = .ok (.ifCond .eq 10, 3) := by decide +kernel
theorem dE_put_21 : decode kE_put.2.1 21 = .ok (.iload_n 3, 1) := by decide +kernel
theorem dE_put_22 : decode kE_put.2.1 22 = .ok (.invokestatic 64, 3) := by decide +kernel
theorem dE_put_25 : decode kE_put.2.1 25 = .ok (.ifCond .ne 5, 3) := by decide +kernel
theorem dE_put_28 : decode kE_put.2.1 28 = .ok (.iconst 0, 1) := by decide +kernel
theorem dE_put_29 : decode kE_put.2.1 29 = .ok (.ireturn, 1) := by decide +kernel
theorem dE_put_30 : decode kE_put.2.1 30 = .ok (.aload 4, 2) := by decide +kernel
theorem dE_put_32 : decode kE_put.2.1 32 = .ok (.getfield 75, 3) := by decide +kernel
theorem dE_put_35 : decode kE_put.2.1 35 = .ok (.iload_n 2, 1) := by decide +kernel
theorem dE_put_36 : decode kE_put.2.1 36 = .ok (.iload_n 3, 1) := by decide +kernel
theorem dE_put_37 : decode kE_put.2.1 37 = .ok (.iastore, 1) := by decide +kernel
theorem dE_put_38 : decode kE_put.2.1 38 = .ok (.iconst 1, 1) := by decide +kernel
theorem dE_put_39 : decode kE_put.2.1 39 = .ok (.ireturn, 1) := by decide +kernel
theorem dE_clear_0 : decode kE_clear.2.1 0 = .ok (.aload_n 0, 1) := by decide +kernel
theorem dE_clear_1 : decode kE_clear.2.1 1 = .ok (.iload_n 1, 1) := by decide +kernel
theorem dE_clear_2 : decode kE_clear.2.1 2 = .ok (.invokevirtual 60, 3) := by decide +kernel
theorem dE_clear_5 : decode kE_clear.2.1 5 = .ok (.astore_n 2, 1) := by decide +kernel
theorem dE_clear_6 : decode kE_clear.2.1 6 = .ok (.aload_n 2, 1) := by decide +kernel
theorem dE_clear_7 : decode kE_clear.2.1 7 = .ok (.ifnonnull 5, 3) := by decide +kernel
theorem dE_clear_10 : decode kE_clear.2.1 10 = .ok (.iconst (-1), 1) := by decide +kernel
theorem dE_clear_11 : decode kE_clear.2.1 11 = .ok (.ireturn, 1) := by decide +kernel
theorem dE_clear_12 : decode kE_clear.2.1 12 = .ok (.aload_n 2, 1) := by decide +kernel
theorem dE_clear_13 : decode kE_clear.2.1 13 = .ok (.getfield 79, 3) := by decide +kernel
theorem dE_clear_16 : decode kE_clear.2.1 16 = .ok (.istore_n 3, 1) := by decide +kernel
theorem dE_clear_17 : decode kE_clear.2.1 17 = .ok (.aload_n 2, 1) := by decide +kernel
theorem dE_clear_18 : decode kE_clear.2.1 18 = .ok (.iconst 0, 1) := by decide +kernel
theorem dE_clear_19 : decode kE_clear.2.1 19 = .ok (.putfield 79, 3) := by decide +kernel
theorem dE_clear_22 : decode kE_clear.2.1 22 = .ok (.aload_n 0, 1) := by decide +kernel
theorem dE_clear_23 : decode kE_clear.2.1 23 = .ok (.getfield 54, 3) := by decide +kernel
theorem dE_clear_26 : decode kE_clear.2.1 26 = .ok (.iload_n 1, 1) := by decide +kernel
theorem dE_clear_27 : decode kE_clear.2.1 27 = .ok (.if_icmp .ne 8, 3) := by decide +kernel
theorem dE_clear_30 : decode kE_clear.2.1 30 = .ok (.aload_n 0, 1) := by decide +kernel
theorem dE_clear_31 : decode kE_clear.2.1 31 = .ok (.iconst (-1), 1) := by decide +kernel
theorem dE_clear_32 : decode kE_clear.2.1 32 = .ok (.putfield 54, 3) := by decide +kernel
theorem dE_clear_35 : decode kE_clear.2.1 35 = .ok (.iload_n 3, 1) := by decide +kernel
theorem dE_clear_36 : decode kE_clear.2.1 36 = .ok (.ireturn, 1) := by decide +kernel
theorem dE_miss_0 : decode kE_miss.2.1 0 = .ok (.aload_n 0, 1) := by decide +kernel
theorem dE_miss_1 : decode kE_miss.2.1 1 = .ok (.iload_n 1, 1) := by decide +kernel
theorem dE_miss_2 : decode kE_miss.2.1 2 = .ok (.invokevirtual 60, 3) := by decide +kernel
theorem dE_miss_5 : decode kE_miss.2.1 5 = .ok (.astore_n 3, 1) := by decide +kernel
theorem dE_miss_6 : decode kE_miss.2.1 6 = .ok (.aload_n 3, 1) := by decide +kernel
theorem dE_miss_7 : decode kE_miss.2.1 7 = .ok (.ifnull 14, 3) := by decide +kernel
theorem dE_miss_10 : decode kE_miss.2.1 10 = .ok (.iload_n 2, 1) := by decide +kernel
theorem dE_miss_11 : decode kE_miss.2.1 11 = .ok (.iconst 0, 1) := by decide +kernel
theorem dE_miss_12 : decode kE_miss.2.1 12 = .ok (.sipush 200, 3) := by decide +kernel
theorem dE_miss_15 : decode kE_miss.2.1 15 = .ok (.invokestatic 82, 3) := by decide +kernel
theorem dE_miss_18 : decode kE_miss.2.1 18 = .ok (.ifCond .ne 5, 3) := by decide +kernel
theorem dE_miss_21 : decode kE_miss.2.1 21 = .ok (.iconst (-1), 1) := by decide +kernel
theorem dE_miss_22 : decode kE_miss.2.1 22 = .ok (.ireturn, 1) := by decide +kernel
theorem dE_miss_23 : decode kE_miss.2.1 23 = .ok (.aload_n 3, 1) := by decide +kernel
theorem dE_miss_24 : decode kE_miss.2.1 24 = .ok (.getfield 86, 3) := by decide +kernel
theorem dE_miss_27 : decode kE_miss.2.1 27 = .ok (.istore 4, 2) := by decide +kernel
theorem dE_miss_29 : decode kE_miss.2.1 29 = .ok (.aload_n 3, 1) := by decide +kernel
theorem dE_miss_30 : decode kE_miss.2.1 30 = .ok (.iload_n 2, 1) := by decide +kernel
theorem dE_miss_31 : decode kE_miss.2.1 31 = .ok (.putfield 86, 3) := by decide +kernel
theorem dE_miss_34 : decode kE_miss.2.1 34 = .ok (.iload 4, 2) := by decide +kernel
theorem dE_miss_36 : decode kE_miss.2.1 36 = .ok (.ireturn, 1) := by decide +kernel
theorem dE_part_0 : decode kE_part.2.1 0 = .ok (.iload_n 1, 1) := by decide +kernel
theorem dE_part_1 : decode kE_part.2.1 1 = .ok (.iconst 0, 1) := by decide +kernel
theorem dE_part_2 : decode kE_part.2.1 2 = .ok (.sipush 10000, 3) := by decide +kernel
theorem dE_part_5 : decode kE_part.2.1 5 = .ok (.invokestatic 82, 3) := by decide +kernel
theorem dE_part_8 : decode kE_part.2.1 8 = .ok (.ifCond .ne 5, 3) := by decide +kernel
theorem dE_part_11 : decode kE_part.2.1 11 = .ok (.iconst (-1), 1) := by decide +kernel
theorem dE_part_12 : decode kE_part.2.1 12 = .ok (.ireturn, 1) := by decide +kernel
theorem dE_part_13 : decode kE_part.2.1 13 = .ok (.aload_n 0, 1) := by decide +kernel
theorem dE_part_14 : decode kE_part.2.1 14 = .ok (.getfield 41, 3) := by decide +kernel
theorem dE_part_17 : decode kE_part.2.1 17 = .ok (.istore_n 2, 1) := by decide +kernel
theorem dE_part_18 : decode kE_part.2.1 18 = .ok (.aload_n 0, 1) := by decide +kernel
theorem dE_part_19 : decode kE_part.2.1 19 = .ok (.iload_n 1, 1) := by decide +kernel
theorem dE_part_20 : decode kE_part.2.1 20 = .ok (.putfield 41, 3) := by decide +kernel
theorem dE_part_23 : decode kE_part.2.1 23 = .ok (.iload_n 2, 1) := by decide +kernel
theorem dE_part_24 : decode kE_part.2.1 24 = .ok (.ireturn, 1) := by decide +kernel
theorem dE_at_0 : decode kE_at.2.1 0 = .ok (.aload_n 0, 1) := by decide +kernel
theorem dE_at_1 : decode kE_at.2.1 1 = .ok (.iload_n 1, 1) := by decide +kernel
theorem dE_at_2 : decode kE_at.2.1 2 = .ok (.invokevirtual 60, 3) := by decide +kernel
theorem dE_at_5 : decode kE_at.2.1 5 = .ok (.astore_n 3, 1) := by decide +kernel
theorem dE_at_6 : decode kE_at.2.1 6 = .ok (.aload_n 3, 1) := by decide +kernel
theorem dE_at_7 : decode kE_at.2.1 7 = .ok (.ifnull 11, 3) := by decide +kernel
theorem dE_at_10 : decode kE_at.2.1 10 = .ok (.aload_n 3, 1) := by decide +kernel
theorem dE_at_11 : decode kE_at.2.1 11 = .ok (.iload_n 2, 1) := by decide +kernel
theorem dE_at_12 : decode kE_at.2.1 12 = .ok (.invokevirtual 72, 3) := by decide +kernel
theorem dE_at_15 : decode kE_at.2.1 15 = .ok (.ifCond .ne 9, 3) := by decide +kernel
theorem dE_at_18 : decode kE_at.2.1 18 = .ok (.sipush (-6000), 3) := by decide +kernel
theorem dE_at_21 : decode kE_at.2.1 21 = .ok (.goto 9, 3) := by decide +kernel
theorem dE_at_24 : decode kE_at.2.1 24 = .ok (.aload_n 3, 1) := by decide +kernel
theorem dE_at_25 : decode kE_at.2.1 25 = .ok (.getfield 75, 3) := by decide +kernel
theorem dE_at_28 : decode kE_at.2.1 28 = .ok (.iload_n 2, 1) := by decide +kernel
theorem dE_at_29 : decode kE_at.2.1 29 = .ok (.iaload, 1) := by decide +kernel
theorem dE_at_30 : decode kE_at.2.1 30 = .ok (.ireturn, 1) := by decide +kernel
theorem dE_spans_0 : decode kE_spans.2.1 0 = .ok (.aload_n 0, 1) := by decide +kernel
theorem dE_spans_1 : decode kE_spans.2.1 1 = .ok (.iload_n 1, 1) := by decide +kernel
theorem dE_spans_2 : decode kE_spans.2.1 2 = .ok (.invokevirtual 89, 3) := by decide +kernel
theorem dE_spans_5 : decode kE_spans.2.1 5 = .ok (.ifCond .eq 13, 3) := by decide +kernel
theorem dE_spans_8 : decode kE_spans.2.1 8 = .ok (.aload_n 0, 1) := by decide +kernel
theorem dE_spans_9 : decode kE_spans.2.1 9 = .ok (.getfield 19, 3) := by decide +kernel
theorem dE_spans_12 : decode kE_spans.2.1 12 = .ok (.getfield 92, 3) := by decide +kernel
theorem dE_spans_15 : decode kE_spans.2.1 15 = .ok (.goto 4, 3) := by decide +kernel
theorem dE_spans_18 : decode kE_spans.2.1 18 = .ok (.iconst (-1), 1) := by decide +kernel
theorem dE_spans_19 : decode kE_spans.2.1 19 = .ok (.ireturn, 1) := by decide +kernel
theorem dE_cost_0 : decode kE_cost.2.1 0 = .ok (.aload_n 0, 1) := by decide +kernel
theorem dE_cost_1 : decode kE_cost.2.1 1 = .ok (.iload_n 1, 1) := by decide +kernel
theorem dE_cost_2 : decode kE_cost.2.1 2 = .ok (.invokevirtual 89, 3) := by decide +kernel
theorem dE_cost_5 : decode kE_cost.2.1 5 = .ok (.ifCond .eq 13, 3) := by decide +kernel
theorem dE_cost_8 : decode kE_cost.2.1 8 = .ok (.aload_n 0, 1) := by decide +kernel
theorem dE_cost_9 : decode kE_cost.2.1 9 = .ok (.getfield 19, 3) := by decide +kernel
theorem dE_cost_12 : decode kE_cost.2.1 12 = .ok (.getfield 95, 3) := by decide +kernel
theorem dE_cost_15 : decode kE_cost.2.1 15 = .ok (.goto 4, 3) := by decide +kernel
theorem dE_cost_18 : decode kE_cost.2.1 18 = .ok (.iconst (-1), 1) := by decide +kernel
theorem dE_cost_19 : decode kE_cost.2.1 19 = .ok (.ireturn, 1) := by decide +kernel
theorem dE_span_0 : decode kE_span.2.1 0 = .ok (.aload_n 0, 1) := by decide +kernel
theorem dE_span_1 : decode kE_span.2.1 1 = .ok (.iload_n 1, 1) := by decide +kernel
theorem dE_span_2 : decode kE_span.2.1 2 = .ok (.invokevirtual 89, 3) := by decide +kernel
theorem dE_span_5 : decode kE_span.2.1 5 = .ok (.ifCond .eq 14, 3) := by decide +kernel
theorem dE_span_8 : decode kE_span.2.1 8 = .ok (.aload_n 0, 1) := by decide +kernel
theorem dE_span_9 : decode kE_span.2.1 9 = .ok (.getfield 19, 3) := by decide +kernel
theorem dE_span_12 : decode kE_span.2.1 12 = .ok (.iload_n 2, 1) := by decide +kernel
theorem dE_span_13 : decode kE_span.2.1 13 = .ok (.invokevirtual 98, 3) := by decide +kernel
theorem dE_span_16 : decode kE_span.2.1 16 = .ok (.ifCond .ne 5, 3) := by decide +kernel
theorem dE_span_19 : decode kE_span.2.1 19 = .ok (.iconst (-1), 1) := by decide +kernel
theorem dE_span_20 : decode kE_span.2.1 20 = .ok (.ireturn, 1) := by decide +kernel
theorem dE_span_21 : decode kE_span.2.1 21 = .ok (.iload_n 3, 1) := by decide +kernel
theorem dE_span_22 : decode kE_span.2.1 22 = .ok (.tableswitch 55 0 2 #[26, 35, 45], 26) := by decide +kernel
theorem dE_span_48 : decode kE_span.2.1 48 = .ok (.aload_n 0, 1) := by decide +kernel
theorem dE_span_49 : decode kE_span.2.1 49 = .ok (.getfield 19, 3) := by decide +kernel
theorem dE_span_52 : decode kE_span.2.1 52 = .ok (.iload_n 2, 1) := by decide +kernel
theorem dE_span_53 : decode kE_span.2.1 53 = .ok (.invokevirtual 101, 3) := by decide +kernel
theorem dE_span_56 : decode kE_span.2.1 56 = .ok (.ireturn, 1) := by decide +kernel
theorem dE_span_57 : decode kE_span.2.1 57 = .ok (.aload_n 0, 1) := by decide +kernel
theorem dE_span_58 : decode kE_span.2.1 58 = .ok (.getfield 19, 3) := by decide +kernel
theorem dE_span_61 : decode kE_span.2.1 61 = .ok (.getfield 104, 3) := by decide +kernel
theorem dE_span_64 : decode kE_span.2.1 64 = .ok (.iload_n 2, 1) := by decide +kernel
theorem dE_span_65 : decode kE_span.2.1 65 = .ok (.iaload, 1) := by decide +kernel
theorem dE_span_66 : decode kE_span.2.1 66 = .ok (.ireturn, 1) := by decide +kernel
theorem dE_span_67 : decode kE_span.2.1 67 = .ok (.aload_n 0, 1) := by decide +kernel
theorem dE_span_68 : decode kE_span.2.1 68 = .ok (.getfield 19, 3) := by decide +kernel
theorem dE_span_71 : decode kE_span.2.1 71 = .ok (.getfield 107, 3) := by decide +kernel
theorem dE_span_74 : decode kE_span.2.1 74 = .ok (.iload_n 2, 1) := by decide +kernel
theorem dE_span_75 : decode kE_span.2.1 75 = .ok (.iaload, 1) := by decide +kernel
theorem dE_span_76 : decode kE_span.2.1 76 = .ok (.ireturn, 1) := by decide +kernel
theorem dE_span_77 : decode kE_span.2.1 77 = .ok (.iconst (-1), 1) := by decide +kernel
theorem dE_span_78 : decode kE_span.2.1 78 = .ok (.ireturn, 1) := by decide +kernel
theorem dE_kind_0 : decode kE_kind.2.1 0 = .ok (.iload_n 2, 1) := by decide +kernel
theorem dE_kind_1 : decode kE_kind.2.1 1 = .ok (.iconst 0, 1) := by decide +kernel
theorem dE_kind_2 : decode kE_kind.2.1 2 = .ok (.bipush 39, 2) := by decide +kernel
theorem dE_kind_4 : decode kE_kind.2.1 4 = .ok (.invokestatic 82, 3) := by decide +kernel
theorem dE_kind_7 : decode kE_kind.2.1 7 = .ok (.ifCond .eq 23, 3) := by decide +kernel
theorem dE_kind_10 : decode kE_kind.2.1 10 = .ok (.aload_n 0, 1) := by decide +kernel
theorem dE_kind_11 : decode kE_kind.2.1 11 = .ok (.iload_n 1, 1) := by decide +kernel
theorem dE_kind_12 : decode kE_kind.2.1 12 = .ok (.invokevirtual 89, 3) := by decide +kernel
theorem dE_kind_15 : decode kE_kind.2.1 15 = .ok (.ifCond .eq 15, 3) := by decide +kernel
theorem dE_kind_18 : decode kE_kind.2.1 18 = .ok (.aload_n 0, 1) := by decide +kernel
theorem dE_kind_19 : decode kE_kind.2.1 19 = .ok (.getfield 19, 3) := by decide +kernel
theorem dE_kind_22 : decode kE_kind.2.1 22 = .ok (.getfield 110, 3) := by decide +kernel
theorem dE_kind_25 : decode kE_kind.2.1 25 = .ok (.iload_n 2, 1) := by decide +kernel
theorem dE_kind_26 : decode kE_kind.2.1 26 = .ok (.iaload, 1) := by decide +kernel
theorem dE_kind_27 : decode kE_kind.2.1 27 = .ok (.goto 4, 3) := by decide +kernel
theorem dE_kind_30 : decode kE_kind.2.1 30 = .ok (.iconst 0, 1) := by decide +kernel
theorem dE_kind_31 : decode kE_kind.2.1 31 = .ok (.ireturn, 1) := by decide +kernel
theorem dE_turnsOf_0 : decode kE_turnsOf.2.1 0 = .ok (.aload_n 0, 1) := by decide +kernel
theorem dE_turnsOf_1 : decode kE_turnsOf.2.1 1 = .ok (.iload_n 1, 1) := by decide +kernel
theorem dE_turnsOf_2 : decode kE_turnsOf.2.1 2 = .ok (.invokevirtual 89, 3) := by decide +kernel
theorem dE_turnsOf_5 : decode kE_turnsOf.2.1 5 = .ok (.ifCond .eq 13, 3) := by decide +kernel
theorem dE_turnsOf_8 : decode kE_turnsOf.2.1 8 = .ok (.aload_n 0, 1) := by decide +kernel
theorem dE_turnsOf_9 : decode kE_turnsOf.2.1 9 = .ok (.getfield 19, 3) := by decide +kernel
theorem dE_turnsOf_12 : decode kE_turnsOf.2.1 12 = .ok (.getfield 113, 3) := by decide +kernel
theorem dE_turnsOf_15 : decode kE_turnsOf.2.1 15 = .ok (.goto 4, 3) := by decide +kernel
theorem dE_turnsOf_18 : decode kE_turnsOf.2.1 18 = .ok (.iconst (-1), 1) := by decide +kernel
theorem dE_turnsOf_19 : decode kE_turnsOf.2.1 19 = .ok (.ireturn, 1) := by decide +kernel
theorem dE_turn_0 : decode kE_turn.2.1 0 = .ok (.aload_n 0, 1) := by decide +kernel
theorem dE_turn_1 : decode kE_turn.2.1 1 = .ok (.iload_n 1, 1) := by decide +kernel
theorem dE_turn_2 : decode kE_turn.2.1 2 = .ok (.invokevirtual 89, 3) := by decide +kernel
theorem dE_turn_5 : decode kE_turn.2.1 5 = .ok (.ifCond .eq 32, 3) := by decide +kernel
theorem dE_turn_8 : decode kE_turn.2.1 8 = .ok (.iload_n 2, 1) := by decide +kernel
theorem dE_turn_9 : decode kE_turn.2.1 9 = .ok (.iconst 0, 1) := by decide +kernel
theorem dE_turn_10 : decode kE_turn.2.1 10 = .ok (.aload_n 0, 1) := by decide +kernel
theorem dE_turn_11 : decode kE_turn.2.1 11 = .ok (.getfield 19, 3) := by decide +kernel
theorem dE_turn_14 : decode kE_turn.2.1 14 = .ok (.getfield 113, 3) := by decide +kernel
theorem dE_turn_17 : decode kE_turn.2.1 17 = .ok (.iconst 1, 1) := by decide +kernel
theorem dE_turn_18 : decode kE_turn.2.1 18 = .ok (.isub, 1) := by decide +kernel
theorem dE_turn_19 : decode kE_turn.2.1 19 = .ok (.invokestatic 82, 3) := by decide +kernel
theorem dE_turn_22 : decode kE_turn.2.1 22 = .ok (.ifCond .eq 15, 3) := by decide +kernel
theorem dE_turn_25 : decode kE_turn.2.1 25 = .ok (.aload_n 0, 1) := by decide +kernel
theorem dE_turn_26 : decode kE_turn.2.1 26 = .ok (.getfield 19, 3) := by decide +kernel
theorem dE_turn_29 : decode kE_turn.2.1 29 = .ok (.getfield 116, 3) := by decide +kernel
theorem dE_turn_32 : decode kE_turn.2.1 32 = .ok (.iload_n 2, 1) := by decide +kernel
theorem dE_turn_33 : decode kE_turn.2.1 33 = .ok (.iaload, 1) := by decide +kernel
theorem dE_turn_34 : decode kE_turn.2.1 34 = .ok (.goto 4, 3) := by decide +kernel
theorem dE_turn_37 : decode kE_turn.2.1 37 = .ok (.iconst (-1), 1) := by decide +kernel
theorem dE_turn_38 : decode kE_turn.2.1 38 = .ok (.ireturn, 1) := by decide +kernel
theorem dE_sure_0 : decode kE_sure.2.1 0 = .ok (.iload_n 1, 1) := by decide +kernel
theorem dE_sure_1 : decode kE_sure.2.1 1 = .ok (.iload_n 2, 1) := by decide +kernel
theorem dE_sure_2 : decode kE_sure.2.1 2 = .ok (.invokestatic 119, 3) := by decide +kernel
theorem dE_sure_5 : decode kE_sure.2.1 5 = .ok (.ifCond .eq 22, 3) := by decide +kernel
theorem dE_sure_8 : decode kE_sure.2.1 8 = .ok (.aload_n 0, 1) := by decide +kernel
theorem dE_sure_9 : decode kE_sure.2.1 9 = .ok (.getfield 11, 3) := by decide +kernel
theorem dE_sure_12 : decode kE_sure.2.1 12 = .ok (.iload_n 1, 1) := by decide +kernel
theorem dE_sure_13 : decode kE_sure.2.1 13 = .ok (.aaload, 1) := by decide +kernel
theorem dE_sure_14 : decode kE_sure.2.1 14 = .ok (.aload_n 0, 1) := by decide +kernel
theorem dE_sure_15 : decode kE_sure.2.1 15 = .ok (.getfield 11, 3) := by decide +kernel
theorem dE_sure_18 : decode kE_sure.2.1 18 = .ok (.iload_n 2, 1) := by decide +kernel
theorem dE_sure_19 : decode kE_sure.2.1 19 = .ok (.aaload, 1) := by decide +kernel
theorem dE_sure_20 : decode kE_sure.2.1 20 = .ok (.iload_n 3, 1) := by decide +kernel
theorem dE_sure_21 : decode kE_sure.2.1 21 = .ok (.invokestatic 123, 3) := by decide +kernel
theorem dE_sure_24 : decode kE_sure.2.1 24 = .ok (.goto 5, 3) := by decide +kernel
theorem dE_sure_27 : decode kE_sure.2.1 27 = .ok (.bipush (-2), 2) := by decide +kernel
theorem dE_sure_29 : decode kE_sure.2.1 29 = .ok (.ireturn, 1) := by decide +kernel
theorem dE_crossings_0 : decode kE_crossings.2.1 0 = .ok (.aload_n 0, 1) := by decide +kernel
theorem dE_crossings_1 : decode kE_crossings.2.1 1 = .ok (.iload_n 1, 1) := by decide +kernel
theorem dE_crossings_2 : decode kE_crossings.2.1 2 = .ok (.iload_n 2, 1) := by decide +kernel
theorem dE_crossings_3 : decode kE_crossings.2.1 3 = .ok (.invokevirtual 127, 3) := by decide +kernel
theorem dE_crossings_6 : decode kE_crossings.2.1 6 = .ok (.ifCond .eq 13, 3) := by decide +kernel
theorem dE_crossings_9 : decode kE_crossings.2.1 9 = .ok (.aload_n 0, 1) := by decide +kernel
theorem dE_crossings_10 : decode kE_crossings.2.1 10 = .ok (.getfield 26, 3) := by decide +kernel
theorem dE_crossings_13 : decode kE_crossings.2.1 13 = .ok (.getfield 130, 3) := by decide +kernel
theorem dE_crossings_16 : decode kE_crossings.2.1 16 = .ok (.goto 4, 3) := by decide +kernel
theorem dE_crossings_19 : decode kE_crossings.2.1 19 = .ok (.iconst (-1), 1) := by decide +kernel
theorem dE_crossings_20 : decode kE_crossings.2.1 20 = .ok (.ireturn, 1) := by decide +kernel
theorem dE_crossing_0 : decode kE_crossing.2.1 0 = .ok (.aload_n 0, 1) := by decide +kernel
theorem dE_crossing_1 : decode kE_crossing.2.1 1 = .ok (.iload_n 1, 1) := by decide +kernel
theorem dE_crossing_2 : decode kE_crossing.2.1 2 = .ok (.iload_n 2, 1) := by decide +kernel
theorem dE_crossing_3 : decode kE_crossing.2.1 3 = .ok (.invokevirtual 127, 3) := by decide +kernel
theorem dE_crossing_6 : decode kE_crossing.2.1 6 = .ok (.ifCond .eq 32, 3) := by decide +kernel
theorem dE_crossing_9 : decode kE_crossing.2.1 9 = .ok (.iload_n 3, 1) := by decide +kernel
theorem dE_crossing_10 : decode kE_crossing.2.1 10 = .ok (.iconst 0, 1) := by decide +kernel
theorem dE_crossing_11 : decode kE_crossing.2.1 11 = .ok (.aload_n 0, 1) := by decide +kernel
theorem dE_crossing_12 : decode kE_crossing.2.1 12 = .ok (.getfield 26, 3) := by decide +kernel
theorem dE_crossing_15 : decode kE_crossing.2.1 15 = .ok (.getfield 130, 3) := by decide +kernel
theorem dE_crossing_18 : decode kE_crossing.2.1 18 = .ok (.iconst 1, 1) := by decide +kernel
theorem dE_crossing_19 : decode kE_crossing.2.1 19 = .ok (.isub, 1) := by decide +kernel
theorem dE_crossing_20 : decode kE_crossing.2.1 20 = .ok (.invokestatic 82, 3) := by decide +kernel
theorem dE_crossing_23 : decode kE_crossing.2.1 23 = .ok (.ifCond .eq 15, 3) := by decide +kernel
theorem dE_crossing_26 : decode kE_crossing.2.1 26 = .ok (.aload_n 0, 1) := by decide +kernel
theorem dE_crossing_27 : decode kE_crossing.2.1 27 = .ok (.getfield 26, 3) := by decide +kernel
theorem dE_crossing_30 : decode kE_crossing.2.1 30 = .ok (.getfield 131, 3) := by decide +kernel
theorem dE_crossing_33 : decode kE_crossing.2.1 33 = .ok (.iload_n 3, 1) := by decide +kernel
theorem dE_crossing_34 : decode kE_crossing.2.1 34 = .ok (.iaload, 1) := by decide +kernel
theorem dE_crossing_35 : decode kE_crossing.2.1 35 = .ok (.goto 4, 3) := by decide +kernel
theorem dE_crossing_38 : decode kE_crossing.2.1 38 = .ok (.iconst (-1), 1) := by decide +kernel
theorem dE_crossing_39 : decode kE_crossing.2.1 39 = .ok (.ireturn, 1) := by decide +kernel
theorem dE_scale_0 : decode kE_scale.2.1 0 = .ok (.iload_n 1, 1) := by decide +kernel
theorem dE_scale_1 : decode kE_scale.2.1 1 = .ok (.iconst 1, 1) := by decide +kernel
theorem dE_scale_2 : decode kE_scale.2.1 2 = .ok (.sipush 2000, 3) := by decide +kernel
theorem dE_scale_5 : decode kE_scale.2.1 5 = .ok (.invokestatic 82, 3) := by decide +kernel
theorem dE_scale_8 : decode kE_scale.2.1 8 = .ok (.ifCond .eq 13, 3) := by decide +kernel
theorem dE_scale_11 : decode kE_scale.2.1 11 = .ok (.iload_n 2, 1) := by decide +kernel
theorem dE_scale_12 : decode kE_scale.2.1 12 = .ok (.iconst 1, 1) := by decide +kernel
theorem dE_scale_13 : decode kE_scale.2.1 13 = .ok (.bipush 20, 2) := by decide +kernel
theorem dE_scale_15 : decode kE_scale.2.1 15 = .ok (.invokestatic 82, 3) := by decide +kernel
theorem dE_scale_18 : decode kE_scale.2.1 18 = .ok (.ifCond .ne 5, 3) := by decide +kernel
theorem dE_scale_21 : decode kE_scale.2.1 21 = .ok (.iconst (-1), 1) := by decide +kernel
theorem dE_scale_22 : decode kE_scale.2.1 22 = .ok (.ireturn, 1) := by decide +kernel
theorem dE_scale_23 : decode kE_scale.2.1 23 = .ok (.iload_n 1, 1) := by decide +kernel
theorem dE_scale_24 : decode kE_scale.2.1 24 = .ok (.iload_n 2, 1) := by decide +kernel
theorem dE_scale_25 : decode kE_scale.2.1 25 = .ok (.idiv, 1) := by decide +kernel
theorem dE_scale_26 : decode kE_scale.2.1 26 = .ok (.istore_n 3, 1) := by decide +kernel
theorem dE_scale_27 : decode kE_scale.2.1 27 = .ok (.aload_n 0, 1) := by decide +kernel
theorem dE_scale_28 : decode kE_scale.2.1 28 = .ok (.invokevirtual 134, 3) := by decide +kernel
theorem dE_scale_31 : decode kE_scale.2.1 31 = .ok (.istore 4, 2) := by decide +kernel
theorem dE_scale_33 : decode kE_scale.2.1 33 = .ok (.aload_n 0, 1) := by decide +kernel
theorem dE_scale_34 : decode kE_scale.2.1 34 = .ok (.invokevirtual 138, 3) := by decide +kernel
theorem dE_scale_37 : decode kE_scale.2.1 37 = .ok (.istore 5, 2) := by decide +kernel
theorem dE_scale_39 : decode kE_scale.2.1 39 = .ok (.iload 4, 2) := by decide +kernel
theorem dE_scale_41 : decode kE_scale.2.1 41 = .ok (.iload 5, 2) := by decide +kernel
theorem dE_scale_43 : decode kE_scale.2.1 43 = .ok (.if_icmp .gt 22, 3) := by decide +kernel
theorem dE_scale_46 : decode kE_scale.2.1 46 = .ok (.iload_n 3, 1) := by decide +kernel
theorem dE_scale_47 : decode kE_scale.2.1 47 = .ok (.iconst 1, 1) := by decide +kernel
theorem dE_scale_48 : decode kE_scale.2.1 48 = .ok (.if_icmp .lt 17, 3) := by decide +kernel
theorem dE_scale_51 : decode kE_scale.2.1 51 = .ok (.iload 5, 2) := by decide +kernel
theorem dE_scale_53 : decode kE_scale.2.1 53 = .ok (.iload 4, 2) := by decide +kernel
theorem dE_scale_55 : decode kE_scale.2.1 55 = .ok (.isub, 1) := by decide +kernel
theorem dE_scale_56 : decode kE_scale.2.1 56 = .ok (.iload_n 3, 1) := by decide +kernel
theorem dE_scale_57 : decode kE_scale.2.1 57 = .ok (.idiv, 1) := by decide +kernel
theorem dE_scale_58 : decode kE_scale.2.1 58 = .ok (.iconst 1, 1) := by decide +kernel
theorem dE_scale_59 : decode kE_scale.2.1 59 = .ok (.iadd, 1) := by decide +kernel
theorem dE_scale_60 : decode kE_scale.2.1 60 = .ok (.bipush 60, 2) := by decide +kernel
theorem dE_scale_62 : decode kE_scale.2.1 62 = .ok (.if_icmp .le 6, 3) := by decide +kernel
theorem dE_scale_65 : decode kE_scale.2.1 65 = .ok (.bipush (-2), 2) := by decide +kernel
theorem dE_scale_67 : decode kE_scale.2.1 67 = .ok (.ireturn, 1) := by decide +kernel
theorem dE_scale_68 : decode kE_scale.2.1 68 = .ok (.aload_n 0, 1) := by decide +kernel
theorem dE_scale_69 : decode kE_scale.2.1 69 = .ok (.iload_n 3, 1) := by decide +kernel
theorem dE_scale_70 : decode kE_scale.2.1 70 = .ok (.putfield 45, 3) := by decide +kernel
theorem dE_scale_73 : decode kE_scale.2.1 73 = .ok (.iload_n 3, 1) := by decide +kernel
theorem dE_scale_74 : decode kE_scale.2.1 74 = .ok (.ireturn, 1) := by decide +kernel
theorem dE_height_0 : decode kE_height.2.1 0 = .ok (.aload_n 0, 1) := by decide +kernel
theorem dE_height_1 : decode kE_height.2.1 1 = .ok (.iload_n 1, 1) := by decide +kernel
theorem dE_height_2 : decode kE_height.2.1 2 = .ok (.invokevirtual 60, 3) := by decide +kernel
theorem dE_height_5 : decode kE_height.2.1 5 = .ok (.astore_n 3, 1) := by decide +kernel
theorem dE_height_6 : decode kE_height.2.1 6 = .ok (.aload_n 3, 1) := by decide +kernel
theorem dE_height_7 : decode kE_height.2.1 7 = .ok (.ifnonnull 7, 3) := by decide +kernel
theorem dE_height_10 : decode kE_height.2.1 10 = .ok (.iconst (-1), 1) := by decide +kernel
theorem dE_height_11 : decode kE_height.2.1 11 = .ok (.goto 13, 3) := by decide +kernel
theorem dE_height_14 : decode kE_height.2.1 14 = .ok (.aload_n 0, 1) := by decide +kernel
theorem dE_height_15 : decode kE_height.2.1 15 = .ok (.aload_n 0, 1) := by decide +kernel
theorem dE_height_16 : decode kE_height.2.1 16 = .ok (.invokevirtual 134, 3) := by decide +kernel
theorem dE_height_19 : decode kE_height.2.1 19 = .ok (.aload_n 3, 1) := by decide +kernel
theorem dE_height_20 : decode kE_height.2.1 20 = .ok (.iload_n 2, 1) := by decide +kernel
theorem dE_height_21 : decode kE_height.2.1 21 = .ok (.invokevirtual 141, 3) := by decide +kernel
theorem dE_height_24 : decode kE_height.2.1 24 = .ok (.ireturn, 1) := by decide +kernel
theorem dE_ear_0 : decode kE_ear.2.1 0 = .ok (.iload_n 1, 1) := by decide +kernel
theorem dE_ear_1 : decode kE_ear.2.1 1 = .ok (.iconst 0, 1) := by decide +kernel
theorem dE_ear_2 : decode kE_ear.2.1 2 = .ok (.bipush 60, 2) := by decide +kernel
theorem dE_ear_4 : decode kE_ear.2.1 4 = .ok (.invokestatic 82, 3) := by decide +kernel
theorem dE_ear_7 : decode kE_ear.2.1 7 = .ok (.ifCond .eq 13, 3) := by decide +kernel
theorem dE_ear_10 : decode kE_ear.2.1 10 = .ok (.iload_n 2, 1) := by decide +kernel
theorem dE_ear_11 : decode kE_ear.2.1 11 = .ok (.iconst 0, 1) := by decide +kernel
theorem dE_ear_12 : decode kE_ear.2.1 12 = .ok (.bipush 100, 2) := by decide +kernel
theorem dE_ear_14 : decode kE_ear.2.1 14 = .ok (.invokestatic 82, 3) := by decide +kernel
theorem dE_ear_17 : decode kE_ear.2.1 17 = .ok (.ifCond .ne 5, 3) := by decide +kernel
theorem dE_ear_20 : decode kE_ear.2.1 20 = .ok (.iconst 0, 1) := by decide +kernel
theorem dE_ear_21 : decode kE_ear.2.1 21 = .ok (.ireturn, 1) := by decide +kernel
theorem dE_ear_22 : decode kE_ear.2.1 22 = .ok (.aload_n 0, 1) := by decide +kernel
theorem dE_ear_23 : decode kE_ear.2.1 23 = .ok (.iload_n 1, 1) := by decide +kernel
theorem dE_ear_24 : decode kE_ear.2.1 24 = .ok (.putfield 48, 3) := by decide +kernel
theorem dE_ear_27 : decode kE_ear.2.1 27 = .ok (.aload_n 0, 1) := by decide +kernel
theorem dE_ear_28 : decode kE_ear.2.1 28 = .ok (.iload_n 2, 1) := by decide +kernel
theorem dE_ear_29 : decode kE_ear.2.1 29 = .ok (.putfield 51, 3) := by decide +kernel
theorem dE_ear_32 : decode kE_ear.2.1 32 = .ok (.iconst 1, 1) := by decide +kernel
theorem dE_ear_33 : decode kE_ear.2.1 33 = .ok (.ireturn, 1) := by decide +kernel
theorem dE_worth_0 : decode kE_worth.2.1 0 = .ok (.aload_n 0, 1) := by decide +kernel
theorem dE_worth_1 : decode kE_worth.2.1 1 = .ok (.iload_n 1, 1) := by decide +kernel
theorem dE_worth_2 : decode kE_worth.2.1 2 = .ok (.invokevirtual 60, 3) := by decide +kernel
theorem dE_worth_5 : decode kE_worth.2.1 5 = .ok (.astore_n 3, 1) := by decide +kernel
theorem dE_worth_6 : decode kE_worth.2.1 6 = .ok (.aload_n 3, 1) := by decide +kernel
theorem dE_worth_7 : decode kE_worth.2.1 7 = .ok (.ifnull 14, 3) := by decide +kernel
theorem dE_worth_10 : decode kE_worth.2.1 10 = .ok (.iload_n 2, 1) := by decide +kernel
theorem dE_worth_11 : decode kE_worth.2.1 11 = .ok (.iconst 0, 1) := by decide +kernel
theorem dE_worth_12 : decode kE_worth.2.1 12 = .ok (.sipush 1000, 3) := by decide +kernel
theorem dE_worth_15 : decode kE_worth.2.1 15 = .ok (.invokestatic 82, 3) := by decide +kernel
theorem dE_worth_18 : decode kE_worth.2.1 18 = .ok (.ifCond .ne 5, 3) := by decide +kernel
theorem dE_worth_21 : decode kE_worth.2.1 21 = .ok (.iconst (-1), 1) := by decide +kernel
theorem dE_worth_22 : decode kE_worth.2.1 22 = .ok (.ireturn, 1) := by decide +kernel
theorem dE_worth_23 : decode kE_worth.2.1 23 = .ok (.aload_n 3, 1) := by decide +kernel
theorem dE_worth_24 : decode kE_worth.2.1 24 = .ok (.getfield 145, 3) := by decide +kernel
theorem dE_worth_27 : decode kE_worth.2.1 27 = .ok (.istore 4, 2) := by decide +kernel
theorem dE_worth_29 : decode kE_worth.2.1 29 = .ok (.aload_n 3, 1) := by decide +kernel
theorem dE_worth_30 : decode kE_worth.2.1 30 = .ok (.iload_n 2, 1) := by decide +kernel
theorem dE_worth_31 : decode kE_worth.2.1 31 = .ok (.putfield 145, 3) := by decide +kernel
theorem dE_worth_34 : decode kE_worth.2.1 34 = .ok (.iload 4, 2) := by decide +kernel
theorem dE_worth_36 : decode kE_worth.2.1 36 = .ok (.ireturn, 1) := by decide +kernel
theorem dE_lay_0 : decode kE_lay.2.1 0 = .ok (.aload_n 0, 1) := by decide +kernel
theorem dE_lay_1 : decode kE_lay.2.1 1 = .ok (.iload_n 1, 1) := by decide +kernel
theorem dE_lay_2 : decode kE_lay.2.1 2 = .ok (.invokevirtual 148, 3) := by decide +kernel
theorem dE_lay_5 : decode kE_lay.2.1 5 = .ok (.ifCond .eq 13, 3) := by decide +kernel
theorem dE_lay_8 : decode kE_lay.2.1 8 = .ok (.aload_n 0, 1) := by decide +kernel
theorem dE_lay_9 : decode kE_lay.2.1 9 = .ok (.getfield 33, 3) := by decide +kernel
theorem dE_lay_12 : decode kE_lay.2.1 12 = .ok (.getfield 151, 3) := by decide +kernel
theorem dE_lay_15 : decode kE_lay.2.1 15 = .ok (.goto 4, 3) := by decide +kernel
theorem dE_lay_18 : decode kE_lay.2.1 18 = .ok (.iconst (-1), 1) := by decide +kernel
theorem dE_lay_19 : decode kE_lay.2.1 19 = .ok (.ireturn, 1) := by decide +kernel
theorem dE_slot_0 : decode kE_slot.2.1 0 = .ok (.aload_n 0, 1) := by decide +kernel
theorem dE_slot_1 : decode kE_slot.2.1 1 = .ok (.iload_n 1, 1) := by decide +kernel
theorem dE_slot_2 : decode kE_slot.2.1 2 = .ok (.invokevirtual 60, 3) := by decide +kernel
theorem dE_slot_5 : decode kE_slot.2.1 5 = .ok (.astore_n 3, 1) := by decide +kernel
theorem dE_slot_6 : decode kE_slot.2.1 6 = .ok (.aload_n 3, 1) := by decide +kernel
theorem dE_slot_7 : decode kE_slot.2.1 7 = .ok (.ifnull 19, 3) := by decide +kernel
theorem dE_slot_10 : decode kE_slot.2.1 10 = .ok (.aload_n 3, 1) := by decide +kernel
theorem dE_slot_11 : decode kE_slot.2.1 11 = .ok (.iload_n 2, 1) := by decide +kernel
theorem dE_slot_12 : decode kE_slot.2.1 12 = .ok (.invokevirtual 154, 3) := by decide +kernel
theorem dE_slot_15 : decode kE_slot.2.1 15 = .ok (.ifCond .eq 11, 3) := by decide +kernel
theorem dE_slot_18 : decode kE_slot.2.1 18 = .ok (.aload_n 0, 1) := by decide +kernel
theorem dE_slot_19 : decode kE_slot.2.1 19 = .ok (.iload_n 2, 1) := by decide +kernel
theorem dE_slot_20 : decode kE_slot.2.1 20 = .ok (.invokevirtual 148, 3) := by decide +kernel
theorem dE_slot_23 : decode kE_slot.2.1 23 = .ok (.ifCond .ne 5, 3) := by decide +kernel
theorem dE_slot_26 : decode kE_slot.2.1 26 = .ok (.iconst (-1), 1) := by decide +kernel
theorem dE_slot_27 : decode kE_slot.2.1 27 = .ok (.ireturn, 1) := by decide +kernel
theorem dE_slot_28 : decode kE_slot.2.1 28 = .ok (.aload_n 0, 1) := by decide +kernel
theorem dE_slot_29 : decode kE_slot.2.1 29 = .ok (.getfield 33, 3) := by decide +kernel
theorem dE_slot_32 : decode kE_slot.2.1 32 = .ok (.getfield 157, 3) := by decide +kernel
theorem dE_slot_35 : decode kE_slot.2.1 35 = .ok (.iload_n 1, 1) := by decide +kernel
theorem dE_slot_36 : decode kE_slot.2.1 36 = .ok (.iaload, 1) := by decide +kernel
theorem dE_slot_37 : decode kE_slot.2.1 37 = .ok (.ireturn, 1) := by decide +kernel
theorem dE_hears_0 : decode kE_hears.2.1 0 = .ok (.iload_n 1, 1) := by decide +kernel
theorem dE_hears_1 : decode kE_hears.2.1 1 = .ok (.iload_n 2, 1) := by decide +kernel
theorem dE_hears_2 : decode kE_hears.2.1 2 = .ok (.invokestatic 119, 3) := by decide +kernel
theorem dE_hears_5 : decode kE_hears.2.1 5 = .ok (.ifCond .eq 11, 3) := by decide +kernel
theorem dE_hears_8 : decode kE_hears.2.1 8 = .ok (.aload_n 0, 1) := by decide +kernel
theorem dE_hears_9 : decode kE_hears.2.1 9 = .ok (.iload_n 3, 1) := by decide +kernel
theorem dE_hears_10 : decode kE_hears.2.1 10 = .ok (.invokevirtual 148, 3) := by decide +kernel
theorem dE_hears_13 : decode kE_hears.2.1 13 = .ok (.ifCond .ne 6, 3) := by decide +kernel
theorem dE_hears_16 : decode kE_hears.2.1 16 = .ok (.bipush (-2), 2) := by decide +kernel
theorem dE_hears_18 : decode kE_hears.2.1 18 = .ok (.ireturn, 1) := by decide +kernel
theorem dE_hears_19 : decode kE_hears.2.1 19 = .ok (.aload_n 0, 1) := by decide +kernel
theorem dE_hears_20 : decode kE_hears.2.1 20 = .ok (.getfield 33, 3) := by decide +kernel
theorem dE_hears_23 : decode kE_hears.2.1 23 = .ok (.iload_n 1, 1) := by decide +kernel
theorem dE_hears_24 : decode kE_hears.2.1 24 = .ok (.invokevirtual 160, 3) := by decide +kernel
theorem dE_hears_27 : decode kE_hears.2.1 27 = .ok (.ifCond .eq 14, 3) := by decide +kernel
theorem dE_hears_30 : decode kE_hears.2.1 30 = .ok (.aload_n 0, 1) := by decide +kernel
theorem dE_hears_31 : decode kE_hears.2.1 31 = .ok (.getfield 33, 3) := by decide +kernel
theorem dE_hears_34 : decode kE_hears.2.1 34 = .ok (.iload_n 2, 1) := by decide +kernel
theorem dE_hears_35 : decode kE_hears.2.1 35 = .ok (.invokevirtual 160, 3) := by decide +kernel
theorem dE_hears_38 : decode kE_hears.2.1 38 = .ok (.ifCond .ne 5, 3) := by decide +kernel
theorem dE_hears_41 : decode kE_hears.2.1 41 = .ok (.iconst 0, 1) := by decide +kernel
theorem dE_hears_42 : decode kE_hears.2.1 42 = .ok (.ireturn, 1) := by decide +kernel
theorem dE_hears_43 : decode kE_hears.2.1 43 = .ok (.aload_n 0, 1) := by decide +kernel
theorem dE_hears_44 : decode kE_hears.2.1 44 = .ok (.iload_n 1, 1) := by decide +kernel
theorem dE_hears_45 : decode kE_hears.2.1 45 = .ok (.iload_n 2, 1) := by decide +kernel
theorem dE_hears_46 : decode kE_hears.2.1 46 = .ok (.invokevirtual 163, 3) := by decide +kernel
theorem dE_hears_49 : decode kE_hears.2.1 49 = .ok (.ifCond .eq 5, 3) := by decide +kernel
theorem dE_hears_52 : decode kE_hears.2.1 52 = .ok (.iconst 1, 1) := by decide +kernel
theorem dE_hears_53 : decode kE_hears.2.1 53 = .ok (.ireturn, 1) := by decide +kernel
theorem dE_hears_54 : decode kE_hears.2.1 54 = .ok (.aload_n 0, 1) := by decide +kernel
theorem dE_hears_55 : decode kE_hears.2.1 55 = .ok (.iload_n 2, 1) := by decide +kernel
theorem dE_hears_56 : decode kE_hears.2.1 56 = .ok (.iload_n 1, 1) := by decide +kernel
theorem dE_hears_57 : decode kE_hears.2.1 57 = .ok (.invokevirtual 163, 3) := by decide +kernel
theorem dE_hears_60 : decode kE_hears.2.1 60 = .ok (.ifCond .eq 7, 3) := by decide +kernel
theorem dE_hears_63 : decode kE_hears.2.1 63 = .ok (.iconst (-1), 1) := by decide +kernel
theorem dE_hears_64 : decode kE_hears.2.1 64 = .ok (.goto 4, 3) := by decide +kernel
theorem dE_hears_67 : decode kE_hears.2.1 67 = .ok (.iconst 0, 1) := by decide +kernel
theorem dE_hears_68 : decode kE_hears.2.1 68 = .ok (.ireturn, 1) := by decide +kernel
theorem dE_whole_0 : decode kE_whole.2.1 0 = .ok (.iload_n 2, 1) := by decide +kernel
theorem dE_whole_1 : decode kE_whole.2.1 1 = .ok (.iconst 1, 1) := by decide +kernel
theorem dE_whole_2 : decode kE_whole.2.1 2 = .ok (.sipush 200, 3) := by decide +kernel
theorem dE_whole_5 : decode kE_whole.2.1 5 = .ok (.invokestatic 82, 3) := by decide +kernel
theorem dE_whole_8 : decode kE_whole.2.1 8 = .ok (.ifCond .eq 11, 3) := by decide +kernel
theorem dE_whole_11 : decode kE_whole.2.1 11 = .ok (.aload_n 0, 1) := by decide +kernel
theorem dE_whole_12 : decode kE_whole.2.1 12 = .ok (.iload_n 1, 1) := by decide +kernel
theorem dE_whole_13 : decode kE_whole.2.1 13 = .ok (.invokevirtual 89, 3) := by decide +kernel
theorem dE_whole_16 : decode kE_whole.2.1 16 = .ok (.ifCond .ne 5, 3) := by decide +kernel
theorem dE_whole_19 : decode kE_whole.2.1 19 = .ok (.iconst (-1), 1) := by decide +kernel
theorem dE_whole_20 : decode kE_whole.2.1 20 = .ok (.ireturn, 1) := by decide +kernel
theorem dE_whole_21 : decode kE_whole.2.1 21 = .ok (.aload_n 0, 1) := by decide +kernel
theorem dE_whole_22 : decode kE_whole.2.1 22 = .ok (.getfield 19, 3) := by decide +kernel
theorem dE_whole_25 : decode kE_whole.2.1 25 = .ok (.iload_n 3, 1) := by decide +kernel
theorem dE_whole_26 : decode kE_whole.2.1 26 = .ok (.invokevirtual 98, 3) := by decide +kernel
theorem dE_whole_29 : decode kE_whole.2.1 29 = .ok (.ifCond .eq 26, 3) := by decide +kernel
theorem dE_whole_32 : decode kE_whole.2.1 32 = .ok (.iload_n 2, 1) := by decide +kernel
theorem dE_whole_33 : decode kE_whole.2.1 33 = .ok (.aload_n 0, 1) := by decide +kernel
theorem dE_whole_34 : decode kE_whole.2.1 34 = .ok (.getfield 19, 3) := by decide +kernel
theorem dE_whole_37 : decode kE_whole.2.1 37 = .ok (.getfield 92, 3) := by decide +kernel
theorem dE_whole_40 : decode kE_whole.2.1 40 = .ok (.if_icmp .lt 15, 3) := by decide +kernel
theorem dE_whole_43 : decode kE_whole.2.1 43 = .ok (.aload_n 0, 1) := by decide +kernel
theorem dE_whole_44 : decode kE_whole.2.1 44 = .ok (.getfield 19, 3) := by decide +kernel
theorem dE_whole_47 : decode kE_whole.2.1 47 = .ok (.iload_n 3, 1) := by decide +kernel
theorem dE_whole_48 : decode kE_whole.2.1 48 = .ok (.iload_n 2, 1) := by decide +kernel
theorem dE_whole_49 : decode kE_whole.2.1 49 = .ok (.invokevirtual 166, 3) := by decide +kernel
theorem dE_whole_52 : decode kE_whole.2.1 52 = .ok (.goto 4, 3) := by decide +kernel
theorem dE_whole_55 : decode kE_whole.2.1 55 = .ok (.iconst (-1), 1) := by decide +kernel
theorem dE_whole_56 : decode kE_whole.2.1 56 = .ok (.ireturn, 1) := by decide +kernel
theorem dE_walk_0 : decode kE_walk.2.1 0 = .ok (.aload_n 0, 1) := by decide +kernel
theorem dE_walk_1 : decode kE_walk.2.1 1 = .ok (.iload_n 1, 1) := by decide +kernel
theorem dE_walk_2 : decode kE_walk.2.1 2 = .ok (.invokevirtual 60, 3) := by decide +kernel
theorem dE_walk_5 : decode kE_walk.2.1 5 = .ok (.astore_n 3, 1) := by decide +kernel
theorem dE_walk_6 : decode kE_walk.2.1 6 = .ok (.aload_n 3, 1) := by decide +kernel
theorem dE_walk_7 : decode kE_walk.2.1 7 = .ok (.ifnull 11, 3) := by decide +kernel
theorem dE_walk_10 : decode kE_walk.2.1 10 = .ok (.aload_n 3, 1) := by decide +kernel
theorem dE_walk_11 : decode kE_walk.2.1 11 = .ok (.iload_n 2, 1) := by decide +kernel
theorem dE_walk_12 : decode kE_walk.2.1 12 = .ok (.invokevirtual 72, 3) := by decide +kernel
theorem dE_walk_15 : decode kE_walk.2.1 15 = .ok (.ifCond .ne 5, 3) := by decide +kernel
theorem dE_walk_18 : decode kE_walk.2.1 18 = .ok (.iconst 0, 1) := by decide +kernel
theorem dE_walk_19 : decode kE_walk.2.1 19 = .ok (.ireturn, 1) := by decide +kernel
theorem dE_walk_20 : decode kE_walk.2.1 20 = .ok (.aload_n 0, 1) := by decide +kernel
theorem dE_walk_21 : decode kE_walk.2.1 21 = .ok (.iload_n 1, 1) := by decide +kernel
theorem dE_walk_22 : decode kE_walk.2.1 22 = .ok (.putfield 54, 3) := by decide +kernel
theorem dE_walk_25 : decode kE_walk.2.1 25 = .ok (.aload_n 0, 1) := by decide +kernel
theorem dE_walk_26 : decode kE_walk.2.1 26 = .ok (.iload_n 2, 1) := by decide +kernel
theorem dE_walk_27 : decode kE_walk.2.1 27 = .ok (.putfield 57, 3) := by decide +kernel
theorem dE_walk_30 : decode kE_walk.2.1 30 = .ok (.iconst 1, 1) := by decide +kernel
theorem dE_walk_31 : decode kE_walk.2.1 31 = .ok (.ireturn, 1) := by decide +kernel
theorem dE_where_0 : decode kE_where.2.1 0 = .ok (.aload_n 0, 1) := by decide +kernel
theorem dE_where_1 : decode kE_where.2.1 1 = .ok (.getfield 54, 3) := by decide +kernel
theorem dE_where_4 : decode kE_where.2.1 4 = .ok (.iconst (-1), 1) := by decide +kernel
theorem dE_where_5 : decode kE_where.2.1 5 = .ok (.if_icmp .ne 5, 3) := by decide +kernel
theorem dE_where_8 : decode kE_where.2.1 8 = .ok (.iconst (-1), 1) := by decide +kernel
theorem dE_where_9 : decode kE_where.2.1 9 = .ok (.ireturn, 1) := by decide +kernel
theorem dE_where_10 : decode kE_where.2.1 10 = .ok (.iload_n 1, 1) := by decide +kernel
theorem dE_where_11 : decode kE_where.2.1 11 = .ok (.lookupswitch 35 #[(0, 25), (1, 30)], 25) := by decide +kernel
theorem dE_where_36 : decode kE_where.2.1 36 = .ok (.aload_n 0, 1) := by decide +kernel
theorem dE_where_37 : decode kE_where.2.1 37 = .ok (.getfield 54, 3) := by decide +kernel
theorem dE_where_40 : decode kE_where.2.1 40 = .ok (.ireturn, 1) := by decide +kernel
theorem dE_where_41 : decode kE_where.2.1 41 = .ok (.aload_n 0, 1) := by decide +kernel
theorem dE_where_42 : decode kE_where.2.1 42 = .ok (.getfield 57, 3) := by decide +kernel
theorem dE_where_45 : decode kE_where.2.1 45 = .ok (.ireturn, 1) := by decide +kernel
theorem dE_where_46 : decode kE_where.2.1 46 = .ok (.iconst (-1), 1) := by decide +kernel
theorem dE_where_47 : decode kE_where.2.1 47 = .ok (.ireturn, 1) := by decide +kernel
theorem dE_go_0 : decode kE_go.2.1 0 = .ok (.aload_n 0, 1) := by decide +kernel
theorem dE_go_1 : decode kE_go.2.1 1 = .ok (.aload_n 0, 1) := by decide +kernel
theorem dE_go_2 : decode kE_go.2.1 2 = .ok (.getfield 54, 3) := by decide +kernel
theorem dE_go_5 : decode kE_go.2.1 5 = .ok (.invokevirtual 60, 3) := by decide +kernel
theorem dE_go_8 : decode kE_go.2.1 8 = .ok (.astore_n 2, 1) := by decide +kernel
theorem dE_go_9 : decode kE_go.2.1 9 = .ok (.iload_n 1, 1) := by decide +kernel
theorem dE_go_10 : decode kE_go.2.1 10 = .ok (.ifCond .eq 12, 3) := by decide +kernel
theorem dE_go_13 : decode kE_go.2.1 13 = .ok (.aload_n 0, 1) := by decide +kernel
theorem dE_go_14 : decode kE_go.2.1 14 = .ok (.getfield 57, 3) := by decide +kernel
theorem dE_go_17 : decode kE_go.2.1 17 = .ok (.iconst 1, 1) := by decide +kernel
theorem dE_go_18 : decode kE_go.2.1 18 = .ok (.iadd, 1) := by decide +kernel
theorem dE_go_19 : decode kE_go.2.1 19 = .ok (.goto 9, 3) := by decide +kernel
theorem dE_go_22 : decode kE_go.2.1 22 = .ok (.aload_n 0, 1) := by decide +kernel
theorem dE_go_23 : decode kE_go.2.1 23 = .ok (.getfield 57, 3) := by decide +kernel
theorem dE_go_26 : decode kE_go.2.1 26 = .ok (.iconst 1, 1) := by decide +kernel
theorem dE_go_27 : decode kE_go.2.1 27 = .ok (.isub, 1) := by decide +kernel
theorem dE_go_28 : decode kE_go.2.1 28 = .ok (.istore_n 3, 1) := by decide +kernel
theorem dE_go_29 : decode kE_go.2.1 29 = .ok (.aload_n 2, 1) := by decide +kernel
theorem dE_go_30 : decode kE_go.2.1 30 = .ok (.ifnull 11, 3) := by decide +kernel
theorem dE_go_33 : decode kE_go.2.1 33 = .ok (.aload_n 2, 1) := by decide +kernel
theorem dE_go_34 : decode kE_go.2.1 34 = .ok (.iload_n 3, 1) := by decide +kernel
theorem dE_go_35 : decode kE_go.2.1 35 = .ok (.invokevirtual 72, 3) := by decide +kernel
theorem dE_go_38 : decode kE_go.2.1 38 = .ok (.ifCond .ne 5, 3) := by decide +kernel
theorem dE_go_41 : decode kE_go.2.1 41 = .ok (.iconst (-1), 1) := by decide +kernel
theorem dE_go_42 : decode kE_go.2.1 42 = .ok (.ireturn, 1) := by decide +kernel
theorem dE_go_43 : decode kE_go.2.1 43 = .ok (.aload_n 0, 1) := by decide +kernel
theorem dE_go_44 : decode kE_go.2.1 44 = .ok (.iload_n 3, 1) := by decide +kernel
theorem dE_go_45 : decode kE_go.2.1 45 = .ok (.putfield 57, 3) := by decide +kernel
theorem dE_go_48 : decode kE_go.2.1 48 = .ok (.iload_n 3, 1) := by decide +kernel
theorem dE_go_49 : decode kE_go.2.1 49 = .ok (.ireturn, 1) := by decide +kernel
theorem dE_seek_0 : decode kE_seek.2.1 0 = .ok (.aload_n 0, 1) := by decide +kernel
theorem dE_seek_1 : decode kE_seek.2.1 1 = .ok (.aload_n 0, 1) := by decide +kernel
theorem dE_seek_2 : decode kE_seek.2.1 2 = .ok (.getfield 54, 3) := by decide +kernel
theorem dE_seek_5 : decode kE_seek.2.1 5 = .ok (.invokevirtual 60, 3) := by decide +kernel
theorem dE_seek_8 : decode kE_seek.2.1 8 = .ok (.astore_n 3, 1) := by decide +kernel
theorem dE_seek_9 : decode kE_seek.2.1 9 = .ok (.aload_n 3, 1) := by decide +kernel
theorem dE_seek_10 : decode kE_seek.2.1 10 = .ok (.ifnonnull 5, 3) := by decide +kernel
theorem dE_seek_13 : decode kE_seek.2.1 13 = .ok (.iconst (-1), 1) := by decide +kernel
theorem dE_seek_14 : decode kE_seek.2.1 14 = .ok (.ireturn, 1) := by decide +kernel
theorem dE_seek_15 : decode kE_seek.2.1 15 = .ok (.aload_n 0, 1) := by decide +kernel
theorem dE_seek_16 : decode kE_seek.2.1 16 = .ok (.aload_n 3, 1) := by decide +kernel
theorem dE_seek_17 : decode kE_seek.2.1 17 = .ok (.iload_n 2, 1) := by decide +kernel
theorem dE_seek_18 : decode kE_seek.2.1 18 = .ok (.invokevirtual 170, 3) := by decide +kernel
theorem dE_seek_21 : decode kE_seek.2.1 21 = .ok (.iload_n 1, 1) := by decide +kernel
theorem dE_seek_22 : decode kE_seek.2.1 22 = .ok (.ifCond .eq 14, 3) := by decide +kernel
theorem dE_seek_25 : decode kE_seek.2.1 25 = .ok (.aload_n 0, 1) := by decide +kernel
theorem dE_seek_26 : decode kE_seek.2.1 26 = .ok (.aload_n 0, 1) := by decide +kernel
theorem dE_seek_27 : decode kE_seek.2.1 27 = .ok (.getfield 57, 3) := by decide +kernel
theorem dE_seek_30 : decode kE_seek.2.1 30 = .ok (.invokevirtual 174, 3) := by decide +kernel
theorem dE_seek_33 : decode kE_seek.2.1 33 = .ok (.goto 11, 3) := by decide +kernel
theorem dE_seek_36 : decode kE_seek.2.1 36 = .ok (.aload_n 0, 1) := by decide +kernel
theorem dE_seek_37 : decode kE_seek.2.1 37 = .ok (.aload_n 0, 1) := by decide +kernel
theorem dE_seek_38 : decode kE_seek.2.1 38 = .ok (.getfield 57, 3) := by decide +kernel
theorem dE_seek_41 : decode kE_seek.2.1 41 = .ok (.invokevirtual 177, 3) := by decide +kernel
theorem dE_seek_44 : decode kE_seek.2.1 44 = .ok (.istore 4, 2) := by decide +kernel
theorem dE_seek_46 : decode kE_seek.2.1 46 = .ok (.iload 4, 2) := by decide +kernel
theorem dE_seek_48 : decode kE_seek.2.1 48 = .ok (.iconst (-1), 1) := by decide +kernel
theorem dE_seek_49 : decode kE_seek.2.1 49 = .ok (.if_icmp .eq 9, 3) := by decide +kernel
theorem dE_seek_52 : decode kE_seek.2.1 52 = .ok (.aload_n 0, 1) := by decide +kernel
theorem dE_seek_53 : decode kE_seek.2.1 53 = .ok (.iload 4, 2) := by decide +kernel
theorem dE_seek_55 : decode kE_seek.2.1 55 = .ok (.putfield 57, 3) := by decide +kernel
theorem dE_seek_58 : decode kE_seek.2.1 58 = .ok (.iload 4, 2) := by decide +kernel
theorem dE_seek_60 : decode kE_seek.2.1 60 = .ok (.ireturn, 1) := by decide +kernel
theorem dE_within_0 : decode kE_within.2.1 0 = .ok (.iload_n 0, 1) := by decide +kernel
theorem dE_within_1 : decode kE_within.2.1 1 = .ok (.iload_n 1, 1) := by decide +kernel
theorem dE_within_2 : decode kE_within.2.1 2 = .ok (.if_icmp .lt 12, 3) := by decide +kernel
theorem dE_within_5 : decode kE_within.2.1 5 = .ok (.iload_n 0, 1) := by decide +kernel
theorem dE_within_6 : decode kE_within.2.1 6 = .ok (.iload_n 2, 1) := by decide +kernel
theorem dE_within_7 : decode kE_within.2.1 7 = .ok (.if_icmp .gt 7, 3) := by decide +kernel
theorem dE_within_10 : decode kE_within.2.1 10 = .ok (.iconst 1, 1) := by decide +kernel
theorem dE_within_11 : decode kE_within.2.1 11 = .ok (.goto 4, 3) := by decide +kernel
theorem dE_within_14 : decode kE_within.2.1 14 = .ok (.iconst 0, 1) := by decide +kernel
theorem dE_within_15 : decode kE_within.2.1 15 = .ok (.ireturn, 1) := by decide +kernel
theorem dE_isValue_0 : decode kE_isValue.2.1 0 = .ok (.iload_n 0, 1) := by decide +kernel
theorem dE_isValue_1 : decode kE_isValue.2.1 1 = .ok (.sipush (-1000), 3) := by decide +kernel
theorem dE_isValue_4 : decode kE_isValue.2.1 4 = .ok (.sipush 1000, 3) := by decide +kernel
theorem dE_isValue_7 : decode kE_isValue.2.1 7 = .ok (.invokestatic 82, 3) := by decide +kernel
theorem dE_isValue_10 : decode kE_isValue.2.1 10 = .ok (.ireturn, 1) := by decide +kernel
theorem dE_rowOf_0 : decode kE_rowOf.2.1 0 = .ok (.iload_n 1, 1) := by decide +kernel
theorem dE_rowOf_1 : decode kE_rowOf.2.1 1 = .ok (.iconst 0, 1) := by decide +kernel
theorem dE_rowOf_2 : decode kE_rowOf.2.1 2 = .ok (.iconst 3, 1) := by decide +kernel
theorem dE_rowOf_3 : decode kE_rowOf.2.1 3 = .ok (.invokestatic 82, 3) := by decide +kernel
theorem dE_rowOf_6 : decode kE_rowOf.2.1 6 = .ok (.ifCond .eq 12, 3) := by decide +kernel
theorem dE_rowOf_9 : decode kE_rowOf.2.1 9 = .ok (.aload_n 0, 1) := by decide +kernel
theorem dE_rowOf_10 : decode kE_rowOf.2.1 10 = .ok (.getfield 11, 3) := by decide +kernel
theorem dE_rowOf_13 : decode kE_rowOf.2.1 13 = .ok (.iload_n 1, 1) := by decide +kernel
theorem dE_rowOf_14 : decode kE_rowOf.2.1 14 = .ok (.aaload, 1) := by decide +kernel
theorem dE_rowOf_15 : decode kE_rowOf.2.1 15 = .ok (.goto 4, 3) := by decide +kernel
theorem dE_rowOf_18 : decode kE_rowOf.2.1 18 = .ok (.aconst_null, 1) := by decide +kernel
theorem dE_rowOf_19 : decode kE_rowOf.2.1 19 = .ok (.areturn, 1) := by decide +kernel
theorem dE_areTwoRows_0 : decode kE_areTwoRows.2.1 0 = .ok (.iload_n 0, 1) := by decide +kernel
theorem dE_areTwoRows_1 : decode kE_areTwoRows.2.1 1 = .ok (.iload_n 1, 1) := by decide +kernel
theorem dE_areTwoRows_2 : decode kE_areTwoRows.2.1 2 = .ok (.if_icmp .eq 25, 3) := by decide +kernel
theorem dE_areTwoRows_5 : decode kE_areTwoRows.2.1 5 = .ok (.iload_n 0, 1) := by decide +kernel
theorem dE_areTwoRows_6 : decode kE_areTwoRows.2.1 6 = .ok (.iconst 0, 1) := by decide +kernel
theorem dE_areTwoRows_7 : decode kE_areTwoRows.2.1 7 = .ok (.iconst 3, 1) := by decide +kernel
theorem dE_areTwoRows_8 : decode kE_areTwoRows.2.1 8 = .ok (.invokestatic 82, 3) := by decide +kernel
theorem dE_areTwoRows_11 : decode kE_areTwoRows.2.1 11 = .ok (.ifCond .eq 16, 3) := by decide +kernel
theorem dE_areTwoRows_14 : decode kE_areTwoRows.2.1 14 = .ok (.iload_n 1, 1) := by decide +kernel
theorem dE_areTwoRows_15 : decode kE_areTwoRows.2.1 15 = .ok (.iconst 0, 1) := by decide +kernel
theorem dE_areTwoRows_16 : decode kE_areTwoRows.2.1 16 = .ok (.iconst 3, 1) := by decide +kernel
theorem dE_areTwoRows_17 : decode kE_areTwoRows.2.1 17 = .ok (.invokestatic 82, 3) := by decide +kernel
theorem dE_areTwoRows_20 : decode kE_areTwoRows.2.1 20 = .ok (.ifCond .eq 7, 3) := by decide +kernel
theorem dE_areTwoRows_23 : decode kE_areTwoRows.2.1 23 = .ok (.iconst 1, 1) := by decide +kernel
theorem dE_areTwoRows_24 : decode kE_areTwoRows.2.1 24 = .ok (.goto 4, 3) := by decide +kernel
theorem dE_areTwoRows_27 : decode kE_areTwoRows.2.1 27 = .ok (.iconst 0, 1) := by decide +kernel
theorem dE_areTwoRows_28 : decode kE_areTwoRows.2.1 28 = .ok (.ireturn, 1) := by decide +kernel
theorem dE_readShape_0 : decode kE_readShape.2.1 0 = .ok (.aload_n 0, 1) := by decide +kernel
theorem dE_readShape_1 : decode kE_readShape.2.1 1 = .ok (.iload_n 1, 1) := by decide +kernel
theorem dE_readShape_2 : decode kE_readShape.2.1 2 = .ok (.invokevirtual 60, 3) := by decide +kernel
theorem dE_readShape_5 : decode kE_readShape.2.1 5 = .ok (.astore_n 2, 1) := by decide +kernel
theorem dE_readShape_6 : decode kE_readShape.2.1 6 = .ok (.aload_n 2, 1) := by decide +kernel
theorem dE_readShape_7 : decode kE_readShape.2.1 7 = .ok (.ifnonnull 5, 3) := by decide +kernel
theorem dE_readShape_10 : decode kE_readShape.2.1 10 = .ok (.iconst 0, 1) := by decide +kernel
theorem dE_readShape_11 : decode kE_readShape.2.1 11 = .ok (.ireturn, 1) := by decide +kernel
theorem dE_readShape_12 : decode kE_readShape.2.1 12 = .ok (.aload_n 0, 1) := by decide +kernel
theorem dE_readShape_13 : decode kE_readShape.2.1 13 = .ok (.getfield 19, 3) := by decide +kernel
theorem dE_readShape_16 : decode kE_readShape.2.1 16 = .ok (.aload_n 2, 1) := by decide +kernel
theorem dE_readShape_17 : decode kE_readShape.2.1 17 = .ok (.aload_n 0, 1) := by decide +kernel
theorem dE_readShape_18 : decode kE_readShape.2.1 18 = .ok (.getfield 41, 3) := by decide +kernel
theorem dE_readShape_21 : decode kE_readShape.2.1 21 = .ok (.invokevirtual 180, 3) := by decide +kernel
theorem dE_readShape_24 : decode kE_readShape.2.1 24 = .ok (.iconst 1, 1) := by decide +kernel
theorem dE_readShape_25 : decode kE_readShape.2.1 25 = .ok (.ireturn, 1) := by decide +kernel
theorem dE_readMeeting_0 : decode kE_readMeeting.2.1 0 = .ok (.iload_n 1, 1) := by decide +kernel
theorem dE_readMeeting_1 : decode kE_readMeeting.2.1 1 = .ok (.iload_n 2, 1) := by decide +kernel
theorem dE_readMeeting_2 : decode kE_readMeeting.2.1 2 = .ok (.invokestatic 119, 3) := by decide +kernel
theorem dE_readMeeting_5 : decode kE_readMeeting.2.1 5 = .ok (.ifCond .ne 5, 3) := by decide +kernel
theorem dE_readMeeting_8 : decode kE_readMeeting.2.1 8 = .ok (.iconst 0, 1) := by decide +kernel
theorem dE_readMeeting_9 : decode kE_readMeeting.2.1 9 = .ok (.ireturn, 1) := by decide +kernel
theorem dE_readMeeting_10 : decode kE_readMeeting.2.1 10 = .ok (.aload_n 0, 1) := by decide +kernel
theorem dE_readMeeting_11 : decode kE_readMeeting.2.1 11 = .ok (.getfield 26, 3) := by decide +kernel
theorem dE_readMeeting_14 : decode kE_readMeeting.2.1 14 = .ok (.aload_n 0, 1) := by decide +kernel
theorem dE_readMeeting_15 : decode kE_readMeeting.2.1 15 = .ok (.getfield 11, 3) := by decide +kernel
theorem dE_readMeeting_18 : decode kE_readMeeting.2.1 18 = .ok (.iload_n 1, 1) := by decide +kernel
theorem dE_readMeeting_19 : decode kE_readMeeting.2.1 19 = .ok (.aaload, 1) := by decide +kernel
theorem dE_readMeeting_20 : decode kE_readMeeting.2.1 20 = .ok (.aload_n 0, 1) := by decide +kernel
theorem dE_readMeeting_21 : decode kE_readMeeting.2.1 21 = .ok (.getfield 11, 3) := by decide +kernel
theorem dE_readMeeting_24 : decode kE_readMeeting.2.1 24 = .ok (.iload_n 2, 1) := by decide +kernel
theorem dE_readMeeting_25 : decode kE_readMeeting.2.1 25 = .ok (.aaload, 1) := by decide +kernel
theorem dE_readMeeting_26 : decode kE_readMeeting.2.1 26 = .ok (.invokevirtual 183, 3) := by decide +kernel
theorem dE_readMeeting_29 : decode kE_readMeeting.2.1 29 = .ok (.iconst 1, 1) := by decide +kernel
theorem dE_readMeeting_30 : decode kE_readMeeting.2.1 30 = .ok (.ireturn, 1) := by decide +kernel
theorem dE_compareSurely_0 : decode kE_compareSurely.2.1 0 = .ok (.aload_n 0, 1) := by decide +kernel
theorem dE_compareSurely_1 : decode kE_compareSurely.2.1 1 = .ok (.iload_n 2, 1) := by decide +kernel
theorem dE_compareSurely_2 : decode kE_compareSurely.2.1 2 = .ok (.invokevirtual 154, 3) := by decide +kernel
theorem dE_compareSurely_5 : decode kE_compareSurely.2.1 5 = .ok (.ifCond .eq 11, 3) := by decide +kernel
theorem dE_compareSurely_8 : decode kE_compareSurely.2.1 8 = .ok (.aload_n 1, 1) := by decide +kernel
theorem dE_compareSurely_9 : decode kE_compareSurely.2.1 9 = .ok (.iload_n 2, 1) := by decide +kernel
theorem dE_compareSurely_10 : decode kE_compareSurely.2.1 10 = .ok (.invokevirtual 154, 3) := by decide +kernel
theorem dE_compareSurely_13 : decode kE_compareSurely.2.1 13 = .ok (.ifCond .ne 6, 3) := by decide +kernel
theorem dE_compareSurely_16 : decode kE_compareSurely.2.1 16 = .ok (.bipush (-2), 2) := by decide +kernel
theorem dE_compareSurely_18 : decode kE_compareSurely.2.1 18 = .ok (.ireturn, 1) := by decide +kernel
theorem dE_compareSurely_19 : decode kE_compareSurely.2.1 19 = .ok (.aload_n 0, 1) := by decide +kernel
theorem dE_compareSurely_20 : decode kE_compareSurely.2.1 20 = .ok (.getfield 75, 3) := by decide +kernel
theorem dE_compareSurely_23 : decode kE_compareSurely.2.1 23 = .ok (.iload_n 2, 1) := by decide +kernel
theorem dE_compareSurely_24 : decode kE_compareSurely.2.1 24 = .ok (.iaload, 1) := by decide +kernel
theorem dE_compareSurely_25 : decode kE_compareSurely.2.1 25 = .ok (.aload_n 1, 1) := by decide +kernel
theorem dE_compareSurely_26 : decode kE_compareSurely.2.1 26 = .ok (.getfield 75, 3) := by decide +kernel
theorem dE_compareSurely_29 : decode kE_compareSurely.2.1 29 = .ok (.iload_n 2, 1) := by decide +kernel
theorem dE_compareSurely_30 : decode kE_compareSurely.2.1 30 = .ok (.iaload, 1) := by decide +kernel
theorem dE_compareSurely_31 : decode kE_compareSurely.2.1 31 = .ok (.isub, 1) := by decide +kernel
theorem dE_compareSurely_32 : decode kE_compareSurely.2.1 32 = .ok (.istore_n 3, 1) := by decide +kernel
theorem dE_compareSurely_33 : decode kE_compareSurely.2.1 33 = .ok (.aload_n 0, 1) := by decide +kernel
theorem dE_compareSurely_34 : decode kE_compareSurely.2.1 34 = .ok (.getfield 86, 3) := by decide +kernel
theorem dE_compareSurely_37 : decode kE_compareSurely.2.1 37 = .ok (.aload_n 1, 1) := by decide +kernel
theorem dE_compareSurely_38 : decode kE_compareSurely.2.1 38 = .ok (.getfield 86, 3) := by decide +kernel
theorem dE_compareSurely_41 : decode kE_compareSurely.2.1 41 = .ok (.iadd, 1) := by decide +kernel
theorem dE_compareSurely_42 : decode kE_compareSurely.2.1 42 = .ok (.istore 4, 2) := by decide +kernel
theorem dE_compareSurely_44 : decode kE_compareSurely.2.1 44 = .ok (.iload_n 3, 1) := by decide +kernel
theorem dE_compareSurely_45 : decode kE_compareSurely.2.1 45 = .ok (.iload 4, 2) := by decide +kernel
theorem dE_compareSurely_47 : decode kE_compareSurely.2.1 47 = .ok (.if_icmp .le 5, 3) := by decide +kernel
theorem dE_compareSurely_50 : decode kE_compareSurely.2.1 50 = .ok (.iconst 1, 1) := by decide +kernel
theorem dE_compareSurely_51 : decode kE_compareSurely.2.1 51 = .ok (.ireturn, 1) := by decide +kernel
theorem dE_compareSurely_52 : decode kE_compareSurely.2.1 52 = .ok (.iload_n 3, 1) := by decide +kernel
theorem dE_compareSurely_53 : decode kE_compareSurely.2.1 53 = .ok (.iload 4, 2) := by decide +kernel
theorem dE_compareSurely_55 : decode kE_compareSurely.2.1 55 = .ok (.ineg, 1) := by decide +kernel
theorem dE_compareSurely_56 : decode kE_compareSurely.2.1 56 = .ok (.if_icmp .ge 7, 3) := by decide +kernel
theorem dE_compareSurely_59 : decode kE_compareSurely.2.1 59 = .ok (.iconst (-1), 1) := by decide +kernel
theorem dE_compareSurely_60 : decode kE_compareSurely.2.1 60 = .ok (.goto 4, 3) := by decide +kernel
theorem dE_compareSurely_63 : decode kE_compareSurely.2.1 63 = .ok (.iconst 0, 1) := by decide +kernel
theorem dE_compareSurely_64 : decode kE_compareSurely.2.1 64 = .ok (.ireturn, 1) := by decide +kernel
theorem dE_lowestValue_0 : decode kE_lowestValue.2.1 0 = .ok (.sipush 1001, 3) := by decide +kernel
theorem dE_lowestValue_3 : decode kE_lowestValue.2.1 3 = .ok (.istore_n 1, 1) := by decide +kernel
theorem dE_lowestValue_4 : decode kE_lowestValue.2.1 4 = .ok (.iconst 0, 1) := by decide +kernel
theorem dE_lowestValue_5 : decode kE_lowestValue.2.1 5 = .ok (.istore_n 2, 1) := by decide +kernel
theorem dE_lowestValue_6 : decode kE_lowestValue.2.1 6 = .ok (.iload_n 2, 1) := by decide +kernel
theorem dE_lowestValue_7 : decode kE_lowestValue.2.1 7 = .ok (.iconst 4, 1) := by decide +kernel
theorem dE_lowestValue_8 : decode kE_lowestValue.2.1 8 = .ok (.if_icmp .ge 23, 3) := by decide +kernel
theorem dE_lowestValue_11 : decode kE_lowestValue.2.1 11 = .ok (.iload_n 1, 1) := by decide +kernel
theorem dE_lowestValue_12 : decode kE_lowestValue.2.1 12 = .ok (.aload_n 0, 1) := by decide +kernel
theorem dE_lowestValue_13 : decode kE_lowestValue.2.1 13 = .ok (.getfield 11, 3) := by decide +kernel
theorem dE_lowestValue_16 : decode kE_lowestValue.2.1 16 = .ok (.iload_n 2, 1) := by decide +kernel
theorem dE_lowestValue_17 : decode kE_lowestValue.2.1 17 = .ok (.aaload, 1) := by decide +kernel
theorem dE_lowestValue_18 : decode kE_lowestValue.2.1 18 = .ok (.invokevirtual 186, 3) := by decide +kernel
theorem dE_lowestValue_21 : decode kE_lowestValue.2.1 21 = .ok (.invokestatic 189, 3) := by decide +kernel
theorem dE_lowestValue_24 : decode kE_lowestValue.2.1 24 = .ok (.istore_n 1, 1) := by decide +kernel
theorem dE_lowestValue_25 : decode kE_lowestValue.2.1 25 = .ok (.iinc 2 1, 3) := by decide +kernel
theorem dE_lowestValue_28 : decode kE_lowestValue.2.1 28 = .ok (.goto (-22), 3) := by decide +kernel
theorem dE_lowestValue_31 : decode kE_lowestValue.2.1 31 = .ok (.iload_n 1, 1) := by decide +kernel
theorem dE_lowestValue_32 : decode kE_lowestValue.2.1 32 = .ok (.ireturn, 1) := by decide +kernel
theorem dE_highestValue_0 : decode kE_highestValue.2.1 0 = .ok (.sipush (-1001), 3) := by decide +kernel
theorem dE_highestValue_3 : decode kE_highestValue.2.1 3 = .ok (.istore_n 1, 1) := by decide +kernel
theorem dE_highestValue_4 : decode kE_highestValue.2.1 4 = .ok (.iconst 0, 1) := by decide +kernel
theorem dE_highestValue_5 : decode kE_highestValue.2.1 5 = .ok (.istore_n 2, 1) := by decide +kernel
theorem dE_highestValue_6 : decode kE_highestValue.2.1 6 = .ok (.iload_n 2, 1) := by decide +kernel
theorem dE_highestValue_7 : decode kE_highestValue.2.1 7 = .ok (.iconst 4, 1) := by decide +kernel
theorem dE_highestValue_8 : decode kE_highestValue.2.1 8 = .ok (.if_icmp .ge 23, 3) := by decide +kernel
theorem dE_highestValue_11 : decode kE_highestValue.2.1 11 = .ok (.iload_n 1, 1) := by decide +kernel
theorem dE_highestValue_12 : decode kE_highestValue.2.1 12 = .ok (.aload_n 0, 1) := by decide +kernel
theorem dE_highestValue_13 : decode kE_highestValue.2.1 13 = .ok (.getfield 11, 3) := by decide +kernel
theorem dE_highestValue_16 : decode kE_highestValue.2.1 16 = .ok (.iload_n 2, 1) := by decide +kernel
theorem dE_highestValue_17 : decode kE_highestValue.2.1 17 = .ok (.aaload, 1) := by decide +kernel
theorem dE_highestValue_18 : decode kE_highestValue.2.1 18 = .ok (.invokevirtual 194, 3) := by decide +kernel
theorem dE_highestValue_21 : decode kE_highestValue.2.1 21 = .ok (.invokestatic 197, 3) := by decide +kernel
theorem dE_highestValue_24 : decode kE_highestValue.2.1 24 = .ok (.istore_n 1, 1) := by decide +kernel
theorem dE_highestValue_25 : decode kE_highestValue.2.1 25 = .ok (.iinc 2 1, 3) := by decide +kernel
theorem dE_highestValue_28 : decode kE_highestValue.2.1 28 = .ok (.goto (-22), 3) := by decide +kernel
theorem dE_highestValue_31 : decode kE_highestValue.2.1 31 = .ok (.iload_n 1, 1) := by decide +kernel
theorem dE_highestValue_32 : decode kE_highestValue.2.1 32 = .ok (.ireturn, 1) := by decide +kernel
