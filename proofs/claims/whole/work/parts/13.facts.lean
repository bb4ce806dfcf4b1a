theorem fg_E_11 : FG "EarChart" 11 0 0 := ⟨"EarChart", F_E, 11, rfl, fi_E, by decide, Or.inl (k_at 185 (by decide +kernel) (by decide +kernel))⟩
theorem fp_E_11 : FP true "EarChart" 11 0 0 (.array (.object "EarChart$Row")) := ⟨"EarChart", F_E, 11, ft_E, rfl, fi_E, by decide, fo_E, fn_E, rfl, rfl, fun _ => rfl, Or.inl (k_at 185 (by decide +kernel) (by decide +kernel))⟩
theorem fg_E_19 : FG "EarChart" 19 0 1 := ⟨"EarChart", F_E, 11, rfl, fi_E, by decide, Or.inl (k_at 186 (by decide +kernel) (by decide +kernel))⟩
theorem fp_E_19 : FP true "EarChart" 19 0 1 (.object "EarChart$Shape") := ⟨"EarChart", F_E, 11, ft_E, rfl, fi_E, by decide, fo_E, fn_E, rfl, rfl, fun _ => rfl, Or.inl (k_at 186 (by decide +kernel) (by decide +kernel))⟩
theorem fg_E_26 : FG "EarChart" 26 0 2 := ⟨"EarChart", F_E, 11, rfl, fi_E, by decide, Or.inl (k_at 187 (by decide +kernel) (by decide +kernel))⟩
theorem fp_E_26 : FP true "EarChart" 26 0 2 (.object "EarChart$Meeting") := ⟨"EarChart", F_E, 11, ft_E, rfl, fi_E, by decide, fo_E, fn_E, rfl, rfl, fun _ => rfl, Or.inl (k_at 187 (by decide +kernel) (by decide +kernel))⟩
theorem fg_E_33 : FG "EarChart" 33 0 3 := ⟨"EarChart", F_E, 11, rfl, fi_E, by decide, Or.inl (k_at 188 (by decide +kernel) (by decide +kernel))⟩
theorem fp_E_33 : FP true "EarChart" 33 0 3 (.object "EarChart$Laying") := ⟨"EarChart", F_E, 11, ft_E, rfl, fi_E, by decide, fo_E, fn_E, rfl, rfl, fun _ => rfl, Or.inl (k_at 188 (by decide +kernel) (by decide +kernel))⟩
theorem fg_E_37 : FG "EarChart" 37 0 4 := ⟨"EarChart", F_E, 11, rfl, fi_E, by decide, Or.inl (k_at 189 (by decide +kernel) (by decide +kernel))⟩
theorem fp_E_37 : FP true "EarChart" 37 0 4 (.array .boolean) := ⟨"EarChart", F_E, 11, ft_E, rfl, fi_E, by decide, fo_E, fn_E, rfl, rfl, fun _ => rfl, Or.inl (k_at 189 (by decide +kernel) (by decide +kernel))⟩
theorem fg_E_41 : FG "EarChart" 41 0 5 := ⟨"EarChart", F_E, 11, rfl, fi_E, by decide, Or.inl (k_at 190 (by decide +kernel) (by decide +kernel))⟩
theorem fp_E_41 : FP false "EarChart" 41 0 5 .int := ⟨"EarChart", F_E, 11, ft_E, rfl, fi_E, by decide, fo_E, fn_E, rfl, rfl, (fun q => absurd q (by decide)), Or.inl (k_at 190 (by decide +kernel) (by decide +kernel))⟩
theorem fg_E_45 : FG "EarChart" 45 0 6 := ⟨"EarChart", F_E, 11, rfl, fi_E, by decide, Or.inl (k_at 191 (by decide +kernel) (by decide +kernel))⟩
theorem fp_E_45 : FP false "EarChart" 45 0 6 .int := ⟨"EarChart", F_E, 11, ft_E, rfl, fi_E, by decide, fo_E, fn_E, rfl, rfl, (fun q => absurd q (by decide)), Or.inl (k_at 191 (by decide +kernel) (by decide +kernel))⟩
theorem fg_E_48 : FG "EarChart" 48 0 7 := ⟨"EarChart", F_E, 11, rfl, fi_E, by decide, Or.inl (k_at 192 (by decide +kernel) (by decide +kernel))⟩
theorem fp_E_48 : FP false "EarChart" 48 0 7 .int := ⟨"EarChart", F_E, 11, ft_E, rfl, fi_E, by decide, fo_E, fn_E, rfl, rfl, (fun q => absurd q (by decide)), Or.inl (k_at 192 (by decide +kernel) (by decide +kernel))⟩
theorem fg_E_51 : FG "EarChart" 51 0 8 := ⟨"EarChart", F_E, 11, rfl, fi_E, by decide, Or.inl (k_at 193 (by decide +kernel) (by decide +kernel))⟩
theorem fp_E_51 : FP false "EarChart" 51 0 8 .int := ⟨"EarChart", F_E, 11, ft_E, rfl, fi_E, by decide, fo_E, fn_E, rfl, rfl, (fun q => absurd q (by decide)), Or.inl (k_at 193 (by decide +kernel) (by decide +kernel))⟩
theorem fg_E_54 : FG "EarChart" 54 0 9 := ⟨"EarChart", F_E, 11, rfl, fi_E, by decide, Or.inl (k_at 194 (by decide +kernel) (by decide +kernel))⟩
theorem fp_E_54 : FP false "EarChart" 54 0 9 .int := ⟨"EarChart", F_E, 11, ft_E, rfl, fi_E, by decide, fo_E, fn_E, rfl, rfl, (fun q => absurd q (by decide)), Or.inl (k_at 194 (by decide +kernel) (by decide +kernel))⟩
theorem fg_E_57 : FG "EarChart" 57 0 10 := ⟨"EarChart", F_E, 11, rfl, fi_E, by decide, Or.inl (k_at 195 (by decide +kernel) (by decide +kernel))⟩
theorem fp_E_57 : FP false "EarChart" 57 0 10 .int := ⟨"EarChart", F_E, 11, ft_E, rfl, fi_E, by decide, fo_E, fn_E, rfl, rfl, (fun q => absurd q (by decide)), Or.inl (k_at 195 (by decide +kernel) (by decide +kernel))⟩
theorem fg_E_75 : FG "EarChart" 75 1 0 := ⟨"EarChart$Row", F_R, 4, rfl, fi_R, by decide, Or.inr ⟨"EarChart", k_at 80 (by decide +kernel) (by decide +kernel)⟩⟩
theorem fg_E_79 : FG "EarChart" 79 1 1 := ⟨"EarChart$Row", F_R, 4, rfl, fi_R, by decide, Or.inr ⟨"EarChart", k_at 82 (by decide +kernel) (by decide +kernel)⟩⟩
theorem fp_E_79 : FP false "EarChart" 79 1 1 .int := ⟨"EarChart$Row", F_R, 4, ft_R, rfl, fi_R, by decide, fo_R, fn_R, rfl, rfl, (fun q => absurd q (by decide)), Or.inr ⟨rfl, "EarChart", k_at 82 (by decide +kernel) (by decide +kernel)⟩⟩
theorem fg_E_86 : FG "EarChart" 86 1 2 := ⟨"EarChart$Row", F_R, 4, rfl, fi_R, by decide, Or.inr ⟨"EarChart", k_at 84 (by decide +kernel) (by decide +kernel)⟩⟩
theorem fp_E_86 : FP false "EarChart" 86 1 2 .int := ⟨"EarChart$Row", F_R, 4, ft_R, rfl, fi_R, by decide, fo_R, fn_R, rfl, rfl, (fun q => absurd q (by decide)), Or.inr ⟨rfl, "EarChart", k_at 84 (by decide +kernel) (by decide +kernel)⟩⟩
theorem fg_E_92 : FG "EarChart" 92 2 5 := ⟨"EarChart$Shape", F_S, 8, rfl, fi_S, by decide, Or.inr ⟨"EarChart", k_at 116 (by decide +kernel) (by decide +kernel)⟩⟩
theorem fg_E_95 : FG "EarChart" 95 2 7 := ⟨"EarChart$Shape", F_S, 8, rfl, fi_S, by decide, Or.inr ⟨"EarChart", k_at 120 (by decide +kernel) (by decide +kernel)⟩⟩
theorem fg_E_104 : FG "EarChart" 104 2 1 := ⟨"EarChart$Shape", F_S, 8, rfl, fi_S, by decide, Or.inr ⟨"EarChart", k_at 109 (by decide +kernel) (by decide +kernel)⟩⟩
theorem fg_E_107 : FG "EarChart" 107 2 2 := ⟨"EarChart$Shape", F_S, 8, rfl, fi_S, by decide, Or.inr ⟨"EarChart", k_at 111 (by decide +kernel) (by decide +kernel)⟩⟩
theorem fg_E_110 : FG "EarChart" 110 2 0 := ⟨"EarChart$Shape", F_S, 8, rfl, fi_S, by decide, Or.inr ⟨"EarChart", k_at 107 (by decide +kernel) (by decide +kernel)⟩⟩
theorem fg_E_113 : FG "EarChart" 113 2 6 := ⟨"EarChart$Shape", F_S, 8, rfl, fi_S, by decide, Or.inr ⟨"EarChart", k_at 118 (by decide +kernel) (by decide +kernel)⟩⟩
theorem fg_E_116 : FG "EarChart" 116 2 3 := ⟨"EarChart$Shape", F_S, 8, rfl, fi_S, by decide, Or.inr ⟨"EarChart", k_at 113 (by decide +kernel) (by decide +kernel)⟩⟩
theorem fg_E_130 : FG "EarChart" 130 3 1 := ⟨"EarChart$Meeting", F_M, 2, rfl, fi_M, by decide, Or.inr ⟨"EarChart", k_at 147 (by decide +kernel) (by decide +kernel)⟩⟩
theorem fg_E_131 : FG "EarChart" 131 3 0 := ⟨"EarChart$Meeting", F_M, 2, rfl, fi_M, by decide, Or.inr ⟨"EarChart", k_at 145 (by decide +kernel) (by decide +kernel)⟩⟩
theorem fg_E_145 : FG "EarChart" 145 1 3 := ⟨"EarChart$Row", F_R, 4, rfl, fi_R, by decide, Or.inr ⟨"EarChart", k_at 87 (by decide +kernel) (by decide +kernel)⟩⟩
theorem fp_E_145 : FP false "EarChart" 145 1 3 .int := ⟨"EarChart$Row", F_R, 4, ft_R, rfl, fi_R, by decide, fo_R, fn_R, rfl, rfl, (fun q => absurd q (by decide)), Or.inr ⟨rfl, "EarChart", k_at 87 (by decide +kernel) (by decide +kernel)⟩⟩
theorem fg_E_151 : FG "EarChart" 151 4 6 := ⟨"EarChart$Laying", F_L, 7, rfl, fi_L, by decide, Or.inr ⟨"EarChart", k_at 169 (by decide +kernel) (by decide +kernel)⟩⟩
theorem fg_E_157 : FG "EarChart" 157 4 2 := ⟨"EarChart$Laying", F_L, 7, rfl, fi_L, by decide, Or.inr ⟨"EarChart", k_at 164 (by decide +kernel) (by decide +kernel)⟩⟩
theorem fg_E_200 : FG "EarChart" 200 4 0 := ⟨"EarChart$Laying", F_L, 7, rfl, fi_L, by decide, Or.inr ⟨"EarChart", k_at 160 (by decide +kernel) (by decide +kernel)⟩⟩
theorem fg_E_203 : FG "EarChart" 203 4 1 := ⟨"EarChart$Laying", F_L, 7, rfl, fi_L, by decide, Or.inr ⟨"EarChart", k_at 162 (by decide +kernel) (by decide +kernel)⟩⟩
theorem fg_T_7 : FG "EarChartModel" 7 5 0 := ⟨"EarChartModel", F_T, 28, rfl, fi_T, by decide, Or.inl (k_at 521 (by decide +kernel) (by decide +kernel))⟩
theorem fp_T_7 : FP true "EarChartModel" 7 5 0 (.array .int) := ⟨"EarChartModel", F_T, 28, ft_T, rfl, fi_T, by decide, fo_T, fn_T, rfl, rfl, fun _ => rfl, Or.inl (k_at 521 (by decide +kernel) (by decide +kernel))⟩
theorem fg_T_13 : FG "EarChartModel" 13 5 1 := ⟨"EarChartModel", F_T, 28, rfl, fi_T, by decide, Or.inl (k_at 522 (by decide +kernel) (by decide +kernel))⟩
theorem fp_T_13 : FP true "EarChartModel" 13 5 1 (.array .int) := ⟨"EarChartModel", F_T, 28, ft_T, rfl, fi_T, by decide, fo_T, fn_T, rfl, rfl, fun _ => rfl, Or.inl (k_at 522 (by decide +kernel) (by decide +kernel))⟩
theorem fg_T_16 : FG "EarChartModel" 16 5 2 := ⟨"EarChartModel", F_T, 28, rfl, fi_T, by decide, Or.inl (k_at 523 (by decide +kernel) (by decide +kernel))⟩
theorem fp_T_16 : FP true "EarChartModel" 16 5 2 (.array .int) := ⟨"EarChartModel", F_T, 28, ft_T, rfl, fi_T, by decide, fo_T, fn_T, rfl, rfl, fun _ => rfl, Or.inl (k_at 523 (by decide +kernel) (by decide +kernel))⟩
theorem fg_T_19 : FG "EarChartModel" 19 5 3 := ⟨"EarChartModel", F_T, 28, rfl, fi_T, by decide, Or.inl (k_at 524 (by decide +kernel) (by decide +kernel))⟩
theorem fp_T_19 : FP true "EarChartModel" 19 5 3 (.array .int) := ⟨"EarChartModel", F_T, 28, ft_T, rfl, fi_T, by decide, fo_T, fn_T, rfl, rfl, fun _ => rfl, Or.inl (k_at 524 (by decide +kernel) (by decide +kernel))⟩
theorem fg_T_22 : FG "EarChartModel" 22 5 4 := ⟨"EarChartModel", F_T, 28, rfl, fi_T, by decide, Or.inl (k_at 525 (by decide +kernel) (by decide +kernel))⟩
theorem fp_T_22 : FP false "EarChartModel" 22 5 4 .int := ⟨"EarChartModel", F_T, 28, ft_T, rfl, fi_T, by decide, fo_T, fn_T, rfl, rfl, (fun q => absurd q (by decide)), Or.inl (k_at 525 (by decide +kernel) (by decide +kernel))⟩
theorem fg_T_26 : FG "EarChartModel" 26 5 5 := ⟨"EarChartModel", F_T, 28, rfl, fi_T, by decide, Or.inl (k_at 526 (by decide +kernel) (by decide +kernel))⟩
theorem fp_T_26 : FP false "EarChartModel" 26 5 5 .int := ⟨"EarChartModel", F_T, 28, ft_T, rfl, fi_T, by decide, fo_T, fn_T, rfl, rfl, (fun q => absurd q (by decide)), Or.inl (k_at 526 (by decide +kernel) (by decide +kernel))⟩
theorem fg_T_29 : FG "EarChartModel" 29 5 7 := ⟨"EarChartModel", F_T, 28, rfl, fi_T, by decide, Or.inl (k_at 528 (by decide +kernel) (by decide +kernel))⟩
theorem fp_T_29 : FP true "EarChartModel" 29 5 7 (.array .int) := ⟨"EarChartModel", F_T, 28, ft_T, rfl, fi_T, by decide, fo_T, fn_T, rfl, rfl, fun _ => rfl, Or.inl (k_at 528 (by decide +kernel) (by decide +kernel))⟩
theorem fg_T_32 : FG "EarChartModel" 32 5 8 := ⟨"EarChartModel", F_T, 28, rfl, fi_T, by decide, Or.inl (k_at 529 (by decide +kernel) (by decide +kernel))⟩
theorem fp_T_32 : FP true "EarChartModel" 32 5 8 (.array .int) := ⟨"EarChartModel", F_T, 28, ft_T, rfl, fi_T, by decide, fo_T, fn_T, rfl, rfl, fun _ => rfl, Or.inl (k_at 529 (by decide +kernel) (by decide +kernel))⟩
theorem fg_T_35 : FG "EarChartModel" 35 5 11 := ⟨"EarChartModel", F_T, 28, rfl, fi_T, by decide, Or.inl (k_at 532 (by decide +kernel) (by decide +kernel))⟩
theorem fp_T_35 : FP true "EarChartModel" 35 5 11 (.array .int) := ⟨"EarChartModel", F_T, 28, ft_T, rfl, fi_T, by decide, fo_T, fn_T, rfl, rfl, fun _ => rfl, Or.inl (k_at 532 (by decide +kernel) (by decide +kernel))⟩
theorem fg_T_38 : FG "EarChartModel" 38 5 12 := ⟨"EarChartModel", F_T, 28, rfl, fi_T, by decide, Or.inl (k_at 533 (by decide +kernel) (by decide +kernel))⟩
theorem fp_T_38 : FP true "EarChartModel" 38 5 12 (.array .int) := ⟨"EarChartModel", F_T, 28, ft_T, rfl, fi_T, by decide, fo_T, fn_T, rfl, rfl, fun _ => rfl, Or.inl (k_at 533 (by decide +kernel) (by decide +kernel))⟩
theorem fg_T_41 : FG "EarChartModel" 41 5 13 := ⟨"EarChartModel", F_T, 28, rfl, fi_T, by decide, Or.inl (k_at 534 (by decide +kernel) (by decide +kernel))⟩
theorem fp_T_41 : FP true "EarChartModel" 41 5 13 (.array .int) := ⟨"EarChartModel", F_T, 28, ft_T, rfl, fi_T, by decide, fo_T, fn_T, rfl, rfl, fun _ => rfl, Or.inl (k_at 534 (by decide +kernel) (by decide +kernel))⟩
theorem fg_T_44 : FG "EarChartModel" 44 5 15 := ⟨"EarChartModel", F_T, 28, rfl, fi_T, by decide, Or.inl (k_at 536 (by decide +kernel) (by decide +kernel))⟩
theorem fp_T_44 : FP true "EarChartModel" 44 5 15 (.array .int) := ⟨"EarChartModel", F_T, 28, ft_T, rfl, fi_T, by decide, fo_T, fn_T, rfl, rfl, fun _ => rfl, Or.inl (k_at 536 (by decide +kernel) (by decide +kernel))⟩
theorem fg_T_47 : FG "EarChartModel" 47 5 17 := ⟨"EarChartModel", F_T, 28, rfl, fi_T, by decide, Or.inl (k_at 538 (by decide +kernel) (by decide +kernel))⟩
theorem fp_T_47 : FP true "EarChartModel" 47 5 17 (.array .int) := ⟨"EarChartModel", F_T, 28, ft_T, rfl, fi_T, by decide, fo_T, fn_T, rfl, rfl, fun _ => rfl, Or.inl (k_at 538 (by decide +kernel) (by decide +kernel))⟩
theorem fg_T_50 : FG "EarChartModel" 50 5 19 := ⟨"EarChartModel", F_T, 28, rfl, fi_T, by decide, Or.inl (k_at 540 (by decide +kernel) (by decide +kernel))⟩
theorem fp_T_50 : FP false "EarChartModel" 50 5 19 .int := ⟨"EarChartModel", F_T, 28, ft_T, rfl, fi_T, by decide, fo_T, fn_T, rfl, rfl, (fun q => absurd q (by decide)), Or.inl (k_at 540 (by decide +kernel) (by decide +kernel))⟩
theorem fg_T_53 : FG "EarChartModel" 53 5 20 := ⟨"EarChartModel", F_T, 28, rfl, fi_T, by decide, Or.inl (k_at 541 (by decide +kernel) (by decide +kernel))⟩
theorem fp_T_53 : FP false "EarChartModel" 53 5 20 .int := ⟨"EarChartModel", F_T, 28, ft_T, rfl, fi_T, by decide, fo_T, fn_T, rfl, rfl, (fun q => absurd q (by decide)), Or.inl (k_at 541 (by decide +kernel) (by decide +kernel))⟩
theorem fg_T_56 : FG "EarChartModel" 56 5 23 := ⟨"EarChartModel", F_T, 28, rfl, fi_T, by decide, Or.inl (k_at 544 (by decide +kernel) (by decide +kernel))⟩
theorem fp_T_56 : FP true "EarChartModel" 56 5 23 (.array .int) := ⟨"EarChartModel", F_T, 28, ft_T, rfl, fi_T, by decide, fo_T, fn_T, rfl, rfl, fun _ => rfl, Or.inl (k_at 544 (by decide +kernel) (by decide +kernel))⟩
theorem fg_T_59 : FG "EarChartModel" 59 5 24 := ⟨"EarChartModel", F_T, 28, rfl, fi_T, by decide, Or.inl (k_at 545 (by decide +kernel) (by decide +kernel))⟩
theorem fp_T_59 : FP true "EarChartModel" 59 5 24 (.array .int) := ⟨"EarChartModel", F_T, 28, ft_T, rfl, fi_T, by decide, fo_T, fn_T, rfl, rfl, fun _ => rfl, Or.inl (k_at 545 (by decide +kernel) (by decide +kernel))⟩
theorem fg_T_62 : FG "EarChartModel" 62 5 25 := ⟨"EarChartModel", F_T, 28, rfl, fi_T, by decide, Or.inl (k_at 546 (by decide +kernel) (by decide +kernel))⟩
theorem fp_T_62 : FP true "EarChartModel" 62 5 25 (.array .int) := ⟨"EarChartModel", F_T, 28, ft_T, rfl, fi_T, by decide, fo_T, fn_T, rfl, rfl, fun _ => rfl, Or.inl (k_at 546 (by decide +kernel) (by decide +kernel))⟩
theorem fg_T_65 : FG "EarChartModel" 65 5 26 := ⟨"EarChartModel", F_T, 28, rfl, fi_T, by decide, Or.inl (k_at 547 (by decide +kernel) (by decide +kernel))⟩
theorem fp_T_65 : FP true "EarChartModel" 65 5 26 (.array .int) := ⟨"EarChartModel", F_T, 28, ft_T, rfl, fi_T, by decide, fo_T, fn_T, rfl, rfl, fun _ => rfl, Or.inl (k_at 547 (by decide +kernel) (by decide +kernel))⟩
theorem fg_T_68 : FG "EarChartModel" 68 5 27 := ⟨"EarChartModel", F_T, 28, rfl, fi_T, by decide, Or.inl (k_at 548 (by decide +kernel) (by decide +kernel))⟩
theorem fp_T_68 : FP true "EarChartModel" 68 5 27 (.array .boolean) := ⟨"EarChartModel", F_T, 28, ft_T, rfl, fi_T, by decide, fo_T, fn_T, rfl, rfl, fun _ => rfl, Or.inl (k_at 548 (by decide +kernel) (by decide +kernel))⟩
theorem fg_T_106 : FG "EarChartModel" 106 5 10 := ⟨"EarChartModel", F_T, 28, rfl, fi_T, by decide, Or.inl (k_at 531 (by decide +kernel) (by decide +kernel))⟩
theorem fp_T_106 : FP false "EarChartModel" 106 5 10 .int := ⟨"EarChartModel", F_T, 28, ft_T, rfl, fi_T, by decide, fo_T, fn_T, rfl, rfl, (fun q => absurd q (by decide)), Or.inl (k_at 531 (by decide +kernel) (by decide +kernel))⟩
theorem fg_T_109 : FG "EarChartModel" 109 5 9 := ⟨"EarChartModel", F_T, 28, rfl, fi_T, by decide, Or.inl (k_at 530 (by decide +kernel) (by decide +kernel))⟩
theorem fp_T_109 : FP false "EarChartModel" 109 5 9 .int := ⟨"EarChartModel", F_T, 28, ft_T, rfl, fi_T, by decide, fo_T, fn_T, rfl, rfl, (fun q => absurd q (by decide)), Or.inl (k_at 530 (by decide +kernel) (by decide +kernel))⟩
theorem fg_T_115 : FG "EarChartModel" 115 5 14 := ⟨"EarChartModel", F_T, 28, rfl, fi_T, by decide, Or.inl (k_at 535 (by decide +kernel) (by decide +kernel))⟩
theorem fp_T_115 : FP false "EarChartModel" 115 5 14 .int := ⟨"EarChartModel", F_T, 28, ft_T, rfl, fi_T, by decide, fo_T, fn_T, rfl, rfl, (fun q => absurd q (by decide)), Or.inl (k_at 535 (by decide +kernel) (by decide +kernel))⟩
theorem fg_T_125 : FG "EarChartModel" 125 5 16 := ⟨"EarChartModel", F_T, 28, rfl, fi_T, by decide, Or.inl (k_at 537 (by decide +kernel) (by decide +kernel))⟩
theorem fp_T_125 : FP false "EarChartModel" 125 5 16 .int := ⟨"EarChartModel", F_T, 28, ft_T, rfl, fi_T, by decide, fo_T, fn_T, rfl, rfl, (fun q => absurd q (by decide)), Or.inl (k_at 537 (by decide +kernel) (by decide +kernel))⟩
theorem fg_T_135 : FG "EarChartModel" 135 5 21 := ⟨"EarChartModel", F_T, 28, rfl, fi_T, by decide, Or.inl (k_at 542 (by decide +kernel) (by decide +kernel))⟩
theorem fp_T_135 : FP false "EarChartModel" 135 5 21 .int := ⟨"EarChartModel", F_T, 28, ft_T, rfl, fi_T, by decide, fo_T, fn_T, rfl, rfl, (fun q => absurd q (by decide)), Or.inl (k_at 542 (by decide +kernel) (by decide +kernel))⟩
theorem fg_T_138 : FG "EarChartModel" 138 5 22 := ⟨"EarChartModel", F_T, 28, rfl, fi_T, by decide, Or.inl (k_at 543 (by decide +kernel) (by decide +kernel))⟩
theorem fp_T_138 : FP false "EarChartModel" 138 5 22 .int := ⟨"EarChartModel", F_T, 28, ft_T, rfl, fi_T, by decide, fo_T, fn_T, rfl, rfl, (fun q => absurd q (by decide)), Or.inl (k_at 543 (by decide +kernel) (by decide +kernel))⟩
theorem fg_T_145 : FG "EarChartModel" 145 5 18 := ⟨"EarChartModel", F_T, 28, rfl, fi_T, by decide, Or.inl (k_at 539 (by decide +kernel) (by decide +kernel))⟩
theorem fp_T_145 : FP false "EarChartModel" 145 5 18 .int := ⟨"EarChartModel", F_T, 28, ft_T, rfl, fi_T, by decide, fo_T, fn_T, rfl, rfl, (fun q => absurd q (by decide)), Or.inl (k_at 539 (by decide +kernel) (by decide +kernel))⟩
theorem fg_T_163 : FG "EarChartModel" 163 5 6 := ⟨"EarChartModel", F_T, 28, rfl, fi_T, by decide, Or.inl (k_at 527 (by decide +kernel) (by decide +kernel))⟩
theorem fp_T_163 : FP false "EarChartModel" 163 5 6 .int := ⟨"EarChartModel", F_T, 28, ft_T, rfl, fi_T, by decide, fo_T, fn_T, rfl, rfl, (fun q => absurd q (by decide)), Or.inl (k_at 527 (by decide +kernel) (by decide +kernel))⟩
theorem fg_L_9 : FG "EarChart$Laying" 9 4 0 := ⟨"EarChart$Laying", F_L, 7, rfl, fi_L, by decide, Or.inl (k_at 159 (by decide +kernel) (by decide +kernel))⟩
theorem fp_L_9 : FP true "EarChart$Laying" 9 4 0 (.array .int) := ⟨"EarChart$Laying", F_L, 7, ft_L, rfl, fi_L, by decide, fo_L, fn_L, rfl, rfl, fun _ => rfl, Or.inl (k_at 159 (by decide +kernel) (by decide +kernel))⟩
theorem fg_L_15 : FG "EarChart$Laying" 15 4 1 := ⟨"EarChart$Laying", F_L, 7, rfl, fi_L, by decide, Or.inl (k_at 161 (by decide +kernel) (by decide +kernel))⟩
theorem fp_L_15 : FP true "EarChart$Laying" 15 4 1 (.array .int) := ⟨"EarChart$Laying", F_L, 7, ft_L, rfl, fi_L, by decide, fo_L, fn_L, rfl, rfl, fun _ => rfl, Or.inl (k_at 161 (by decide +kernel) (by decide +kernel))⟩
theorem fg_L_18 : FG "EarChart$Laying" 18 4 2 := ⟨"EarChart$Laying", F_L, 7, rfl, fi_L, by decide, Or.inl (k_at 163 (by decide +kernel) (by decide +kernel))⟩
theorem fp_L_18 : FP true "EarChart$Laying" 18 4 2 (.array .int) := ⟨"EarChart$Laying", F_L, 7, ft_L, rfl, fi_L, by decide, fo_L, fn_L, rfl, rfl, fun _ => rfl, Or.inl (k_at 163 (by decide +kernel) (by decide +kernel))⟩
theorem fg_L_21 : FG "EarChart$Laying" 21 4 3 := ⟨"EarChart$Laying", F_L, 7, rfl, fi_L, by decide, Or.inl (k_at 165 (by decide +kernel) (by decide +kernel))⟩
theorem fp_L_21 : FP true "EarChart$Laying" 21 4 3 (.array .int) := ⟨"EarChart$Laying", F_L, 7, ft_L, rfl, fi_L, by decide, fo_L, fn_L, rfl, rfl, fun _ => rfl, Or.inl (k_at 165 (by decide +kernel) (by decide +kernel))⟩
theorem fg_L_24 : FG "EarChart$Laying" 24 4 4 := ⟨"EarChart$Laying", F_L, 7, rfl, fi_L, by decide, Or.inl (k_at 166 (by decide +kernel) (by decide +kernel))⟩
theorem fp_L_24 : FP false "EarChart$Laying" 24 4 4 .int := ⟨"EarChart$Laying", F_L, 7, ft_L, rfl, fi_L, by decide, fo_L, fn_L, rfl, rfl, (fun q => absurd q (by decide)), Or.inl (k_at 166 (by decide +kernel) (by decide +kernel))⟩
theorem fg_L_28 : FG "EarChart$Laying" 28 4 5 := ⟨"EarChart$Laying", F_L, 7, rfl, fi_L, by decide, Or.inl (k_at 167 (by decide +kernel) (by decide +kernel))⟩
theorem fp_L_28 : FP false "EarChart$Laying" 28 4 5 .int := ⟨"EarChart$Laying", F_L, 7, ft_L, rfl, fi_L, by decide, fo_L, fn_L, rfl, rfl, (fun q => absurd q (by decide)), Or.inl (k_at 167 (by decide +kernel) (by decide +kernel))⟩
theorem fg_L_31 : FG "EarChart$Laying" 31 4 6 := ⟨"EarChart$Laying", F_L, 7, rfl, fi_L, by decide, Or.inl (k_at 168 (by decide +kernel) (by decide +kernel))⟩
theorem fp_L_31 : FP false "EarChart$Laying" 31 4 6 .int := ⟨"EarChart$Laying", F_L, 7, ft_L, rfl, fi_L, by decide, fo_L, fn_L, rfl, rfl, (fun q => absurd q (by decide)), Or.inl (k_at 168 (by decide +kernel) (by decide +kernel))⟩
theorem fg_M_9 : FG "EarChart$Meeting" 9 3 0 := ⟨"EarChart$Meeting", F_M, 2, rfl, fi_M, by decide, Or.inl (k_at 144 (by decide +kernel) (by decide +kernel))⟩
theorem fp_M_9 : FP true "EarChart$Meeting" 9 3 0 (.array .int) := ⟨"EarChart$Meeting", F_M, 2, ft_M, rfl, fi_M, by decide, fo_M, fn_M, rfl, rfl, fun _ => rfl, Or.inl (k_at 144 (by decide +kernel) (by decide +kernel))⟩
theorem fg_M_15 : FG "EarChart$Meeting" 15 3 1 := ⟨"EarChart$Meeting", F_M, 2, rfl, fi_M, by decide, Or.inl (k_at 146 (by decide +kernel) (by decide +kernel))⟩
theorem fp_M_15 : FP false "EarChart$Meeting" 15 3 1 .int := ⟨"EarChart$Meeting", F_M, 2, ft_M, rfl, fi_M, by decide, fo_M, fn_M, rfl, rfl, (fun q => absurd q (by decide)), Or.inl (k_at 146 (by decide +kernel) (by decide +kernel))⟩
theorem fg_R_9 : FG "EarChart$Row" 9 1 0 := ⟨"EarChart$Row", F_R, 4, rfl, fi_R, by decide, Or.inl (k_at 78 (by decide +kernel) (by decide +kernel))⟩
theorem fp_R_9 : FP true "EarChart$Row" 9 1 0 (.array .int) := ⟨"EarChart$Row", F_R, 4, ft_R, rfl, fi_R, by decide, fo_R, fn_R, rfl, rfl, fun _ => rfl, Or.inl (k_at 78 (by decide +kernel) (by decide +kernel))⟩
theorem fg_R_15 : FG "EarChart$Row" 15 1 1 := ⟨"EarChart$Row", F_R, 4, rfl, fi_R, by decide, Or.inl (k_at 81 (by decide +kernel) (by decide +kernel))⟩
theorem fp_R_15 : FP false "EarChart$Row" 15 1 1 .int := ⟨"EarChart$Row", F_R, 4, ft_R, rfl, fi_R, by decide, fo_R, fn_R, rfl, rfl, (fun q => absurd q (by decide)), Or.inl (k_at 81 (by decide +kernel) (by decide +kernel))⟩
theorem fg_R_19 : FG "EarChart$Row" 19 1 2 := ⟨"EarChart$Row", F_R, 4, rfl, fi_R, by decide, Or.inl (k_at 83 (by decide +kernel) (by decide +kernel))⟩
theorem fp_R_19 : FP false "EarChart$Row" 19 1 2 .int := ⟨"EarChart$Row", F_R, 4, ft_R, rfl, fi_R, by decide, fo_R, fn_R, rfl, rfl, (fun q => absurd q (by decide)), Or.inl (k_at 83 (by decide +kernel) (by decide +kernel))⟩
theorem fg_R_22 : FG "EarChart$Row" 22 1 3 := ⟨"EarChart$Row", F_R, 4, rfl, fi_R, by decide, Or.inl (k_at 86 (by decide +kernel) (by decide +kernel))⟩
theorem fp_R_22 : FP false "EarChart$Row" 22 1 3 .int := ⟨"EarChart$Row", F_R, 4, ft_R, rfl, fi_R, by decide, fo_R, fn_R, rfl, rfl, (fun q => absurd q (by decide)), Or.inl (k_at 86 (by decide +kernel) (by decide +kernel))⟩
theorem fg_S_9 : FG "EarChart$Shape" 9 2 0 := ⟨"EarChart$Shape", F_S, 8, rfl, fi_S, by decide, Or.inl (k_at 106 (by decide +kernel) (by decide +kernel))⟩
theorem fp_S_9 : FP true "EarChart$Shape" 9 2 0 (.array .int) := ⟨"EarChart$Shape", F_S, 8, ft_S, rfl, fi_S, by decide, fo_S, fn_S, rfl, rfl, fun _ => rfl, Or.inl (k_at 106 (by decide +kernel) (by decide +kernel))⟩
theorem fg_S_15 : FG "EarChart$Shape" 15 2 1 := ⟨"EarChart$Shape", F_S, 8, rfl, fi_S, by decide, Or.inl (k_at 108 (by decide +kernel) (by decide +kernel))⟩
theorem fp_S_15 : FP true "EarChart$Shape" 15 2 1 (.array .int) := ⟨"EarChart$Shape", F_S, 8, ft_S, rfl, fi_S, by decide, fo_S, fn_S, rfl, rfl, fun _ => rfl, Or.inl (k_at 108 (by decide +kernel) (by decide +kernel))⟩
theorem fg_S_18 : FG "EarChart$Shape" 18 2 2 := ⟨"EarChart$Shape", F_S, 8, rfl, fi_S, by decide, Or.inl (k_at 110 (by decide +kernel) (by decide +kernel))⟩
theorem fp_S_18 : FP true "EarChart$Shape" 18 2 2 (.array .int) := ⟨"EarChart$Shape", F_S, 8, ft_S, rfl, fi_S, by decide, fo_S, fn_S, rfl, rfl, fun _ => rfl, Or.inl (k_at 110 (by decide +kernel) (by decide +kernel))⟩
theorem fg_S_21 : FG "EarChart$Shape" 21 2 3 := ⟨"EarChart$Shape", F_S, 8, rfl, fi_S, by decide, Or.inl (k_at 112 (by decide +kernel) (by decide +kernel))⟩
theorem fp_S_21 : FP true "EarChart$Shape" 21 2 3 (.array .int) := ⟨"EarChart$Shape", F_S, 8, ft_S, rfl, fi_S, by decide, fo_S, fn_S, rfl, rfl, fun _ => rfl, Or.inl (k_at 112 (by decide +kernel) (by decide +kernel))⟩
theorem fg_S_26 : FG "EarChart$Shape" 26 2 4 := ⟨"EarChart$Shape", F_S, 8, rfl, fi_S, by decide, Or.inl (k_at 114 (by decide +kernel) (by decide +kernel))⟩
theorem fp_S_26 : FP true "EarChart$Shape" 26 2 4 (.array (.array .int)) := ⟨"EarChart$Shape", F_S, 8, ft_S, rfl, fi_S, by decide, fo_S, fn_S, rfl, rfl, fun _ => rfl, Or.inl (k_at 114 (by decide +kernel) (by decide +kernel))⟩
theorem fg_S_29 : FG "EarChart$Shape" 29 2 5 := ⟨"EarChart$Shape", F_S, 8, rfl, fi_S, by decide, Or.inl (k_at 115 (by decide +kernel) (by decide +kernel))⟩
theorem fp_S_29 : FP false "EarChart$Shape" 29 2 5 .int := ⟨"EarChart$Shape", F_S, 8, ft_S, rfl, fi_S, by decide, fo_S, fn_S, rfl, rfl, (fun q => absurd q (by decide)), Or.inl (k_at 115 (by decide +kernel) (by decide +kernel))⟩
theorem fg_S_33 : FG "EarChart$Shape" 33 2 6 := ⟨"EarChart$Shape", F_S, 8, rfl, fi_S, by decide, Or.inl (k_at 117 (by decide +kernel) (by decide +kernel))⟩
theorem fp_S_33 : FP false "EarChart$Shape" 33 2 6 .int := ⟨"EarChart$Shape", F_S, 8, ft_S, rfl, fi_S, by decide, fo_S, fn_S, rfl, rfl, (fun q => absurd q (by decide)), Or.inl (k_at 117 (by decide +kernel) (by decide +kernel))⟩
theorem fg_S_36 : FG "EarChart$Shape" 36 2 7 := ⟨"EarChart$Shape", F_S, 8, rfl, fi_S, by decide, Or.inl (k_at 119 (by decide +kernel) (by decide +kernel))⟩
theorem fp_S_36 : FP false "EarChart$Shape" 36 2 7 .int := ⟨"EarChart$Shape", F_S, 8, ft_S, rfl, fi_S, by decide, fo_S, fn_S, rfl, rfl, (fun q => absurd q (by decide)), Or.inl (k_at 119 (by decide +kernel) (by decide +kernel))⟩
theorem fg_S_56 : FG "EarChart$Shape" 56 1 0 := ⟨"EarChart$Row", F_R, 4, rfl, fi_R, by decide, Or.inr ⟨"EarChart", k_at 79 (by decide +kernel) (by decide +kernel)⟩⟩
theorem fg_S_94 : FG "EarChart$Shape" 94 1 2 := ⟨"EarChart$Row", F_R, 4, rfl, fi_R, by decide, Or.inr ⟨"EarChart", k_at 85 (by decide +kernel) (by decide +kernel)⟩⟩
theorem cb_E_init : CB0 kE_init 0 := ⟨k_at 67 (by decide +kernel) (by decide +kernel), k_at 55 (by decide +kernel) (by decide +kernel), ⟨by decide, by decide⟩, by decide +kernel, by decide⟩
theorem cb_E_value : CB0 kE_value 2 := ⟨k_at 223 (by decide +kernel) (by decide +kernel), k_at 55 (by decide +kernel) (by decide +kernel), ⟨by decide, by decide⟩, by decide +kernel, by decide⟩
theorem cb_E_gap : CB0 kE_gap 1 := ⟨k_at 241 (by decide +kernel) (by decide +kernel), k_at 55 (by decide +kernel) (by decide +kernel), ⟨by decide, by decide⟩, by decide +kernel, by decide⟩
theorem cb_E_put : CB0 kE_put 3 := ⟨k_at 245 (by decide +kernel) (by decide +kernel), k_at 55 (by decide +kernel) (by decide +kernel), ⟨by decide, by decide⟩, by decide +kernel, by decide⟩
theorem cb_E_clear : CB0 kE_clear 1 := ⟨k_at 253 (by decide +kernel) (by decide +kernel), k_at 55 (by decide +kernel) (by decide +kernel), ⟨by decide, by decide⟩, by decide +kernel, by decide⟩
theorem cb_E_miss : CB0 kE_miss 2 := ⟨k_at 257 (by decide +kernel) (by decide +kernel), k_at 55 (by decide +kernel) (by decide +kernel), ⟨by decide, by decide⟩, by decide +kernel, by decide⟩
theorem cb_E_part : CB0 kE_part 1 := ⟨k_at 261 (by decide +kernel) (by decide +kernel), k_at 55 (by decide +kernel) (by decide +kernel), ⟨by decide, by decide⟩, by decide +kernel, by decide⟩
theorem cb_E_at : CB0 kE_at 2 := ⟨k_at 265 (by decide +kernel) (by decide +kernel), k_at 55 (by decide +kernel) (by decide +kernel), ⟨by decide, by decide⟩, by decide +kernel, by decide⟩
theorem cb_E_spans : CB0 kE_spans 1 := ⟨k_at 269 (by decide +kernel) (by decide +kernel), k_at 55 (by decide +kernel) (by decide +kernel), ⟨by decide, by decide⟩, by decide +kernel, by decide⟩
theorem cb_E_cost : CB0 kE_cost 1 := ⟨k_at 333 (by decide +kernel) (by decide +kernel), k_at 55 (by decide +kernel) (by decide +kernel), ⟨by decide, by decide⟩, by decide +kernel, by decide⟩
theorem cb_E_span : CB0 kE_span 3 := ⟨k_at 337 (by decide +kernel) (by decide +kernel), k_at 55 (by decide +kernel) (by decide +kernel), ⟨by decide, by decide⟩, by decide +kernel, by decide⟩
theorem cb_E_kind : CB0 kE_kind 2 := ⟨k_at 346 (by decide +kernel) (by decide +kernel), k_at 55 (by decide +kernel) (by decide +kernel), ⟨by decide, by decide⟩, by decide +kernel, by decide⟩
theorem cb_E_turnsOf : CB0 kE_turnsOf 1 := ⟨k_at 350 (by decide +kernel) (by decide +kernel), k_at 55 (by decide +kernel) (by decide +kernel), ⟨by decide, by decide⟩, by decide +kernel, by decide⟩
theorem cb_E_turn : CB0 kE_turn 2 := ⟨k_at 354 (by decide +kernel) (by decide +kernel), k_at 55 (by decide +kernel) (by decide +kernel), ⟨by decide, by decide⟩, by decide +kernel, by decide⟩
theorem cb_E_sure : CB0 kE_sure 3 := ⟨k_at 358 (by decide +kernel) (by decide +kernel), k_at 55 (by decide +kernel) (by decide +kernel), ⟨by decide, by decide⟩, by decide +kernel, by decide⟩
theorem cb_E_crossings : CB0 kE_crossings 2 := ⟨k_at 369 (by decide +kernel) (by decide +kernel), k_at 55 (by decide +kernel) (by decide +kernel), ⟨by decide, by decide⟩, by decide +kernel, by decide⟩
theorem cb_E_crossing : CB0 kE_crossing 3 := ⟨k_at 382 (by decide +kernel) (by decide +kernel), k_at 55 (by decide +kernel) (by decide +kernel), ⟨by decide, by decide⟩, by decide +kernel, by decide⟩
theorem cb_E_scale : CB0 kE_scale 2 := ⟨k_at 386 (by decide +kernel) (by decide +kernel), k_at 55 (by decide +kernel) (by decide +kernel), ⟨by decide, by decide⟩, by decide +kernel, by decide⟩
theorem cb_E_height : CB0 kE_height 2 := ⟨k_at 410 (by decide +kernel) (by decide +kernel), k_at 55 (by decide +kernel) (by decide +kernel), ⟨by decide, by decide⟩, by decide +kernel, by decide⟩
theorem cb_E_ear : CB0 kE_ear 2 := ⟨k_at 418 (by decide +kernel) (by decide +kernel), k_at 55 (by decide +kernel) (by decide +kernel), ⟨by decide, by decide⟩, by decide +kernel, by decide⟩
theorem cb_E_worth : CB0 kE_worth 2 := ⟨k_at 422 (by decide +kernel) (by decide +kernel), k_at 55 (by decide +kernel) (by decide +kernel), ⟨by decide, by decide⟩, by decide +kernel, by decide⟩
theorem cb_E_lay : CB0 kE_lay 1 := ⟨k_at 426 (by decide +kernel) (by decide +kernel), k_at 55 (by decide +kernel) (by decide +kernel), ⟨by decide, by decide⟩, by decide +kernel, by decide⟩
theorem cb_E_slot : CB0 kE_slot 2 := ⟨k_at 450 (by decide +kernel) (by decide +kernel), k_at 55 (by decide +kernel) (by decide +kernel), ⟨by decide, by decide⟩, by decide +kernel, by decide⟩
theorem cb_E_hears : CB0 kE_hears 3 := ⟨k_at 454 (by decide +kernel) (by decide +kernel), k_at 55 (by decide +kernel) (by decide +kernel), ⟨by decide, by decide⟩, by decide +kernel, by decide⟩
theorem cb_E_whole : CB0 kE_whole 3 := ⟨k_at 466 (by decide +kernel) (by decide +kernel), k_at 55 (by decide +kernel) (by decide +kernel), ⟨by decide, by decide⟩, by decide +kernel, by decide⟩
theorem cb_E_walk : CB0 kE_walk 2 := ⟨k_at 482 (by decide +kernel) (by decide +kernel), k_at 55 (by decide +kernel) (by decide +kernel), ⟨by decide, by decide⟩, by decide +kernel, by decide⟩
theorem cb_E_where : CB0 kE_where 1 := ⟨k_at 486 (by decide +kernel) (by decide +kernel), k_at 55 (by decide +kernel) (by decide +kernel), ⟨by decide, by decide⟩, by decide +kernel, by decide⟩
theorem cb_E_go : CB0 kE_go 1 := ⟨k_at 490 (by decide +kernel) (by decide +kernel), k_at 55 (by decide +kernel) (by decide +kernel), ⟨by decide, by decide⟩, by decide +kernel, by decide⟩
theorem cb_E_seek : CB0 kE_seek 2 := ⟨k_at 494 (by decide +kernel) (by decide +kernel), k_at 55 (by decide +kernel) (by decide +kernel), ⟨by decide, by decide⟩, by decide +kernel, by decide⟩
theorem cb_E_within : CB0 kE_within 3 := ⟨k_at 230 (by decide +kernel) (by decide +kernel), k_at 55 (by decide +kernel) (by decide +kernel), ⟨by decide, by decide⟩, by decide +kernel, by decide⟩
theorem cb_E_isValue : CB0 kE_isValue 1 := ⟨k_at 233 (by decide +kernel) (by decide +kernel), k_at 55 (by decide +kernel) (by decide +kernel), ⟨by decide, by decide⟩, by decide +kernel, by decide⟩
theorem cb_E_rowOf : CB0 kE_rowOf 1 := ⟨k_at 227 (by decide +kernel) (by decide +kernel), k_at 55 (by decide +kernel) (by decide +kernel), ⟨by decide, by decide⟩, by decide +kernel, by decide⟩
theorem cb_E_areTwoRows : CB0 kE_areTwoRows 2 := ⟨k_at 361 (by decide +kernel) (by decide +kernel), k_at 55 (by decide +kernel) (by decide +kernel), ⟨by decide, by decide⟩, by decide +kernel, by decide⟩
theorem cb_E_readShape : CB0 kE_readShape 1 := ⟨k_at 273 (by decide +kernel) (by decide +kernel), k_at 55 (by decide +kernel) (by decide +kernel), ⟨by decide, by decide⟩, by decide +kernel, by decide⟩
theorem cb_E_readMeeting : CB0 kE_readMeeting 2 := ⟨k_at 373 (by decide +kernel) (by decide +kernel), k_at 55 (by decide +kernel) (by decide +kernel), ⟨by decide, by decide⟩, by decide +kernel, by decide⟩
theorem cb_E_compareSurely : CB0 kE_compareSurely 3 := ⟨k_at 364 (by decide +kernel) (by decide +kernel), k_at 55 (by decide +kernel) (by decide +kernel), ⟨by decide, by decide⟩, by decide +kernel, by decide⟩
theorem cb_E_lowestValue : CB0 kE_lowestValue 0 := ⟨k_at 390 (by decide +kernel) (by decide +kernel), k_at 55 (by decide +kernel) (by decide +kernel), ⟨by decide, by decide⟩, by decide +kernel, by decide⟩
theorem cb_E_highestValue : CB0 kE_highestValue 0 := ⟨k_at 400 (by decide +kernel) (by decide +kernel), k_at 55 (by decide +kernel) (by decide +kernel), ⟨by decide, by decide⟩, by decide +kernel, by decide⟩
theorem cb_E_heightAbove : CB0 kE_heightAbove 3 := ⟨k_at 414 (by decide +kernel) (by decide +kernel), k_at 55 (by decide +kernel) (by decide +kernel), ⟨by decide, by decide⟩, by decide +kernel, by decide⟩
theorem cb_E_readLaying : CB0 kE_readLaying 1 := ⟨k_at 430 (by decide +kernel) (by decide +kernel), k_at 55 (by decide +kernel) (by decide +kernel), ⟨by decide, by decide⟩, by decide +kernel, by decide⟩
theorem cb_E_soundsAbove : CB0 kE_soundsAbove 2 := ⟨k_at 462 (by decide +kernel) (by decide +kernel), k_at 55 (by decide +kernel) (by decide +kernel), ⟨by decide, by decide⟩, by decide +kernel, by decide⟩
theorem cb_E_markSought : CB0 kE_markSought 2 := ⟨k_at 498 (by decide +kernel) (by decide +kernel), k_at 55 (by decide +kernel) (by decide +kernel), ⟨by decide, by decide⟩, by decide +kernel, by decide⟩
theorem cb_E_markTurns : CB0 kE_markTurns 1 := ⟨k_at 502 (by decide +kernel) (by decide +kernel), k_at 55 (by decide +kernel) (by decide +kernel), ⟨by decide, by decide⟩, by decide +kernel, by decide⟩
theorem cb_E_markCrossings : CB0 kE_markCrossings 1 := ⟨k_at 506 (by decide +kernel) (by decide +kernel), k_at 55 (by decide +kernel) (by decide +kernel), ⟨by decide, by decide⟩, by decide +kernel, by decide⟩
theorem cb_E_markBehind : CB0 kE_markBehind 1 := ⟨k_at 510 (by decide +kernel) (by decide +kernel), k_at 55 (by decide +kernel) (by decide +kernel), ⟨by decide, by decide⟩, by decide +kernel, by decide⟩
theorem cb_E_markAhead : CB0 kE_markAhead 1 := ⟨k_at 514 (by decide +kernel) (by decide +kernel), k_at 55 (by decide +kernel) (by decide +kernel), ⟨by decide, by decide⟩, by decide +kernel, by decide⟩
theorem cb_T_init : CB0 kT_init 0 := ⟨k_at 519 (by decide +kernel) (by decide +kernel), k_at 60 (by decide +kernel) (by decide +kernel), ⟨by decide, by decide⟩, by decide +kernel, by decide⟩
theorem cb_T_isRow : CB0 kT_isRow 1 := ⟨k_at 619 (by decide +kernel) (by decide +kernel), k_at 60 (by decide +kernel) (by decide +kernel), ⟨by decide, by decide⟩, by decide +kernel, by decide⟩
theorem cb_T_isIn : CB0 kT_isIn 3 := ⟨k_at 612 (by decide +kernel) (by decide +kernel), k_at 60 (by decide +kernel) (by decide +kernel), ⟨by decide, by decide⟩, by decide +kernel, by decide⟩
theorem cb_T_isStep : CB0 kT_isStep 2 := ⟨k_at 631 (by decide +kernel) (by decide +kernel), k_at 60 (by decide +kernel) (by decide +kernel), ⟨by decide, by decide⟩, by decide +kernel, by decide⟩
theorem cb_T_hasValue : CB0 kT_hasValue 2 := ⟨k_at 671 (by decide +kernel) (by decide +kernel), k_at 60 (by decide +kernel) (by decide +kernel), ⟨by decide, by decide⟩, by decide +kernel, by decide⟩
theorem cb_T_valueAt : CB0 kT_valueAt 2 := ⟨k_at 651 (by decide +kernel) (by decide +kernel), k_at 60 (by decide +kernel) (by decide +kernel), ⟨by decide, by decide⟩, by decide +kernel, by decide⟩
theorem cb_T_adds : CB0 kT_adds 2 := ⟨k_at 616 (by decide +kernel) (by decide +kernel), k_at 60 (by decide +kernel) (by decide +kernel), ⟨by decide, by decide⟩, by decide +kernel, by decide⟩
theorem cb_T_value : CB0 kT_value 2 := ⟨k_at 609 (by decide +kernel) (by decide +kernel), k_at 60 (by decide +kernel) (by decide +kernel), ⟨by decide, by decide⟩, by decide +kernel, by decide⟩
theorem cb_T_gap : CB0 kT_gap 1 := ⟨k_at 623 (by decide +kernel) (by decide +kernel), k_at 60 (by decide +kernel) (by decide +kernel), ⟨by decide, by decide⟩, by decide +kernel, by decide⟩
theorem cb_T_put : CB0 kT_put 3 := ⟨k_at 627 (by decide +kernel) (by decide +kernel), k_at 60 (by decide +kernel) (by decide +kernel), ⟨by decide, by decide⟩, by decide +kernel, by decide⟩
theorem cb_T_clear : CB0 kT_clear 1 := ⟨k_at 635 (by decide +kernel) (by decide +kernel), k_at 60 (by decide +kernel) (by decide +kernel), ⟨by decide, by decide⟩, by decide +kernel, by decide⟩
theorem cb_T_miss : CB0 kT_miss 2 := ⟨k_at 639 (by decide +kernel) (by decide +kernel), k_at 60 (by decide +kernel) (by decide +kernel), ⟨by decide, by decide⟩, by decide +kernel, by decide⟩
theorem cb_T_part : CB0 kT_part 1 := ⟨k_at 643 (by decide +kernel) (by decide +kernel), k_at 60 (by decide +kernel) (by decide +kernel), ⟨by decide, by decide⟩, by decide +kernel, by decide⟩
theorem cb_T_at : CB0 kT_at 2 := ⟨k_at 647 (by decide +kernel) (by decide +kernel), k_at 60 (by decide +kernel) (by decide +kernel), ⟨by decide, by decide⟩, by decide +kernel, by decide⟩
theorem cb_T_isWay : CB0 kT_isWay 2 := ⟨k_at 667 (by decide +kernel) (by decide +kernel), k_at 60 (by decide +kernel) (by decide +kernel), ⟨by decide, by decide⟩, by decide +kernel, by decide⟩
theorem cb_T_wayCost : CB0 kT_wayCost 3 := ⟨k_at 676 (by decide +kernel) (by decide +kernel), k_at 60 (by decide +kernel) (by decide +kernel), ⟨by decide, by decide⟩, by decide +kernel, by decide⟩
theorem cb_T_weighs : CB0 kT_weighs 1 := ⟨k_at 663 (by decide +kernel) (by decide +kernel), k_at 60 (by decide +kernel) (by decide +kernel), ⟨by decide, by decide⟩, by decide +kernel, by decide⟩
theorem cb_T_shapes : CB0 kT_shapes 1 := ⟨k_at 659 (by decide +kernel) (by decide +kernel), k_at 60 (by decide +kernel) (by decide +kernel), ⟨by decide, by decide⟩, by decide +kernel, by decide⟩
theorem cb_T_spans : CB0 kT_spans 1 := ⟨k_at 655 (by decide +kernel) (by decide +kernel), k_at 60 (by decide +kernel) (by decide +kernel), ⟨by decide, by decide⟩, by decide +kernel, by decide⟩
theorem cb_T_cost : CB0 kT_cost 1 := ⟨k_at 680 (by decide +kernel) (by decide +kernel), k_at 60 (by decide +kernel) (by decide +kernel), ⟨by decide, by decide⟩, by decide +kernel, by decide⟩
theorem cb_T_span : CB0 kT_span 3 := ⟨k_at 684 (by decide +kernel) (by decide +kernel), k_at 60 (by decide +kernel) (by decide +kernel), ⟨by decide, by decide⟩, by decide +kernel, by decide⟩
theorem cb_T_kind : CB0 kT_kind 2 := ⟨k_at 688 (by decide +kernel) (by decide +kernel), k_at 60 (by decide +kernel) (by decide +kernel), ⟨by decide, by decide⟩, by decide +kernel, by decide⟩
theorem cb_T_size : CB0 kT_size 1 := ⟨k_at 699 (by decide +kernel) (by decide +kernel), k_at 60 (by decide +kernel) (by decide +kernel), ⟨by decide, by decide⟩, by decide +kernel, by decide⟩
theorem cb_T_turnsIn : CB0 kT_turnsIn 1 := ⟨k_at 696 (by decide +kernel) (by decide +kernel), k_at 60 (by decide +kernel) (by decide +kernel), ⟨by decide, by decide⟩, by decide +kernel, by decide⟩
theorem cb_T_turnsOf : CB0 kT_turnsOf 1 := ⟨k_at 692 (by decide +kernel) (by decide +kernel), k_at 60 (by decide +kernel) (by decide +kernel), ⟨by decide, by decide⟩, by decide +kernel, by decide⟩
theorem cb_T_turn : CB0 kT_turn 2 := ⟨k_at 703 (by decide +kernel) (by decide +kernel), k_at 60 (by decide +kernel) (by decide +kernel), ⟨by decide, by decide⟩, by decide +kernel, by decide⟩
theorem cb_T_sure : CB0 kT_sure 3 := ⟨k_at 707 (by decide +kernel) (by decide +kernel), k_at 60 (by decide +kernel) (by decide +kernel), ⟨by decide, by decide⟩, by decide +kernel, by decide⟩
theorem cb_T_crosses : CB0 kT_crosses 2 := ⟨k_at 715 (by decide +kernel) (by decide +kernel), k_at 60 (by decide +kernel) (by decide +kernel), ⟨by decide, by decide⟩, by decide +kernel, by decide⟩
theorem cb_T_crossings : CB0 kT_crossings 2 := ⟨k_at 711 (by decide +kernel) (by decide +kernel), k_at 60 (by decide +kernel) (by decide +kernel), ⟨by decide, by decide⟩, by decide +kernel, by decide⟩
theorem cb_T_crossing : CB0 kT_crossing 3 := ⟨k_at 720 (by decide +kernel) (by decide +kernel), k_at 60 (by decide +kernel) (by decide +kernel), ⟨by decide, by decide⟩, by decide +kernel, by decide⟩
theorem cb_T_ends : CB0 kT_ends 0 := ⟨k_at 728 (by decide +kernel) (by decide +kernel), k_at 60 (by decide +kernel) (by decide +kernel), ⟨by decide, by decide⟩, by decide +kernel, by decide⟩
theorem cb_T_scale : CB0 kT_scale 2 := ⟨k_at 724 (by decide +kernel) (by decide +kernel), k_at 60 (by decide +kernel) (by decide +kernel), ⟨by decide, by decide⟩, by decide +kernel, by decide⟩
theorem cb_T_height : CB0 kT_height 2 := ⟨k_at 732 (by decide +kernel) (by decide +kernel), k_at 60 (by decide +kernel) (by decide +kernel), ⟨by decide, by decide⟩, by decide +kernel, by decide⟩
theorem cb_T_ear : CB0 kT_ear 2 := ⟨k_at 736 (by decide +kernel) (by decide +kernel), k_at 60 (by decide +kernel) (by decide +kernel), ⟨by decide, by decide⟩, by decide +kernel, by decide⟩
theorem cb_T_worth : CB0 kT_worth 2 := ⟨k_at 740 (by decide +kernel) (by decide +kernel), k_at 60 (by decide +kernel) (by decide +kernel), ⟨by decide, by decide⟩, by decide +kernel, by decide⟩
theorem cb_T_isLaid : CB0 kT_isLaid 1 := ⟨k_at 757 (by decide +kernel) (by decide +kernel), k_at 60 (by decide +kernel) (by decide +kernel), ⟨by decide, by decide⟩, by decide +kernel, by decide⟩
theorem cb_T_slotCost : CB0 kT_slotCost 1 := ⟨k_at 753 (by decide +kernel) (by decide +kernel), k_at 60 (by decide +kernel) (by decide +kernel), ⟨by decide, by decide⟩, by decide +kernel, by decide⟩
theorem cb_T_laying : CB0 kT_laying 1 := ⟨k_at 748 (by decide +kernel) (by decide +kernel), k_at 60 (by decide +kernel) (by decide +kernel), ⟨by decide, by decide⟩, by decide +kernel, by decide⟩
theorem cb_T_lay : CB0 kT_lay 1 := ⟨k_at 744 (by decide +kernel) (by decide +kernel), k_at 60 (by decide +kernel) (by decide +kernel), ⟨by decide, by decide⟩, by decide +kernel, by decide⟩
theorem cb_T_slot : CB0 kT_slot 2 := ⟨k_at 761 (by decide +kernel) (by decide +kernel), k_at 60 (by decide +kernel) (by decide +kernel), ⟨by decide, by decide⟩, by decide +kernel, by decide⟩
theorem cb_T_hears : CB0 kT_hears 3 := ⟨k_at 765 (by decide +kernel) (by decide +kernel), k_at 60 (by decide +kernel) (by decide +kernel), ⟨by decide, by decide⟩, by decide +kernel, by decide⟩
theorem cb_T_ways : CB0 kT_ways 1 := ⟨k_at 773 (by decide +kernel) (by decide +kernel), k_at 60 (by decide +kernel) (by decide +kernel), ⟨by decide, by decide⟩, by decide +kernel, by decide⟩
theorem cb_T_whole : CB0 kT_whole 3 := ⟨k_at 769 (by decide +kernel) (by decide +kernel), k_at 60 (by decide +kernel) (by decide +kernel), ⟨by decide, by decide⟩, by decide +kernel, by decide⟩
theorem cb_T_walk : CB0 kT_walk 2 := ⟨k_at 777 (by decide +kernel) (by decide +kernel), k_at 60 (by decide +kernel) (by decide +kernel), ⟨by decide, by decide⟩, by decide +kernel, by decide⟩
theorem cb_T_where : CB0 kT_where 1 := ⟨k_at 781 (by decide +kernel) (by decide +kernel), k_at 60 (by decide +kernel) (by decide +kernel), ⟨by decide, by decide⟩, by decide +kernel, by decide⟩
theorem cb_T_go : CB0 kT_go 1 := ⟨k_at 785 (by decide +kernel) (by decide +kernel), k_at 60 (by decide +kernel) (by decide +kernel), ⟨by decide, by decide⟩, by decide +kernel, by decide⟩
theorem cb_T_isCross : CB0 kT_isCross 2 := ⟨k_at 797 (by decide +kernel) (by decide +kernel), k_at 60 (by decide +kernel) (by decide +kernel), ⟨by decide, by decide⟩, by decide +kernel, by decide⟩
theorem cb_T_isTurn : CB0 kT_isTurn 2 := ⟨k_at 793 (by decide +kernel) (by decide +kernel), k_at 60 (by decide +kernel) (by decide +kernel), ⟨by decide, by decide⟩, by decide +kernel, by decide⟩
theorem cb_T_seek : CB0 kT_seek 2 := ⟨k_at 789 (by decide +kernel) (by decide +kernel), k_at 60 (by decide +kernel) (by decide +kernel), ⟨by decide, by decide⟩, by decide +kernel, by decide⟩
theorem cb_L_init : CB0 kL_init 0 := ⟨k_at 157 (by decide +kernel) (by decide +kernel), k_at 59 (by decide +kernel) (by decide +kernel), ⟨by decide, by decide⟩, by decide +kernel, by decide⟩
theorem cb_L_find : CB0 kL_find 2 := ⟨k_at 434 (by decide +kernel) (by decide +kernel), k_at 59 (by decide +kernel) (by decide +kernel), ⟨by decide, by decide⟩, by decide +kernel, by decide⟩
theorem cb_L_tryFrom : CB0 kL_tryFrom 2 := ⟨k_at 438 (by decide +kernel) (by decide +kernel), k_at 59 (by decide +kernel) (by decide +kernel), ⟨by decide, by decide⟩, by decide +kernel, by decide⟩
theorem cb_L_isFree : CB0 kL_isFree 2 := ⟨k_at 445 (by decide +kernel) (by decide +kernel), k_at 59 (by decide +kernel) (by decide +kernel), ⟨by decide, by decide⟩, by decide +kernel, by decide⟩
theorem cb_L_isHeard : CB0 kL_isHeard 1 := ⟨k_at 458 (by decide +kernel) (by decide +kernel), k_at 59 (by decide +kernel) (by decide +kernel), ⟨by decide, by decide⟩, by decide +kernel, by decide⟩
theorem cb_M_init : CB0 kM_init 0 := ⟨k_at 142 (by decide +kernel) (by decide +kernel), k_at 58 (by decide +kernel) (by decide +kernel), ⟨by decide, by decide⟩, by decide +kernel, by decide⟩
theorem cb_M_read : CB0 kM_read 2 := ⟨k_at 377 (by decide +kernel) (by decide +kernel), k_at 58 (by decide +kernel) (by decide +kernel), ⟨by decide, by decide⟩, by decide +kernel, by decide⟩
theorem cb_R_init : CB0 kR_init 0 := ⟨k_at 76 (by decide +kernel) (by decide +kernel), k_at 56 (by decide +kernel) (by decide +kernel), ⟨by decide, by decide⟩, by decide +kernel, by decide⟩
theorem cb_R_hasStep : CB0 kR_hasStep 1 := ⟨k_at 249 (by decide +kernel) (by decide +kernel), k_at 56 (by decide +kernel) (by decide +kernel), ⟨by decide, by decide⟩, by decide +kernel, by decide⟩
theorem cb_R_hasValue : CB0 kR_hasValue 1 := ⟨k_at 289 (by decide +kernel) (by decide +kernel), k_at 56 (by decide +kernel) (by decide +kernel), ⟨by decide, by decide⟩, by decide +kernel, by decide⟩
theorem cb_R_hasWay : CB0 kR_hasWay 1 := ⟨k_at 285 (by decide +kernel) (by decide +kernel), k_at 56 (by decide +kernel) (by decide +kernel), ⟨by decide, by decide⟩, by decide +kernel, by decide⟩
theorem cb_R_append : CB0 kR_append 1 := ⟨k_at 237 (by decide +kernel) (by decide +kernel), k_at 56 (by decide +kernel) (by decide +kernel), ⟨by decide, by decide⟩, by decide +kernel, by decide⟩
theorem cb_R_lowest : CB0 kR_lowest 0 := ⟨k_at 394 (by decide +kernel) (by decide +kernel), k_at 56 (by decide +kernel) (by decide +kernel), ⟨by decide, by decide⟩, by decide +kernel, by decide⟩
theorem cb_R_highest : CB0 kR_highest 0 := ⟨k_at 404 (by decide +kernel) (by decide +kernel), k_at 56 (by decide +kernel) (by decide +kernel), ⟨by decide, by decide⟩, by decide +kernel, by decide⟩
theorem cb_S_init : CB0 kS_init 0 := ⟨k_at 102 (by decide +kernel) (by decide +kernel), k_at 57 (by decide +kernel) (by decide +kernel), ⟨by decide, by decide⟩, by decide +kernel, by decide⟩
theorem cb_S_read : CB0 kS_read 2 := ⟨k_at 277 (by decide +kernel) (by decide +kernel), k_at 57 (by decide +kernel) (by decide +kernel), ⟨by decide, by decide⟩, by decide +kernel, by decide⟩
theorem cb_S_weighWays : CB0 kS_weighWays 2 := ⟨k_at 281 (by decide +kernel) (by decide +kernel), k_at 57 (by decide +kernel) (by decide +kernel), ⟨by decide, by decide⟩, by decide +kernel, by decide⟩
theorem cb_S_costOfWay : CB0 kS_costOfWay 2 := ⟨k_at 292 (by decide +kernel) (by decide +kernel), k_at 57 (by decide +kernel) (by decide +kernel), ⟨by decide, by decide⟩, by decide +kernel, by decide⟩
theorem cb_S_costBehind : CB0 kS_costBehind 4 := ⟨k_at 306 (by decide +kernel) (by decide +kernel), k_at 57 (by decide +kernel) (by decide +kernel), ⟨by decide, by decide⟩, by decide +kernel, by decide⟩
theorem cb_S_bestKind : CB0 kS_bestKind 3 := ⟨k_at 302 (by decide +kernel) (by decide +kernel), k_at 57 (by decide +kernel) (by decide +kernel), ⟨by decide, by decide⟩, by decide +kernel, by decide⟩
theorem cb_S_chooseKinds : CB0 kS_chooseKinds 2 := ⟨k_at 310 (by decide +kernel) (by decide +kernel), k_at 57 (by decide +kernel) (by decide +kernel), ⟨by decide, by decide⟩, by decide +kernel, by decide⟩
theorem cb_S_noteWay : CB0 kS_noteWay 3 := ⟨k_at 314 (by decide +kernel) (by decide +kernel), k_at 57 (by decide +kernel) (by decide +kernel), ⟨by decide, by decide⟩, by decide +kernel, by decide⟩
theorem cb_S_findTurns : CB0 kS_findTurns 1 := ⟨k_at 318 (by decide +kernel) (by decide +kernel), k_at 57 (by decide +kernel) (by decide +kernel), ⟨by decide, by decide⟩, by decide +kernel, by decide⟩
theorem cb_S_turnsAtStart : CB0 kS_turnsAtStart 2 := ⟨k_at 322 (by decide +kernel) (by decide +kernel), k_at 57 (by decide +kernel) (by decide +kernel), ⟨by decide, by decide⟩, by decide +kernel, by decide⟩
theorem cb_S_hasSpan : CB0 kS_hasSpan 1 := ⟨k_at 341 (by decide +kernel) (by decide +kernel), k_at 57 (by decide +kernel) (by decide +kernel), ⟨by decide, by decide⟩, by decide +kernel, by decide⟩
theorem cb_S_kindOfSpan : CB0 kS_kindOfSpan 1 := ⟨k_at 326 (by decide +kernel) (by decide +kernel), k_at 57 (by decide +kernel) (by decide +kernel), ⟨by decide, by decide⟩, by decide +kernel, by decide⟩
theorem cb_S_waysOfSpan : CB0 kS_waysOfSpan 1 := ⟨k_at 478 (by decide +kernel) (by decide +kernel), k_at 57 (by decide +kernel) (by decide +kernel), ⟨by decide, by decide⟩, by decide +kernel, by decide⟩
theorem cb_S_allWays : CB0 kS_allWays 0 := ⟨k_at 474 (by decide +kernel) (by decide +kernel), k_at 57 (by decide +kernel) (by decide +kernel), ⟨by decide, by decide⟩, by decide +kernel, by decide⟩
theorem cb_S_beatsOfSpan : CB0 kS_beatsOfSpan 2 := ⟨k_at 470 (by decide +kernel) (by decide +kernel), k_at 57 (by decide +kernel) (by decide +kernel), ⟨by decide, by decide⟩, by decide +kernel, by decide⟩
theorem cg_E_3 : Cond.methodLink "EarChart" 3 Lib.objectInit ∈ ktbl := k_at 68 (by decide +kernel) (by decide +kernel)
theorem cg_E_15 : CGk 2 "EarChart" 15 kR_init 0 := ⟨cb_R_init, Or.inr ⟨"EarChart", k_at 74 (by decide +kernel) (by decide +kernel)⟩, ⟨k_at 75 (by decide +kernel) (by decide +kernel), rfl, rfl⟩⟩
theorem cg_E_18 : CGk 2 "EarChart" 18 kS_init 0 := ⟨cb_S_init, Or.inr ⟨"EarChart", k_at 100 (by decide +kernel) (by decide +kernel)⟩, ⟨k_at 101 (by decide +kernel) (by decide +kernel), rfl, rfl⟩⟩
theorem cg_E_25 : CGk 2 "EarChart" 25 kM_init 0 := ⟨cb_M_init, Or.inr ⟨"EarChart", k_at 140 (by decide +kernel) (by decide +kernel)⟩, ⟨k_at 141 (by decide +kernel) (by decide +kernel), rfl, rfl⟩⟩
theorem cg_E_32 : CGk 2 "EarChart" 32 kL_init 0 := ⟨cb_L_init, Or.inr ⟨"EarChart", k_at 155 (by decide +kernel) (by decide +kernel)⟩, ⟨k_at 156 (by decide +kernel) (by decide +kernel), rfl, rfl⟩⟩
theorem cg_E_60 : CGk 1 "EarChart" 60 kE_rowOf 1 := ⟨cb_E_rowOf, Or.inl (k_at 224 (by decide +kernel) (by decide +kernel)), ⟨k_at 226 (by decide +kernel) (by decide +kernel), k_at 0 (by decide +kernel) (by decide +kernel)⟩⟩
theorem cg_E_64 : CGk 0 "EarChart" 64 kE_isValue 1 := ⟨cb_E_isValue, Or.inl (k_at 231 (by decide +kernel) (by decide +kernel)), k_at 232 (by decide +kernel) (by decide +kernel)⟩
theorem cg_E_68 : CGk 1 "EarChart" 68 kR_append 1 := ⟨cb_R_append, Or.inr ⟨"EarChart", k_at 234 (by decide +kernel) (by decide +kernel)⟩, ⟨k_at 236 (by decide +kernel) (by decide +kernel), k_at 1 (by decide +kernel) (by decide +kernel)⟩⟩
theorem cg_E_72 : CGk 1 "EarChart" 72 kR_hasStep 1 := ⟨cb_R_hasStep, Or.inr ⟨"EarChart", k_at 246 (by decide +kernel) (by decide +kernel)⟩, ⟨k_at 248 (by decide +kernel) (by decide +kernel), k_at 2 (by decide +kernel) (by decide +kernel)⟩⟩
theorem cg_E_82 : CGk 0 "EarChart" 82 kE_within 3 := ⟨cb_E_within, Or.inl (k_at 228 (by decide +kernel) (by decide +kernel)), k_at 229 (by decide +kernel) (by decide +kernel)⟩
theorem cg_E_89 : CGk 1 "EarChart" 89 kE_readShape 1 := ⟨cb_E_readShape, Or.inl (k_at 270 (by decide +kernel) (by decide +kernel)), ⟨k_at 272 (by decide +kernel) (by decide +kernel), k_at 3 (by decide +kernel) (by decide +kernel)⟩⟩
theorem cg_E_98 : CGk 1 "EarChart" 98 kS_hasSpan 1 := ⟨cb_S_hasSpan, Or.inr ⟨"EarChart", k_at 338 (by decide +kernel) (by decide +kernel)⟩, ⟨k_at 340 (by decide +kernel) (by decide +kernel), k_at 15 (by decide +kernel) (by decide +kernel)⟩⟩
theorem cg_E_101 : CGk 1 "EarChart" 101 kS_kindOfSpan 1 := ⟨cb_S_kindOfSpan, Or.inr ⟨"EarChart", k_at 342 (by decide +kernel) (by decide +kernel)⟩, ⟨k_at 325 (by decide +kernel) (by decide +kernel), k_at 14 (by decide +kernel) (by decide +kernel)⟩⟩
theorem cg_E_119 : CGk 0 "EarChart" 119 kE_areTwoRows 2 := ⟨cb_E_areTwoRows, Or.inl (k_at 359 (by decide +kernel) (by decide +kernel)), k_at 360 (by decide +kernel) (by decide +kernel)⟩
theorem cg_E_123 : CGk 0 "EarChart" 123 kE_compareSurely 3 := ⟨cb_E_compareSurely, Or.inl (k_at 362 (by decide +kernel) (by decide +kernel)), k_at 363 (by decide +kernel) (by decide +kernel)⟩
theorem cg_E_127 : CGk 1 "EarChart" 127 kE_readMeeting 2 := ⟨cb_E_readMeeting, Or.inl (k_at 370 (by decide +kernel) (by decide +kernel)), ⟨k_at 372 (by decide +kernel) (by decide +kernel), k_at 16 (by decide +kernel) (by decide +kernel)⟩⟩
theorem cg_E_134 : CGk 1 "EarChart" 134 kE_lowestValue 0 := ⟨cb_E_lowestValue, Or.inl (k_at 387 (by decide +kernel) (by decide +kernel)), ⟨k_at 389 (by decide +kernel) (by decide +kernel), k_at 18 (by decide +kernel) (by decide +kernel)⟩⟩
theorem cg_E_138 : CGk 1 "EarChart" 138 kE_highestValue 0 := ⟨cb_E_highestValue, Or.inl (k_at 397 (by decide +kernel) (by decide +kernel)), ⟨k_at 399 (by decide +kernel) (by decide +kernel), k_at 20 (by decide +kernel) (by decide +kernel)⟩⟩
theorem cg_E_141 : CGk 1 "EarChart" 141 kE_heightAbove 3 := ⟨cb_E_heightAbove, Or.inl (k_at 411 (by decide +kernel) (by decide +kernel)), ⟨k_at 413 (by decide +kernel) (by decide +kernel), k_at 22 (by decide +kernel) (by decide +kernel)⟩⟩
theorem cg_E_148 : CGk 1 "EarChart" 148 kE_readLaying 1 := ⟨cb_E_readLaying, Or.inl (k_at 427 (by decide +kernel) (by decide +kernel)), ⟨k_at 429 (by decide +kernel) (by decide +kernel), k_at 23 (by decide +kernel) (by decide +kernel)⟩⟩
theorem cg_E_154 : CGk 1 "EarChart" 154 kR_hasValue 1 := ⟨cb_R_hasValue, Or.inr ⟨"EarChart", k_at 365 (by decide +kernel) (by decide +kernel)⟩, ⟨k_at 288 (by decide +kernel) (by decide +kernel), k_at 7 (by decide +kernel) (by decide +kernel)⟩⟩
theorem cg_E_160 : CGk 1 "EarChart" 160 kL_isHeard 1 := ⟨cb_L_isHeard, Or.inr ⟨"EarChart", k_at 455 (by decide +kernel) (by decide +kernel)⟩, ⟨k_at 457 (by decide +kernel) (by decide +kernel), k_at 27 (by decide +kernel) (by decide +kernel)⟩⟩
theorem cg_E_163 : CGk 1 "EarChart" 163 kE_soundsAbove 2 := ⟨cb_E_soundsAbove, Or.inl (k_at 459 (by decide +kernel) (by decide +kernel)), ⟨k_at 461 (by decide +kernel) (by decide +kernel), k_at 28 (by decide +kernel) (by decide +kernel)⟩⟩
theorem cg_E_166 : CGk 1 "EarChart" 166 kS_beatsOfSpan 2 := ⟨cb_S_beatsOfSpan, Or.inr ⟨"EarChart", k_at 467 (by decide +kernel) (by decide +kernel)⟩, ⟨k_at 469 (by decide +kernel) (by decide +kernel), k_at 29 (by decide +kernel) (by decide +kernel)⟩⟩
theorem cg_E_170 : CGk 1 "EarChart" 170 kE_markSought 2 := ⟨cb_E_markSought, Or.inl (k_at 495 (by decide +kernel) (by decide +kernel)), ⟨k_at 497 (by decide +kernel) (by decide +kernel), k_at 32 (by decide +kernel) (by decide +kernel)⟩⟩
theorem cg_E_174 : CGk 1 "EarChart" 174 kE_markBehind 1 := ⟨cb_E_markBehind, Or.inl (k_at 507 (by decide +kernel) (by decide +kernel)), ⟨k_at 509 (by decide +kernel) (by decide +kernel), k_at 35 (by decide +kernel) (by decide +kernel)⟩⟩
theorem cg_E_177 : CGk 1 "EarChart" 177 kE_markAhead 1 := ⟨cb_E_markAhead, Or.inl (k_at 511 (by decide +kernel) (by decide +kernel)), ⟨k_at 513 (by decide +kernel) (by decide +kernel), k_at 36 (by decide +kernel) (by decide +kernel)⟩⟩
theorem cg_E_180 : CGk 1 "EarChart" 180 kS_read 2 := ⟨cb_S_read, Or.inr ⟨"EarChart", k_at 274 (by decide +kernel) (by decide +kernel)⟩, ⟨k_at 276 (by decide +kernel) (by decide +kernel), k_at 4 (by decide +kernel) (by decide +kernel)⟩⟩
theorem cg_E_183 : CGk 1 "EarChart" 183 kM_read 2 := ⟨cb_M_read, Or.inr ⟨"EarChart", k_at 374 (by decide +kernel) (by decide +kernel)⟩, ⟨k_at 376 (by decide +kernel) (by decide +kernel), k_at 17 (by decide +kernel) (by decide +kernel)⟩⟩
theorem cg_E_186 : CGk 1 "EarChart" 186 kR_lowest 0 := ⟨cb_R_lowest, Or.inr ⟨"EarChart", k_at 391 (by decide +kernel) (by decide +kernel)⟩, ⟨k_at 393 (by decide +kernel) (by decide +kernel), k_at 19 (by decide +kernel) (by decide +kernel)⟩⟩
theorem cg_E_189 : Cond.methodLink "EarChart" 189 Lib.Math.min.name ∈ ktbl := k_at 396 (by decide +kernel) (by decide +kernel)
theorem cg_E_194 : CGk 1 "EarChart" 194 kR_highest 0 := ⟨cb_R_highest, Or.inr ⟨"EarChart", k_at 401 (by decide +kernel) (by decide +kernel)⟩, ⟨k_at 403 (by decide +kernel) (by decide +kernel), k_at 21 (by decide +kernel) (by decide +kernel)⟩⟩
theorem cg_E_197 : Cond.methodLink "EarChart" 197 Lib.Math.max.name ∈ ktbl := k_at 406 (by decide +kernel) (by decide +kernel)
theorem cg_E_206 : CGk 1 "EarChart" 206 kL_find 2 := ⟨cb_L_find, Or.inr ⟨"EarChart", k_at 431 (by decide +kernel) (by decide +kernel)⟩, ⟨k_at 433 (by decide +kernel) (by decide +kernel), k_at 24 (by decide +kernel) (by decide +kernel)⟩⟩
theorem cg_E_210 : CGk 1 "EarChart" 210 kE_markTurns 1 := ⟨cb_E_markTurns, Or.inl (k_at 499 (by decide +kernel) (by decide +kernel)), ⟨k_at 501 (by decide +kernel) (by decide +kernel), k_at 33 (by decide +kernel) (by decide +kernel)⟩⟩
theorem cg_E_214 : CGk 1 "EarChart" 214 kE_markCrossings 1 := ⟨cb_E_markCrossings, Or.inl (k_at 503 (by decide +kernel) (by decide +kernel)), ⟨k_at 505 (by decide +kernel) (by decide +kernel), k_at 34 (by decide +kernel) (by decide +kernel)⟩⟩
theorem cg_T_1 : Cond.methodLink "EarChartModel" 1 Lib.objectInit ∈ ktbl := k_at 520 (by decide +kernel) (by decide +kernel)
theorem cg_T_72 : CGk 0 "EarChartModel" 72 kT_isRow 1 := ⟨cb_T_isRow, Or.inl (k_at 617 (by decide +kernel) (by decide +kernel)), k_at 618 (by decide +kernel) (by decide +kernel)⟩
theorem cg_T_76 : CGk 1 "EarChartModel" 76 kT_isStep 2 := ⟨cb_T_isStep, Or.inl (k_at 628 (by decide +kernel) (by decide +kernel)), ⟨k_at 630 (by decide +kernel) (by decide +kernel), k_at 38 (by decide +kernel) (by decide +kernel)⟩⟩
theorem cg_T_80 : CGk 0 "EarChartModel" 80 kT_isIn 3 := ⟨cb_T_isIn, Or.inl (k_at 610 (by decide +kernel) (by decide +kernel)), k_at 611 (by decide +kernel) (by decide +kernel)⟩
theorem cg_T_84 : CGk 1 "EarChartModel" 84 kT_adds 2 := ⟨cb_T_adds, Or.inl (k_at 613 (by decide +kernel) (by decide +kernel)), ⟨k_at 615 (by decide +kernel) (by decide +kernel), k_at 37 (by decide +kernel) (by decide +kernel)⟩⟩
theorem cg_T_88 : CGk 1 "EarChartModel" 88 kT_valueAt 2 := ⟨cb_T_valueAt, Or.inl (k_at 648 (by decide +kernel) (by decide +kernel)), ⟨k_at 650 (by decide +kernel) (by decide +kernel), k_at 39 (by decide +kernel) (by decide +kernel)⟩⟩
theorem cg_T_91 : CGk 1 "EarChartModel" 91 kT_hasValue 2 := ⟨cb_T_hasValue, Or.inl (k_at 668 (by decide +kernel) (by decide +kernel)), ⟨k_at 670 (by decide +kernel) (by decide +kernel), k_at 43 (by decide +kernel) (by decide +kernel)⟩⟩
theorem cg_T_94 : CGk 1 "EarChartModel" 94 kT_isWay 2 := ⟨cb_T_isWay, Or.inl (k_at 664 (by decide +kernel) (by decide +kernel)), ⟨k_at 666 (by decide +kernel) (by decide +kernel), k_at 42 (by decide +kernel) (by decide +kernel)⟩⟩
theorem cg_T_98 : CGk 1 "EarChartModel" 98 kT_wayCost 3 := ⟨cb_T_wayCost, Or.inl (k_at 673 (by decide +kernel) (by decide +kernel)), ⟨k_at 675 (by decide +kernel) (by decide +kernel), k_at 44 (by decide +kernel) (by decide +kernel)⟩⟩
theorem cg_T_102 : CGk 1 "EarChartModel" 102 kT_weighs 1 := ⟨cb_T_weighs, Or.inl (k_at 660 (by decide +kernel) (by decide +kernel)), ⟨k_at 662 (by decide +kernel) (by decide +kernel), k_at 41 (by decide +kernel) (by decide +kernel)⟩⟩
theorem cg_T_112 : CGk 1 "EarChartModel" 112 kT_shapes 1 := ⟨cb_T_shapes, Or.inl (k_at 656 (by decide +kernel) (by decide +kernel)), ⟨k_at 658 (by decide +kernel) (by decide +kernel), k_at 40 (by decide +kernel) (by decide +kernel)⟩⟩
theorem cg_T_118 : CGk 0 "EarChartModel" 118 kT_size 1 := ⟨cb_T_size, Or.inl (k_at 697 (by decide +kernel) (by decide +kernel)), k_at 698 (by decide +kernel) (by decide +kernel)⟩
theorem cg_T_122 : CGk 1 "EarChartModel" 122 kT_turnsIn 1 := ⟨cb_T_turnsIn, Or.inl (k_at 693 (by decide +kernel) (by decide +kernel)), ⟨k_at 695 (by decide +kernel) (by decide +kernel), k_at 45 (by decide +kernel) (by decide +kernel)⟩⟩
theorem cg_T_128 : CGk 1 "EarChartModel" 128 kT_sure 3 := ⟨cb_T_sure, Or.inl (k_at 716 (by decide +kernel) (by decide +kernel)), ⟨k_at 705 (by decide +kernel) (by decide +kernel), k_at 706 (by decide +kernel) (by decide +kernel)⟩⟩
theorem cg_T_131 : CGk 1 "EarChartModel" 131 kT_crosses 2 := ⟨cb_T_crosses, Or.inl (k_at 712 (by decide +kernel) (by decide +kernel)), ⟨k_at 714 (by decide +kernel) (by decide +kernel), k_at 46 (by decide +kernel) (by decide +kernel)⟩⟩
theorem cg_T_141 : CGk 1 "EarChartModel" 141 kT_ends 0 := ⟨cb_T_ends, Or.inl (k_at 725 (by decide +kernel) (by decide +kernel)), ⟨k_at 727 (by decide +kernel) (by decide +kernel), k_at 47 (by decide +kernel) (by decide +kernel)⟩⟩
theorem cg_T_148 : CGk 1 "EarChartModel" 148 kT_height 2 := ⟨cb_T_height, Or.inl (k_at 749 (by decide +kernel) (by decide +kernel)), ⟨k_at 730 (by decide +kernel) (by decide +kernel), k_at 731 (by decide +kernel) (by decide +kernel)⟩⟩
theorem cg_T_151 : CGk 1 "EarChartModel" 151 kT_slotCost 1 := ⟨cb_T_slotCost, Or.inl (k_at 750 (by decide +kernel) (by decide +kernel)), ⟨k_at 752 (by decide +kernel) (by decide +kernel), k_at 49 (by decide +kernel) (by decide +kernel)⟩⟩
theorem cg_T_154 : CGk 1 "EarChartModel" 154 kT_isLaid 1 := ⟨cb_T_isLaid, Or.inl (k_at 754 (by decide +kernel) (by decide +kernel)), ⟨k_at 756 (by decide +kernel) (by decide +kernel), k_at 50 (by decide +kernel) (by decide +kernel)⟩⟩
theorem cg_T_157 : CGk 1 "EarChartModel" 157 kT_laying 1 := ⟨cb_T_laying, Or.inl (k_at 745 (by decide +kernel) (by decide +kernel)), ⟨k_at 747 (by decide +kernel) (by decide +kernel), k_at 48 (by decide +kernel) (by decide +kernel)⟩⟩
theorem cg_T_160 : CGk 1 "EarChartModel" 160 kT_ways 1 := ⟨cb_T_ways, Or.inl (k_at 770 (by decide +kernel) (by decide +kernel)), ⟨k_at 772 (by decide +kernel) (by decide +kernel), k_at 51 (by decide +kernel) (by decide +kernel)⟩⟩
theorem cg_T_166 : CGk 1 "EarChartModel" 166 kT_isTurn 2 := ⟨cb_T_isTurn, Or.inl (k_at 790 (by decide +kernel) (by decide +kernel)), ⟨k_at 792 (by decide +kernel) (by decide +kernel), k_at 52 (by decide +kernel) (by decide +kernel)⟩⟩
theorem cg_T_169 : CGk 1 "EarChartModel" 169 kT_isCross 2 := ⟨cb_T_isCross, Or.inl (k_at 794 (by decide +kernel) (by decide +kernel)), ⟨k_at 796 (by decide +kernel) (by decide +kernel), k_at 53 (by decide +kernel) (by decide +kernel)⟩⟩
theorem cg_L_3 : Cond.methodLink "EarChart$Laying" 3 Lib.objectInit ∈ ktbl := k_at 158 (by decide +kernel) (by decide +kernel)
theorem cg_L_34 : CGk 1 "EarChart$Laying" 34 kL_tryFrom 2 := ⟨cb_L_tryFrom, Or.inl (k_at 435 (by decide +kernel) (by decide +kernel)), ⟨k_at 437 (by decide +kernel) (by decide +kernel), k_at 25 (by decide +kernel) (by decide +kernel)⟩⟩
theorem cg_L_38 : Cond.methodLink "EarChart$Laying" 38 arraycopyName ∈ ktbl := k_at 439 (by decide +kernel) (by decide +kernel)
theorem cg_L_44 : CGk 1 "EarChart$Laying" 44 kL_isFree 2 := ⟨cb_L_isFree, Or.inl (k_at 442 (by decide +kernel) (by decide +kernel)), ⟨k_at 444 (by decide +kernel) (by decide +kernel), k_at 26 (by decide +kernel) (by decide +kernel)⟩⟩
theorem cg_L_48 : Cond.methodLink "EarChart$Laying" 48 Lib.Math.abs.name ∈ ktbl := k_at 446 (by decide +kernel) (by decide +kernel)
theorem cg_M_3 : Cond.methodLink "EarChart$Meeting" 3 Lib.objectInit ∈ ktbl := k_at 143 (by decide +kernel) (by decide +kernel)
theorem cg_M_19 : CGk 0 "EarChart$Meeting" 19 kE_compareSurely 3 := ⟨cb_E_compareSurely, Or.inr ⟨"EarChart", k_at 378 (by decide +kernel) (by decide +kernel)⟩, k_at 363 (by decide +kernel) (by decide +kernel)⟩
theorem cg_R_3 : Cond.methodLink "EarChart$Row" 3 Lib.objectInit ∈ ktbl := k_at 77 (by decide +kernel) (by decide +kernel)
theorem cg_R_25 : CGk 1 "EarChart$Row" 25 kR_hasValue 1 := ⟨cb_R_hasValue, Or.inl (k_at 286 (by decide +kernel) (by decide +kernel)), ⟨k_at 288 (by decide +kernel) (by decide +kernel), k_at 7 (by decide +kernel) (by decide +kernel)⟩⟩
theorem cg_R_29 : Cond.methodLink "EarChart$Row" 29 Lib.Math.min.name ∈ ktbl := k_at 395 (by decide +kernel) (by decide +kernel)
theorem cg_R_35 : Cond.methodLink "EarChart$Row" 35 Lib.Math.max.name ∈ ktbl := k_at 405 (by decide +kernel) (by decide +kernel)
theorem cg_S_3 : Cond.methodLink "EarChart$Shape" 3 Lib.objectInit ∈ ktbl := k_at 103 (by decide +kernel) (by decide +kernel)
theorem cg_S_39 : CGk 1 "EarChart$Shape" 39 kS_weighWays 2 := ⟨cb_S_weighWays, Or.inl (k_at 278 (by decide +kernel) (by decide +kernel)), ⟨k_at 280 (by decide +kernel) (by decide +kernel), k_at 5 (by decide +kernel) (by decide +kernel)⟩⟩
theorem cg_S_43 : CGk 1 "EarChart$Shape" 43 kS_chooseKinds 2 := ⟨cb_S_chooseKinds, Or.inl (k_at 307 (by decide +kernel) (by decide +kernel)), ⟨k_at 309 (by decide +kernel) (by decide +kernel), k_at 10 (by decide +kernel) (by decide +kernel)⟩⟩
theorem cg_S_46 : CGk 1 "EarChart$Shape" 46 kS_findTurns 1 := ⟨cb_S_findTurns, Or.inl (k_at 315 (by decide +kernel) (by decide +kernel)), ⟨k_at 317 (by decide +kernel) (by decide +kernel), k_at 12 (by decide +kernel) (by decide +kernel)⟩⟩
theorem cg_S_50 : CGk 1 "EarChart$Shape" 50 kR_hasWay 1 := ⟨cb_R_hasWay, Or.inr ⟨"EarChart", k_at 282 (by decide +kernel) (by decide +kernel)⟩, ⟨k_at 284 (by decide +kernel) (by decide +kernel), k_at 6 (by decide +kernel) (by decide +kernel)⟩⟩
theorem cg_S_59 : CGk 0 "EarChart$Shape" 59 kS_costOfWay 2 := ⟨cb_S_costOfWay, Or.inl (k_at 290 (by decide +kernel) (by decide +kernel)), k_at 291 (by decide +kernel) (by decide +kernel)⟩
theorem cg_S_63 : CGk 1 "EarChart$Shape" 63 kS_bestKind 3 := ⟨cb_S_bestKind, Or.inl (k_at 299 (by decide +kernel) (by decide +kernel)), ⟨k_at 301 (by decide +kernel) (by decide +kernel), k_at 8 (by decide +kernel) (by decide +kernel)⟩⟩
theorem cg_S_67 : CGk 1 "EarChart$Shape" 67 kS_costBehind 4 := ⟨cb_S_costBehind, Or.inl (k_at 303 (by decide +kernel) (by decide +kernel)), ⟨k_at 305 (by decide +kernel) (by decide +kernel), k_at 9 (by decide +kernel) (by decide +kernel)⟩⟩
theorem cg_S_71 : Cond.methodLink "EarChart$Shape" 71 Lib.Math.max.name ∈ ktbl := k_at 293 (by decide +kernel) (by decide +kernel)
theorem cg_S_76 : Cond.methodLink "EarChart$Shape" 76 Lib.Math.abs.name ∈ ktbl := k_at 296 (by decide +kernel) (by decide +kernel)
theorem cg_S_80 : CGk 1 "EarChart$Shape" 80 kS_noteWay 3 := ⟨cb_S_noteWay, Or.inl (k_at 311 (by decide +kernel) (by decide +kernel)), ⟨k_at 313 (by decide +kernel) (by decide +kernel), k_at 11 (by decide +kernel) (by decide +kernel)⟩⟩
theorem cg_S_84 : CGk 1 "EarChart$Shape" 84 kS_turnsAtStart 2 := ⟨cb_S_turnsAtStart, Or.inl (k_at 319 (by decide +kernel) (by decide +kernel)), ⟨k_at 321 (by decide +kernel) (by decide +kernel), k_at 13 (by decide +kernel) (by decide +kernel)⟩⟩
theorem cg_S_88 : CGk 1 "EarChart$Shape" 88 kS_kindOfSpan 1 := ⟨cb_S_kindOfSpan, Or.inl (k_at 323 (by decide +kernel) (by decide +kernel)), ⟨k_at 325 (by decide +kernel) (by decide +kernel), k_at 14 (by decide +kernel) (by decide +kernel)⟩⟩
theorem cg_S_91 : Cond.methodLink "EarChart$Shape" 91 Lib.Math.min.name ∈ ktbl := k_at 327 (by decide +kernel) (by decide +kernel)
theorem cg_S_97 : CGk 1 "EarChart$Shape" 97 kS_waysOfSpan 1 := ⟨cb_S_waysOfSpan, Or.inl (k_at 475 (by decide +kernel) (by decide +kernel)), ⟨k_at 477 (by decide +kernel) (by decide +kernel), k_at 31 (by decide +kernel) (by decide +kernel)⟩⟩
theorem cg_S_100 : CGk 1 "EarChart$Shape" 100 kS_allWays 0 := ⟨cb_S_allWays, Or.inl (k_at 471 (by decide +kernel) (by decide +kernel)), ⟨k_at 473 (by decide +kernel) (by decide +kernel), k_at 30 (by decide +kernel) (by decide +kernel)⟩⟩
theorem cg_Law_9 : CGk 2 "EarChartLaw" 9 kE_init 0 := ⟨cb_E_init, Or.inl (k_at 65 (by decide +kernel) (by decide +kernel)), ⟨k_at 66 (by decide +kernel) (by decide +kernel), rfl, rfl⟩⟩
theorem cg_Law_12 : CGk 2 "EarChartLaw" 12 kT_init 0 := ⟨cb_T_init, Or.inl (k_at 517 (by decide +kernel) (by decide +kernel)), ⟨k_at 518 (by decide +kernel) (by decide +kernel), rfl, rfl⟩⟩
theorem cg_Law_13 : CGk 1 "EarChartLaw" 13 kE_value 2 := ⟨cb_E_value, Or.inl (k_at 220 (by decide +kernel) (by decide +kernel)), ⟨k_at 221 (by decide +kernel) (by decide +kernel), k_at 222 (by decide +kernel) (by decide +kernel)⟩⟩
theorem cg_Law_17 : CGk 1 "EarChartLaw" 17 kT_value 2 := ⟨cb_T_value, Or.inl (k_at 606 (by decide +kernel) (by decide +kernel)), ⟨k_at 607 (by decide +kernel) (by decide +kernel), k_at 608 (by decide +kernel) (by decide +kernel)⟩⟩
theorem cg_Law_18 : CGk 1 "EarChartLaw" 18 kE_gap 1 := ⟨cb_E_gap, Or.inl (k_at 238 (by decide +kernel) (by decide +kernel)), ⟨k_at 239 (by decide +kernel) (by decide +kernel), k_at 240 (by decide +kernel) (by decide +kernel)⟩⟩
theorem cg_Law_22 : CGk 1 "EarChartLaw" 22 kT_gap 1 := ⟨cb_T_gap, Or.inl (k_at 620 (by decide +kernel) (by decide +kernel)), ⟨k_at 621 (by decide +kernel) (by decide +kernel), k_at 622 (by decide +kernel) (by decide +kernel)⟩⟩
theorem cg_Law_23 : CGk 1 "EarChartLaw" 23 kE_put 3 := ⟨cb_E_put, Or.inl (k_at 242 (by decide +kernel) (by decide +kernel)), ⟨k_at 243 (by decide +kernel) (by decide +kernel), k_at 244 (by decide +kernel) (by decide +kernel)⟩⟩
theorem cg_Law_27 : CGk 1 "EarChartLaw" 27 kT_put 3 := ⟨cb_T_put, Or.inl (k_at 624 (by decide +kernel) (by decide +kernel)), ⟨k_at 625 (by decide +kernel) (by decide +kernel), k_at 626 (by decide +kernel) (by decide +kernel)⟩⟩
theorem cg_Law_28 : CGk 1 "EarChartLaw" 28 kE_clear 1 := ⟨cb_E_clear, Or.inl (k_at 250 (by decide +kernel) (by decide +kernel)), ⟨k_at 251 (by decide +kernel) (by decide +kernel), k_at 252 (by decide +kernel) (by decide +kernel)⟩⟩
theorem cg_Law_31 : CGk 1 "EarChartLaw" 31 kT_clear 1 := ⟨cb_T_clear, Or.inl (k_at 632 (by decide +kernel) (by decide +kernel)), ⟨k_at 633 (by decide +kernel) (by decide +kernel), k_at 634 (by decide +kernel) (by decide +kernel)⟩⟩
theorem cg_Law_32 : CGk 1 "EarChartLaw" 32 kE_miss 2 := ⟨cb_E_miss, Or.inl (k_at 254 (by decide +kernel) (by decide +kernel)), ⟨k_at 255 (by decide +kernel) (by decide +kernel), k_at 256 (by decide +kernel) (by decide +kernel)⟩⟩
theorem cg_Law_35 : CGk 1 "EarChartLaw" 35 kT_miss 2 := ⟨cb_T_miss, Or.inl (k_at 636 (by decide +kernel) (by decide +kernel)), ⟨k_at 637 (by decide +kernel) (by decide +kernel), k_at 638 (by decide +kernel) (by decide +kernel)⟩⟩
theorem cg_Law_36 : CGk 1 "EarChartLaw" 36 kE_part 1 := ⟨cb_E_part, Or.inl (k_at 258 (by decide +kernel) (by decide +kernel)), ⟨k_at 259 (by decide +kernel) (by decide +kernel), k_at 260 (by decide +kernel) (by decide +kernel)⟩⟩
theorem cg_Law_39 : CGk 1 "EarChartLaw" 39 kT_part 1 := ⟨cb_T_part, Or.inl (k_at 640 (by decide +kernel) (by decide +kernel)), ⟨k_at 641 (by decide +kernel) (by decide +kernel), k_at 642 (by decide +kernel) (by decide +kernel)⟩⟩
theorem cg_Law_40 : CGk 1 "EarChartLaw" 40 kE_at 2 := ⟨cb_E_at, Or.inl (k_at 262 (by decide +kernel) (by decide +kernel)), ⟨k_at 263 (by decide +kernel) (by decide +kernel), k_at 264 (by decide +kernel) (by decide +kernel)⟩⟩
theorem cg_Law_43 : CGk 1 "EarChartLaw" 43 kT_at 2 := ⟨cb_T_at, Or.inl (k_at 644 (by decide +kernel) (by decide +kernel)), ⟨k_at 645 (by decide +kernel) (by decide +kernel), k_at 646 (by decide +kernel) (by decide +kernel)⟩⟩
theorem cg_Law_44 : CGk 1 "EarChartLaw" 44 kE_spans 1 := ⟨cb_E_spans, Or.inl (k_at 266 (by decide +kernel) (by decide +kernel)), ⟨k_at 267 (by decide +kernel) (by decide +kernel), k_at 268 (by decide +kernel) (by decide +kernel)⟩⟩
theorem cg_Law_47 : CGk 1 "EarChartLaw" 47 kT_spans 1 := ⟨cb_T_spans, Or.inl (k_at 652 (by decide +kernel) (by decide +kernel)), ⟨k_at 653 (by decide +kernel) (by decide +kernel), k_at 654 (by decide +kernel) (by decide +kernel)⟩⟩
theorem cg_Law_48 : CGk 1 "EarChartLaw" 48 kE_cost 1 := ⟨cb_E_cost, Or.inl (k_at 330 (by decide +kernel) (by decide +kernel)), ⟨k_at 331 (by decide +kernel) (by decide +kernel), k_at 332 (by decide +kernel) (by decide +kernel)⟩⟩
theorem cg_Law_51 : CGk 1 "EarChartLaw" 51 kT_cost 1 := ⟨cb_T_cost, Or.inl (k_at 677 (by decide +kernel) (by decide +kernel)), ⟨k_at 678 (by decide +kernel) (by decide +kernel), k_at 679 (by decide +kernel) (by decide +kernel)⟩⟩
theorem cg_Law_52 : CGk 1 "EarChartLaw" 52 kE_span 3 := ⟨cb_E_span, Or.inl (k_at 334 (by decide +kernel) (by decide +kernel)), ⟨k_at 335 (by decide +kernel) (by decide +kernel), k_at 336 (by decide +kernel) (by decide +kernel)⟩⟩
theorem cg_Law_56 : CGk 1 "EarChartLaw" 56 kT_span 3 := ⟨cb_T_span, Or.inl (k_at 681 (by decide +kernel) (by decide +kernel)), ⟨k_at 682 (by decide +kernel) (by decide +kernel), k_at 683 (by decide +kernel) (by decide +kernel)⟩⟩
theorem cg_Law_57 : CGk 1 "EarChartLaw" 57 kE_kind 2 := ⟨cb_E_kind, Or.inl (k_at 343 (by decide +kernel) (by decide +kernel)), ⟨k_at 344 (by decide +kernel) (by decide +kernel), k_at 345 (by decide +kernel) (by decide +kernel)⟩⟩
theorem cg_Law_60 : CGk 1 "EarChartLaw" 60 kT_kind 2 := ⟨cb_T_kind, Or.inl (k_at 685 (by decide +kernel) (by decide +kernel)), ⟨k_at 686 (by decide +kernel) (by decide +kernel), k_at 687 (by decide +kernel) (by decide +kernel)⟩⟩
theorem cg_Law_61 : CGk 1 "EarChartLaw" 61 kE_turnsOf 1 := ⟨cb_E_turnsOf, Or.inl (k_at 347 (by decide +kernel) (by decide +kernel)), ⟨k_at 348 (by decide +kernel) (by decide +kernel), k_at 349 (by decide +kernel) (by decide +kernel)⟩⟩
theorem cg_Law_64 : CGk 1 "EarChartLaw" 64 kT_turnsOf 1 := ⟨cb_T_turnsOf, Or.inl (k_at 689 (by decide +kernel) (by decide +kernel)), ⟨k_at 690 (by decide +kernel) (by decide +kernel), k_at 691 (by decide +kernel) (by decide +kernel)⟩⟩
theorem cg_Law_65 : CGk 1 "EarChartLaw" 65 kE_turn 2 := ⟨cb_E_turn, Or.inl (k_at 351 (by decide +kernel) (by decide +kernel)), ⟨k_at 352 (by decide +kernel) (by decide +kernel), k_at 353 (by decide +kernel) (by decide +kernel)⟩⟩
theorem cg_Law_68 : CGk 1 "EarChartLaw" 68 kT_turn 2 := ⟨cb_T_turn, Or.inl (k_at 700 (by decide +kernel) (by decide +kernel)), ⟨k_at 701 (by decide +kernel) (by decide +kernel), k_at 702 (by decide +kernel) (by decide +kernel)⟩⟩
theorem cg_Law_69 : CGk 1 "EarChartLaw" 69 kE_sure 3 := ⟨cb_E_sure, Or.inl (k_at 355 (by decide +kernel) (by decide +kernel)), ⟨k_at 356 (by decide +kernel) (by decide +kernel), k_at 357 (by decide +kernel) (by decide +kernel)⟩⟩
theorem cg_Law_72 : CGk 1 "EarChartLaw" 72 kT_sure 3 := ⟨cb_T_sure, Or.inl (k_at 704 (by decide +kernel) (by decide +kernel)), ⟨k_at 705 (by decide +kernel) (by decide +kernel), k_at 706 (by decide +kernel) (by decide +kernel)⟩⟩
theorem cg_Law_73 : CGk 1 "EarChartLaw" 73 kE_crossings 2 := ⟨cb_E_crossings, Or.inl (k_at 366 (by decide +kernel) (by decide +kernel)), ⟨k_at 367 (by decide +kernel) (by decide +kernel), k_at 368 (by decide +kernel) (by decide +kernel)⟩⟩
theorem cg_Law_76 : CGk 1 "EarChartLaw" 76 kT_crossings 2 := ⟨cb_T_crossings, Or.inl (k_at 708 (by decide +kernel) (by decide +kernel)), ⟨k_at 709 (by decide +kernel) (by decide +kernel), k_at 710 (by decide +kernel) (by decide +kernel)⟩⟩
theorem cg_Law_77 : CGk 1 "EarChartLaw" 77 kE_crossing 3 := ⟨cb_E_crossing, Or.inl (k_at 379 (by decide +kernel) (by decide +kernel)), ⟨k_at 380 (by decide +kernel) (by decide +kernel), k_at 381 (by decide +kernel) (by decide +kernel)⟩⟩
theorem cg_Law_80 : CGk 1 "EarChartLaw" 80 kT_crossing 3 := ⟨cb_T_crossing, Or.inl (k_at 717 (by decide +kernel) (by decide +kernel)), ⟨k_at 718 (by decide +kernel) (by decide +kernel), k_at 719 (by decide +kernel) (by decide +kernel)⟩⟩
theorem cg_Law_81 : CGk 1 "EarChartLaw" 81 kE_scale 2 := ⟨cb_E_scale, Or.inl (k_at 383 (by decide +kernel) (by decide +kernel)), ⟨k_at 384 (by decide +kernel) (by decide +kernel), k_at 385 (by decide +kernel) (by decide +kernel)⟩⟩
theorem cg_Law_84 : CGk 1 "EarChartLaw" 84 kT_scale 2 := ⟨cb_T_scale, Or.inl (k_at 721 (by decide +kernel) (by decide +kernel)), ⟨k_at 722 (by decide +kernel) (by decide +kernel), k_at 723 (by decide +kernel) (by decide +kernel)⟩⟩
theorem cg_Law_85 : CGk 1 "EarChartLaw" 85 kE_height 2 := ⟨cb_E_height, Or.inl (k_at 407 (by decide +kernel) (by decide +kernel)), ⟨k_at 408 (by decide +kernel) (by decide +kernel), k_at 409 (by decide +kernel) (by decide +kernel)⟩⟩
theorem cg_Law_88 : CGk 1 "EarChartLaw" 88 kT_height 2 := ⟨cb_T_height, Or.inl (k_at 729 (by decide +kernel) (by decide +kernel)), ⟨k_at 730 (by decide +kernel) (by decide +kernel), k_at 731 (by decide +kernel) (by decide +kernel)⟩⟩
theorem cg_Law_89 : CGk 1 "EarChartLaw" 89 kE_ear 2 := ⟨cb_E_ear, Or.inl (k_at 415 (by decide +kernel) (by decide +kernel)), ⟨k_at 416 (by decide +kernel) (by decide +kernel), k_at 417 (by decide +kernel) (by decide +kernel)⟩⟩
theorem cg_Law_93 : CGk 1 "EarChartLaw" 93 kT_ear 2 := ⟨cb_T_ear, Or.inl (k_at 733 (by decide +kernel) (by decide +kernel)), ⟨k_at 734 (by decide +kernel) (by decide +kernel), k_at 735 (by decide +kernel) (by decide +kernel)⟩⟩
theorem cg_Law_94 : CGk 1 "EarChartLaw" 94 kE_worth 2 := ⟨cb_E_worth, Or.inl (k_at 419 (by decide +kernel) (by decide +kernel)), ⟨k_at 420 (by decide +kernel) (by decide +kernel), k_at 421 (by decide +kernel) (by decide +kernel)⟩⟩
theorem cg_Law_97 : CGk 1 "EarChartLaw" 97 kT_worth 2 := ⟨cb_T_worth, Or.inl (k_at 737 (by decide +kernel) (by decide +kernel)), ⟨k_at 738 (by decide +kernel) (by decide +kernel), k_at 739 (by decide +kernel) (by decide +kernel)⟩⟩
theorem cg_Law_98 : CGk 1 "EarChartLaw" 98 kE_lay 1 := ⟨cb_E_lay, Or.inl (k_at 423 (by decide +kernel) (by decide +kernel)), ⟨k_at 424 (by decide +kernel) (by decide +kernel), k_at 425 (by decide +kernel) (by decide +kernel)⟩⟩
theorem cg_Law_101 : CGk 1 "EarChartLaw" 101 kT_lay 1 := ⟨cb_T_lay, Or.inl (k_at 741 (by decide +kernel) (by decide +kernel)), ⟨k_at 742 (by decide +kernel) (by decide +kernel), k_at 743 (by decide +kernel) (by decide +kernel)⟩⟩
theorem cg_Law_102 : CGk 1 "EarChartLaw" 102 kE_slot 2 := ⟨cb_E_slot, Or.inl (k_at 447 (by decide +kernel) (by decide +kernel)), ⟨k_at 448 (by decide +kernel) (by decide +kernel), k_at 449 (by decide +kernel) (by decide +kernel)⟩⟩
theorem cg_Law_105 : CGk 1 "EarChartLaw" 105 kT_slot 2 := ⟨cb_T_slot, Or.inl (k_at 758 (by decide +kernel) (by decide +kernel)), ⟨k_at 759 (by decide +kernel) (by decide +kernel), k_at 760 (by decide +kernel) (by decide +kernel)⟩⟩
theorem cg_Law_106 : CGk 1 "EarChartLaw" 106 kE_hears 3 := ⟨cb_E_hears, Or.inl (k_at 451 (by decide +kernel) (by decide +kernel)), ⟨k_at 452 (by decide +kernel) (by decide +kernel), k_at 453 (by decide +kernel) (by decide +kernel)⟩⟩
theorem cg_Law_109 : CGk 1 "EarChartLaw" 109 kT_hears 3 := ⟨cb_T_hears, Or.inl (k_at 762 (by decide +kernel) (by decide +kernel)), ⟨k_at 763 (by decide +kernel) (by decide +kernel), k_at 764 (by decide +kernel) (by decide +kernel)⟩⟩
theorem cg_Law_110 : CGk 1 "EarChartLaw" 110 kE_whole 3 := ⟨cb_E_whole, Or.inl (k_at 463 (by decide +kernel) (by decide +kernel)), ⟨k_at 464 (by decide +kernel) (by decide +kernel), k_at 465 (by decide +kernel) (by decide +kernel)⟩⟩
theorem cg_Law_113 : CGk 1 "EarChartLaw" 113 kT_whole 3 := ⟨cb_T_whole, Or.inl (k_at 766 (by decide +kernel) (by decide +kernel)), ⟨k_at 767 (by decide +kernel) (by decide +kernel), k_at 768 (by decide +kernel) (by decide +kernel)⟩⟩
theorem cg_Law_114 : CGk 1 "EarChartLaw" 114 kE_walk 2 := ⟨cb_E_walk, Or.inl (k_at 479 (by decide +kernel) (by decide +kernel)), ⟨k_at 480 (by decide +kernel) (by decide +kernel), k_at 481 (by decide +kernel) (by decide +kernel)⟩⟩
theorem cg_Law_117 : CGk 1 "EarChartLaw" 117 kT_walk 2 := ⟨cb_T_walk, Or.inl (k_at 774 (by decide +kernel) (by decide +kernel)), ⟨k_at 775 (by decide +kernel) (by decide +kernel), k_at 776 (by decide +kernel) (by decide +kernel)⟩⟩
theorem cg_Law_118 : CGk 1 "EarChartLaw" 118 kE_where 1 := ⟨cb_E_where, Or.inl (k_at 483 (by decide +kernel) (by decide +kernel)), ⟨k_at 484 (by decide +kernel) (by decide +kernel), k_at 485 (by decide +kernel) (by decide +kernel)⟩⟩
theorem cg_Law_121 : CGk 1 "EarChartLaw" 121 kT_where 1 := ⟨cb_T_where, Or.inl (k_at 778 (by decide +kernel) (by decide +kernel)), ⟨k_at 779 (by decide +kernel) (by decide +kernel), k_at 780 (by decide +kernel) (by decide +kernel)⟩⟩
theorem cg_Law_122 : CGk 1 "EarChartLaw" 122 kE_go 1 := ⟨cb_E_go, Or.inl (k_at 487 (by decide +kernel) (by decide +kernel)), ⟨k_at 488 (by decide +kernel) (by decide +kernel), k_at 489 (by decide +kernel) (by decide +kernel)⟩⟩
theorem cg_Law_126 : CGk 1 "EarChartLaw" 126 kT_go 1 := ⟨cb_T_go, Or.inl (k_at 782 (by decide +kernel) (by decide +kernel)), ⟨k_at 783 (by decide +kernel) (by decide +kernel), k_at 784 (by decide +kernel) (by decide +kernel)⟩⟩
theorem cg_Law_127 : CGk 1 "EarChartLaw" 127 kE_seek 2 := ⟨cb_E_seek, Or.inl (k_at 491 (by decide +kernel) (by decide +kernel)), ⟨k_at 492 (by decide +kernel) (by decide +kernel), k_at 493 (by decide +kernel) (by decide +kernel)⟩⟩
theorem cg_Law_131 : CGk 1 "EarChartLaw" 131 kT_seek 2 := ⟨cb_T_seek, Or.inl (k_at 786 (by decide +kernel) (by decide +kernel)), ⟨k_at 787 (by decide +kernel) (by decide +kernel), k_at 788 (by decide +kernel) (by decide +kernel)⟩⟩
