theorem w_J_maxI : Cond.code Lib.Math.max.name Lib.Math.max.code 2 (some .int) ∈ q_gw := q_gw_in 416 (by decide +kernel)
theorem w_J_minI : Cond.code Lib.Math.min.name Lib.Math.min.code 2 (some .int) ∈ q_gw := q_gw_in 409 (by decide +kernel)
theorem w_J_maxJ : Cond.code Lib.MathLoose.max_long.x Lib.MathLoose.max_long.code 4 (some .long) ∈ q_gw := q_gw_in 397 (by decide +kernel)
theorem w_J_minJ : Cond.code Lib.MathLoose.min_long.x Lib.MathLoose.min_long.code 4 (some .long) ∈ q_gw := q_gw_in 394 (by decide +kernel)
theorem kf_0 : q_Kf 0 RX0 TX0 12 tyX0 := ⟨rfl, kl_0, tyX0_ok, nmX0, by decide⟩
theorem kf_1 : q_Kf 1 RX1 TX1 7 tyX1 := ⟨rfl, kl_1, tyX1_ok, nmX1, by decide⟩
theorem kf_2 : q_Kf 2 RX2 TX2 13 tyX2 := ⟨rfl, kl_2, tyX2_ok, nmX2, by decide⟩
theorem kf_3 : q_Kf 3 RX3 TX3 7 tyX3 := ⟨rfl, kl_3, tyX3_ok, nmX3, by decide⟩
theorem kf_4 : q_Kf 4 RX4 TX4 3 tyX4 := ⟨rfl, kl_4, tyX4_ok, nmX4, by decide⟩
theorem kf_5 : q_Kf 5 RX5 TX5 4 tyX5 := ⟨rfl, kl_5, tyX5_ok, nmX5, by decide⟩
theorem kf_6 : q_Kf 6 RX6 TX6 4 tyX6 := ⟨rfl, kl_6, tyX6_ok, nmX6, by decide⟩
theorem kf_7 : q_Kf 7 RX7 TX7 8 tyX7 := ⟨rfl, kl_7, tyX7_ok, nmX7, by decide⟩
theorem kf_8 : q_Kf 8 RX8 TX8 39 tyX8 := ⟨rfl, kl_8, tyX8_ok, nmX8, by decide⟩
theorem fs_N_10 (M : Mt) (h : M.1.cls = "NightDitch") : q_Fs M 10 7 8 0 (.object "NightDitch$Ditch") true := ⟨RX7, TX7, tyX7, kf_7, by decide, by rw [h]; exact w_275, rfl, rfl⟩
theorem fs_N_16 (M : Mt) (h : M.1.cls = "NightDitch") : q_Fs M 16 7 8 1 (.object "NightDitch$Ditch") true := ⟨RX7, TX7, tyX7, kf_7, by decide, by rw [h]; exact w_276, rfl, rfl⟩
theorem fs_N_19 (M : Mt) (h : M.1.cls = "NightDitch") : q_Fs M 19 7 8 2 (.object "NightDitch$Ditch") true := ⟨RX7, TX7, tyX7, kf_7, by decide, by rw [h]; exact w_277, rfl, rfl⟩
theorem fs_N_25 (M : Mt) (h : M.1.cls = "NightDitch") : q_Fs M 25 7 8 3 (.object "NightDitch$Orders") true := ⟨RX7, TX7, tyX7, kf_7, by decide, by rw [h]; exact w_278, rfl, rfl⟩
theorem fs_N_32 (M : Mt) (h : M.1.cls = "NightDitch") : q_Fs M 32 7 8 4 (.object "NightDitch$Tape") true := ⟨RX7, TX7, tyX7, kf_7, by decide, by rw [h]; exact w_279, rfl, rfl⟩
theorem fs_N_39 (M : Mt) (h : M.1.cls = "NightDitch") : q_Fs M 39 7 8 5 (.object "NightDitch$Sheets") true := ⟨RX7, TX7, tyX7, kf_7, by decide, by rw [h]; exact w_280, rfl, rfl⟩
theorem fs_N_43 (M : Mt) (h : M.1.cls = "NightDitch") : q_Fs M 43 7 8 6 (.array .int) true := ⟨RX7, TX7, tyX7, kf_7, by decide, by rw [h]; exact w_281, rfl, rfl⟩
theorem fs_N_47 (M : Mt) (h : M.1.cls = "NightDitch") : q_Fs M 47 7 8 7 .boolean false := ⟨RX7, TX7, tyX7, kf_7, by decide, by rw [h]; exact w_282, rfl, rfl⟩
theorem fs_N_64 (M : Mt) (h : M.1.cls = "NightDitch") : q_Fs M 64 0 12 4 .int false := ⟨RX0, TX0, tyX0, kf_0, by decide, by rw [h]; exact w_155, rfl, rfl⟩
theorem fs_N_80 (M : Mt) (h : M.1.cls = "NightDitch") : q_Fs M 80 0 12 0 (.array (.object "NightDitch$Farm")) true := ⟨RX0, TX0, tyX0, kf_0, by decide, by rw [h]; exact w_143, rfl, rfl⟩
theorem fs_N_113 (M : Mt) (h : M.1.cls = "NightDitch") : q_Fs M 113 0 12 2 (.array .int) true := ⟨RX0, TX0, tyX0, kf_0, by decide, by rw [h]; exact w_149, rfl, rfl⟩
theorem fs_N_116 (M : Mt) (h : M.1.cls = "NightDitch") : q_Fs M 116 0 12 6 .int false := ⟨RX0, TX0, tyX0, kf_0, by decide, by rw [h]; exact w_161, rfl, rfl⟩
theorem fs_N_119 (M : Mt) (h : M.1.cls = "NightDitch") : q_Fs M 119 0 12 5 .int false := ⟨RX0, TX0, tyX0, kf_0, by decide, by rw [h]; exact w_158, rfl, rfl⟩
theorem fs_N_126 (M : Mt) (h : M.1.cls = "NightDitch") : q_Fs M 126 0 12 1 (.array .int) true := ⟨RX0, TX0, tyX0, kf_0, by decide, by rw [h]; exact w_146, rfl, rfl⟩
theorem fs_N_144 (M : Mt) (h : M.1.cls = "NightDitch") : q_Fs M 144 3 7 6 .int false := ⟨RX3, TX3, tyX3, kf_3, by decide, by rw [h]; exact w_213, rfl, rfl⟩
theorem fs_N_147 (M : Mt) (h : M.1.cls = "NightDitch") : q_Fs M 147 3 7 5 .long false := ⟨RX3, TX3, tyX3, kf_3, by decide, by rw [h]; exact w_211, rfl, rfl⟩
theorem fs_N_154 (M : Mt) (h : M.1.cls = "NightDitch") : q_Fs M 154 1 7 1 .int false := ⟨RX1, TX1, tyX1, kf_1, by decide, by rw [h]; exact w_61, rfl, rfl⟩
theorem fs_N_163 (M : Mt) (h : M.1.cls = "NightDitch") : q_Fs M 163 0 12 10 (.array (.object "NightDitch$Meet")) true := ⟨RX0, TX0, tyX0, kf_0, by decide, by rw [h]; exact w_170, rfl, rfl⟩
theorem fs_N_197 (M : Mt) (h : M.1.cls = "NightDitch") : q_Fs M 197 2 13 11 .int false := ⟨RX2, TX2, tyX2, kf_2, by decide, by rw [h]; exact w_112, rfl, rfl⟩
theorem fs_N_200 (M : Mt) (h : M.1.cls = "NightDitch") : q_Fs M 200 2 13 1 .int false := ⟨RX2, TX2, tyX2, kf_2, by decide, by rw [h]; exact w_95, rfl, rfl⟩
theorem fs_N_203 (M : Mt) (h : M.1.cls = "NightDitch") : q_Fs M 203 5 4 2 .int false := ⟨RX5, TX5, tyX5, kf_5, by decide, by rw [h]; exact w_242, rfl, rfl⟩
theorem fs_N_213 (M : Mt) (h : M.1.cls = "NightDitch") : q_Fs M 213 5 4 3 .int false := ⟨RX5, TX5, tyX5, kf_5, by decide, by rw [h]; exact w_244, rfl, rfl⟩
theorem fs_N_216 (M : Mt) (h : M.1.cls = "NightDitch") : q_Fs M 216 0 12 3 (.object "NightDitch$Text") true := ⟨RX0, TX0, tyX0, kf_0, by decide, by rw [h]; exact w_152, rfl, rfl⟩
theorem fs_N_220 (M : Mt) (h : M.1.cls = "NightDitch") : q_Fs M 220 5 4 1 (.object "NightDitch$Text") true := ⟨RX5, TX5, tyX5, kf_5, by decide, by rw [h]; exact w_240, rfl, rfl⟩
theorem fs_N_231 (M : Mt) (h : M.1.cls = "NightDitch") : q_Fs M 231 6 4 3 .int false := ⟨RX6, TX6, tyX6, kf_6, by decide, by rw [h]; exact w_39, rfl, rfl⟩
theorem fs_N_236 (M : Mt) (h : M.1.cls = "NightDitch") : q_Fs M 236 0 12 7 .int false := ⟨RX0, TX0, tyX0, kf_0, by decide, by rw [h]; exact w_164, rfl, rfl⟩
theorem fs_N_239 (M : Mt) (h : M.1.cls = "NightDitch") : q_Fs M 239 0 12 8 .int false := ⟨RX0, TX0, tyX0, kf_0, by decide, by rw [h]; exact w_166, rfl, rfl⟩
theorem fs_N_245 (M : Mt) (h : M.1.cls = "NightDitch") : q_Fs M 245 0 12 9 .int false := ⟨RX0, TX0, tyX0, kf_0, by decide, by rw [h]; exact w_168, rfl, rfl⟩
theorem fs_N_248 (M : Mt) (h : M.1.cls = "NightDitch") : q_Fs M 248 1 7 5 .int false := ⟨RX1, TX1, tyX1, kf_1, by decide, by rw [h]; exact w_70, rfl, rfl⟩
theorem fs_N_271 (M : Mt) (h : M.1.cls = "NightDitch") : q_Fs M 271 4 3 2 (.array .int) true := ⟨RX4, TX4, tyX4, kf_4, by decide, by rw [h]; exact w_267, rfl, rfl⟩
theorem fs_N_278 (M : Mt) (h : M.1.cls = "NightDitch") : q_Fs M 278 4 3 1 (.array .int) true := ⟨RX4, TX4, tyX4, kf_4, by decide, by rw [h]; exact w_265, rfl, rfl⟩
theorem fs_N_284 (M : Mt) (h : M.1.cls = "NightDitch") : q_Fs M 284 4 3 0 (.array (.array .long)) true := ⟨RX4, TX4, tyX4, kf_4, by decide, by rw [h]; exact w_263, rfl, rfl⟩
theorem fs_N_297 (M : Mt) (h : M.1.cls = "NightDitch") : q_Fs M 297 1 7 2 .int false := ⟨RX1, TX1, tyX1, kf_1, by decide, by rw [h]; exact w_64, rfl, rfl⟩
theorem fs_R_9 (M : Mt) (h : M.1.cls = "NightDitchModel") : q_Fs M 9 8 39 0 (.array .int) true := ⟨RX8, TX8, tyX8, kf_8, by decide, by rw [h]; exact w_829, rfl, rfl⟩
theorem fs_R_13 (M : Mt) (h : M.1.cls = "NightDitchModel") : q_Fs M 13 8 39 1 (.array .int) true := ⟨RX8, TX8, tyX8, kf_8, by decide, by rw [h]; exact w_830, rfl, rfl⟩
theorem fs_R_16 (M : Mt) (h : M.1.cls = "NightDitchModel") : q_Fs M 16 8 39 2 (.array .int) true := ⟨RX8, TX8, tyX8, kf_8, by decide, by rw [h]; exact w_831, rfl, rfl⟩
theorem fs_R_19 (M : Mt) (h : M.1.cls = "NightDitchModel") : q_Fs M 19 8 39 4 (.array .int) true := ⟨RX8, TX8, tyX8, kf_8, by decide, by rw [h]; exact w_833, rfl, rfl⟩
theorem fs_R_22 (M : Mt) (h : M.1.cls = "NightDitchModel") : q_Fs M 22 8 39 6 (.array .int) true := ⟨RX8, TX8, tyX8, kf_8, by decide, by rw [h]; exact w_835, rfl, rfl⟩
theorem fs_R_25 (M : Mt) (h : M.1.cls = "NightDitchModel") : q_Fs M 25 8 39 19 (.array .long) true := ⟨RX8, TX8, tyX8, kf_8, by decide, by rw [h]; exact w_848, rfl, rfl⟩
theorem fs_R_29 (M : Mt) (h : M.1.cls = "NightDitchModel") : q_Fs M 29 8 39 20 (.array .int) true := ⟨RX8, TX8, tyX8, kf_8, by decide, by rw [h]; exact w_849, rfl, rfl⟩
theorem fs_R_32 (M : Mt) (h : M.1.cls = "NightDitchModel") : q_Fs M 32 8 39 21 (.array .boolean) true := ⟨RX8, TX8, tyX8, kf_8, by decide, by rw [h]; exact w_850, rfl, rfl⟩
theorem fs_R_36 (M : Mt) (h : M.1.cls = "NightDitchModel") : q_Fs M 36 8 39 24 (.array .int) true := ⟨RX8, TX8, tyX8, kf_8, by decide, by rw [h]; exact w_853, rfl, rfl⟩
theorem fs_R_39 (M : Mt) (h : M.1.cls = "NightDitchModel") : q_Fs M 39 8 39 26 (.array .int) true := ⟨RX8, TX8, tyX8, kf_8, by decide, by rw [h]; exact w_855, rfl, rfl⟩
theorem fs_R_42 (M : Mt) (h : M.1.cls = "NightDitchModel") : q_Fs M 42 8 39 28 (.array .int) true := ⟨RX8, TX8, tyX8, kf_8, by decide, by rw [h]; exact w_857, rfl, rfl⟩
theorem fs_R_45 (M : Mt) (h : M.1.cls = "NightDitchModel") : q_Fs M 45 8 39 33 (.array .int) true := ⟨RX8, TX8, tyX8, kf_8, by decide, by rw [h]; exact w_862, rfl, rfl⟩
theorem fs_R_48 (M : Mt) (h : M.1.cls = "NightDitchModel") : q_Fs M 48 8 39 34 (.array .int) true := ⟨RX8, TX8, tyX8, kf_8, by decide, by rw [h]; exact w_863, rfl, rfl⟩
theorem fs_R_51 (M : Mt) (h : M.1.cls = "NightDitchModel") : q_Fs M 51 8 39 35 (.array .int) true := ⟨RX8, TX8, tyX8, kf_8, by decide, by rw [h]; exact w_864, rfl, rfl⟩
theorem fs_R_54 (M : Mt) (h : M.1.cls = "NightDitchModel") : q_Fs M 54 8 39 36 (.array .int) true := ⟨RX8, TX8, tyX8, kf_8, by decide, by rw [h]; exact w_865, rfl, rfl⟩
theorem fs_R_57 (M : Mt) (h : M.1.cls = "NightDitchModel") : q_Fs M 57 8 39 37 (.array .long) true := ⟨RX8, TX8, tyX8, kf_8, by decide, by rw [h]; exact w_866, rfl, rfl⟩
theorem fs_R_60 (M : Mt) (h : M.1.cls = "NightDitchModel") : q_Fs M 60 8 39 38 (.array .long) true := ⟨RX8, TX8, tyX8, kf_8, by decide, by rw [h]; exact w_867, rfl, rfl⟩
theorem fs_R_64 (M : Mt) (h : M.1.cls = "NightDitchModel") : q_Fs M 64 8 39 5 .int false := ⟨RX8, TX8, tyX8, kf_8, by decide, by rw [h]; exact w_834, rfl, rfl⟩
theorem fs_R_120 (M : Mt) (h : M.1.cls = "NightDitchModel") : q_Fs M 120 8 39 14 .int false := ⟨RX8, TX8, tyX8, kf_8, by decide, by rw [h]; exact w_843, rfl, rfl⟩
theorem fs_R_123 (M : Mt) (h : M.1.cls = "NightDitchModel") : q_Fs M 123 8 39 15 .int false := ⟨RX8, TX8, tyX8, kf_8, by decide, by rw [h]; exact w_844, rfl, rfl⟩
theorem fs_R_126 (M : Mt) (h : M.1.cls = "NightDitchModel") : q_Fs M 126 8 39 16 .int false := ⟨RX8, TX8, tyX8, kf_8, by decide, by rw [h]; exact w_845, rfl, rfl⟩
theorem fs_R_129 (M : Mt) (h : M.1.cls = "NightDitchModel") : q_Fs M 129 8 39 17 .int false := ⟨RX8, TX8, tyX8, kf_8, by decide, by rw [h]; exact w_846, rfl, rfl⟩
theorem fs_R_132 (M : Mt) (h : M.1.cls = "NightDitchModel") : q_Fs M 132 8 39 18 .int false := ⟨RX8, TX8, tyX8, kf_8, by decide, by rw [h]; exact w_847, rfl, rfl⟩
theorem fs_R_135 (M : Mt) (h : M.1.cls = "NightDitchModel") : q_Fs M 135 8 39 7 .int false := ⟨RX8, TX8, tyX8, kf_8, by decide, by rw [h]; exact w_836, rfl, rfl⟩
theorem fs_R_138 (M : Mt) (h : M.1.cls = "NightDitchModel") : q_Fs M 138 8 39 8 .int false := ⟨RX8, TX8, tyX8, kf_8, by decide, by rw [h]; exact w_837, rfl, rfl⟩
theorem fs_R_141 (M : Mt) (h : M.1.cls = "NightDitchModel") : q_Fs M 141 8 39 9 .int false := ⟨RX8, TX8, tyX8, kf_8, by decide, by rw [h]; exact w_838, rfl, rfl⟩
theorem fs_R_144 (M : Mt) (h : M.1.cls = "NightDitchModel") : q_Fs M 144 8 39 10 .int false := ⟨RX8, TX8, tyX8, kf_8, by decide, by rw [h]; exact w_839, rfl, rfl⟩
theorem fs_R_152 (M : Mt) (h : M.1.cls = "NightDitchModel") : q_Fs M 152 8 39 11 .long false := ⟨RX8, TX8, tyX8, kf_8, by decide, by rw [h]; exact w_840, rfl, rfl⟩
theorem fs_R_156 (M : Mt) (h : M.1.cls = "NightDitchModel") : q_Fs M 156 8 39 12 .long false := ⟨RX8, TX8, tyX8, kf_8, by decide, by rw [h]; exact w_841, rfl, rfl⟩
theorem fs_R_161 (M : Mt) (h : M.1.cls = "NightDitchModel") : q_Fs M 161 8 39 13 .long false := ⟨RX8, TX8, tyX8, kf_8, by decide, by rw [h]; exact w_842, rfl, rfl⟩
theorem fs_R_179 (M : Mt) (h : M.1.cls = "NightDitchModel") : q_Fs M 179 8 39 23 .long false := ⟨RX8, TX8, tyX8, kf_8, by decide, by rw [h]; exact w_852, rfl, rfl⟩
theorem fs_R_182 (M : Mt) (h : M.1.cls = "NightDitchModel") : q_Fs M 182 8 39 22 .int false := ⟨RX8, TX8, tyX8, kf_8, by decide, by rw [h]; exact w_851, rfl, rfl⟩
theorem fs_R_208 (M : Mt) (h : M.1.cls = "NightDitchModel") : q_Fs M 208 8 39 25 .int false := ⟨RX8, TX8, tyX8, kf_8, by decide, by rw [h]; exact w_854, rfl, rfl⟩
theorem fs_R_211 (M : Mt) (h : M.1.cls = "NightDitchModel") : q_Fs M 211 8 39 27 .int false := ⟨RX8, TX8, tyX8, kf_8, by decide, by rw [h]; exact w_856, rfl, rfl⟩
theorem fs_R_214 (M : Mt) (h : M.1.cls = "NightDitchModel") : q_Fs M 214 8 39 29 .int false := ⟨RX8, TX8, tyX8, kf_8, by decide, by rw [h]; exact w_858, rfl, rfl⟩
theorem fs_R_220 (M : Mt) (h : M.1.cls = "NightDitchModel") : q_Fs M 220 8 39 31 .int false := ⟨RX8, TX8, tyX8, kf_8, by decide, by rw [h]; exact w_860, rfl, rfl⟩
theorem fs_R_223 (M : Mt) (h : M.1.cls = "NightDitchModel") : q_Fs M 223 8 39 30 .int false := ⟨RX8, TX8, tyX8, kf_8, by decide, by rw [h]; exact w_859, rfl, rfl⟩
theorem fs_R_238 (M : Mt) (h : M.1.cls = "NightDitchModel") : q_Fs M 238 8 39 32 .boolean false := ⟨RX8, TX8, tyX8, kf_8, by decide, by rw [h]; exact w_861, rfl, rfl⟩
theorem fs_R_283 (M : Mt) (h : M.1.cls = "NightDitchModel") : q_Fs M 283 8 39 3 .boolean false := ⟨RX8, TX8, tyX8, kf_8, by decide, by rw [h]; exact w_832, rfl, rfl⟩
theorem fs_D_11 (M : Mt) (h : M.1.cls = "NightDitch$Ditch") : q_Fs M 11 0 12 0 (.array (.object "NightDitch$Farm")) true := ⟨RX0, TX0, tyX0, kf_0, by decide, by rw [h]; exact w_142, rfl, rfl⟩
theorem fs_D_17 (M : Mt) (h : M.1.cls = "NightDitch$Ditch") : q_Fs M 17 0 12 1 (.array .int) true := ⟨RX0, TX0, tyX0, kf_0, by decide, by rw [h]; exact w_145, rfl, rfl⟩
theorem fs_D_21 (M : Mt) (h : M.1.cls = "NightDitch$Ditch") : q_Fs M 21 0 12 2 (.array .int) true := ⟨RX0, TX0, tyX0, kf_0, by decide, by rw [h]; exact w_147, rfl, rfl⟩
theorem fs_D_27 (M : Mt) (h : M.1.cls = "NightDitch$Ditch") : q_Fs M 27 0 12 3 (.object "NightDitch$Text") true := ⟨RX0, TX0, tyX0, kf_0, by decide, by rw [h]; exact w_150, rfl, rfl⟩
theorem fs_D_31 (M : Mt) (h : M.1.cls = "NightDitch$Ditch") : q_Fs M 31 0 12 4 .int false := ⟨RX0, TX0, tyX0, kf_0, by decide, by rw [h]; exact w_153, rfl, rfl⟩
theorem fs_D_35 (M : Mt) (h : M.1.cls = "NightDitch$Ditch") : q_Fs M 35 0 12 5 .int false := ⟨RX0, TX0, tyX0, kf_0, by decide, by rw [h]; exact w_157, rfl, rfl⟩
theorem fs_D_38 (M : Mt) (h : M.1.cls = "NightDitch$Ditch") : q_Fs M 38 0 12 6 .int false := ⟨RX0, TX0, tyX0, kf_0, by decide, by rw [h]; exact w_160, rfl, rfl⟩
theorem fs_D_41 (M : Mt) (h : M.1.cls = "NightDitch$Ditch") : q_Fs M 41 0 12 7 .int false := ⟨RX0, TX0, tyX0, kf_0, by decide, by rw [h]; exact w_163, rfl, rfl⟩
theorem fs_D_44 (M : Mt) (h : M.1.cls = "NightDitch$Ditch") : q_Fs M 44 0 12 8 .int false := ⟨RX0, TX0, tyX0, kf_0, by decide, by rw [h]; exact w_165, rfl, rfl⟩
theorem fs_D_47 (M : Mt) (h : M.1.cls = "NightDitch$Ditch") : q_Fs M 47 0 12 9 .int false := ⟨RX0, TX0, tyX0, kf_0, by decide, by rw [h]; exact w_167, rfl, rfl⟩
theorem fs_D_52 (M : Mt) (h : M.1.cls = "NightDitch$Ditch") : q_Fs M 52 0 12 10 (.array (.object "NightDitch$Meet")) true := ⟨RX0, TX0, tyX0, kf_0, by decide, by rw [h]; exact w_169, rfl, rfl⟩
theorem fs_D_56 (M : Mt) (h : M.1.cls = "NightDitch$Ditch") : q_Fs M 56 0 12 11 (.array .int) true := ⟨RX0, TX0, tyX0, kf_0, by decide, by rw [h]; exact w_171, rfl, rfl⟩
theorem fs_D_82 (M : Mt) (h : M.1.cls = "NightDitch$Ditch") : q_Fs M 82 1 7 6 .int false := ⟨RX1, TX1, tyX1, kf_1, by decide, by rw [h]; exact w_72, rfl, rfl⟩
theorem fs_D_91 (M : Mt) (h : M.1.cls = "NightDitch$Ditch") : q_Fs M 91 1 7 1 .int false := ⟨RX1, TX1, tyX1, kf_1, by decide, by rw [h]; exact w_59, rfl, rfl⟩
theorem fs_D_110 (M : Mt) (h : M.1.cls = "NightDitch$Ditch") : q_Fs M 110 1 7 2 .int false := ⟨RX1, TX1, tyX1, kf_1, by decide, by rw [h]; exact w_63, rfl, rfl⟩
theorem fs_D_135 (M : Mt) (h : M.1.cls = "NightDitch$Ditch") : q_Fs M 135 2 13 0 .int false := ⟨RX2, TX2, tyX2, kf_2, by decide, by rw [h]; exact w_93, rfl, rfl⟩
theorem fs_D_138 (M : Mt) (h : M.1.cls = "NightDitch$Ditch") : q_Fs M 138 2 13 1 .int false := ⟨RX2, TX2, tyX2, kf_2, by decide, by rw [h]; exact w_94, rfl, rfl⟩
theorem fs_D_141 (M : Mt) (h : M.1.cls = "NightDitch$Ditch") : q_Fs M 141 2 13 2 .int false := ⟨RX2, TX2, tyX2, kf_2, by decide, by rw [h]; exact w_97, rfl, rfl⟩
theorem fs_D_143 (M : Mt) (h : M.1.cls = "NightDitch$Ditch") : q_Fs M 143 2 13 3 .int false := ⟨RX2, TX2, tyX2, kf_2, by decide, by rw [h]; exact w_99, rfl, rfl⟩
theorem fs_D_145 (M : Mt) (h : M.1.cls = "NightDitch$Ditch") : q_Fs M 145 2 13 4 .int false := ⟨RX2, TX2, tyX2, kf_2, by decide, by rw [h]; exact w_101, rfl, rfl⟩
theorem fs_D_151 (M : Mt) (h : M.1.cls = "NightDitch$Ditch") : q_Fs M 151 2 13 5 .int false := ⟨RX2, TX2, tyX2, kf_2, by decide, by rw [h]; exact w_103, rfl, rfl⟩
theorem fs_D_153 (M : Mt) (h : M.1.cls = "NightDitch$Ditch") : q_Fs M 153 1 7 4 .int false := ⟨RX1, TX1, tyX1, kf_1, by decide, by rw [h]; exact w_67, rfl, rfl⟩
theorem fs_D_158 (M : Mt) (h : M.1.cls = "NightDitch$Ditch") : q_Fs M 158 2 13 6 .int false := ⟨RX2, TX2, tyX2, kf_2, by decide, by rw [h]; exact w_105, rfl, rfl⟩
theorem fs_D_169 (M : Mt) (h : M.1.cls = "NightDitch$Ditch") : q_Fs M 169 2 13 11 .int false := ⟨RX2, TX2, tyX2, kf_2, by decide, by rw [h]; exact w_111, rfl, rfl⟩
theorem fs_D_186 (M : Mt) (h : M.1.cls = "NightDitch$Ditch") : q_Fs M 186 2 13 12 .int false := ⟨RX2, TX2, tyX2, kf_2, by decide, by rw [h]; exact w_114, rfl, rfl⟩
theorem fs_D_189 (M : Mt) (h : M.1.cls = "NightDitch$Ditch") : q_Fs M 189 1 7 5 .int false := ⟨RX1, TX1, tyX1, kf_1, by decide, by rw [h]; exact w_69, rfl, rfl⟩
theorem fs_F_9 (M : Mt) (h : M.1.cls = "NightDitch$Farm") : q_Fs M 9 1 7 0 .int false := ⟨RX1, TX1, tyX1, kf_1, by decide, by rw [h]; exact w_57, rfl, rfl⟩
theorem fs_F_15 (M : Mt) (h : M.1.cls = "NightDitch$Farm") : q_Fs M 15 1 7 1 .int false := ⟨RX1, TX1, tyX1, kf_1, by decide, by rw [h]; exact w_58, rfl, rfl⟩
theorem fs_F_18 (M : Mt) (h : M.1.cls = "NightDitch$Farm") : q_Fs M 18 1 7 2 .int false := ⟨RX1, TX1, tyX1, kf_1, by decide, by rw [h]; exact w_62, rfl, rfl⟩
theorem fs_F_21 (M : Mt) (h : M.1.cls = "NightDitch$Farm") : q_Fs M 21 1 7 3 .int false := ⟨RX1, TX1, tyX1, kf_1, by decide, by rw [h]; exact w_65, rfl, rfl⟩
theorem fs_F_24 (M : Mt) (h : M.1.cls = "NightDitch$Farm") : q_Fs M 24 1 7 4 .int false := ⟨RX1, TX1, tyX1, kf_1, by decide, by rw [h]; exact w_66, rfl, rfl⟩
theorem fs_F_27 (M : Mt) (h : M.1.cls = "NightDitch$Farm") : q_Fs M 27 1 7 5 .int false := ⟨RX1, TX1, tyX1, kf_1, by decide, by rw [h]; exact w_68, rfl, rfl⟩
theorem fs_F_30 (M : Mt) (h : M.1.cls = "NightDitch$Farm") : q_Fs M 30 1 7 6 .int false := ⟨RX1, TX1, tyX1, kf_1, by decide, by rw [h]; exact w_71, rfl, rfl⟩
theorem fs_M_7 (M : Mt) (h : M.1.cls = "NightDitch$Meet") : q_Fs M 7 2 13 8 .int false := ⟨RX2, TX2, tyX2, kf_2, by decide, by rw [h]; exact w_107, rfl, rfl⟩
theorem fs_M_13 (M : Mt) (h : M.1.cls = "NightDitch$Meet") : q_Fs M 13 2 13 10 .int false := ⟨RX2, TX2, tyX2, kf_2, by decide, by rw [h]; exact w_109, rfl, rfl⟩
theorem fs_M_16 (M : Mt) (h : M.1.cls = "NightDitch$Meet") : q_Fs M 16 2 13 5 .int false := ⟨RX2, TX2, tyX2, kf_2, by decide, by rw [h]; exact w_102, rfl, rfl⟩
theorem fs_M_19 (M : Mt) (h : M.1.cls = "NightDitch$Meet") : q_Fs M 19 2 13 6 .int false := ⟨RX2, TX2, tyX2, kf_2, by decide, by rw [h]; exact w_104, rfl, rfl⟩
theorem fs_M_22 (M : Mt) (h : M.1.cls = "NightDitch$Meet") : q_Fs M 22 2 13 3 .int false := ⟨RX2, TX2, tyX2, kf_2, by decide, by rw [h]; exact w_98, rfl, rfl⟩
theorem fs_M_25 (M : Mt) (h : M.1.cls = "NightDitch$Meet") : q_Fs M 25 2 13 4 .int false := ⟨RX2, TX2, tyX2, kf_2, by decide, by rw [h]; exact w_100, rfl, rfl⟩
theorem fs_M_28 (M : Mt) (h : M.1.cls = "NightDitch$Meet") : q_Fs M 28 2 13 2 .int false := ⟨RX2, TX2, tyX2, kf_2, by decide, by rw [h]; exact w_96, rfl, rfl⟩
theorem fs_M_35 (M : Mt) (h : M.1.cls = "NightDitch$Meet") : q_Fs M 35 2 13 7 .int false := ⟨RX2, TX2, tyX2, kf_2, by decide, by rw [h]; exact w_106, rfl, rfl⟩
theorem fs_M_38 (M : Mt) (h : M.1.cls = "NightDitch$Meet") : q_Fs M 38 2 13 9 .int false := ⟨RX2, TX2, tyX2, kf_2, by decide, by rw [h]; exact w_108, rfl, rfl⟩
theorem fs_M_47 (M : Mt) (h : M.1.cls = "NightDitch$Meet") : q_Fs M 47 2 13 11 .int false := ⟨RX2, TX2, tyX2, kf_2, by decide, by rw [h]; exact w_110, rfl, rfl⟩
theorem fs_M_50 (M : Mt) (h : M.1.cls = "NightDitch$Meet") : q_Fs M 50 2 13 12 .int false := ⟨RX2, TX2, tyX2, kf_2, by decide, by rw [h]; exact w_113, rfl, rfl⟩
theorem fs_O_9 (M : Mt) (h : M.1.cls = "NightDitch$Orders") : q_Fs M 9 3 7 0 (.array .int) true := ⟨RX3, TX3, tyX3, kf_3, by decide, by rw [h]; exact w_205, rfl, rfl⟩
theorem fs_O_15 (M : Mt) (h : M.1.cls = "NightDitch$Orders") : q_Fs M 15 3 7 1 (.array .long) true := ⟨RX3, TX3, tyX3, kf_3, by decide, by rw [h]; exact w_206, rfl, rfl⟩
theorem fs_O_19 (M : Mt) (h : M.1.cls = "NightDitch$Orders") : q_Fs M 19 3 7 2 (.array .int) true := ⟨RX3, TX3, tyX3, kf_3, by decide, by rw [h]; exact w_207, rfl, rfl⟩
theorem fs_O_25 (M : Mt) (h : M.1.cls = "NightDitch$Orders") : q_Fs M 25 3 7 3 (.object "NightDitch$Meet") true := ⟨RX3, TX3, tyX3, kf_3, by decide, by rw [h]; exact w_208, rfl, rfl⟩
theorem fs_O_29 (M : Mt) (h : M.1.cls = "NightDitch$Orders") : q_Fs M 29 3 7 4 .int false := ⟨RX3, TX3, tyX3, kf_3, by decide, by rw [h]; exact w_209, rfl, rfl⟩
theorem fs_O_33 (M : Mt) (h : M.1.cls = "NightDitch$Orders") : q_Fs M 33 3 7 5 .long false := ⟨RX3, TX3, tyX3, kf_3, by decide, by rw [h]; exact w_210, rfl, rfl⟩
theorem fs_O_37 (M : Mt) (h : M.1.cls = "NightDitch$Orders") : q_Fs M 37 3 7 6 .int false := ⟨RX3, TX3, tyX3, kf_3, by decide, by rw [h]; exact w_212, rfl, rfl⟩
theorem fs_O_40 (M : Mt) (h : M.1.cls = "NightDitch$Orders") : q_Fs M 40 0 12 4 .int false := ⟨RX0, TX0, tyX0, kf_0, by decide, by rw [h]; exact w_154, rfl, rfl⟩
theorem fs_O_53 (M : Mt) (h : M.1.cls = "NightDitch$Orders") : q_Fs M 53 0 12 3 (.object "NightDitch$Text") true := ⟨RX0, TX0, tyX0, kf_0, by decide, by rw [h]; exact w_151, rfl, rfl⟩
theorem fs_O_83 (M : Mt) (h : M.1.cls = "NightDitch$Orders") : q_Fs M 83 0 12 2 (.array .int) true := ⟨RX0, TX0, tyX0, kf_0, by decide, by rw [h]; exact w_148, rfl, rfl⟩
theorem fs_S_11 (M : Mt) (h : M.1.cls = "NightDitch$Sheets") : q_Fs M 11 4 3 0 (.array (.array .long)) true := ⟨RX4, TX4, tyX4, kf_4, by decide, by rw [h]; exact w_262, rfl, rfl⟩
theorem fs_S_16 (M : Mt) (h : M.1.cls = "NightDitch$Sheets") : q_Fs M 16 4 3 1 (.array .int) true := ⟨RX4, TX4, tyX4, kf_4, by decide, by rw [h]; exact w_264, rfl, rfl⟩
theorem fs_S_20 (M : Mt) (h : M.1.cls = "NightDitch$Sheets") : q_Fs M 20 4 3 2 (.array .int) true := ⟨RX4, TX4, tyX4, kf_4, by decide, by rw [h]; exact w_266, rfl, rfl⟩
theorem fs_P_9 (M : Mt) (h : M.1.cls = "NightDitch$Tape") : q_Fs M 9 5 4 0 (.array .int) true := ⟨RX5, TX5, tyX5, kf_5, by decide, by rw [h]; exact w_238, rfl, rfl⟩
theorem fs_P_18 (M : Mt) (h : M.1.cls = "NightDitch$Tape") : q_Fs M 18 5 4 1 (.object "NightDitch$Text") true := ⟨RX5, TX5, tyX5, kf_5, by decide, by rw [h]; exact w_239, rfl, rfl⟩
theorem fs_P_22 (M : Mt) (h : M.1.cls = "NightDitch$Tape") : q_Fs M 22 5 4 2 .int false := ⟨RX5, TX5, tyX5, kf_5, by decide, by rw [h]; exact w_241, rfl, rfl⟩
theorem fs_P_26 (M : Mt) (h : M.1.cls = "NightDitch$Tape") : q_Fs M 26 5 4 3 .int false := ⟨RX5, TX5, tyX5, kf_5, by decide, by rw [h]; exact w_243, rfl, rfl⟩
theorem fs_P_29 (M : Mt) (h : M.1.cls = "NightDitch$Tape") : q_Fs M 29 6 4 3 .int false := ⟨RX6, TX6, tyX6, kf_6, by decide, by rw [h]; exact w_38, rfl, rfl⟩
theorem fs_T_9 (M : Mt) (h : M.1.cls = "NightDitch$Text") : q_Fs M 9 6 4 0 (.array .int) true := ⟨RX6, TX6, tyX6, kf_6, by decide, by rw [h]; exact w_34, rfl, rfl⟩
theorem fs_T_15 (M : Mt) (h : M.1.cls = "NightDitch$Text") : q_Fs M 15 6 4 1 (.array .int) true := ⟨RX6, TX6, tyX6, kf_6, by decide, by rw [h]; exact w_35, rfl, rfl⟩
theorem fs_T_18 (M : Mt) (h : M.1.cls = "NightDitch$Text") : q_Fs M 18 6 4 2 .int false := ⟨RX6, TX6, tyX6, kf_6, by decide, by rw [h]; exact w_36, rfl, rfl⟩
theorem fs_T_22 (M : Mt) (h : M.1.cls = "NightDitch$Text") : q_Fs M 22 6 4 3 .int false := ⟨RX6, TX6, tyX6, kf_6, by decide, by rw [h]; exact w_37, rfl, rfl⟩
theorem fs_T_54 (M : Mt) (h : M.1.cls = "NightDitch$Text") : q_Fs M 54 0 12 6 .int false := ⟨RX0, TX0, tyX0, kf_0, by decide, by rw [h]; exact w_162, rfl, rfl⟩
theorem fs_T_59 (M : Mt) (h : M.1.cls = "NightDitch$Text") : q_Fs M 59 0 12 5 .int false := ⟨RX0, TX0, tyX0, kf_0, by decide, by rw [h]; exact w_159, rfl, rfl⟩
theorem fs_T_62 (M : Mt) (h : M.1.cls = "NightDitch$Text") : q_Fs M 62 0 12 0 (.array (.object "NightDitch$Farm")) true := ⟨RX0, TX0, tyX0, kf_0, by decide, by rw [h]; exact w_144, rfl, rfl⟩
theorem fs_T_66 (M : Mt) (h : M.1.cls = "NightDitch$Text") : q_Fs M 66 1 7 1 .int false := ⟨RX1, TX1, tyX1, kf_1, by decide, by rw [h]; exact w_60, rfl, rfl⟩
theorem fs_T_71 (M : Mt) (h : M.1.cls = "NightDitch$Text") : q_Fs M 71 0 12 4 .int false := ⟨RX0, TX0, tyX0, kf_0, by decide, by rw [h]; exact w_156, rfl, rfl⟩
theorem m_N_init : q_MI mt_N_init 0 := ⟨⟨w_16, w_1, by decide +kernel, ⟨by decide +kernel, by decide +kernel, by decide +kernel⟩, by decide⟩, w_15, rfl, rfl⟩
theorem m_N_farm : q_MV mt_N_farm 7 3 := ⟨⟨w_303, w_1, by decide +kernel, ⟨by decide +kernel, by decide +kernel, by decide +kernel⟩, by decide⟩, w_301, w_302, rfl, by decide⟩
theorem m_N_set : q_MV mt_N_set 7 3 := ⟨⟨w_331, w_1, by decide +kernel, ⟨by decide +kernel, by decide +kernel, by decide +kernel⟩, by decide⟩, w_329, w_330, rfl, by decide⟩
theorem m_N_of : q_MV mt_N_of 7 2 := ⟨⟨w_348, w_1, by decide +kernel, ⟨by decide +kernel, by decide +kernel, by decide +kernel⟩, by decide⟩, w_346, w_347, rfl, by decide⟩
theorem m_N_as : q_MV mt_N_as 7 2 := ⟨⟨w_422, w_1, by decide +kernel, ⟨by decide +kernel, by decide +kernel, by decide +kernel⟩, by decide⟩, w_420, w_421, rfl, by decide⟩
theorem m_N_rule : q_MV mt_N_rule 7 2 := ⟨⟨w_433, w_1, by decide +kernel, ⟨by decide +kernel, by decide +kernel, by decide +kernel⟩, by decide⟩, w_431, w_432, rfl, by decide⟩
theorem m_N_dry : q_MV mt_N_dry 7 1 := ⟨⟨w_439, w_1, by decide +kernel, ⟨by decide +kernel, by decide +kernel, by decide +kernel⟩, by decide⟩, w_437, w_438, rfl, by decide⟩
theorem m_N_year : q_MV mt_N_year 7 0 := ⟨⟨w_443, w_1, by decide +kernel, ⟨by decide +kernel, by decide +kernel, by decide +kernel⟩, by decide⟩, w_441, w_442, rfl, by decide⟩
theorem m_N_turn : q_MV mt_N_turn 7 1 := ⟨⟨w_453, w_1, by decide +kernel, ⟨by decide +kernel, by decide +kernel, by decide +kernel⟩, by decide⟩, w_451, w_452, rfl, by decide⟩
theorem m_N_swap : q_MV mt_N_swap 7 2 := ⟨⟨w_457, w_1, by decide +kernel, ⟨by decide +kernel, by decide +kernel, by decide +kernel⟩, by decide⟩, w_455, w_456, rfl, by decide⟩
theorem m_N_turns : q_MV mt_N_turns 7 1 := ⟨⟨w_461, w_1, by decide +kernel, ⟨by decide +kernel, by decide +kernel, by decide +kernel⟩, by decide⟩, w_459, w_460, rfl, by decide⟩
theorem m_N_told : q_MV mt_N_told 7 0 := ⟨⟨w_477, w_1, by decide +kernel, ⟨by decide +kernel, by decide +kernel, by decide +kernel⟩, by decide⟩, w_475, w_476, rfl, by decide⟩
theorem m_N_best : q_MV mt_N_best 7 1 := ⟨⟨w_486, w_1, by decide +kernel, ⟨by decide +kernel, by decide +kernel, by decide +kernel⟩, by decide⟩, w_484, w_485, rfl, by decide⟩
theorem m_N_share : q_MV mt_N_share 7 1 := ⟨⟨w_549, w_1, by decide +kernel, ⟨by decide +kernel, by decide +kernel, by decide +kernel⟩, by decide⟩, w_547, w_548, rfl, by decide⟩
theorem m_N_rest : q_MV mt_N_rest 7 2 := ⟨⟨w_557, w_1, by decide +kernel, ⟨by decide +kernel, by decide +kernel, by decide +kernel⟩, by decide⟩, w_555, w_556, rfl, by decide⟩
theorem m_N_lost : q_MV mt_N_lost 7 1 := ⟨⟨w_579, w_1, by decide +kernel, ⟨by decide +kernel, by decide +kernel, by decide +kernel⟩, by decide⟩, w_577, w_578, rfl, by decide⟩
theorem m_N_least : q_MV mt_N_least 7 1 := ⟨⟨w_589, w_1, by decide +kernel, ⟨by decide +kernel, by decide +kernel, by decide +kernel⟩, by decide⟩, w_587, w_588, rfl, by decide⟩
theorem m_N_hire : q_MV mt_N_hire 7 1 := ⟨⟨w_621, w_1, by decide +kernel, ⟨by decide +kernel, by decide +kernel, by decide +kernel⟩, by decide⟩, w_619, w_620, rfl, by decide⟩
theorem m_N_breaks : q_MV mt_N_breaks 7 1 := ⟨⟨w_625, w_1, by decide +kernel, ⟨by decide +kernel, by decide +kernel, by decide +kernel⟩, by decide⟩, w_623, w_624, rfl, by decide⟩
theorem m_N_blame : q_MV mt_N_blame 7 1 := ⟨⟨w_630, w_1, by decide +kernel, ⟨by decide +kernel, by decide +kernel, by decide +kernel⟩, by decide⟩, w_628, w_629, rfl, by decide⟩
theorem m_N_always : q_MV mt_N_always 7 0 := ⟨⟨w_637, w_1, by decide +kernel, ⟨by decide +kernel, by decide +kernel, by decide +kernel⟩, by decide⟩, w_635, w_636, rfl, by decide⟩
theorem m_N_feed : q_MV mt_N_feed 7 2 := ⟨⟨w_641, w_1, by decide +kernel, ⟨by decide +kernel, by decide +kernel, by decide +kernel⟩, by decide⟩, w_639, w_640, rfl, by decide⟩
theorem m_N_wipe : q_MV mt_N_wipe 7 0 := ⟨⟨w_649, w_1, by decide +kernel, ⟨by decide +kernel, by decide +kernel, by decide +kernel⟩, by decide⟩, w_647, w_648, rfl, by decide⟩
theorem m_N_text : q_MV mt_N_text 7 0 := ⟨⟨w_653, w_1, by decide +kernel, ⟨by decide +kernel, by decide +kernel, by decide +kernel⟩, by decide⟩, w_651, w_652, rfl, by decide⟩
theorem m_N_plain : q_MV mt_N_plain 7 0 := ⟨⟨w_707, w_1, by decide +kernel, ⟨by decide +kernel, by decide +kernel, by decide +kernel⟩, by decide⟩, w_705, w_706, rfl, by decide⟩
theorem m_N_gives : q_MV mt_N_gives 7 1 := ⟨⟨w_712, w_1, by decide +kernel, ⟨by decide +kernel, by decide +kernel, by decide +kernel⟩, by decide⟩, w_710, w_711, rfl, by decide⟩
theorem m_N_seed : q_MV mt_N_seed 7 1 := ⟨⟨w_717, w_1, by decide +kernel, ⟨by decide +kernel, by decide +kernel, by decide +kernel⟩, by decide⟩, w_715, w_716, rfl, by decide⟩
theorem m_N_nights : q_MV mt_N_nights 7 1 := ⟨⟨w_721, w_1, by decide +kernel, ⟨by decide +kernel, by decide +kernel, by decide +kernel⟩, by decide⟩, w_719, w_720, rfl, by decide⟩
theorem m_N_ahead : q_MV mt_N_ahead 7 2 := ⟨⟨w_739, w_1, by decide +kernel, ⟨by decide +kernel, by decide +kernel, by decide +kernel⟩, by decide⟩, w_737, w_738, rfl, by decide⟩
theorem m_N_purse : q_MV mt_N_purse 7 1 := ⟨⟨w_743, w_1, by decide +kernel, ⟨by decide +kernel, by decide +kernel, by decide +kernel⟩, by decide⟩, w_741, w_742, rfl, by decide⟩
theorem m_N_sheet : q_MV mt_N_sheet 7 3 := ⟨⟨w_755, w_1, by decide +kernel, ⟨by decide +kernel, by decide +kernel, by decide +kernel⟩, by decide⟩, w_753, w_754, rfl, by decide⟩
theorem m_N_write : q_MV mt_N_write 7 3 := ⟨⟨w_773, w_1, by decide +kernel, ⟨by decide +kernel, by decide +kernel, by decide +kernel⟩, by decide⟩, w_771, w_772, rfl, by decide⟩
theorem m_N_copy : q_MV mt_N_copy 7 5 := ⟨⟨w_789, w_1, by decide +kernel, ⟨by decide +kernel, by decide +kernel, by decide +kernel⟩, by decide⟩, w_787, w_788, rfl, by decide⟩
theorem m_N_worths : q_MV mt_N_worths 7 1 := ⟨⟨w_798, w_1, by decide +kernel, ⟨by decide +kernel, by decide +kernel, by decide +kernel⟩, by decide⟩, w_796, w_797, rfl, by decide⟩
theorem m_N_read : q_MV mt_N_read 7 1 := ⟨⟨w_802, w_1, by decide +kernel, ⟨by decide +kernel, by decide +kernel, by decide +kernel⟩, by decide⟩, w_800, w_801, rfl, by decide⟩
theorem m_N_image : q_MV mt_N_image 7 0 := ⟨⟨w_806, w_1, by decide +kernel, ⟨by decide +kernel, by decide +kernel, by decide +kernel⟩, by decide⟩, w_804, w_805, rfl, by decide⟩
theorem m_N_undo : q_MV mt_N_undo 7 0 := ⟨⟨w_810, w_1, by decide +kernel, ⟨by decide +kernel, by decide +kernel, by decide +kernel⟩, by decide⟩, w_808, w_809, rfl, by decide⟩
theorem m_N_tear : q_MV mt_N_tear 7 0 := ⟨⟨w_814, w_1, by decide +kernel, ⟨by decide +kernel, by decide +kernel, by decide +kernel⟩, by decide⟩, w_812, w_813, rfl, by decide⟩
theorem m_N_count : q_MV mt_N_count 7 1 := ⟨⟨w_818, w_1, by decide +kernel, ⟨by decide +kernel, by decide +kernel, by decide +kernel⟩, by decide⟩, w_816, w_817, rfl, by decide⟩
theorem m_N_status : q_MV mt_N_status 7 1 := ⟨⟨w_822, w_1, by decide +kernel, ⟨by decide +kernel, by decide +kernel, by decide +kernel⟩, by decide⟩, w_820, w_821, rfl, by decide⟩
theorem m_N_finding : q_MV mt_N_finding 7 1 := ⟨⟨w_318, w_1, by decide +kernel, ⟨by decide +kernel, by decide +kernel, by decide +kernel⟩, by decide⟩, w_317, ws_0, rfl, by decide⟩
theorem m_N_isWithin : q_MS mt_N_isWithin 3 := ⟨⟨w_306, w_1, by decide +kernel, ⟨by decide +kernel, by decide +kernel, by decide +kernel⟩, by decide⟩, w_305⟩
theorem m_N_isPart : q_MS mt_N_isPart 2 := ⟨⟨w_309, w_1, by decide +kernel, ⟨by decide +kernel, by decide +kernel, by decide +kernel⟩, by decide⟩, w_308⟩
theorem m_N_millionths : q_MS mt_N_millionths 2 := ⟨⟨w_516, w_1, by decide +kernel, ⟨by decide +kernel, by decide +kernel, by decide +kernel⟩, by decide⟩, w_515⟩
theorem m_R_init : q_MI mt_R_init 0 := ⟨⟨w_827, w_9, by decide +kernel, ⟨by decide +kernel, by decide +kernel, by decide +kernel⟩, by decide⟩, w_826, rfl, rfl⟩
theorem m_R_finds : q_MV mt_R_finds 8 1 := ⟨⟨w_959, w_9, by decide +kernel, ⟨by decide +kernel, by decide +kernel, by decide +kernel⟩, by decide⟩, w_958, ws_21, rfl, by decide⟩
theorem m_R_in : q_MS mt_R_in 3 := ⟨⟨w_954, w_9, by decide +kernel, ⟨by decide +kernel, by decide +kernel, by decide +kernel⟩, by decide⟩, w_953⟩
theorem m_R_within : q_MS mt_R_within 3 := ⟨⟨w_1009, w_9, by decide +kernel, ⟨by decide +kernel, by decide +kernel, by decide +kernel⟩, by decide⟩, w_1008⟩
theorem m_R_isFarm : q_MV mt_R_isFarm 8 1 := ⟨⟨w_972, w_9, by decide +kernel, ⟨by decide +kernel, by decide +kernel, by decide +kernel⟩, by decide⟩, w_971, ws_23, rfl, by decide⟩
theorem m_R_get : q_MV mt_R_get 8 2 := ⟨⟨w_976, w_9, by decide +kernel, ⟨by decide +kernel, by decide +kernel, by decide +kernel⟩, by decide⟩, w_975, ws_24, rfl, by decide⟩
theorem m_R_put : q_MV mt_R_put 8 3 := ⟨⟨w_964, w_9, by decide +kernel, ⟨by decide +kernel, by decide +kernel, by decide +kernel⟩, by decide⟩, w_963, ws_22, rfl, by decide⟩
theorem m_R_farm : q_MV mt_R_farm 8 3 := ⟨⟨w_951, w_9, by decide +kernel, ⟨by decide +kernel, by decide +kernel, by decide +kernel⟩, by decide⟩, w_949, w_950, rfl, by decide⟩
theorem m_R_set : q_MV mt_R_set 8 3 := ⟨⟨w_968, w_9, by decide +kernel, ⟨by decide +kernel, by decide +kernel, by decide +kernel⟩, by decide⟩, w_966, w_967, rfl, by decide⟩
theorem m_R_placeOf : q_MV mt_R_placeOf 8 1 := ⟨⟨w_984, w_9, by decide +kernel, ⟨by decide +kernel, by decide +kernel, by decide +kernel⟩, by decide⟩, w_983, ws_25, rfl, by decide⟩
theorem m_R_paysAt : q_MV mt_R_paysAt 8 2 := ⟨⟨w_988, w_9, by decide +kernel, ⟨by decide +kernel, by decide +kernel, by decide +kernel⟩, by decide⟩, w_987, ws_26, rfl, by decide⟩
theorem m_R_wantsBy : q_MV mt_R_wantsBy 8 2 := ⟨⟨w_1006, w_9, by decide +kernel, ⟨by decide +kernel, by decide +kernel, by decide +kernel⟩, by decide⟩, w_1005, ws_29, rfl, by decide⟩
theorem m_R_minds : q_MV mt_R_minds 8 1 := ⟨⟨w_1013, w_9, by decide +kernel, ⟨by decide +kernel, by decide +kernel, by decide +kernel⟩, by decide⟩, w_1012, ws_30, rfl, by decide⟩
theorem m_R_of : q_MV mt_R_of 8 2 := ⟨⟨w_980, w_9, by decide +kernel, ⟨by decide +kernel, by decide +kernel, by decide +kernel⟩, by decide⟩, w_978, w_979, rfl, by decide⟩
theorem m_R_isUnder : q_MS mt_R_isUnder 2 := ⟨⟨w_1020, w_9, by decide +kernel, ⟨by decide +kernel, by decide +kernel, by decide +kernel⟩, by decide⟩, w_1019⟩
theorem m_R_as : q_MV mt_R_as 8 2 := ⟨⟨w_1017, w_9, by decide +kernel, ⟨by decide +kernel, by decide +kernel, by decide +kernel⟩, by decide⟩, w_1015, w_1016, rfl, by decide⟩
theorem m_R_rule : q_MV mt_R_rule 8 2 := ⟨⟨w_1025, w_9, by decide +kernel, ⟨by decide +kernel, by decide +kernel, by decide +kernel⟩, by decide⟩, w_1023, w_1024, rfl, by decide⟩
theorem m_R_dry : q_MV mt_R_dry 8 1 := ⟨⟨w_1029, w_9, by decide +kernel, ⟨by decide +kernel, by decide +kernel, by decide +kernel⟩, by decide⟩, w_1027, w_1028, rfl, by decide⟩
theorem m_R_year : q_MV mt_R_year 8 0 := ⟨⟨w_1033, w_9, by decide +kernel, ⟨by decide +kernel, by decide +kernel, by decide +kernel⟩, by decide⟩, w_1031, w_1032, rfl, by decide⟩
theorem m_R_turn : q_MV mt_R_turn 8 1 := ⟨⟨w_1038, w_9, by decide +kernel, ⟨by decide +kernel, by decide +kernel, by decide +kernel⟩, by decide⟩, w_1036, w_1037, rfl, by decide⟩
theorem m_R_swap : q_MV mt_R_swap 8 2 := ⟨⟨w_1042, w_9, by decide +kernel, ⟨by decide +kernel, by decide +kernel, by decide +kernel⟩, by decide⟩, w_1040, w_1041, rfl, by decide⟩
theorem m_R_turns : q_MV mt_R_turns 8 1 := ⟨⟨w_1046, w_9, by decide +kernel, ⟨by decide +kernel, by decide +kernel, by decide +kernel⟩, by decide⟩, w_1044, w_1045, rfl, by decide⟩
theorem m_R_told : q_MV mt_R_told 8 0 := ⟨⟨w_1050, w_9, by decide +kernel, ⟨by decide +kernel, by decide +kernel, by decide +kernel⟩, by decide⟩, w_1048, w_1049, rfl, by decide⟩
theorem m_R_divisor : q_MS mt_R_divisor 2 := ⟨⟨w_1070, w_9, by decide +kernel, ⟨by decide +kernel, by decide +kernel, by decide +kernel⟩, by decide⟩, w_1069⟩
theorem m_R_findRest : q_MV mt_R_findRest 8 3 := ⟨⟨w_1067, w_9, by decide +kernel, ⟨by decide +kernel, by decide +kernel, by decide +kernel⟩, by decide⟩, w_1066, ws_33, rfl, by decide⟩
theorem m_R_findMeet : q_MV mt_R_findMeet 8 1 := ⟨⟨w_1101, w_9, by decide +kernel, ⟨by decide +kernel, by decide +kernel, by decide +kernel⟩, by decide⟩, w_1100, ws_38, rfl, by decide⟩
theorem m_R_lostThere : q_MV mt_R_lostThere 8 0 := ⟨⟨w_1076, w_9, by decide +kernel, ⟨by decide +kernel, by decide +kernel, by decide +kernel⟩, by decide⟩, w_1075, ws_34, rfl, by decide⟩
theorem m_R_meets : q_MV mt_R_meets 8 0 := ⟨⟨w_1097, w_9, by decide +kernel, ⟨by decide +kernel, by decide +kernel, by decide +kernel⟩, by decide⟩, w_1096, ws_37, rfl, by decide⟩
theorem m_R_lostAll : q_MV mt_R_lostAll 8 0 := ⟨⟨w_1109, w_9, by decide +kernel, ⟨by decide +kernel, by decide +kernel, by decide +kernel⟩, by decide⟩, w_1108, ws_39, rfl, by decide⟩
theorem m_R_findLost : q_MV mt_R_findLost 8 0 := ⟨⟨w_1063, w_9, by decide +kernel, ⟨by decide +kernel, by decide +kernel, by decide +kernel⟩, by decide⟩, w_1062, ws_32, rfl, by decide⟩
theorem m_R_tryRow : q_MV mt_R_tryRow 8 0 := ⟨⟨w_1081, w_9, by decide +kernel, ⟨by decide +kernel, by decide +kernel, by decide +kernel⟩, by decide⟩, w_1080, ws_35, rfl, by decide⟩
theorem m_R_findBest : q_MV mt_R_findBest 8 0 := ⟨⟨w_1059, w_9, by decide +kernel, ⟨by decide +kernel, by decide +kernel, by decide +kernel⟩, by decide⟩, w_1058, ws_31, rfl, by decide⟩
theorem m_R_best : q_MV mt_R_best 8 1 := ⟨⟨w_1055, w_9, by decide +kernel, ⟨by decide +kernel, by decide +kernel, by decide +kernel⟩, by decide⟩, w_1053, w_1054, rfl, by decide⟩
theorem m_R_hoursAll : q_MV mt_R_hoursAll 8 0 := ⟨⟨w_1089, w_9, by decide +kernel, ⟨by decide +kernel, by decide +kernel, by decide +kernel⟩, by decide⟩, w_1088, ws_36, rfl, by decide⟩
theorem m_R_share : q_MV mt_R_share 8 1 := ⟨⟨w_1085, w_9, by decide +kernel, ⟨by decide +kernel, by decide +kernel, by decide +kernel⟩, by decide⟩, w_1083, w_1084, rfl, by decide⟩
theorem m_R_rest : q_MV mt_R_rest 8 2 := ⟨⟨w_1093, w_9, by decide +kernel, ⟨by decide +kernel, by decide +kernel, by decide +kernel⟩, by decide⟩, w_1091, w_1092, rfl, by decide⟩
theorem m_R_lost : q_MV mt_R_lost 8 1 := ⟨⟨w_1105, w_9, by decide +kernel, ⟨by decide +kernel, by decide +kernel, by decide +kernel⟩, by decide⟩, w_1103, w_1104, rfl, by decide⟩
theorem m_R_mostTaking : q_MV mt_R_mostTaking 8 0 := ⟨⟨w_1118, w_9, by decide +kernel, ⟨by decide +kernel, by decide +kernel, by decide +kernel⟩, by decide⟩, w_1117, ws_40, rfl, by decide⟩
theorem m_R_least : q_MV mt_R_least 8 1 := ⟨⟨w_1113, w_9, by decide +kernel, ⟨by decide +kernel, by decide +kernel, by decide +kernel⟩, by decide⟩, w_1111, w_1112, rfl, by decide⟩
theorem m_R_hire : q_MV mt_R_hire 8 1 := ⟨⟨w_1122, w_9, by decide +kernel, ⟨by decide +kernel, by decide +kernel, by decide +kernel⟩, by decide⟩, w_1120, w_1121, rfl, by decide⟩
theorem m_R_breaks : q_MV mt_R_breaks 8 1 := ⟨⟨w_1126, w_9, by decide +kernel, ⟨by decide +kernel, by decide +kernel, by decide +kernel⟩, by decide⟩, w_1124, w_1125, rfl, by decide⟩
theorem m_R_blame : q_MV mt_R_blame 8 1 := ⟨⟨w_1130, w_9, by decide +kernel, ⟨by decide +kernel, by decide +kernel, by decide +kernel⟩, by decide⟩, w_1128, w_1129, rfl, by decide⟩
theorem m_R_always : q_MV mt_R_always 8 0 := ⟨⟨w_1135, w_9, by decide +kernel, ⟨by decide +kernel, by decide +kernel, by decide +kernel⟩, by decide⟩, w_1133, w_1134, rfl, by decide⟩
theorem m_R_feed : q_MV mt_R_feed 8 2 := ⟨⟨w_1139, w_9, by decide +kernel, ⟨by decide +kernel, by decide +kernel, by decide +kernel⟩, by decide⟩, w_1137, w_1138, rfl, by decide⟩
theorem m_R_wipe : q_MV mt_R_wipe 8 0 := ⟨⟨w_1143, w_9, by decide +kernel, ⟨by decide +kernel, by decide +kernel, by decide +kernel⟩, by decide⟩, w_1141, w_1142, rfl, by decide⟩
theorem m_R_emit : q_MV mt_R_emit 8 1 := ⟨⟨w_1158, w_9, by decide +kernel, ⟨by decide +kernel, by decide +kernel, by decide +kernel⟩, by decide⟩, w_1157, ws_42, rfl, by decide⟩
theorem m_R_settles : q_MV mt_R_settles 8 1 := ⟨⟨w_1177, w_9, by decide +kernel, ⟨by decide +kernel, by decide +kernel, by decide +kernel⟩, by decide⟩, w_1176, ws_46, rfl, by decide⟩
theorem m_R_waits : q_MV mt_R_waits 8 1 := ⟨⟨w_1169, w_9, by decide +kernel, ⟨by decide +kernel, by decide +kernel, by decide +kernel⟩, by decide⟩, w_1168, ws_44, rfl, by decide⟩
theorem m_R_nameOf : q_MS mt_R_nameOf 1 := ⟨⟨w_1165, w_9, by decide +kernel, ⟨by decide +kernel, by decide +kernel, by decide +kernel⟩, by decide⟩, w_1164⟩
theorem m_R_isDigit : q_MS mt_R_isDigit 1 := ⟨⟨w_1154, w_9, by decide +kernel, ⟨by decide +kernel, by decide +kernel, by decide +kernel⟩, by decide⟩, w_1153⟩
theorem m_R_ends : q_MV mt_R_ends 8 0 := ⟨⟨w_1162, w_9, by decide +kernel, ⟨by decide +kernel, by decide +kernel, by decide +kernel⟩, by decide⟩, w_1161, ws_43, rfl, by decide⟩
theorem m_R_operand : q_MV mt_R_operand 8 0 := ⟨⟨w_1151, w_9, by decide +kernel, ⟨by decide +kernel, by decide +kernel, by decide +kernel⟩, by decide⟩, w_1150, ws_41, rfl, by decide⟩
theorem m_R_top : q_MV mt_R_top 8 0 := ⟨⟨w_1181, w_9, by decide +kernel, ⟨by decide +kernel, by decide +kernel, by decide +kernel⟩, by decide⟩, w_1180, ws_47, rfl, by decide⟩
theorem m_R_operator : q_MV mt_R_operator 8 0 := ⟨⟨w_1173, w_9, by decide +kernel, ⟨by decide +kernel, by decide +kernel, by decide +kernel⟩, by decide⟩, w_1172, ws_45, rfl, by decide⟩
theorem m_R_text : q_MV mt_R_text 8 0 := ⟨⟨w_1147, w_9, by decide +kernel, ⟨by decide +kernel, by decide +kernel, by decide +kernel⟩, by decide⟩, w_1145, w_1146, rfl, by decide⟩
theorem m_R_plain : q_MV mt_R_plain 8 0 := ⟨⟨w_1185, w_9, by decide +kernel, ⟨by decide +kernel, by decide +kernel, by decide +kernel⟩, by decide⟩, w_1183, w_1184, rfl, by decide⟩
theorem m_R_factOf : q_MV mt_R_factOf 8 3 := ⟨⟨w_996, w_9, by decide +kernel, ⟨by decide +kernel, by decide +kernel, by decide +kernel⟩, by decide⟩, w_995, ws_28, rfl, by decide⟩
theorem m_R_done : q_MS mt_R_done 3 := ⟨⟨w_999, w_9, by decide +kernel, ⟨by decide +kernel, by decide +kernel, by decide +kernel⟩, by decide⟩, w_998⟩
theorem m_R_says : q_MV mt_R_says 8 2 := ⟨⟨w_992, w_9, by decide +kernel, ⟨by decide +kernel, by decide +kernel, by decide +kernel⟩, by decide⟩, w_991, ws_27, rfl, by decide⟩
theorem m_R_gives : q_MV mt_R_gives 8 1 := ⟨⟨w_1189, w_9, by decide +kernel, ⟨by decide +kernel, by decide +kernel, by decide +kernel⟩, by decide⟩, w_1187, w_1188, rfl, by decide⟩
theorem m_R_seed : q_MV mt_R_seed 8 1 := ⟨⟨w_1193, w_9, by decide +kernel, ⟨by decide +kernel, by decide +kernel, by decide +kernel⟩, by decide⟩, w_1191, w_1192, rfl, by decide⟩
theorem m_R_draw : q_MV mt_R_draw 8 0 := ⟨⟨w_1213, w_9, by decide +kernel, ⟨by decide +kernel, by decide +kernel, by decide +kernel⟩, by decide⟩, w_1212, ws_51, rfl, by decide⟩
theorem m_R_meet : q_MV mt_R_meet 8 1 := ⟨⟨w_1209, w_9, by decide +kernel, ⟨by decide +kernel, by decide +kernel, by decide +kernel⟩, by decide⟩, w_1208, ws_50, rfl, by decide⟩
theorem m_R_night : q_MV mt_R_night 8 0 := ⟨⟨w_1205, w_9, by decide +kernel, ⟨by decide +kernel, by decide +kernel, by decide +kernel⟩, by decide⟩, w_1204, ws_49, rfl, by decide⟩
theorem m_R_goesOn : q_MV mt_R_goesOn 8 1 := ⟨⟨w_1201, w_9, by decide +kernel, ⟨by decide +kernel, by decide +kernel, by decide +kernel⟩, by decide⟩, w_1200, ws_48, rfl, by decide⟩
theorem m_R_nights : q_MV mt_R_nights 8 1 := ⟨⟨w_1197, w_9, by decide +kernel, ⟨by decide +kernel, by decide +kernel, by decide +kernel⟩, by decide⟩, w_1195, w_1196, rfl, by decide⟩
theorem m_R_ahead : q_MV mt_R_ahead 8 2 := ⟨⟨w_1218, w_9, by decide +kernel, ⟨by decide +kernel, by decide +kernel, by decide +kernel⟩, by decide⟩, w_1216, w_1217, rfl, by decide⟩
theorem m_R_purse : q_MV mt_R_purse 8 1 := ⟨⟨w_1222, w_9, by decide +kernel, ⟨by decide +kernel, by decide +kernel, by decide +kernel⟩, by decide⟩, w_1220, w_1221, rfl, by decide⟩
theorem m_R_isSheet : q_MS mt_R_isSheet 1 := ⟨⟨w_1229, w_9, by decide +kernel, ⟨by decide +kernel, by decide +kernel, by decide +kernel⟩, by decide⟩, w_1228⟩
theorem m_R_sheet : q_MV mt_R_sheet 8 3 := ⟨⟨w_1226, w_9, by decide +kernel, ⟨by decide +kernel, by decide +kernel, by decide +kernel⟩, by decide⟩, w_1224, w_1225, rfl, by decide⟩
theorem m_R_write : q_MV mt_R_write 8 3 := ⟨⟨w_1234, w_9, by decide +kernel, ⟨by decide +kernel, by decide +kernel, by decide +kernel⟩, by decide⟩, w_1232, w_1233, rfl, by decide⟩
theorem m_R_has : q_MV mt_R_has 8 3 := ⟨⟨w_1243, w_9, by decide +kernel, ⟨by decide +kernel, by decide +kernel, by decide +kernel⟩, by decide⟩, w_1242, ws_52, rfl, by decide⟩
theorem m_R_copy : q_MV mt_R_copy 8 5 := ⟨⟨w_1239, w_9, by decide +kernel, ⟨by decide +kernel, by decide +kernel, by decide +kernel⟩, by decide⟩, w_1237, w_1238, rfl, by decide⟩
theorem m_R_worths : q_MV mt_R_worths 8 1 := ⟨⟨w_1247, w_9, by decide +kernel, ⟨by decide +kernel, by decide +kernel, by decide +kernel⟩, by decide⟩, w_1245, w_1246, rfl, by decide⟩
theorem m_R_read : q_MV mt_R_read 8 1 := ⟨⟨w_1252, w_9, by decide +kernel, ⟨by decide +kernel, by decide +kernel, by decide +kernel⟩, by decide⟩, w_1250, w_1251, rfl, by decide⟩
theorem m_R_image : q_MV mt_R_image 8 0 := ⟨⟨w_1256, w_9, by decide +kernel, ⟨by decide +kernel, by decide +kernel, by decide +kernel⟩, by decide⟩, w_1254, w_1255, rfl, by decide⟩
theorem m_R_undo : q_MV mt_R_undo 8 0 := ⟨⟨w_1260, w_9, by decide +kernel, ⟨by decide +kernel, by decide +kernel, by decide +kernel⟩, by decide⟩, w_1258, w_1259, rfl, by decide⟩
theorem m_R_tear : q_MV mt_R_tear 8 0 := ⟨⟨w_1264, w_9, by decide +kernel, ⟨by decide +kernel, by decide +kernel, by decide +kernel⟩, by decide⟩, w_1262, w_1263, rfl, by decide⟩
theorem m_R_count : q_MV mt_R_count 8 1 := ⟨⟨w_1268, w_9, by decide +kernel, ⟨by decide +kernel, by decide +kernel, by decide +kernel⟩, by decide⟩, w_1266, w_1267, rfl, by decide⟩
theorem m_R_status : q_MV mt_R_status 8 1 := ⟨⟨w_1272, w_9, by decide +kernel, ⟨by decide +kernel, by decide +kernel, by decide +kernel⟩, by decide⟩, w_1270, w_1271, rfl, by decide⟩
theorem m_D_init : q_MI mt_D_init 0 := ⟨⟨w_24, w_2, by decide +kernel, ⟨by decide +kernel, by decide +kernel, by decide +kernel⟩, by decide⟩, w_23, rfl, rfl⟩
theorem m_D_become : q_MV mt_D_become 0 1 := ⟨⟨w_594, w_2, by decide +kernel, ⟨by decide +kernel, by decide +kernel, by decide +kernel⟩, by decide⟩, w_592, w_593, rfl, by decide⟩
theorem m_D_hasFarm : q_MV mt_D_hasFarm 0 1 := ⟨⟨w_335, w_2, by decide +kernel, ⟨by decide +kernel, by decide +kernel, by decide +kernel⟩, by decide⟩, w_333, w_334, rfl, by decide⟩
theorem m_D_settleFarm : q_MV mt_D_settleFarm 0 3 := ⟨⟨w_323, w_2, by decide +kernel, ⟨by decide +kernel, by decide +kernel, by decide +kernel⟩, by decide⟩, w_321, w_322, rfl, by decide⟩
theorem m_D_passYear : q_MV mt_D_passYear 0 0 := ⟨⟨w_448, w_2, by decide +kernel, ⟨by decide +kernel, by decide +kernel, by decide +kernel⟩, by decide⟩, w_446, w_447, rfl, by decide⟩
theorem m_D_allHours : q_MV mt_D_allHours 0 0 := ⟨⟨w_553, w_2, by decide +kernel, ⟨by decide +kernel, by decide +kernel, by decide +kernel⟩, by decide⟩, w_551, w_552, rfl, by decide⟩
theorem m_D_placeOf : q_MV mt_D_placeOf 0 1 := ⟨⟨w_356, w_2, by decide +kernel, ⟨by decide +kernel, by decide +kernel, by decide +kernel⟩, by decide⟩, w_354, w_355, rfl, by decide⟩
theorem m_D_isOrder : q_MV mt_D_isOrder 0 1 := ⟨⟨w_465, w_2, by decide +kernel, ⟨by decide +kernel, by decide +kernel, by decide +kernel⟩, by decide⟩, w_463, w_464, rfl, by decide⟩
theorem m_D_putOrder : q_MV mt_D_putOrder 0 1 := ⟨⟨w_473, w_2, by decide +kernel, ⟨by decide +kernel, by decide +kernel, by decide +kernel⟩, by decide⟩, w_471, w_472, rfl, by decide⟩
theorem m_D_digit : q_MV mt_D_digit 0 2 := ⟨⟨w_469, w_2, by decide +kernel, ⟨by decide +kernel, by decide +kernel, by decide +kernel⟩, by decide⟩, w_468, ws_4, rfl, by decide⟩
theorem m_D_orderNumber : q_MV mt_D_orderNumber 0 0 := ⟨⟨w_482, w_2, by decide +kernel, ⟨by decide +kernel, by decide +kernel, by decide +kernel⟩, by decide⟩, w_480, w_481, rfl, by decide⟩
theorem m_D_paysOf : q_MV mt_D_paysOf 0 1 := ⟨⟨w_352, w_2, by decide +kernel, ⟨by decide +kernel, by decide +kernel, by decide +kernel⟩, by decide⟩, w_350, w_351, rfl, by decide⟩
theorem m_D_wantsOf : q_MV mt_D_wantsOf 0 1 := ⟨⟨w_401, w_2, by decide +kernel, ⟨by decide +kernel, by decide +kernel, by decide +kernel⟩, by decide⟩, w_399, w_400, rfl, by decide⟩
theorem m_D_paysAt : q_MV mt_D_paysAt 0 2 := ⟨⟨w_360, w_2, by decide +kernel, ⟨by decide +kernel, by decide +kernel, by decide +kernel⟩, by decide⟩, w_358, w_359, rfl, by decide⟩
theorem m_D_meetCount : q_MV mt_D_meetCount 0 0 := ⟨⟨w_561, w_2, by decide +kernel, ⟨by decide +kernel, by decide +kernel, by decide +kernel⟩, by decide⟩, w_559, w_560, rfl, by decide⟩
theorem m_D_weigh : q_MV mt_D_weigh 0 0 := ⟨⟨w_565, w_2, by decide +kernel, ⟨by decide +kernel, by decide +kernel, by decide +kernel⟩, by decide⟩, w_563, w_564, rfl, by decide⟩
theorem m_D_weighMeet : q_MV mt_D_weighMeet 0 5 := ⟨⟨w_503, w_2, by decide +kernel, ⟨by decide +kernel, by decide +kernel, by decide +kernel⟩, by decide⟩, w_501, w_502, rfl, by decide⟩
theorem m_D_loses : q_MV mt_D_loses 0 0 := ⟨⟨w_583, w_2, by decide +kernel, ⟨by decide +kernel, by decide +kernel, by decide +kernel⟩, by decide⟩, w_581, w_582, rfl, by decide⟩
theorem m_D_greatestTakes : q_MV mt_D_greatestTakes 0 0 := ⟨⟨w_617, w_2, by decide +kernel, ⟨by decide +kernel, by decide +kernel, by decide +kernel⟩, by decide⟩, w_615, w_616, rfl, by decide⟩
theorem m_D_takesAtMost : q_MV mt_D_takesAtMost 0 1 := ⟨⟨w_612, w_2, by decide +kernel, ⟨by decide +kernel, by decide +kernel, by decide +kernel⟩, by decide⟩, w_610, w_611, rfl, by decide⟩
theorem m_D_passNights : q_MV mt_D_passNights 0 1 := ⟨⟨w_725, w_2, by decide +kernel, ⟨by decide +kernel, by decide +kernel, by decide +kernel⟩, by decide⟩, w_723, w_724, rfl, by decide⟩
theorem m_D_passMeet : q_MV mt_D_passMeet 0 1 := ⟨⟨w_729, w_2, by decide +kernel, ⟨by decide +kernel, by decide +kernel, by decide +kernel⟩, by decide⟩, w_728, ws_19, rfl, by decide⟩
theorem m_D_draw : q_MV mt_D_draw 0 0 := ⟨⟨w_733, w_2, by decide +kernel, ⟨by decide +kernel, by decide +kernel, by decide +kernel⟩, by decide⟩, w_732, ws_20, rfl, by decide⟩
theorem m_D_richest : q_MV mt_D_richest 0 0 := ⟨⟨w_747, w_2, by decide +kernel, ⟨by decide +kernel, by decide +kernel, by decide +kernel⟩, by decide⟩, w_745, w_746, rfl, by decide⟩
theorem m_D_poorest : q_MV mt_D_poorest 0 0 := ⟨⟨w_751, w_2, by decide +kernel, ⟨by decide +kernel, by decide +kernel, by decide +kernel⟩, by decide⟩, w_749, w_750, rfl, by decide⟩
theorem m_F_init : q_MI mt_F_init 0 := ⟨⟨w_55, w_4, by decide +kernel, ⟨by decide +kernel, by decide +kernel, by decide +kernel⟩, by decide⟩, w_54, rfl, rfl⟩
theorem m_F_begin : q_MV mt_F_begin 1 3 := ⟨⟨w_327, w_4, by decide +kernel, ⟨by decide +kernel, by decide +kernel, by decide +kernel⟩, by decide⟩, w_325, w_326, rfl, by decide⟩
theorem m_F_become : q_MV mt_F_become 1 1 := ⟨⟨w_598, w_4, by decide +kernel, ⟨by decide +kernel, by decide +kernel, by decide +kernel⟩, by decide⟩, w_596, w_597, rfl, by decide⟩
theorem m_F_tell : q_MV mt_F_tell 1 1 := ⟨⟨w_344, w_4, by decide +kernel, ⟨by decide +kernel, by decide +kernel, by decide +kernel⟩, by decide⟩, w_342, w_343, rfl, by decide⟩
theorem m_F_change : q_MV mt_F_change 1 2 := ⟨⟨w_340, w_4, by decide +kernel, ⟨by decide +kernel, by decide +kernel, by decide +kernel⟩, by decide⟩, w_338, w_339, rfl, by decide⟩
theorem m_F_isOf : q_MV mt_F_isOf 1 1 := ⟨⟨w_426, w_4, by decide +kernel, ⟨by decide +kernel, by decide +kernel, by decide +kernel⟩, by decide⟩, w_424, w_425, rfl, by decide⟩
theorem m_F_wants : q_MV mt_F_wants 1 2 := ⟨⟨w_406, w_4, by decide +kernel, ⟨by decide +kernel, by decide +kernel, by decide +kernel⟩, by decide⟩, w_404, w_405, rfl, by decide⟩
theorem m_F_minds : q_MV mt_F_minds 1 0 := ⟨⟨w_413, w_4, by decide +kernel, ⟨by decide +kernel, by decide +kernel, by decide +kernel⟩, by decide⟩, w_411, w_412, rfl, by decide⟩
theorem m_M_init : q_MI mt_M_init 0 := ⟨⟨w_91, w_5, by decide +kernel, ⟨by decide +kernel, by decide +kernel, by decide +kernel⟩, by decide⟩, w_90, rfl, rfl⟩
theorem m_M_settle : q_MV mt_M_settle 2 1 := ⟨⟨w_509, w_5, by decide +kernel, ⟨by decide +kernel, by decide +kernel, by decide +kernel⟩, by decide⟩, w_507, w_508, rfl, by decide⟩
theorem m_M_putChances : q_MV mt_M_putChances 2 4 := ⟨⟨w_513, w_5, by decide +kernel, ⟨by decide +kernel, by decide +kernel, by decide +kernel⟩, by decide⟩, w_512, ws_7, rfl, by decide⟩
theorem m_M_open : q_MV mt_M_open 2 0 := ⟨⟨w_528, w_5, by decide +kernel, ⟨by decide +kernel, by decide +kernel, by decide +kernel⟩, by decide⟩, w_526, w_527, rfl, by decide⟩
theorem m_M_loses : q_MV mt_M_loses 2 1 := ⟨⟨w_524, w_5, by decide +kernel, ⟨by decide +kernel, by decide +kernel, by decide +kernel⟩, by decide⟩, w_522, w_523, rfl, by decide⟩
theorem m_M_tell : q_MV mt_M_tell 2 1 := ⟨⟨w_571, w_5, by decide +kernel, ⟨by decide +kernel, by decide +kernel, by decide +kernel⟩, by decide⟩, w_569, w_570, rfl, by decide⟩
theorem m_M_common : q_MS mt_M_common 2 := ⟨⟨w_574, w_5, by decide +kernel, ⟨by decide +kernel, by decide +kernel, by decide +kernel⟩, by decide⟩, w_573⟩
theorem m_O_init : q_MI mt_O_init 0 := ⟨⟨w_201, w_6, by decide +kernel, ⟨by decide +kernel, by decide +kernel, by decide +kernel⟩, by decide⟩, w_200, rfl, rfl⟩
theorem m_O_search : q_MV mt_O_search 3 1 := ⟨⟨w_490, w_6, by decide +kernel, ⟨by decide +kernel, by decide +kernel, by decide +kernel⟩, by decide⟩, w_488, w_489, rfl, by decide⟩
theorem m_O_layFirst : q_MV mt_O_layFirst 3 1 := ⟨⟨w_538, w_6, by decide +kernel, ⟨by decide +kernel, by decide +kernel, by decide +kernel⟩, by decide⟩, w_537, ws_8, rfl, by decide⟩
theorem m_O_fillPays : q_MV mt_O_fillPays 3 1 := ⟨⟨w_494, w_6, by decide +kernel, ⟨by decide +kernel, by decide +kernel, by decide +kernel⟩, by decide⟩, w_493, ws_5, rfl, by decide⟩
theorem m_O_fillLost : q_MV mt_O_fillLost 3 3 := ⟨⟨w_499, w_6, by decide +kernel, ⟨by decide +kernel, by decide +kernel, by decide +kernel⟩, by decide⟩, w_498, ws_6, rfl, by decide⟩
theorem m_O_index : q_MS mt_O_index 3 := ⟨⟨w_520, w_6, by decide +kernel, ⟨by decide +kernel, by decide +kernel, by decide +kernel⟩, by decide⟩, w_519⟩
theorem m_O_layFrom : q_MS mt_O_layFrom 5 := ⟨⟨w_541, w_6, by decide +kernel, ⟨by decide +kernel, by decide +kernel, by decide +kernel⟩, by decide⟩, w_540⟩
theorem m_O_closeRing : q_MV mt_O_closeRing 3 2 := ⟨⟨w_545, w_6, by decide +kernel, ⟨by decide +kernel, by decide +kernel, by decide +kernel⟩, by decide⟩, w_544, ws_9, rfl, by decide⟩
theorem m_S_init : q_MI mt_S_init 0 := ⟨⟨w_258, w_8, by decide +kernel, ⟨by decide +kernel, by decide +kernel, by decide +kernel⟩, by decide⟩, w_257, rfl, rfl⟩
theorem m_S_has : q_MV mt_S_has 4 1 := ⟨⟨w_759, w_8, by decide +kernel, ⟨by decide +kernel, by decide +kernel, by decide +kernel⟩, by decide⟩, w_757, w_758, rfl, by decide⟩
theorem m_S_isWidth : q_MV mt_S_isWidth 4 1 := ⟨⟨w_764, w_8, by decide +kernel, ⟨by decide +kernel, by decide +kernel, by decide +kernel⟩, by decide⟩, w_762, w_763, rfl, by decide⟩
theorem m_S_isMissing : q_MV mt_S_isMissing 4 1 := ⟨⟨w_777, w_8, by decide +kernel, ⟨by decide +kernel, by decide +kernel, by decide +kernel⟩, by decide⟩, w_775, w_776, rfl, by decide⟩
theorem m_S_lay : q_MV mt_S_lay 4 3 := ⟨⟨w_769, w_8, by decide +kernel, ⟨by decide +kernel, by decide +kernel, by decide +kernel⟩, by decide⟩, w_767, w_768, rfl, by decide⟩
theorem m_S_put : q_MV mt_S_put 4 3 := ⟨⟨w_782, w_8, by decide +kernel, ⟨by decide +kernel, by decide +kernel, by decide +kernel⟩, by decide⟩, w_780, w_781, rfl, by decide⟩
theorem m_S_lowest : q_MS mt_S_lowest 2 := ⟨⟨w_785, w_8, by decide +kernel, ⟨by decide +kernel, by decide +kernel, by decide +kernel⟩, by decide⟩, w_784⟩
theorem m_S_holds : q_MV mt_S_holds 4 3 := ⟨⟨w_793, w_8, by decide +kernel, ⟨by decide +kernel, by decide +kernel, by decide +kernel⟩, by decide⟩, w_791, w_792, rfl, by decide⟩
theorem m_P_init : q_MI mt_P_init 0 := ⟨⟨w_234, w_7, by decide +kernel, ⟨by decide +kernel, by decide +kernel, by decide +kernel⟩, by decide⟩, w_233, rfl, rfl⟩
theorem m_P_append : q_MV mt_P_append 5 1 := ⟨⟨w_645, w_7, by decide +kernel, ⟨by decide +kernel, by decide +kernel, by decide +kernel⟩, by decide⟩, w_643, w_644, rfl, by decide⟩
theorem m_P_parse : q_MV mt_P_parse 5 0 := ⟨⟨w_657, w_7, by decide +kernel, ⟨by decide +kernel, by decide +kernel, by decide +kernel⟩, by decide⟩, w_655, w_656, rfl, by decide⟩
theorem m_P_isSum : q_MV mt_P_isSum 5 1 := ⟨⟨w_661, w_7, by decide +kernel, ⟨by decide +kernel, by decide +kernel, by decide +kernel⟩, by decide⟩, w_660, ws_10, rfl, by decide⟩
theorem m_P_isProduct : q_MV mt_P_isProduct 5 1 := ⟨⟨w_665, w_7, by decide +kernel, ⟨by decide +kernel, by decide +kernel, by decide +kernel⟩, by decide⟩, w_664, ws_11, rfl, by decide⟩
theorem m_P_isFactor : q_MV mt_P_isFactor 5 1 := ⟨⟨w_669, w_7, by decide +kernel, ⟨by decide +kernel, by decide +kernel, by decide +kernel⟩, by decide⟩, w_668, ws_12, rfl, by decide⟩
theorem m_P_isNegated : q_MV mt_P_isNegated 5 1 := ⟨⟨w_694, w_7, by decide +kernel, ⟨by decide +kernel, by decide +kernel, by decide +kernel⟩, by decide⟩, w_693, ws_16, rfl, by decide⟩
theorem m_P_isBracket : q_MV mt_P_isBracket 5 1 := ⟨⟨w_698, w_7, by decide +kernel, ⟨by decide +kernel, by decide +kernel, by decide +kernel⟩, by decide⟩, w_697, ws_17, rfl, by decide⟩
theorem m_P_takeNumber : q_MV mt_P_takeNumber 5 0 := ⟨⟨w_681, w_7, by decide +kernel, ⟨by decide +kernel, by decide +kernel, by decide +kernel⟩, by decide⟩, w_680, ws_14, rfl, by decide⟩
theorem m_P_isDigit : q_MS mt_P_isDigit 1 := ⟨⟨w_677, w_7, by decide +kernel, ⟨by decide +kernel, by decide +kernel, by decide +kernel⟩, by decide⟩, w_676⟩
theorem m_P_passes : q_MV mt_P_passes 5 1 := ⟨⟨w_702, w_7, by decide +kernel, ⟨by decide +kernel, by decide +kernel, by decide +kernel⟩, by decide⟩, w_701, ws_18, rfl, by decide⟩
theorem m_P_isNext : q_MV mt_P_isNext 5 2 := ⟨⟨w_690, w_7, by decide +kernel, ⟨by decide +kernel, by decide +kernel, by decide +kernel⟩, by decide⟩, w_689, ws_15, rfl, by decide⟩
theorem m_P_next : q_MV mt_P_next 5 0 := ⟨⟨w_673, w_7, by decide +kernel, ⟨by decide +kernel, by decide +kernel, by decide +kernel⟩, by decide⟩, w_672, ws_13, rfl, by decide⟩
theorem m_T_init : q_MI mt_T_init 0 := ⟨⟨w_32, w_3, by decide +kernel, ⟨by decide +kernel, by decide +kernel, by decide +kernel⟩, by decide⟩, w_31, rfl, rfl⟩
theorem m_T_isThere : q_MV mt_T_isThere 6 0 := ⟨⟨w_368, w_3, by decide +kernel, ⟨by decide +kernel, by decide +kernel, by decide +kernel⟩, by decide⟩, w_366, w_367, rfl, by decide⟩
theorem m_T_become : q_MV mt_T_become 6 1 := ⟨⟨w_606, w_3, by decide +kernel, ⟨by decide +kernel, by decide +kernel, by decide +kernel⟩, by decide⟩, w_604, w_605, rfl, by decide⟩
theorem m_T_append : q_MV mt_T_append 6 1 := ⟨⟨w_685, w_3, by decide +kernel, ⟨by decide +kernel, by decide +kernel, by decide +kernel⟩, by decide⟩, w_683, w_684, rfl, by decide⟩
theorem m_T_asksPlace : q_MV mt_T_asksPlace 6 0 := ⟨⟨w_534, w_3, by decide +kernel, ⟨by decide +kernel, by decide +kernel, by decide +kernel⟩, by decide⟩, w_532, w_533, rfl, by decide⟩
theorem m_T_valueFor : q_MV mt_T_valueFor 6 3 := ⟨⟨w_364, w_3, by decide +kernel, ⟨by decide +kernel, by decide +kernel, by decide +kernel⟩, by decide⟩, w_362, w_363, rfl, by decide⟩
theorem m_T_isName : q_MS mt_T_isName 1 := ⟨⟨w_375, w_3, by decide +kernel, ⟨by decide +kernel, by decide +kernel, by decide +kernel⟩, by decide⟩, w_374⟩
theorem m_T_named : q_MS mt_T_named 4 := ⟨⟨w_378, w_3, by decide +kernel, ⟨by decide +kernel, by decide +kernel, by decide +kernel⟩, by decide⟩, w_377⟩
theorem m_T_work : q_MV mt_T_work 6 1 := ⟨⟨w_382, w_3, by decide +kernel, ⟨by decide +kernel, by decide +kernel, by decide +kernel⟩, by decide⟩, w_381, ws_2, rfl, by decide⟩
theorem m_T_joined : q_MS mt_T_joined 3 := ⟨⟨w_389, w_3, by decide +kernel, ⟨by decide +kernel, by decide +kernel, by decide +kernel⟩, by decide⟩, w_388⟩
theorem m_T_push : q_MV mt_T_push 6 1 := ⟨⟨w_372, w_3, by decide +kernel, ⟨by decide +kernel, by decide +kernel, by decide +kernel⟩, by decide⟩, w_371, ws_1, rfl, by decide⟩
theorem m_T_pop : q_MV mt_T_pop 6 0 := ⟨⟨w_386, w_3, by decide +kernel, ⟨by decide +kernel, by decide +kernel, by decide +kernel⟩, by decide⟩, w_385, ws_3, rfl, by decide⟩
