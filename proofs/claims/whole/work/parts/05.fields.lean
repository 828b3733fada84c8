theorem fk_in0 : ∀ w ∈ u_ws RX0 TX0 10, w ∈ fb_gT := by
  have h : (u_ws RX0 TX0 10).all (fun w => decide (w ∈ tables_1) && goodWord w) = true := by decide +kernel
  intro w hw
  have h1 := List.all_eq_true.mp h w hw
  simp only [Bool.and_eq_true, decide_eq_true_eq] at h1
  exact List.mem_filter.mpr ⟨List.mem_append_right _ h1.1, h1.2⟩
theorem fk_in1 : ∀ w ∈ u_ws RX1 TX1 7, w ∈ fb_gT := by
  have h : (u_ws RX1 TX1 7).all (fun w => decide (w ∈ tables_1) && goodWord w) = true := by decide +kernel
  intro w hw
  have h1 := List.all_eq_true.mp h w hw
  simp only [Bool.and_eq_true, decide_eq_true_eq] at h1
  exact List.mem_filter.mpr ⟨List.mem_append_right _ h1.1, h1.2⟩
theorem fk_in2 : ∀ w ∈ u_ws RX2 TX2 6, w ∈ fb_gT := by
  have h : (u_ws RX2 TX2 6).all (fun w => decide (w ∈ tables_1) && goodWord w) = true := by decide +kernel
  intro w hw
  have h1 := List.all_eq_true.mp h w hw
  simp only [Bool.and_eq_true, decide_eq_true_eq] at h1
  exact List.mem_filter.mpr ⟨List.mem_append_right _ h1.1, h1.2⟩
theorem fk_in3 : ∀ w ∈ u_ws RX3 TX3 2, w ∈ fb_gT := by
  have h : (u_ws RX3 TX3 2).all (fun w => decide (w ∈ tables_1) && goodWord w) = true := by decide +kernel
  intro w hw
  have h1 := List.all_eq_true.mp h w hw
  simp only [Bool.and_eq_true, decide_eq_true_eq] at h1
  exact List.mem_filter.mpr ⟨List.mem_append_right _ h1.1, h1.2⟩
theorem fk_in4 : ∀ w ∈ u_ws RX4 TX4 5, w ∈ fb_gT := by
  have h : (u_ws RX4 TX4 5).all (fun w => decide (w ∈ tables_1) && goodWord w) = true := by decide +kernel
  intro w hw
  have h1 := List.all_eq_true.mp h w hw
  simp only [Bool.and_eq_true, decide_eq_true_eq] at h1
  exact List.mem_filter.mpr ⟨List.mem_append_right _ h1.1, h1.2⟩
theorem fk_in5 : ∀ w ∈ u_ws RX5 TX5 5, w ∈ fb_gT := by
  have h : (u_ws RX5 TX5 5).all (fun w => decide (w ∈ tables_1) && goodWord w) = true := by decide +kernel
  intro w hw
  have h1 := List.all_eq_true.mp h w hw
  simp only [Bool.and_eq_true, decide_eq_true_eq] at h1
  exact List.mem_filter.mpr ⟨List.mem_append_right _ h1.1, h1.2⟩
theorem fk_in6 : ∀ w ∈ u_ws RX6 TX6 13, w ∈ fb_gT := by
  have h : (u_ws RX6 TX6 13).all (fun w => decide (w ∈ tables_1) && goodWord w) = true := by decide +kernel
  intro w hw
  have h1 := List.all_eq_true.mp h w hw
  simp only [Bool.and_eq_true, decide_eq_true_eq] at h1
  exact List.mem_filter.mpr ⟨List.mem_append_right _ h1.1, h1.2⟩
theorem fk_in7 : ∀ w ∈ u_ws RX7 TX7 13, w ∈ fb_gT := by
  have h : (u_ws RX7 TX7 13).all (fun w => decide (w ∈ tables_1) && goodWord w) = true := by decide +kernel
  intro w hw
  have h1 := List.all_eq_true.mp h w hw
  simp only [Bool.and_eq_true, decide_eq_true_eq] at h1
  exact List.mem_filter.mpr ⟨List.mem_append_right _ h1.1, h1.2⟩
theorem fk_in8 : ∀ w ∈ u_ws RX8 TX8 48, w ∈ fb_gT := by
  have h : (u_ws RX8 TX8 48).all (fun w => decide (w ∈ tables_1) && goodWord w) = true := by decide +kernel
  intro w hw
  have h1 := List.all_eq_true.mp h w hw
  simp only [Bool.and_eq_true, decide_eq_true_eq] at h1
  exact List.mem_filter.mpr ⟨List.mem_append_right _ h1.1, h1.2⟩
theorem fk_g_X7_12 : fb_FL RX7 12 7 0 := ⟨RX7, TX7, 13, rfl, by decide, fk_in7, rfl, Or.inl (fb_mT 243 (by decide +kernel) (by decide +kernel))⟩
theorem fk_g_X7_19 : fb_FL RX7 19 7 1 := ⟨RX7, TX7, 13, rfl, by decide, fk_in7, rfl, Or.inl (fb_mT 244 (by decide +kernel) (by decide +kernel))⟩
theorem fk_g_X7_26 : fb_FL RX7 26 7 2 := ⟨RX7, TX7, 13, rfl, by decide, fk_in7, rfl, Or.inl (fb_mT 245 (by decide +kernel) (by decide +kernel))⟩
theorem fk_g_X7_33 : fb_FL RX7 33 7 3 := ⟨RX7, TX7, 13, rfl, by decide, fk_in7, rfl, Or.inl (fb_mT 246 (by decide +kernel) (by decide +kernel))⟩
theorem fk_g_X7_40 : fb_FL RX7 40 7 4 := ⟨RX7, TX7, 13, rfl, by decide, fk_in7, rfl, Or.inl (fb_mT 247 (by decide +kernel) (by decide +kernel))⟩
theorem fk_g_X7_49 : fb_FL RX7 49 7 5 := ⟨RX7, TX7, 13, rfl, by decide, fk_in7, rfl, Or.inl (fb_mT 248 (by decide +kernel) (by decide +kernel))⟩
theorem fk_g_X7_58 : fb_FL RX7 58 7 6 := ⟨RX7, TX7, 13, rfl, by decide, fk_in7, rfl, Or.inl (fb_mT 249 (by decide +kernel) (by decide +kernel))⟩
theorem fk_g_X7_62 : fb_FL RX7 62 7 7 := ⟨RX7, TX7, 13, rfl, by decide, fk_in7, rfl, Or.inl (fb_mT 250 (by decide +kernel) (by decide +kernel))⟩
theorem fk_g_X7_65 : fb_FL RX7 65 7 8 := ⟨RX7, TX7, 13, rfl, by decide, fk_in7, rfl, Or.inl (fb_mT 251 (by decide +kernel) (by decide +kernel))⟩
theorem fk_p_X7_69 : fb_FP RX7 69 7 9 .int := ⟨RX7, TX7, 13, rfl, by decide, fk_in7, rfl, Or.inl (fb_mT 252 (by decide +kernel) (by decide +kernel)), ⟨tyX7, tyX7_ok⟩, nmX7, rfl, by decide +kernel⟩
theorem fk_g_X7_69 : fb_FL RX7 69 7 9 := fk_p_X7_69.toFL
theorem fk_p_X7_73 : fb_FP RX7 73 7 10 .int := ⟨RX7, TX7, 13, rfl, by decide, fk_in7, rfl, Or.inl (fb_mT 253 (by decide +kernel) (by decide +kernel)), ⟨tyX7, tyX7_ok⟩, nmX7, rfl, by decide +kernel⟩
theorem fk_g_X7_73 : fb_FL RX7 73 7 10 := fk_p_X7_73.toFL
theorem fk_p_X7_76 : fb_FP RX7 76 7 11 .long := ⟨RX7, TX7, 13, rfl, by decide, fk_in7, rfl, Or.inl (fb_mT 254 (by decide +kernel) (by decide +kernel)), ⟨tyX7, tyX7_ok⟩, nmX7, rfl, by decide +kernel⟩
theorem fk_g_X7_76 : fb_FL RX7 76 7 11 := fk_p_X7_76.toFL
theorem fk_p_X7_80 : fb_FP RX7 80 7 12 .long := ⟨RX7, TX7, 13, rfl, by decide, fk_in7, rfl, Or.inl (fb_mT 255 (by decide +kernel) (by decide +kernel)), ⟨tyX7, tyX7_ok⟩, nmX7, rfl, by decide +kernel⟩
theorem fk_g_X7_80 : fb_FL RX7 80 7 12 := fk_p_X7_80.toFL
theorem fk_p_X7_128 : fb_FP RX7 128 6 12 .int := ⟨RX6, TX6, 13, rfl, by decide, fk_in6, rfl, Or.inr ⟨"ForfeitBook", fb_mN 61 (by decide +kernel) (by decide +kernel)⟩, ⟨tyX6, tyX6_ok⟩, nmX6, rfl, by decide +kernel⟩
theorem fk_g_X7_128 : fb_FL RX7 128 6 12 := fk_p_X7_128.toFL
theorem fk_g_X7_138 : fb_FL RX7 138 6 4 := ⟨RX6, TX6, 13, rfl, by decide, fk_in6, rfl, Or.inr ⟨"ForfeitBook", fb_mN 49 (by decide +kernel) (by decide +kernel)⟩⟩
theorem fk_p_X7_150 : fb_FP RX7 150 0 9 .int := ⟨RX0, TX0, 10, rfl, by decide, fk_in0, rfl, Or.inr ⟨"ForfeitBook", fb_mN 110 (by decide +kernel) (by decide +kernel)⟩, ⟨tyX0, tyX0_ok⟩, nmX0, rfl, by decide +kernel⟩
theorem fk_g_X7_150 : fb_FL RX7 150 0 9 := fk_p_X7_150.toFL
theorem fk_g_X7_164 : fb_FL RX7 164 6 2 := ⟨RX6, TX6, 13, rfl, by decide, fk_in6, rfl, Or.inr ⟨"ForfeitBook", fb_mN 46 (by decide +kernel) (by decide +kernel)⟩⟩
theorem fk_g_X7_170 : fb_FL RX7 170 6 1 := ⟨RX6, TX6, 13, rfl, by decide, fk_in6, rfl, Or.inr ⟨"ForfeitBook", fb_mN 44 (by decide +kernel) (by decide +kernel)⟩⟩
theorem fk_g_X7_185 : fb_FL RX7 185 0 3 := ⟨RX0, TX0, 10, rfl, by decide, fk_in0, rfl, Or.inr ⟨"ForfeitBook", fb_mN 102 (by decide +kernel) (by decide +kernel)⟩⟩
theorem fk_g_X7_188 : fb_FL RX7 188 0 4 := ⟨RX0, TX0, 10, rfl, by decide, fk_in0, rfl, Or.inr ⟨"ForfeitBook", fb_mN 104 (by decide +kernel) (by decide +kernel)⟩⟩
theorem fk_g_X7_195 : fb_FL RX7 195 3 0 := ⟨RX3, TX3, 2, rfl, by decide, fk_in3, rfl, Or.inr ⟨"ForfeitBook", fb_mN 28 (by decide +kernel) (by decide +kernel)⟩⟩
theorem fk_g_X7_211 : fb_FL RX7 211 2 2 := ⟨RX2, TX2, 6, rfl, by decide, fk_in2, rfl, Or.inr ⟨"ForfeitBook", fb_mN 199 (by decide +kernel) (by decide +kernel)⟩⟩
theorem fk_g_X7_217 : fb_FL RX7 217 2 4 := ⟨RX2, TX2, 6, rfl, by decide, fk_in2, rfl, Or.inr ⟨"ForfeitBook", fb_mN 202 (by decide +kernel) (by decide +kernel)⟩⟩
theorem fk_p_X7_223 : fb_FP RX7 223 5 4 .int := ⟨RX5, TX5, 5, rfl, by decide, fk_in5, rfl, Or.inr ⟨"ForfeitBook", fb_mN 147 (by decide +kernel) (by decide +kernel)⟩, ⟨tyX5, tyX5_ok⟩, nmX5, rfl, by decide +kernel⟩
theorem fk_g_X7_223 : fb_FL RX7 223 5 4 := fk_p_X7_223.toFL
theorem fk_g_X7_231 : fb_FL RX7 231 5 3 := ⟨RX5, TX5, 5, rfl, by decide, fk_in5, rfl, Or.inr ⟨"ForfeitBook", fb_mN 145 (by decide +kernel) (by decide +kernel)⟩⟩
theorem fk_g_X7_237 : fb_FL RX7 237 5 1 := ⟨RX5, TX5, 5, rfl, by decide, fk_in5, rfl, Or.inr ⟨"ForfeitBook", fb_mN 141 (by decide +kernel) (by decide +kernel)⟩⟩
theorem fk_g_X7_240 : fb_FL RX7 240 5 2 := ⟨RX5, TX5, 5, rfl, by decide, fk_in5, rfl, Or.inr ⟨"ForfeitBook", fb_mN 143 (by decide +kernel) (by decide +kernel)⟩⟩
theorem fk_g_X7_250 : fb_FL RX7 250 4 1 := ⟨RX4, TX4, 5, rfl, by decide, fk_in4, rfl, Or.inr ⟨"ForfeitBook", fb_mN 226 (by decide +kernel) (by decide +kernel)⟩⟩
theorem fk_p_X7_263 : fb_FP RX7 263 4 3 .int := ⟨RX4, TX4, 5, rfl, by decide, fk_in4, rfl, Or.inr ⟨"ForfeitBook", fb_mN 229 (by decide +kernel) (by decide +kernel)⟩, ⟨tyX4, tyX4_ok⟩, nmX4, rfl, by decide +kernel⟩
theorem fk_g_X7_263 : fb_FL RX7 263 4 3 := fk_p_X7_263.toFL
theorem fk_p_X7_266 : fb_FP RX7 266 4 4 .int := ⟨RX4, TX4, 5, rfl, by decide, fk_in4, rfl, Or.inr ⟨"ForfeitBook", fb_mN 231 (by decide +kernel) (by decide +kernel)⟩, ⟨tyX4, tyX4_ok⟩, nmX4, rfl, by decide +kernel⟩
theorem fk_g_X7_266 : fb_FL RX7 266 4 4 := fk_p_X7_266.toFL
theorem fk_g_X7_283 : fb_FL RX7 283 0 1 := ⟨RX0, TX0, 10, rfl, by decide, fk_in0, rfl, Or.inr ⟨"ForfeitBook", fb_mN 98 (by decide +kernel) (by decide +kernel)⟩⟩
theorem fk_g_X7_293 : fb_FL RX7 293 0 2 := ⟨RX0, TX0, 10, rfl, by decide, fk_in0, rfl, Or.inr ⟨"ForfeitBook", fb_mN 100 (by decide +kernel) (by decide +kernel)⟩⟩
theorem fk_g_X7_305 : fb_FL RX7 305 0 0 := ⟨RX0, TX0, 10, rfl, by decide, fk_in0, rfl, Or.inr ⟨"ForfeitBook", fb_mN 96 (by decide +kernel) (by decide +kernel)⟩⟩
theorem fk_p_X7_317 : fb_FP RX7 317 1 6 .int := ⟨RX1, TX1, 7, rfl, by decide, fk_in1, rfl, Or.inr ⟨"ForfeitBook", fb_mN 174 (by decide +kernel) (by decide +kernel)⟩, ⟨tyX1, tyX1_ok⟩, nmX1, rfl, by decide +kernel⟩
theorem fk_g_X7_317 : fb_FL RX7 317 1 6 := fk_p_X7_317.toFL
theorem fk_g_X7_327 : fb_FL RX7 327 1 0 := ⟨RX1, TX1, 7, rfl, by decide, fk_in1, rfl, Or.inr ⟨"ForfeitBook", fb_mN 166 (by decide +kernel) (by decide +kernel)⟩⟩
theorem fk_g_X7_336 : fb_FL RX7 336 6 7 := ⟨RX6, TX6, 13, rfl, by decide, fk_in6, rfl, Or.inr ⟨"ForfeitBook", fb_mN 53 (by decide +kernel) (by decide +kernel)⟩⟩
theorem fk_g_X7_339 : fb_FL RX7 339 1 5 := ⟨RX1, TX1, 7, rfl, by decide, fk_in1, rfl, Or.inr ⟨"ForfeitBook", fb_mN 172 (by decide +kernel) (by decide +kernel)⟩⟩
theorem fk_g_X0_9 : fb_FL RX0 9 0 0 := ⟨RX0, TX0, 10, rfl, by decide, fk_in0, rfl, Or.inl (fb_mT 95 (by decide +kernel) (by decide +kernel))⟩
theorem fk_g_X0_15 : fb_FL RX0 15 0 1 := ⟨RX0, TX0, 10, rfl, by decide, fk_in0, rfl, Or.inl (fb_mT 97 (by decide +kernel) (by decide +kernel))⟩
theorem fk_g_X0_18 : fb_FL RX0 18 0 2 := ⟨RX0, TX0, 10, rfl, by decide, fk_in0, rfl, Or.inl (fb_mT 99 (by decide +kernel) (by decide +kernel))⟩
theorem fk_g_X0_21 : fb_FL RX0 21 0 3 := ⟨RX0, TX0, 10, rfl, by decide, fk_in0, rfl, Or.inl (fb_mT 101 (by decide +kernel) (by decide +kernel))⟩
theorem fk_g_X0_24 : fb_FL RX0 24 0 4 := ⟨RX0, TX0, 10, rfl, by decide, fk_in0, rfl, Or.inl (fb_mT 103 (by decide +kernel) (by decide +kernel))⟩
theorem fk_g_X0_27 : fb_FL RX0 27 0 5 := ⟨RX0, TX0, 10, rfl, by decide, fk_in0, rfl, Or.inl (fb_mT 105 (by decide +kernel) (by decide +kernel))⟩
theorem fk_g_X0_30 : fb_FL RX0 30 0 6 := ⟨RX0, TX0, 10, rfl, by decide, fk_in0, rfl, Or.inl (fb_mT 106 (by decide +kernel) (by decide +kernel))⟩
theorem fk_g_X0_33 : fb_FL RX0 33 0 7 := ⟨RX0, TX0, 10, rfl, by decide, fk_in0, rfl, Or.inl (fb_mT 107 (by decide +kernel) (by decide +kernel))⟩
theorem fk_g_X0_36 : fb_FL RX0 36 0 8 := ⟨RX0, TX0, 10, rfl, by decide, fk_in0, rfl, Or.inl (fb_mT 108 (by decide +kernel) (by decide +kernel))⟩
theorem fk_p_X0_40 : fb_FP RX0 40 0 9 .int := ⟨RX0, TX0, 10, rfl, by decide, fk_in0, rfl, Or.inl (fb_mT 109 (by decide +kernel) (by decide +kernel)), ⟨tyX0, tyX0_ok⟩, nmX0, rfl, by decide +kernel⟩
theorem fk_g_X0_40 : fb_FL RX0 40 0 9 := fk_p_X0_40.toFL
theorem fk_g_X1_9 : fb_FL RX1 9 1 0 := ⟨RX1, TX1, 7, rfl, by decide, fk_in1, rfl, Or.inl (fb_mT 165 (by decide +kernel) (by decide +kernel))⟩
theorem fk_g_X1_15 : fb_FL RX1 15 1 1 := ⟨RX1, TX1, 7, rfl, by decide, fk_in1, rfl, Or.inl (fb_mT 167 (by decide +kernel) (by decide +kernel))⟩
theorem fk_g_X1_18 : fb_FL RX1 18 1 2 := ⟨RX1, TX1, 7, rfl, by decide, fk_in1, rfl, Or.inl (fb_mT 168 (by decide +kernel) (by decide +kernel))⟩
theorem fk_g_X1_21 : fb_FL RX1 21 1 3 := ⟨RX1, TX1, 7, rfl, by decide, fk_in1, rfl, Or.inl (fb_mT 169 (by decide +kernel) (by decide +kernel))⟩
theorem fk_g_X1_24 : fb_FL RX1 24 1 4 := ⟨RX1, TX1, 7, rfl, by decide, fk_in1, rfl, Or.inl (fb_mT 170 (by decide +kernel) (by decide +kernel))⟩
theorem fk_g_X1_27 : fb_FL RX1 27 1 5 := ⟨RX1, TX1, 7, rfl, by decide, fk_in1, rfl, Or.inl (fb_mT 171 (by decide +kernel) (by decide +kernel))⟩
theorem fk_p_X1_30 : fb_FP RX1 30 1 6 .int := ⟨RX1, TX1, 7, rfl, by decide, fk_in1, rfl, Or.inl (fb_mT 173 (by decide +kernel) (by decide +kernel)), ⟨tyX1, tyX1_ok⟩, nmX1, rfl, by decide +kernel⟩
theorem fk_g_X1_30 : fb_FL RX1 30 1 6 := fk_p_X1_30.toFL
theorem fk_g_X2_9 : fb_FL RX2 9 2 2 := ⟨RX2, TX2, 6, rfl, by decide, fk_in2, rfl, Or.inl (fb_mT 198 (by decide +kernel) (by decide +kernel))⟩
theorem fk_g_X2_15 : fb_FL RX2 15 2 3 := ⟨RX2, TX2, 6, rfl, by decide, fk_in2, rfl, Or.inl (fb_mT 200 (by decide +kernel) (by decide +kernel))⟩
theorem fk_g_X2_18 : fb_FL RX2 18 2 4 := ⟨RX2, TX2, 6, rfl, by decide, fk_in2, rfl, Or.inl (fb_mT 201 (by decide +kernel) (by decide +kernel))⟩
theorem fk_p_X2_21 : fb_FP RX2 21 2 5 .int := ⟨RX2, TX2, 6, rfl, by decide, fk_in2, rfl, Or.inl (fb_mT 203 (by decide +kernel) (by decide +kernel)), ⟨tyX2, tyX2_ok⟩, nmX2, rfl, by decide +kernel⟩
theorem fk_g_X2_21 : fb_FL RX2 21 2 5 := fk_p_X2_21.toFL
theorem fk_g_X2_25 : fb_FL RX2 25 2 0 := ⟨RX2, TX2, 6, rfl, by decide, fk_in2, rfl, Or.inl (fb_mT 196 (by decide +kernel) (by decide +kernel))⟩
theorem fk_g_X2_29 : fb_FL RX2 29 2 1 := ⟨RX2, TX2, 6, rfl, by decide, fk_in2, rfl, Or.inl (fb_mT 197 (by decide +kernel) (by decide +kernel))⟩
theorem fk_p_X2_55 : fb_FP RX2 55 6 10 .int := ⟨RX6, TX6, 13, rfl, by decide, fk_in6, rfl, Or.inr ⟨"ForfeitBook", fb_mN 57 (by decide +kernel) (by decide +kernel)⟩, ⟨tyX6, tyX6_ok⟩, nmX6, rfl, by decide +kernel⟩
theorem fk_g_X2_55 : fb_FL RX2 55 6 10 := fk_p_X2_55.toFL
theorem fk_p_X2_71 : fb_FP RX2 71 6 11 .int := ⟨RX6, TX6, 13, rfl, by decide, fk_in6, rfl, Or.inr ⟨"ForfeitBook", fb_mN 59 (by decide +kernel) (by decide +kernel)⟩, ⟨tyX6, tyX6_ok⟩, nmX6, rfl, by decide +kernel⟩
theorem fk_g_X2_71 : fb_FL RX2 71 6 11 := fk_p_X2_71.toFL
theorem fk_g_X3_9 : fb_FL RX3 9 3 0 := ⟨RX3, TX3, 2, rfl, by decide, fk_in3, rfl, Or.inl (fb_mT 27 (by decide +kernel) (by decide +kernel))⟩
theorem fk_g_X3_15 : fb_FL RX3 15 3 1 := ⟨RX3, TX3, 2, rfl, by decide, fk_in3, rfl, Or.inl (fb_mT 29 (by decide +kernel) (by decide +kernel))⟩
theorem fk_g_X4_9 : fb_FL RX4 9 4 1 := ⟨RX4, TX4, 5, rfl, by decide, fk_in4, rfl, Or.inl (fb_mT 225 (by decide +kernel) (by decide +kernel))⟩
theorem fk_p_X4_15 : fb_FP RX4 15 4 2 .int := ⟨RX4, TX4, 5, rfl, by decide, fk_in4, rfl, Or.inl (fb_mT 227 (by decide +kernel) (by decide +kernel)), ⟨tyX4, tyX4_ok⟩, nmX4, rfl, by decide +kernel⟩
theorem fk_g_X4_15 : fb_FL RX4 15 4 2 := fk_p_X4_15.toFL
theorem fk_p_X4_19 : fb_FP RX4 19 4 3 .int := ⟨RX4, TX4, 5, rfl, by decide, fk_in4, rfl, Or.inl (fb_mT 228 (by decide +kernel) (by decide +kernel)), ⟨tyX4, tyX4_ok⟩, nmX4, rfl, by decide +kernel⟩
theorem fk_g_X4_19 : fb_FL RX4 19 4 3 := fk_p_X4_19.toFL
theorem fk_p_X4_22 : fb_FP RX4 22 4 4 .int := ⟨RX4, TX4, 5, rfl, by decide, fk_in4, rfl, Or.inl (fb_mT 230 (by decide +kernel) (by decide +kernel)), ⟨tyX4, tyX4_ok⟩, nmX4, rfl, by decide +kernel⟩
theorem fk_g_X4_22 : fb_FL RX4 22 4 4 := fk_p_X4_22.toFL
theorem fk_g_X4_25 : fb_FL RX4 25 4 0 := ⟨RX4, TX4, 5, rfl, by decide, fk_in4, rfl, Or.inl (fb_mT 224 (by decide +kernel) (by decide +kernel))⟩
theorem fk_p_X4_35 : fb_FP RX4 35 2 5 .int := ⟨RX2, TX2, 6, rfl, by decide, fk_in2, rfl, Or.inr ⟨"ForfeitBook", fb_mN 204 (by decide +kernel) (by decide +kernel)⟩, ⟨tyX2, tyX2_ok⟩, nmX2, rfl, by decide +kernel⟩
theorem fk_g_X4_35 : fb_FL RX4 35 2 5 := fk_p_X4_35.toFL
theorem fk_g_X5_9 : fb_FL RX5 9 5 0 := ⟨RX5, TX5, 5, rfl, by decide, fk_in5, rfl, Or.inl (fb_mT 139 (by decide +kernel) (by decide +kernel))⟩
theorem fk_g_X5_15 : fb_FL RX5 15 5 1 := ⟨RX5, TX5, 5, rfl, by decide, fk_in5, rfl, Or.inl (fb_mT 140 (by decide +kernel) (by decide +kernel))⟩
theorem fk_g_X5_18 : fb_FL RX5 18 5 2 := ⟨RX5, TX5, 5, rfl, by decide, fk_in5, rfl, Or.inl (fb_mT 142 (by decide +kernel) (by decide +kernel))⟩
theorem fk_g_X5_22 : fb_FL RX5 22 5 3 := ⟨RX5, TX5, 5, rfl, by decide, fk_in5, rfl, Or.inl (fb_mT 144 (by decide +kernel) (by decide +kernel))⟩
theorem fk_p_X5_25 : fb_FP RX5 25 5 4 .int := ⟨RX5, TX5, 5, rfl, by decide, fk_in5, rfl, Or.inl (fb_mT 146 (by decide +kernel) (by decide +kernel)), ⟨tyX5, tyX5_ok⟩, nmX5, rfl, by decide +kernel⟩
theorem fk_g_X5_25 : fb_FL RX5 25 5 4 := fk_p_X5_25.toFL
theorem fk_g_X6_9 : fb_FL RX6 9 6 0 := ⟨RX6, TX6, 13, rfl, by decide, fk_in6, rfl, Or.inl (fb_mT 42 (by decide +kernel) (by decide +kernel))⟩
theorem fk_g_X6_15 : fb_FL RX6 15 6 1 := ⟨RX6, TX6, 13, rfl, by decide, fk_in6, rfl, Or.inl (fb_mT 43 (by decide +kernel) (by decide +kernel))⟩
theorem fk_g_X6_18 : fb_FL RX6 18 6 2 := ⟨RX6, TX6, 13, rfl, by decide, fk_in6, rfl, Or.inl (fb_mT 45 (by decide +kernel) (by decide +kernel))⟩
theorem fk_g_X6_21 : fb_FL RX6 21 6 3 := ⟨RX6, TX6, 13, rfl, by decide, fk_in6, rfl, Or.inl (fb_mT 47 (by decide +kernel) (by decide +kernel))⟩
theorem fk_g_X6_24 : fb_FL RX6 24 6 4 := ⟨RX6, TX6, 13, rfl, by decide, fk_in6, rfl, Or.inl (fb_mT 48 (by decide +kernel) (by decide +kernel))⟩
theorem fk_g_X6_27 : fb_FL RX6 27 6 5 := ⟨RX6, TX6, 13, rfl, by decide, fk_in6, rfl, Or.inl (fb_mT 50 (by decide +kernel) (by decide +kernel))⟩
theorem fk_g_X6_30 : fb_FL RX6 30 6 6 := ⟨RX6, TX6, 13, rfl, by decide, fk_in6, rfl, Or.inl (fb_mT 51 (by decide +kernel) (by decide +kernel))⟩
theorem fk_g_X6_33 : fb_FL RX6 33 6 7 := ⟨RX6, TX6, 13, rfl, by decide, fk_in6, rfl, Or.inl (fb_mT 52 (by decide +kernel) (by decide +kernel))⟩
theorem fk_g_X6_36 : fb_FL RX6 36 6 8 := ⟨RX6, TX6, 13, rfl, by decide, fk_in6, rfl, Or.inl (fb_mT 54 (by decide +kernel) (by decide +kernel))⟩
theorem fk_g_X6_39 : fb_FL RX6 39 6 9 := ⟨RX6, TX6, 13, rfl, by decide, fk_in6, rfl, Or.inl (fb_mT 55 (by decide +kernel) (by decide +kernel))⟩
theorem fk_p_X6_42 : fb_FP RX6 42 6 10 .int := ⟨RX6, TX6, 13, rfl, by decide, fk_in6, rfl, Or.inl (fb_mT 56 (by decide +kernel) (by decide +kernel)), ⟨tyX6, tyX6_ok⟩, nmX6, rfl, by decide +kernel⟩
theorem fk_g_X6_42 : fb_FL RX6 42 6 10 := fk_p_X6_42.toFL
theorem fk_p_X6_46 : fb_FP RX6 46 6 11 .int := ⟨RX6, TX6, 13, rfl, by decide, fk_in6, rfl, Or.inl (fb_mT 58 (by decide +kernel) (by decide +kernel)), ⟨tyX6, tyX6_ok⟩, nmX6, rfl, by decide +kernel⟩
theorem fk_g_X6_46 : fb_FL RX6 46 6 11 := fk_p_X6_46.toFL
theorem fk_p_X6_49 : fb_FP RX6 49 6 12 .int := ⟨RX6, TX6, 13, rfl, by decide, fk_in6, rfl, Or.inl (fb_mT 60 (by decide +kernel) (by decide +kernel)), ⟨tyX6, tyX6_ok⟩, nmX6, rfl, by decide +kernel⟩
theorem fk_g_X6_49 : fb_FL RX6 49 6 12 := fk_p_X6_49.toFL
theorem fk_g_X8_7 : fb_FL RX8 7 8 1 := ⟨RX8, TX8, 48, rfl, by decide, fk_in8, rfl, Or.inl (fb_mT 841 (by decide +kernel) (by decide +kernel))⟩
theorem fk_p_X8_13 : fb_FP RX8 13 8 4 .long := ⟨RX8, TX8, 48, rfl, by decide, fk_in8, rfl, Or.inl (fb_mT 844 (by decide +kernel) (by decide +kernel)), ⟨tyX8, tyX8_ok⟩, nmX8, rfl, by decide +kernel⟩
theorem fk_g_X8_13 : fb_FL RX8 13 8 4 := fk_p_X8_13.toFL
theorem fk_g_X8_17 : fb_FL RX8 17 8 5 := ⟨RX8, TX8, 48, rfl, by decide, fk_in8, rfl, Or.inl (fb_mT 845 (by decide +kernel) (by decide +kernel))⟩
theorem fk_g_X8_20 : fb_FL RX8 20 8 6 := ⟨RX8, TX8, 48, rfl, by decide, fk_in8, rfl, Or.inl (fb_mT 846 (by decide +kernel) (by decide +kernel))⟩
theorem fk_g_X8_23 : fb_FL RX8 23 8 7 := ⟨RX8, TX8, 48, rfl, by decide, fk_in8, rfl, Or.inl (fb_mT 847 (by decide +kernel) (by decide +kernel))⟩
theorem fk_g_X8_26 : fb_FL RX8 26 8 9 := ⟨RX8, TX8, 48, rfl, by decide, fk_in8, rfl, Or.inl (fb_mT 849 (by decide +kernel) (by decide +kernel))⟩
theorem fk_g_X8_29 : fb_FL RX8 29 8 10 := ⟨RX8, TX8, 48, rfl, by decide, fk_in8, rfl, Or.inl (fb_mT 850 (by decide +kernel) (by decide +kernel))⟩
theorem fk_g_X8_32 : fb_FL RX8 32 8 11 := ⟨RX8, TX8, 48, rfl, by decide, fk_in8, rfl, Or.inl (fb_mT 851 (by decide +kernel) (by decide +kernel))⟩
theorem fk_g_X8_35 : fb_FL RX8 35 8 12 := ⟨RX8, TX8, 48, rfl, by decide, fk_in8, rfl, Or.inl (fb_mT 852 (by decide +kernel) (by decide +kernel))⟩
theorem fk_g_X8_38 : fb_FL RX8 38 8 13 := ⟨RX8, TX8, 48, rfl, by decide, fk_in8, rfl, Or.inl (fb_mT 853 (by decide +kernel) (by decide +kernel))⟩
theorem fk_g_X8_41 : fb_FL RX8 41 8 15 := ⟨RX8, TX8, 48, rfl, by decide, fk_in8, rfl, Or.inl (fb_mT 855 (by decide +kernel) (by decide +kernel))⟩
theorem fk_g_X8_44 : fb_FL RX8 44 8 16 := ⟨RX8, TX8, 48, rfl, by decide, fk_in8, rfl, Or.inl (fb_mT 856 (by decide +kernel) (by decide +kernel))⟩
theorem fk_g_X8_47 : fb_FL RX8 47 8 17 := ⟨RX8, TX8, 48, rfl, by decide, fk_in8, rfl, Or.inl (fb_mT 857 (by decide +kernel) (by decide +kernel))⟩
theorem fk_g_X8_50 : fb_FL RX8 50 8 18 := ⟨RX8, TX8, 48, rfl, by decide, fk_in8, rfl, Or.inl (fb_mT 858 (by decide +kernel) (by decide +kernel))⟩
theorem fk_g_X8_53 : fb_FL RX8 53 8 19 := ⟨RX8, TX8, 48, rfl, by decide, fk_in8, rfl, Or.inl (fb_mT 859 (by decide +kernel) (by decide +kernel))⟩
theorem fk_g_X8_56 : fb_FL RX8 56 8 20 := ⟨RX8, TX8, 48, rfl, by decide, fk_in8, rfl, Or.inl (fb_mT 860 (by decide +kernel) (by decide +kernel))⟩
theorem fk_g_X8_59 : fb_FL RX8 59 8 21 := ⟨RX8, TX8, 48, rfl, by decide, fk_in8, rfl, Or.inl (fb_mT 861 (by decide +kernel) (by decide +kernel))⟩
theorem fk_g_X8_62 : fb_FL RX8 62 8 22 := ⟨RX8, TX8, 48, rfl, by decide, fk_in8, rfl, Or.inl (fb_mT 862 (by decide +kernel) (by decide +kernel))⟩
theorem fk_g_X8_66 : fb_FL RX8 66 8 28 := ⟨RX8, TX8, 48, rfl, by decide, fk_in8, rfl, Or.inl (fb_mT 868 (by decide +kernel) (by decide +kernel))⟩
theorem fk_g_X8_69 : fb_FL RX8 69 8 29 := ⟨RX8, TX8, 48, rfl, by decide, fk_in8, rfl, Or.inl (fb_mT 869 (by decide +kernel) (by decide +kernel))⟩
theorem fk_g_X8_72 : fb_FL RX8 72 8 30 := ⟨RX8, TX8, 48, rfl, by decide, fk_in8, rfl, Or.inl (fb_mT 870 (by decide +kernel) (by decide +kernel))⟩
theorem fk_g_X8_75 : fb_FL RX8 75 8 31 := ⟨RX8, TX8, 48, rfl, by decide, fk_in8, rfl, Or.inl (fb_mT 871 (by decide +kernel) (by decide +kernel))⟩
theorem fk_g_X8_78 : fb_FL RX8 78 8 35 := ⟨RX8, TX8, 48, rfl, by decide, fk_in8, rfl, Or.inl (fb_mT 875 (by decide +kernel) (by decide +kernel))⟩
theorem fk_g_X8_81 : fb_FL RX8 81 8 39 := ⟨RX8, TX8, 48, rfl, by decide, fk_in8, rfl, Or.inl (fb_mT 879 (by decide +kernel) (by decide +kernel))⟩
theorem fk_g_X8_84 : fb_FL RX8 84 8 40 := ⟨RX8, TX8, 48, rfl, by decide, fk_in8, rfl, Or.inl (fb_mT 880 (by decide +kernel) (by decide +kernel))⟩
theorem fk_g_X8_87 : fb_FL RX8 87 8 41 := ⟨RX8, TX8, 48, rfl, by decide, fk_in8, rfl, Or.inl (fb_mT 881 (by decide +kernel) (by decide +kernel))⟩
theorem fk_g_X8_90 : fb_FL RX8 90 8 42 := ⟨RX8, TX8, 48, rfl, by decide, fk_in8, rfl, Or.inl (fb_mT 882 (by decide +kernel) (by decide +kernel))⟩
theorem fk_g_X8_93 : fb_FL RX8 93 8 43 := ⟨RX8, TX8, 48, rfl, by decide, fk_in8, rfl, Or.inl (fb_mT 883 (by decide +kernel) (by decide +kernel))⟩
theorem fk_g_X8_96 : fb_FL RX8 96 8 44 := ⟨RX8, TX8, 48, rfl, by decide, fk_in8, rfl, Or.inl (fb_mT 884 (by decide +kernel) (by decide +kernel))⟩
theorem fk_p_X8_99 : fb_FP RX8 99 8 0 .int := ⟨RX8, TX8, 48, rfl, by decide, fk_in8, rfl, Or.inl (fb_mT 840 (by decide +kernel) (by decide +kernel)), ⟨tyX8, tyX8_ok⟩, nmX8, rfl, by decide +kernel⟩
theorem fk_g_X8_99 : fb_FL RX8 99 8 0 := fk_p_X8_99.toFL
theorem fk_p_X8_103 : fb_FP RX8 103 8 2 .int := ⟨RX8, TX8, 48, rfl, by decide, fk_in8, rfl, Or.inl (fb_mT 842 (by decide +kernel) (by decide +kernel)), ⟨tyX8, tyX8_ok⟩, nmX8, rfl, by decide +kernel⟩
theorem fk_g_X8_103 : fb_FL RX8 103 8 2 := fk_p_X8_103.toFL
theorem fk_p_X8_106 : fb_FP RX8 106 8 3 .long := ⟨RX8, TX8, 48, rfl, by decide, fk_in8, rfl, Or.inl (fb_mT 843 (by decide +kernel) (by decide +kernel)), ⟨tyX8, tyX8_ok⟩, nmX8, rfl, by decide +kernel⟩
theorem fk_g_X8_106 : fb_FL RX8 106 8 3 := fk_p_X8_106.toFL
theorem fk_p_X8_124 : fb_FP RX8 124 8 8 .int := ⟨RX8, TX8, 48, rfl, by decide, fk_in8, rfl, Or.inl (fb_mT 848 (by decide +kernel) (by decide +kernel)), ⟨tyX8, tyX8_ok⟩, nmX8, rfl, by decide +kernel⟩
theorem fk_g_X8_124 : fb_FL RX8 124 8 8 := fk_p_X8_124.toFL
theorem fk_p_X8_150 : fb_FP RX8 150 8 14 .int := ⟨RX8, TX8, 48, rfl, by decide, fk_in8, rfl, Or.inl (fb_mT 854 (by decide +kernel) (by decide +kernel)), ⟨tyX8, tyX8_ok⟩, nmX8, rfl, by decide +kernel⟩
theorem fk_g_X8_150 : fb_FL RX8 150 8 14 := fk_p_X8_150.toFL
theorem fk_p_X8_182 : fb_FP RX8 182 8 23 .int := ⟨RX8, TX8, 48, rfl, by decide, fk_in8, rfl, Or.inl (fb_mT 863 (by decide +kernel) (by decide +kernel)), ⟨tyX8, tyX8_ok⟩, nmX8, rfl, by decide +kernel⟩
theorem fk_g_X8_182 : fb_FL RX8 182 8 23 := fk_p_X8_182.toFL
theorem fk_p_X8_188 : fb_FP RX8 188 8 24 .int := ⟨RX8, TX8, 48, rfl, by decide, fk_in8, rfl, Or.inl (fb_mT 864 (by decide +kernel) (by decide +kernel)), ⟨tyX8, tyX8_ok⟩, nmX8, rfl, by decide +kernel⟩
theorem fk_g_X8_188 : fb_FL RX8 188 8 24 := fk_p_X8_188.toFL
theorem fk_p_X8_191 : fb_FP RX8 191 8 25 .int := ⟨RX8, TX8, 48, rfl, by decide, fk_in8, rfl, Or.inl (fb_mT 865 (by decide +kernel) (by decide +kernel)), ⟨tyX8, tyX8_ok⟩, nmX8, rfl, by decide +kernel⟩
theorem fk_g_X8_191 : fb_FL RX8 191 8 25 := fk_p_X8_191.toFL
theorem fk_p_X8_204 : fb_FP RX8 204 8 26 .int := ⟨RX8, TX8, 48, rfl, by decide, fk_in8, rfl, Or.inl (fb_mT 866 (by decide +kernel) (by decide +kernel)), ⟨tyX8, tyX8_ok⟩, nmX8, rfl, by decide +kernel⟩
theorem fk_g_X8_204 : fb_FL RX8 204 8 26 := fk_p_X8_204.toFL
theorem fk_p_X8_226 : fb_FP RX8 226 8 27 .int := ⟨RX8, TX8, 48, rfl, by decide, fk_in8, rfl, Or.inl (fb_mT 867 (by decide +kernel) (by decide +kernel)), ⟨tyX8, tyX8_ok⟩, nmX8, rfl, by decide +kernel⟩
theorem fk_g_X8_226 : fb_FL RX8 226 8 27 := fk_p_X8_226.toFL
theorem fk_p_X8_243 : fb_FP RX8 243 8 32 .int := ⟨RX8, TX8, 48, rfl, by decide, fk_in8, rfl, Or.inl (fb_mT 872 (by decide +kernel) (by decide +kernel)), ⟨tyX8, tyX8_ok⟩, nmX8, rfl, by decide +kernel⟩
theorem fk_g_X8_243 : fb_FL RX8 243 8 32 := fk_p_X8_243.toFL
theorem fk_p_X8_246 : fb_FP RX8 246 8 34 .int := ⟨RX8, TX8, 48, rfl, by decide, fk_in8, rfl, Or.inl (fb_mT 874 (by decide +kernel) (by decide +kernel)), ⟨tyX8, tyX8_ok⟩, nmX8, rfl, by decide +kernel⟩
theorem fk_g_X8_246 : fb_FL RX8 246 8 34 := fk_p_X8_246.toFL
theorem fk_p_X8_249 : fb_FP RX8 249 8 33 .int := ⟨RX8, TX8, 48, rfl, by decide, fk_in8, rfl, Or.inl (fb_mT 873 (by decide +kernel) (by decide +kernel)), ⟨tyX8, tyX8_ok⟩, nmX8, rfl, by decide +kernel⟩
theorem fk_g_X8_249 : fb_FL RX8 249 8 33 := fk_p_X8_249.toFL
theorem fk_p_X8_264 : fb_FP RX8 264 8 36 .int := ⟨RX8, TX8, 48, rfl, by decide, fk_in8, rfl, Or.inl (fb_mT 876 (by decide +kernel) (by decide +kernel)), ⟨tyX8, tyX8_ok⟩, nmX8, rfl, by decide +kernel⟩
theorem fk_g_X8_264 : fb_FL RX8 264 8 36 := fk_p_X8_264.toFL
theorem fk_p_X8_267 : fb_FP RX8 267 8 37 .int := ⟨RX8, TX8, 48, rfl, by decide, fk_in8, rfl, Or.inl (fb_mT 877 (by decide +kernel) (by decide +kernel)), ⟨tyX8, tyX8_ok⟩, nmX8, rfl, by decide +kernel⟩
theorem fk_g_X8_267 : fb_FL RX8 267 8 37 := fk_p_X8_267.toFL
theorem fk_p_X8_284 : fb_FP RX8 284 8 38 .int := ⟨RX8, TX8, 48, rfl, by decide, fk_in8, rfl, Or.inl (fb_mT 878 (by decide +kernel) (by decide +kernel)), ⟨tyX8, tyX8_ok⟩, nmX8, rfl, by decide +kernel⟩
theorem fk_g_X8_284 : fb_FL RX8 284 8 38 := fk_p_X8_284.toFL
theorem fk_p_X8_290 : fb_FP RX8 290 8 45 .int := ⟨RX8, TX8, 48, rfl, by decide, fk_in8, rfl, Or.inl (fb_mT 885 (by decide +kernel) (by decide +kernel)), ⟨tyX8, tyX8_ok⟩, nmX8, rfl, by decide +kernel⟩
theorem fk_g_X8_290 : fb_FL RX8 290 8 45 := fk_p_X8_290.toFL
theorem fk_p_X8_293 : fb_FP RX8 293 8 46 .int := ⟨RX8, TX8, 48, rfl, by decide, fk_in8, rfl, Or.inl (fb_mT 886 (by decide +kernel) (by decide +kernel)), ⟨tyX8, tyX8_ok⟩, nmX8, rfl, by decide +kernel⟩
theorem fk_g_X8_293 : fb_FL RX8 293 8 46 := fk_p_X8_293.toFL
theorem fk_p_X8_308 : fb_FP RX8 308 8 47 .long := ⟨RX8, TX8, 48, rfl, by decide, fk_in8, rfl, Or.inl (fb_mT 887 (by decide +kernel) (by decide +kernel)), ⟨tyX8, tyX8_ok⟩, nmX8, rfl, by decide +kernel⟩
theorem fk_g_X8_308 : fb_FL RX8 308 8 47 := fk_p_X8_308.toFL
