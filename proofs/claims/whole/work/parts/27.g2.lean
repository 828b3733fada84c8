theorem c_X8_told {l : Launch} {w : fb_Wd} {P : Int32 → fb_Wd → Prop} {nt nd nx ng : Nat} (hN : fd_N (mD w) nt nd nx ng) (hT : fd_T (mD w) nt) (hAA : ∀ d, d < nd → fd_A (mD w) nt d (fd_m (mD w) d)) {t q : Int32} (hb : ¬ ((∃ j, j < nt ∧ t = nI j) ∧ 0 ≤ q ∧ q ≤ 6) → P (-1) w) (hg : ∀ j k, j < nt → t = nI j → k ≤ 6 → q = nI k → P 1 (fb_up w 46 2 (fs_tt (mD w) nt j k))) : fb_Can l tX8_told [.ref 46, .int t, .int q] w (fb_kI P) := by
  refine fb_intro 0 fk_t_X8_told (by decide) rfl (fun X hX h => ?_)
  subst hX
  change fb_AW tX8_told X 0 [some (.ref 46), some (.int t), some (.int q)] [] w
  refine fw_aload_n h rfl rfl ?_
  refine fw_iload_n h rfl rfl ?_
  refine fw_v1I h rfl fk_v_X8_isThing fk_l_X8_130 rfl rfl rfl rfl ?_
  refine c_X8_isThing hN.1.1 hN.1.2 (fun j hj e => ?_) (fun c2 => ?_)
  · refine fw_if_eq h rfl (fun c => absurd c (by decide)) (fun _ => ?_)
    refine fw_iload_n h rfl rfl ?_
    refine fw_iconst h (nI 0) rfl (by decide) ?_
    refine fw_bipush h (nI 6) rfl (by decide) ?_
    refine fw_s3I h rfl fk_s_X8_in fk_l_X8_109 rfl rfl ?_
    refine c_X8_in (fun c12a c12b => ?_) (fun c12 => ?_)
    · refine fw_if_eq h rfl (fun c => absurd c (by decide)) (fun _ => ?_)
      obtain ⟨k, hk, ek⟩ := nI_ofle (n := 6) c12a c12b (by decide)
      subst e; subst ek
      refine fw_aload_n h rfl rfl ?_
      refine fw_aload_n h rfl rfl ?_
      refine fw_iload_n h rfl rfl ?_
      refine fw_iload_n h rfl rfl ?_
      refine fw_v2I h rfl fk_v_X8_thingTells fk_l_X8_143 rfl rfl rfl rfl ?_
      refine c_X8_thingTells hN.1.2 hN.1.1 (fd_wh hT) hj hk ?_
      refine fw_iconst h (nI 1) rfl (by decide) ?_
      refine fw_v2I h rfl fk_v_X8_ask fk_l_X8_147 rfl rfl rfl rfl ?_
      refine c_X8_ask ?_
      refine fw_goto h rfl ?_
      exact fw_iret h rfl rfl ⟨_, rfl, hg j k hj rfl hk rfl⟩
    · refine fw_if_eq h rfl (fun _ => ?_) (fun c => absurd c (by decide))
      refine fw_iconst h (-1) rfl (by decide) ?_
      exact fw_iret h rfl rfl ⟨_, rfl, hb (fun z => by first | exact c2 z.1 | exact c12 z.2)⟩
  · refine fw_if_eq h rfl (fun _ => ?_) (fun c => absurd c (by decide))
    refine fw_iconst h (-1) rfl (by decide) ?_
    exact fw_iret h rfl rfl ⟨_, rfl, hb (fun z => by first | exact c2 z.1 | exact c12 z.2)⟩
theorem c_X8_deathTold {l : Launch} {w : fb_Wd} {P : Int32 → fb_Wd → Prop} {nt nd nx ng : Nat} (hN : fd_N (mD w) nt nd nx ng) (hT : fd_T (mD w) nt) (hAA : ∀ d, d < nd → fd_A (mD w) nt d (fd_m (mD w) d)) {d q : Int32} (hb : ¬ ((∃ j, j < nd ∧ d = nI j) ∧ 0 ≤ q ∧ q ≤ 5) → P (-1) w) (hg : ∀ j k, j < nd → d = nI j → k ≤ 5 → q = nI k → P 1 (fb_up w 46 2 (fs_dt (mD w) j (fd_m (mD w) j) k))) : fb_Can l tX8_deathTold [.ref 46, .int d, .int q] w (fb_kI P) := by
  refine fb_intro 0 fk_t_X8_deathTold (by decide) rfl (fun X hX h => ?_)
  subst hX
  change fb_AW tX8_deathTold X 0 [some (.ref 46), some (.int d), some (.int q)] [] w
  refine fw_aload_n h rfl rfl ?_
  refine fw_iload_n h rfl rfl ?_
  refine fw_v1I h rfl fk_v_X8_isDeath fk_l_X8_163 rfl rfl rfl rfl ?_
  refine c_X8_isDeath hN.2.1.1 (by have := hN.2.1.2; omega) (fun j hj e => ?_) (fun c2 => ?_)
  · refine fw_if_eq h rfl (fun c => absurd c (by decide)) (fun _ => ?_)
    refine fw_iload_n h rfl rfl ?_
    refine fw_iconst h (nI 0) rfl (by decide) ?_
    refine fw_iconst h (nI 5) rfl (by decide) ?_
    refine fw_s3I h rfl fk_s_X8_in fk_l_X8_109 rfl rfl ?_
    refine c_X8_in (fun c11a c11b => ?_) (fun c11 => ?_)
    · refine fw_if_eq h rfl (fun c => absurd c (by decide)) (fun _ => ?_)
      obtain ⟨k, hk, ek⟩ := nI_ofle (n := 5) c11a c11b (by decide)
      subst e; subst ek
      refine fw_aload_n h rfl rfl ?_
      refine fw_aload_n h rfl rfl ?_
      refine fw_iload_n h rfl rfl ?_
      refine fw_iload_n h rfl rfl ?_
      refine fw_v2I h rfl fk_v_X8_deathTells fk_l_X8_179 rfl rfl rfl rfl ?_
      refine c_X8_deathTells (by have := hN.2.1.2; omega) (hAA j hj).1 (hAA j hj).2.1 hk ?_
      refine fw_iconst h (nI 1) rfl (by decide) ?_
      refine fw_v2I h rfl fk_v_X8_ask fk_l_X8_147 rfl rfl rfl rfl ?_
      refine c_X8_ask ?_
      refine fw_goto h rfl ?_
      exact fw_iret h rfl rfl ⟨_, rfl, hg j k hj rfl hk rfl⟩
    · refine fw_if_eq h rfl (fun _ => ?_) (fun c => absurd c (by decide))
      refine fw_iconst h (-1) rfl (by decide) ?_
      exact fw_iret h rfl rfl ⟨_, rfl, hb (fun z => by first | exact c2 z.1 | exact c11 z.2)⟩
  · refine fw_if_eq h rfl (fun _ => ?_) (fun c => absurd c (by decide))
    refine fw_iconst h (-1) rfl (by decide) ?_
    exact fw_iret h rfl rfl ⟨_, rfl, hb (fun z => by first | exact c2 z.1 | exact c11 z.2)⟩
theorem c_X8_count {l : Launch} {w : fb_Wd} {P : Int32 → fb_Wd → Prop} {nt nd nx ng : Nat} (hN : fd_N (mD w) nt nd nx ng) (hT : fd_T (mD w) nt) (hAA : ∀ d, d < nd → fd_A (mD w) nt d (fd_m (mD w) d)) {q : Int32} (hb : ¬ (0 ≤ q ∧ q ≤ 5) → P (-1) w) (hg : ∀ k, k ≤ 5 → q = nI k → P (fs_ct (mD w) nd (fm_rn w) k) w) : fb_Can l tX8_count [.ref 46, .int q] w (fb_kI P) := by
  refine fb_intro 0 fk_t_X8_count (by decide) rfl (fun X hX h => ?_)
  subst hX
  change fb_AW tX8_count X 0 [some (.ref 46), some (.int q)] [] w
  refine fw_iload_n h rfl rfl ?_
  refine fw_iconst h (nI 0) rfl (by decide) ?_
  refine fw_iconst h (nI 5) rfl (by decide) ?_
  refine fw_s3I h rfl fk_s_X8_in fk_l_X8_109 rfl rfl ?_
  refine c_X8_in (fun c3a c3b => ?_) (fun c3 => ?_)
  · refine fw_if_eq h rfl (fun c => absurd c (by decide)) (fun _ => ?_)
    obtain ⟨k, hk, ek⟩ := nI_ofle (n := 5) c3a c3b (by decide)
    subst ek
    refine fw_aload_n h rfl rfl ?_
    refine fw_iload_n h rfl rfl ?_
    refine fw_v1I h rfl fk_v_X8_counts fk_l_X8_303 rfl rfl rfl rfl ?_
    refine c_X8_counts hN.2.1.1 hN.2.1.2 hk ?_
    refine fw_goto h rfl ?_
    exact fw_iret h rfl rfl ⟨_, rfl, hg k hk rfl⟩
  · refine fw_if_eq h rfl (fun _ => ?_) (fun c => absurd c (by decide))
    refine fw_iconst h (-1) rfl (by decide) ?_
    exact fw_iret h rfl rfl ⟨_, rfl, hb c3⟩
theorem c_X8_isReading {l : Launch} {w : fb_Wd} {P : Int32 → fb_Wd → Prop} {nt nd nx ng : Nat} (hN : fd_N (mD w) nt nd nx ng) (hT : fd_T (mD w) nt) (hAA : ∀ d, d < nd → fd_A (mD w) nt d (fd_m (mD w) d)) {d r : Int32} (ht : ∀ j k, j < nd → d = nI j → k < 2 ^ fp_dbt (mD w 12) j (fd_m (mD w) j) → r = nI k → P 1 w) (hf : ¬ (∃ j k, j < nd ∧ d = nI j ∧ k < 2 ^ fp_dbt (mD w 12) j (fd_m (mD w) j) ∧ r = nI k) → P 0 w) : fb_Can l tX8_isReading [.ref 46, .int d, .int r] w (fb_kI P) := by
  refine fb_intro 0 fk_t_X8_isReading (by decide) rfl (fun X hX h => ?_)
  subst hX
  change fb_AW tX8_isReading X 0 [some (.ref 46), some (.int d), some (.int r)] [] w
  refine fw_aload_n h rfl rfl ?_
  refine fw_iload_n h rfl rfl ?_
  refine fw_v1I h rfl fk_v_X8_isDeath fk_l_X8_163 rfl rfl rfl rfl ?_
  refine c_X8_isDeath hN.2.1.1 (by have := hN.2.1.2; omega) (fun j hj e => ?_) (fun c2 => ?_)
  · refine fw_if_eq h rfl (fun c => absurd c (by decide)) (fun _ => ?_)
    subst e
    have h5 : fp_dbt (mD w 12) j (fd_m (mD w) j) ≤ 5 := (hAA j hj).2.2.2
    have h32 : 2 ^ fp_dbt (mD w 12) j (fd_m (mD w) j) ≤ 2 ^ 5 := Nat.pow_le_pow_right (by decide) h5
    have hnd := hN.2.1.2
    refine fw_iload_n h rfl rfl ?_
    refine fw_iconst h (nI 0) rfl (by decide) ?_
    refine fw_aload_n h rfl rfl ?_
    refine fw_iload_n h rfl rfl ?_
    refine fw_v1I h rfl fk_v_X8_readings fk_l_X8_176 rfl rfl rfl rfl ?_
    refine c_X8_readings (by have := hN.2.1.2; omega) (hAA j hj).1 (hAA j hj).2.1 ?_
    refine fw_iconst h (nI 1) rfl (by decide) ?_
    refine fw_isub h rfl ?_
    refine fw_s3I h rfl fk_s_X8_in fk_l_X8_109 rfl rfl ?_
    refine c_X8_in (fun c17a c17b => ?_) (fun c17 => ?_)
    · refine fw_if_eq h rfl (fun c => absurd c (by decide)) (fun _ => ?_)
      refine fw_iconst h (nI 1) rfl (by decide) ?_
      refine fw_goto h rfl ?_
      exact fw_zret h rfl rfl (by first | exact Or.inl rfl | exact Or.inr rfl | assumption) ⟨_, rfl, by obtain ⟨k, hk, ek⟩ := (fp_below (n := 2 ^ fp_dbt (mD w 12) j (fd_m (mD w) j)) (by omega)).mp (And.intro c17a c17b); exact ht j k hj rfl hk ek⟩
    · refine fw_if_eq h rfl (fun _ => ?_) (fun c => absurd c (by decide))
      refine fw_iconst h (nI 0) rfl (by decide) ?_
      exact fw_zret h rfl rfl (by first | exact Or.inl rfl | exact Or.inr rfl | assumption) ⟨_, rfl, hf (by first | (rintro ⟨j2, k2, z1, z2, -⟩; exact c2 ⟨j2, z1, z2⟩) | (rintro ⟨j2, k2, z1, z2, z3, z4⟩; have e2 := (nI_eq (by omega) (by omega)).mp z2; subst e2; exact c17 ((fp_below (n := 2 ^ fp_dbt (mD w 12) j (fd_m (mD w) j)) (by omega)).mpr ⟨k2, z3, z4⟩)))⟩
  · refine fw_if_eq h rfl (fun _ => ?_) (fun c => absurd c (by decide))
    refine fw_iconst h (nI 0) rfl (by decide) ?_
    exact fw_zret h rfl rfl (by first | exact Or.inl rfl | exact Or.inr rfl | assumption) ⟨_, rfl, hf (by first | (rintro ⟨j2, k2, z1, z2, -⟩; exact c2 ⟨j2, z1, z2⟩) | (rintro ⟨j2, k2, z1, z2, z3, z4⟩; have e2 := (nI_eq (by omega) (by omega)).mp z2; subst e2; exact c17 ((fp_below (n := 2 ^ fp_dbt (mD w 12) j (fd_m (mD w) j)) (by omega)).mpr ⟨k2, z3, z4⟩)))⟩
theorem c_X8_moving {l : Launch} {w : fb_Wd} {P : Int32 → fb_Wd → Prop} {nt nd nx ng : Nat} (hN : fd_N (mD w) nt nd nx ng) (hT : fd_T (mD w) nt) (hAA : ∀ d, d < nd → fd_A (mD w) nt d (fd_m (mD w) d)) {d r : Int32} (hb : ¬ (∃ j k, j < nd ∧ d = nI j ∧ k < 2 ^ fp_dbt (mD w 12) j (fd_m (mD w) j) ∧ r = nI k) → P (-1) w) (hg : ∀ j k, j < nd → d = nI j → k < 2 ^ fp_dbt (mD w 12) j (fd_m (mD w) j) → r = nI k → ∀ a b c e, P (fp_bits (fs_mv (mD w) nt j (fd_m (mD w) j) (fs_so (mD w) j (nI k) (fd_m (mD w) j))) 20) (fb_up (fb_m4 w a b c e) 46 2 (fs_mv (mD w) nt j (fd_m (mD w) j) (fs_so (mD w) j (nI k) (fd_m (mD w) j))))) : fb_Can l tX8_moving [.ref 46, .int d, .int r] w (fb_kI P) := by
  refine fb_intro 0 fk_t_X8_moving (by decide) rfl (fun X hX h => ?_)
  subst hX
  change fb_AW tX8_moving X 0 [some (.ref 46), some (.int d), some (.int r)] [] w
  refine fw_aload_n h rfl rfl ?_
  refine fw_iload_n h rfl rfl ?_
  refine fw_iload_n h rfl rfl ?_
  refine fw_v2I h rfl fk_v_X8_isReading fk_l_X8_213 rfl rfl rfl rfl ?_
  refine c_X8_isReading hN hT hAA (fun j k hj ej hk ek => ?_) (fun c3 => ?_)
  · refine fw_if_ne h rfl (fun _ => ?_) (fun c => absurd c (by decide))
    refine fw_aload_n h rfl rfl ?_
    refine fw_iload_n h rfl rfl ?_
    refine fw_iload_n h rfl rfl ?_
    refine fw_v2V h rfl fk_v_X8_lays fk_l_X8_216 rfl rfl rfl rfl ?_
    subst ej; subst ek
    refine c_X8_lays hN hT (hAA j hj) (by have := hN.2.1.2; omega) ?_
    refine fw_aload_n h rfl rfl ?_
    refine fw_aload_n h rfl rfl ?_
    refine fw_getI h rfl fk_g_X8_188 rfl rfl ?_
    refine fw_aload_n h rfl rfl ?_
    refine fw_getI h rfl fk_g_X8_188 rfl rfl ?_
    refine fw_s1I h rfl fk_s_X8_bits fk_l_X8_220 rfl rfl ?_
    refine c_X8_bits ?_
    refine fw_v2I h rfl fk_v_X8_ask fk_l_X8_147 rfl rfl rfl rfl ?_
    refine c_X8_ask ?_
    exact fw_iret h rfl rfl ⟨_, rfl, by first | exact hb c3 | exact hg j k hj rfl hk rfl _ _ _ _⟩
  · refine fw_if_ne h rfl (fun c => absurd c (by decide)) (fun _ => ?_)
    refine fw_iconst h (-1) rfl (by decide) ?_
    exact fw_iret h rfl rfl ⟨_, rfl, by first | exact hb c3 | exact hg j k hj rfl hk rfl _ _ _ _⟩
theorem c_X8_blame {l : Launch} {w : fb_Wd} {P : Int32 → fb_Wd → Prop} {nt nd nx ng : Nat} (hN : fd_N (mD w) nt nd nx ng) (hT : fd_T (mD w) nt) (hAA : ∀ d, d < nd → fd_A (mD w) nt d (fd_m (mD w) d)) {d r : Int32} (hb : ¬ (∃ j k, j < nd ∧ d = nI j ∧ k < 2 ^ fp_dbt (mD w 12) j (fd_m (mD w) j) ∧ r = nI k) → P (-1) w) (hg : ∀ j k, j < nd → d = nI j → k < 2 ^ fp_dbt (mD w 12) j (fd_m (mD w) j) → r = nI k → ∀ a b c e, P (fp_bits (fs_bl (mD w) nt j (fd_m (mD w) j) (fs_so (mD w) j (nI k) (fd_m (mD w) j))) 20) (fb_up (fb_m4 w a b c e) 46 2 (fs_bl (mD w) nt j (fd_m (mD w) j) (fs_so (mD w) j (nI k) (fd_m (mD w) j))))) : fb_Can l tX8_blame [.ref 46, .int d, .int r] w (fb_kI P) := by
  refine fb_intro 0 fk_t_X8_blame (by decide) rfl (fun X hX h => ?_)
  subst hX
  change fb_AW tX8_blame X 0 [some (.ref 46), some (.int d), some (.int r)] [] w
  refine fw_aload_n h rfl rfl ?_
  refine fw_iload_n h rfl rfl ?_
  refine fw_iload_n h rfl rfl ?_
  refine fw_v2I h rfl fk_v_X8_isReading fk_l_X8_213 rfl rfl rfl rfl ?_
  refine c_X8_isReading hN hT hAA (fun j k hj ej hk ek => ?_) (fun c3 => ?_)
  · refine fw_if_ne h rfl (fun _ => ?_) (fun c => absurd c (by decide))
    refine fw_aload_n h rfl rfl ?_
    refine fw_iload_n h rfl rfl ?_
    refine fw_iload_n h rfl rfl ?_
    refine fw_v2V h rfl fk_v_X8_lays fk_l_X8_216 rfl rfl rfl rfl ?_
    subst ej; subst ek
    refine c_X8_lays hN hT (hAA j hj) (by have := hN.2.1.2; omega) ?_
    refine fw_aload_n h rfl rfl ?_
    refine fw_aload_n h rfl rfl ?_
    refine fw_getI h rfl fk_g_X8_204 rfl rfl ?_
    refine fw_aload_n h rfl rfl ?_
    refine fw_getI h rfl fk_g_X8_204 rfl rfl ?_
    refine fw_s1I h rfl fk_s_X8_bits fk_l_X8_220 rfl rfl ?_
    refine c_X8_bits ?_
    refine fw_v2I h rfl fk_v_X8_ask fk_l_X8_147 rfl rfl rfl rfl ?_
    refine c_X8_ask ?_
    exact fw_iret h rfl rfl ⟨_, rfl, by first | exact hb c3 | exact hg j k hj rfl hk rfl _ _ _ _⟩
  · refine fw_if_ne h rfl (fun c => absurd c (by decide)) (fun _ => ?_)
    refine fw_iconst h (-1) rfl (by decide) ?_
    exact fw_iret h rfl rfl ⟨_, rfl, by first | exact hb c3 | exact hg j k hj rfl hk rfl _ _ _ _⟩
theorem c_X8_due {l : Launch} {w : fb_Wd} {P : Int32 → fb_Wd → Prop} {nt nd nx ng : Nat} (hN : fd_N (mD w) nt nd nx ng) (hT : fd_T (mD w) nt) (hAA : ∀ d, d < nd → fd_A (mD w) nt d (fd_m (mD w) d)) {d : Int32} (hb : ¬ (∃ j, j < nd ∧ d = nI j) → P (-1) w) (hg : ∀ j, j < nd → d = nI j → ∀ w', sD w w' → P (fs_dv (mD w) nt nx j) (fb_up w' 46 2 (nI (fs_dq (mD w) nt nx j)))) : fb_Can l tX8_due [.ref 46, .int d] w (fb_kI P) := by
  refine fb_intro 0 fk_t_X8_due (by decide) rfl (fun X hX h => ?_)
  subst hX
  change fb_AW tX8_due X 0 [some (.ref 46), some (.int d)] [] w
  refine fw_aload_n h rfl rfl ?_
  refine fw_iload_n h rfl rfl ?_
  refine fw_v1I h rfl fk_v_X8_isDeath fk_l_X8_163 rfl rfl rfl rfl ?_
  refine c_X8_isDeath hN.2.1.1 (by have := hN.2.1.2; omega) (fun j hj e => ?_) (fun c2 => ?_)
  · refine fw_if_ne h rfl (fun _ => ?_) (fun c => absurd c (by decide))
    refine fw_aload_n h rfl rfl ?_
    refine fw_iload_n h rfl rfl ?_
    refine fw_v1V h rfl fk_v_X8_layDueNow fk_l_X8_255 rfl rfl rfl rfl ?_
    subst e
    refine c_X8_layDueNow hN hT (hAA j hj) (by have := hN.2.1.2; omega) (fun w2 hs2 q32 q33 q34 => ?_)
    refine fw_aload_n h rfl rfl ?_
    refine fw_aload_n h rfl rfl ?_
    refine fw_getI h rfl fk_g_X8_243 rfl rfl ?_
    refine fw_aload_n h rfl rfl ?_
    refine fw_getI h rfl fk_g_X8_246 rfl rfl ?_
    refine fw_v2I h rfl fk_v_X8_ask fk_l_X8_147 rfl rfl rfl rfl ?_
    refine c_X8_ask ?_
    exact fw_iret h rfl rfl ⟨_, rfl, by first | exact hb c2 | (have z := hg j hj rfl w2 hs2; rw [show w2.1 46 32 = nI (fs_dq (mD w) nt nx j) from q32, show w2.1 46 34 = fs_dv (mD w) nt nx j from q34]; exact z)⟩
  · refine fw_if_ne h rfl (fun c => absurd c (by decide)) (fun _ => ?_)
    refine fw_iconst h (-1) rfl (by decide) ?_
    exact fw_iret h rfl rfl ⟨_, rfl, by first | exact hb c2 | (have z := hg j hj rfl w2 hs2; rw [show w2.1 46 32 = nI (fs_dq (mD w) nt nx j) from q32, show w2.1 46 34 = fs_dv (mD w) nt nx j from q34]; exact z)⟩
