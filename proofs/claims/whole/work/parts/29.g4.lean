theorem c_X8_forfeit {l : Launch} {w : fb_Wd} {P : Int32 → fb_Wd → Prop} {nt nd nx ng : Nat} (hN : fd_N (mD w) nt nd nx ng) (hT : fd_T (mD w) nt) (hAA : ∀ d, d < nd → fd_A (mD w) nt d (fd_m (mD w) d)) {d r tx : Int32} (hb : ¬ ((∃ j k, j < nd ∧ d = nI j ∧ k < 2 ^ fp_dbt (mD w 12) j (fd_m (mD w) j) ∧ r = nI k) ∧ ∃ x, x < nx ∧ tx = nI x) → P (-1) w) (hg : ∀ j k x, j < nd → d = nI j → k < 2 ^ fp_dbt (mD w 12) j (fd_m (mD w) j) → r = nI k → x < nx → tx = nI x → ∀ w', sM [23, 24, 25, 26] w w' → P (fp_bits (fs_ff (mD w) nt j (fd_m (mD w) j) (nI k) (mD w 14 x) (mD w 15 x) (mD w 16 x)) 20) (fb_up w' 46 2 (fs_ff (mD w) nt j (fd_m (mD w) j) (nI k) (mD w 14 x) (mD w 15 x) (mD w 16 x)))) : fb_Can l tX8_forfeit [.ref 46, .int d, .int r, .int tx] w (fb_kI P) := by
  refine fb_intro 1 fk_t_X8_forfeit (by decide) rfl (fun X hX h => ?_)
  subst hX
  change fb_AW tX8_forfeit X 0 [some (.ref 46), some (.int d), some (.int r), some (.int tx), none] [] w
  refine fw_aload_n h rfl rfl ?_
  refine fw_iload_n h rfl rfl ?_
  refine fw_iload_n h rfl rfl ?_
  refine fw_v2I h rfl fk_v_X8_isReading fk_l_X8_213 rfl rfl rfl rfl ?_
  refine c_X8_isReading hN hT hAA (fun j k hj ej hk ek => ?_) (fun c3 => ?_)
  · refine fw_if_eq h rfl (fun c => absurd c (by decide)) (fun _ => ?_)
    refine fw_iload_n h rfl rfl ?_
    refine fw_iconst h (nI 0) rfl (by decide) ?_
    refine fw_aload_n h rfl rfl ?_
    refine fw_getI h rfl fk_g_X8_226 rfl rfl ?_
    refine fw_iconst h (nI 1) rfl (by decide) ?_
    refine fw_isub h rfl ?_
    refine fw_s3I h rfl fk_s_X8_in fk_l_X8_109 rfl rfl ?_
    rw [show w.1 46 27 = nI nx from hN.2.2.1.1]
    refine c_X8_in (fun c17a c17b => ?_) (fun c17 => ?_)
    · refine fw_if_ne h rfl (fun _ => ?_) (fun c => absurd c (by decide))
      subst ej; subst ek
      have hnd := hN.2.1.2
      have hnx := hN.2.2.1.2
      obtain ⟨x, hx, ex⟩ := (fp_below (n := nx) (by omega)).mp (And.intro c17a c17b)
      subst ex
      refine fw_aload_n h rfl rfl ?_
      refine fw_iload_n h rfl rfl ?_
      refine fw_iload_n h rfl rfl ?_
      refine fw_iload_n h rfl rfl ?_
      refine fw_v3I h rfl fk_v_X8_forfeitOf fk_l_X8_236 rfl rfl rfl rfl ?_
      refine c_X8_forfeitR hN hT (hAA j hj) (by omega) (Or.inr ⟨x, by omega, rfl⟩) (fun w2 hs2 => ?_)
      rw [show fs_fx (mD w) (w.1 65) (w.1 66) (w.1 67) nt j (fd_m (mD w) j) (nI k) (nI x) = fs_ff (mD w) nt j (fd_m (mD w) j) (nI k) (mD w 14 x) (mD w 15 x) (mD w 16 x) by unfold fs_fx; rw [if_neg (nI_ne9 (by omega)), nI_clamp (by omega), show mD w 14 x = w.1 65 x from if_pos (by omega), show mD w 15 x = w.1 66 x from if_pos (by omega), show mD w 16 x = w.1 67 x from if_pos (by omega)]]
      refine fw_istore h [_, _, _, _, _] rfl rfl rfl rfl ?_
      refine fw_aload_n h rfl rfl ?_
      refine fw_iload h rfl rfl ?_
      refine fw_iload h rfl rfl ?_
      refine fw_s1I h rfl fk_s_X8_bits fk_l_X8_220 rfl rfl ?_
      refine c_X8_bits ?_
      refine fw_v2I h rfl fk_v_X8_ask fk_l_X8_147 rfl rfl rfl rfl ?_
      refine c_X8_ask ?_
      exact fw_iret h rfl rfl ⟨_, rfl, hg j k x hj rfl hk rfl hx rfl w2 hs2⟩
    · refine fw_if_ne h rfl (fun c => absurd c (by decide)) (fun _ => ?_)
      refine fw_iconst h (-1) rfl (by decide) ?_
      exact fw_iret h rfl rfl ⟨_, rfl, hb (fun z => by first | exact c3 z.1 | exact c17 ((fp_below (n := nx) (by have := hN.2.2.1.2; omega)).mpr z.2))⟩
  · refine fw_if_eq h rfl (fun _ => ?_) (fun c => absurd c (by decide))
    refine fw_iconst h (-1) rfl (by decide) ?_
    exact fw_iret h rfl rfl ⟨_, rfl, hb (fun z => by first | exact c3 z.1 | exact c17 ((fp_below (n := nx) (by have := hN.2.2.1.2; omega)).mpr z.2))⟩
theorem c_X8_otherwise {l : Launch} {w : fb_Wd} {P : Int32 → fb_Wd → Prop} {nt nd nx ng : Nat} (hN : fd_N (mD w) nt nd nx ng) (hT : fd_T (mD w) nt) (hAA : ∀ d, d < nd → fd_A (mD w) nt d (fd_m (mD w) d)) {r z f : Int32} (hz : z = 0 ∨ z = 1) (hb : ¬ (0 ≤ r ∧ r ≤ 3 ∧ 0 ≤ f ∧ f ≤ 1023) → P (-1) w) (hg : 0 ≤ r → r ≤ 3 → 0 ≤ f → f ≤ 1023 → ∀ w', sM [23, 24, 25, 26, 32, 33, 34, 45, 46] (fp_setText w 8 r z f) w' → P (fp_bits (fp_mk (fs_ot (mD w) nt nx r z f) nd) 20) (fb_up w' 46 2 (fp_mk (fs_ot (mD w) nt nx r z f) nd))) : fb_Can l tX8_otherwise [.ref 46, .int r, .int z, .int f] w (fb_kI P) := by
  refine fb_intro 0 fk_t_X8_otherwise (by decide) rfl (fun X hX h => ?_)
  subst hX
  change fb_AW tX8_otherwise X 0 [some (.ref 46), some (.int r), some (.int z), some (.int f)] [] w
  refine fw_iload_n h rfl rfl ?_
  refine fw_iload_n h rfl rfl ?_
  refine fw_s2I h rfl fk_s_X8_isRule fk_l_X8_223 rfl rfl ?_
  refine c_X8_isRule (fun c2a c2b c2c c2d => ?_) (fun c2 => ?_)
  · refine fw_if_ne h rfl (fun _ => ?_) (fun c => absurd c (by decide))
    refine fw_aload_n h rfl rfl ?_
    refine fw_iload_n h rfl rfl ?_
    refine fw_iload_n h rfl rfl ?_
    refine fw_iload_n h rfl rfl ?_
    refine fw_v3V h rfl fk_v_X8_layChange fk_l_X8_296 rfl rfl rfl rfl ?_
    refine c_X8_layChange hN hT hAA hz (fun w2 hs2 h45 h46 => ?_)
    refine fw_aload_n h rfl rfl ?_
    refine fw_aload_n h rfl rfl ?_
    refine fw_getI h rfl fk_g_X8_290 rfl rfl ?_
    refine fw_aload_n h rfl rfl ?_
    refine fw_getI h rfl fk_g_X8_290 rfl rfl ?_
    refine fw_s1I h rfl fk_s_X8_bits fk_l_X8_220 rfl rfl ?_
    refine c_X8_bits ?_
    refine fw_v2I h rfl fk_v_X8_ask fk_l_X8_147 rfl rfl rfl rfl ?_
    refine c_X8_ask ?_
    exact fw_iret h rfl rfl ⟨_, rfl, by have q := hg c2a c2b c2c c2d w2 hs2; rw [← h45] at q; exact q⟩
  · refine fw_if_ne h rfl (fun c => absurd c (by decide)) (fun _ => ?_)
    refine fw_iconst h (-1) rfl (by decide) ?_
    exact fw_iret h rfl rfl ⟨_, rfl, hb c2⟩
theorem c_X8_freed {l : Launch} {w : fb_Wd} {P : Int32 → fb_Wd → Prop} {nt nd nx ng : Nat} (hN : fd_N (mD w) nt nd nx ng) (hT : fd_T (mD w) nt) (hAA : ∀ d, d < nd → fd_A (mD w) nt d (fd_m (mD w) d)) {r z f : Int32} (hz : z = 0 ∨ z = 1) (hb : ¬ (0 ≤ r ∧ r ≤ 3 ∧ 0 ≤ f ∧ f ≤ 1023) → P (-1) w) (hg : 0 ≤ r → r ≤ 3 → 0 ≤ f → f ≤ 1023 → ∀ w', sM [23, 24, 25, 26, 32, 33, 34, 45, 46] (fp_setText w 8 r z f) w' → P (fp_bits (fp_mk (fs_fr (mD w) nt nx r z f) nd) 20) (fb_up w' 46 2 (fp_mk (fs_fr (mD w) nt nx r z f) nd))) : fb_Can l tX8_freed [.ref 46, .int r, .int z, .int f] w (fb_kI P) := by
  refine fb_intro 0 fk_t_X8_freed (by decide) rfl (fun X hX h => ?_)
  subst hX
  change fb_AW tX8_freed X 0 [some (.ref 46), some (.int r), some (.int z), some (.int f)] [] w
  refine fw_iload_n h rfl rfl ?_
  refine fw_iload_n h rfl rfl ?_
  refine fw_s2I h rfl fk_s_X8_isRule fk_l_X8_223 rfl rfl ?_
  refine c_X8_isRule (fun c2a c2b c2c c2d => ?_) (fun c2 => ?_)
  · refine fw_if_ne h rfl (fun _ => ?_) (fun c => absurd c (by decide))
    refine fw_aload_n h rfl rfl ?_
    refine fw_iload_n h rfl rfl ?_
    refine fw_iload_n h rfl rfl ?_
    refine fw_iload_n h rfl rfl ?_
    refine fw_v3V h rfl fk_v_X8_layChange fk_l_X8_296 rfl rfl rfl rfl ?_
    refine c_X8_layChange hN hT hAA hz (fun w2 hs2 h45 h46 => ?_)
    refine fw_aload_n h rfl rfl ?_
    refine fw_aload_n h rfl rfl ?_
    refine fw_getI h rfl fk_g_X8_293 rfl rfl ?_
    refine fw_aload_n h rfl rfl ?_
    refine fw_getI h rfl fk_g_X8_293 rfl rfl ?_
    refine fw_s1I h rfl fk_s_X8_bits fk_l_X8_220 rfl rfl ?_
    refine c_X8_bits ?_
    refine fw_v2I h rfl fk_v_X8_ask fk_l_X8_147 rfl rfl rfl rfl ?_
    refine c_X8_ask ?_
    exact fw_iret h rfl rfl ⟨_, rfl, by have q := hg c2a c2b c2c c2d w2 hs2; rw [← h46] at q; exact q⟩
  · refine fw_if_ne h rfl (fun c => absurd c (by decide)) (fun _ => ?_)
    refine fw_iconst h (-1) rfl (by decide) ?_
    exact fw_iret h rfl rfl ⟨_, rfl, hb c2⟩
theorem c_X8_tear {l : Launch} {w : fb_Wd} {P : Int32 → fb_Wd → Prop} {r : Int32} (h1 : ¬ (0 ≤ r ∧ r ≤ 5) → P (-1) w) (h2 : ∀ j, j < 6 → r = nI j → w.1 48 j < 0 → P (-3) (fb_up (fb_up w 46 0 (nI 1)) 47 1 (w.1 47 1 + 1))) (h3 : ∀ j, j < 6 → r = nI j → ¬ w.1 48 j < 0 → P 1 (fb_up w 48 j (-9))) : fb_Can l tX8_tear [.ref 46, .int r] w (fb_kI P) := by
  refine fb_intro 1 fk_t_X8_tear (by decide) rfl (fun X hX h => ?_)
  subst hX
  change fb_AW tX8_tear X 0 [some (.ref 46), some (.int r), none] [] w
  refine fw_aload_n h rfl rfl ?_
  refine fw_iload_n h rfl rfl ?_
  refine fw_v1I h rfl fk_v_X8_looked fk_l_X8_121 rfl rfl rfl rfl ?_
  refine c_X8_looked (fun c2 => ?_) (fun j2 hj2 e2 c2 => ?_) (fun j2 hj2 e2 c2 => ?_)
  · refine fw_istore_n h [_, _, _] rfl rfl rfl rfl ?_
    refine fw_iload_n h rfl rfl ?_
    refine fw_if_ge h rfl (fun c => absurd c (by decide)) (fun _ => ?_)
    refine fw_iload_n h rfl rfl ?_
    exact fw_iret h rfl rfl ⟨_, rfl, h1 c2⟩
  · refine fw_istore_n h [_, _, _] rfl rfl rfl rfl ?_
    refine fw_iload_n h rfl rfl ?_
    refine fw_if_ge h rfl (fun c => absurd c (by decide)) (fun _ => ?_)
    refine fw_iload_n h rfl rfl ?_
    exact fw_iret h rfl rfl ⟨_, rfl, h2 j2 hj2 e2 c2⟩
  · refine fw_istore_n h [_, _, _] rfl rfl rfl rfl ?_
    refine fw_iload_n h rfl rfl ?_
    refine fw_if_ge h rfl (fun _ => ?_) (fun c => absurd c (by decide))
    subst e2
    refine fw_aload_n h rfl rfl ?_
    refine fw_getR _ h rfl fk_g_X8_17 rfl rfl ?_
    refine fw_iload_n h rfl rfl ?_
    refine fw_bipush h (-9) rfl (by decide) ?_
    refine fn_iast h rfl rfl (by omega) rfl ?_
    refine fw_iconst h (nI 1) rfl (by decide) ?_
    exact fw_iret h rfl rfl ⟨_, rfl, h3 j2 hj2 rfl c2⟩
