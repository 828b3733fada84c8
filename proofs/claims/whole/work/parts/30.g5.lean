theorem c_X8_death {l : Launch} {w : fb_Wd} {P : Int32 → fb_Wd → Prop} {nt nd nx ng : Nat} (hN : fd_N (mD w) nt nd nx ng) (hT : fd_T (mD w) nt) (hAA : ∀ d, d < nd → fd_A (mD w) nt d (fd_m (mD w) d)) {p y t : Int32} (hb : ¬ ((0 ≤ p ∧ p ≤ 7) ∧ (1000 ≤ y ∧ y ≤ 1900) ∧ (t = -9 ∨ 0 ≤ t ∧ t ≤ 100000)) → P (-1) w) (hf : nd = 12 → 0 ≤ p → p ≤ 7 → 1000 ≤ y → y ≤ 1900 → (t = -9 ∨ 0 ≤ t ∧ t ≤ 100000) → P (-2) w) (hg : nd < 12 → 0 ≤ p → p ≤ 7 → 1000 ≤ y → y ≤ 1900 → (t = -9 ∨ 0 ≤ t ∧ t ≤ 100000) → P (nI nd) (fb_up (fb_up (fb_up (fb_up (fb_up w 56 nd p) 57 nd y) 58 nd t) 59 nd (nI 0)) 46 14 (nI (nd + 1)))) : fb_Can l tX8_death [.ref 46, .int p, .int y, .int t] w (fb_kI P) := by
  refine fb_intro 0 fk_t_X8_death (by decide) rfl (fun X hX h => ?_)
  subst hX
  change fb_AW tX8_death X 0 [some (.ref 46), some (.int p), some (.int y), some (.int t)] [] w
  refine fw_iload_n h rfl rfl ?_
  refine fw_s1I h rfl fk_s_X8_isPlace fk_l_X8_157 rfl rfl ?_
  refine c_X8_isPlace (fun c1a c1b => ?_) (fun c1 => ?_)
  · refine fw_if_eq h rfl (fun c => absurd c (by decide)) (fun _ => ?_)
    refine fw_iload_n h rfl rfl ?_
    refine fw_s1I h rfl fk_s_X8_isYear fk_l_X8_153 rfl rfl ?_
    refine c_X8_isYear (fun c8a c8b => ?_) (fun c8 => ?_)
    · refine fw_if_eq h rfl (fun c => absurd c (by decide)) (fun _ => ?_)
      refine fw_iload_n h rfl rfl ?_
      refine fw_s1I h rfl fk_s_X8_isTold fk_l_X8_160 rfl rfl ?_
      refine c_X8_isTold (fun c15 => ?_) (fun c15 => ?_)
      · refine fw_if_ne h rfl (fun _ => ?_) (fun c => absurd c (by decide))
        have hnd := hN.2.1.2
        refine fw_aload_n h rfl rfl ?_
        refine fw_getIv (nI nd) h rfl fk_g_X8_150 rfl rfl (hN.2.1.1) ?_
        refine fw_bipush h (nI 12) rfl (by decide) ?_
        refine fw_icmp_ne h rfl (fun c29 => ?_) (fun c29 => ?_)
        · have hlt : nd < 12 := by
            rcases Nat.lt_or_ge nd 12 with q | q
            · exact q
            · exact absurd (show nI nd = nI 12 by rw [show nd = 12 by omega]) c29
          refine fw_aload_n h rfl rfl ?_
          refine fw_getR _ h rfl fk_g_X8_41 rfl rfl ?_
          refine fw_aload_n h rfl rfl ?_
          refine fw_getIv (nI nd) h rfl fk_g_X8_150 rfl rfl (hN.2.1.1) ?_
          refine fw_iload_n h rfl rfl ?_
          refine fn_iast h rfl rfl (by omega) rfl ?_
          refine fw_aload_n h rfl rfl ?_
          refine fw_getR _ h rfl fk_g_X8_44 rfl rfl ?_
          refine fw_aload_n h rfl rfl ?_
          refine fw_getIv (nI nd) h rfl fk_g_X8_150 rfl rfl (hN.2.1.1) ?_
          refine fw_iload_n h rfl rfl ?_
          refine fn_iast h rfl rfl (by omega) rfl ?_
          refine fw_aload_n h rfl rfl ?_
          refine fw_getR _ h rfl fk_g_X8_47 rfl rfl ?_
          refine fw_aload_n h rfl rfl ?_
          refine fw_getIv (nI nd) h rfl fk_g_X8_150 rfl rfl (hN.2.1.1) ?_
          refine fw_iload_n h rfl rfl ?_
          refine fn_iast h rfl rfl (by omega) rfl ?_
          refine fw_aload_n h rfl rfl ?_
          refine fw_getR _ h rfl fk_g_X8_50 rfl rfl ?_
          refine fw_aload_n h rfl rfl ?_
          refine fw_getIv (nI nd) h rfl fk_g_X8_150 rfl rfl (hN.2.1.1) ?_
          refine fw_iconst h (nI 0) rfl (by decide) ?_
          refine fn_iast h rfl rfl (by omega) rfl ?_
          refine fw_aload_n h rfl rfl ?_
          refine fw_dup h rfl rfl ?_
          refine fw_getIv (nI nd) h rfl fk_g_X8_150 rfl rfl (hN.2.1.1) ?_
          refine fw_iconst h (nI 1) rfl (by decide) ?_
          first | refine fn_iadd h rfl ?_ | refine fw_iadd h rfl ?_
          refine fw_putI h rfl fk_p_X8_150 rfl rfl ?_
          skip
          · refine fw_aload_n h rfl rfl ?_
            refine fw_getIv (nI (nd + 1)) h rfl fk_g_X8_150 rfl rfl (rfl) ?_
            refine fw_iconst h (nI 1) rfl (by decide) ?_
            refine fw_isub h rfl ?_
            exact fw_iret h rfl rfl ⟨_, rfl, by rw [show nI (nd + 1) - nI 1 = nI nd from nI_pred nd]; exact hg hlt c1a c1b c8a c8b c15⟩
        · refine fw_bipush h (-2) rfl (by decide) ?_
          exact fw_iret h rfl rfl ⟨_, rfl, hf ((nI_eq (by omega) (by decide)).mp c29) c1a c1b c8a c8b c15⟩
      · refine fw_if_ne h rfl (fun c => absurd c (by decide)) (fun _ => ?_)
        refine fw_iconst h (-1) rfl (by decide) ?_
        exact fw_iret h rfl rfl ⟨_, rfl, hb (fun q => by first | exact c1 q.1 | exact c8 q.2.1 | exact c15 q.2.2)⟩
    · refine fw_if_eq h rfl (fun _ => ?_) (fun c => absurd c (by decide))
      refine fw_iconst h (-1) rfl (by decide) ?_
      exact fw_iret h rfl rfl ⟨_, rfl, hb (fun q => by first | exact c1 q.1 | exact c8 q.2.1 | exact c15 q.2.2)⟩
  · refine fw_if_eq h rfl (fun _ => ?_) (fun c => absurd c (by decide))
    refine fw_iconst h (-1) rfl (by decide) ?_
    exact fw_iret h rfl rfl ⟨_, rfl, hb (fun q => by first | exact c1 q.1 | exact c8 q.2.1 | exact c15 q.2.2)⟩
theorem c_X8_text {l : Launch} {w : fb_Wd} {P : Int32 → fb_Wd → Prop} {nt nd nx ng : Nat} (hN : fd_N (mD w) nt nd nx ng) (hT : fd_T (mD w) nt) (hAA : ∀ d, d < nd → fd_A (mD w) nt d (fd_m (mD w) d)) {y r z f : Int32} (hz : z = 0 ∨ z = 1) (hb : ¬ ((1000 ≤ y ∧ y ≤ 1900) ∧ (0 ≤ r ∧ r ≤ 3 ∧ 0 ≤ f ∧ f ≤ 1023)) → P (-1) w) (hf : nx = 8 → 1000 ≤ y → y ≤ 1900 → 0 ≤ r → r ≤ 3 → 0 ≤ f → f ≤ 1023 → P (-2) w) (hg : nx < 8 → 1000 ≤ y → y ≤ 1900 → 0 ≤ r → r ≤ 3 → 0 ≤ f → f ≤ 1023 → P (nI nx) (fb_up (fb_up (fp_setText w nx r z f) 64 nx y) 46 27 (nI (nx + 1)))) : fb_Can l tX8_text [.ref 46, .int y, .int r, .int z, .int f] w (fb_kI P) := by
  refine fb_intro 0 fk_t_X8_text (by decide) rfl (fun X hX h => ?_)
  subst hX
  change fb_AW tX8_text X 0 [some (.ref 46), some (.int y), some (.int r), some (.int z), some (.int f)] [] w
  refine fw_iload_n h rfl rfl ?_
  refine fw_s1I h rfl fk_s_X8_isYear fk_l_X8_153 rfl rfl ?_
  refine c_X8_isYear (fun c1a c1b => ?_) (fun c1 => ?_)
  · refine fw_if_eq h rfl (fun c => absurd c (by decide)) (fun _ => ?_)
    refine fw_iload_n h rfl rfl ?_
    refine fw_iload h rfl rfl ?_
    refine fw_s2I h rfl fk_s_X8_isRule fk_l_X8_223 rfl rfl ?_
    refine c_X8_isRule (fun c10a c10b c10c c10d => ?_) (fun c10 => ?_)
    · refine fw_if_ne h rfl (fun _ => ?_) (fun c => absurd c (by decide))
      have hnx := hN.2.2.1.2
      refine fw_aload_n h rfl rfl ?_
      refine fw_getIv (nI nx) h rfl fk_g_X8_226 rfl rfl (hN.2.2.1.1) ?_
      refine fw_bipush h (nI 8) rfl (by decide) ?_
      refine fw_icmp_ne h rfl (fun c24 => ?_) (fun c24 => ?_)
      · have hlt : nx < 8 := by
          rcases Nat.lt_or_ge nx 8 with q | q
          · exact q
          · exact absurd (show nI nx = nI 8 by rw [show nx = 8 by omega]) c24
        refine fw_aload_n h rfl rfl ?_
        refine fw_aload_n h rfl rfl ?_
        refine fw_getIv (nI nx) h rfl fk_g_X8_226 rfl rfl (hN.2.2.1.1) ?_
        refine fw_iload_n h rfl rfl ?_
        refine fw_iload_n h rfl rfl ?_
        refine fw_iload h rfl rfl ?_
        refine fw_v4V h rfl fk_v_X8_setText fk_l_X8_229 rfl rfl rfl rfl ?_
        refine c_X8_setText (by omega) hz ?_
        refine fw_aload_n h rfl rfl ?_
        refine fw_getR _ h rfl fk_g_X8_66 rfl rfl ?_
        refine fw_aload_n h rfl rfl ?_
        refine fw_getIv (nI nx) h rfl fk_g_X8_226 rfl rfl (hN.2.2.1.1) ?_
        refine fw_iload_n h rfl rfl ?_
        refine fn_iast h rfl rfl (by omega) rfl ?_
        refine fw_aload_n h rfl rfl ?_
        refine fw_dup h rfl rfl ?_
        refine fw_getIv (nI nx) h rfl fk_g_X8_226 rfl rfl (hN.2.2.1.1) ?_
        refine fw_iconst h (nI 1) rfl (by decide) ?_
        first | refine fn_iadd h rfl ?_ | refine fw_iadd h rfl ?_
        refine fw_putI h rfl fk_p_X8_226 rfl rfl ?_
        skip
        · refine fw_aload_n h rfl rfl ?_
          refine fw_getIv (nI (nx + 1)) h rfl fk_g_X8_226 rfl rfl (rfl) ?_
          refine fw_iconst h (nI 1) rfl (by decide) ?_
          refine fw_isub h rfl ?_
          exact fw_iret h rfl rfl ⟨_, rfl, by rw [show nI (nx + 1) - nI 1 = nI nx from nI_pred nx]; exact hg hlt c1a c1b c10a c10b c10c c10d⟩
      · refine fw_bipush h (-2) rfl (by decide) ?_
        exact fw_iret h rfl rfl ⟨_, rfl, hf ((nI_eq (by omega) (by decide)).mp c24) c1a c1b c10a c10b c10c c10d⟩
    · refine fw_if_ne h rfl (fun c => absurd c (by decide)) (fun _ => ?_)
      refine fw_iconst h (-1) rfl (by decide) ?_
      exact fw_iret h rfl rfl ⟨_, rfl, hb (fun q => by first | exact c1 q.1 | exact c10 q.2)⟩
  · refine fw_if_eq h rfl (fun _ => ?_) (fun c => absurd c (by decide))
    refine fw_iconst h (-1) rfl (by decide) ?_
    exact fw_iret h rfl rfl ⟨_, rfl, hb (fun q => by first | exact c1 q.1 | exact c10 q.2)⟩
