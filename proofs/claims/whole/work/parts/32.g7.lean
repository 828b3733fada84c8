theorem c_X8_grant {l : Launch} {w : fb_Wd} {P : Int32 → fb_Wd → Prop} {nt nd nx ng : Nat} (hN : fd_N (mD w) nt nd nx ng) (hT : fd_T (mD w) nt) (hAA : ∀ d, d < nd → fd_A (mD w) nt d (fd_m (mD w) d)) {lo p a b s q : Int32} (hb : ¬ ((0 ≤ lo ∧ lo ≤ 7) ∧ (0 ≤ p ∧ p ≤ 7) ∧ (1000 ≤ a ∧ a ≤ 1900 ∧ a ≤ b ∧ b ≤ 1900) ∧ (0 ≤ s ∧ s ≤ 1023) ∧ (1 ≤ q ∧ q ≤ 12)) → P (-1) w) (hf : ng = 10 → ((0 ≤ lo ∧ lo ≤ 7) ∧ (0 ≤ p ∧ p ≤ 7) ∧ (1000 ≤ a ∧ a ≤ 1900 ∧ a ≤ b ∧ b ≤ 1900) ∧ (0 ≤ s ∧ s ≤ 1023) ∧ (1 ≤ q ∧ q ≤ 12)) → P (-2) w) (hg : ng < 10 → ((0 ≤ lo ∧ lo ≤ 7) ∧ (0 ≤ p ∧ p ≤ 7) ∧ (1000 ≤ a ∧ a ≤ 1900 ∧ a ≤ b ∧ b ≤ 1900) ∧ (0 ≤ s ∧ s ≤ 1023) ∧ (1 ≤ q ∧ q ≤ 12)) → P (nI (ng + 1)) (fb_up (fb_up (fb_up (fb_up (fb_up (fb_up (fb_up w 69 ng lo) 70 ng p) 71 ng a) 72 ng b) 73 ng s) 74 ng q) 46 38 (nI (ng + 1)))) : fb_Can l tX8_grant [.ref 46, .int lo, .int p, .int a, .int b, .int s, .int q] w (fb_kI P) := by
  refine fb_intro 0 fk_t_X8_grant (by decide) rfl (fun X hX h => ?_)
  subst hX
  change fb_AW tX8_grant X 0 [some (.ref 46), some (.int lo), some (.int p), some (.int a), some (.int b), some (.int s), some (.int q)] [] w
  refine fw_iload_n h rfl rfl ?_
  refine fw_iconst h (nI 0) rfl (by decide) ?_
  refine fw_bipush h (nI 7) rfl (by decide) ?_
  refine fw_s3I h rfl fk_s_X8_in fk_l_X8_109 rfl rfl ?_
  refine c_X8_in (fun c4a c4b => ?_) (fun c4 => ?_)
  · refine fw_if_eq h rfl (fun c => absurd c (by decide)) (fun _ => ?_)
    refine fw_iload_n h rfl rfl ?_
    refine fw_s1I h rfl fk_s_X8_isPlace fk_l_X8_157 rfl rfl ?_
    refine c_X8_isPlace (fun c11a c11b => ?_) (fun c11 => ?_)
    · refine fw_if_eq h rfl (fun c => absurd c (by decide)) (fun _ => ?_)
      refine fw_iload_n h rfl rfl ?_
      refine fw_iload h rfl rfl ?_
      refine fw_s2I h rfl fk_s_X8_areYears fk_l_X8_270 rfl rfl ?_
      refine c_X8_areYears (fun c20a c20b c20c c20d => ?_) (fun c20 => ?_)
      · refine fw_if_eq h rfl (fun c => absurd c (by decide)) (fun _ => ?_)
        refine fw_iload h rfl rfl ?_
        refine fw_iconst h (nI 0) rfl (by decide) ?_
        refine fw_sipush h (nI 1023) rfl (by decide) ?_
        refine fw_s3I h rfl fk_s_X8_in fk_l_X8_109 rfl rfl ?_
        refine c_X8_in (fun c32a c32b => ?_) (fun c32 => ?_)
        · refine fw_if_eq h rfl (fun c => absurd c (by decide)) (fun _ => ?_)
          refine fw_iload h rfl rfl ?_
          refine fw_iconst h (nI 1) rfl (by decide) ?_
          refine fw_bipush h (nI 12) rfl (by decide) ?_
          refine fw_s3I h rfl fk_s_X8_in fk_l_X8_109 rfl rfl ?_
          refine c_X8_in (fun c43a c43b => ?_) (fun c43 => ?_)
          · refine fw_if_ne h rfl (fun _ => ?_) (fun c => absurd c (by decide))
            have hng := hN.2.2.2.2
            refine fw_aload_n h rfl rfl ?_
            refine fw_getIv (nI ng) h rfl fk_g_X8_284 rfl rfl (hN.2.2.2.1) ?_
            refine fw_bipush h (nI 10) rfl (by decide) ?_
            refine fw_icmp_ne h rfl (fun c57 => ?_) (fun c57 => ?_)
            · have hlt : ng < 10 := by
                rcases Nat.lt_or_ge ng 10 with q | q
                · exact q
                · exact absurd (show nI ng = nI 10 by rw [show ng = 10 by omega]) c57
              refine fw_aload_n h rfl rfl ?_
              refine fw_getR _ h rfl fk_g_X8_81 rfl rfl ?_
              refine fw_aload_n h rfl rfl ?_
              refine fw_getIv (nI ng) h rfl fk_g_X8_284 rfl rfl (hN.2.2.2.1) ?_
              refine fw_iload_n h rfl rfl ?_
              refine fn_iast h rfl rfl (by omega) rfl ?_
              refine fw_aload_n h rfl rfl ?_
              refine fw_getR _ h rfl fk_g_X8_84 rfl rfl ?_
              refine fw_aload_n h rfl rfl ?_
              refine fw_getIv (nI ng) h rfl fk_g_X8_284 rfl rfl (hN.2.2.2.1) ?_
              refine fw_iload_n h rfl rfl ?_
              refine fn_iast h rfl rfl (by omega) rfl ?_
              refine fw_aload_n h rfl rfl ?_
              refine fw_getR _ h rfl fk_g_X8_87 rfl rfl ?_
              refine fw_aload_n h rfl rfl ?_
              refine fw_getIv (nI ng) h rfl fk_g_X8_284 rfl rfl (hN.2.2.2.1) ?_
              refine fw_iload_n h rfl rfl ?_
              refine fn_iast h rfl rfl (by omega) rfl ?_
              refine fw_aload_n h rfl rfl ?_
              refine fw_getR _ h rfl fk_g_X8_90 rfl rfl ?_
              refine fw_aload_n h rfl rfl ?_
              refine fw_getIv (nI ng) h rfl fk_g_X8_284 rfl rfl (hN.2.2.2.1) ?_
              refine fw_iload h rfl rfl ?_
              refine fn_iast h rfl rfl (by omega) rfl ?_
              refine fw_aload_n h rfl rfl ?_
              refine fw_getR _ h rfl fk_g_X8_93 rfl rfl ?_
              refine fw_aload_n h rfl rfl ?_
              refine fw_getIv (nI ng) h rfl fk_g_X8_284 rfl rfl (hN.2.2.2.1) ?_
              refine fw_iload h rfl rfl ?_
              refine fn_iast h rfl rfl (by omega) rfl ?_
              refine fw_aload_n h rfl rfl ?_
              refine fw_getR _ h rfl fk_g_X8_96 rfl rfl ?_
              refine fw_aload_n h rfl rfl ?_
              refine fw_getIv (nI ng) h rfl fk_g_X8_284 rfl rfl (hN.2.2.2.1) ?_
              refine fw_iload h rfl rfl ?_
              refine fn_iast h rfl rfl (by omega) rfl ?_
              refine fw_aload_n h rfl rfl ?_
              refine fw_dup h rfl rfl ?_
              refine fw_getIv (nI ng) h rfl fk_g_X8_284 rfl rfl (hN.2.2.2.1) ?_
              refine fw_iconst h (nI 1) rfl (by decide) ?_
              first | refine fn_iadd h rfl ?_ | refine fw_iadd h rfl ?_
              refine fw_putI h rfl fk_p_X8_284 rfl rfl ?_
              skip
              · refine fw_aload_n h rfl rfl ?_
                refine fw_getIv (nI (ng + 1)) h rfl fk_g_X8_284 rfl rfl (rfl) ?_
                exact fw_iret h rfl rfl ⟨_, rfl, hg hlt ⟨⟨c4a, c4b⟩, ⟨c11a, c11b⟩, ⟨c20a, c20b, c20c, c20d⟩, ⟨c32a, c32b⟩, ⟨c43a, c43b⟩⟩⟩
            · refine fw_bipush h (-2) rfl (by decide) ?_
              exact fw_iret h rfl rfl ⟨_, rfl, hf ((nI_eq (by omega) (by decide)).mp c57) ⟨⟨c4a, c4b⟩, ⟨c11a, c11b⟩, ⟨c20a, c20b, c20c, c20d⟩, ⟨c32a, c32b⟩, ⟨c43a, c43b⟩⟩⟩
          · refine fw_if_ne h rfl (fun c => absurd c (by decide)) (fun _ => ?_)
            refine fw_iconst h (-1) rfl (by decide) ?_
            exact fw_iret h rfl rfl ⟨_, rfl, hb (fun q => by first | exact c4 q.1 | exact c11 q.2.1 | exact c20 q.2.2.1 | exact c32 q.2.2.2.1 | exact c43 q.2.2.2.2)⟩
        · refine fw_if_eq h rfl (fun _ => ?_) (fun c => absurd c (by decide))
          refine fw_iconst h (-1) rfl (by decide) ?_
          exact fw_iret h rfl rfl ⟨_, rfl, hb (fun q => by first | exact c4 q.1 | exact c11 q.2.1 | exact c20 q.2.2.1 | exact c32 q.2.2.2.1 | exact c43 q.2.2.2.2)⟩
      · refine fw_if_eq h rfl (fun _ => ?_) (fun c => absurd c (by decide))
        refine fw_iconst h (-1) rfl (by decide) ?_
        exact fw_iret h rfl rfl ⟨_, rfl, hb (fun q => by first | exact c4 q.1 | exact c11 q.2.1 | exact c20 q.2.2.1 | exact c32 q.2.2.2.1 | exact c43 q.2.2.2.2)⟩
    · refine fw_if_eq h rfl (fun _ => ?_) (fun c => absurd c (by decide))
      refine fw_iconst h (-1) rfl (by decide) ?_
      exact fw_iret h rfl rfl ⟨_, rfl, hb (fun q => by first | exact c4 q.1 | exact c11 q.2.1 | exact c20 q.2.2.1 | exact c32 q.2.2.2.1 | exact c43 q.2.2.2.2)⟩
  · refine fw_if_eq h rfl (fun _ => ?_) (fun c => absurd c (by decide))
    refine fw_iconst h (-1) rfl (by decide) ?_
    exact fw_iret h rfl rfl ⟨_, rfl, hb (fun q => by first | exact c4 q.1 | exact c11 q.2.1 | exact c20 q.2.2.1 | exact c32 q.2.2.2.1 | exact c43 q.2.2.2.2)⟩
theorem c_X8_thing {l : Launch} {w : fb_Wd} {P : Int32 → fb_Wd → Prop} {nt nd nx ng : Nat} (hN : fd_N (mD w) nt nd nx ng) (hT : fd_T (mD w) nt) (hAA : ∀ d, d < nd → fd_A (mD w) nt d (fd_m (mD w) d)) {k s v u : Int32} (hb : ¬ ((0 ≤ k ∧ k ≤ 3) ∧ (0 ≤ s ∧ s ≤ 9) ∧ (0 ≤ v ∧ v ≤ 10000) ∧ (u = -9 ∨ ∃ j, j < nt ∧ u = nI j)) → P (-1) w) (hf : nt = 20 → ((0 ≤ k ∧ k ≤ 3) ∧ (0 ≤ s ∧ s ≤ 9) ∧ (0 ≤ v ∧ v ≤ 10000) ∧ (u = -9 ∨ ∃ j, j < nt ∧ u = nI j)) → P (-2) w) (hg : nt < 20 → ((0 ≤ k ∧ k ≤ 3) ∧ (0 ≤ s ∧ s ≤ 9) ∧ (0 ≤ v ∧ v ≤ 10000) ∧ (u = -9 ∨ ∃ j, j < nt ∧ u = nI j)) → P (nI nt) (fb_up (fb_up (fb_up (fb_up (fb_up (fb_up w 51 nt k) 52 nt s) 53 nt v) 54 nt u) 55 nt (-9)) 46 8 (nI (nt + 1)))) : fb_Can l tX8_thing [.ref 46, .int k, .int s, .int v, .int u] w (fb_kI P) := by
  refine fb_intro 0 fk_t_X8_thing (by decide) rfl (fun X hX h => ?_)
  subst hX
  change fb_AW tX8_thing X 0 [some (.ref 46), some (.int k), some (.int s), some (.int v), some (.int u)] [] w
  refine fw_iload_n h rfl rfl ?_
  refine fw_iconst h (nI 0) rfl (by decide) ?_
  refine fw_iconst h (nI 3) rfl (by decide) ?_
  refine fw_s3I h rfl fk_s_X8_in fk_l_X8_109 rfl rfl ?_
  refine c_X8_in (fun c3a c3b => ?_) (fun c3 => ?_)
  · refine fw_if_eq h rfl (fun c => absurd c (by decide)) (fun _ => ?_)
    refine fw_iload_n h rfl rfl ?_
    refine fw_s1I h rfl fk_s_X8_isSort fk_l_X8_127 rfl rfl ?_
    refine c_X8_isSort (fun c10a c10b => ?_) (fun c10 => ?_)
    · refine fw_if_eq h rfl (fun c => absurd c (by decide)) (fun _ => ?_)
      refine fw_iload_n h rfl rfl ?_
      refine fw_iconst h (nI 0) rfl (by decide) ?_
      refine fw_sipush h (nI 10000) rfl (by decide) ?_
      refine fw_s3I h rfl fk_s_X8_in fk_l_X8_109 rfl rfl ?_
      refine c_X8_in (fun c21a c21b => ?_) (fun c21 => ?_)
      · refine fw_if_eq h rfl (fun c => absurd c (by decide)) (fun _ => ?_)
        refine fw_iload h rfl rfl ?_
        refine fw_bipush h (-9) rfl (by decide) ?_
        refine fw_icmp_eq h rfl (fun c31 => ?_) (fun c31 => ?_)
        · have hnt := hN.1.2
          refine fw_aload_n h rfl rfl ?_
          refine fw_getIv (nI nt) h rfl fk_g_X8_124 rfl rfl (hN.1.1) ?_
          refine fw_bipush h (nI 20) rfl (by decide) ?_
          refine fw_icmp_ne h rfl (fun c51 => ?_) (fun c51 => ?_)
          · have hlt : nt < 20 := by
              rcases Nat.lt_or_ge nt 20 with q | q
              · exact q
              · exact absurd (show nI nt = nI 20 by rw [show nt = 20 by omega]) c51
            refine fw_aload_n h rfl rfl ?_
            refine fw_getR _ h rfl fk_g_X8_26 rfl rfl ?_
            refine fw_aload_n h rfl rfl ?_
            refine fw_getIv (nI nt) h rfl fk_g_X8_124 rfl rfl (hN.1.1) ?_
            refine fw_iload_n h rfl rfl ?_
            refine fn_iast h rfl rfl (by omega) rfl ?_
            refine fw_aload_n h rfl rfl ?_
            refine fw_getR _ h rfl fk_g_X8_29 rfl rfl ?_
            refine fw_aload_n h rfl rfl ?_
            refine fw_getIv (nI nt) h rfl fk_g_X8_124 rfl rfl (hN.1.1) ?_
            refine fw_iload_n h rfl rfl ?_
            refine fn_iast h rfl rfl (by omega) rfl ?_
            refine fw_aload_n h rfl rfl ?_
            refine fw_getR _ h rfl fk_g_X8_32 rfl rfl ?_
            refine fw_aload_n h rfl rfl ?_
            refine fw_getIv (nI nt) h rfl fk_g_X8_124 rfl rfl (hN.1.1) ?_
            refine fw_iload_n h rfl rfl ?_
            refine fn_iast h rfl rfl (by omega) rfl ?_
            refine fw_aload_n h rfl rfl ?_
            refine fw_getR _ h rfl fk_g_X8_35 rfl rfl ?_
            refine fw_aload_n h rfl rfl ?_
            refine fw_getIv (nI nt) h rfl fk_g_X8_124 rfl rfl (hN.1.1) ?_
            refine fw_iload h rfl rfl ?_
            refine fn_iast h rfl rfl (by omega) rfl ?_
            refine fw_aload_n h rfl rfl ?_
            refine fw_getR _ h rfl fk_g_X8_38 rfl rfl ?_
            refine fw_aload_n h rfl rfl ?_
            refine fw_getIv (nI nt) h rfl fk_g_X8_124 rfl rfl (hN.1.1) ?_
            refine fw_bipush h (-9) rfl (by decide) ?_
            refine fn_iast h rfl rfl (by omega) rfl ?_
            refine fw_aload_n h rfl rfl ?_
            refine fw_dup h rfl rfl ?_
            refine fw_getIv (nI nt) h rfl fk_g_X8_124 rfl rfl (hN.1.1) ?_
            refine fw_iconst h (nI 1) rfl (by decide) ?_
            first | refine fn_iadd h rfl ?_ | refine fw_iadd h rfl ?_
            refine fw_putI h rfl fk_p_X8_124 rfl rfl ?_
            skip
            · refine fw_aload_n h rfl rfl ?_
              refine fw_getIv (nI (nt + 1)) h rfl fk_g_X8_124 rfl rfl (rfl) ?_
              refine fw_iconst h (nI 1) rfl (by decide) ?_
              refine fw_isub h rfl ?_
              exact fw_iret h rfl rfl ⟨_, rfl, by rw [show nI (nt + 1) - nI 1 = nI nt from nI_pred nt]; exact hg hlt ⟨⟨c3a, c3b⟩, ⟨c10a, c10b⟩, ⟨c21a, c21b⟩, by first | exact Or.inl c31 | exact Or.inr ⟨j, hj, e⟩⟩⟩
          · refine fw_bipush h (-2) rfl (by decide) ?_
            exact fw_iret h rfl rfl ⟨_, rfl, hf ((nI_eq (by omega) (by decide)).mp c51) ⟨⟨c3a, c3b⟩, ⟨c10a, c10b⟩, ⟨c21a, c21b⟩, by first | exact Or.inl c31 | exact Or.inr ⟨j, hj, e⟩⟩⟩
        · refine fw_aload_n h rfl rfl ?_
          refine fw_iload h rfl rfl ?_
          refine fw_v1I h rfl fk_v_X8_isThing fk_l_X8_130 rfl rfl rfl rfl ?_
          refine c_X8_isThing hN.1.1 hN.1.2 (fun j hj e => ?_) (fun c37 => ?_)
          · refine fw_if_ne h rfl (fun _ => ?_) (fun c => absurd c (by decide))
            have hnt := hN.1.2
            refine fw_aload_n h rfl rfl ?_
            refine fw_getIv (nI nt) h rfl fk_g_X8_124 rfl rfl (hN.1.1) ?_
            refine fw_bipush h (nI 20) rfl (by decide) ?_
            refine fw_icmp_ne h rfl (fun c51 => ?_) (fun c51 => ?_)
            · have hlt : nt < 20 := by
                rcases Nat.lt_or_ge nt 20 with q | q
                · exact q
                · exact absurd (show nI nt = nI 20 by rw [show nt = 20 by omega]) c51
              refine fw_aload_n h rfl rfl ?_
              refine fw_getR _ h rfl fk_g_X8_26 rfl rfl ?_
              refine fw_aload_n h rfl rfl ?_
              refine fw_getIv (nI nt) h rfl fk_g_X8_124 rfl rfl (hN.1.1) ?_
              refine fw_iload_n h rfl rfl ?_
              refine fn_iast h rfl rfl (by omega) rfl ?_
              refine fw_aload_n h rfl rfl ?_
              refine fw_getR _ h rfl fk_g_X8_29 rfl rfl ?_
              refine fw_aload_n h rfl rfl ?_
              refine fw_getIv (nI nt) h rfl fk_g_X8_124 rfl rfl (hN.1.1) ?_
              refine fw_iload_n h rfl rfl ?_
              refine fn_iast h rfl rfl (by omega) rfl ?_
              refine fw_aload_n h rfl rfl ?_
              refine fw_getR _ h rfl fk_g_X8_32 rfl rfl ?_
              refine fw_aload_n h rfl rfl ?_
              refine fw_getIv (nI nt) h rfl fk_g_X8_124 rfl rfl (hN.1.1) ?_
              refine fw_iload_n h rfl rfl ?_
              refine fn_iast h rfl rfl (by omega) rfl ?_
              refine fw_aload_n h rfl rfl ?_
              refine fw_getR _ h rfl fk_g_X8_35 rfl rfl ?_
              refine fw_aload_n h rfl rfl ?_
              refine fw_getIv (nI nt) h rfl fk_g_X8_124 rfl rfl (hN.1.1) ?_
              refine fw_iload h rfl rfl ?_
              refine fn_iast h rfl rfl (by omega) rfl ?_
              refine fw_aload_n h rfl rfl ?_
              refine fw_getR _ h rfl fk_g_X8_38 rfl rfl ?_
              refine fw_aload_n h rfl rfl ?_
              refine fw_getIv (nI nt) h rfl fk_g_X8_124 rfl rfl (hN.1.1) ?_
              refine fw_bipush h (-9) rfl (by decide) ?_
              refine fn_iast h rfl rfl (by omega) rfl ?_
              refine fw_aload_n h rfl rfl ?_
              refine fw_dup h rfl rfl ?_
              refine fw_getIv (nI nt) h rfl fk_g_X8_124 rfl rfl (hN.1.1) ?_
              refine fw_iconst h (nI 1) rfl (by decide) ?_
              first | refine fn_iadd h rfl ?_ | refine fw_iadd h rfl ?_
              refine fw_putI h rfl fk_p_X8_124 rfl rfl ?_
              skip
              · refine fw_aload_n h rfl rfl ?_
                refine fw_getIv (nI (nt + 1)) h rfl fk_g_X8_124 rfl rfl (rfl) ?_
                refine fw_iconst h (nI 1) rfl (by decide) ?_
                refine fw_isub h rfl ?_
                exact fw_iret h rfl rfl ⟨_, rfl, by rw [show nI (nt + 1) - nI 1 = nI nt from nI_pred nt]; exact hg hlt ⟨⟨c3a, c3b⟩, ⟨c10a, c10b⟩, ⟨c21a, c21b⟩, by first | exact Or.inl c31 | exact Or.inr ⟨j, hj, e⟩⟩⟩
            · refine fw_bipush h (-2) rfl (by decide) ?_
              exact fw_iret h rfl rfl ⟨_, rfl, hf ((nI_eq (by omega) (by decide)).mp c51) ⟨⟨c3a, c3b⟩, ⟨c10a, c10b⟩, ⟨c21a, c21b⟩, by first | exact Or.inl c31 | exact Or.inr ⟨j, hj, e⟩⟩⟩
          · refine fw_if_ne h rfl (fun c => absurd c (by decide)) (fun _ => ?_)
            refine fw_iconst h (-1) rfl (by decide) ?_
            exact fw_iret h rfl rfl ⟨_, rfl, hb (fun q => by first | exact c3 q.1 | exact c10 q.2.1 | exact c21 q.2.2.1 | exact q.2.2.2.elim c31 c37)⟩
      · refine fw_if_eq h rfl (fun _ => ?_) (fun c => absurd c (by decide))
        refine fw_iconst h (-1) rfl (by decide) ?_
        exact fw_iret h rfl rfl ⟨_, rfl, hb (fun q => by first | exact c3 q.1 | exact c10 q.2.1 | exact c21 q.2.2.1 | exact q.2.2.2.elim c31 c37)⟩
    · refine fw_if_eq h rfl (fun _ => ?_) (fun c => absurd c (by decide))
      refine fw_iconst h (-1) rfl (by decide) ?_
      exact fw_iret h rfl rfl ⟨_, rfl, hb (fun q => by first | exact c3 q.1 | exact c10 q.2.1 | exact c21 q.2.2.1 | exact q.2.2.2.elim c31 c37)⟩
  · refine fw_if_eq h rfl (fun _ => ?_) (fun c => absurd c (by decide))
    refine fw_iconst h (-1) rfl (by decide) ?_
    exact fw_iret h rfl rfl ⟨_, rfl, hb (fun q => by first | exact c3 q.1 | exact c10 q.2.1 | exact c21 q.2.2.1 | exact q.2.2.2.elim c31 c37)⟩
