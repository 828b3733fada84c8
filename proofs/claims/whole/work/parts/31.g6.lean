theorem fp_put_59 (w : fb_Wd) (d m : Nat) (s a b z : Int32) : (fp_put w d m s a b z).1 59 d = w.1 59 d + 1 := by simp [fp_put, fb_up]
theorem c_X8_act {l : Launch} {w : fb_Wd} {P : Int32 → fb_Wd → Prop} {nt nd nx ng : Nat} (hN : fd_N (mD w) nt nd nx ng) (hT : fd_T (mD w) nt) (hAA : ∀ d, d < nd → fd_A (mD w) nt d (fd_m (mD w) d)) {d s a b z : Int32} (hz : z = 0 ∨ z = 1) (hb : ¬ ((∃ j, j < nd ∧ d = nI j) ∧ fp_act nt s a b) → P (-1) w) (hf : ∀ j, j < nd → d = nI j → fp_act nt s a b → (fd_m (mD w) j = 10 ∨ (z = 0 ∧ fp_dbt (mD w 12) j (fd_m (mD w) j) = 5)) → P (-2) w) (hg : ∀ j, j < nd → d = nI j → fp_act nt s a b → ¬ (fd_m (mD w) j = 10 ∨ (z = 0 ∧ fp_dbt (mD w 12) j (fd_m (mD w) j) = 5)) → fd_m (mD w) j < 10 → ∀ b2, (s = 1 → b2 = b) → (¬ s = 1 → b2 = -9) → P (nI (fd_m (mD w) j + 1)) (fp_put w j (fd_m (mD w) j) s a b2 z)) : fb_Can l tX8_act [.ref 46, .int d, .int s, .int a, .int b, .int z] w (fb_kI P) := by
  refine fb_intro 0 fk_t_X8_act (by decide) rfl (fun X hX h => ?_)
  subst hX
  change fb_AW tX8_act X 0 [some (.ref 46), some (.int d), some (.int s), some (.int a), some (.int b), some (.int z)] [] w
  refine fw_aload_n h rfl rfl ?_
  refine fw_iload_n h rfl rfl ?_
  refine fw_v1I h rfl fk_v_X8_isDeath fk_l_X8_163 rfl rfl rfl rfl ?_
  refine c_X8_isDeath hN.2.1.1 (by have := hN.2.1.2; omega) (fun j hj e => ?_) (fun c2 => ?_)
  · refine fw_if_eq h rfl (fun c => absurd c (by decide)) (fun _ => ?_)
    refine fw_aload_n h rfl rfl ?_
    refine fw_iload_n h rfl rfl ?_
    refine fw_iload_n h rfl rfl ?_
    refine fw_iload h rfl rfl ?_
    refine fw_v3I h rfl fk_v_X8_mayBe fk_l_X8_166 rfl rfl rfl rfl ?_
    refine c_X8_mayBe hN.1.1 (by have := hN.1.2; omega) (fun c13 => ?_) (fun c13 => ?_)
    · refine fw_if_ne h rfl (fun _ => ?_) (fun c => absurd c (by decide))
      subst e
      have hnd := hN.2.1.2
      have hm : w.1 59 j = nI (fd_m (mD w) j) := (hAA j hj).1
      have hm2 := (hAA j hj).2.1
      have h5 : fp_dbt (mD w 12) j (fd_m (mD w) j) ≤ 5 := (hAA j hj).2.2.2
      refine fw_aload_n h rfl rfl ?_
      refine fw_getR _ h rfl fk_g_X8_50 rfl rfl ?_
      refine fw_iload_n h rfl rfl ?_
      refine fn_iald h rfl rfl (by omega) rfl ?_
      rw [hm]
      refine fw_bipush h (nI 10) rfl (by decide) ?_
      refine fw_icmp_eq h rfl (fun c29 => ?_) (fun c29 => ?_)
      · refine fw_bipush h (-2) rfl (by decide) ?_
        exact fw_iret h rfl rfl ⟨_, rfl, by first | exact hf j hj rfl c13 (Or.inl ((nI_eq (by omega) (by decide)).mp c29)) | exact hf j hj rfl c13 (Or.inr (And.intro c34 ((nI_eq (by omega) (by decide)).mp c43)))⟩
      · refine fw_iload h rfl rfl ?_
        refine fw_if_ne h rfl (fun c34 => ?_) (fun c34 => ?_)
        · refine fw_aload_n h rfl rfl ?_
          refine fw_iload_n h rfl rfl ?_
          refine fw_iload_n h rfl rfl ?_
          refine fw_iload_n h rfl rfl ?_
          refine fw_iload h rfl rfl ?_
          refine fw_iload h rfl rfl ?_
          refine fw_v5V h rfl fk_v_X8_put fk_l_X8_172 rfl rfl rfl rfl ?_
          have hlt : fd_m (mD w) j < 10 := by
            rcases Nat.lt_or_ge (fd_m (mD w) j) 10 with q | q
            · exact q
            · exact absurd (show nI (fd_m (mD w) j) = nI 10 by rw [show fd_m (mD w) j = 10 by omega]) c29
          refine c_X8_put (by omega) hm hlt hz (fun b2 hb2 hb3 => ?_)
          refine fw_aload_n h rfl rfl ?_
          refine fw_getR _ h rfl fk_g_X8_50 rfl rfl ?_
          refine fw_iload_n h rfl rfl ?_
          refine fn_iald h rfl rfl (by omega) rfl ?_
          exact fw_iret h rfl rfl ⟨_, rfl, by rw [fp_put_59, hm, nI_1]; refine hg j hj rfl c13 (fun q => ?_) hlt b2 hb2 hb3; first | exact q.elim (fun z => by omega) (fun z => c34 z.1) | exact q.elim (fun z => by omega) (fun z => c43 (by show nI (fp_dbt (mD w 12) j (fd_m (mD w) j)) = nI 5; rw [z.2]))⟩
        · refine fw_aload_n h rfl rfl ?_
          refine fw_iload_n h rfl rfl ?_
          refine fw_v1I h rfl fk_v_X8_doubts fk_l_X8_169 rfl rfl rfl rfl ?_
          refine c_X8_doubts (by omega) hm hm2 ?_
          refine fw_iconst h (nI 5) rfl (by decide) ?_
          refine fw_icmp_ne h rfl (fun c43 => ?_) (fun c43 => ?_)
          · refine fw_aload_n h rfl rfl ?_
            refine fw_iload_n h rfl rfl ?_
            refine fw_iload_n h rfl rfl ?_
            refine fw_iload_n h rfl rfl ?_
            refine fw_iload h rfl rfl ?_
            refine fw_iload h rfl rfl ?_
            refine fw_v5V h rfl fk_v_X8_put fk_l_X8_172 rfl rfl rfl rfl ?_
            have hlt : fd_m (mD w) j < 10 := by
              rcases Nat.lt_or_ge (fd_m (mD w) j) 10 with q | q
              · exact q
              · exact absurd (show nI (fd_m (mD w) j) = nI 10 by rw [show fd_m (mD w) j = 10 by omega]) c29
            refine c_X8_put (by omega) hm hlt hz (fun b2 hb2 hb3 => ?_)
            refine fw_aload_n h rfl rfl ?_
            refine fw_getR _ h rfl fk_g_X8_50 rfl rfl ?_
            refine fw_iload_n h rfl rfl ?_
            refine fn_iald h rfl rfl (by omega) rfl ?_
            exact fw_iret h rfl rfl ⟨_, rfl, by rw [fp_put_59, hm, nI_1]; refine hg j hj rfl c13 (fun q => ?_) hlt b2 hb2 hb3; first | exact q.elim (fun z => by omega) (fun z => c34 z.1) | exact q.elim (fun z => by omega) (fun z => c43 (by show nI (fp_dbt (mD w 12) j (fd_m (mD w) j)) = nI 5; rw [z.2]))⟩
          · refine fw_bipush h (-2) rfl (by decide) ?_
            exact fw_iret h rfl rfl ⟨_, rfl, by first | exact hf j hj rfl c13 (Or.inl ((nI_eq (by omega) (by decide)).mp c29)) | exact hf j hj rfl c13 (Or.inr (And.intro c34 ((nI_eq (by omega) (by decide)).mp c43)))⟩
    · refine fw_if_ne h rfl (fun c => absurd c (by decide)) (fun _ => ?_)
      refine fw_iconst h (-1) rfl (by decide) ?_
      exact fw_iret h rfl rfl ⟨_, rfl, hb (fun q => by first | exact c2 q.1 | exact c13 q.2)⟩
  · refine fw_if_eq h rfl (fun _ => ?_) (fun c => absurd c (by decide))
    refine fw_iconst h (-1) rfl (by decide) ?_
    exact fw_iret h rfl rfl ⟨_, rfl, hb (fun q => by first | exact c2 q.1 | exact c13 q.2)⟩
