theorem fp_sum_z {g : Nat → Int32} {i : Nat} (e : g i = nI 0) : fp_sum g (i + 1) = fp_sum g i := by rw [fp_sum, e, nI_0, Int32.add_zero]
theorem c_X8_shortfall {l : Launch} {w : fb_Wd} {P : Int32 → fb_Wd → Prop} {nt nd nx ng : Nat} (hN : fd_N (mD w) nt nd nx ng) (hT : fd_T (mD w) nt) (hAA : ∀ d, d < nd → fd_A (mD w) nt d (fd_m (mD w) d)) {fr to : Int32} (hb : ¬ (1000 ≤ fr ∧ fr ≤ 1900 ∧ fr ≤ to ∧ to ≤ 1900) → P (-1) w) (hg : 1000 ≤ fr → fr ≤ 1900 → fr ≤ to → to ≤ 1900 → ∀ w', sD w w' → P (nI (fp_cnt (fun t => decide (¬ mD w 7 t = -9 ∧ fr ≤ mD w 6 t ∧ mD w 6 t ≤ to)) nd)) (fb_up w' 46 2 (fp_sum (fun t => if (¬ mD w 7 t = -9 ∧ fr ≤ mD w 6 t ∧ mD w 6 t ≤ to) then fs_dv (mD w) nt nx t - mD w 7 t else nI 0) nd))) : fb_Can l tX8_shortfall [.ref 46, .int fr, .int to] w (fb_kI P) := by
  refine fb_intro 3 fk_t_X8_shortfall (by decide) rfl (fun X hX h => ?_)
  subst hX
  change fb_AW tX8_shortfall X 0 [some (.ref 46), some (.int fr), some (.int to), none, none, none] [] w
  refine fw_iload_n h rfl rfl ?_
  refine fw_iload_n h rfl rfl ?_
  refine fw_s2I h rfl fk_s_X8_areYears fk_l_X8_270 rfl rfl ?_
  refine c_X8_areYears (fun c2a c2b c2c c2d => ?_) (fun c2 => ?_)
  · refine fw_if_ne h rfl (fun _ => ?_) (fun c => absurd c (by decide))
    have hnd := hN.2.1.2
    refine fw_iconst h (nI 0) rfl (by decide) ?_
    refine fw_istore_n h [_, _, _, _, _, _] rfl rfl rfl rfl ?_
    refine fw_iconst h (nI 0) rfl (by decide) ?_
    refine fw_istore h [_, _, _, _, _, _] rfl rfl rfl rfl ?_
    refine fw_iconst h (nI 0) rfl (by decide) ?_
    refine fw_istore h [_, _, _, _, _, _] rfl rfl rfl rfl ?_
    refine (?_ : ∀ w1, sD w w1 → fb_AW tX8_shortfall X 18 [some (.ref 46), some (.int fr), some (.int to), some (.int (nI (fp_cnt (fun t => decide (¬ mD w 7 t = -9 ∧ fr ≤ mD w 6 t ∧ mD w 6 t ≤ to)) 0))), some (.int (fp_sum (fun t => if (¬ mD w 7 t = -9 ∧ fr ≤ mD w 6 t ∧ mD w 6 t ≤ to) then fs_dv (mD w) nt nx t - mD w 7 t else nI 0) 0)), some (.int (nI 0))] [] w1) w (sM.rf _ w)
    refine fb_loop (fun i => ∀ w1, sD w w1 → fb_AW tX8_shortfall X 18 [some (.ref 46), some (.int fr), some (.int to), some (.int (nI (fp_cnt (fun t => decide (¬ mD w 7 t = -9 ∧ fr ≤ mD w 6 t ∧ mD w 6 t ≤ to)) i))), some (.int (fp_sum (fun t => if (¬ mD w 7 t = -9 ∧ fr ≤ mD w 6 t ∧ mD w 6 t ≤ to) then fs_dv (mD w) nt nx t - mD w 7 t else nI 0) i)), some (.int (nI i))] [] w1) (nd) ?_ (fun i hi ih => ?_) 0 (Nat.zero_le _)
    · intro w1 hs
      have eD : mD w1 = mD w := sM.mD hs (by decide)
      have hN1 : fd_N (mD w1) nt nd nx ng := by rw [eD]; exact hN
      have hT1 : fd_T (mD w1) nt := by rw [eD]; exact hT
      refine fw_iload h rfl rfl ?_
      refine fw_aload_n h rfl rfl ?_
      refine fw_getI h rfl fk_g_X8_150 rfl rfl ?_
      refine fw_icmp_ge h rfl (fun c24 => ?_) (fun c24 => False.elim (c24 (by rw [show w1.1 46 14 = nI nd from hN1.2.1.1]; exact Int32.le_refl _)))
      refine fw_aload_n h rfl rfl ?_
      refine fw_iload h rfl rfl ?_
      refine fw_iload_n h rfl rfl ?_
      refine fw_v2I h rfl fk_v_X8_ask fk_l_X8_147 rfl rfl rfl rfl ?_
      refine c_X8_ask ?_
      exact fw_iret h rfl rfl ⟨_, rfl, hg c2a c2b c2c c2d w1 hs⟩
    · intro w1 hs
      have eD : mD w1 = mD w := sM.mD hs (by decide)
      have hN1 : fd_N (mD w1) nt nd nx ng := by rw [eD]; exact hN
      have hT1 : fd_T (mD w1) nt := by rw [eD]; exact hT
      refine fw_iload h rfl rfl ?_
      refine fw_aload_n h rfl rfl ?_
      refine fw_getIv (nI nd) h rfl fk_g_X8_150 rfl rfl (hN1.2.1.1) ?_
      refine fw_icmp_ge h rfl (fun c24 => False.elim (nI_ge hi (by omega) c24)) (fun c24 => ?_)
      refine fw_aload_n h rfl rfl ?_
      refine fw_getR _ h rfl fk_g_X8_47 rfl rfl ?_
      refine fw_iload h rfl rfl ?_
      refine fn_ialdF (w.1 58) h rfl rfl ((show sM [23, 24, 25, 26, 32, 33, 34] w w1 from hs).1 58 (by decide)) (by omega) rfl ?_
      refine fw_bipush h (-9) rfl (by decide) ?_
      refine fw_icmp_eq h rfl (fun c36 => ?_) (fun c36 => ?_)
      · first | refine fn_iinc h [_, _, _, _, _, _] rfl rfl rfl rfl rfl ?_ | refine fw_iinc h 1 [_, _, _, _, _, _] rfl (by decide) rfl rfl rfl rfl ?_
        refine fw_goto h rfl ?_
        have hc : ¬ (¬ mD w 7 i = -9 ∧ fr ≤ mD w 6 i ∧ mD w 6 i ≤ to) := by first | exact (fun q => q.1 c36) | exact (fun q => c48 q.2)
        have en : fp_cnt (fun t => decide (¬ mD w 7 t = -9 ∧ fr ≤ mD w 6 t ∧ mD w 6 t ≤ to)) (i + 1) = fp_cnt (fun t => decide (¬ mD w 7 t = -9 ∧ fr ≤ mD w 6 t ∧ mD w 6 t ≤ to)) i + 0 := fp_cnt_0 (decide_eq_false hc)
        have es : fp_sum (fun t => if (¬ mD w 7 t = -9 ∧ fr ≤ mD w 6 t ∧ mD w 6 t ≤ to) then fs_dv (mD w) nt nx t - mD w 7 t else nI 0) (i + 1) = fp_sum (fun t => if (¬ mD w 7 t = -9 ∧ fr ≤ mD w 6 t ∧ mD w 6 t ≤ to) then fs_dv (mD w) nt nx t - mD w 7 t else nI 0) i := fp_sum_z (if_neg hc)
        rw [en, es] at ih
        exact ih w1 hs
      · refine fw_aload_n h rfl rfl ?_
        refine fw_getR _ h rfl fk_g_X8_44 rfl rfl ?_
        refine fw_iload h rfl rfl ?_
        refine fn_ialdF (w.1 57) h rfl rfl ((show sM [23, 24, 25, 26, 32, 33, 34] w w1 from hs).1 57 (by decide)) (by omega) rfl ?_
        refine fw_iload_n h rfl rfl ?_
        refine fw_iload_n h rfl rfl ?_
        refine fw_s3I h rfl fk_s_X8_in fk_l_X8_109 rfl rfl ?_
        refine c_X8_in (fun c48a c48b => ?_) (fun c48 => ?_)
        · refine fw_if_eq h rfl (fun c => absurd c (by decide)) (fun _ => ?_)
          refine fw_aload_n h rfl rfl ?_
          refine fw_iload h rfl rfl ?_
          refine fw_v1V h rfl fk_v_X8_layDueNow fk_l_X8_255 rfl rfl rfl rfl ?_
          have hA1 : fd_A (mD w1) nt i (fd_m (mD w) i) := by rw [eD]; exact hAA i hi
          refine c_X8_layDueNow hN1 hT1 hA1 (by omega) (fun w2 hs2 q32 q33 q34 => ?_)
          rw [eD] at q32 q33 q34
          have q34 : w2.1 46 34 = fs_dv (mD w) nt nx i := q34
          have hs3 : sM [23, 24, 25, 26, 32, 33, 34] w w2 := sM.tr hs hs2
          skip
          · first | refine fn_iinc h [_, _, _, _, _, _] rfl rfl rfl rfl rfl ?_ | refine fw_iinc h 1 [_, _, _, _, _, _] rfl (by decide) rfl rfl rfl rfl ?_
            refine fw_iload h rfl rfl ?_
            refine fw_aload_n h rfl rfl ?_
            refine fw_getIv (fs_dv (mD w) nt nx i) h rfl fk_g_X8_246 rfl rfl (q34) ?_
            refine fw_aload_n h rfl rfl ?_
            refine fw_getR _ h rfl fk_g_X8_47 rfl rfl ?_
            refine fw_iload h rfl rfl ?_
            refine fn_ialdF (w.1 58) h rfl rfl (hs3.1 58 (by decide)) (by omega) rfl ?_
            refine fw_isub h rfl ?_
            first | refine fn_iadd h rfl ?_ | refine fw_iadd h rfl ?_
            refine fw_istore h [_, _, _, _, _, _] rfl rfl rfl rfl ?_
            first | refine fn_iinc h [_, _, _, _, _, _] rfl rfl rfl rfl rfl ?_ | refine fw_iinc h 1 [_, _, _, _, _, _] rfl (by decide) rfl rfl rfl rfl ?_
            refine fw_goto h rfl ?_
            have hc : ¬ mD w 7 i = -9 ∧ fr ≤ mD w 6 i ∧ mD w 6 i ≤ to := ⟨c36, c48a, c48b⟩
            have en : fp_cnt (fun t => decide (¬ mD w 7 t = -9 ∧ fr ≤ mD w 6 t ∧ mD w 6 t ≤ to)) (i + 1) = fp_cnt (fun t => decide (¬ mD w 7 t = -9 ∧ fr ≤ mD w 6 t ∧ mD w 6 t ≤ to)) i + 1 := fp_cnt_1 (decide_eq_true hc)
            have es : fp_sum (fun t => if (¬ mD w 7 t = -9 ∧ fr ≤ mD w 6 t ∧ mD w 6 t ≤ to) then fs_dv (mD w) nt nx t - mD w 7 t else nI 0) (i + 1) = fp_sum (fun t => if (¬ mD w 7 t = -9 ∧ fr ≤ mD w 6 t ∧ mD w 6 t ≤ to) then fs_dv (mD w) nt nx t - mD w 7 t else nI 0) i + (fs_dv (mD w) nt nx i - w.1 58 i) := fp_sum_s (if_pos hc)
            rw [en, es] at ih
            exact ih w2 hs3
        · refine fw_if_eq h rfl (fun _ => ?_) (fun c => absurd c (by decide))
          first | refine fn_iinc h [_, _, _, _, _, _] rfl rfl rfl rfl rfl ?_ | refine fw_iinc h 1 [_, _, _, _, _, _] rfl (by decide) rfl rfl rfl rfl ?_
          refine fw_goto h rfl ?_
          have hc : ¬ (¬ mD w 7 i = -9 ∧ fr ≤ mD w 6 i ∧ mD w 6 i ≤ to) := by first | exact (fun q => q.1 c36) | exact (fun q => c48 q.2)
          have en : fp_cnt (fun t => decide (¬ mD w 7 t = -9 ∧ fr ≤ mD w 6 t ∧ mD w 6 t ≤ to)) (i + 1) = fp_cnt (fun t => decide (¬ mD w 7 t = -9 ∧ fr ≤ mD w 6 t ∧ mD w 6 t ≤ to)) i + 0 := fp_cnt_0 (decide_eq_false hc)
          have es : fp_sum (fun t => if (¬ mD w 7 t = -9 ∧ fr ≤ mD w 6 t ∧ mD w 6 t ≤ to) then fs_dv (mD w) nt nx t - mD w 7 t else nI 0) (i + 1) = fp_sum (fun t => if (¬ mD w 7 t = -9 ∧ fr ≤ mD w 6 t ∧ mD w 6 t ≤ to) then fs_dv (mD w) nt nx t - mD w 7 t else nI 0) i := fp_sum_z (if_neg hc)
          rw [en, es] at ih
          exact ih w1 hs
  · refine fw_if_ne h rfl (fun c => absurd c (by decide)) (fun _ => ?_)
    refine fw_iconst h (-1) rfl (by decide) ?_
    exact fw_iret h rfl rfl ⟨_, rfl, hb c2⟩
