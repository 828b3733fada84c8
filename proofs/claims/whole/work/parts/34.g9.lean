theorem c_X8_mean {l : Launch} {w : fb_Wd} {P : Int32 → fb_Wd → Prop} {nt nd nx ng : Nat} (hN : fd_N (mD w) nt nd nx ng) (hT : fd_T (mD w) nt) (hAA : ∀ d, d < nd → fd_A (mD w) nt d (fd_m (mD w) d)) {so : Int32} (hb : ¬ (0 ≤ so ∧ so ≤ 9) → P (-1) w) (h0 : fp_cnt (fun t => decide (mD w 1 t = so)) nt = 0 → P (-3) (fb_up (fb_up w 46 0 (nI 4)) 47 4 (w.1 47 4 + 1))) (hg : ¬ fp_cnt (fun t => decide (mD w 1 t = so)) nt = 0 → P 1 (fb_up w 46 2 (fp_sum (fun t => if mD w 1 t = so then mD w 2 t else nI 0) nt / nI (fp_cnt (fun t => decide (mD w 1 t = so)) nt)))) : fb_Can l tX8_mean [.ref 46, .int so] w (fb_kI P) := by
  refine fb_intro 3 fk_t_X8_mean (by decide) rfl (fun X hX h => ?_)
  subst hX
  change fb_AW tX8_mean X 0 [some (.ref 46), some (.int so), none, none, none] [] w
  refine fw_iload_n h rfl rfl ?_
  refine fw_s1I h rfl fk_s_X8_isSort fk_l_X8_127 rfl rfl ?_
  refine c_X8_isSort (fun c1a c1b => ?_) (fun c1 => ?_)
  · refine fw_if_ne h rfl (fun _ => ?_) (fun c => absurd c (by decide))
    have hnt := hN.1.2
    have hcl := fp_cnt_le (fun t => decide (mD w 1 t = so)) nt
    refine fw_iconst h (nI 0) rfl (by decide) ?_
    refine fw_istore_n h [_, _, _, _, _] rfl rfl rfl rfl ?_
    refine fw_iconst h (nI 0) rfl (by decide) ?_
    refine fw_istore_n h [_, _, _, _, _] rfl rfl rfl rfl ?_
    refine fw_iconst h (nI 0) rfl (by decide) ?_
    refine fw_istore h [_, _, _, _, _] rfl rfl rfl rfl ?_
    refine fb_loop (fun i => fb_AW tX8_mean X 16 [some (.ref 46), some (.int so), some (.int (nI (fp_cnt (fun t => decide (mD w 1 t = so)) i))), some (.int (fp_sum (fun t => if mD w 1 t = so then mD w 2 t else nI 0) i)), some (.int (nI i))] [] w) (nt) ?_ (fun i hi ih => ?_) 0 (Nat.zero_le _)
    · refine fw_iload h rfl rfl ?_
      refine fw_aload_n h rfl rfl ?_
      refine fw_getI h rfl fk_g_X8_124 rfl rfl ?_
      refine fw_icmp_ge h rfl (fun c22 => ?_) (fun c22 => False.elim (c22 (by rw [show w.1 46 8 = nI nt from hN.1.1]; exact Int32.le_refl _)))
      refine fw_iload_n h rfl rfl ?_
      refine fw_if_ne h rfl (fun c76 => ?_) (fun c76 => ?_)
      · refine fw_aload_n h rfl rfl ?_
        refine fw_iload_n h rfl rfl ?_
        refine fw_iload_n h rfl rfl ?_
        refine fw_idiv h rfl (c76) ?_
        refine fw_iconst h (nI 1) rfl (by decide) ?_
        refine fw_v2I h rfl fk_v_X8_ask fk_l_X8_147 rfl rfl rfl rfl ?_
        refine c_X8_ask ?_
        exact fw_iret h rfl rfl ⟨_, rfl, hg (fun z => c76 (by rw [z]; rfl))⟩
      · refine fw_aload_n h rfl rfl ?_
        refine fw_iconst h (nI 4) rfl (by decide) ?_
        refine fw_v1I h rfl fk_v_X8_meets fk_l_X8_117 rfl rfl rfl rfl ?_
        refine c_X8_meets (by decide) ?_
        refine fw_goto h rfl ?_
        exact fw_iret h rfl rfl ⟨_, rfl, h0 ((nI_eq (b := 0) (by omega) (by decide)).mp c76)⟩
    · refine fw_iload h rfl rfl ?_
      refine fw_aload_n h rfl rfl ?_
      refine fw_getIv (w.1 46 8) h rfl fk_g_X8_124 rfl rfl (rfl) ?_
      refine fw_icmp_ge h rfl (fun c22 => False.elim (nI_ge hi (by omega) (by rw [← show w.1 46 8 = nI nt from hN.1.1]; exact c22))) (fun c22 => ?_)
      refine fw_iload_n h rfl rfl ?_
      refine fw_aload_n h rfl rfl ?_
      refine fw_getR _ h rfl fk_g_X8_29 rfl rfl ?_
      refine fw_iload h rfl rfl ?_
      refine fn_ialdF (w.1 52) h rfl rfl (rfl) (by omega) rfl ?_
      refine fw_iload_n h rfl rfl ?_
      refine fw_icmp_ne h rfl (fun c34 => ?_) (fun c34 => ?_)
      · have en : fp_cnt (fun t => decide (mD w 1 t = so)) (i + 1) = fp_cnt (fun t => decide (mD w 1 t = so)) i + 0 := fp_cnt_0 (decide_eq_false c34)
        refine fw_iconst h (nI 0) rfl (by decide) ?_
        first | refine fn_iadd h rfl ?_ | refine fw_iadd h rfl ?_
        refine fw_istore_n h [_, _, _, _, _] rfl rfl rfl rfl ?_
        refine fw_iload_n h rfl rfl ?_
        refine fw_aload_n h rfl rfl ?_
        refine fw_getR _ h rfl fk_g_X8_29 rfl rfl ?_
        refine fw_iload h rfl rfl ?_
        refine fn_ialdF (w.1 52) h rfl rfl (rfl) (by omega) rfl ?_
        refine fw_iload_n h rfl rfl ?_
        refine fw_icmp_ne h rfl (fun c53 => ?_) (fun c53 => ?_)
        · have es : fp_sum (fun t => if mD w 1 t = so then mD w 2 t else nI 0) (i + 1) = fp_sum (fun t => if mD w 1 t = so then mD w 2 t else nI 0) i + nI 0 := fp_sum_s (if_neg c53)
          refine fw_iconst h (nI 0) rfl (by decide) ?_
          first | refine fn_iadd h rfl ?_ | refine fw_iadd h rfl ?_
          refine fw_istore_n h [_, _, _, _, _] rfl rfl rfl rfl ?_
          first | refine fn_iinc h [_, _, _, _, _] rfl rfl rfl rfl rfl ?_ | refine fw_iinc h 1 [_, _, _, _, _] rfl (by decide) rfl rfl rfl rfl ?_
          refine fw_goto h rfl ?_
          rw [en, es] at ih
          exact ih
        · have es : fp_sum (fun t => if mD w 1 t = so then mD w 2 t else nI 0) (i + 1) = fp_sum (fun t => if mD w 1 t = so then mD w 2 t else nI 0) i + w.1 53 i := fp_sum_s (if_pos c53)
          refine fw_aload_n h rfl rfl ?_
          refine fw_getR _ h rfl fk_g_X8_32 rfl rfl ?_
          refine fw_iload h rfl rfl ?_
          refine fn_ialdF (w.1 53) h rfl rfl (rfl) (by omega) rfl ?_
          refine fw_goto h rfl ?_
          first | refine fn_iadd h rfl ?_ | refine fw_iadd h rfl ?_
          refine fw_istore_n h [_, _, _, _, _] rfl rfl rfl rfl ?_
          first | refine fn_iinc h [_, _, _, _, _] rfl rfl rfl rfl rfl ?_ | refine fw_iinc h 1 [_, _, _, _, _] rfl (by decide) rfl rfl rfl rfl ?_
          refine fw_goto h rfl ?_
          rw [en, es] at ih
          exact ih
      · have en : fp_cnt (fun t => decide (mD w 1 t = so)) (i + 1) = fp_cnt (fun t => decide (mD w 1 t = so)) i + 1 := fp_cnt_1 (decide_eq_true c34)
        refine fw_iconst h (nI 1) rfl (by decide) ?_
        refine fw_goto h rfl ?_
        first | refine fn_iadd h rfl ?_ | refine fw_iadd h rfl ?_
        refine fw_istore_n h [_, _, _, _, _] rfl rfl rfl rfl ?_
        refine fw_iload_n h rfl rfl ?_
        refine fw_aload_n h rfl rfl ?_
        refine fw_getR _ h rfl fk_g_X8_29 rfl rfl ?_
        refine fw_iload h rfl rfl ?_
        refine fn_ialdF (w.1 52) h rfl rfl (rfl) (by omega) rfl ?_
        refine fw_iload_n h rfl rfl ?_
        refine fw_icmp_ne h rfl (fun c53 => ?_) (fun c53 => ?_)
        · have es : fp_sum (fun t => if mD w 1 t = so then mD w 2 t else nI 0) (i + 1) = fp_sum (fun t => if mD w 1 t = so then mD w 2 t else nI 0) i + nI 0 := fp_sum_s (if_neg c53)
          refine fw_iconst h (nI 0) rfl (by decide) ?_
          first | refine fn_iadd h rfl ?_ | refine fw_iadd h rfl ?_
          refine fw_istore_n h [_, _, _, _, _] rfl rfl rfl rfl ?_
          first | refine fn_iinc h [_, _, _, _, _] rfl rfl rfl rfl rfl ?_ | refine fw_iinc h 1 [_, _, _, _, _] rfl (by decide) rfl rfl rfl rfl ?_
          refine fw_goto h rfl ?_
          rw [en, es] at ih
          exact ih
        · have es : fp_sum (fun t => if mD w 1 t = so then mD w 2 t else nI 0) (i + 1) = fp_sum (fun t => if mD w 1 t = so then mD w 2 t else nI 0) i + w.1 53 i := fp_sum_s (if_pos c53)
          refine fw_aload_n h rfl rfl ?_
          refine fw_getR _ h rfl fk_g_X8_32 rfl rfl ?_
          refine fw_iload h rfl rfl ?_
          refine fn_ialdF (w.1 53) h rfl rfl (rfl) (by omega) rfl ?_
          refine fw_goto h rfl ?_
          first | refine fn_iadd h rfl ?_ | refine fw_iadd h rfl ?_
          refine fw_istore_n h [_, _, _, _, _] rfl rfl rfl rfl ?_
          first | refine fn_iinc h [_, _, _, _, _] rfl rfl rfl rfl rfl ?_ | refine fw_iinc h 1 [_, _, _, _, _] rfl (by decide) rfl rfl rfl rfl ?_
          refine fw_goto h rfl ?_
          rw [en, es] at ih
          exact ih
  · refine fw_if_ne h rfl (fun c => absurd c (by decide)) (fun _ => ?_)
    refine fw_iconst h (-1) rfl (by decide) ?_
    exact fw_iret h rfl rfl ⟨_, rfl, hb c1⟩
