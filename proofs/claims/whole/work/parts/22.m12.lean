def fd_m (D : Nat → Nat → Int32) (d : Nat) : Nat := (D 8 d).toNatClampNeg
noncomputable def fs_dq (D : Nat → Nat → Int32) (nt nx d : Nat) : Nat := fs_qn D nt nx d (fd_m D d)
noncomputable def fs_ds (D : Nat → Nat → Int32) (nt nx d : Nat) : Int32 := fs_sn D nt nx d (fd_m D d) (fs_dq D nt nx d)
noncomputable def fs_dv (D : Nat → Nat → Int32) (nt nx d : Nat) : Int32 := fs_vn D nt nx d (fd_m D d) (fs_dq D nt nx d)
noncomputable def fs_hn (D : Nat → Nat → Int32) (nt nx : Nat) (pl fr to : Int32) (d : Nat) : Bool := decide (D 5 d = pl ∧ (fr ≤ D 6 d ∧ D 6 d ≤ to) ∧ ¬ D 7 d = -9 ∧ ¬ fs_dv D nt nx d ≤ 0)
noncomputable def fs_hk (D : Nat → Nat → Int32) (nt nx : Nat) (pl fr to : Int32) (d : Nat) : Bool := fs_hn D nt nx pl fr to d && !decide (fs_dv D nt nx d ≤ nI 2 * D 7 d)
section HB
variable {D : Nat → Nat → Int32} {nt nx d : Nat} {pl fr to : Int32}
theorem fs_hn_t (h1 : D 5 d = pl) (h2 : fr ≤ D 6 d) (h3 : D 6 d ≤ to) (h4 : ¬ D 7 d = -9) (h5 : ¬ fs_dv D nt nx d ≤ 0) : fs_hn D nt nx pl fr to d = true := decide_eq_true ⟨h1, ⟨h2, h3⟩, h4, h5⟩
theorem fs_hn_f1 (h1 : ¬ D 5 d = pl) : fs_hn D nt nx pl fr to d = false := decide_eq_false (fun q => h1 q.1)
theorem fs_hn_f2 (h1 : ¬ (fr ≤ D 6 d ∧ D 6 d ≤ to)) : fs_hn D nt nx pl fr to d = false := decide_eq_false (fun q => h1 q.2.1)
theorem fs_hn_f4 (h1 : D 7 d = -9) : fs_hn D nt nx pl fr to d = false := decide_eq_false (fun q => q.2.2.1 h1)
theorem fs_hn_f5 (h1 : fs_dv D nt nx d ≤ 0) : fs_hn D nt nx pl fr to d = false := decide_eq_false (fun q => q.2.2.2 h1)
theorem fs_hk_t (h : fs_hn D nt nx pl fr to d = true) (h2 : ¬ fs_dv D nt nx d ≤ nI 2 * D 7 d) : fs_hk D nt nx pl fr to d = true := by unfold fs_hk; rw [h, decide_eq_false h2]; rfl
theorem fs_hk_f (h : fs_hn D nt nx pl fr to d = false) : fs_hk D nt nx pl fr to d = false := by unfold fs_hk; rw [h]; rfl
theorem fs_hk_f2 (h2 : fs_dv D nt nx d ≤ nI 2 * D 7 d) : fs_hk D nt nx pl fr to d = false := by unfold fs_hk; rw [decide_eq_true h2]; simp
end HB
theorem c_X8_layHabit {l : Launch} {w : fb_Wd} {P : fb_Wd → Prop} {pl fr to : Int32} {nt nd nx ng : Nat} (hN : fd_N (mD w) nt nd nx ng) (hT : fd_T (mD w) nt) (hAA : ∀ d, d < nd → fd_A (mD w) nt d (fd_m (mD w) d)) (hp : ∀ w', sM [23, 24, 25, 26, 32, 33, 34, 36, 37] w w' → w'.1 46 36 = nI (fp_cnt (fs_hn (mD w) nt nx pl fr to) nd) → w'.1 46 37 = nI (fp_cnt (fs_hk (mD w) nt nx pl fr to) nd) → P w') : fb_Can l tX8_layHabit [.ref 46, .int pl, .int fr, .int to] w (fb_kV P) := by
  refine fb_intro 1 fk_t_X8_layHabit (by decide) rfl (fun X hX h => ?_)
  subst hX
  change fb_AW tX8_layHabit X 0 [some (.ref 46), some (.int pl), some (.int fr), some (.int to), none] [] w
  have hnd := hN.2.1.2
  refine fw_aload_n h rfl rfl ?_
  refine fw_iconst h (nI 0) rfl (by decide) ?_
  refine fw_putI h rfl fk_p_X8_264 rfl rfl ?_
  refine fw_aload_n h rfl rfl ?_
  refine fw_iconst h (nI 0) rfl (by decide) ?_
  refine fw_putI h rfl fk_p_X8_267 rfl rfl ?_
  refine fw_iconst h (nI 0) rfl (by decide) ?_
  refine fw_istore h [_, _, _, _, _] rfl rfl rfl rfl ?_
  refine (?_ : ∀ w1, sM [23, 24, 25, 26, 32, 33, 34, 36, 37] w w1 → w1.1 46 36 = nI (fp_cnt (fs_hn (mD w) nt nx pl fr to) 0) → w1.1 46 37 = nI (fp_cnt (fs_hk (mD w) nt nx pl fr to) 0) → fb_AW tX8_layHabit X 13 [some (.ref 46), some (.int pl), some (.int fr), some (.int to), some (.int (nI 0))] [] w1) _ (((sM.rf _ w).up 36 _ (by decide)).up 37 _ (by decide)) rfl rfl
  refine fb_loop (fun i => ∀ w1, sM [23, 24, 25, 26, 32, 33, 34, 36, 37] w w1 → w1.1 46 36 = nI (fp_cnt (fs_hn (mD w) nt nx pl fr to) i) → w1.1 46 37 = nI (fp_cnt (fs_hk (mD w) nt nx pl fr to) i) → fb_AW tX8_layHabit X 13 [some (.ref 46), some (.int pl), some (.int fr), some (.int to), some (.int (nI i))] [] w1) (nd) ?_ (fun i hi ih => ?_) 0 (Nat.zero_le _)
  · intro w1 hs h36 h37
    have eD : mD w1 = mD w := sM.mD hs (by decide)
    have hN1 : fd_N (mD w1) nt nd nx ng := by rw [eD]; exact hN
    have hT1 : fd_T (mD w1) nt := by rw [eD]; exact hT
    refine fw_iload h rfl rfl ?_
    refine fw_aload_n h rfl rfl ?_
    refine fw_getI h rfl fk_g_X8_150 rfl rfl ?_
    refine fw_icmp_ge h rfl (fun c19 => ?_) (fun c19 => False.elim (c19 (by rw [show w1.1 46 14 = nI nd from hN1.2.1.1]; exact Int32.le_refl _)))
    exact fw_vret h rfl rfl ⟨rfl, hp w1 hs h36 h37⟩
  · intro w1 hs h36 h37
    have eD : mD w1 = mD w := sM.mD hs (by decide)
    have hN1 : fd_N (mD w1) nt nd nx ng := by rw [eD]; exact hN
    have hT1 : fd_T (mD w1) nt := by rw [eD]; exact hT
    refine fw_iload h rfl rfl ?_
    refine fw_aload_n h rfl rfl ?_
    refine fw_getIv (w.1 46 14) h rfl fk_g_X8_150 rfl rfl (hs.2.1 14 (by decide)) ?_
    refine fw_icmp_ge h rfl (fun c19 => False.elim (nI_ge hi (by omega) (by rw [← show w.1 46 14 = nI nd from hN.2.1.1]; exact c19))) (fun c19 => ?_)
    refine fw_aload_n h rfl rfl ?_
    refine fw_getR _ h rfl fk_g_X8_41 rfl rfl ?_
    refine fw_iload h rfl rfl ?_
    refine fn_ialdF (w.1 56) h rfl rfl (hs.1 56 (by decide)) (by omega) rfl ?_
    refine fw_iload_n h rfl rfl ?_
    refine fw_icmp_ne h rfl (fun c30 => ?_) (fun c30 => ?_)
    · first | refine fn_iinc h [_, _, _, _, _] rfl rfl rfl rfl rfl ?_ | refine fw_iinc h 1 [_, _, _, _, _] rfl (by decide) rfl rfl rfl rfl ?_
      refine fw_goto h rfl ?_
      first
        | (exact ih w1 hs (h36.trans (congrArg nI (fp_cnt_0 (fs_hn_f1 c30)).symm)) (h37.trans (congrArg nI (fp_cnt_0 (fs_hk_f (fs_hn_f1 c30))).symm)))
        | (exact ih w1 hs (h36.trans (congrArg nI (fp_cnt_0 (fs_hn_f2 c42)).symm)) (h37.trans (congrArg nI (fp_cnt_0 (fs_hk_f (fs_hn_f2 c42))).symm)))
        | (exact ih w1 hs (h36.trans (congrArg nI (fp_cnt_0 (fs_hn_f4 c57)).symm)) (h37.trans (congrArg nI (fp_cnt_0 (fs_hk_f (fs_hn_f4 c57))).symm)))
    · refine fw_aload_n h rfl rfl ?_
      refine fw_getR _ h rfl fk_g_X8_44 rfl rfl ?_
      refine fw_iload h rfl rfl ?_
      refine fn_ialdF (w.1 57) h rfl rfl (hs.1 57 (by decide)) (by omega) rfl ?_
      refine fw_iload_n h rfl rfl ?_
      refine fw_iload_n h rfl rfl ?_
      refine fw_s3I h rfl fk_s_X8_in fk_l_X8_109 rfl rfl ?_
      refine c_X8_in (fun c42a c42b => ?_) (fun c42 => ?_)
      · refine fw_if_eq h rfl (fun c => absurd c (by decide)) (fun _ => ?_)
        refine fw_aload_n h rfl rfl ?_
        refine fw_getR _ h rfl fk_g_X8_47 rfl rfl ?_
        refine fw_iload h rfl rfl ?_
        refine fn_ialdF (w.1 58) h rfl rfl (hs.1 58 (by decide)) (by omega) rfl ?_
        refine fw_bipush h (-9) rfl (by decide) ?_
        refine fw_icmp_eq h rfl (fun c57 => ?_) (fun c57 => ?_)
        · first | refine fn_iinc h [_, _, _, _, _] rfl rfl rfl rfl rfl ?_ | refine fw_iinc h 1 [_, _, _, _, _] rfl (by decide) rfl rfl rfl rfl ?_
          refine fw_goto h rfl ?_
          first
            | (exact ih w1 hs (h36.trans (congrArg nI (fp_cnt_0 (fs_hn_f1 c30)).symm)) (h37.trans (congrArg nI (fp_cnt_0 (fs_hk_f (fs_hn_f1 c30))).symm)))
            | (exact ih w1 hs (h36.trans (congrArg nI (fp_cnt_0 (fs_hn_f2 c42)).symm)) (h37.trans (congrArg nI (fp_cnt_0 (fs_hk_f (fs_hn_f2 c42))).symm)))
            | (exact ih w1 hs (h36.trans (congrArg nI (fp_cnt_0 (fs_hn_f4 c57)).symm)) (h37.trans (congrArg nI (fp_cnt_0 (fs_hk_f (fs_hn_f4 c57))).symm)))
        · refine fw_aload_n h rfl rfl ?_
          refine fw_iload h rfl rfl ?_
          refine fw_v1V h rfl fk_v_X8_layDueNow fk_l_X8_255 rfl rfl rfl rfl ?_
          have hA1 : fd_A (mD w1) nt i (fd_m (mD w) i) := by rw [eD]; exact hAA i hi
          refine c_X8_layDueNow hN1 hT1 hA1 (by omega) (fun w2 hs2 q32 q33 q34 => ?_)
          rw [eD] at q32 q33 q34
          have q34 : w2.1 46 34 = fs_dv (mD w) nt nx i := q34
          have q33 : w2.1 46 33 = fs_ds (mD w) nt nx i := q33
          have hs3 : sM [23, 24, 25, 26, 32, 33, 34, 36, 37] w w2 := hs.tr (sM.mono hs2 (by decide))
          have g36 : w2.1 46 36 = nI (fp_cnt (fs_hn (mD w) nt nx pl fr to) i) := ((show sM [23, 24, 25, 26, 32, 33, 34] w1 w2 from hs2).2.1 36 (by decide)).trans h36
          have g37 : w2.1 46 37 = nI (fp_cnt (fs_hk (mD w) nt nx pl fr to) i) := ((show sM [23, 24, 25, 26, 32, 33, 34] w1 w2 from hs2).2.1 37 (by decide)).trans h37
          skip
          · refine fw_aload_n h rfl rfl ?_
            refine fw_dup h rfl rfl ?_
            refine fw_getIv (nI (fp_cnt (fs_hn (mD w) nt nx pl fr to) i)) h rfl fk_g_X8_264 rfl rfl (g36) ?_
            refine fw_aload_n h rfl rfl ?_
            refine fw_getIv (fs_dv (mD w) nt nx i) h rfl fk_g_X8_246 rfl rfl (q34) ?_
            refine fw_if_le h rfl (fun c75 => ?_) (fun c75 => ?_)
            · have en : nI (fp_cnt (fs_hn (mD w) nt nx pl fr to) i + 0) = nI (fp_cnt (fs_hn (mD w) nt nx pl fr to) (i + 1)) := congrArg nI (fp_cnt_0 (fs_hn_f5 c75)).symm
              refine fw_iconst h (nI 0) rfl (by decide) ?_
              first | refine fn_iadd h rfl ?_ | refine fw_iadd h rfl ?_
              refine fw_putI h rfl fk_p_X8_264 rfl rfl ?_
              refine fw_aload_n h rfl rfl ?_
              refine fw_dup h rfl rfl ?_
              refine fw_getIv (nI (fp_cnt (fs_hk (mD w) nt nx pl fr to) i)) h rfl fk_g_X8_267 rfl rfl (g37) ?_
              refine fw_aload_n h rfl rfl ?_
              refine fw_getIv (fs_dv (mD w) nt nx i) h rfl fk_g_X8_246 rfl rfl (q34) ?_
              refine fw_if_le h rfl (fun c96 => ?_) (fun c96 => ?_)
              · have ek : nI (fp_cnt (fs_hk (mD w) nt nx pl fr to) i + 0) = nI (fp_cnt (fs_hk (mD w) nt nx pl fr to) (i + 1)) := congrArg nI (fp_cnt_0 (by first | exact fs_hk_f2 c112 | exact fs_hk_f (fs_hn_f5 c96))).symm
                refine fw_iconst h (nI 0) rfl (by decide) ?_
                first | refine fn_iadd h rfl ?_ | refine fw_iadd h rfl ?_
                refine fw_putI h rfl fk_p_X8_267 rfl rfl ?_
                first | refine fn_iinc h [_, _, _, _, _] rfl rfl rfl rfl rfl ?_ | refine fw_iinc h 1 [_, _, _, _, _] rfl (by decide) rfl rfl rfl rfl ?_
                refine fw_goto h rfl ?_
                exact ih _ ((hs3.up 36 _ (by decide)).up 37 _ (by decide)) en ek
              · refine fw_iconst h (nI 2) rfl (by decide) ?_
                refine fw_aload_n h rfl rfl ?_
                refine fw_getR _ h rfl fk_g_X8_47 rfl rfl ?_
                refine fw_iload h rfl rfl ?_
                refine fn_ialdF (w.1 58) h rfl rfl (hs3.1 58 (by decide)) (by omega) rfl ?_
                first | refine fn_imul h rfl ?_ | refine fw_imul h rfl ?_
                refine fw_aload_n h rfl rfl ?_
                refine fw_getIv (fs_dv (mD w) nt nx i) h rfl fk_g_X8_246 rfl rfl (q34) ?_
                refine fw_icmp_ge h rfl (fun c112 => ?_) (fun c112 => ?_)
                · have ek : nI (fp_cnt (fs_hk (mD w) nt nx pl fr to) i + 0) = nI (fp_cnt (fs_hk (mD w) nt nx pl fr to) (i + 1)) := congrArg nI (fp_cnt_0 (by first | exact fs_hk_f2 c112 | exact fs_hk_f (fs_hn_f5 c96))).symm
                  refine fw_iconst h (nI 0) rfl (by decide) ?_
                  first | refine fn_iadd h rfl ?_ | refine fw_iadd h rfl ?_
                  refine fw_putI h rfl fk_p_X8_267 rfl rfl ?_
                  first | refine fn_iinc h [_, _, _, _, _] rfl rfl rfl rfl rfl ?_ | refine fw_iinc h 1 [_, _, _, _, _] rfl (by decide) rfl rfl rfl rfl ?_
                  refine fw_goto h rfl ?_
                  exact ih _ ((hs3.up 36 _ (by decide)).up 37 _ (by decide)) en ek
                · have ek : nI (fp_cnt (fs_hk (mD w) nt nx pl fr to) i + 1) = nI (fp_cnt (fs_hk (mD w) nt nx pl fr to) (i + 1)) := congrArg nI (fp_cnt_1 (fs_hk_t (fs_hn_t c30 c42a c42b c57 c96) c112)).symm
                  refine fw_iconst h (nI 1) rfl (by decide) ?_
                  refine fw_goto h rfl ?_
                  first | refine fn_iadd h rfl ?_ | refine fw_iadd h rfl ?_
                  refine fw_putI h rfl fk_p_X8_267 rfl rfl ?_
                  first | refine fn_iinc h [_, _, _, _, _] rfl rfl rfl rfl rfl ?_ | refine fw_iinc h 1 [_, _, _, _, _] rfl (by decide) rfl rfl rfl rfl ?_
                  refine fw_goto h rfl ?_
                  exact ih _ ((hs3.up 36 _ (by decide)).up 37 _ (by decide)) en ek
            · have en : nI (fp_cnt (fs_hn (mD w) nt nx pl fr to) i + 1) = nI (fp_cnt (fs_hn (mD w) nt nx pl fr to) (i + 1)) := congrArg nI (fp_cnt_1 (fs_hn_t c30 c42a c42b c57 c75)).symm
              refine fw_iconst h (nI 1) rfl (by decide) ?_
              refine fw_goto h rfl ?_
              first | refine fn_iadd h rfl ?_ | refine fw_iadd h rfl ?_
              refine fw_putI h rfl fk_p_X8_264 rfl rfl ?_
              refine fw_aload_n h rfl rfl ?_
              refine fw_dup h rfl rfl ?_
              refine fw_getIv (nI (fp_cnt (fs_hk (mD w) nt nx pl fr to) i)) h rfl fk_g_X8_267 rfl rfl (g37) ?_
              refine fw_aload_n h rfl rfl ?_
              refine fw_getIv (fs_dv (mD w) nt nx i) h rfl fk_g_X8_246 rfl rfl (q34) ?_
              refine fw_if_le h rfl (fun c96 => ?_) (fun c96 => ?_)
              · have ek : nI (fp_cnt (fs_hk (mD w) nt nx pl fr to) i + 0) = nI (fp_cnt (fs_hk (mD w) nt nx pl fr to) (i + 1)) := congrArg nI (fp_cnt_0 (by first | exact fs_hk_f2 c112 | exact fs_hk_f (fs_hn_f5 c96))).symm
                refine fw_iconst h (nI 0) rfl (by decide) ?_
                first | refine fn_iadd h rfl ?_ | refine fw_iadd h rfl ?_
                refine fw_putI h rfl fk_p_X8_267 rfl rfl ?_
                first | refine fn_iinc h [_, _, _, _, _] rfl rfl rfl rfl rfl ?_ | refine fw_iinc h 1 [_, _, _, _, _] rfl (by decide) rfl rfl rfl rfl ?_
                refine fw_goto h rfl ?_
                exact ih _ ((hs3.up 36 _ (by decide)).up 37 _ (by decide)) en ek
              · refine fw_iconst h (nI 2) rfl (by decide) ?_
                refine fw_aload_n h rfl rfl ?_
                refine fw_getR _ h rfl fk_g_X8_47 rfl rfl ?_
                refine fw_iload h rfl rfl ?_
                refine fn_ialdF (w.1 58) h rfl rfl (hs3.1 58 (by decide)) (by omega) rfl ?_
                first | refine fn_imul h rfl ?_ | refine fw_imul h rfl ?_
                refine fw_aload_n h rfl rfl ?_
                refine fw_getIv (fs_dv (mD w) nt nx i) h rfl fk_g_X8_246 rfl rfl (q34) ?_
                refine fw_icmp_ge h rfl (fun c112 => ?_) (fun c112 => ?_)
                · have ek : nI (fp_cnt (fs_hk (mD w) nt nx pl fr to) i + 0) = nI (fp_cnt (fs_hk (mD w) nt nx pl fr to) (i + 1)) := congrArg nI (fp_cnt_0 (by first | exact fs_hk_f2 c112 | exact fs_hk_f (fs_hn_f5 c96))).symm
                  refine fw_iconst h (nI 0) rfl (by decide) ?_
                  first | refine fn_iadd h rfl ?_ | refine fw_iadd h rfl ?_
                  refine fw_putI h rfl fk_p_X8_267 rfl rfl ?_
                  first | refine fn_iinc h [_, _, _, _, _] rfl rfl rfl rfl rfl ?_ | refine fw_iinc h 1 [_, _, _, _, _] rfl (by decide) rfl rfl rfl rfl ?_
                  refine fw_goto h rfl ?_
                  exact ih _ ((hs3.up 36 _ (by decide)).up 37 _ (by decide)) en ek
                · have ek : nI (fp_cnt (fs_hk (mD w) nt nx pl fr to) i + 1) = nI (fp_cnt (fs_hk (mD w) nt nx pl fr to) (i + 1)) := congrArg nI (fp_cnt_1 (fs_hk_t (fs_hn_t c30 c42a c42b c57 c96) c112)).symm
                  refine fw_iconst h (nI 1) rfl (by decide) ?_
                  refine fw_goto h rfl ?_
                  first | refine fn_iadd h rfl ?_ | refine fw_iadd h rfl ?_
                  refine fw_putI h rfl fk_p_X8_267 rfl rfl ?_
                  first | refine fn_iinc h [_, _, _, _, _] rfl rfl rfl rfl rfl ?_ | refine fw_iinc h 1 [_, _, _, _, _] rfl (by decide) rfl rfl rfl rfl ?_
                  refine fw_goto h rfl ?_
                  exact ih _ ((hs3.up 36 _ (by decide)).up 37 _ (by decide)) en ek
      · refine fw_if_eq h rfl (fun _ => ?_) (fun c => absurd c (by decide))
        first | refine fn_iinc h [_, _, _, _, _] rfl rfl rfl rfl rfl ?_ | refine fw_iinc h 1 [_, _, _, _, _] rfl (by decide) rfl rfl rfl rfl ?_
        refine fw_goto h rfl ?_
        first
          | (exact ih w1 hs (h36.trans (congrArg nI (fp_cnt_0 (fs_hn_f1 c30)).symm)) (h37.trans (congrArg nI (fp_cnt_0 (fs_hk_f (fs_hn_f1 c30))).symm)))
          | (exact ih w1 hs (h36.trans (congrArg nI (fp_cnt_0 (fs_hn_f2 c42)).symm)) (h37.trans (congrArg nI (fp_cnt_0 (fs_hk_f (fs_hn_f2 c42))).symm)))
          | (exact ih w1 hs (h36.trans (congrArg nI (fp_cnt_0 (fs_hn_f4 c57)).symm)) (h37.trans (congrArg nI (fp_cnt_0 (fs_hk_f (fs_hn_f4 c57))).symm)))
