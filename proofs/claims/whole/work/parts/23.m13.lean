theorem fp_mk_1 {f : Nat → Bool} {n : Nat} (h : f n = true) : fp_mk f n ||| nI 1 <<< (nI n &&& 31) = fp_mk f (n + 1) := by rw [fp_mk, if_pos h]
theorem fp_mk_0 {f : Nat → Bool} {n : Nat} (h : f n = false) : fp_mk f n ||| nI 0 = fp_mk f (n + 1) := by rw [fp_mk, h]; rfl
theorem fd_c8_up (f : Nat → Int32) (x : Int32) : fd_c8 (fun b => if b = 8 then x else f b) = fd_c8 f := by
  funext k
  unfold fd_c8
  by_cases h : k < 8
  · rw [if_pos h, if_pos h]
    exact if_neg (show ¬ k = 8 by omega)
  · rw [if_neg h, if_neg h]
theorem mD_text8 (w : fb_Wd) (r z f : Int32) : mD (fp_setText w 8 r z f) = mD w := by
  funext i
  match i with
  | 0 | 1 | 2 | 3 | 4 | 5 | 6 | 7 | 8 | 9 | 10 | 11 | 12 | 13 | 17 | 18 | 19 | 20 | 21 | 22 | 23 => rfl
  | 14 => exact fd_c8_up (w.1 65) r
  | 15 => exact fd_c8_up (w.1 66) z
  | 16 => exact fd_c8_up (w.1 67) f
  | i + 24 => rfl
noncomputable def fs_cq (D : Nat → Nat → Int32) (nt d : Nat) (r z f : Int32) : Nat := fs_qc D nt d (fd_m D d) r z f
noncomputable def fs_cs (D : Nat → Nat → Int32) (nt d : Nat) (r z f : Int32) : Int32 := fs_sc D nt d (fd_m D d) r z f (fs_cq D nt d r z f)
noncomputable def fs_cv (D : Nat → Nat → Int32) (nt d : Nat) (r z f : Int32) : Int32 := fs_vc D nt d (fd_m D d) r z f (fs_cq D nt d r z f)
noncomputable def fs_ot (D : Nat → Nat → Int32) (nt nx : Nat) (r z f : Int32) (d : Nat) : Bool := decide (¬ fs_cs D nt d r z f = fs_ds D nt nx d)
noncomputable def fs_fr (D : Nat → Nat → Int32) (nt nx : Nat) (r z f : Int32) (d : Nat) : Bool := decide (¬ fs_ds D nt nx d = 0 ∧ fs_cs D nt d r z f = 0)
theorem c_X8_layChange {l : Launch} {w : fb_Wd} {P : fb_Wd → Prop} {r z f : Int32} {nt nd nx ng : Nat} (hN : fd_N (mD w) nt nd nx ng) (hT : fd_T (mD w) nt) (hAA : ∀ d, d < nd → fd_A (mD w) nt d (fd_m (mD w) d)) (hz : z = 0 ∨ z = 1) (hp : ∀ w', sM [23, 24, 25, 26, 32, 33, 34, 45, 46] (fp_setText w 8 r z f) w' → w'.1 46 45 = fp_mk (fs_ot (mD w) nt nx r z f) nd → w'.1 46 46 = fp_mk (fs_fr (mD w) nt nx r z f) nd → P w') : fb_Can l tX8_layChange [.ref 46, .int r, .int z, .int f] w (fb_kV P) := by
  refine fb_intro 2 fk_t_X8_layChange (by decide) rfl (fun X hX h => ?_)
  subst hX
  change fb_AW tX8_layChange X 0 [some (.ref 46), some (.int r), some (.int z), some (.int f), none, none] [] w
  have hnd := hN.2.1.2
  refine fw_aload_n h rfl rfl ?_
  refine fw_bipush h (nI 8) rfl (by decide) ?_
  refine fw_iload_n h rfl rfl ?_
  refine fw_iload_n h rfl rfl ?_
  refine fw_iload_n h rfl rfl ?_
  refine fw_v4V h rfl fk_v_X8_setText fk_l_X8_229 rfl rfl rfl rfl ?_
  refine c_X8_setText (by omega) hz ?_
  refine fw_aload_n h rfl rfl ?_
  refine fw_iconst h (nI 0) rfl (by decide) ?_
  refine fw_putI h rfl fk_p_X8_290 rfl rfl ?_
  refine fw_aload_n h rfl rfl ?_
  refine fw_iconst h (nI 0) rfl (by decide) ?_
  refine fw_putI h rfl fk_p_X8_293 rfl rfl ?_
  refine fw_iconst h (nI 0) rfl (by decide) ?_
  refine fw_istore h [_, _, _, _, _, _] rfl rfl rfl rfl ?_
  refine (?_ : ∀ w1, sM [23, 24, 25, 26, 32, 33, 34, 45, 46] (fp_setText w 8 r z f) w1 → w1.1 46 45 = fp_mk (fs_ot (mD w) nt nx r z f) 0 → w1.1 46 46 = fp_mk (fs_fr (mD w) nt nx r z f) 0 → fb_AW tX8_layChange X 22 [some (.ref 46), some (.int r), some (.int z), some (.int f), some (.int (nI 0)), none] [] w1) _ (((sM.rf _ (fp_setText w 8 r z f)).up 45 _ (by decide)).up 46 _ (by decide)) rfl rfl
  refine fb_loop (fun i => ∀ w1, sM [23, 24, 25, 26, 32, 33, 34, 45, 46] (fp_setText w 8 r z f) w1 → w1.1 46 45 = fp_mk (fs_ot (mD w) nt nx r z f) i → w1.1 46 46 = fp_mk (fs_fr (mD w) nt nx r z f) i → fb_AW tX8_layChange X 22 [some (.ref 46), some (.int r), some (.int z), some (.int f), some (.int (nI i)), none] [] w1) (nd) ?_ (fun i hi ih => ?_) 0 (Nat.zero_le _)
  · intro w1 hs h45 h46
    have eD : mD w1 = mD w := (sM.mD hs (by decide)).trans (mD_text8 w r z f)
    have hN1 : fd_N (mD w1) nt nd nx ng := by rw [eD]; exact hN
    have hT1 : fd_T (mD w1) nt := by rw [eD]; exact hT
    refine fw_iload h rfl rfl ?_
    refine fw_aload_n h rfl rfl ?_
    refine fw_getI h rfl fk_g_X8_150 rfl rfl ?_
    refine fw_icmp_ge h rfl (fun c28 => ?_) (fun c28 => False.elim (c28 (by rw [show w1.1 46 14 = nI nd from hN1.2.1.1]; exact Int32.le_refl _)))
    exact fw_vret h rfl rfl ⟨rfl, hp w1 hs h45 h46⟩
  · intro w1 hs h45 h46
    have eD : mD w1 = mD w := (sM.mD hs (by decide)).trans (mD_text8 w r z f)
    have hN1 : fd_N (mD w1) nt nd nx ng := by rw [eD]; exact hN
    have hT1 : fd_T (mD w1) nt := by rw [eD]; exact hT
    refine fw_iload h rfl rfl ?_
    refine fw_aload_n h rfl rfl ?_
    refine fw_getI h rfl fk_g_X8_150 rfl rfl ?_
    refine fw_icmp_ge h rfl (fun c28 => False.elim (nI_ge hi (by omega) (by rw [← show w1.1 46 14 = nI nd from hN1.2.1.1]; exact c28))) (fun c28 => ?_)
    refine fw_aload_n h rfl rfl ?_
    refine fw_iload h rfl rfl ?_
    refine fw_v1V h rfl fk_v_X8_layDueNow fk_l_X8_255 rfl rfl rfl rfl ?_
    have hA1 : fd_A (mD w1) nt i (fd_m (mD w) i) := by rw [eD]; exact hAA i hi
    refine c_X8_layDueNow hN1 hT1 hA1 (by omega) (fun w2 hs2 q32 q33 q34 => ?_)
    rw [eD] at q32 q33 q34
    have q33 : w2.1 46 33 = fs_ds (mD w) nt nx i := q33
    have hs3 : sM [23, 24, 25, 26, 32, 33, 34, 45, 46] (fp_setText w 8 r z f) w2 := hs.tr (sM.mono hs2 (by decide))
    have eD2 : mD w2 = mD w := (sM.mD hs3 (by decide)).trans (mD_text8 w r z f)
    have hN2 : fd_N (mD w2) nt nd nx ng := by rw [eD2]; exact hN
    have hT2 : fd_T (mD w2) nt := by rw [eD2]; exact hT
    have hA2 : fd_A (mD w2) nt i (fd_m (mD w) i) := by rw [eD2]; exact hAA i hi
    skip
    · refine fw_aload_n h rfl rfl ?_
      refine fw_getIv (fs_ds (mD w) nt nx i) h rfl fk_g_X8_249 rfl rfl (q33) ?_
      refine fw_istore h [_, _, _, _, _, _] rfl rfl rfl rfl ?_
      refine fw_aload_n h rfl rfl ?_
      refine fw_iload h rfl rfl ?_
      refine fw_bipush h (nI 8) rfl (by decide) ?_
      refine fw_v2V h rfl fk_v_X8_layDue fk_l_X8_252 rfl rfl rfl rfl ?_
      refine c_X8_layDueC hN2 hT2 hA2 (by omega) (fun w3 hs4 p32 p33 p34 => ?_)
      rw [eD2, hs3.1 65 (by decide), hs3.1 66 (by decide), hs3.1 67 (by decide)] at p33
      have p33 : w3.1 46 33 = fs_cs (mD w) nt i r z f := p33
      have hs5 : sM [23, 24, 25, 26, 32, 33, 34, 45, 46] (fp_setText w 8 r z f) w3 := hs3.tr (sM.mono hs4 (by decide))
      have g45 : w3.1 46 45 = fp_mk (fs_ot (mD w) nt nx r z f) i := ((show sM [23, 24, 25, 26, 32, 33, 34] w2 w3 from hs4).2.1 45 (by decide)).trans (((show sM [23, 24, 25, 26, 32, 33, 34] w1 w2 from hs2).2.1 45 (by decide)).trans h45)
      have g46 : w3.1 46 46 = fp_mk (fs_fr (mD w) nt nx r z f) i := ((show sM [23, 24, 25, 26, 32, 33, 34] w2 w3 from hs4).2.1 46 (by decide)).trans (((show sM [23, 24, 25, 26, 32, 33, 34] w1 w2 from hs2).2.1 46 (by decide)).trans h46)
      skip
      · refine fw_aload_n h rfl rfl ?_
        refine fw_dup h rfl rfl ?_
        refine fw_getIv (fp_mk (fs_ot (mD w) nt nx r z f) i) h rfl fk_g_X8_290 rfl rfl (g45) ?_
        refine fw_aload_n h rfl rfl ?_
        refine fw_getIv (fs_cs (mD w) nt i r z f) h rfl fk_g_X8_249 rfl rfl (p33) ?_
        refine fw_iload h rfl rfl ?_
        refine fw_icmp_eq h rfl (fun c62 => ?_) (fun c62 => ?_)
        · have en : fp_mk (fs_ot (mD w) nt nx r z f) i ||| nI 0 = fp_mk (fs_ot (mD w) nt nx r z f) (i + 1) := fp_mk_0 (decide_eq_false (fun q => q c62))
          refine fw_iconst h (nI 0) rfl (by decide) ?_
          refine fw_ior h rfl ?_
          refine fw_putI h rfl fk_p_X8_290 rfl rfl ?_
          refine fw_aload_n h rfl rfl ?_
          refine fw_dup h rfl rfl ?_
          refine fw_getIv (fp_mk (fs_fr (mD w) nt nx r z f) i) h rfl fk_g_X8_293 rfl rfl (g46) ?_
          refine fw_iload h rfl rfl ?_
          refine fw_if_eq h rfl (fun c84 => ?_) (fun c84 => ?_)
          · have ek : fp_mk (fs_fr (mD w) nt nx r z f) i ||| nI 0 = fp_mk (fs_fr (mD w) nt nx r z f) (i + 1) := fp_mk_0 (decide_eq_false (by first | exact (fun q => q.1 c84) | exact (fun q => c91 q.2)))
            refine fw_iconst h (nI 0) rfl (by decide) ?_
            refine fw_ior h rfl ?_
            refine fw_putI h rfl fk_p_X8_293 rfl rfl ?_
            first | refine fn_iinc h [_, _, _, _, _, _] rfl rfl rfl rfl rfl ?_ | refine fw_iinc h 1 [_, _, _, _, _, _] rfl (by decide) rfl rfl rfl rfl ?_
            refine fw_goto h rfl ?_
            refine fw_sub (fb_pad_c (Or.inr rfl) (fb_pad_c (Or.inr rfl) (fb_pad_c (Or.inr rfl) (fb_pad_c (Or.inr rfl) (fb_pad_c (Or.inr rfl) (fb_pad_c (Or.inl rfl) (fb_pad_n))))))) (ih _ ((hs5.up 45 _ (by decide)).up 46 _ (by decide)) en ek)
          · refine fw_aload_n h rfl rfl ?_
            refine fw_getIv (fs_cs (mD w) nt i r z f) h rfl fk_g_X8_249 rfl rfl (p33) ?_
            refine fw_if_ne h rfl (fun c91 => ?_) (fun c91 => ?_)
            · have ek : fp_mk (fs_fr (mD w) nt nx r z f) i ||| nI 0 = fp_mk (fs_fr (mD w) nt nx r z f) (i + 1) := fp_mk_0 (decide_eq_false (by first | exact (fun q => q.1 c84) | exact (fun q => c91 q.2)))
              refine fw_iconst h (nI 0) rfl (by decide) ?_
              refine fw_ior h rfl ?_
              refine fw_putI h rfl fk_p_X8_293 rfl rfl ?_
              first | refine fn_iinc h [_, _, _, _, _, _] rfl rfl rfl rfl rfl ?_ | refine fw_iinc h 1 [_, _, _, _, _, _] rfl (by decide) rfl rfl rfl rfl ?_
              refine fw_goto h rfl ?_
              refine fw_sub (fb_pad_c (Or.inr rfl) (fb_pad_c (Or.inr rfl) (fb_pad_c (Or.inr rfl) (fb_pad_c (Or.inr rfl) (fb_pad_c (Or.inr rfl) (fb_pad_c (Or.inl rfl) (fb_pad_n))))))) (ih _ ((hs5.up 45 _ (by decide)).up 46 _ (by decide)) en ek)
            · have ek : fp_mk (fs_fr (mD w) nt nx r z f) i ||| nI 1 <<< (nI i &&& 31) = fp_mk (fs_fr (mD w) nt nx r z f) (i + 1) := fp_mk_1 (decide_eq_true (And.intro c84 c91))
              refine fw_iconst h (nI 1) rfl (by decide) ?_
              refine fw_iload h rfl rfl ?_
              refine fw_ishl h rfl ?_
              refine fw_goto h rfl ?_
              refine fw_ior h rfl ?_
              refine fw_putI h rfl fk_p_X8_293 rfl rfl ?_
              first | refine fn_iinc h [_, _, _, _, _, _] rfl rfl rfl rfl rfl ?_ | refine fw_iinc h 1 [_, _, _, _, _, _] rfl (by decide) rfl rfl rfl rfl ?_
              refine fw_goto h rfl ?_
              refine fw_sub (fb_pad_c (Or.inr rfl) (fb_pad_c (Or.inr rfl) (fb_pad_c (Or.inr rfl) (fb_pad_c (Or.inr rfl) (fb_pad_c (Or.inr rfl) (fb_pad_c (Or.inl rfl) (fb_pad_n))))))) (ih _ ((hs5.up 45 _ (by decide)).up 46 _ (by decide)) en ek)
        · have en : fp_mk (fs_ot (mD w) nt nx r z f) i ||| nI 1 <<< (nI i &&& 31) = fp_mk (fs_ot (mD w) nt nx r z f) (i + 1) := fp_mk_1 (decide_eq_true c62)
          refine fw_iconst h (nI 1) rfl (by decide) ?_
          refine fw_iload h rfl rfl ?_
          refine fw_ishl h rfl ?_
          refine fw_goto h rfl ?_
          refine fw_ior h rfl ?_
          refine fw_putI h rfl fk_p_X8_290 rfl rfl ?_
          refine fw_aload_n h rfl rfl ?_
          refine fw_dup h rfl rfl ?_
          refine fw_getIv (fp_mk (fs_fr (mD w) nt nx r z f) i) h rfl fk_g_X8_293 rfl rfl (g46) ?_
          refine fw_iload h rfl rfl ?_
          refine fw_if_eq h rfl (fun c84 => ?_) (fun c84 => ?_)
          · have ek : fp_mk (fs_fr (mD w) nt nx r z f) i ||| nI 0 = fp_mk (fs_fr (mD w) nt nx r z f) (i + 1) := fp_mk_0 (decide_eq_false (by first | exact (fun q => q.1 c84) | exact (fun q => c91 q.2)))
            refine fw_iconst h (nI 0) rfl (by decide) ?_
            refine fw_ior h rfl ?_
            refine fw_putI h rfl fk_p_X8_293 rfl rfl ?_
            first | refine fn_iinc h [_, _, _, _, _, _] rfl rfl rfl rfl rfl ?_ | refine fw_iinc h 1 [_, _, _, _, _, _] rfl (by decide) rfl rfl rfl rfl ?_
            refine fw_goto h rfl ?_
            refine fw_sub (fb_pad_c (Or.inr rfl) (fb_pad_c (Or.inr rfl) (fb_pad_c (Or.inr rfl) (fb_pad_c (Or.inr rfl) (fb_pad_c (Or.inr rfl) (fb_pad_c (Or.inl rfl) (fb_pad_n))))))) (ih _ ((hs5.up 45 _ (by decide)).up 46 _ (by decide)) en ek)
          · refine fw_aload_n h rfl rfl ?_
            refine fw_getIv (fs_cs (mD w) nt i r z f) h rfl fk_g_X8_249 rfl rfl (p33) ?_
            refine fw_if_ne h rfl (fun c91 => ?_) (fun c91 => ?_)
            · have ek : fp_mk (fs_fr (mD w) nt nx r z f) i ||| nI 0 = fp_mk (fs_fr (mD w) nt nx r z f) (i + 1) := fp_mk_0 (decide_eq_false (by first | exact (fun q => q.1 c84) | exact (fun q => c91 q.2)))
              refine fw_iconst h (nI 0) rfl (by decide) ?_
              refine fw_ior h rfl ?_
              refine fw_putI h rfl fk_p_X8_293 rfl rfl ?_
              first | refine fn_iinc h [_, _, _, _, _, _] rfl rfl rfl rfl rfl ?_ | refine fw_iinc h 1 [_, _, _, _, _, _] rfl (by decide) rfl rfl rfl rfl ?_
              refine fw_goto h rfl ?_
              refine fw_sub (fb_pad_c (Or.inr rfl) (fb_pad_c (Or.inr rfl) (fb_pad_c (Or.inr rfl) (fb_pad_c (Or.inr rfl) (fb_pad_c (Or.inr rfl) (fb_pad_c (Or.inl rfl) (fb_pad_n))))))) (ih _ ((hs5.up 45 _ (by decide)).up 46 _ (by decide)) en ek)
            · have ek : fp_mk (fs_fr (mD w) nt nx r z f) i ||| nI 1 <<< (nI i &&& 31) = fp_mk (fs_fr (mD w) nt nx r z f) (i + 1) := fp_mk_1 (decide_eq_true (And.intro c84 c91))
              refine fw_iconst h (nI 1) rfl (by decide) ?_
              refine fw_iload h rfl rfl ?_
              refine fw_ishl h rfl ?_
              refine fw_goto h rfl ?_
              refine fw_ior h rfl ?_
              refine fw_putI h rfl fk_p_X8_293 rfl rfl ?_
              first | refine fn_iinc h [_, _, _, _, _, _] rfl rfl rfl rfl rfl ?_ | refine fw_iinc h 1 [_, _, _, _, _, _] rfl (by decide) rfl rfl rfl rfl ?_
              refine fw_goto h rfl ?_
              refine fw_sub (fb_pad_c (Or.inr rfl) (fb_pad_c (Or.inr rfl) (fb_pad_c (Or.inr rfl) (fb_pad_c (Or.inr rfl) (fb_pad_c (Or.inr rfl) (fb_pad_c (Or.inl rfl) (fb_pad_n))))))) (ih _ ((hs5.up 45 _ (by decide)).up 46 _ (by decide)) en ek)
theorem c_X8_looked {l : Launch} {w : fb_Wd} {P : Int32 → fb_Wd → Prop} {r : Int32} (h1 : ¬ (0 ≤ r ∧ r ≤ 5) → P (-1) w) (h2 : ∀ j, j < 6 → r = nI j → w.1 48 j < 0 → P (-3) (fb_up (fb_up w 46 0 (nI 1)) 47 1 (w.1 47 1 + 1))) (h3 : ∀ j, j < 6 → r = nI j → ¬ w.1 48 j < 0 → P 0 w) : fb_Can l tX8_looked [.ref 46, .int r] w (fb_kI P) := by
  refine fb_intro 0 fk_t_X8_looked (by decide) rfl (fun X hX h => ?_)
  subst hX
  change fb_AW tX8_looked X 0 [some (.ref 46), some (.int r)] [] w
  refine fw_iload_n h rfl rfl ?_
  refine fw_s1I h rfl fk_s_X8_isRow fk_l_X8_113 rfl rfl ?_
  refine c_X8_isRow (fun c1a c1b => ?_) (fun c1 => ?_)
  · refine fw_if_ne h rfl (fun _ => ?_) (fun c => absurd c (by decide))
    obtain ⟨j, hj, e⟩ := nI_ofle (n := 5) c1a c1b (by decide)
    subst e
    refine fw_aload_n h rfl rfl ?_
    refine fw_getR _ h rfl fk_g_X8_17 rfl rfl ?_
    refine fw_iload_n h rfl rfl ?_
    refine fn_iald h rfl rfl (by omega) rfl ?_
    refine fw_if_ge h rfl (fun c17 => ?_) (fun c17 => ?_)
    · refine fw_iconst h (nI 0) rfl (by decide) ?_
      exact fw_iret h rfl rfl ⟨_, rfl, h3 j (by omega) rfl (Int32.not_lt.mpr c17)⟩
    · refine fw_aload_n h rfl rfl ?_
      refine fw_iconst h (nI 1) rfl (by decide) ?_
      refine fw_v1I h rfl fk_v_X8_meets fk_l_X8_117 rfl rfl rfl rfl ?_
      refine c_X8_meets (by decide) ?_
      refine fw_goto h rfl ?_
      exact fw_iret h rfl rfl ⟨_, rfl, h2 j (by omega) rfl (Int32.not_le.mp c17)⟩
  · refine fw_if_ne h rfl (fun c => absurd c (by decide)) (fun _ => ?_)
    refine fw_iconst h (-1) rfl (by decide) ?_
    refine fw_goto h rfl ?_
    exact fw_iret h rfl rfl ⟨_, rfl, h1 c1⟩
