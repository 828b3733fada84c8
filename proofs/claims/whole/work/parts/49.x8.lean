theorem fx_pv_eq {w : fb_Wd} {nt : Nat} (hT : xT w nt) (s : Int32) : fx_pv (w.1 19) s nt = fs_val (xD w) nt s := fp_sum_cg (fun i hi => by
  show (if bt s i = true then w.1 19 i else nI 0) = (if bt s i = true then fp_price (xD w 3) (xD w 2) nt i else 0)
  rw [hT.2.2.1 i hi]; rfl)
theorem fp_andF_b {g : Nat → Int32} : fp_andF g 1 = g 0 := by
  show (-1 : Int32) &&& g 0 = g 0
  apply b_ext
  intro i hi
  rw [b_and, b_m1 i hi, Bool.true_and]
theorem c_X4_findDue_n {l : Launch} {w : fb_Wd} {P : fb_Wd → Prop} {N nt nd nx ng : Nat} {s : Nat → Int32} (hX : XI w nt nd nx ng) (hN : w.1 7 2 = nI N) (hN0 : 1 ≤ N) (hN2 : N ≤ 32) (hs : ∀ r, r < N → w.1 44 r = s r) (hp : ∀ w', xSL [7] w w' → w'.1 7 2 = nI N → w'.1 7 3 = nI (fp_mn (fun r => fs_val (xD w) nt (s r)) N) → w'.1 7 4 = (fun r => fs_val (xD w) nt (s r)) (fp_mn (fun r => fs_val (xD w) nt (s r)) N) → P w') : fb_Can l tX4_findDue [.ref 7] w (fb_kV P) := by
  refine fb_intro 2 fk_t_X4_findDue (by decide) rfl (fun X hX h => ?_)
  subst hX
  change fb_AW tX4_findDue X 0 [some (.ref 7), none, none] [] w
  have hXa := ((xSL.rf [7] w).up (c := 7) 3 (nI 0) (by decide)).keep (by decide) hX
  have eDa := ((xSL.rf [7] w).up (c := 7) 3 (nI 0) (by decide)).eD (by decide)
  refine fw_aload_n h rfl rfl ?_
  refine fw_iconst h (nI 0) rfl (by decide) ?_
  refine fw_putI h rfl fk_p_X4_19 rfl rfl ?_
  refine fw_aload_n h rfl rfl ?_
  refine fw_aload_n h rfl rfl ?_
  refine fw_getR _ h rfl fk_g_X4_25 rfl rfl ?_
  refine fw_aload_n h rfl rfl ?_
  refine fw_getR _ h rfl fk_g_X4_9 rfl rfl ?_
  refine fw_iconst h (nI 0) rfl (by decide) ?_
  refine fn_iald h rfl rfl (by omega) rfl ?_
  refine fw_v1I h rfl fk_v_X6_priceOf fk_l_X4_45 rfl rfl rfl rfl ?_
  rw [show (fb_up w 7 3 (nI 0)).1 44 0 = s 0 from (show _ = w.1 44 0 by simp [fb_up]).trans (hs 0 (by omega))]
  refine c_X6_priceOf hXa.1.1.1 hXa.1.1.2 ?_
  rw [fx_pv_eq hXa.2.2.2.1, eDa]
  refine fw_putI h rfl fk_p_X4_22 rfl rfl ?_
  refine fw_iconst h (nI 1) rfl (by decide) ?_
  refine fw_istore_n h [_, _, _] rfl rfl rfl rfl ?_
  refine (?_ : ∀ w1, xSL [7] w w1 → w1.1 7 2 = nI N → w1.1 7 3 = nI (fp_mn (fun r => fs_val (xD w) nt (s r)) 1) → w1.1 7 4 = (fun r => fs_val (xD w) nt (s r)) (fp_mn (fun r => fs_val (xD w) nt (s r)) 1) → fb_AW tX4_findDue X 24 [some (.ref 7), some (.int (nI 1)), none] [] w1) _ (((xSL.rf _ w).up 3 _ (by decide)).up 4 _ (by decide)) (by rw [← hN]; simp [fb_up]) (by rw [show fp_mn (fun r => fs_val (xD w) nt (s r)) 1 = 0 from fp_mn_b]; simp [fb_up, nI_0]) (by rw [show fp_mn (fun r => fs_val (xD w) nt (s r)) 1 = 0 from fp_mn_b]; simp [fb_up])
  refine fb_loop (fun i => ∀ w1, xSL [7] w w1 → w1.1 7 2 = nI N → w1.1 7 3 = nI (fp_mn (fun r => fs_val (xD w) nt (s r)) i) → w1.1 7 4 = (fun r => fs_val (xD w) nt (s r)) (fp_mn (fun r => fs_val (xD w) nt (s r)) i) → fb_AW tX4_findDue X 24 [some (.ref 7), some (.int (nI i)), none] [] w1) (N) ?_ (fun i hi ih => ?_) 1 (hN0)
  · intro w1 hsl h2 h3 h4
    have eD : xD w1 = xD w := hsl.eD (by decide)
    have hX1 := hsl.keep (by decide) hX
    have hA1 : w1.1 44 = w.1 44 := hsl.1 44 (by decide)
    refine fw_iload_n h rfl rfl ?_
    refine fw_aload_n h rfl rfl ?_
    refine fw_getI h rfl fk_g_X4_15 rfl rfl ?_
    refine fw_icmp_ge h rfl (fun c29 => ?_) (fun c29 => False.elim (c29 (by rw [h2]; exact Int32.le_refl _)))
    exact fw_vret h rfl rfl ⟨rfl, hp w1 hsl h2 h3 h4⟩
  · intro w1 hsl h2 h3 h4
    have eD : xD w1 = xD w := hsl.eD (by decide)
    have hX1 := hsl.keep (by decide) hX
    have hA1 : w1.1 44 = w.1 44 := hsl.1 44 (by decide)
    refine fw_iload_n h rfl rfl ?_
    refine fw_aload_n h rfl rfl ?_
    refine fw_getI h rfl fk_g_X4_15 rfl rfl ?_
    refine fw_icmp_ge h rfl (fun c29 => False.elim (by rw [h2] at c29; exact nI_ge hi (by omega) c29)) (fun c29 => ?_)
    refine fw_aload_n h rfl rfl ?_
    refine fw_getR _ h rfl fk_g_X4_25 rfl rfl ?_
    refine fw_aload_n h rfl rfl ?_
    refine fw_getR _ h rfl fk_g_X4_9 rfl rfl ?_
    refine fw_iload_n h rfl rfl ?_
    skip
    refine fn_iald h rfl rfl (by omega) rfl ?_
    refine fw_v1I h rfl fk_v_X6_priceOf fk_l_X4_45 rfl rfl rfl rfl ?_
    rw [show w1.1 44 i = s i from (congrFun hA1 i).trans (hs i hi)]
    refine c_X6_priceOf hX1.1.1.1 hX1.1.1.2 ?_
    rw [fx_pv_eq hX1.2.2.2.1, eD]
    refine fw_istore_n h [_, _, _] rfl rfl rfl rfl ?_
    refine fw_iload_n h rfl rfl ?_
    refine fw_aload_n h rfl rfl ?_
    refine fw_getI h rfl fk_g_X4_22 rfl rfl ?_
    refine fw_icmp_ge h rfl (fun c51 => ?_) (fun c51 => ?_)
    · first | refine fn_iinc h [_, _, _] rfl rfl rfl rfl rfl ?_ | refine fw_iinc h 1 [_, _, _] rfl (by decide) rfl rfl rfl rfl ?_
      refine fw_goto h rfl ?_
      have em : fp_mn (fun r => fs_val (xD w) nt (s r)) (i + 1) = fp_mn (fun r => fs_val (xD w) nt (s r)) i := fp_mn_0 (by have z := h4; simp only at z; show _ ≤ _; rw [← z]; exact c51)
      refine fw_sub (fb_pad_c (Or.inr rfl) (fb_pad_c (Or.inr rfl) (fb_pad_c (Or.inl rfl) (fb_pad_n)))) (ih w1 hsl h2 (by rw [em]; exact h3) (by rw [em]; exact h4))
    · skip
      · refine fw_aload_n h rfl rfl ?_
        refine fw_iload_n h rfl rfl ?_
        refine fw_putI h rfl fk_p_X4_22 rfl rfl ?_
        refine fw_aload_n h rfl rfl ?_
        refine fw_iload_n h rfl rfl ?_
        refine fw_putI h rfl fk_p_X4_19 rfl rfl ?_
        first | refine fn_iinc h [_, _, _] rfl rfl rfl rfl rfl ?_ | refine fw_iinc h 1 [_, _, _] rfl (by decide) rfl rfl rfl rfl ?_
        refine fw_goto h rfl ?_
        have em : fp_mn (fun r => fs_val (xD w) nt (s r)) (i + 1) = i := fp_mn_1 (by have z := h4; simp only at z; show _ < _; rw [← z]; exact Int32.not_le.mp c51)
        refine fw_sub (fb_pad_c (Or.inr rfl) (fb_pad_c (Or.inr rfl) (fb_pad_c (Or.inl rfl) (fb_pad_n)))) (ih _ ((hsl.up 4 _ (by decide)).up 3 _ (by decide)) (by rw [← h2]; simp [fb_up]) (by rw [em]; simp [fb_up]) (by rw [em]; simp [fb_up]))
theorem c_X4_rule_n {l : Launch} {w : fb_Wd} {P : fb_Wd → Prop} {d m q N nt nd nx ng : Nat} {z fr : Int32} (hX : XI w nt nd nx ng) (hA : fd_A (xD w) nt d m) (h5 : w.1 6 5 = nI N) (hN0 : 1 ≤ N) (hN2 : N ≤ 32) (hq : ∀ r, r < N → w.1 41 r = fs_mv (xD w) nt d m (fs_so (xD w) d (nI r) m) ∧ w.1 42 r = fs_ht (xD w) d (fs_so (xD w) d (nI r) m) m ∧ w.1 43 r = fs_bl (xD w) nt d m (fs_so (xD w) d (nI r) m)) (hq3 : q ≤ 3) (hp : ∀ w', xSL [7, 44] w w' → w'.1 7 2 = nI N → (∀ r, r < N → w'.1 44 r = fs_sc (xD w) nt d m (nI q) z fr r) → w'.1 7 3 = nI (fp_mn (fs_vc (xD w) nt d m (nI q) z fr) N) → w'.1 7 4 = fs_vc (xD w) nt d m (nI q) z fr (fp_mn (fs_vc (xD w) nt d m (nI q) z fr) N) → P w') : fb_Can l tX4_rule [.ref 7, .ref 6, .int (nI q), .int z, .int fr] w (fb_kV P) := by
  refine fb_intro 2 fk_t_X4_rule (by decide) rfl (fun X hX h => ?_)
  subst hX
  change fb_AW tX4_rule X 0 [some (.ref 7), some (.ref 6), some (.int (nI q)), some (.int z), some (.int fr), none, none] [] w
  refine fw_aload_n h rfl rfl ?_
  refine fw_getR _ h rfl fk_g_X4_25 rfl rfl ?_
  refine fw_iload h rfl rfl ?_
  refine fw_v1I h rfl fk_v_X6_ofSorts fk_l_X4_29 rfl rfl rfl rfl ?_
  refine c_X6_ofSorts hX.1.1.1 hX.1.1.2 (fun t ht => (hX.2.1 t ht).2.1) ?_
  refine fw_istore h [_, _, _, _, _, _, _] rfl rfl rfl rfl ?_
  refine fw_aload_n h rfl rfl ?_
  refine fw_aload_n h rfl rfl ?_
  refine fw_getI h rfl fk_g_X4_35 rfl rfl ?_
  rw [h5]
  refine fw_putI h rfl fk_p_X4_15 rfl rfl ?_
  refine fw_iconst h (nI 0) rfl (by decide) ?_
  refine fw_istore h [_, _, _, _, _, _, _] rfl rfl rfl rfl ?_
  refine (?_ : ∀ w1, xSL [7, 44] w w1 → w1.1 7 2 = nI N → (∀ r, r < 0 → w1.1 44 r = fs_sc (xD w) nt d m (nI q) z fr r) → fb_AW tX4_rule X 22 [some (.ref 7), some (.ref 6), some (.int (nI q)), some (.int z), some (.int fr), some (.int (fx_os (w.1 13) fr nt)), some (.int (nI 0))] [] w1) _ ((xSL.rf _ w).up 2 _ (by decide)) (by simp [fb_up]) (fun r hr => by omega)
  refine fb_loop (fun i => ∀ w1, xSL [7, 44] w w1 → w1.1 7 2 = nI N → (∀ r, r < i → w1.1 44 r = fs_sc (xD w) nt d m (nI q) z fr r) → fb_AW tX4_rule X 22 [some (.ref 7), some (.ref 6), some (.int (nI q)), some (.int z), some (.int fr), some (.int (fx_os (w.1 13) fr nt)), some (.int (nI i))] [] w1) (N) ?_ (fun i hi ih => ?_) 0 (Nat.zero_le _)
  · intro w1 hsl h2 hI
    have eD : xD w1 = xD w := hsl.eD (by decide)
    have hX1 := hsl.keep (by decide) hX
    have hA1 : fd_A (xD w1) nt d m := by rw [eD]; exact hA
    have e13 : w1.1 13 = w.1 13 := hsl.1 13 (by decide)
    refine fw_iload h rfl rfl ?_
    refine fw_aload_n h rfl rfl ?_
    refine fw_getI h rfl fk_g_X4_15 rfl rfl ?_
    refine fw_icmp_ge h rfl (fun c28 => ?_) (fun c28 => False.elim (c28 (by rw [h2]; exact Int32.le_refl _)))
    refine fw_aload_n h rfl rfl ?_
    refine fw_v0V h rfl fk_v_X4_findDue fk_l_X4_42 rfl rfl rfl rfl ?_
    refine c_X4_findDue_n (s := fs_sc (xD w) nt d m (nI q) z fr) hX1 h2 hN0 hN2 hI (fun w' hs' g2 g3 g4 => ?_)
    rw [eD] at g3 g4
    exact fw_vret h rfl rfl ⟨rfl, hp w' (hsl.tr (hs'.mono (by decide))) g2 (fun r hr => (congrFun (hs'.1 44 (by decide)) r).trans (hI r hr)) g3 g4⟩
  · intro w1 hsl h2 hI
    have eD : xD w1 = xD w := hsl.eD (by decide)
    have hX1 := hsl.keep (by decide) hX
    have hA1 : fd_A (xD w1) nt d m := by rw [eD]; exact hA
    have e13 : w1.1 13 = w.1 13 := hsl.1 13 (by decide)
    refine fw_iload h rfl rfl ?_
    refine fw_aload_n h rfl rfl ?_
    refine fw_getI h rfl fk_g_X4_15 rfl rfl ?_
    refine fw_icmp_ge h rfl (fun c28 => False.elim (by rw [h2] at c28; exact nI_ge hi (by omega) c28)) (fun c28 => ?_)
    refine fw_aload_n h rfl rfl ?_
    refine fw_getR _ h rfl fk_g_X4_9 rfl rfl ?_
    refine fw_iload h rfl rfl ?_
    refine fw_aload_n h rfl rfl ?_
    refine fw_iload h rfl rfl ?_
    refine fw_iload_n h rfl rfl ?_
    refine fw_iload_n h rfl rfl ?_
    refine fw_iload h rfl rfl ?_
    refine fw_v4I h rfl fk_v_X2_falls fk_l_X4_38 rfl rfl rfl rfl ?_
    have f := hq i hi
    rw [← e13]
    refine c_X2_falls hX1 hA1 (by omega) (by rw [eD, hsl.1 41 (by decide)]; exact f.1) (by rw [eD, hsl.1 42 (by decide)]; exact f.2.1) (by rw [eD, hsl.1 43 (by decide)]; exact f.2.2) hq3 ?_
    rw [eD, e13]
    refine fn_iast h rfl rfl (by omega) rfl ?_
    first | refine fn_iinc h [_, _, _, _, _, _, _] rfl rfl rfl rfl rfl ?_ | refine fw_iinc h 1 [_, _, _, _, _, _, _] rfl (by decide) rfl rfl rfl rfl ?_
    refine fw_goto h rfl ?_
    refine ih _ (hsl.up i _ (by decide)) (by rw [← h2]; simp [fb_up]) (fun r hr => ?_)
    by_cases e : r = i
    · subst e; simp [fb_up]
    · rw [← hI r (by omega)]; simp [fb_up, e]
theorem c_X4_letAllGo_n {l : Launch} {w : fb_Wd} {P : fb_Wd → Prop} {N nt nd nx ng : Nat} (hX : XI w nt nd nx ng) (h5 : w.1 6 5 = nI N) (hN0 : 1 ≤ N) (hN2 : N ≤ 32) (hp : ∀ w', xSL [7, 44] w w' → w'.1 7 2 = nI N → (∀ r, r < N → w'.1 44 r = (fun _ => (0 : Int32)) r) → w'.1 7 3 = nI (fp_mn ((fun _ => fs_val (xD w) nt 0)) N) → w'.1 7 4 = (fun _ => fs_val (xD w) nt 0) (fp_mn ((fun _ => fs_val (xD w) nt 0)) N) → P w') : fb_Can l tX4_letAllGo [.ref 7, .ref 6] w (fb_kV P) := by
  refine fb_intro 1 fk_t_X4_letAllGo (by decide) rfl (fun X hX h => ?_)
  subst hX
  change fb_AW tX4_letAllGo X 0 [some (.ref 7), some (.ref 6), none] [] w
  refine fw_aload_n h rfl rfl ?_
  refine fw_aload_n h rfl rfl ?_
  refine fw_getI h rfl fk_g_X4_35 rfl rfl ?_
  rw [h5]
  refine fw_putI h rfl fk_p_X4_15 rfl rfl ?_
  refine fw_iconst h (nI 0) rfl (by decide) ?_
  refine fw_istore_n h [_, _, _] rfl rfl rfl rfl ?_
  refine (?_ : ∀ w1, xSL [7, 44] w w1 → w1.1 7 2 = nI N → (∀ r, r < 0 → w1.1 44 r = 0) → fb_AW tX4_letAllGo X 10 [some (.ref 7), some (.ref 6), some (.int (nI 0))] [] w1) _ ((xSL.rf _ w).up 2 _ (by decide)) (by simp [fb_up]) (fun r hr => by omega)
  refine fb_loop (fun i => ∀ w1, xSL [7, 44] w w1 → w1.1 7 2 = nI N → (∀ r, r < i → w1.1 44 r = 0) → fb_AW tX4_letAllGo X 10 [some (.ref 7), some (.ref 6), some (.int (nI i))] [] w1) (N) ?_ (fun i hi ih => ?_) 0 (Nat.zero_le _)
  · intro w1 hsl h2 hI
    have eD : xD w1 = xD w := hsl.eD (by decide)
    have hX1 := hsl.keep (by decide) hX
    refine fw_iload_n h rfl rfl ?_
    refine fw_aload_n h rfl rfl ?_
    refine fw_getI h rfl fk_g_X4_15 rfl rfl ?_
    refine fw_icmp_ge h rfl (fun c15 => ?_) (fun c15 => False.elim (c15 (by rw [h2]; exact Int32.le_refl _)))
    refine fw_aload_n h rfl rfl ?_
    refine fw_v0V h rfl fk_v_X4_findDue fk_l_X4_42 rfl rfl rfl rfl ?_
    refine c_X4_findDue_n (s := (fun _ => (0 : Int32))) hX1 h2 hN0 hN2 hI (fun w' hs' g2 g3 g4 => ?_)
    rw [eD] at g3 g4
    exact fw_vret h rfl rfl ⟨rfl, hp w' (hsl.tr (hs'.mono (by decide))) g2 (fun r hr => (congrFun (hs'.1 44 (by decide)) r).trans (hI r hr)) g3 g4⟩
  · intro w1 hsl h2 hI
    have eD : xD w1 = xD w := hsl.eD (by decide)
    have hX1 := hsl.keep (by decide) hX
    refine fw_iload_n h rfl rfl ?_
    refine fw_aload_n h rfl rfl ?_
    refine fw_getI h rfl fk_g_X4_15 rfl rfl ?_
    refine fw_icmp_ge h rfl (fun c15 => False.elim (by rw [h2] at c15; exact nI_ge hi (by omega) c15)) (fun c15 => ?_)
    refine fw_aload_n h rfl rfl ?_
    refine fw_getR _ h rfl fk_g_X4_9 rfl rfl ?_
    refine fw_iload_n h rfl rfl ?_
    refine fw_iconst h (nI 0) rfl (by decide) ?_
    refine fn_iast h rfl rfl (by omega) rfl ?_
    first | refine fn_iinc h [_, _, _] rfl rfl rfl rfl rfl ?_ | refine fw_iinc h 1 [_, _, _] rfl (by decide) rfl rfl rfl rfl ?_
    refine fw_goto h rfl ?_
    refine ih _ (hsl.up i _ (by decide)) (by rw [← h2]; simp [fb_up]) (fun r hr => ?_)
    by_cases e : r = i
    · subst e; simp [fb_up, nI_0]
    · rw [← hI r (by omega)]; simp [fb_up, e]
theorem c_X4_dueSet_n {l : Launch} {w : fb_Wd} {P : Int32 → fb_Wd → Prop} {q : Nat} (hq : w.1 7 3 = nI q) (hq2 : q < 32) (hp : P (w.1 44 q) w) : fb_Can l tX4_dueSet [.ref 7] w (fb_kI P) := by
  refine fb_intro 0 fk_t_X4_dueSet (by decide) rfl (fun X hX h => ?_)
  subst hX
  change fb_AW tX4_dueSet X 0 [some (.ref 7)] [] w
  refine fw_aload_n h rfl rfl ?_
  refine fw_getR _ h rfl fk_g_X4_9 rfl rfl ?_
  refine fw_aload_n h rfl rfl ?_
  refine fw_getI h rfl fk_g_X4_19 rfl rfl ?_
  rw [hq]
  refine fn_iald h rfl rfl (by omega) rfl ?_
  exact fw_iret h rfl rfl ⟨_, rfl, hp⟩
theorem c_X4_inEach_n {l : Launch} {w : fb_Wd} {P : Int32 → fb_Wd → Prop} {N : Nat} (hN : w.1 7 2 = nI N) (hN2 : N ≤ 32) (hN0 : 1 ≤ N) (hp : P (fp_andF (w.1 44) N) w) : fb_Can l tX4_inEach [.ref 7] w (fb_kI P) := by
  refine fb_intro 2 fk_t_X4_inEach (by decide) rfl (fun X hX h => ?_)
  subst hX
  change fb_AW tX4_inEach X 0 [some (.ref 7), none, none] [] w
  refine fw_aload_n h rfl rfl ?_
  refine fw_getR _ h rfl fk_g_X4_9 rfl rfl ?_
  refine fw_iconst h (nI 0) rfl (by decide) ?_
  refine fn_iald h rfl rfl (by omega) rfl ?_
  rw [← fp_andF_b (g := w.1 44)]
  refine fw_istore_n h [_, _, _] rfl rfl rfl rfl ?_
  refine fw_iconst h (nI 1) rfl (by decide) ?_
  refine fw_istore_n h [_, _, _] rfl rfl rfl rfl ?_
  refine fb_loop (fun i => fb_AW tX4_inEach X 9 [some (.ref 7), some (.int (fp_andF (w.1 44) i)), some (.int (nI i))] [] w) (N) ?_ (fun i hi ih => ?_) 1 (hN0)
  · refine fw_iload_n h rfl rfl ?_
    refine fw_aload_n h rfl rfl ?_
    refine fw_getI h rfl fk_g_X4_15 rfl rfl ?_
    refine fw_icmp_ge h rfl (fun c14 => ?_) (fun c14 => False.elim (c14 (by rw [hN]; exact Int32.le_refl _)))
    refine fw_iload_n h rfl rfl ?_
    exact fw_iret h rfl rfl ⟨_, rfl, hp⟩
  · refine fw_iload_n h rfl rfl ?_
    refine fw_aload_n h rfl rfl ?_
    refine fw_getI h rfl fk_g_X4_15 rfl rfl ?_
    refine fw_icmp_ge h rfl (fun c14 => False.elim (by rw [hN] at c14; exact nI_ge hi (by omega) c14)) (fun c14 => ?_)
    refine fw_iload_n h rfl rfl ?_
    refine fw_aload_n h rfl rfl ?_
    refine fw_getR _ h rfl fk_g_X4_9 rfl rfl ?_
    refine fw_iload_n h rfl rfl ?_
    refine fn_iald h rfl rfl (by omega) rfl ?_
    refine fw_iand h rfl ?_
    refine fw_istore_n h [_, _, _] rfl rfl rfl rfl ?_
    first | refine fn_iinc h [_, _, _] rfl rfl rfl rfl rfl ?_ | refine fw_iinc h 1 [_, _, _] rfl (by decide) rfl rfl rfl rfl ?_
    refine fw_goto h rfl ?_
    exact ih
theorem c_X4_inSome_n {l : Launch} {w : fb_Wd} {P : Int32 → fb_Wd → Prop} {N : Nat} (hN : w.1 7 2 = nI N) (hN2 : N ≤ 32) (hp : P (fp_orF (w.1 44) N) w) : fb_Can l tX4_inSome [.ref 7] w (fb_kI P) := by
  refine fb_intro 2 fk_t_X4_inSome (by decide) rfl (fun X hX h => ?_)
  subst hX
  change fb_AW tX4_inSome X 0 [some (.ref 7), none, none] [] w
  refine fw_iconst h (nI 0) rfl (by decide) ?_
  refine fw_istore_n h [_, _, _] rfl rfl rfl rfl ?_
  refine fw_iconst h (nI 0) rfl (by decide) ?_
  refine fw_istore_n h [_, _, _] rfl rfl rfl rfl ?_
  refine fb_loop (fun i => fb_AW tX4_inSome X 4 [some (.ref 7), some (.int (fp_orF (w.1 44) i)), some (.int (nI i))] [] w) (N) ?_ (fun i hi ih => ?_) 0 (Nat.zero_le _)
  · refine fw_iload_n h rfl rfl ?_
    refine fw_aload_n h rfl rfl ?_
    refine fw_getI h rfl fk_g_X4_15 rfl rfl ?_
    refine fw_icmp_ge h rfl (fun c9 => ?_) (fun c9 => False.elim (c9 (by rw [hN]; exact Int32.le_refl _)))
    refine fw_iload_n h rfl rfl ?_
    exact fw_iret h rfl rfl ⟨_, rfl, hp⟩
  · refine fw_iload_n h rfl rfl ?_
    refine fw_aload_n h rfl rfl ?_
    refine fw_getI h rfl fk_g_X4_15 rfl rfl ?_
    refine fw_icmp_ge h rfl (fun c9 => False.elim (by rw [hN] at c9; exact nI_ge hi (by omega) c9)) (fun c9 => ?_)
    refine fw_iload_n h rfl rfl ?_
    refine fw_aload_n h rfl rfl ?_
    refine fw_getR _ h rfl fk_g_X4_9 rfl rfl ?_
    refine fw_iload_n h rfl rfl ?_
    refine fn_iald h rfl rfl (by omega) rfl ?_
    refine fw_ior h rfl ?_
    refine fw_istore_n h [_, _, _] rfl rfl rfl rfl ?_
    first | refine fn_iinc h [_, _, _] rfl rfl rfl rfl rfl ?_ | refine fw_iinc h 1 [_, _, _] rfl (by decide) rfl rfl rfl rfl ?_
    refine fw_goto h rfl ?_
    exact ih
theorem c_X4_isNewAt_n {l : Launch} {w : fb_Wd} {P : Int32 → fb_Wd → Prop} {r : Nat} {mk as : Int32} (hr : r < 32) (ht : fp_new (w.1 44) mk as r r = true → P 1 w) (hf : fp_new (w.1 44) mk as r r = false → P 0 w) : fb_Can l tX4_isNewAt [.ref 7, .int (nI r), .int mk, .int as] w (fb_kI P) := by
  refine fb_intro 1 fk_t_X4_isNewAt (by decide) rfl (fun X hX h => ?_)
  subst hX
  change fb_AW tX4_isNewAt X 0 [some (.ref 7), some (.int (nI r)), some (.int mk), some (.int as), none] [] w
  refine fw_iconst h (nI 0) rfl (by decide) ?_
  refine fw_istore h [_, _, _, _, _] rfl rfl rfl rfl ?_
  refine (?_ : fp_new (w.1 44) mk as r 0 = true → fb_AW tX4_isNewAt X 3 [some (.ref 7), some (.int (nI r)), some (.int mk), some (.int as), some (.int (nI 0))] [] w) rfl
  refine fb_loop (fun i => fp_new (w.1 44) mk as r i = true → fb_AW tX4_isNewAt X 3 [some (.ref 7), some (.int (nI r)), some (.int mk), some (.int as), some (.int (nI i))] [] w) (r) ?_ (fun i hi ih => ?_) 0 (Nat.zero_le _)
  · intro hnb
    refine fw_iload h rfl rfl ?_
    refine fw_iload_n h rfl rfl ?_
    refine fw_icmp_ge h rfl (fun c6 => ?_) (fun c6 => False.elim (c6 (Int32.le_refl _)))
    refine fw_iconst h (nI 1) rfl (by decide) ?_
    exact fw_zret h rfl rfl (by first | exact Or.inl rfl | exact Or.inr rfl | assumption) ⟨_, rfl, ht hnb⟩
  · intro hnb
    refine fw_iload h rfl rfl ?_
    refine fw_iload_n h rfl rfl ?_
    refine fw_icmp_ge h rfl (fun c6 => False.elim (nI_ge hi (by omega) c6)) (fun c6 => ?_)
    refine fw_iload h rfl rfl ?_
    refine fw_iload_n h rfl rfl ?_
    refine fw_iand h rfl ?_
    refine fw_iload_n h rfl rfl ?_
    refine fw_icmp_ne h rfl (fun c14 => ?_) (fun c14 => ?_)
    · first | refine fn_iinc h [_, _, _, _, _] rfl rfl rfl rfl rfl ?_ | refine fw_iinc h 1 [_, _, _, _, _] rfl (by decide) rfl rfl rfl rfl ?_
      refine fw_goto h rfl ?_
      exact ih (fp_new_t hnb (fun q => by first | exact c14 q.1 | exact c30 q.2))
    · refine fw_aload_n h rfl rfl ?_
      refine fw_getR _ h rfl fk_g_X4_9 rfl rfl ?_
      refine fw_iload h rfl rfl ?_
      refine fn_iald h rfl rfl (by omega) rfl ?_
      refine fw_aload_n h rfl rfl ?_
      refine fw_getR _ h rfl fk_g_X4_9 rfl rfl ?_
      refine fw_iload_n h rfl rfl ?_
      refine fn_iald h rfl rfl (by omega) rfl ?_
      refine fw_icmp_ne h rfl (fun c30 => ?_) (fun c30 => ?_)
      · first | refine fn_iinc h [_, _, _, _, _] rfl rfl rfl rfl rfl ?_ | refine fw_iinc h 1 [_, _, _, _, _] rfl (by decide) rfl rfl rfl rfl ?_
        refine fw_goto h rfl ?_
        exact ih (fp_new_t hnb (fun q => by first | exact c14 q.1 | exact c30 q.2))
      · refine fw_iconst h (nI 0) rfl (by decide) ?_
        exact fw_zret h rfl rfl (by first | exact Or.inl rfl | exact Or.inr rfl | assumption) ⟨_, rfl, hf (fp_new_f c14 c30 hi)⟩
theorem c_X4_unlikeSets_n {l : Launch} {w : fb_Wd} {P : Int32 → fb_Wd → Prop} {N : Nat} (hN : w.1 7 2 = nI N) (hN2 : N ≤ 32) {mk as : Int32} (hp : P (nI (fp_unl (w.1 44) mk as N)) w) : fb_Can l tX4_unlikeSets [.ref 7, .int mk, .int as] w (fb_kI P) := by
  refine fb_intro 2 fk_t_X4_unlikeSets (by decide) rfl (fun X hX h => ?_)
  subst hX
  change fb_AW tX4_unlikeSets X 0 [some (.ref 7), some (.int mk), some (.int as), none, none] [] w
  refine fw_iconst h (nI 0) rfl (by decide) ?_
  refine fw_istore_n h [_, _, _, _, _] rfl rfl rfl rfl ?_
  refine fw_iconst h (nI 0) rfl (by decide) ?_
  refine fw_istore h [_, _, _, _, _] rfl rfl rfl rfl ?_
  refine fb_loop (fun i => fb_AW tX4_unlikeSets X 5 [some (.ref 7), some (.int mk), some (.int as), some (.int (nI (fp_unl (w.1 44) mk as i))), some (.int (nI i))] [] w) (N) ?_ (fun i hi ih => ?_) 0 (Nat.zero_le _)
  · refine fw_iload h rfl rfl ?_
    refine fw_aload_n h rfl rfl ?_
    refine fw_getI h rfl fk_g_X4_15 rfl rfl ?_
    refine fw_icmp_ge h rfl (fun c11 => ?_) (fun c11 => False.elim (c11 (by rw [hN]; exact Int32.le_refl _)))
    refine fw_iload_n h rfl rfl ?_
    exact fw_iret h rfl rfl ⟨_, rfl, hp⟩
  · refine fw_iload h rfl rfl ?_
    refine fw_aload_n h rfl rfl ?_
    refine fw_getI h rfl fk_g_X4_15 rfl rfl ?_
    refine fw_icmp_ge h rfl (fun c11 => False.elim (by rw [hN] at c11; exact nI_ge hi (by omega) c11)) (fun c11 => ?_)
    refine fw_iload h rfl rfl ?_
    refine fw_iload_n h rfl rfl ?_
    refine fw_iand h rfl ?_
    refine fw_iload_n h rfl rfl ?_
    refine fw_icmp_ne h rfl (fun c19 => ?_) (fun c19 => ?_)
    · first | refine fn_iinc h [_, _, _, _, _] rfl rfl rfl rfl rfl ?_ | refine fw_iinc h 1 [_, _, _, _, _] rfl (by decide) rfl rfl rfl rfl ?_
      refine fw_goto h rfl ?_
      rw [fp_unl_0 (by first | exact Or.inl c19 | exact Or.inr c27n)] at ih
      exact ih
    · refine fw_aload_n h rfl rfl ?_
      refine fw_iload h rfl rfl ?_
      refine fw_iload_n h rfl rfl ?_
      refine fw_iload_n h rfl rfl ?_
      refine fw_v3I h rfl fk_v_X4_isNewAt fk_l_X4_48 rfl rfl rfl rfl ?_
      refine c_X4_isNewAt_n (by omega) (fun c27n => ?_) (fun c27n => ?_)
      · refine fw_if_eq h rfl (fun c => absurd c (by decide)) (fun _ => ?_)
        skip
        · first | refine fn_iinc h [_, _, _, _, _] rfl rfl rfl rfl rfl ?_ | refine fw_iinc h 1 [_, _, _, _, _] rfl (by decide) rfl rfl rfl rfl ?_
          first | refine fn_iinc h [_, _, _, _, _] rfl rfl rfl rfl rfl ?_ | refine fw_iinc h 1 [_, _, _, _, _] rfl (by decide) rfl rfl rfl rfl ?_
          refine fw_goto h rfl ?_
          rw [fp_unl_1 c19 c27n] at ih
          exact ih
      · refine fw_if_eq h rfl (fun _ => ?_) (fun c => absurd c (by decide))
        first | refine fn_iinc h [_, _, _, _, _] rfl rfl rfl rfl rfl ?_ | refine fw_iinc h 1 [_, _, _, _, _] rfl (by decide) rfl rfl rfl rfl ?_
        refine fw_goto h rfl ?_
        rw [fp_unl_0 (by first | exact Or.inl c19 | exact Or.inr c27n)] at ih
        exact ih
theorem c_X4_findDue_c {l : Launch} {w : fb_Wd} {P : fb_Wd → Prop} {N nt nd nx ng : Nat} {s : Nat → Int32} (hX : XI w nt nd nx ng) (hN : w.1 8 2 = nI N) (hN0 : 1 ≤ N) (hN2 : N ≤ 32) (hs : ∀ r, r < N → w.1 45 r = s r) (hp : ∀ w', xSL [8] w w' → w'.1 8 2 = nI N → w'.1 8 3 = nI (fp_mn (fun r => fs_val (xD w) nt (s r)) N) → w'.1 8 4 = (fun r => fs_val (xD w) nt (s r)) (fp_mn (fun r => fs_val (xD w) nt (s r)) N) → P w') : fb_Can l tX4_findDue [.ref 8] w (fb_kV P) := by
  refine fb_intro 2 fk_t_X4_findDue (by decide) rfl (fun X hX h => ?_)
  subst hX
  change fb_AW tX4_findDue X 0 [some (.ref 8), none, none] [] w
  have hXa := ((xSL.rf [8] w).up (c := 8) 3 (nI 0) (by decide)).keep (by decide) hX
  have eDa := ((xSL.rf [8] w).up (c := 8) 3 (nI 0) (by decide)).eD (by decide)
  refine fw_aload_n h rfl rfl ?_
  refine fw_iconst h (nI 0) rfl (by decide) ?_
  refine fw_putI h rfl fk_p_X4_19 rfl rfl ?_
  refine fw_aload_n h rfl rfl ?_
  refine fw_aload_n h rfl rfl ?_
  refine fw_getR _ h rfl fk_g_X4_25 rfl rfl ?_
  refine fw_aload_n h rfl rfl ?_
  refine fw_getR _ h rfl fk_g_X4_9 rfl rfl ?_
  refine fw_iconst h (nI 0) rfl (by decide) ?_
  refine fn_iald h rfl rfl (by omega) rfl ?_
  refine fw_v1I h rfl fk_v_X6_priceOf fk_l_X4_45 rfl rfl rfl rfl ?_
  rw [show (fb_up w 8 3 (nI 0)).1 45 0 = s 0 from (show _ = w.1 45 0 by simp [fb_up]).trans (hs 0 (by omega))]
  refine c_X6_priceOf hXa.1.1.1 hXa.1.1.2 ?_
  rw [fx_pv_eq hXa.2.2.2.1, eDa]
  refine fw_putI h rfl fk_p_X4_22 rfl rfl ?_
  refine fw_iconst h (nI 1) rfl (by decide) ?_
  refine fw_istore_n h [_, _, _] rfl rfl rfl rfl ?_
  refine (?_ : ∀ w1, xSL [8] w w1 → w1.1 8 2 = nI N → w1.1 8 3 = nI (fp_mn (fun r => fs_val (xD w) nt (s r)) 1) → w1.1 8 4 = (fun r => fs_val (xD w) nt (s r)) (fp_mn (fun r => fs_val (xD w) nt (s r)) 1) → fb_AW tX4_findDue X 24 [some (.ref 8), some (.int (nI 1)), none] [] w1) _ (((xSL.rf _ w).up 3 _ (by decide)).up 4 _ (by decide)) (by rw [← hN]; simp [fb_up]) (by rw [show fp_mn (fun r => fs_val (xD w) nt (s r)) 1 = 0 from fp_mn_b]; simp [fb_up, nI_0]) (by rw [show fp_mn (fun r => fs_val (xD w) nt (s r)) 1 = 0 from fp_mn_b]; simp [fb_up])
  refine fb_loop (fun i => ∀ w1, xSL [8] w w1 → w1.1 8 2 = nI N → w1.1 8 3 = nI (fp_mn (fun r => fs_val (xD w) nt (s r)) i) → w1.1 8 4 = (fun r => fs_val (xD w) nt (s r)) (fp_mn (fun r => fs_val (xD w) nt (s r)) i) → fb_AW tX4_findDue X 24 [some (.ref 8), some (.int (nI i)), none] [] w1) (N) ?_ (fun i hi ih => ?_) 1 (hN0)
  · intro w1 hsl h2 h3 h4
    have eD : xD w1 = xD w := hsl.eD (by decide)
    have hX1 := hsl.keep (by decide) hX
    have hA1 : w1.1 45 = w.1 45 := hsl.1 45 (by decide)
    refine fw_iload_n h rfl rfl ?_
    refine fw_aload_n h rfl rfl ?_
    refine fw_getI h rfl fk_g_X4_15 rfl rfl ?_
    refine fw_icmp_ge h rfl (fun c29 => ?_) (fun c29 => False.elim (c29 (by rw [h2]; exact Int32.le_refl _)))
    exact fw_vret h rfl rfl ⟨rfl, hp w1 hsl h2 h3 h4⟩
  · intro w1 hsl h2 h3 h4
    have eD : xD w1 = xD w := hsl.eD (by decide)
    have hX1 := hsl.keep (by decide) hX
    have hA1 : w1.1 45 = w.1 45 := hsl.1 45 (by decide)
    refine fw_iload_n h rfl rfl ?_
    refine fw_aload_n h rfl rfl ?_
    refine fw_getI h rfl fk_g_X4_15 rfl rfl ?_
    refine fw_icmp_ge h rfl (fun c29 => False.elim (by rw [h2] at c29; exact nI_ge hi (by omega) c29)) (fun c29 => ?_)
    refine fw_aload_n h rfl rfl ?_
    refine fw_getR _ h rfl fk_g_X4_25 rfl rfl ?_
    refine fw_aload_n h rfl rfl ?_
    refine fw_getR _ h rfl fk_g_X4_9 rfl rfl ?_
    refine fw_iload_n h rfl rfl ?_
    skip
    refine fn_iald h rfl rfl (by omega) rfl ?_
    refine fw_v1I h rfl fk_v_X6_priceOf fk_l_X4_45 rfl rfl rfl rfl ?_
    rw [show w1.1 45 i = s i from (congrFun hA1 i).trans (hs i hi)]
    refine c_X6_priceOf hX1.1.1.1 hX1.1.1.2 ?_
    rw [fx_pv_eq hX1.2.2.2.1, eD]
    refine fw_istore_n h [_, _, _] rfl rfl rfl rfl ?_
    refine fw_iload_n h rfl rfl ?_
    refine fw_aload_n h rfl rfl ?_
    refine fw_getI h rfl fk_g_X4_22 rfl rfl ?_
    refine fw_icmp_ge h rfl (fun c51 => ?_) (fun c51 => ?_)
    · first | refine fn_iinc h [_, _, _] rfl rfl rfl rfl rfl ?_ | refine fw_iinc h 1 [_, _, _] rfl (by decide) rfl rfl rfl rfl ?_
      refine fw_goto h rfl ?_
      have em : fp_mn (fun r => fs_val (xD w) nt (s r)) (i + 1) = fp_mn (fun r => fs_val (xD w) nt (s r)) i := fp_mn_0 (by have z := h4; simp only at z; show _ ≤ _; rw [← z]; exact c51)
      refine fw_sub (fb_pad_c (Or.inr rfl) (fb_pad_c (Or.inr rfl) (fb_pad_c (Or.inl rfl) (fb_pad_n)))) (ih w1 hsl h2 (by rw [em]; exact h3) (by rw [em]; exact h4))
    · skip
      · refine fw_aload_n h rfl rfl ?_
        refine fw_iload_n h rfl rfl ?_
        refine fw_putI h rfl fk_p_X4_22 rfl rfl ?_
        refine fw_aload_n h rfl rfl ?_
        refine fw_iload_n h rfl rfl ?_
        refine fw_putI h rfl fk_p_X4_19 rfl rfl ?_
        first | refine fn_iinc h [_, _, _] rfl rfl rfl rfl rfl ?_ | refine fw_iinc h 1 [_, _, _] rfl (by decide) rfl rfl rfl rfl ?_
        refine fw_goto h rfl ?_
        have em : fp_mn (fun r => fs_val (xD w) nt (s r)) (i + 1) = i := fp_mn_1 (by have z := h4; simp only at z; show _ < _; rw [← z]; exact Int32.not_le.mp c51)
        refine fw_sub (fb_pad_c (Or.inr rfl) (fb_pad_c (Or.inr rfl) (fb_pad_c (Or.inl rfl) (fb_pad_n)))) (ih _ ((hsl.up 4 _ (by decide)).up 3 _ (by decide)) (by rw [← h2]; simp [fb_up]) (by rw [em]; simp [fb_up]) (by rw [em]; simp [fb_up]))
theorem c_X4_rule_c {l : Launch} {w : fb_Wd} {P : fb_Wd → Prop} {d m q N nt nd nx ng : Nat} {z fr : Int32} (hX : XI w nt nd nx ng) (hA : fd_A (xD w) nt d m) (h5 : w.1 6 5 = nI N) (hN0 : 1 ≤ N) (hN2 : N ≤ 32) (hq : ∀ r, r < N → w.1 41 r = fs_mv (xD w) nt d m (fs_so (xD w) d (nI r) m) ∧ w.1 42 r = fs_ht (xD w) d (fs_so (xD w) d (nI r) m) m ∧ w.1 43 r = fs_bl (xD w) nt d m (fs_so (xD w) d (nI r) m)) (hq3 : q ≤ 3) (hp : ∀ w', xSL [8, 45] w w' → w'.1 8 2 = nI N → (∀ r, r < N → w'.1 45 r = fs_sc (xD w) nt d m (nI q) z fr r) → w'.1 8 3 = nI (fp_mn (fs_vc (xD w) nt d m (nI q) z fr) N) → w'.1 8 4 = fs_vc (xD w) nt d m (nI q) z fr (fp_mn (fs_vc (xD w) nt d m (nI q) z fr) N) → P w') : fb_Can l tX4_rule [.ref 8, .ref 6, .int (nI q), .int z, .int fr] w (fb_kV P) := by
  refine fb_intro 2 fk_t_X4_rule (by decide) rfl (fun X hX h => ?_)
  subst hX
  change fb_AW tX4_rule X 0 [some (.ref 8), some (.ref 6), some (.int (nI q)), some (.int z), some (.int fr), none, none] [] w
  refine fw_aload_n h rfl rfl ?_
  refine fw_getR _ h rfl fk_g_X4_25 rfl rfl ?_
  refine fw_iload h rfl rfl ?_
  refine fw_v1I h rfl fk_v_X6_ofSorts fk_l_X4_29 rfl rfl rfl rfl ?_
  refine c_X6_ofSorts hX.1.1.1 hX.1.1.2 (fun t ht => (hX.2.1 t ht).2.1) ?_
  refine fw_istore h [_, _, _, _, _, _, _] rfl rfl rfl rfl ?_
  refine fw_aload_n h rfl rfl ?_
  refine fw_aload_n h rfl rfl ?_
  refine fw_getI h rfl fk_g_X4_35 rfl rfl ?_
  rw [h5]
  refine fw_putI h rfl fk_p_X4_15 rfl rfl ?_
  refine fw_iconst h (nI 0) rfl (by decide) ?_
  refine fw_istore h [_, _, _, _, _, _, _] rfl rfl rfl rfl ?_
  refine (?_ : ∀ w1, xSL [8, 45] w w1 → w1.1 8 2 = nI N → (∀ r, r < 0 → w1.1 45 r = fs_sc (xD w) nt d m (nI q) z fr r) → fb_AW tX4_rule X 22 [some (.ref 8), some (.ref 6), some (.int (nI q)), some (.int z), some (.int fr), some (.int (fx_os (w.1 13) fr nt)), some (.int (nI 0))] [] w1) _ ((xSL.rf _ w).up 2 _ (by decide)) (by simp [fb_up]) (fun r hr => by omega)
  refine fb_loop (fun i => ∀ w1, xSL [8, 45] w w1 → w1.1 8 2 = nI N → (∀ r, r < i → w1.1 45 r = fs_sc (xD w) nt d m (nI q) z fr r) → fb_AW tX4_rule X 22 [some (.ref 8), some (.ref 6), some (.int (nI q)), some (.int z), some (.int fr), some (.int (fx_os (w.1 13) fr nt)), some (.int (nI i))] [] w1) (N) ?_ (fun i hi ih => ?_) 0 (Nat.zero_le _)
  · intro w1 hsl h2 hI
    have eD : xD w1 = xD w := hsl.eD (by decide)
    have hX1 := hsl.keep (by decide) hX
    have hA1 : fd_A (xD w1) nt d m := by rw [eD]; exact hA
    have e13 : w1.1 13 = w.1 13 := hsl.1 13 (by decide)
    refine fw_iload h rfl rfl ?_
    refine fw_aload_n h rfl rfl ?_
    refine fw_getI h rfl fk_g_X4_15 rfl rfl ?_
    refine fw_icmp_ge h rfl (fun c28 => ?_) (fun c28 => False.elim (c28 (by rw [h2]; exact Int32.le_refl _)))
    refine fw_aload_n h rfl rfl ?_
    refine fw_v0V h rfl fk_v_X4_findDue fk_l_X4_42 rfl rfl rfl rfl ?_
    refine c_X4_findDue_c (s := fs_sc (xD w) nt d m (nI q) z fr) hX1 h2 hN0 hN2 hI (fun w' hs' g2 g3 g4 => ?_)
    rw [eD] at g3 g4
    exact fw_vret h rfl rfl ⟨rfl, hp w' (hsl.tr (hs'.mono (by decide))) g2 (fun r hr => (congrFun (hs'.1 45 (by decide)) r).trans (hI r hr)) g3 g4⟩
  · intro w1 hsl h2 hI
    have eD : xD w1 = xD w := hsl.eD (by decide)
    have hX1 := hsl.keep (by decide) hX
    have hA1 : fd_A (xD w1) nt d m := by rw [eD]; exact hA
    have e13 : w1.1 13 = w.1 13 := hsl.1 13 (by decide)
    refine fw_iload h rfl rfl ?_
    refine fw_aload_n h rfl rfl ?_
    refine fw_getI h rfl fk_g_X4_15 rfl rfl ?_
    refine fw_icmp_ge h rfl (fun c28 => False.elim (by rw [h2] at c28; exact nI_ge hi (by omega) c28)) (fun c28 => ?_)
    refine fw_aload_n h rfl rfl ?_
    refine fw_getR _ h rfl fk_g_X4_9 rfl rfl ?_
    refine fw_iload h rfl rfl ?_
    refine fw_aload_n h rfl rfl ?_
    refine fw_iload h rfl rfl ?_
    refine fw_iload_n h rfl rfl ?_
    refine fw_iload_n h rfl rfl ?_
    refine fw_iload h rfl rfl ?_
    refine fw_v4I h rfl fk_v_X2_falls fk_l_X4_38 rfl rfl rfl rfl ?_
    have f := hq i hi
    rw [← e13]
    refine c_X2_falls hX1 hA1 (by omega) (by rw [eD, hsl.1 41 (by decide)]; exact f.1) (by rw [eD, hsl.1 42 (by decide)]; exact f.2.1) (by rw [eD, hsl.1 43 (by decide)]; exact f.2.2) hq3 ?_
    rw [eD, e13]
    refine fn_iast h rfl rfl (by omega) rfl ?_
    first | refine fn_iinc h [_, _, _, _, _, _, _] rfl rfl rfl rfl rfl ?_ | refine fw_iinc h 1 [_, _, _, _, _, _, _] rfl (by decide) rfl rfl rfl rfl ?_
    refine fw_goto h rfl ?_
    refine ih _ (hsl.up i _ (by decide)) (by rw [← h2]; simp [fb_up]) (fun r hr => ?_)
    by_cases e : r = i
    · subst e; simp [fb_up]
    · rw [← hI r (by omega)]; simp [fb_up, e]
theorem c_X4_letAllGo_c {l : Launch} {w : fb_Wd} {P : fb_Wd → Prop} {N nt nd nx ng : Nat} (hX : XI w nt nd nx ng) (h5 : w.1 6 5 = nI N) (hN0 : 1 ≤ N) (hN2 : N ≤ 32) (hp : ∀ w', xSL [8, 45] w w' → w'.1 8 2 = nI N → (∀ r, r < N → w'.1 45 r = (fun _ => (0 : Int32)) r) → w'.1 8 3 = nI (fp_mn ((fun _ => fs_val (xD w) nt 0)) N) → w'.1 8 4 = (fun _ => fs_val (xD w) nt 0) (fp_mn ((fun _ => fs_val (xD w) nt 0)) N) → P w') : fb_Can l tX4_letAllGo [.ref 8, .ref 6] w (fb_kV P) := by
  refine fb_intro 1 fk_t_X4_letAllGo (by decide) rfl (fun X hX h => ?_)
  subst hX
  change fb_AW tX4_letAllGo X 0 [some (.ref 8), some (.ref 6), none] [] w
  refine fw_aload_n h rfl rfl ?_
  refine fw_aload_n h rfl rfl ?_
  refine fw_getI h rfl fk_g_X4_35 rfl rfl ?_
  rw [h5]
  refine fw_putI h rfl fk_p_X4_15 rfl rfl ?_
  refine fw_iconst h (nI 0) rfl (by decide) ?_
  refine fw_istore_n h [_, _, _] rfl rfl rfl rfl ?_
  refine (?_ : ∀ w1, xSL [8, 45] w w1 → w1.1 8 2 = nI N → (∀ r, r < 0 → w1.1 45 r = 0) → fb_AW tX4_letAllGo X 10 [some (.ref 8), some (.ref 6), some (.int (nI 0))] [] w1) _ ((xSL.rf _ w).up 2 _ (by decide)) (by simp [fb_up]) (fun r hr => by omega)
  refine fb_loop (fun i => ∀ w1, xSL [8, 45] w w1 → w1.1 8 2 = nI N → (∀ r, r < i → w1.1 45 r = 0) → fb_AW tX4_letAllGo X 10 [some (.ref 8), some (.ref 6), some (.int (nI i))] [] w1) (N) ?_ (fun i hi ih => ?_) 0 (Nat.zero_le _)
  · intro w1 hsl h2 hI
    have eD : xD w1 = xD w := hsl.eD (by decide)
    have hX1 := hsl.keep (by decide) hX
    refine fw_iload_n h rfl rfl ?_
    refine fw_aload_n h rfl rfl ?_
    refine fw_getI h rfl fk_g_X4_15 rfl rfl ?_
    refine fw_icmp_ge h rfl (fun c15 => ?_) (fun c15 => False.elim (c15 (by rw [h2]; exact Int32.le_refl _)))
    refine fw_aload_n h rfl rfl ?_
    refine fw_v0V h rfl fk_v_X4_findDue fk_l_X4_42 rfl rfl rfl rfl ?_
    refine c_X4_findDue_c (s := (fun _ => (0 : Int32))) hX1 h2 hN0 hN2 hI (fun w' hs' g2 g3 g4 => ?_)
    rw [eD] at g3 g4
    exact fw_vret h rfl rfl ⟨rfl, hp w' (hsl.tr (hs'.mono (by decide))) g2 (fun r hr => (congrFun (hs'.1 45 (by decide)) r).trans (hI r hr)) g3 g4⟩
  · intro w1 hsl h2 hI
    have eD : xD w1 = xD w := hsl.eD (by decide)
    have hX1 := hsl.keep (by decide) hX
    refine fw_iload_n h rfl rfl ?_
    refine fw_aload_n h rfl rfl ?_
    refine fw_getI h rfl fk_g_X4_15 rfl rfl ?_
    refine fw_icmp_ge h rfl (fun c15 => False.elim (by rw [h2] at c15; exact nI_ge hi (by omega) c15)) (fun c15 => ?_)
    refine fw_aload_n h rfl rfl ?_
    refine fw_getR _ h rfl fk_g_X4_9 rfl rfl ?_
    refine fw_iload_n h rfl rfl ?_
    refine fw_iconst h (nI 0) rfl (by decide) ?_
    refine fn_iast h rfl rfl (by omega) rfl ?_
    first | refine fn_iinc h [_, _, _] rfl rfl rfl rfl rfl ?_ | refine fw_iinc h 1 [_, _, _] rfl (by decide) rfl rfl rfl rfl ?_
    refine fw_goto h rfl ?_
    refine ih _ (hsl.up i _ (by decide)) (by rw [← h2]; simp [fb_up]) (fun r hr => ?_)
    by_cases e : r = i
    · subst e; simp [fb_up, nI_0]
    · rw [← hI r (by omega)]; simp [fb_up, e]
theorem c_X4_dueSet_c {l : Launch} {w : fb_Wd} {P : Int32 → fb_Wd → Prop} {q : Nat} (hq : w.1 8 3 = nI q) (hq2 : q < 32) (hp : P (w.1 45 q) w) : fb_Can l tX4_dueSet [.ref 8] w (fb_kI P) := by
  refine fb_intro 0 fk_t_X4_dueSet (by decide) rfl (fun X hX h => ?_)
  subst hX
  change fb_AW tX4_dueSet X 0 [some (.ref 8)] [] w
  refine fw_aload_n h rfl rfl ?_
  refine fw_getR _ h rfl fk_g_X4_9 rfl rfl ?_
  refine fw_aload_n h rfl rfl ?_
  refine fw_getI h rfl fk_g_X4_19 rfl rfl ?_
  rw [hq]
  refine fn_iald h rfl rfl (by omega) rfl ?_
  exact fw_iret h rfl rfl ⟨_, rfl, hp⟩
theorem c_X4_inEach_c {l : Launch} {w : fb_Wd} {P : Int32 → fb_Wd → Prop} {N : Nat} (hN : w.1 8 2 = nI N) (hN2 : N ≤ 32) (hN0 : 1 ≤ N) (hp : P (fp_andF (w.1 45) N) w) : fb_Can l tX4_inEach [.ref 8] w (fb_kI P) := by
  refine fb_intro 2 fk_t_X4_inEach (by decide) rfl (fun X hX h => ?_)
  subst hX
  change fb_AW tX4_inEach X 0 [some (.ref 8), none, none] [] w
  refine fw_aload_n h rfl rfl ?_
  refine fw_getR _ h rfl fk_g_X4_9 rfl rfl ?_
  refine fw_iconst h (nI 0) rfl (by decide) ?_
  refine fn_iald h rfl rfl (by omega) rfl ?_
  rw [← fp_andF_b (g := w.1 45)]
  refine fw_istore_n h [_, _, _] rfl rfl rfl rfl ?_
  refine fw_iconst h (nI 1) rfl (by decide) ?_
  refine fw_istore_n h [_, _, _] rfl rfl rfl rfl ?_
  refine fb_loop (fun i => fb_AW tX4_inEach X 9 [some (.ref 8), some (.int (fp_andF (w.1 45) i)), some (.int (nI i))] [] w) (N) ?_ (fun i hi ih => ?_) 1 (hN0)
  · refine fw_iload_n h rfl rfl ?_
    refine fw_aload_n h rfl rfl ?_
    refine fw_getI h rfl fk_g_X4_15 rfl rfl ?_
    refine fw_icmp_ge h rfl (fun c14 => ?_) (fun c14 => False.elim (c14 (by rw [hN]; exact Int32.le_refl _)))
    refine fw_iload_n h rfl rfl ?_
    exact fw_iret h rfl rfl ⟨_, rfl, hp⟩
  · refine fw_iload_n h rfl rfl ?_
    refine fw_aload_n h rfl rfl ?_
    refine fw_getI h rfl fk_g_X4_15 rfl rfl ?_
    refine fw_icmp_ge h rfl (fun c14 => False.elim (by rw [hN] at c14; exact nI_ge hi (by omega) c14)) (fun c14 => ?_)
    refine fw_iload_n h rfl rfl ?_
    refine fw_aload_n h rfl rfl ?_
    refine fw_getR _ h rfl fk_g_X4_9 rfl rfl ?_
    refine fw_iload_n h rfl rfl ?_
    refine fn_iald h rfl rfl (by omega) rfl ?_
    refine fw_iand h rfl ?_
    refine fw_istore_n h [_, _, _] rfl rfl rfl rfl ?_
    first | refine fn_iinc h [_, _, _] rfl rfl rfl rfl rfl ?_ | refine fw_iinc h 1 [_, _, _] rfl (by decide) rfl rfl rfl rfl ?_
    refine fw_goto h rfl ?_
    exact ih
theorem c_X4_inSome_c {l : Launch} {w : fb_Wd} {P : Int32 → fb_Wd → Prop} {N : Nat} (hN : w.1 8 2 = nI N) (hN2 : N ≤ 32) (hp : P (fp_orF (w.1 45) N) w) : fb_Can l tX4_inSome [.ref 8] w (fb_kI P) := by
  refine fb_intro 2 fk_t_X4_inSome (by decide) rfl (fun X hX h => ?_)
  subst hX
  change fb_AW tX4_inSome X 0 [some (.ref 8), none, none] [] w
  refine fw_iconst h (nI 0) rfl (by decide) ?_
  refine fw_istore_n h [_, _, _] rfl rfl rfl rfl ?_
  refine fw_iconst h (nI 0) rfl (by decide) ?_
  refine fw_istore_n h [_, _, _] rfl rfl rfl rfl ?_
  refine fb_loop (fun i => fb_AW tX4_inSome X 4 [some (.ref 8), some (.int (fp_orF (w.1 45) i)), some (.int (nI i))] [] w) (N) ?_ (fun i hi ih => ?_) 0 (Nat.zero_le _)
  · refine fw_iload_n h rfl rfl ?_
    refine fw_aload_n h rfl rfl ?_
    refine fw_getI h rfl fk_g_X4_15 rfl rfl ?_
    refine fw_icmp_ge h rfl (fun c9 => ?_) (fun c9 => False.elim (c9 (by rw [hN]; exact Int32.le_refl _)))
    refine fw_iload_n h rfl rfl ?_
    exact fw_iret h rfl rfl ⟨_, rfl, hp⟩
  · refine fw_iload_n h rfl rfl ?_
    refine fw_aload_n h rfl rfl ?_
    refine fw_getI h rfl fk_g_X4_15 rfl rfl ?_
    refine fw_icmp_ge h rfl (fun c9 => False.elim (by rw [hN] at c9; exact nI_ge hi (by omega) c9)) (fun c9 => ?_)
    refine fw_iload_n h rfl rfl ?_
    refine fw_aload_n h rfl rfl ?_
    refine fw_getR _ h rfl fk_g_X4_9 rfl rfl ?_
    refine fw_iload_n h rfl rfl ?_
    refine fn_iald h rfl rfl (by omega) rfl ?_
    refine fw_ior h rfl ?_
    refine fw_istore_n h [_, _, _] rfl rfl rfl rfl ?_
    first | refine fn_iinc h [_, _, _] rfl rfl rfl rfl rfl ?_ | refine fw_iinc h 1 [_, _, _] rfl (by decide) rfl rfl rfl rfl ?_
    refine fw_goto h rfl ?_
    exact ih
theorem c_X4_isNewAt_c {l : Launch} {w : fb_Wd} {P : Int32 → fb_Wd → Prop} {r : Nat} {mk as : Int32} (hr : r < 32) (ht : fp_new (w.1 45) mk as r r = true → P 1 w) (hf : fp_new (w.1 45) mk as r r = false → P 0 w) : fb_Can l tX4_isNewAt [.ref 8, .int (nI r), .int mk, .int as] w (fb_kI P) := by
  refine fb_intro 1 fk_t_X4_isNewAt (by decide) rfl (fun X hX h => ?_)
  subst hX
  change fb_AW tX4_isNewAt X 0 [some (.ref 8), some (.int (nI r)), some (.int mk), some (.int as), none] [] w
  refine fw_iconst h (nI 0) rfl (by decide) ?_
  refine fw_istore h [_, _, _, _, _] rfl rfl rfl rfl ?_
  refine (?_ : fp_new (w.1 45) mk as r 0 = true → fb_AW tX4_isNewAt X 3 [some (.ref 8), some (.int (nI r)), some (.int mk), some (.int as), some (.int (nI 0))] [] w) rfl
  refine fb_loop (fun i => fp_new (w.1 45) mk as r i = true → fb_AW tX4_isNewAt X 3 [some (.ref 8), some (.int (nI r)), some (.int mk), some (.int as), some (.int (nI i))] [] w) (r) ?_ (fun i hi ih => ?_) 0 (Nat.zero_le _)
  · intro hnb
    refine fw_iload h rfl rfl ?_
    refine fw_iload_n h rfl rfl ?_
    refine fw_icmp_ge h rfl (fun c6 => ?_) (fun c6 => False.elim (c6 (Int32.le_refl _)))
    refine fw_iconst h (nI 1) rfl (by decide) ?_
    exact fw_zret h rfl rfl (by first | exact Or.inl rfl | exact Or.inr rfl | assumption) ⟨_, rfl, ht hnb⟩
  · intro hnb
    refine fw_iload h rfl rfl ?_
    refine fw_iload_n h rfl rfl ?_
    refine fw_icmp_ge h rfl (fun c6 => False.elim (nI_ge hi (by omega) c6)) (fun c6 => ?_)
    refine fw_iload h rfl rfl ?_
    refine fw_iload_n h rfl rfl ?_
    refine fw_iand h rfl ?_
    refine fw_iload_n h rfl rfl ?_
    refine fw_icmp_ne h rfl (fun c14 => ?_) (fun c14 => ?_)
    · first | refine fn_iinc h [_, _, _, _, _] rfl rfl rfl rfl rfl ?_ | refine fw_iinc h 1 [_, _, _, _, _] rfl (by decide) rfl rfl rfl rfl ?_
      refine fw_goto h rfl ?_
      exact ih (fp_new_t hnb (fun q => by first | exact c14 q.1 | exact c30 q.2))
    · refine fw_aload_n h rfl rfl ?_
      refine fw_getR _ h rfl fk_g_X4_9 rfl rfl ?_
      refine fw_iload h rfl rfl ?_
      refine fn_iald h rfl rfl (by omega) rfl ?_
      refine fw_aload_n h rfl rfl ?_
      refine fw_getR _ h rfl fk_g_X4_9 rfl rfl ?_
      refine fw_iload_n h rfl rfl ?_
      refine fn_iald h rfl rfl (by omega) rfl ?_
      refine fw_icmp_ne h rfl (fun c30 => ?_) (fun c30 => ?_)
      · first | refine fn_iinc h [_, _, _, _, _] rfl rfl rfl rfl rfl ?_ | refine fw_iinc h 1 [_, _, _, _, _] rfl (by decide) rfl rfl rfl rfl ?_
        refine fw_goto h rfl ?_
        exact ih (fp_new_t hnb (fun q => by first | exact c14 q.1 | exact c30 q.2))
      · refine fw_iconst h (nI 0) rfl (by decide) ?_
        exact fw_zret h rfl rfl (by first | exact Or.inl rfl | exact Or.inr rfl | assumption) ⟨_, rfl, hf (fp_new_f c14 c30 hi)⟩
theorem c_X4_unlikeSets_c {l : Launch} {w : fb_Wd} {P : Int32 → fb_Wd → Prop} {N : Nat} (hN : w.1 8 2 = nI N) (hN2 : N ≤ 32) {mk as : Int32} (hp : P (nI (fp_unl (w.1 45) mk as N)) w) : fb_Can l tX4_unlikeSets [.ref 8, .int mk, .int as] w (fb_kI P) := by
  refine fb_intro 2 fk_t_X4_unlikeSets (by decide) rfl (fun X hX h => ?_)
  subst hX
  change fb_AW tX4_unlikeSets X 0 [some (.ref 8), some (.int mk), some (.int as), none, none] [] w
  refine fw_iconst h (nI 0) rfl (by decide) ?_
  refine fw_istore_n h [_, _, _, _, _] rfl rfl rfl rfl ?_
  refine fw_iconst h (nI 0) rfl (by decide) ?_
  refine fw_istore h [_, _, _, _, _] rfl rfl rfl rfl ?_
  refine fb_loop (fun i => fb_AW tX4_unlikeSets X 5 [some (.ref 8), some (.int mk), some (.int as), some (.int (nI (fp_unl (w.1 45) mk as i))), some (.int (nI i))] [] w) (N) ?_ (fun i hi ih => ?_) 0 (Nat.zero_le _)
  · refine fw_iload h rfl rfl ?_
    refine fw_aload_n h rfl rfl ?_
    refine fw_getI h rfl fk_g_X4_15 rfl rfl ?_
    refine fw_icmp_ge h rfl (fun c11 => ?_) (fun c11 => False.elim (c11 (by rw [hN]; exact Int32.le_refl _)))
    refine fw_iload_n h rfl rfl ?_
    exact fw_iret h rfl rfl ⟨_, rfl, hp⟩
  · refine fw_iload h rfl rfl ?_
    refine fw_aload_n h rfl rfl ?_
    refine fw_getI h rfl fk_g_X4_15 rfl rfl ?_
    refine fw_icmp_ge h rfl (fun c11 => False.elim (by rw [hN] at c11; exact nI_ge hi (by omega) c11)) (fun c11 => ?_)
    refine fw_iload h rfl rfl ?_
    refine fw_iload_n h rfl rfl ?_
    refine fw_iand h rfl ?_
    refine fw_iload_n h rfl rfl ?_
    refine fw_icmp_ne h rfl (fun c19 => ?_) (fun c19 => ?_)
    · first | refine fn_iinc h [_, _, _, _, _] rfl rfl rfl rfl rfl ?_ | refine fw_iinc h 1 [_, _, _, _, _] rfl (by decide) rfl rfl rfl rfl ?_
      refine fw_goto h rfl ?_
      rw [fp_unl_0 (by first | exact Or.inl c19 | exact Or.inr c27n)] at ih
      exact ih
    · refine fw_aload_n h rfl rfl ?_
      refine fw_iload h rfl rfl ?_
      refine fw_iload_n h rfl rfl ?_
      refine fw_iload_n h rfl rfl ?_
      refine fw_v3I h rfl fk_v_X4_isNewAt fk_l_X4_48 rfl rfl rfl rfl ?_
      refine c_X4_isNewAt_c (by omega) (fun c27n => ?_) (fun c27n => ?_)
      · refine fw_if_eq h rfl (fun c => absurd c (by decide)) (fun _ => ?_)
        skip
        · first | refine fn_iinc h [_, _, _, _, _] rfl rfl rfl rfl rfl ?_ | refine fw_iinc h 1 [_, _, _, _, _] rfl (by decide) rfl rfl rfl rfl ?_
          first | refine fn_iinc h [_, _, _, _, _] rfl rfl rfl rfl rfl ?_ | refine fw_iinc h 1 [_, _, _, _, _] rfl (by decide) rfl rfl rfl rfl ?_
          refine fw_goto h rfl ?_
          rw [fp_unl_1 c19 c27n] at ih
          exact ih
      · refine fw_if_eq h rfl (fun _ => ?_) (fun c => absurd c (by decide))
        first | refine fn_iinc h [_, _, _, _, _] rfl rfl rfl rfl rfl ?_ | refine fw_iinc h 1 [_, _, _, _, _] rfl (by decide) rfl rfl rfl rfl ?_
        refine fw_goto h rfl ?_
        rw [fp_unl_0 (by first | exact Or.inl c19 | exact Or.inr c27n)] at ih
        exact ih
theorem fs_sc_n {D : Nat → Nat → Int32} {nt nx d m x : Nat} (e : fs_tn D nx d = nI x) (hx : x < 2 ^ 31) : fs_sc D nt d m (D 14 x) (D 15 x) (D 16 x) = fs_sn D nt nx d m := by
  funext r
  unfold fs_sc fs_sn fs_sx fs_fx
  rw [e, if_neg (nI_ne9 hx), nI_clamp hx]
theorem fs_vc_n {D : Nat → Nat → Int32} {nt nx d m x : Nat} (e : fs_tn D nx d = nI x) (hx : x < 2 ^ 31) : fs_vc D nt d m (D 14 x) (D 15 x) (D 16 x) = fs_vn D nt nx d m := by
  funext r
  unfold fs_vc fs_vn
  rw [fs_sc_n e hx]
theorem fs_sn_9 {D : Nat → Nat → Int32} {nt nx d m : Nat} (e : fs_tn D nx d = -9) : fs_sn D nt nx d m = fun _ => 0 := by
  funext r
  unfold fs_sn fs_sx fs_fx
  rw [e, if_pos rfl]
theorem fs_vn_9 {D : Nat → Nat → Int32} {nt nx d m : Nat} (e : fs_tn D nx d = -9) : fs_vn D nt nx d m = fun _ => fs_val D nt 0 := by
  funext r
  unfold fs_vn
  rw [fs_sn_9 e]
def xRN (w : fb_Wd) (nt nx d m : Nat) (w' : fb_Wd) : Prop := xSL [6, 7, 41, 42, 43, 44] w w' ∧ w'.1 6 5 = nI (2 ^ fp_dbt (xD w 12) d m) ∧ (∀ r, r < 2 ^ fp_dbt (xD w 12) d m → w'.1 41 r = fs_mv (xD w) nt d m (fs_so (xD w) d (nI r) m) ∧ w'.1 42 r = fs_ht (xD w) d (fs_so (xD w) d (nI r) m) m ∧ w'.1 43 r = fs_bl (xD w) nt d m (fs_so (xD w) d (nI r) m)) ∧ w'.1 7 2 = nI (2 ^ fp_dbt (xD w 12) d m) ∧ (∀ r, r < 2 ^ fp_dbt (xD w 12) d m → w'.1 44 r = fs_sn (xD w) nt nx d m r) ∧ w'.1 7 3 = nI (fs_qn (xD w) nt nx d m) ∧ w'.1 7 4 = fs_vn (xD w) nt nx d m (fs_qn (xD w) nt nx d m)
def fd_X (D : Nat → Nat → Int32) (nx : Nat) : Prop := ∀ x, x < nx → ∃ q, q ≤ 3 ∧ D 14 x = nI q
theorem c_X7_ruleNow {l : Launch} {w : fb_Wd} {P : fb_Wd → Prop} {d m nt nd nx ng : Nat} (hX : XI w nt nd nx ng) (hx : fd_X (xD w) nx) (hdn : d < nd) (hA : fd_A (xD w) nt d m) (hk : w.1 26 d = nI (fp_dbt (xD w 12) d m)) (hp : ∀ w', xRN w nt nx d m w' → P w') : fb_Can l tX7_ruleNow [.ref 0, .int (nI d)] w (fb_kV P) := by
  refine fb_intro 1 fk_t_X7_ruleNow (by decide) rfl (fun X hX h => ?_)
  subst hX
  change fb_AW tX7_ruleNow X 0 [some (.ref 0), some (.int (nI d)), none] [] w
  have hnd := hX.1.2.1.2
  have hnx := hX.1.2.2.1.2
  have h5 := hA.2.2.2
  have hp5 : 2 ^ fp_dbt (xD w 12) d m ≤ 2 ^ 5 := Nat.pow_le_pow_right (by decide) h5
  have hp0 := Nat.two_pow_pos (fp_dbt (xD w 12) d m)
  refine fw_aload_n h rfl rfl ?_
  refine fw_getR _ h rfl fk_g_X7_49 rfl rfl ?_
  refine fw_iload_n h rfl rfl ?_
  refine fw_iconst h (nI 0) rfl (by decide) ?_
  refine fw_aload_n h rfl rfl ?_
  refine fw_getR _ h rfl fk_g_X7_26 rfl rfl ?_
  refine fw_iload_n h rfl rfl ?_
  refine fw_v1I h rfl fk_v_X0_readings fk_l_X7_280 rfl rfl rfl rfl ?_
  refine c_X0_readings (by omega) hk (by omega) ?_
  refine fw_iconst h (nI 1) rfl (by decide) ?_
  refine fw_isub h rfl ?_
  refine fw_v3V h rfl fk_v_X2_hear fk_l_X7_208 rfl rfl rfl rfl ?_
  have e1 : nI (2 ^ fp_dbt (xD w 12) d m) - nI 1 = nI (2 ^ fp_dbt (xD w 12) d m - 1) := pk_sub (by omega)
  rw [e1]
  refine c_X2_hear hX hdn hA hk (by omega) (Nat.zero_le _) (fun w1 hs1 g5 gF => ?_)
  have eD1 : xD w1 = xD w := hs1.eD (by decide)
  have hX1 := hs1.keep (by decide) hX
  have hA1 : fd_A (xD w1) nt d m := by rw [eD1]; exact hA
  refine fw_aload_n h rfl rfl ?_
  refine fw_getR _ h rfl fk_g_X7_33 rfl rfl ?_
  refine fw_aload_n h rfl rfl ?_
  refine fw_getR _ h rfl fk_g_X7_26 rfl rfl ?_
  refine fw_getR _ h rfl fk_g_X7_283 rfl rfl ?_
  refine fw_iload_n h rfl rfl ?_
  refine fn_iald h rfl rfl (by omega) rfl ?_
  refine fw_v1I h rfl fk_v_X5_latestBy fk_l_X7_227 rfl rfl rfl rfl ?_
  refine c_X5_latestBy hX1.1.2.2.1.1 hX1.1.2.2.1.2 ?_
  rw [show fp_force (w1.1 31) (w1.1 23 d) nx = fs_tn (xD w) nx d from by rw [← eD1]; exact fp_force_cg (by have := hX.1.2.2.1.2; omega) (fun k hk => (if_pos (show k < 8 by have := hX.1.2.2.1.2; omega)).symm)]
  refine fw_istore_n h [_, _, _] rfl rfl rfl rfl ?_
  refine fw_iload_n h rfl rfl ?_
  refine fw_bipush h (-9) rfl (by decide) ?_
  refine fw_icmp_ne h rfl (fun c39 => ?_) (fun c39 => ?_)
  · obtain ⟨x, hx8, ex⟩ := (fs_tn_in (xD w) nx d).resolve_left c39
    obtain ⟨q, hq3, eq⟩ := hx x hx8
    have ex2 : w1.1 32 x = nI q := by rw [hs1.1 32 (by decide), ← eq]; exact (if_pos (show x < 8 by omega)).symm
    have ex3 : w1.1 33 x = xD w 15 x := by rw [hs1.1 33 (by decide)]; exact (if_pos (show x < 8 by omega)).symm
    have ex4 : w1.1 34 x = xD w 16 x := by rw [hs1.1 34 (by decide)]; exact (if_pos (show x < 8 by omega)).symm
    rw [ex]
    · refine fw_aload_n h rfl rfl ?_
      refine fw_getR _ h rfl fk_g_X7_58 rfl rfl ?_
      refine fw_aload_n h rfl rfl ?_
      refine fw_getR _ h rfl fk_g_X7_49 rfl rfl ?_
      refine fw_aload_n h rfl rfl ?_
      refine fw_getR _ h rfl fk_g_X7_33 rfl rfl ?_
      refine fw_getR _ h rfl fk_g_X7_237 rfl rfl ?_
      refine fw_iload_n h rfl rfl ?_
      refine fn_iald h rfl rfl (by omega) rfl ?_
      refine fw_aload_n h rfl rfl ?_
      refine fw_getR _ h rfl fk_g_X7_33 rfl rfl ?_
      refine fw_getR _ h rfl fk_g_X7_240 rfl rfl ?_
      refine fw_iload_n h rfl rfl ?_
      refine fn_zald h rfl rfl (by omega) rfl ?_
      refine fw_aload_n h rfl rfl ?_
      refine fw_getR _ h rfl fk_g_X7_33 rfl rfl ?_
      refine fw_getR _ h rfl fk_g_X7_231 rfl rfl ?_
      refine fw_iload_n h rfl rfl ?_
      refine fn_iald h rfl rfl (by omega) rfl ?_
      refine fw_v4V h rfl fk_v_X4_rule fk_l_X7_290 rfl rfl rfl rfl ?_
      rw [ex2, ex3, ex4]
      refine c_X4_rule_n hX1 hA1 g5 (by omega) (by omega) (fun r hr => by rw [eD1]; exact gF r (Nat.zero_le _) (by omega)) hq3 (fun w2 hs2 q1 q2 q3 q4 => ?_)
      rw [eD1] at q2 q3 q4
      exact fw_vret h rfl rfl ⟨rfl, by rw [← eq] at q2 q3 q4; rw [fs_sc_n ex (by omega)] at q2; rw [fs_vc_n ex (by omega)] at q3 q4; exact hp w2 ⟨(hs1.mono (by decide)).tr (hs2.mono (by decide)), (congrFun (hs2.1 6 (by decide)) 5).trans g5, fun r hr => by rw [hs2.1 41 (by decide), hs2.1 42 (by decide), hs2.1 43 (by decide)]; exact gF r (Nat.zero_le _) (by omega), q1, q2, q3, q4⟩⟩
  · have e9 : fs_tn (xD w) nx d = -9 := c39
    · refine fw_aload_n h rfl rfl ?_
      refine fw_getR _ h rfl fk_g_X7_58 rfl rfl ?_
      refine fw_aload_n h rfl rfl ?_
      refine fw_getR _ h rfl fk_g_X7_49 rfl rfl ?_
      refine fw_v1V h rfl fk_v_X4_letAllGo fk_l_X7_286 rfl rfl rfl rfl ?_
      refine c_X4_letAllGo_n hX1 g5 (by omega) (by omega) (fun w2 hs2 q1 q2 q3 q4 => ?_)
      rw [eD1] at q3 q4
      refine fw_goto h rfl ?_
      exact fw_vret h rfl rfl ⟨rfl, hp w2 ⟨(hs1.mono (by decide)).tr (hs2.mono (by decide)), (congrFun (hs2.1 6 (by decide)) 5).trans g5, fun r hr => by rw [hs2.1 41 (by decide), hs2.1 42 (by decide), hs2.1 43 (by decide)]; exact gF r (Nat.zero_le _) (by omega), q1, fun r hr => by rw [fs_sn_9 e9]; exact q2 r hr, by unfold fs_qn; rw [fs_vn_9 e9]; exact q3, by unfold fs_qn; rw [fs_vn_9 e9]; exact q4⟩⟩
theorem c_X7_ruleBoth {l : Launch} {w : fb_Wd} {P : fb_Wd → Prop} {d m q nt nd nx ng : Nat} {z f : Int32} (hX : XI w nt nd nx ng) (hx : fd_X (xD w) nx) (hdn : d < nd) (hA : fd_A (xD w) nt d m) (hk : w.1 26 d = nI (fp_dbt (xD w 12) d m)) (hq3 : q ≤ 3) (hp : ∀ w1 w2, xRN w nt nx d m w1 → xSL [8, 45] w1 w2 → w2.1 8 2 = nI (2 ^ fp_dbt (xD w 12) d m) → (∀ r, r < 2 ^ fp_dbt (xD w 12) d m → w2.1 45 r = fs_sc (xD w) nt d m (nI q) z f r) → w2.1 8 3 = nI (fs_qc (xD w) nt d m (nI q) z f) → w2.1 8 4 = fs_vc (xD w) nt d m (nI q) z f (fs_qc (xD w) nt d m (nI q) z f) → P w2) : fb_Can l tX7_ruleBoth [.ref 0, .int (nI d), .int (nI q), .int z, .int f] w (fb_kV P) := by
  refine fb_intro 0 fk_t_X7_ruleBoth (by decide) rfl (fun X hX h => ?_)
  subst hX
  change fb_AW tX7_ruleBoth X 0 [some (.ref 0), some (.int (nI d)), some (.int (nI q)), some (.int z), some (.int f)] [] w
  have h5 := hA.2.2.2
  have hp5 : 2 ^ fp_dbt (xD w 12) d m ≤ 2 ^ 5 := Nat.pow_le_pow_right (by decide) h5
  have hp0 := Nat.two_pow_pos (fp_dbt (xD w 12) d m)
  refine fw_aload_n h rfl rfl ?_
  refine fw_iload_n h rfl rfl ?_
  refine fw_v1V h rfl fk_v_X7_ruleNow fk_l_X7_247 rfl rfl rfl rfl ?_
  refine c_X7_ruleNow hX hx hdn hA hk (fun w1 hr => ?_)
  have eD1 : xD w1 = xD w := hr.1.eD (by decide)
  have hX1 := hr.1.keep (by decide) hX
  have hA1 : fd_A (xD w1) nt d m := by rw [eD1]; exact hA
  refine fw_aload_n h rfl rfl ?_
  refine fw_getR _ h rfl fk_g_X7_62 rfl rfl ?_
  refine fw_aload_n h rfl rfl ?_
  refine fw_getR _ h rfl fk_g_X7_49 rfl rfl ?_
  refine fw_iload_n h rfl rfl ?_
  refine fw_iload_n h rfl rfl ?_
  refine fw_iload h rfl rfl ?_
  refine fw_v4V h rfl fk_v_X4_rule fk_l_X7_290 rfl rfl rfl rfl ?_
  refine c_X4_rule_c hX1 hA1 hr.2.1 (by omega) (by omega) (fun r hr2 => by rw [eD1]; exact hr.2.2.1 r hr2) hq3 (fun w2 hs2 q1 q2 q3 q4 => ?_)
  rw [eD1] at q2 q3 q4
  exact fw_vret h rfl rfl ⟨rfl, hp w1 w2 hr hs2 q1 q2 q3 q4⟩
