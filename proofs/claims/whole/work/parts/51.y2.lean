def xFN (w : fb_Wd) (nt nx d : Nat) (w2 : fb_Wd) : Prop := xSL [6, 7, 8, 41, 42, 43, 44, 45] w w2 ∧ (w2.1 7 3 = nI (fs_dq (xD w) nt nx d) ∧ fs_dq (xD w) nt nx d < 32) ∧ w2.1 44 (fs_dq (xD w) nt nx d) = fs_ds (xD w) nt nx d ∧ w2.1 7 4 = fs_dv (xD w) nt nx d ∧ xRN w nt nx d (fd_m (xD w) d) w2
def xFB (w : fb_Wd) (nt nx d q : Nat) (z f : Int32) (w2 : fb_Wd) : Prop := xSL [6, 7, 8, 41, 42, 43, 44, 45] w w2 ∧ (w2.1 7 3 = nI (fs_dq (xD w) nt nx d) ∧ fs_dq (xD w) nt nx d < 32) ∧ w2.1 44 (fs_dq (xD w) nt nx d) = fs_ds (xD w) nt nx d ∧ (w2.1 8 3 = nI (fs_cq (xD w) nt d (nI q) z f) ∧ fs_cq (xD w) nt d (nI q) z f < 32) ∧ w2.1 45 (fs_cq (xD w) nt d (nI q) z f) = fs_cs (xD w) nt d (nI q) z f
theorem c_X7_ruleNowS {l : Launch} {w w1 : fb_Wd} {P : fb_Wd → Prop} {d nt nd nx ng : Nat} (hX : XI w nt nd nx ng) (hx : fd_X (xD w) nx) (hs : xSL [6, 7, 8, 41, 42, 43, 44, 45] w w1) (hdn : d < nd) (hp : ∀ w2, xSL [6, 7, 8, 41, 42, 43, 44, 45] w w2 → (w2.1 7 3 = nI (fs_dq (xD w) nt nx d) ∧ fs_dq (xD w) nt nx d < 32) → w2.1 44 (fs_dq (xD w) nt nx d) = fs_ds (xD w) nt nx d → w2.1 7 4 = fs_dv (xD w) nt nx d → P w2) : fb_Can l tX7_ruleNow [.ref 0, .int (nI d)] w1 (fb_kV P) := by
  have eD : xD w1 = xD w := hs.eD (by decide)
  have hX1 := hs.keep (by decide) hX
  have hA := hX.2.2.1 d hdn
  have hk := (hX1.kq d hdn).1
  rw [eD] at hk
  refine c_X7_ruleNow hX1 (by rw [eD]; exact hx) hdn (by rw [eD]; exact hA) (by rw [eD]; exact hk) (fun w2 hr => ?_)
  unfold xRN at hr
  rw [eD] at hr
  have hlt : fs_dq (xD w) nt nx d < 2 ^ fp_dbt (xD w 12) d (fd_m (xD w) d) := fp_mn_lt (Nat.two_pow_pos _)
  have h5 : 2 ^ fp_dbt (xD w 12) d (fd_m (xD w) d) ≤ 2 ^ 5 := Nat.pow_le_pow_right (by decide) hA.2.2.2
  exact hp w2 (hs.tr (hr.1.mono (by decide))) ⟨hr.2.2.2.2.2.1, by omega⟩ (hr.2.2.2.2.1 _ hlt) hr.2.2.2.2.2.2
theorem c_X7_ruleBothS {l : Launch} {w w1 : fb_Wd} {P : fb_Wd → Prop} {d q nt nd nx ng : Nat} {z f : Int32} (hX : XI w nt nd nx ng) (hx : fd_X (xD w) nx) (hs : xSL [6, 7, 8, 41, 42, 43, 44, 45] w w1) (hdn : d < nd) (hq : q ≤ 3) (hp : ∀ w2, xFB w nt nx d q z f w2 → P w2) : fb_Can l tX7_ruleBoth [.ref 0, .int (nI d), .int (nI q), .int z, .int f] w1 (fb_kV P) := by
  have eD : xD w1 = xD w := hs.eD (by decide)
  have hX1 := hs.keep (by decide) hX
  have hA := hX.2.2.1 d hdn
  have hk := (hX1.kq d hdn).1
  rw [eD] at hk
  refine c_X7_ruleBoth (m := fd_m (xD w) d) hX1 (by rw [eD]; exact hx) hdn (by rw [eD]; exact hA) (by rw [eD]; exact hk) hq (fun w2 w3 hr hs3 g2 g3 g4 g5 => ?_)
  unfold xRN at hr
  rw [eD] at hr g3 g4
  have hlt : fs_dq (xD w) nt nx d < 2 ^ fp_dbt (xD w 12) d (fd_m (xD w) d) := fp_mn_lt (Nat.two_pow_pos _)
  have hlt2 : fs_cq (xD w) nt d (nI q) z f < 2 ^ fp_dbt (xD w 12) d (fd_m (xD w) d) := fp_mn_lt (Nat.two_pow_pos _)
  have h5 : 2 ^ fp_dbt (xD w 12) d (fd_m (xD w) d) ≤ 2 ^ 5 := Nat.pow_le_pow_right (by decide) hA.2.2.2
  exact hp w3 ⟨(hs.tr (hr.1.mono (by decide))).tr (hs3.mono (by decide)), ⟨(congrFun (hs3.1 7 (by decide)) 3).trans hr.2.2.2.2.2.1, by omega⟩, (congrFun (hs3.1 44 (by decide)) _).trans (hr.2.2.2.2.1 _ hlt), ⟨g4, by omega⟩, g3 _ hlt2⟩
theorem c_X0_isWithinS {l : Launch} {w w1 : fb_Wd} {P : Int32 → fb_Wd → Prop} {d : Nat} {a b : Int32} (h23 : w1.1 23 = w.1 23) (hd : d < 12) (ht : a ≤ xD w 6 d → xD w 6 d ≤ b → P 1 w1) (hf : ¬ (a ≤ xD w 6 d ∧ xD w 6 d ≤ b) → P 0 w1) : fb_Can l tX0_isWithin [.ref 3, .int (nI d), .int a, .int b] w1 (fb_kI P) := by
  refine c_X0_isWithin hd (fun q1 q2 => ht (by rw [h23] at q1; exact q1) (by rw [h23] at q2; exact q2)) (fun q => hf (by rw [h23] at q; exact q))
theorem c_X7_shortfall {l : Launch} {w : fb_Wd} {P : Int32 → fb_Wd → Prop} {nt nd nx ng : Nat} (hX : XI w nt nd nx ng) (hx : fd_X (xD w) nx) {fr to : Int32} (hb : ¬ (1000 ≤ fr ∧ fr ≤ 1900 ∧ fr ≤ to ∧ to ≤ 1900) → P (-1) w) (hg : 1000 ≤ fr → fr ≤ 1900 → fr ≤ to → to ≤ 1900 → ∀ w', xSL [6, 7, 8, 41, 42, 43, 44, 45] w w' → P (nI (fp_cnt (fun t => decide (¬ xD w 7 t = -9 ∧ fr ≤ xD w 6 t ∧ xD w 6 t ≤ to)) nd)) (fb_up w' 0 10 (fp_sum (fun t => if (¬ xD w 7 t = -9 ∧ fr ≤ xD w 6 t ∧ xD w 6 t ≤ to) then fs_dv (xD w) nt nx t - xD w 7 t else nI 0) nd))) : fb_Can l tX7_shortfall [.ref 0, .int fr, .int to] w (fb_kI P) := by
  refine fb_intro 3 fk_t_X7_shortfall (by decide) rfl (fun X hX h => ?_)
  subst hX
  change fb_AW tX7_shortfall X 0 [some (.ref 0), some (.int fr), some (.int to), none, none, none] [] w
  refine fw_iload_n h rfl rfl ?_
  refine fw_iload_n h rfl rfl ?_
  refine fw_s2I h rfl fk_s_X7_areYears fk_l_X7_296 rfl rfl ?_
  refine c_X7_areYears (fun c2a c2b c2c c2d => ?_) (fun c2 => ?_)
  · refine fw_if_ne h rfl (fun _ => ?_) (fun c => absurd c (by decide))
    have hnd := hX.1.2.1.2
    refine fw_iconst h (nI 0) rfl (by decide) ?_
    refine fw_istore_n h [_, _, _, _, _, _] rfl rfl rfl rfl ?_
    refine fw_iconst h (nI 0) rfl (by decide) ?_
    refine fw_istore h [_, _, _, _, _, _] rfl rfl rfl rfl ?_
    refine fw_iconst h (nI 0) rfl (by decide) ?_
    refine fw_istore h [_, _, _, _, _, _] rfl rfl rfl rfl ?_
    refine (?_ : ∀ w1, xSL [6, 7, 8, 41, 42, 43, 44, 45] w w1 → fb_AW tX7_shortfall X 18 [some (.ref 0), some (.int fr), some (.int to), some (.int (fp_sum (fun t => if (¬ xD w 7 t = -9 ∧ fr ≤ xD w 6 t ∧ xD w 6 t ≤ to) then fs_dv (xD w) nt nx t - xD w 7 t else nI 0) 0)), some (.int (nI (fp_cnt (fun t => decide (¬ xD w 7 t = -9 ∧ fr ≤ xD w 6 t ∧ xD w 6 t ≤ to)) 0))), some (.int (nI 0))] [] w1) w (xSL.rf _ w)
    refine fb_loop (fun i => ∀ w1, xSL [6, 7, 8, 41, 42, 43, 44, 45] w w1 → fb_AW tX7_shortfall X 18 [some (.ref 0), some (.int fr), some (.int to), some (.int (fp_sum (fun t => if (¬ xD w 7 t = -9 ∧ fr ≤ xD w 6 t ∧ xD w 6 t ≤ to) then fs_dv (xD w) nt nx t - xD w 7 t else nI 0) i)), some (.int (nI (fp_cnt (fun t => decide (¬ xD w 7 t = -9 ∧ fr ≤ xD w 6 t ∧ xD w 6 t ≤ to)) i))), some (.int (nI i))] [] w1) (nd) ?_ (fun i hi ih => ?_) 0 (Nat.zero_le _)
    · intro w1 hs
      have eD : xD w1 = xD w := hs.eD (by decide)
      have hX1 := hs.keep (by decide) hX
      refine fw_iload h rfl rfl ?_
      refine fw_aload_n h rfl rfl ?_
      refine fw_getR _ h rfl fk_g_X7_26 rfl rfl ?_
      refine fw_getIv (nI nd) h rfl fk_g_X7_150 rfl rfl (hX1.1.2.1.1) ?_
      refine fw_icmp_ge h rfl (fun c27 => ?_) (fun c27 => False.elim (c27 (Int32.le_refl _)))
      refine fw_aload_n h rfl rfl ?_
      refine fw_iload_n h rfl rfl ?_
      refine fw_iload h rfl rfl ?_
      refine fw_v2I h rfl fk_v_X7_tell fk_l_X7_111 rfl rfl rfl rfl ?_
      refine c_X7_tell ?_
      exact fw_iret h rfl rfl ⟨_, rfl, hg c2a c2b c2c c2d w1 hs⟩
    · intro w1 hs
      have eD : xD w1 = xD w := hs.eD (by decide)
      have hX1 := hs.keep (by decide) hX
      refine fw_iload h rfl rfl ?_
      refine fw_aload_n h rfl rfl ?_
      refine fw_getR _ h rfl fk_g_X7_26 rfl rfl ?_
      refine fw_getIv (nI nd) h rfl fk_g_X7_150 rfl rfl (hX1.1.2.1.1) ?_
      refine fw_icmp_ge h rfl (fun c27 => False.elim (nI_ge hi (by omega) c27)) (fun c27 => ?_)
      refine fw_aload_n h rfl rfl ?_
      refine fw_getR _ h rfl fk_g_X7_26 rfl rfl ?_
      refine fw_iload h rfl rfl ?_
      refine fw_iload_n h rfl rfl ?_
      refine fw_iload_n h rfl rfl ?_
      refine fw_v3I h rfl fk_v_X0_isWithin fk_l_X7_308 rfl rfl rfl rfl ?_
      refine c_X0_isWithinS (w := w) (hs.1 23 (by decide)) (by omega) (fun c38a c38b => ?_) (fun c38 => ?_)
      · refine fw_if_eq h rfl (fun c => absurd c (by decide)) (fun _ => ?_)
        refine fw_aload_n h rfl rfl ?_
        refine fw_getR _ h rfl fk_g_X7_26 rfl rfl ?_
        refine fw_getR _ h rfl fk_g_X7_293 rfl rfl ?_
        refine fw_iload h rfl rfl ?_
        refine fn_ialdF (w.1 24) h rfl rfl (hs.1 24 (by decide)) (by omega) rfl ?_
        refine fw_bipush h (-9) rfl (by decide) ?_
        refine fw_icmp_ne h rfl (fun c56 => ?_) (fun c56 => ?_)
        · refine fw_aload_n h rfl rfl ?_
          refine fw_iload h rfl rfl ?_
          refine fw_v1V h rfl fk_v_X7_ruleNow fk_l_X7_247 rfl rfl rfl rfl ?_
          refine c_X7_ruleNowS hX hx hs hi (fun w2 hs2 g3 g44 g4 => ?_)
          have hX2 := hs2.keep (by decide) hX
          skip
          · refine fw_iload_n h rfl rfl ?_
            refine fw_aload_n h rfl rfl ?_
            refine fw_getR _ h rfl fk_g_X7_58 rfl rfl ?_
            refine fw_getIv (fs_dv (xD w) nt nx i) h rfl fk_g_X7_266 rfl rfl (g4) ?_
            refine fw_aload_n h rfl rfl ?_
            refine fw_getR _ h rfl fk_g_X7_26 rfl rfl ?_
            refine fw_getR _ h rfl fk_g_X7_293 rfl rfl ?_
            refine fw_iload h rfl rfl ?_
            refine fn_ialdF (w.1 24) h rfl rfl (hs2.1 24 (by decide)) (by omega) rfl ?_
            refine fw_isub h rfl ?_
            first | refine fn_iadd h rfl ?_ | refine fw_iadd h rfl ?_
            refine fw_istore_n h [_, _, _, _, _, _] rfl rfl rfl rfl ?_
            first | refine fn_iinc h [_, _, _, _, _, _] rfl rfl rfl rfl rfl ?_ | refine fw_iinc h 1 [_, _, _, _, _, _] rfl (by decide) rfl rfl rfl rfl ?_
            first | refine fn_iinc h [_, _, _, _, _, _] rfl rfl rfl rfl rfl ?_ | refine fw_iinc h 1 [_, _, _, _, _, _] rfl (by decide) rfl rfl rfl rfl ?_
            refine fw_goto h rfl ?_
            have hc : ¬ xD w 7 i = -9 ∧ fr ≤ xD w 6 i ∧ xD w 6 i ≤ to := ⟨c56, c38a, c38b⟩
            have en : fp_cnt (fun t => decide (¬ xD w 7 t = -9 ∧ fr ≤ xD w 6 t ∧ xD w 6 t ≤ to)) (i + 1) = fp_cnt (fun t => decide (¬ xD w 7 t = -9 ∧ fr ≤ xD w 6 t ∧ xD w 6 t ≤ to)) i + 1 := fp_cnt_1 (decide_eq_true hc)
            have es : fp_sum (fun t => if (¬ xD w 7 t = -9 ∧ fr ≤ xD w 6 t ∧ xD w 6 t ≤ to) then fs_dv (xD w) nt nx t - xD w 7 t else nI 0) (i + 1) = fp_sum (fun t => if (¬ xD w 7 t = -9 ∧ fr ≤ xD w 6 t ∧ xD w 6 t ≤ to) then fs_dv (xD w) nt nx t - xD w 7 t else nI 0) i + (fs_dv (xD w) nt nx i - w.1 24 i) := fp_sum_s (if_pos hc)
            rw [en, es] at ih
            exact ih w2 hs2
        · refine fw_goto h rfl ?_
          first | refine fn_iinc h [_, _, _, _, _, _] rfl rfl rfl rfl rfl ?_ | refine fw_iinc h 1 [_, _, _, _, _, _] rfl (by decide) rfl rfl rfl rfl ?_
          refine fw_goto h rfl ?_
          have hc : ¬ (¬ xD w 7 i = -9 ∧ fr ≤ xD w 6 i ∧ xD w 6 i ≤ to) := by first | exact (fun q => c38 q.2) | exact (fun q => q.1 c56)
          have en : fp_cnt (fun t => decide (¬ xD w 7 t = -9 ∧ fr ≤ xD w 6 t ∧ xD w 6 t ≤ to)) (i + 1) = fp_cnt (fun t => decide (¬ xD w 7 t = -9 ∧ fr ≤ xD w 6 t ∧ xD w 6 t ≤ to)) i + 0 := fp_cnt_0 (decide_eq_false hc)
          have es : fp_sum (fun t => if (¬ xD w 7 t = -9 ∧ fr ≤ xD w 6 t ∧ xD w 6 t ≤ to) then fs_dv (xD w) nt nx t - xD w 7 t else nI 0) (i + 1) = fp_sum (fun t => if (¬ xD w 7 t = -9 ∧ fr ≤ xD w 6 t ∧ xD w 6 t ≤ to) then fs_dv (xD w) nt nx t - xD w 7 t else nI 0) i := fp_sum_z (if_neg hc)
          rw [en, es] at ih
          exact ih w1 hs
      · refine fw_if_eq h rfl (fun _ => ?_) (fun c => absurd c (by decide))
        first | refine fn_iinc h [_, _, _, _, _, _] rfl rfl rfl rfl rfl ?_ | refine fw_iinc h 1 [_, _, _, _, _, _] rfl (by decide) rfl rfl rfl rfl ?_
        refine fw_goto h rfl ?_
        have hc : ¬ (¬ xD w 7 i = -9 ∧ fr ≤ xD w 6 i ∧ xD w 6 i ≤ to) := by first | exact (fun q => c38 q.2) | exact (fun q => q.1 c56)
        have en : fp_cnt (fun t => decide (¬ xD w 7 t = -9 ∧ fr ≤ xD w 6 t ∧ xD w 6 t ≤ to)) (i + 1) = fp_cnt (fun t => decide (¬ xD w 7 t = -9 ∧ fr ≤ xD w 6 t ∧ xD w 6 t ≤ to)) i + 0 := fp_cnt_0 (decide_eq_false hc)
        have es : fp_sum (fun t => if (¬ xD w 7 t = -9 ∧ fr ≤ xD w 6 t ∧ xD w 6 t ≤ to) then fs_dv (xD w) nt nx t - xD w 7 t else nI 0) (i + 1) = fp_sum (fun t => if (¬ xD w 7 t = -9 ∧ fr ≤ xD w 6 t ∧ xD w 6 t ≤ to) then fs_dv (xD w) nt nx t - xD w 7 t else nI 0) i := fp_sum_z (if_neg hc)
        rw [en, es] at ih
        exact ih w1 hs
  · refine fw_if_ne h rfl (fun c => absurd c (by decide)) (fun _ => ?_)
    refine fw_iconst h (-1) rfl (by decide) ?_
    exact fw_iret h rfl rfl ⟨_, rfl, hb c2⟩
theorem fx_pcs {n i : Nat} (hn : n < 20) (hi : i < 2 ^ n) : fp_cnt (2 ^ n + i).testBit 20 = fp_cnt i.testBit 20 + 1 := by
  refine fp_cnt_ins (t := n) ?_ hn (fun k hk => ?_)
  · exact Nat.testBit_lt_two_pow hi
  · have h := Nat.testBit_two_pow_mul_add 1 (i := n) (b := i) hi k
    rw [Nat.mul_one] at h
    rw [h]
    by_cases e : k < n
    · rw [if_pos e, decide_eq_false (by omega), Bool.or_false]
    · rw [if_neg e, Nat.testBit_lt_two_pow (Nat.lt_of_lt_of_le hi (Nat.pow_le_pow_right (by decide) (Nat.not_lt.mp e))), Bool.false_or]
      rcases Nat.eq_or_lt_of_le (Nat.not_lt.mp e) with e2 | e2
      · subst e2; simp
      · obtain ⟨j, hj⟩ : ∃ j, k - n = j + 1 := ⟨k - n - 1, by omega⟩
        rw [hj, Nat.testBit_succ, decide_eq_false (by omega)]; simp
def fx_G : Nat → Nat → Nat
  | 0, k => if k = 0 then 1 else 0
  | n + 1, k => fx_G n k + fx_G n (k - 1)
theorem fx_G_eq : ∀ n, n ≤ 20 → ∀ k, fp_cnt (fun s => decide (k ≤ fp_cnt s.testBit 20)) (2 ^ n) = fx_G n k
  | 0, _, k => by
    show fp_cnt _ (0 + 1) = _
    rw [fp_cnt, fp_cnt, fx_G]
    have e : fp_cnt (Nat.testBit 0) 20 = 0 := by decide
    rw [e]
    by_cases h : k = 0
    · subst h; rfl
    · rw [if_neg h, decide_eq_false (by omega)]; rfl
  | n + 1, hn, k => by
    rw [show 2 ^ (n + 1) = 2 ^ n + 2 ^ n by rw [Nat.pow_succ]; omega, fx_cadd, fx_G_eq n (by omega) k, fx_G, ← fx_G_eq n (by omega) (k - 1)]
    congr 1
    refine fp_cnt_cg (fun i hi => ?_)
    rw [fx_pcs (by omega) hi]
    exact decide_eq_decide.mpr (by omega)
theorem fx_G_d : ∀ c, c < 13 → ∀ h, h < 13 → fx_wn c h (c + 1) = fx_G c h := by decide +kernel
theorem fx_ws_eq {c h : Nat} (hc : c ≤ 12) (hh : h ≤ 12) : fx_wn c h (c + 1) = fs_ws c h := by
  rw [fx_G_d c (by omega) h (by omega), ← fx_G_eq c (by omega) h]
  unfold fs_ws
  have h2 := fs_2n c hc
  refine fp_cnt_cg (fun s hs => ?_)
  have hp := fp_cnt_le s.testBit 20
  rw [fp_bits_c _ 20 (by decide), fp_cnt_cg (g := bt (nI s)) (g' := s.testBit) (fun i hi => fx_bt (by omega))]
  exact decide_eq_decide.mpr (nI_leI (by omega) (by omega)).symm
theorem fx_shl {a c : Nat} (hc : c ≤ 12) (ha : a ≤ 4096) : nI a <<< (nI c &&& 31) = nI (a * 2 ^ c) := by
  have h2 := fs_2n c hc
  have h3 : a * 2 ^ c ≤ 4096 * 4096 := Nat.mul_le_mul ha h2
  exact pk_shlN _ c (s_l c (by omega)) (by omega)
theorem c_X7_chanceOf {l : Launch} {w : fb_Wd} {P : Int32 → fb_Wd → Prop} {nt nd nx ng : Nat} (hX : XI w nt nd nx ng) (hx : fd_X (xD w) nx) {pl fr to : Int32} (h0 : fs_hN (xD w) nt nd nx pl fr to = 0 → ∀ w', xSL [6, 7, 8, 41, 42, 43, 44, 45] w w' → P (-9) w') (h1 : 0 < fs_hN (xD w) nt nd nx pl fr to → ∀ w', xSL [6, 7, 8, 41, 42, 43, 44, 45] w w' → P (nI (fs_hW (xD w) nt nd nx pl fr to * 2 ^ (12 - fs_hN (xD w) nt nd nx pl fr to))) w') : fb_Can l tX7_chanceOf [.ref 0, .int pl, .int fr, .int to] w (fb_kI P) := by
  refine fb_intro 3 fk_t_X7_chanceOf (by decide) rfl (fun X hX h => ?_)
  subst hX
  change fb_AW tX7_chanceOf X 0 [some (.ref 0), some (.int pl), some (.int fr), some (.int to), none, none, none] [] w
  have hnd := hX.1.2.1.2
  have hcl : fp_cnt (fs_hn (xD w) nt nx pl fr to) nd ≤ 12 := Nat.le_trans (fp_cnt_le _ nd) hnd
  have hkl : fp_cnt (fs_hk (xD w) nt nx pl fr to) nd ≤ 12 := Nat.le_trans (fp_cnt_le _ nd) hnd
  refine fw_iconst h (nI 0) rfl (by decide) ?_
  refine fw_istore h [_, _, _, _, _, _, _] rfl rfl rfl rfl ?_
  refine fw_iconst h (nI 0) rfl (by decide) ?_
  refine fw_istore h [_, _, _, _, _, _, _] rfl rfl rfl rfl ?_
  refine fw_iconst h (nI 0) rfl (by decide) ?_
  refine fw_istore h [_, _, _, _, _, _, _] rfl rfl rfl rfl ?_
  refine (?_ : ∀ w1, xSL [6, 7, 8, 41, 42, 43, 44, 45] w w1 → fb_AW tX7_chanceOf X 9 [some (.ref 0), some (.int pl), some (.int fr), some (.int to), some (.int (nI (fp_cnt (fs_hn (xD w) nt nx pl fr to) 0))), some (.int (nI (fp_cnt (fs_hk (xD w) nt nx pl fr to) 0))), some (.int (nI 0))] [] w1) w (xSL.rf _ w)
  refine fb_loop (fun i => ∀ w1, xSL [6, 7, 8, 41, 42, 43, 44, 45] w w1 → fb_AW tX7_chanceOf X 9 [some (.ref 0), some (.int pl), some (.int fr), some (.int to), some (.int (nI (fp_cnt (fs_hn (xD w) nt nx pl fr to) i))), some (.int (nI (fp_cnt (fs_hk (xD w) nt nx pl fr to) i))), some (.int (nI i))] [] w1) (nd) ?_ (fun i hi ih => ?_) 0 (Nat.zero_le _)
  · intro w1 hs
    have eD : xD w1 = xD w := hs.eD (by decide)
    have hX1 := hs.keep (by decide) hX
    refine fw_iload h rfl rfl ?_
    refine fw_aload_n h rfl rfl ?_
    refine fw_getR _ h rfl fk_g_X7_26 rfl rfl ?_
    refine fw_getIv (nI nd) h rfl fk_g_X7_150 rfl rfl (hX1.1.2.1.1) ?_
    refine fw_icmp_ge h rfl (fun c18 => ?_) (fun c18 => False.elim (c18 (Int32.le_refl _)))
    refine fw_iload h rfl rfl ?_
    refine fw_if_ne h rfl (fun c122 => ?_) (fun c122 => ?_)
    · have hpos : 0 < fs_hN (xD w) nt nd nx pl fr to := by
        rcases Nat.eq_zero_or_pos (fs_hN (xD w) nt nd nx pl fr to) with z | z
        · exact absurd (by rw [show fp_cnt (fs_hn (xD w) nt nx pl fr to) nd = 0 from z]; rfl) c122
        · exact z
      refine fw_iload h rfl rfl ?_
      refine fw_iload h rfl rfl ?_
      refine fw_s2I h rfl fk_s_X7_waysToFall fk_l_X7_311 rfl rfl ?_
      refine c_X7_waysToFall hcl hkl ?_
      rw [fx_ws_eq hcl hkl]
      refine fw_bipush h (nI 12) rfl (by decide) ?_
      refine fw_iload h rfl rfl ?_
      refine fw_isub h rfl ?_
      rw [pk_sub (by omega)]
      refine fw_ishl h rfl ?_
      exact fw_iret h rfl rfl ⟨_, rfl, by
    have hwl := fs_ws_le (fp_cnt (fs_hn (xD w) nt nx pl fr to) nd) (fp_cnt (fs_hk (xD w) nt nx pl fr to) nd)
    have h2 := fs_2n _ hcl
    rw [fx_shl (by omega) (by omega)]; exact h1 hpos w1 hs⟩
    · refine fw_bipush h (-9) rfl (by decide) ?_
      exact fw_iret h rfl rfl ⟨_, rfl, h0 ((nI_eq (a := fp_cnt (fs_hn (xD w) nt nx pl fr to) nd) (b := 0) (by omega) (by decide)).mp c122) w1 hs⟩
  · intro w1 hs
    have eD : xD w1 = xD w := hs.eD (by decide)
    have hX1 := hs.keep (by decide) hX
    refine fw_iload h rfl rfl ?_
    refine fw_aload_n h rfl rfl ?_
    refine fw_getR _ h rfl fk_g_X7_26 rfl rfl ?_
    refine fw_getIv (nI nd) h rfl fk_g_X7_150 rfl rfl (hX1.1.2.1.1) ?_
    refine fw_icmp_ge h rfl (fun c18 => False.elim (nI_ge hi (by omega) c18)) (fun c18 => ?_)
    refine fw_aload_n h rfl rfl ?_
    refine fw_getR _ h rfl fk_g_X7_26 rfl rfl ?_
    refine fw_getR _ h rfl fk_g_X7_305 rfl rfl ?_
    refine fw_iload h rfl rfl ?_
    refine fn_ialdF (w.1 22) h rfl rfl (hs.1 22 (by decide)) (by omega) rfl ?_
    refine fw_iload_n h rfl rfl ?_
    refine fw_icmp_ne h rfl (fun c32 => ?_) (fun c32 => ?_)
    · first | refine fn_iinc h [_, _, _, _, _, _, _] rfl rfl rfl rfl rfl ?_ | refine fw_iinc h 1 [_, _, _, _, _, _, _] rfl (by decide) rfl rfl rfl rfl ?_
      refine fw_goto h rfl ?_
      have en : fp_cnt (fs_hn (xD w) nt nx pl fr to) (i + 1) = fp_cnt (fs_hn (xD w) nt nx pl fr to) i + 0 := fp_cnt_0 (fs_hn_f1 c32)
      have ek : fp_cnt (fs_hk (xD w) nt nx pl fr to) (i + 1) = fp_cnt (fs_hk (xD w) nt nx pl fr to) i + 0 := fp_cnt_0 (fs_hk_f (fs_hn_f1 c32))
      rw [en, ek] at ih
      exact ih w1 hs
    · skip
      · refine fw_aload_n h rfl rfl ?_
        refine fw_getR _ h rfl fk_g_X7_26 rfl rfl ?_
        refine fw_iload h rfl rfl ?_
        refine fw_iload_n h rfl rfl ?_
        refine fw_iload_n h rfl rfl ?_
        refine fw_v3I h rfl fk_v_X0_isWithin fk_l_X7_308 rfl rfl rfl rfl ?_
        refine c_X0_isWithinS (w := w) (hs.1 23 (by decide)) (by omega) (fun c43a c43b => ?_) (fun c43 => ?_)
        · refine fw_if_eq h rfl (fun c => absurd c (by decide)) (fun _ => ?_)
          refine fw_aload_n h rfl rfl ?_
          refine fw_getR _ h rfl fk_g_X7_26 rfl rfl ?_
          refine fw_getR _ h rfl fk_g_X7_293 rfl rfl ?_
          refine fw_iload h rfl rfl ?_
          refine fn_ialdF (w.1 24) h rfl rfl (hs.1 24 (by decide)) (by omega) rfl ?_
          refine fw_bipush h (-9) rfl (by decide) ?_
          refine fw_icmp_ne h rfl (fun c61 => ?_) (fun c61 => ?_)
          · refine fw_aload_n h rfl rfl ?_
            refine fw_iload h rfl rfl ?_
            refine fw_v1V h rfl fk_v_X7_ruleNow fk_l_X7_247 rfl rfl rfl rfl ?_
            refine c_X7_ruleNowS hX hx hs hi (fun w2 hs2 g3 g44 g4 => ?_)
            have hX2 := hs2.keep (by decide) hX
            skip
            · refine fw_aload_n h rfl rfl ?_
              refine fw_getR _ h rfl fk_g_X7_58 rfl rfl ?_
              refine fw_getIv (fs_dv (xD w) nt nx i) h rfl fk_g_X7_266 rfl rfl (g4) ?_
              refine fw_if_gt h rfl (fun c80 => ?_) (fun c80 => ?_)
              · have hhn : fs_hn (xD w) nt nx pl fr to i = true := fs_hn_t c32 c43a c43b c61 (Int32.not_le.mpr c80)
                have en : fp_cnt (fs_hn (xD w) nt nx pl fr to) (i + 1) = fp_cnt (fs_hn (xD w) nt nx pl fr to) i + 1 := fp_cnt_1 hhn
                · first | refine fn_iinc h [_, _, _, _, _, _, _] rfl rfl rfl rfl rfl ?_ | refine fw_iinc h 1 [_, _, _, _, _, _, _] rfl (by decide) rfl rfl rfl rfl ?_
                  refine fw_iconst h (nI 2) rfl (by decide) ?_
                  refine fw_aload_n h rfl rfl ?_
                  refine fw_getR _ h rfl fk_g_X7_26 rfl rfl ?_
                  refine fw_getR _ h rfl fk_g_X7_293 rfl rfl ?_
                  refine fw_iload h rfl rfl ?_
                  refine fn_ialdF (w.1 24) h rfl rfl (hs2.1 24 (by decide)) (by omega) rfl ?_
                  first | refine fn_imul h rfl ?_ | refine fw_imul h rfl ?_
                  refine fw_aload_n h rfl rfl ?_
                  refine fw_getR _ h rfl fk_g_X7_58 rfl rfl ?_
                  refine fw_getIv (fs_dv (xD w) nt nx i) h rfl fk_g_X7_266 rfl rfl (g4) ?_
                  refine fw_icmp_ge h rfl (fun c108 => ?_) (fun c108 => ?_)
                  · first | refine fn_iinc h [_, _, _, _, _, _, _] rfl rfl rfl rfl rfl ?_ | refine fw_iinc h 1 [_, _, _, _, _, _, _] rfl (by decide) rfl rfl rfl rfl ?_
                    refine fw_goto h rfl ?_
                    have ek : fp_cnt (fs_hk (xD w) nt nx pl fr to) (i + 1) = fp_cnt (fs_hk (xD w) nt nx pl fr to) i + 0 := fp_cnt_0 (fs_hk_f2 c108)
                    rw [en, ek] at ih
                    exact ih w2 hs2
                  · skip
                    · first | refine fn_iinc h [_, _, _, _, _, _, _] rfl rfl rfl rfl rfl ?_ | refine fw_iinc h 1 [_, _, _, _, _, _, _] rfl (by decide) rfl rfl rfl rfl ?_
                      first | refine fn_iinc h [_, _, _, _, _, _, _] rfl rfl rfl rfl rfl ?_ | refine fw_iinc h 1 [_, _, _, _, _, _, _] rfl (by decide) rfl rfl rfl rfl ?_
                      refine fw_goto h rfl ?_
                      have ek : fp_cnt (fs_hk (xD w) nt nx pl fr to) (i + 1) = fp_cnt (fs_hk (xD w) nt nx pl fr to) i + 1 := fp_cnt_1 (fs_hk_t hhn c108)
                      rw [en, ek] at ih
                      exact ih w2 hs2
              · skip
                · refine fw_goto h rfl ?_
                  first | refine fn_iinc h [_, _, _, _, _, _, _] rfl rfl rfl rfl rfl ?_ | refine fw_iinc h 1 [_, _, _, _, _, _, _] rfl (by decide) rfl rfl rfl rfl ?_
                  refine fw_goto h rfl ?_
                  have en : fp_cnt (fs_hn (xD w) nt nx pl fr to) (i + 1) = fp_cnt (fs_hn (xD w) nt nx pl fr to) i + 0 := fp_cnt_0 (fs_hn_f5 (Int32.not_lt.mp c80))
                  have ek : fp_cnt (fs_hk (xD w) nt nx pl fr to) (i + 1) = fp_cnt (fs_hk (xD w) nt nx pl fr to) i + 0 := fp_cnt_0 (fs_hk_f (fs_hn_f5 (Int32.not_lt.mp c80)))
                  rw [en, ek] at ih
                  exact ih w2 hs2
          · skip
            · refine fw_goto h rfl ?_
              first | refine fn_iinc h [_, _, _, _, _, _, _] rfl rfl rfl rfl rfl ?_ | refine fw_iinc h 1 [_, _, _, _, _, _, _] rfl (by decide) rfl rfl rfl rfl ?_
              refine fw_goto h rfl ?_
              have en : fp_cnt (fs_hn (xD w) nt nx pl fr to) (i + 1) = fp_cnt (fs_hn (xD w) nt nx pl fr to) i + 0 := fp_cnt_0 (fs_hn_f4 c61)
              have ek : fp_cnt (fs_hk (xD w) nt nx pl fr to) (i + 1) = fp_cnt (fs_hk (xD w) nt nx pl fr to) i + 0 := fp_cnt_0 (fs_hk_f (fs_hn_f4 c61))
              rw [en, ek] at ih
              exact ih w1 hs
        · refine fw_if_eq h rfl (fun _ => ?_) (fun c => absurd c (by decide))
          first | refine fn_iinc h [_, _, _, _, _, _, _] rfl rfl rfl rfl rfl ?_ | refine fw_iinc h 1 [_, _, _, _, _, _, _] rfl (by decide) rfl rfl rfl rfl ?_
          refine fw_goto h rfl ?_
          have en : fp_cnt (fs_hn (xD w) nt nx pl fr to) (i + 1) = fp_cnt (fs_hn (xD w) nt nx pl fr to) i + 0 := fp_cnt_0 (fs_hn_f2 c43)
          have ek : fp_cnt (fs_hk (xD w) nt nx pl fr to) (i + 1) = fp_cnt (fs_hk (xD w) nt nx pl fr to) i + 0 := fp_cnt_0 (fs_hk_f (fs_hn_f2 c43))
          rw [en, ek] at ih
          exact ih w1 hs
theorem fx_odd {a : Nat} (h : a % 2 = 1) : ∀ k, Nat.gcd a (2 ^ k) = 1
  | 0 => Nat.gcd_one_right a
  | k + 1 => by
    rw [Nat.pow_succ]
    have h2 : Nat.gcd a 2 = 1 := by rw [Nat.gcd_comm, Nat.gcd_rec, h, Nat.gcd_one_left]
    exact Nat.Coprime.mul_right (fx_odd h k) h2
theorem fx_gcd {u t : Nat} (ht : t ≤ 12) (h1 : (u ||| 4096).testBit t = true) (h0 : ∀ i, i < t → (u ||| 4096).testBit i = false) : Nat.gcd u 4096 = 2 ^ t := by
  have hz : u % 2 ^ t = 0 := by
    apply Nat.eq_of_testBit_eq
    intro i
    rw [Nat.testBit_mod_two_pow, Nat.zero_testBit]
    by_cases e : i < t
    · have := h0 i e
      rw [Nat.testBit_or, Bool.or_eq_false_iff] at this
      rw [this.1]; simp
    · simp [e]
  obtain ⟨a, ea⟩ : ∃ a, u = 2 ^ t * a := ⟨u / 2 ^ t, by have := Nat.div_add_mod u (2 ^ t); omega⟩
  have e4 : 4096 = 2 ^ t * 2 ^ (12 - t) := by rw [← Nat.pow_add, show t + (12 - t) = 12 by omega]
  rw [ea]
  rw [show Nat.gcd (2 ^ t * a) 4096 = Nat.gcd (2 ^ t * a) (2 ^ t * 2 ^ (12 - t)) by rw [← e4], Nat.gcd_mul_left]
  by_cases e : t = 12
  · subst e
    rw [Nat.sub_self, Nat.pow_zero, Nat.gcd_one_right, Nat.mul_one]
  · have hodd : a % 2 = 1 := by
      rw [Nat.testBit_or, show Nat.testBit 4096 t = false by
        have hd : ∀ t, t < 12 → Nat.testBit 4096 t = false := by decide
        exact hd t (by omega), Bool.or_false, Nat.testBit_eq_decide_div_mod_eq, ea, Nat.mul_div_cancel_left _ (Nat.two_pow_pos t)] at h1
      exact of_decide_eq_true h1
    rw [fx_odd hodd, Nat.mul_one]
theorem fx_or {a b : Nat} (ha : a < 2 ^ 32) (hb : b < 2 ^ 32) : nI a ||| nI b = nI (a ||| b) := by
  apply Int32.toBitVec_inj.mp
  apply BitVec.eq_of_toNat_eq
  rw [Int32.toBitVec_or, BitVec.toNat_or, pk_tn ha, pk_tn hb, pk_tn (Nat.or_lt_two_pow ha hb)]
theorem fx_tz {u : Nat} (hu : u ≤ 4096) : ∃ t, t ≤ 12 ∧ bt (nI u ||| nI 4096) t = true ∧ (∀ i, i < t → bt (nI u ||| nI 4096) i = false) ∧ Nat.gcd u 4096 = 2 ^ t := by
  have e := fx_or (a := u) (b := 4096) (by omega) (by decide)
  have h12 : (u ||| 4096).testBit 12 = true := by rw [Nat.testBit_or, show Nat.testBit 4096 12 = true by decide, Bool.or_true]
  obtain ⟨t, hb, hm⟩ := pk_least (fun k => (u ||| 4096).testBit k = true) ⟨12, h12⟩
  have ht : t ≤ 12 := by
    rcases Nat.lt_or_ge 12 t with z | z
    · exact absurd h12 (hm 12 z)
    · exact z
  have h0 : ∀ i, i < t → (u ||| 4096).testBit i = false := fun i hi => by
    cases hc : (u ||| 4096).testBit i with
    | true => exact absurd hc (hm i hi)
    | false => rfl
  exact ⟨t, ht, by rw [e, fx_bt (by omega)]; exact hb, fun i hi => by rw [e, fx_bt (by omega)]; exact h0 i hi, fx_gcd ht hb h0⟩
theorem fx_shr {a t : Nat} (ha : a < 2 ^ 31) (ht : t ≤ 12) : nI a >>> (nI t &&& 31) = nI (a / 2 ^ t) := pk_shrN ha _ t (s_l t (by omega))
theorem fx_fr {W N : Nat} (hN : N ≤ 12) : W * 2 ^ (12 - N) / Nat.gcd (W * 2 ^ (12 - N)) 4096 = W / Nat.gcd W (2 ^ N) ∧ 4096 / Nat.gcd (W * 2 ^ (12 - N)) 4096 = 2 ^ N / Nat.gcd W (2 ^ N) := by
  have e4 : 4096 = 2 ^ N * 2 ^ (12 - N) := by rw [← Nat.pow_add, show N + (12 - N) = 12 by omega]
  have e : Nat.gcd (W * 2 ^ (12 - N)) 4096 = Nat.gcd W (2 ^ N) * 2 ^ (12 - N) := by rw [show Nat.gcd (W * 2 ^ (12 - N)) 4096 = Nat.gcd (W * 2 ^ (12 - N)) (2 ^ N * 2 ^ (12 - N)) by rw [← e4], Nat.gcd_mul_right]
  rw [e]
  refine ⟨Nat.mul_div_mul_right _ _ (Nat.two_pow_pos _), ?_⟩
  rw [show 4096 / (Nat.gcd W (2 ^ N) * 2 ^ (12 - N)) = 2 ^ N * 2 ^ (12 - N) / (Nat.gcd W (2 ^ N) * 2 ^ (12 - N)) by rw [← e4]]
  exact Nat.mul_div_mul_right _ _ (Nat.two_pow_pos _)
theorem fx_20 {W N : Nat} (hN : N ≤ 12) : 20 * (W * 2 ^ (12 - N)) < 4096 ↔ 20 * W < 2 ^ N := by
  have e4 : 4096 = 2 ^ N * 2 ^ (12 - N) := by rw [← Nat.pow_add, show N + (12 - N) = 12 by omega]
  have hp := Nat.two_pow_pos (12 - N)
  rw [show 20 * (W * 2 ^ (12 - N)) = 20 * W * 2 ^ (12 - N) by rw [Nat.mul_assoc]]
  constructor
  · intro h
    rw [e4] at h
    exact Nat.lt_of_mul_lt_mul_right h
  · intro h
    rw [show (20 * W * 2 ^ (12 - N) < 4096) = (20 * W * 2 ^ (12 - N) < 2 ^ N * 2 ^ (12 - N)) by rw [← e4]]
    exact Nat.mul_lt_mul_of_pos_right h hp
theorem fx_4096 {W N : Nat} (hN : N ≤ 12) (hW : W ≤ 2 ^ N) : W * 2 ^ (12 - N) ≤ 4096 := by
  have e4 : 4096 = 2 ^ N * 2 ^ (12 - N) := by rw [← Nat.pow_add, show N + (12 - N) = 12 by omega]
  rw [e4]
  exact Nat.mul_le_mul_right _ hW
theorem c_X7_tellFraction {l : Launch} {w : fb_Wd} {P : fb_Wd → Prop} {u : Nat} (hu : u ≤ 4096) (hp : P (fb_ul (fb_ul w 0 11 (lN (u / Nat.gcd u 4096))) 0 12 (lN (4096 / Nat.gcd u 4096)))) : fb_Can l tX7_tellFraction [.ref 0, .int (nI u), .int (nI 4096)] w (fb_kV P) := by
  refine fb_intro 1 fk_t_X7_tellFraction (by decide) rfl (fun X hX h => ?_)
  subst hX
  change fb_AW tX7_tellFraction X 0 [some (.ref 0), some (.int (nI u)), some (.int (nI 4096)), none] [] w
  obtain ⟨t, ht, hb, h0, eg⟩ := fx_tz hu
  rw [eg] at hp
  have h1 := Nat.div_le_self u (2 ^ t)
  have h2 := Nat.div_le_self 4096 (2 ^ t)
  refine fw_iload_n h rfl rfl ?_
  refine fw_iload_n h rfl rfl ?_
  refine fw_ior h rfl ?_
  refine fw_s1I h rfl fk_s_J6_numberOfTrailingZeros_0f7a4 fk_l_X7_389 rfl rfl ?_
  refine c_ntz (by omega) hb h0 ?_
  refine fw_istore_n h [_, _, _, _] rfl rfl rfl rfl ?_
  refine fw_aload_n h rfl rfl ?_
  refine fw_iload_n h rfl rfl ?_
  refine fw_iload_n h rfl rfl ?_
  refine fw_ishr h rfl ?_
  rw [fx_shr (by omega) ht]
  refine fw_i2l h rfl ?_
  rw [nI_l (by omega)]
  refine fw_putL h rfl fk_p_X7_76 rfl rfl ?_
  refine fw_aload_n h rfl rfl ?_
  refine fw_iload_n h rfl rfl ?_
  refine fw_iload_n h rfl rfl ?_
  refine fw_ishr h rfl ?_
  rw [fx_shr (by omega) ht]
  refine fw_i2l h rfl ?_
  rw [nI_l (by omega)]
  refine fw_putL h rfl fk_p_X7_80 rfl rfl ?_
  exact fw_vret h rfl rfl ⟨rfl, hp⟩
theorem c_X7_habit {l : Launch} {w : fb_Wd} {P : Int32 → fb_Wd → Prop} {nt nd nx ng : Nat} (hX : XI w nt nd nx ng) (hx : fd_X (xD w) nx) {pl fr to : Int32} (hb : ¬ ((∃ q, q < 8 ∧ pl = nI q) ∧ (1000 ≤ fr ∧ fr ≤ 1900 ∧ fr ≤ to ∧ to ≤ 1900)) → P (-1) w) (h0 : (∃ q, q < 8 ∧ pl = nI q) → (1000 ≤ fr ∧ fr ≤ 1900 ∧ fr ≤ to ∧ to ≤ 1900) → fs_hN (xD w) nt nd nx pl fr to = 0 → ∀ w', xSL [6, 7, 8, 41, 42, 43, 44, 45] w w' → P (-3) (fb_up (fb_up w' 0 9 (nI 4)) 9 4 (w'.1 9 4 + 1))) (h1 : (∃ q, q < 8 ∧ pl = nI q) → (1000 ≤ fr ∧ fr ≤ 1900 ∧ fr ≤ to ∧ to ≤ 1900) → 0 < fs_hN (xD w) nt nd nx pl fr to → 20 * fs_hW (xD w) nt nd nx pl fr to < 2 ^ (fs_hN (xD w) nt nd nx pl fr to) → ∀ w', xSL [6, 7, 8, 41, 42, 43, 44, 45] w w' → P 1 (fb_ul (fb_ul w' 0 11 (lN (fs_hW (xD w) nt nd nx pl fr to / Nat.gcd (fs_hW (xD w) nt nd nx pl fr to) (2 ^ (fs_hN (xD w) nt nd nx pl fr to))))) 0 12 (lN (2 ^ (fs_hN (xD w) nt nd nx pl fr to) / Nat.gcd (fs_hW (xD w) nt nd nx pl fr to) (2 ^ (fs_hN (xD w) nt nd nx pl fr to)))))) (h2 : (∃ q, q < 8 ∧ pl = nI q) → (1000 ≤ fr ∧ fr ≤ 1900 ∧ fr ≤ to ∧ to ≤ 1900) → 0 < fs_hN (xD w) nt nd nx pl fr to → ¬ 20 * fs_hW (xD w) nt nd nx pl fr to < 2 ^ (fs_hN (xD w) nt nd nx pl fr to) → ∀ w', xSL [6, 7, 8, 41, 42, 43, 44, 45] w w' → P 0 (fb_ul (fb_ul w' 0 11 (lN (fs_hW (xD w) nt nd nx pl fr to / Nat.gcd (fs_hW (xD w) nt nd nx pl fr to) (2 ^ (fs_hN (xD w) nt nd nx pl fr to))))) 0 12 (lN (2 ^ (fs_hN (xD w) nt nd nx pl fr to) / Nat.gcd (fs_hW (xD w) nt nd nx pl fr to) (2 ^ (fs_hN (xD w) nt nd nx pl fr to)))))) : fb_Can l tX7_habit [.ref 0, .int pl, .int fr, .int to] w (fb_kI P) := by
  refine fb_intro 1 fk_t_X7_habit (by decide) rfl (fun X hX h => ?_)
  subst hX
  change fb_AW tX7_habit X 0 [some (.ref 0), some (.int pl), some (.int fr), some (.int to), none] [] w
  refine fw_iload_n h rfl rfl ?_
  refine fw_bipush h (nI 8) rfl (by decide) ?_
  refine fw_s2I h rfl fk_s_X7_isBelow fk_l_X7_83 rfl rfl ?_
  refine c_X7_isBelow (by decide) (fun q hq eq => ?_) (fun c3 => ?_)
  · refine fw_if_eq h rfl (fun c => absurd c (by decide)) (fun _ => ?_)
    refine fw_iload_n h rfl rfl ?_
    refine fw_iload_n h rfl rfl ?_
    refine fw_s2I h rfl fk_s_X7_areYears fk_l_X7_296 rfl rfl ?_
    refine c_X7_areYears (fun c11a c11b c11c c11d => ?_) (fun c11 => ?_)
    · refine fw_if_ne h rfl (fun _ => ?_) (fun c => absurd c (by decide))
      refine fw_aload_n h rfl rfl ?_
      refine fw_iload_n h rfl rfl ?_
      refine fw_iload_n h rfl rfl ?_
      refine fw_iload_n h rfl rfl ?_
      refine fw_v3I h rfl fk_v_X7_chanceOf fk_l_X7_299 rfl rfl rfl rfl ?_
      refine c_X7_chanceOf hX hx (fun hz w1 hs => ?_) (fun hpos w1 hs => ?_)
      · refine fw_istore h [_, _, _, _, _] rfl rfl rfl rfl ?_
        refine fw_iload h rfl rfl ?_
        refine fw_bipush h (-9) rfl (by decide) ?_
        refine fw_icmp_ne h rfl (fun c => absurd c (by decide)) (fun _ => ?_)
        refine fw_aload_n h rfl rfl ?_
        refine fw_iconst h (nI 4) rfl (by decide) ?_
        refine fw_v1I h rfl fk_v_X7_found fk_l_X7_87 rfl rfl rfl rfl ?_
        refine c_X7_found (by decide) ?_
        exact fw_iret h rfl rfl ⟨_, rfl, h0 ⟨q, hq, eq⟩ ⟨c11a, c11b, c11c, c11d⟩ hz w1 hs⟩
      · refine fw_istore h [_, _, _, _, _] rfl rfl rfl rfl ?_
        refine fw_iload h rfl rfl ?_
        refine fw_bipush h (-9) rfl (by decide) ?_
        refine fw_icmp_ne h rfl (fun c32 => ?_) (fun c32 => False.elim (absurd c32 (nI_ne9 (by have hn12 : fs_hN (xD w) nt nd nx pl fr to ≤ 12 := Nat.le_trans (fp_cnt_le _ nd) hX.1.2.1.2; have hw : fs_hW (xD w) nt nd nx pl fr to ≤ 2 ^ (fs_hN (xD w) nt nd nx pl fr to) := fs_ws_le _ _; have h4 := fx_4096 hn12 hw; omega))))
        have hn12 : fs_hN (xD w) nt nd nx pl fr to ≤ 12 := Nat.le_trans (fp_cnt_le _ nd) hX.1.2.1.2
        have hw : fs_hW (xD w) nt nd nx pl fr to ≤ 2 ^ (fs_hN (xD w) nt nd nx pl fr to) := fs_ws_le _ _
        have h4 := fx_4096 hn12 hw
        · refine fw_aload_n h rfl rfl ?_
          refine fw_iload h rfl rfl ?_
          refine fw_sipush h (nI 4096) rfl (by decide) ?_
          refine fw_v2V h rfl fk_v_X7_tellFraction fk_l_X7_302 rfl rfl rfl rfl ?_
          refine c_X7_tellFraction (fx_4096 hn12 hw) ?_
          rw [(fx_fr hn12).1, (fx_fr hn12).2]
          refine fw_bipush h (nI 20) rfl (by decide) ?_
          refine fw_iload h rfl rfl ?_
          first | refine fn_imul h rfl ?_ | refine fw_imul h rfl ?_
          refine fw_sipush h (nI 4096) rfl (by decide) ?_
          refine fw_icmp_ge h rfl (fun c58 => ?_) (fun c58 => ?_)
          · refine fw_iconst h (nI 0) rfl (by decide) ?_
            exact fw_iret h rfl rfl ⟨_, rfl, h2 ⟨q, hq, eq⟩ ⟨c11a, c11b, c11c, c11d⟩ hpos (fun y => nI_ge ((fx_20 hn12).mpr y) (by omega) c58) w1 hs⟩
          · refine fw_iconst h (nI 1) rfl (by decide) ?_
            refine fw_goto h rfl ?_
            exact fw_iret h rfl rfl ⟨_, rfl, h1 ⟨q, hq, eq⟩ ⟨c11a, c11b, c11c, c11d⟩ hpos ((fx_20 hn12).mp (Nat.not_le.mp (fun y => c58 (nI_le y (by omega))))) w1 hs⟩
    · refine fw_if_ne h rfl (fun c => absurd c (by decide)) (fun _ => ?_)
      refine fw_iconst h (-1) rfl (by decide) ?_
      exact fw_iret h rfl rfl ⟨_, rfl, hb (fun z => by first | exact c3 z.1 | exact c11 z.2)⟩
  · refine fw_if_eq h rfl (fun _ => ?_) (fun c => absurd c (by decide))
    refine fw_iconst h (-1) rfl (by decide) ?_
    exact fw_iret h rfl rfl ⟨_, rfl, hb (fun z => by first | exact c3 z.1 | exact c11 z.2)⟩
theorem fs_pv_le {D : Nat → Nat → Int32} {nt nd nx p : Nat} {fr to : Int32} (hnd : nd ≤ 12) : fs_pv D nt nd nx fr to p ≤ 4096 := fx_4096 (Nat.le_trans (fp_cnt_le _ nd) hnd) (fs_ws_le _ _)
theorem c_X7_chanceS {l : Launch} {w w1 : fb_Wd} {P : Int32 → fb_Wd → Prop} {pl fr to : Int32} {nt nd nx ng : Nat} (hX : XI w nt nd nx ng) (hx : fd_X (xD w) nx) (hs : xSL [6, 7, 8, 41, 42, 43, 44, 45] w w1) (h0 : fs_hN (xD w) nt nd nx pl fr to = 0 → ∀ w', xSL [6, 7, 8, 41, 42, 43, 44, 45] w w' → P (-9) w') (h1 : 0 < fs_hN (xD w) nt nd nx pl fr to → ∀ w', xSL [6, 7, 8, 41, 42, 43, 44, 45] w w' → P (nI (fs_hW (xD w) nt nd nx pl fr to * 2 ^ (12 - fs_hN (xD w) nt nd nx pl fr to))) w') : fb_Can l tX7_chanceOf [.ref 0, .int pl, .int fr, .int to] w1 (fb_kI P) := by
  have eD : xD w1 = xD w := hs.eD (by decide)
  refine c_X7_chanceOf (hs.keep (by decide) hX) (by rw [eD]; exact hx) (fun hz w2 hs2 => ?_) (fun hpos w2 hs2 => ?_)
  · rw [eD] at hz
    exact h0 hz w2 (hs.tr hs2)
  · rw [eD] at hpos ⊢
    exact h1 hpos w2 (hs.tr hs2)
theorem c_X7_worstPlace {l : Launch} {w : fb_Wd} {P : Int32 → fb_Wd → Prop} {nt nd nx ng : Nat} (hX : XI w nt nd nx ng) (hx : fd_X (xD w) nx) {fr to : Int32} (hb : ¬ (1000 ≤ fr ∧ fr ≤ 1900 ∧ fr ≤ to ∧ to ≤ 1900) → P (-1) w) (hg : 1000 ≤ fr → fr ≤ 1900 → fr ≤ to → to ≤ 1900 → ∀ w', xSL [6, 7, 8, 41, 42, 43, 44, 45] w w' → P (fs_ob (fs_bp (fs_pv (xD w) nt nd nx fr to) (fs_po (xD w) nt nd nx fr to) 8)) w') : fb_Can l tX7_worstPlace [.ref 0, .int fr, .int to] w (fb_kI P) := by
  refine fb_intro 4 fk_t_X7_worstPlace (by decide) rfl (fun X hX h => ?_)
  subst hX
  change fb_AW tX7_worstPlace X 0 [some (.ref 0), some (.int fr), some (.int to), none, none, none, none] [] w
  refine fw_iload_n h rfl rfl ?_
  refine fw_iload_n h rfl rfl ?_
  refine fw_s2I h rfl fk_s_X7_areYears fk_l_X7_296 rfl rfl ?_
  refine c_X7_areYears (fun c2a c2b c2c c2d => ?_) (fun c2 => ?_)
  · refine fw_if_ne h rfl (fun _ => ?_) (fun c => absurd c (by decide))
    refine fw_bipush h (-9) rfl (by decide) ?_
    refine fw_istore_n h [_, _, _, _, _, _, _] rfl rfl rfl rfl ?_
    refine fw_sipush h (nI 4097) rfl (by decide) ?_
    refine fw_istore h [_, _, _, _, _, _, _] rfl rfl rfl rfl ?_
    refine fw_iconst h (nI 0) rfl (by decide) ?_
    refine fw_istore h [_, _, _, _, _, _, _] rfl rfl rfl rfl ?_
    refine (?_ : ∀ w1, xSL [6, 7, 8, 41, 42, 43, 44, 45] w w1 → ∀ b v, ((fs_bp (fs_pv (xD w) nt nd nx fr to) (fs_po (xD w) nt nd nx fr to) 0 = none ∧ b = -9 ∧ v = nI 4097) ∨ (∃ q, fs_bp (fs_pv (xD w) nt nd nx fr to) (fs_po (xD w) nt nd nx fr to) 0 = some q ∧ b = nI q ∧ v = nI (fs_pv (xD w) nt nd nx fr to q))) → fb_AW tX7_worstPlace X 21 [some (.ref 0), some (.int fr), some (.int to), some (.int b), some (.int v), some (.int (nI 0)), none] [] w1) w (xSL.rf _ w) _ _ (Or.inl ⟨rfl, rfl, rfl⟩)
    refine fb_loop (fun i => ∀ w1, xSL [6, 7, 8, 41, 42, 43, 44, 45] w w1 → ∀ b v, ((fs_bp (fs_pv (xD w) nt nd nx fr to) (fs_po (xD w) nt nd nx fr to) i = none ∧ b = -9 ∧ v = nI 4097) ∨ (∃ q, fs_bp (fs_pv (xD w) nt nd nx fr to) (fs_po (xD w) nt nd nx fr to) i = some q ∧ b = nI q ∧ v = nI (fs_pv (xD w) nt nd nx fr to q))) → fb_AW tX7_worstPlace X 21 [some (.ref 0), some (.int fr), some (.int to), some (.int b), some (.int v), some (.int (nI i)), none] [] w1) (8) ?_ (fun i hi ih => ?_) 0 (Nat.zero_le _)
    · intro w1 hs b v hI
      refine fw_iload h rfl rfl ?_
      refine fw_bipush h (nI 8) rfl (by decide) ?_
      refine fw_icmp_ge h rfl (fun c25 => ?_) (fun c25 => False.elim (c25 (by decide)))
      refine fw_iload_n h rfl rfl ?_
      exact fw_iret h rfl rfl ⟨_, rfl, by
    rcases hI with ⟨e, rfl, -⟩ | ⟨q, e, rfl, -⟩
    · have z := hg c2a c2b c2c c2d w1 hs; rw [e] at z; exact z
    · have z := hg c2a c2b c2c c2d w1 hs; rw [e] at z; exact z⟩
    · intro w1 hs b v hI
      refine fw_iload h rfl rfl ?_
      refine fw_bipush h (nI 8) rfl (by decide) ?_
      refine fw_icmp_ge h rfl (fun c25 => False.elim (nI_ge hi (by decide) c25)) (fun c25 => ?_)
      refine fw_aload_n h rfl rfl ?_
      refine fw_iload h rfl rfl ?_
      refine fw_iload_n h rfl rfl ?_
      refine fw_iload_n h rfl rfl ?_
      refine fw_v3I h rfl fk_v_X7_chanceOf fk_l_X7_299 rfl rfl rfl rfl ?_
      refine c_X7_chanceS hX hx hs (fun hz w2 hs2 => ?_) (fun hpos w2 hs2 => ?_)
      · refine fw_istore h [_, _, _, _, _, _, _] rfl rfl rfl rfl ?_
        refine fw_iload h rfl rfl ?_
        refine fw_bipush h (-9) rfl (by decide) ?_
        refine fw_icmp_eq h rfl (fun _ => ?_) (fun c => absurd c (by decide))
        first | refine fn_iinc h [_, _, _, _, _, _, _] rfl rfl rfl rfl rfl ?_ | refine fw_iinc h 1 [_, _, _, _, _, _, _] rfl (by decide) rfl rfl rfl rfl ?_
        refine fw_goto h rfl ?_
        have hno : ¬ (fs_po (xD w) nt nd nx fr to i = true ∧ (∀ b2, fs_bp (fs_pv (xD w) nt nd nx fr to) (fs_po (xD w) nt nd nx fr to) i = some b2 → fs_pv (xD w) nt nd nx fr to i < fs_pv (xD w) nt nd nx fr to b2)) := fun z => by
          have z2 := of_decide_eq_true z.1
          omega
        have e : fs_bp (fs_pv (xD w) nt nd nx fr to) (fs_po (xD w) nt nd nx fr to) (i + 1) = fs_bp (fs_pv (xD w) nt nd nx fr to) (fs_po (xD w) nt nd nx fr to) i := if_neg hno
        rw [← e] at hI
        exact fw_sub (fb_pad_c (Or.inr rfl) (fb_pad_c (Or.inr rfl) (fb_pad_c (Or.inr rfl) (fb_pad_c (Or.inr rfl) (fb_pad_c (Or.inr rfl) (fb_pad_c (Or.inr rfl) (fb_pad_c (Or.inl rfl) (fb_pad_n)))))))) (ih w2 hs2 _ _ hI)
      · refine fw_istore h [_, _, _, _, _, _, _] rfl rfl rfl rfl ?_
        refine fw_iload h rfl rfl ?_
        refine fw_bipush h (-9) rfl (by decide) ?_
        refine fw_icmp_eq h rfl (fun c42 => False.elim (absurd c42 (nI_ne9 (by have := fs_pv_le (D := xD w) (nt := nt) (nx := nx) (p := i) (fr := fr) (to := to) hX.1.2.1.2; exact Nat.lt_of_le_of_lt this (by decide))))) (fun c42 => ?_)
        have hok : fs_po (xD w) nt nd nx fr to i = true := decide_eq_true hpos
        have hple := fun p => fs_pv_le (D := xD w) (nt := nt) (nx := nx) (p := p) (fr := fr) (to := to) hX.1.2.1.2
        have hpi := hple i
        change fb_AW tX7_worstPlace X 45 [some (.ref 0), some (.int fr), some (.int to), some (.int b), some (.int v), some (.int (nI i)), some (.int (nI (fs_pv (xD w) nt nd nx fr to i)))] [] w2
        · refine fw_iload h rfl rfl ?_
          refine fw_iload h rfl rfl ?_
          refine fw_icmp_ge h rfl (fun c49 => ?_) (fun c49 => ?_)
          · have hno : ¬ (fs_po (xD w) nt nd nx fr to i = true ∧ (∀ b2, fs_bp (fs_pv (xD w) nt nd nx fr to) (fs_po (xD w) nt nd nx fr to) i = some b2 → fs_pv (xD w) nt nd nx fr to i < fs_pv (xD w) nt nd nx fr to b2)) := by
              rintro ⟨-, z⟩
              rcases hI with ⟨eI, -, rfl⟩ | ⟨q, eI, -, rfl⟩
              · exact nI_ge (a := fs_pv (xD w) nt nd nx fr to i) (b := 4097) (by omega) (by decide) c49
              · have z2 := z q eI
                have hpq := hple q
                exact nI_ge z2 (by omega) c49
            · first | refine fn_iinc h [_, _, _, _, _, _, _] rfl rfl rfl rfl rfl ?_ | refine fw_iinc h 1 [_, _, _, _, _, _, _] rfl (by decide) rfl rfl rfl rfl ?_
              refine fw_goto h rfl ?_
              have e : fs_bp (fs_pv (xD w) nt nd nx fr to) (fs_po (xD w) nt nd nx fr to) (i + 1) = fs_bp (fs_pv (xD w) nt nd nx fr to) (fs_po (xD w) nt nd nx fr to) i := if_neg hno
              rw [← e] at hI
              exact fw_sub (fb_pad_c (Or.inr rfl) (fb_pad_c (Or.inr rfl) (fb_pad_c (Or.inr rfl) (fb_pad_c (Or.inr rfl) (fb_pad_c (Or.inr rfl) (fb_pad_c (Or.inr rfl) (fb_pad_c (Or.inl rfl) (fb_pad_n)))))))) (ih w2 hs2 _ _ hI)
          · have hlt : ∀ b2, fs_bp (fs_pv (xD w) nt nd nx fr to) (fs_po (xD w) nt nd nx fr to) i = some b2 → fs_pv (xD w) nt nd nx fr to i < fs_pv (xD w) nt nd nx fr to b2 := by
              intro b2 eb
              rcases hI with ⟨eI, -, -⟩ | ⟨q, eI, -, rfl⟩
              · rw [eI] at eb; cases eb
              · have e2 := Option.some.inj (eI.symm.trans eb)
                subst e2
                have hpq := hple q
                exact Nat.not_le.mp (fun y => c49 (nI_le y (by omega)))
            have e : fs_bp (fs_pv (xD w) nt nd nx fr to) (fs_po (xD w) nt nd nx fr to) (i + 1) = some i := if_pos ⟨hok, hlt⟩
            · refine fw_iload h rfl rfl ?_
              refine fw_istore h [_, _, _, _, _, _, _] rfl rfl rfl rfl ?_
              refine fw_iload h rfl rfl ?_
              refine fw_istore_n h [_, _, _, _, _, _, _] rfl rfl rfl rfl ?_
              first | refine fn_iinc h [_, _, _, _, _, _, _] rfl rfl rfl rfl rfl ?_ | refine fw_iinc h 1 [_, _, _, _, _, _, _] rfl (by decide) rfl rfl rfl rfl ?_
              refine fw_goto h rfl ?_
              exact fw_sub (fb_pad_c (Or.inr rfl) (fb_pad_c (Or.inr rfl) (fb_pad_c (Or.inr rfl) (fb_pad_c (Or.inr rfl) (fb_pad_c (Or.inr rfl) (fb_pad_c (Or.inr rfl) (fb_pad_c (Or.inl rfl) (fb_pad_n)))))))) (ih w2 hs2 _ _ (Or.inr ⟨i, e, rfl, rfl⟩))
  · refine fw_if_ne h rfl (fun c => absurd c (by decide)) (fun _ => ?_)
    refine fw_iconst h (-1) rfl (by decide) ?_
    exact fw_iret h rfl rfl ⟨_, rfl, hb c2⟩
