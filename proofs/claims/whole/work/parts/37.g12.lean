theorem fp_fst_in (p : Nat → Bool) : ∀ n, fp_fst p n = -9 ∨ ∃ g, g < n ∧ fp_fst p n = nI g
  | 0 => Or.inl rfl
  | n + 1 => by
    rw [fp_fst]
    rcases fp_fst_in p n with e | ⟨g, hg, e⟩
    · rw [if_pos e]
      by_cases h : p n = true
      · rw [if_pos h]; exact Or.inr ⟨n, by omega, rfl⟩
      · rw [if_neg h]; exact Or.inl rfl
    · by_cases h : fp_fst p n = -9
      · rw [if_pos h]
        by_cases h : p n = true
        · rw [if_pos h]; exact Or.inr ⟨n, by omega, rfl⟩
        · rw [if_neg h]; exact Or.inl rfl
      · rw [if_neg h]; exact Or.inr ⟨g, by omega, e⟩
theorem fx_dt {p q : Prop} [Decidable p] [Decidable q] (hp : p) (hq : ¬ q) : (decide p && !decide q) = true := by rw [decide_eq_true hp, decide_eq_false hq]; rfl
theorem fx_df1 {p : Prop} {b : Bool} [Decidable p] (hp : ¬ p) : (decide p && b) = false := by rw [decide_eq_false hp]; rfl
theorem fx_df2 {q : Prop} {b : Bool} [Decidable q] (hq : q) : (b && !decide q) = false := by rw [decide_eq_true hq]; simp
def fs_g (D : Nat → Nat → Int32) (ng d t : Nat) : Int32 := fp_fst (fp_gr (D 5) (D 6) (D 1) (D 18) (D 19) (D 20) (D 21) d t) ng
theorem fs_g_in (D : Nat → Nat → Int32) (ng d t : Nat) : fs_g D ng d t = -9 ∨ ∃ g, g < ng ∧ fs_g D ng d t = nI g := fp_fst_in _ _
def fs_pr (D : Nat → Nat → Int32) (nt t : Nat) : Int32 := fp_price (D 3) (D 2) nt t
def fs_pt (D : Nat → Nat → Int32) (nt ng d t : Nat) : Int32 := if fs_g D ng d t < 0 then nI 0 else fs_pr D nt t * D 22 (fs_g D ng d t).toNatClampNeg / nI 12
def fs_sh (D : Nat → Nat → Int32) (nt ng : Nat) (lo : Int32) (d t : Nat) : Int32 := if lo = nI 9 then fs_pr D nt t - fs_pt D nt ng d t else if ¬ fs_g D ng d t < 0 ∧ D 17 (fs_g D ng d t).toNatClampNeg = lo then fs_pt D nt ng d t else nI 0
noncomputable def fs_he (D : Nat → Nat → Int32) (nt nx ng : Nat) (lo : Int32) (d : Nat) : Int32 := fp_sum (fun t => if bt (fs_ds D nt nx d) t = true then fs_sh D nt ng lo d t else nI 0) nt
theorem c_X8_taker {l : Launch} {w : fb_Wd} {P : Int32 → fb_Wd → Prop} {nt nd nx ng : Nat} (hN : fd_N (mD w) nt nd nx ng) (hT : fd_T (mD w) nt) (hAA : ∀ d, d < nd → fd_A (mD w) nt d (fd_m (mD w) d)) {d t : Int32} (hb : ¬ ((∃ j, j < nd ∧ d = nI j) ∧ ∃ u, u < nt ∧ t = nI u) → P (-1) w) (hn : ∀ j u, j < nd → d = nI j → u < nt → t = nI u → bt (fs_ds (mD w) nt nx j) u = false → ∀ w', sD w w' → P (-9) w') (hk : ∀ j u, j < nd → d = nI j → u < nt → t = nI u → bt (fs_ds (mD w) nt nx j) u = true → fs_g (mD w) ng j u < 0 → ∀ w', sD w w' → P (nI 9) (fb_up w' 46 2 (fs_pr (mD w) nt u))) (hg : ∀ j u g, j < nd → d = nI j → u < nt → t = nI u → bt (fs_ds (mD w) nt nx j) u = true → g < ng → fs_g (mD w) ng j u = nI g → ∀ w', sD w w' → P (mD w 17 g) (fb_up w' 46 2 (fs_pr (mD w) nt u * mD w 22 g / nI 12))) : fb_Can l tX8_taker [.ref 46, .int d, .int t] w (fb_kI P) := by
  refine fb_intro 1 fk_t_X8_taker (by decide) rfl (fun X hX h => ?_)
  subst hX
  change fb_AW tX8_taker X 0 [some (.ref 46), some (.int d), some (.int t), none] [] w
  refine fw_aload_n h rfl rfl ?_
  refine fw_iload_n h rfl rfl ?_
  refine fw_v1I h rfl fk_v_X8_isDeath fk_l_X8_163 rfl rfl rfl rfl ?_
  refine c_X8_isDeath hN.2.1.1 (by have := hN.2.1.2; omega) (fun j hj e => ?_) (fun c2 => ?_)
  · refine fw_if_eq h rfl (fun c => absurd c (by decide)) (fun _ => ?_)
    refine fw_aload_n h rfl rfl ?_
    refine fw_iload_n h rfl rfl ?_
    refine fw_v1I h rfl fk_v_X8_isThing fk_l_X8_130 rfl rfl rfl rfl ?_
    refine c_X8_isThing hN.1.1 hN.1.2 (fun u hu eu => ?_) (fun c10 => ?_)
    · refine fw_if_ne h rfl (fun _ => ?_) (fun c => absurd c (by decide))
      refine fw_aload_n h rfl rfl ?_
      refine fw_iload_n h rfl rfl ?_
      refine fw_v1V h rfl fk_v_X8_layDueNow fk_l_X8_255 rfl rfl rfl rfl ?_
      subst e; subst eu
      refine c_X8_layDueNow hN hT (hAA j hj) (by have := hN.2.1.2; omega) (fun w2 hs2 q32 q33 q34 => ?_)
      have q33 : w2.1 46 33 = fs_ds (mD w) nt nx j := q33
      have eD2 : mD w2 = mD w := sM.mD hs2 (by decide)
      have hN2 : fd_N (mD w2) nt nd nx ng := by rw [eD2]; exact hN
      have hT2 : fd_T (mD w2) nt := by rw [eD2]; exact hT
      have hnd := hN.2.1.2
      have hnt := hN.1.2
      refine fw_aload_n h rfl rfl ?_
      refine fw_getI h rfl fk_g_X8_249 rfl rfl ?_
      refine fw_iload_n h rfl rfl ?_
      refine fw_s2I h rfl fk_s_X8_has fk_l_X8_185 rfl rfl ?_
      rw [q33]
      refine c_X8_hasN rfl (by omega) (fun c28 => ?_) (fun c28 => ?_)
      · refine fw_if_ne h rfl (fun _ => ?_) (fun c => absurd c (by decide))
        refine fw_aload_n h rfl rfl ?_
        refine fw_iload_n h rfl rfl ?_
        refine fw_iload_n h rfl rfl ?_
        refine fw_v2I h rfl fk_v_X8_grantFor fk_l_X8_287 rfl rfl rfl rfl ?_
        obtain ⟨s2, hs9, es2⟩ := (hT2 u hu).2.1
        refine c_X8_grantFor (by omega) (by omega) es2 hs9 hN2.2.2.2.1 hN2.2.2.2.2 ?_
        change fb_AW _ _ _ _ (.int (fs_g (mD w2) ng j u) :: _) _
        rw [eD2]
        refine fw_istore_n h [_, _, _, _] rfl rfl rfl rfl ?_
        refine fw_iload_n h rfl rfl ?_
        refine fw_if_ge h rfl (fun c45 => ?_) (fun c45 => ?_)
        · skip
          · refine fw_aload_n h rfl rfl ?_
            refine fw_aload_n h rfl rfl ?_
            refine fw_iload_n h rfl rfl ?_
            refine fw_v1I h rfl fk_v_X8_priceOf fk_l_X8_140 rfl rfl rfl rfl ?_
            refine c_X8_priceOf hN2.1.2 hN2.1.1 (fd_wh hT2) (by omega) ?_
            change fb_AW _ _ _ _ (.int (fs_pr (mD w2) nt u) :: _) _
            rw [eD2]
            obtain ⟨g, hg2, eg⟩ := (fs_g_in (mD w) ng j u).resolve_left (fun z => by rw [z] at c45; exact absurd c45 (by decide))
            rw [eg]
            have hng := hN.2.2.2.2
            refine fw_aload_n h rfl rfl ?_
            refine fw_getR _ h rfl fk_g_X8_96 rfl rfl ?_
            refine fw_iload_n h rfl rfl ?_
            refine fn_ialdF (w.1 74) h rfl rfl ((show sM [23, 24, 25, 26, 32, 33, 34] w w2 from hs2).1 74 (by decide)) (by omega) rfl ?_
            first | refine fn_imul h rfl ?_ | refine fw_imul h rfl ?_
            refine fw_bipush h (nI 12) rfl (by decide) ?_
            refine fw_idiv h rfl (by decide) ?_
            refine fw_aload_n h rfl rfl ?_
            refine fw_getR _ h rfl fk_g_X8_81 rfl rfl ?_
            refine fw_iload_n h rfl rfl ?_
            refine fn_ialdF (w.1 69) h rfl rfl ((show sM [23, 24, 25, 26, 32, 33, 34] w w2 from hs2).1 69 (by decide)) (by omega) rfl ?_
            refine fw_v2I h rfl fk_v_X8_ask fk_l_X8_147 rfl rfl rfl rfl ?_
            refine c_X8_ask ?_
            exact fw_iret h rfl rfl ⟨_, rfl, by first | exact hk j u hj rfl hu rfl c28 (Int32.not_le.mp c45) w2 hs2 | exact hg j u g hj rfl hu rfl c28 hg2 eg w2 hs2⟩
        · refine fw_aload_n h rfl rfl ?_
          refine fw_aload_n h rfl rfl ?_
          refine fw_iload_n h rfl rfl ?_
          refine fw_v1I h rfl fk_v_X8_priceOf fk_l_X8_140 rfl rfl rfl rfl ?_
          refine c_X8_priceOf hN2.1.2 hN2.1.1 (fd_wh hT2) (by omega) ?_
          change fb_AW _ _ _ _ (.int (fs_pr (mD w2) nt u) :: _) _
          rw [eD2]
          refine fw_bipush h (nI 9) rfl (by decide) ?_
          refine fw_v2I h rfl fk_v_X8_ask fk_l_X8_147 rfl rfl rfl rfl ?_
          refine c_X8_ask ?_
          refine fw_goto h rfl ?_
          exact fw_iret h rfl rfl ⟨_, rfl, by first | exact hk j u hj rfl hu rfl c28 (Int32.not_le.mp c45) w2 hs2 | exact hg j u g hj rfl hu rfl c28 hg2 eg w2 hs2⟩
      · refine fw_if_ne h rfl (fun c => absurd c (by decide)) (fun _ => ?_)
        refine fw_bipush h (-9) rfl (by decide) ?_
        exact fw_iret h rfl rfl ⟨_, rfl, hn j u hj rfl hu rfl c28 w2 hs2⟩
    · refine fw_if_ne h rfl (fun c => absurd c (by decide)) (fun _ => ?_)
      refine fw_iconst h (-1) rfl (by decide) ?_
      exact fw_iret h rfl rfl ⟨_, rfl, hb (fun z => by first | exact c2 z.1 | exact c10 z.2)⟩
  · refine fw_if_eq h rfl (fun _ => ?_) (fun c => absurd c (by decide))
    refine fw_iconst h (-1) rfl (by decide) ?_
    exact fw_iret h rfl rfl ⟨_, rfl, hb (fun z => by first | exact c2 z.1 | exact c10 z.2)⟩
theorem fs_pt_0 {D : Nat → Nat → Int32} {nt ng d t : Nat} (h : fs_g D ng d t < 0) : fs_pt D nt ng d t = nI 0 := if_pos h
theorem fs_pt_1 {D : Nat → Nat → Int32} {nt ng d t g : Nat} (h : fs_g D ng d t = nI g) (hg : g < 2 ^ 31) : fs_pt D nt ng d t = fs_pr D nt t * D 22 g / nI 12 := by
  unfold fs_pt
  rw [if_neg (by rw [h]; exact nI_pos hg), h, nI_clamp hg]
theorem fs_sh_k {D : Nat → Nat → Int32} {nt ng d t : Nat} {lo : Int32} (h : lo = nI 9) : fs_sh D nt ng lo d t = fs_pr D nt t - fs_pt D nt ng d t := if_pos h
theorem fs_sh_1 {D : Nat → Nat → Int32} {nt ng d t g : Nat} {lo : Int32} (h : ¬ lo = nI 9) (hg : fs_g D ng d t = nI g) (h31 : g < 2 ^ 31) (hl : D 17 g = lo) : fs_sh D nt ng lo d t = fs_pt D nt ng d t := by
  unfold fs_sh
  rw [if_neg h, if_pos ⟨by rw [hg]; exact nI_pos h31, by rw [hg, nI_clamp h31]; exact hl⟩]
theorem fs_sh_0 {D : Nat → Nat → Int32} {nt ng d t : Nat} {lo : Int32} (h : ¬ lo = nI 9) (hg : fs_g D ng d t < 0) : fs_sh D nt ng lo d t = nI 0 := by
  unfold fs_sh
  rw [if_neg h, if_neg (fun q => q.1 hg)]
theorem fs_sh_2 {D : Nat → Nat → Int32} {nt ng d t g : Nat} {lo : Int32} (h : ¬ lo = nI 9) (hg : fs_g D ng d t = nI g) (h31 : g < 2 ^ 31) (hl : ¬ D 17 g = lo) : fs_sh D nt ng lo d t = nI 0 := by
  unfold fs_sh
  rw [if_neg h, if_neg (fun q => hl (by have := q.2; rw [hg, nI_clamp h31] at this; exact this))]
theorem c_X8_takes {l : Launch} {w : fb_Wd} {P : Int32 → fb_Wd → Prop} {nt nd nx ng : Nat} (hN : fd_N (mD w) nt nd nx ng) (hT : fd_T (mD w) nt) (hAA : ∀ d, d < nd → fd_A (mD w) nt d (fd_m (mD w) d)) {lo fr to : Int32} (hb : ¬ (((0 ≤ lo ∧ lo ≤ 7) ∨ lo = nI 9) ∧ (1000 ≤ fr ∧ fr ≤ 1900 ∧ fr ≤ to ∧ to ≤ 1900)) → P (-1) w) (hg : ((0 ≤ lo ∧ lo ≤ 7) ∨ lo = nI 9) → (1000 ≤ fr ∧ fr ≤ 1900 ∧ fr ≤ to ∧ to ≤ 1900) → ∀ w', sD w w' → P (nI (fp_cnt (fun q => decide (fr ≤ mD w 6 q ∧ mD w 6 q ≤ to) && !decide (fs_he (mD w) nt nx ng lo q ≤ 0)) nd)) (fb_up w' 46 2 (fp_sum (fun q => if (fr ≤ mD w 6 q ∧ mD w 6 q ≤ to) then fs_he (mD w) nt nx ng lo q else nI 0) nd))) : fb_Can l tX8_takes [.ref 46, .int lo, .int fr, .int to] w (fb_kI P) := by
  refine fb_intro 7 fk_t_X8_takes (by decide) rfl (fun X hX h => ?_)
  subst hX
  change fb_AW tX8_takes X 0 [some (.ref 46), some (.int lo), some (.int fr), some (.int to), none, none, none, none, none, none, none] [] w
  refine fw_iload_n h rfl rfl ?_
  refine fw_iconst h (nI 0) rfl (by decide) ?_
  refine fw_bipush h (nI 7) rfl (by decide) ?_
  refine fw_s3I h rfl fk_s_X8_in fk_l_X8_109 rfl rfl ?_
  refine c_X8_in (fun c4a c4b => ?_) (fun c4 => ?_)
  · refine fw_if_ne h rfl (fun _ => ?_) (fun c => absurd c (by decide))
    refine fw_iload_n h rfl rfl ?_
    refine fw_iload_n h rfl rfl ?_
    refine fw_s2I h rfl fk_s_X8_areYears fk_l_X8_270 rfl rfl ?_
    refine c_X8_areYears (fun c18a c18b c18c c18d => ?_) (fun c18 => ?_)
    · refine fw_if_ne h rfl (fun _ => ?_) (fun c => absurd c (by decide))
      have hnd := hN.2.1.2
      have hnt := hN.1.2
      have hc : ((0 ≤ lo ∧ lo ≤ 7) ∨ lo = nI 9) := by first | exact Or.inr c13 | exact Or.inl (And.intro c4a c4b)
      refine fw_iconst h (nI 0) rfl (by decide) ?_
      refine fw_istore h [_, _, _, _, _, _, _, _, _, _, _] rfl rfl rfl rfl ?_
      refine fw_iconst h (nI 0) rfl (by decide) ?_
      refine fw_istore h [_, _, _, _, _, _, _, _, _, _, _] rfl rfl rfl rfl ?_
      refine fw_iconst h (nI 0) rfl (by decide) ?_
      refine fw_istore h [_, _, _, _, _, _, _, _, _, _, _] rfl rfl rfl rfl ?_
      refine (?_ : ∀ w1, sD w w1 → fb_AW tX8_takes X 35 [some (.ref 46), some (.int lo), some (.int fr), some (.int to), some (.int (nI (fp_cnt (fun q => decide (fr ≤ mD w 6 q ∧ mD w 6 q ≤ to) && !decide (fs_he (mD w) nt nx ng lo q ≤ 0)) 0))), some (.int (fp_sum (fun q => if (fr ≤ mD w 6 q ∧ mD w 6 q ≤ to) then fs_he (mD w) nt nx ng lo q else nI 0) 0)), some (.int (nI 0)), none, none, none, none] [] w1) w (sM.rf _ w)
      refine fb_loop (fun i => ∀ w1, sD w w1 → fb_AW tX8_takes X 35 [some (.ref 46), some (.int lo), some (.int fr), some (.int to), some (.int (nI (fp_cnt (fun q => decide (fr ≤ mD w 6 q ∧ mD w 6 q ≤ to) && !decide (fs_he (mD w) nt nx ng lo q ≤ 0)) i))), some (.int (fp_sum (fun q => if (fr ≤ mD w 6 q ∧ mD w 6 q ≤ to) then fs_he (mD w) nt nx ng lo q else nI 0) i)), some (.int (nI i)), none, none, none, none] [] w1) (nd) ?_ (fun i hi ih => ?_) 0 (Nat.zero_le _)
      · intro w1 hs
        have eD : mD w1 = mD w := sM.mD hs (by decide)
        have hN1 : fd_N (mD w1) nt nd nx ng := by rw [eD]; exact hN
        have hT1 : fd_T (mD w1) nt := by rw [eD]; exact hT
        refine fw_iload h rfl rfl ?_
        refine fw_aload_n h rfl rfl ?_
        refine fw_getI h rfl fk_g_X8_150 rfl rfl ?_
        refine fw_icmp_ge h rfl (fun c41 => ?_) (fun c41 => False.elim (c41 (by rw [show w1.1 46 14 = nI nd from hN1.2.1.1]; exact Int32.le_refl _)))
        refine fw_aload_n h rfl rfl ?_
        refine fw_iload h rfl rfl ?_
        refine fw_iload h rfl rfl ?_
        refine fw_v2I h rfl fk_v_X8_ask fk_l_X8_147 rfl rfl rfl rfl ?_
        refine c_X8_ask ?_
        exact fw_iret h rfl rfl ⟨_, rfl, hg hc (And.intro c18a (And.intro c18b (And.intro c18c c18d))) w1 hs⟩
      · intro w1 hs
        have eD : mD w1 = mD w := sM.mD hs (by decide)
        have hN1 : fd_N (mD w1) nt nd nx ng := by rw [eD]; exact hN
        have hT1 : fd_T (mD w1) nt := by rw [eD]; exact hT
        refine fw_iload h rfl rfl ?_
        refine fw_aload_n h rfl rfl ?_
        refine fw_getIv (nI nd) h rfl fk_g_X8_150 rfl rfl (hN1.2.1.1) ?_
        refine fw_icmp_ge h rfl (fun c41 => False.elim (nI_ge hi (by omega) c41)) (fun c41 => ?_)
        refine fw_aload_n h rfl rfl ?_
        refine fw_getR _ h rfl fk_g_X8_44 rfl rfl ?_
        refine fw_iload h rfl rfl ?_
        refine fn_ialdF (w.1 57) h rfl rfl ((show sM [23, 24, 25, 26, 32, 33, 34] w w1 from hs).1 57 (by decide)) (by omega) rfl ?_
        refine fw_iload_n h rfl rfl ?_
        refine fw_iload_n h rfl rfl ?_
        refine fw_s3I h rfl fk_s_X8_in fk_l_X8_109 rfl rfl ?_
        refine c_X8_in (fun c53a c53b => ?_) (fun c53 => ?_)
        · refine fw_if_eq h rfl (fun c => absurd c (by decide)) (fun _ => ?_)
          refine fw_aload_n h rfl rfl ?_
          refine fw_iload h rfl rfl ?_
          refine fw_v1V h rfl fk_v_X8_layDueNow fk_l_X8_255 rfl rfl rfl rfl ?_
          have hA1 : fd_A (mD w1) nt i (fd_m (mD w) i) := by rw [eD]; exact hAA i hi
          refine c_X8_layDueNow hN1 hT1 hA1 (by omega) (fun w2 hs2 q32 q33 q34 => ?_)
          rw [eD] at q32 q33 q34
          have q33 : w2.1 46 33 = fs_ds (mD w) nt nx i := q33
          have hs2 : sM [23, 24, 25, 26, 32, 33, 34] w w2 := sM.tr hs hs2
          have eD2 : mD w2 = mD w := sM.mD hs2 (by decide)
          have hN2 : fd_N (mD w2) nt nd nx ng := by rw [eD2]; exact hN
          have hT2 : fd_T (mD w2) nt := by rw [eD2]; exact hT
          refine fw_iconst h (nI 0) rfl (by decide) ?_
          refine fw_istore h [_, _, _, _, _, _, _, _, _, _, _] rfl rfl rfl rfl ?_
          refine fw_iconst h (nI 0) rfl (by decide) ?_
          refine fw_istore h [_, _, _, _, _, _, _, _, _, _, _] rfl rfl rfl rfl ?_
          refine fb_loop (fun j => fb_AW tX8_takes X 71 [some (.ref 46), some (.int lo), some (.int fr), some (.int to), some (.int (nI (fp_cnt (fun q => decide (fr ≤ mD w 6 q ∧ mD w 6 q ≤ to) && !decide (fs_he (mD w) nt nx ng lo q ≤ 0)) i))), some (.int (fp_sum (fun q => if (fr ≤ mD w 6 q ∧ mD w 6 q ≤ to) then fs_he (mD w) nt nx ng lo q else nI 0) i)), some (.int (nI i)), some (.int (fp_sum (fun t => if bt (fs_ds (mD w) nt nx i) t = true then fs_sh (mD w) nt ng lo i t else nI 0) j)), some (.int (nI j)), none, none] [] w2) nt ?_ (fun j hj ihj => ?_) 0 (Nat.zero_le _)
          · change fb_AW tX8_takes X 71 [some (.ref 46), some (.int lo), some (.int fr), some (.int to), some (.int (nI (fp_cnt (fun q => decide (fr ≤ mD w 6 q ∧ mD w 6 q ≤ to) && !decide (fs_he (mD w) nt nx ng lo q ≤ 0)) i))), some (.int (fp_sum (fun q => if (fr ≤ mD w 6 q ∧ mD w 6 q ≤ to) then fs_he (mD w) nt nx ng lo q else nI 0) i)), some (.int (nI i)), some (.int (fs_he (mD w) nt nx ng lo i)), some (.int (nI nt)), none, none] [] w2
            refine fw_iload h rfl rfl ?_
            refine fw_aload_n h rfl rfl ?_
            refine fw_getIv (nI nt) h rfl fk_g_X8_124 rfl rfl (hN2.1.1) ?_
            refine fw_icmp_ge h rfl (fun c77 => ?_) (fun c77 => False.elim (c77 (Int32.le_refl _)))
            refine fw_iload h rfl rfl ?_
            refine fw_iload h rfl rfl ?_
            refine fw_if_le h rfl (fun c185 => ?_) (fun c185 => ?_)
            · skip
              · refine fw_iconst h (nI 0) rfl (by decide) ?_
                first | refine fn_iadd h rfl ?_ | refine fw_iadd h rfl ?_
                refine fw_istore h [_, _, _, _, _, _, _, _, _, _, _] rfl rfl rfl rfl ?_
                refine fw_iload h rfl rfl ?_
                refine fw_iload h rfl rfl ?_
                first | refine fn_iadd h rfl ?_ | refine fw_iadd h rfl ?_
                refine fw_istore h [_, _, _, _, _, _, _, _, _, _, _] rfl rfl rfl rfl ?_
                first | refine fn_iinc h [_, _, _, _, _, _, _, _, _, _, _] rfl rfl rfl rfl rfl ?_ | refine fw_iinc h 1 [_, _, _, _, _, _, _, _, _, _, _] rfl (by decide) rfl rfl rfl rfl ?_
                refine fw_goto h rfl ?_
                have en : fp_cnt (fun q => decide (fr ≤ mD w 6 q ∧ mD w 6 q ≤ to) && !decide (fs_he (mD w) nt nx ng lo q ≤ 0)) (i + 1) = fp_cnt (fun q => decide (fr ≤ mD w 6 q ∧ mD w 6 q ≤ to) && !decide (fs_he (mD w) nt nx ng lo q ≤ 0)) i + 0 := fp_cnt_0 (fx_df2 c185)
                have es : fp_sum (fun q => if (fr ≤ mD w 6 q ∧ mD w 6 q ≤ to) then fs_he (mD w) nt nx ng lo q else nI 0) (i + 1) = fp_sum (fun q => if (fr ≤ mD w 6 q ∧ mD w 6 q ≤ to) then fs_he (mD w) nt nx ng lo q else nI 0) i + fs_he (mD w) nt nx ng lo i := fp_sum_s (if_pos (And.intro c53a c53b))
                rw [en, es] at ih
                exact fw_sub (fb_pad_c (Or.inr rfl) (fb_pad_c (Or.inr rfl) (fb_pad_c (Or.inr rfl) (fb_pad_c (Or.inr rfl) (fb_pad_c (Or.inr rfl) (fb_pad_c (Or.inr rfl) (fb_pad_c (Or.inr rfl) (fb_pad_c (Or.inl rfl) (fb_pad_c (Or.inl rfl) (fb_pad_c (Or.inr rfl) (fb_pad_c (Or.inr rfl) (fb_pad_n)))))))))))) (ih w2 hs2)
            · skip
              · refine fw_iconst h (nI 1) rfl (by decide) ?_
                refine fw_goto h rfl ?_
                first | refine fn_iadd h rfl ?_ | refine fw_iadd h rfl ?_
                refine fw_istore h [_, _, _, _, _, _, _, _, _, _, _] rfl rfl rfl rfl ?_
                refine fw_iload h rfl rfl ?_
                refine fw_iload h rfl rfl ?_
                first | refine fn_iadd h rfl ?_ | refine fw_iadd h rfl ?_
                refine fw_istore h [_, _, _, _, _, _, _, _, _, _, _] rfl rfl rfl rfl ?_
                first | refine fn_iinc h [_, _, _, _, _, _, _, _, _, _, _] rfl rfl rfl rfl rfl ?_ | refine fw_iinc h 1 [_, _, _, _, _, _, _, _, _, _, _] rfl (by decide) rfl rfl rfl rfl ?_
                refine fw_goto h rfl ?_
                have en : fp_cnt (fun q => decide (fr ≤ mD w 6 q ∧ mD w 6 q ≤ to) && !decide (fs_he (mD w) nt nx ng lo q ≤ 0)) (i + 1) = fp_cnt (fun q => decide (fr ≤ mD w 6 q ∧ mD w 6 q ≤ to) && !decide (fs_he (mD w) nt nx ng lo q ≤ 0)) i + 1 := fp_cnt_1 (fx_dt (And.intro c53a c53b) c185)
                have es : fp_sum (fun q => if (fr ≤ mD w 6 q ∧ mD w 6 q ≤ to) then fs_he (mD w) nt nx ng lo q else nI 0) (i + 1) = fp_sum (fun q => if (fr ≤ mD w 6 q ∧ mD w 6 q ≤ to) then fs_he (mD w) nt nx ng lo q else nI 0) i + fs_he (mD w) nt nx ng lo i := fp_sum_s (if_pos (And.intro c53a c53b))
                rw [en, es] at ih
                exact fw_sub (fb_pad_c (Or.inr rfl) (fb_pad_c (Or.inr rfl) (fb_pad_c (Or.inr rfl) (fb_pad_c (Or.inr rfl) (fb_pad_c (Or.inr rfl) (fb_pad_c (Or.inr rfl) (fb_pad_c (Or.inr rfl) (fb_pad_c (Or.inl rfl) (fb_pad_c (Or.inl rfl) (fb_pad_c (Or.inr rfl) (fb_pad_c (Or.inr rfl) (fb_pad_n)))))))))))) (ih w2 hs2)
          · refine fw_iload h rfl rfl ?_
            refine fw_aload_n h rfl rfl ?_
            refine fw_getIv (nI nt) h rfl fk_g_X8_124 rfl rfl (hN2.1.1) ?_
            refine fw_icmp_ge h rfl (fun c77 => False.elim (nI_ge hj (by omega) c77)) (fun c77 => ?_)
            refine fw_aload_n h rfl rfl ?_
            refine fw_getIv (fs_ds (mD w) nt nx i) h rfl fk_g_X8_249 rfl rfl (q33) ?_
            refine fw_iload h rfl rfl ?_
            refine fw_s2I h rfl fk_s_X8_has fk_l_X8_185 rfl rfl ?_
            refine c_X8_hasN rfl (by omega) (fun c86 => ?_) (fun c86 => ?_)
            · refine fw_if_eq h rfl (fun c => absurd c (by decide)) (fun _ => ?_)
              refine fw_aload_n h rfl rfl ?_
              refine fw_iload h rfl rfl ?_
              refine fw_iload h rfl rfl ?_
              refine fw_v2I h rfl fk_v_X8_grantFor fk_l_X8_287 rfl rfl rfl rfl ?_
              obtain ⟨s2, hs9, es2⟩ := (hT2 j hj).2.1
              refine c_X8_grantFor (by omega) (by omega) es2 hs9 hN2.2.2.2.1 hN2.2.2.2.2 ?_
              change fb_AW _ _ _ _ (.int (fs_g (mD w2) ng i j) :: _) _
              rw [eD2]
              have hgi : fs_g (mD w) ng i j = -9 ∨ ∃ g, g < ng ∧ fs_g (mD w) ng i j = nI g := fp_fst_in _ _
              refine fw_istore h [_, _, _, _, _, _, _, _, _, _, _] rfl rfl rfl rfl ?_
              refine fw_iload h rfl rfl ?_
              refine fw_if_ge h rfl (fun c104 => ?_) (fun c104 => ?_)
              · obtain ⟨g, hg2, eg⟩ := hgi.resolve_left (fun z => by rw [z] at c104; exact absurd c104 (by decide))
                have hng := hN.2.2.2.2
                rw [eg]
                · refine fw_aload_n h rfl rfl ?_
                  refine fw_iload h rfl rfl ?_
                  refine fw_v1I h rfl fk_v_X8_priceOf fk_l_X8_140 rfl rfl rfl rfl ?_
                  refine c_X8_priceOf hN2.1.2 hN2.1.1 (fd_wh hT2) (by omega) ?_
                  change fb_AW _ _ _ _ (.int (fs_pr (mD w2) nt j) :: _) _
                  rw [eD2]
                  refine fw_aload_n h rfl rfl ?_
                  refine fw_getR _ h rfl fk_g_X8_96 rfl rfl ?_
                  refine fw_iload h rfl rfl ?_
                  refine fn_ialdF (w.1 74) h rfl rfl ((show sM [23, 24, 25, 26, 32, 33, 34] w w2 from hs2).1 74 (by decide)) (by omega) rfl ?_
                  first | refine fn_imul h rfl ?_ | refine fw_imul h rfl ?_
                  refine fw_bipush h (nI 12) rfl (by decide) ?_
                  refine fw_idiv h rfl (by decide) ?_
                  refine fw_istore h [_, _, _, _, _, _, _, _, _, _, _] rfl rfl rfl rfl ?_
                  refine fw_iload h rfl rfl ?_
                  refine fw_iload_n h rfl rfl ?_
                  refine fw_bipush h (nI 9) rfl (by decide) ?_
                  refine fw_icmp_ne h rfl (fun c135 => ?_) (fun c135 => ?_)
                  · refine fw_iload h rfl rfl ?_
                    refine fw_if_lt h rfl (fun c152 => False.elim (absurd c152 (nI_pos (by omega)))) (fun c152 => ?_)
                    refine fw_aload_n h rfl rfl ?_
                    refine fw_getR _ h rfl fk_g_X8_81 rfl rfl ?_
                    refine fw_iload h rfl rfl ?_
                    refine fn_ialdF (w.1 69) h rfl rfl ((show sM [23, 24, 25, 26, 32, 33, 34] w w2 from hs2).1 69 (by decide)) (by omega) rfl ?_
                    refine fw_iload_n h rfl rfl ?_
                    refine fw_icmp_ne h rfl (fun c163 => ?_) (fun c163 => ?_)
                    · skip
                      · refine fw_iconst h (nI 0) rfl (by decide) ?_
                        first | refine fn_iadd h rfl ?_ | refine fw_iadd h rfl ?_
                        refine fw_istore h [_, _, _, _, _, _, _, _, _, _, _] rfl rfl rfl rfl ?_
                        first | refine fn_iinc h [_, _, _, _, _, _, _, _, _, _, _] rfl rfl rfl rfl rfl ?_ | refine fw_iinc h 1 [_, _, _, _, _, _, _, _, _, _, _] rfl (by decide) rfl rfl rfl rfl ?_
                        refine fw_goto h rfl ?_
                        have es : fp_sum (fun t => if bt (fs_ds (mD w) nt nx i) t = true then fs_sh (mD w) nt ng lo i t else nI 0) (j + 1) = fp_sum (fun t => if bt (fs_ds (mD w) nt nx i) t = true then fs_sh (mD w) nt ng lo i t else nI 0) j + nI 0 := fp_sum_s (by rw [if_pos c86]; exact fs_sh_2 c135 eg (by omega) c163)
                        rw [es] at ihj
                        exact fw_sub (fb_pad_c (Or.inr rfl) (fb_pad_c (Or.inr rfl) (fb_pad_c (Or.inr rfl) (fb_pad_c (Or.inr rfl) (fb_pad_c (Or.inr rfl) (fb_pad_c (Or.inr rfl) (fb_pad_c (Or.inr rfl) (fb_pad_c (Or.inr rfl) (fb_pad_c (Or.inr rfl) (fb_pad_c (Or.inl rfl) (fb_pad_c (Or.inl rfl) (fb_pad_n)))))))))))) ihj
                    · skip
                      · refine fw_iload h rfl rfl ?_
                        refine fw_goto h rfl ?_
                        first | refine fn_iadd h rfl ?_ | refine fw_iadd h rfl ?_
                        refine fw_istore h [_, _, _, _, _, _, _, _, _, _, _] rfl rfl rfl rfl ?_
                        first | refine fn_iinc h [_, _, _, _, _, _, _, _, _, _, _] rfl rfl rfl rfl rfl ?_ | refine fw_iinc h 1 [_, _, _, _, _, _, _, _, _, _, _] rfl (by decide) rfl rfl rfl rfl ?_
                        refine fw_goto h rfl ?_
                        have es : fp_sum (fun t => if bt (fs_ds (mD w) nt nx i) t = true then fs_sh (mD w) nt ng lo i t else nI 0) (j + 1) = fp_sum (fun t => if bt (fs_ds (mD w) nt nx i) t = true then fs_sh (mD w) nt ng lo i t else nI 0) j + fs_pr (mD w) nt j * mD w 22 g / nI 12 := fp_sum_s (by rw [if_pos c86]; exact by rw [fs_sh_1 c135 eg (by omega) c163, fs_pt_1 eg (by omega)])
                        rw [es] at ihj
                        exact fw_sub (fb_pad_c (Or.inr rfl) (fb_pad_c (Or.inr rfl) (fb_pad_c (Or.inr rfl) (fb_pad_c (Or.inr rfl) (fb_pad_c (Or.inr rfl) (fb_pad_c (Or.inr rfl) (fb_pad_c (Or.inr rfl) (fb_pad_c (Or.inr rfl) (fb_pad_c (Or.inr rfl) (fb_pad_c (Or.inl rfl) (fb_pad_c (Or.inl rfl) (fb_pad_n)))))))))))) ihj
                  · skip
                    · refine fw_aload_n h rfl rfl ?_
                      refine fw_iload h rfl rfl ?_
                      refine fw_v1I h rfl fk_v_X8_priceOf fk_l_X8_140 rfl rfl rfl rfl ?_
                      refine c_X8_priceOf hN2.1.2 hN2.1.1 (fd_wh hT2) (by omega) ?_
                      change fb_AW _ _ _ _ (.int (fs_pr (mD w2) nt j) :: _) _
                      rw [eD2]
                      refine fw_iload h rfl rfl ?_
                      refine fw_isub h rfl ?_
                      refine fw_goto h rfl ?_
                      first | refine fn_iadd h rfl ?_ | refine fw_iadd h rfl ?_
                      refine fw_istore h [_, _, _, _, _, _, _, _, _, _, _] rfl rfl rfl rfl ?_
                      first | refine fn_iinc h [_, _, _, _, _, _, _, _, _, _, _] rfl rfl rfl rfl rfl ?_ | refine fw_iinc h 1 [_, _, _, _, _, _, _, _, _, _, _] rfl (by decide) rfl rfl rfl rfl ?_
                      refine fw_goto h rfl ?_
                      have es : fp_sum (fun t => if bt (fs_ds (mD w) nt nx i) t = true then fs_sh (mD w) nt ng lo i t else nI 0) (j + 1) = fp_sum (fun t => if bt (fs_ds (mD w) nt nx i) t = true then fs_sh (mD w) nt ng lo i t else nI 0) j + (fs_pr (mD w) nt j - fs_pr (mD w) nt j * mD w 22 g / nI 12) := fp_sum_s (by rw [if_pos c86]; exact by rw [fs_sh_k c135, fs_pt_1 eg (by omega)])
                      rw [es] at ihj
                      exact fw_sub (fb_pad_c (Or.inr rfl) (fb_pad_c (Or.inr rfl) (fb_pad_c (Or.inr rfl) (fb_pad_c (Or.inr rfl) (fb_pad_c (Or.inr rfl) (fb_pad_c (Or.inr rfl) (fb_pad_c (Or.inr rfl) (fb_pad_c (Or.inr rfl) (fb_pad_c (Or.inr rfl) (fb_pad_c (Or.inl rfl) (fb_pad_c (Or.inl rfl) (fb_pad_n)))))))))))) ihj
              · skip
                · have c104n : fs_g (mD w) ng i j < 0 := Int32.not_le.mp c104
                  refine fw_iconst h (nI 0) rfl (by decide) ?_
                  refine fw_goto h rfl ?_
                  refine fw_istore h [_, _, _, _, _, _, _, _, _, _, _] rfl rfl rfl rfl ?_
                  refine fw_iload h rfl rfl ?_
                  refine fw_iload_n h rfl rfl ?_
                  refine fw_bipush h (nI 9) rfl (by decide) ?_
                  refine fw_icmp_ne h rfl (fun c135 => ?_) (fun c135 => ?_)
                  · skip
                    · refine fw_iload h rfl rfl ?_
                      refine fw_if_lt h rfl (fun c152 => ?_) (fun c152 => False.elim (c152 c104n))
                      refine fw_iconst h (nI 0) rfl (by decide) ?_
                      first | refine fn_iadd h rfl ?_ | refine fw_iadd h rfl ?_
                      refine fw_istore h [_, _, _, _, _, _, _, _, _, _, _] rfl rfl rfl rfl ?_
                      first | refine fn_iinc h [_, _, _, _, _, _, _, _, _, _, _] rfl rfl rfl rfl rfl ?_ | refine fw_iinc h 1 [_, _, _, _, _, _, _, _, _, _, _] rfl (by decide) rfl rfl rfl rfl ?_
                      refine fw_goto h rfl ?_
                      have es : fp_sum (fun t => if bt (fs_ds (mD w) nt nx i) t = true then fs_sh (mD w) nt ng lo i t else nI 0) (j + 1) = fp_sum (fun t => if bt (fs_ds (mD w) nt nx i) t = true then fs_sh (mD w) nt ng lo i t else nI 0) j + nI 0 := fp_sum_s (by rw [if_pos c86]; exact fs_sh_0 c135 c104n)
                      rw [es] at ihj
                      exact fw_sub (fb_pad_c (Or.inr rfl) (fb_pad_c (Or.inr rfl) (fb_pad_c (Or.inr rfl) (fb_pad_c (Or.inr rfl) (fb_pad_c (Or.inr rfl) (fb_pad_c (Or.inr rfl) (fb_pad_c (Or.inr rfl) (fb_pad_c (Or.inr rfl) (fb_pad_c (Or.inr rfl) (fb_pad_c (Or.inl rfl) (fb_pad_c (Or.inl rfl) (fb_pad_n)))))))))))) ihj
                  · skip
                    · refine fw_aload_n h rfl rfl ?_
                      refine fw_iload h rfl rfl ?_
                      refine fw_v1I h rfl fk_v_X8_priceOf fk_l_X8_140 rfl rfl rfl rfl ?_
                      refine c_X8_priceOf hN2.1.2 hN2.1.1 (fd_wh hT2) (by omega) ?_
                      change fb_AW _ _ _ _ (.int (fs_pr (mD w2) nt j) :: _) _
                      rw [eD2]
                      refine fw_iload h rfl rfl ?_
                      refine fw_isub h rfl ?_
                      refine fw_goto h rfl ?_
                      first | refine fn_iadd h rfl ?_ | refine fw_iadd h rfl ?_
                      refine fw_istore h [_, _, _, _, _, _, _, _, _, _, _] rfl rfl rfl rfl ?_
                      first | refine fn_iinc h [_, _, _, _, _, _, _, _, _, _, _] rfl rfl rfl rfl rfl ?_ | refine fw_iinc h 1 [_, _, _, _, _, _, _, _, _, _, _] rfl (by decide) rfl rfl rfl rfl ?_
                      refine fw_goto h rfl ?_
                      have es : fp_sum (fun t => if bt (fs_ds (mD w) nt nx i) t = true then fs_sh (mD w) nt ng lo i t else nI 0) (j + 1) = fp_sum (fun t => if bt (fs_ds (mD w) nt nx i) t = true then fs_sh (mD w) nt ng lo i t else nI 0) j + (fs_pr (mD w) nt j - nI 0) := fp_sum_s (by rw [if_pos c86]; exact by rw [fs_sh_k c135, fs_pt_0 c104n])
                      rw [es] at ihj
                      exact fw_sub (fb_pad_c (Or.inr rfl) (fb_pad_c (Or.inr rfl) (fb_pad_c (Or.inr rfl) (fb_pad_c (Or.inr rfl) (fb_pad_c (Or.inr rfl) (fb_pad_c (Or.inr rfl) (fb_pad_c (Or.inr rfl) (fb_pad_c (Or.inr rfl) (fb_pad_c (Or.inr rfl) (fb_pad_c (Or.inl rfl) (fb_pad_c (Or.inl rfl) (fb_pad_n)))))))))))) ihj
            · refine fw_if_eq h rfl (fun _ => ?_) (fun c => absurd c (by decide))
              first | refine fn_iinc h [_, _, _, _, _, _, _, _, _, _, _] rfl rfl rfl rfl rfl ?_ | refine fw_iinc h 1 [_, _, _, _, _, _, _, _, _, _, _] rfl (by decide) rfl rfl rfl rfl ?_
              refine fw_goto h rfl ?_
              have es : fp_sum (fun t => if bt (fs_ds (mD w) nt nx i) t = true then fs_sh (mD w) nt ng lo i t else nI 0) (j + 1) = fp_sum (fun t => if bt (fs_ds (mD w) nt nx i) t = true then fs_sh (mD w) nt ng lo i t else nI 0) j := fp_sum_z (if_neg (fun q => by rw [c86] at q; cases q))
              rw [es] at ihj
              exact ihj
        · refine fw_if_eq h rfl (fun _ => ?_) (fun c => absurd c (by decide))
          first | refine fn_iinc h [_, _, _, _, _, _, _, _, _, _, _] rfl rfl rfl rfl rfl ?_ | refine fw_iinc h 1 [_, _, _, _, _, _, _, _, _, _, _] rfl (by decide) rfl rfl rfl rfl ?_
          refine fw_goto h rfl ?_
          have en : fp_cnt (fun q => decide (fr ≤ mD w 6 q ∧ mD w 6 q ≤ to) && !decide (fs_he (mD w) nt nx ng lo q ≤ 0)) (i + 1) = fp_cnt (fun q => decide (fr ≤ mD w 6 q ∧ mD w 6 q ≤ to) && !decide (fs_he (mD w) nt nx ng lo q ≤ 0)) i + 0 := fp_cnt_0 (fx_df1 c53)
          have es : fp_sum (fun q => if (fr ≤ mD w 6 q ∧ mD w 6 q ≤ to) then fs_he (mD w) nt nx ng lo q else nI 0) (i + 1) = fp_sum (fun q => if (fr ≤ mD w 6 q ∧ mD w 6 q ≤ to) then fs_he (mD w) nt nx ng lo q else nI 0) i := fp_sum_z (if_neg c53)
          rw [en, es] at ih
          exact ih w1 hs
    · refine fw_if_ne h rfl (fun c => absurd c (by decide)) (fun _ => ?_)
      refine fw_iconst h (-1) rfl (by decide) ?_
      exact fw_iret h rfl rfl ⟨_, rfl, hb (fun q => by first | exact c18 q.2 | exact q.1.elim c4 c13)⟩
  · refine fw_if_ne h rfl (fun c => absurd c (by decide)) (fun _ => ?_)
    refine fw_iload_n h rfl rfl ?_
    refine fw_bipush h (nI 9) rfl (by decide) ?_
    refine fw_icmp_ne h rfl (fun c13 => ?_) (fun c13 => ?_)
    · refine fw_iconst h (-1) rfl (by decide) ?_
      exact fw_iret h rfl rfl ⟨_, rfl, hb (fun q => by first | exact c18 q.2 | exact q.1.elim c4 c13)⟩
    · refine fw_iload_n h rfl rfl ?_
      refine fw_iload_n h rfl rfl ?_
      refine fw_s2I h rfl fk_s_X8_areYears fk_l_X8_270 rfl rfl ?_
      refine c_X8_areYears (fun c18a c18b c18c c18d => ?_) (fun c18 => ?_)
      · refine fw_if_ne h rfl (fun _ => ?_) (fun c => absurd c (by decide))
        have hnd := hN.2.1.2
        have hnt := hN.1.2
        have hc : ((0 ≤ lo ∧ lo ≤ 7) ∨ lo = nI 9) := by first | exact Or.inr c13 | exact Or.inl (And.intro c4a c4b)
        refine fw_iconst h (nI 0) rfl (by decide) ?_
        refine fw_istore h [_, _, _, _, _, _, _, _, _, _, _] rfl rfl rfl rfl ?_
        refine fw_iconst h (nI 0) rfl (by decide) ?_
        refine fw_istore h [_, _, _, _, _, _, _, _, _, _, _] rfl rfl rfl rfl ?_
        refine fw_iconst h (nI 0) rfl (by decide) ?_
        refine fw_istore h [_, _, _, _, _, _, _, _, _, _, _] rfl rfl rfl rfl ?_
        refine (?_ : ∀ w1, sD w w1 → fb_AW tX8_takes X 35 [some (.ref 46), some (.int lo), some (.int fr), some (.int to), some (.int (nI (fp_cnt (fun q => decide (fr ≤ mD w 6 q ∧ mD w 6 q ≤ to) && !decide (fs_he (mD w) nt nx ng lo q ≤ 0)) 0))), some (.int (fp_sum (fun q => if (fr ≤ mD w 6 q ∧ mD w 6 q ≤ to) then fs_he (mD w) nt nx ng lo q else nI 0) 0)), some (.int (nI 0)), none, none, none, none] [] w1) w (sM.rf _ w)
        refine fb_loop (fun i => ∀ w1, sD w w1 → fb_AW tX8_takes X 35 [some (.ref 46), some (.int lo), some (.int fr), some (.int to), some (.int (nI (fp_cnt (fun q => decide (fr ≤ mD w 6 q ∧ mD w 6 q ≤ to) && !decide (fs_he (mD w) nt nx ng lo q ≤ 0)) i))), some (.int (fp_sum (fun q => if (fr ≤ mD w 6 q ∧ mD w 6 q ≤ to) then fs_he (mD w) nt nx ng lo q else nI 0) i)), some (.int (nI i)), none, none, none, none] [] w1) (nd) ?_ (fun i hi ih => ?_) 0 (Nat.zero_le _)
        · intro w1 hs
          have eD : mD w1 = mD w := sM.mD hs (by decide)
          have hN1 : fd_N (mD w1) nt nd nx ng := by rw [eD]; exact hN
          have hT1 : fd_T (mD w1) nt := by rw [eD]; exact hT
          refine fw_iload h rfl rfl ?_
          refine fw_aload_n h rfl rfl ?_
          refine fw_getI h rfl fk_g_X8_150 rfl rfl ?_
          refine fw_icmp_ge h rfl (fun c41 => ?_) (fun c41 => False.elim (c41 (by rw [show w1.1 46 14 = nI nd from hN1.2.1.1]; exact Int32.le_refl _)))
          refine fw_aload_n h rfl rfl ?_
          refine fw_iload h rfl rfl ?_
          refine fw_iload h rfl rfl ?_
          refine fw_v2I h rfl fk_v_X8_ask fk_l_X8_147 rfl rfl rfl rfl ?_
          refine c_X8_ask ?_
          exact fw_iret h rfl rfl ⟨_, rfl, hg hc (And.intro c18a (And.intro c18b (And.intro c18c c18d))) w1 hs⟩
        · intro w1 hs
          have eD : mD w1 = mD w := sM.mD hs (by decide)
          have hN1 : fd_N (mD w1) nt nd nx ng := by rw [eD]; exact hN
          have hT1 : fd_T (mD w1) nt := by rw [eD]; exact hT
          refine fw_iload h rfl rfl ?_
          refine fw_aload_n h rfl rfl ?_
          refine fw_getIv (nI nd) h rfl fk_g_X8_150 rfl rfl (hN1.2.1.1) ?_
          refine fw_icmp_ge h rfl (fun c41 => False.elim (nI_ge hi (by omega) c41)) (fun c41 => ?_)
          refine fw_aload_n h rfl rfl ?_
          refine fw_getR _ h rfl fk_g_X8_44 rfl rfl ?_
          refine fw_iload h rfl rfl ?_
          refine fn_ialdF (w.1 57) h rfl rfl ((show sM [23, 24, 25, 26, 32, 33, 34] w w1 from hs).1 57 (by decide)) (by omega) rfl ?_
          refine fw_iload_n h rfl rfl ?_
          refine fw_iload_n h rfl rfl ?_
          refine fw_s3I h rfl fk_s_X8_in fk_l_X8_109 rfl rfl ?_
          refine c_X8_in (fun c53a c53b => ?_) (fun c53 => ?_)
          · refine fw_if_eq h rfl (fun c => absurd c (by decide)) (fun _ => ?_)
            refine fw_aload_n h rfl rfl ?_
            refine fw_iload h rfl rfl ?_
            refine fw_v1V h rfl fk_v_X8_layDueNow fk_l_X8_255 rfl rfl rfl rfl ?_
            have hA1 : fd_A (mD w1) nt i (fd_m (mD w) i) := by rw [eD]; exact hAA i hi
            refine c_X8_layDueNow hN1 hT1 hA1 (by omega) (fun w2 hs2 q32 q33 q34 => ?_)
            rw [eD] at q32 q33 q34
            have q33 : w2.1 46 33 = fs_ds (mD w) nt nx i := q33
            have hs2 : sM [23, 24, 25, 26, 32, 33, 34] w w2 := sM.tr hs hs2
            have eD2 : mD w2 = mD w := sM.mD hs2 (by decide)
            have hN2 : fd_N (mD w2) nt nd nx ng := by rw [eD2]; exact hN
            have hT2 : fd_T (mD w2) nt := by rw [eD2]; exact hT
            refine fw_iconst h (nI 0) rfl (by decide) ?_
            refine fw_istore h [_, _, _, _, _, _, _, _, _, _, _] rfl rfl rfl rfl ?_
            refine fw_iconst h (nI 0) rfl (by decide) ?_
            refine fw_istore h [_, _, _, _, _, _, _, _, _, _, _] rfl rfl rfl rfl ?_
            refine fb_loop (fun j => fb_AW tX8_takes X 71 [some (.ref 46), some (.int lo), some (.int fr), some (.int to), some (.int (nI (fp_cnt (fun q => decide (fr ≤ mD w 6 q ∧ mD w 6 q ≤ to) && !decide (fs_he (mD w) nt nx ng lo q ≤ 0)) i))), some (.int (fp_sum (fun q => if (fr ≤ mD w 6 q ∧ mD w 6 q ≤ to) then fs_he (mD w) nt nx ng lo q else nI 0) i)), some (.int (nI i)), some (.int (fp_sum (fun t => if bt (fs_ds (mD w) nt nx i) t = true then fs_sh (mD w) nt ng lo i t else nI 0) j)), some (.int (nI j)), none, none] [] w2) nt ?_ (fun j hj ihj => ?_) 0 (Nat.zero_le _)
            · change fb_AW tX8_takes X 71 [some (.ref 46), some (.int lo), some (.int fr), some (.int to), some (.int (nI (fp_cnt (fun q => decide (fr ≤ mD w 6 q ∧ mD w 6 q ≤ to) && !decide (fs_he (mD w) nt nx ng lo q ≤ 0)) i))), some (.int (fp_sum (fun q => if (fr ≤ mD w 6 q ∧ mD w 6 q ≤ to) then fs_he (mD w) nt nx ng lo q else nI 0) i)), some (.int (nI i)), some (.int (fs_he (mD w) nt nx ng lo i)), some (.int (nI nt)), none, none] [] w2
              refine fw_iload h rfl rfl ?_
              refine fw_aload_n h rfl rfl ?_
              refine fw_getIv (nI nt) h rfl fk_g_X8_124 rfl rfl (hN2.1.1) ?_
              refine fw_icmp_ge h rfl (fun c77 => ?_) (fun c77 => False.elim (c77 (Int32.le_refl _)))
              refine fw_iload h rfl rfl ?_
              refine fw_iload h rfl rfl ?_
              refine fw_if_le h rfl (fun c185 => ?_) (fun c185 => ?_)
              · skip
                · refine fw_iconst h (nI 0) rfl (by decide) ?_
                  first | refine fn_iadd h rfl ?_ | refine fw_iadd h rfl ?_
                  refine fw_istore h [_, _, _, _, _, _, _, _, _, _, _] rfl rfl rfl rfl ?_
                  refine fw_iload h rfl rfl ?_
                  refine fw_iload h rfl rfl ?_
                  first | refine fn_iadd h rfl ?_ | refine fw_iadd h rfl ?_
                  refine fw_istore h [_, _, _, _, _, _, _, _, _, _, _] rfl rfl rfl rfl ?_
                  first | refine fn_iinc h [_, _, _, _, _, _, _, _, _, _, _] rfl rfl rfl rfl rfl ?_ | refine fw_iinc h 1 [_, _, _, _, _, _, _, _, _, _, _] rfl (by decide) rfl rfl rfl rfl ?_
                  refine fw_goto h rfl ?_
                  have en : fp_cnt (fun q => decide (fr ≤ mD w 6 q ∧ mD w 6 q ≤ to) && !decide (fs_he (mD w) nt nx ng lo q ≤ 0)) (i + 1) = fp_cnt (fun q => decide (fr ≤ mD w 6 q ∧ mD w 6 q ≤ to) && !decide (fs_he (mD w) nt nx ng lo q ≤ 0)) i + 0 := fp_cnt_0 (fx_df2 c185)
                  have es : fp_sum (fun q => if (fr ≤ mD w 6 q ∧ mD w 6 q ≤ to) then fs_he (mD w) nt nx ng lo q else nI 0) (i + 1) = fp_sum (fun q => if (fr ≤ mD w 6 q ∧ mD w 6 q ≤ to) then fs_he (mD w) nt nx ng lo q else nI 0) i + fs_he (mD w) nt nx ng lo i := fp_sum_s (if_pos (And.intro c53a c53b))
                  rw [en, es] at ih
                  exact fw_sub (fb_pad_c (Or.inr rfl) (fb_pad_c (Or.inr rfl) (fb_pad_c (Or.inr rfl) (fb_pad_c (Or.inr rfl) (fb_pad_c (Or.inr rfl) (fb_pad_c (Or.inr rfl) (fb_pad_c (Or.inr rfl) (fb_pad_c (Or.inl rfl) (fb_pad_c (Or.inl rfl) (fb_pad_c (Or.inr rfl) (fb_pad_c (Or.inr rfl) (fb_pad_n)))))))))))) (ih w2 hs2)
              · skip
                · refine fw_iconst h (nI 1) rfl (by decide) ?_
                  refine fw_goto h rfl ?_
                  first | refine fn_iadd h rfl ?_ | refine fw_iadd h rfl ?_
                  refine fw_istore h [_, _, _, _, _, _, _, _, _, _, _] rfl rfl rfl rfl ?_
                  refine fw_iload h rfl rfl ?_
                  refine fw_iload h rfl rfl ?_
                  first | refine fn_iadd h rfl ?_ | refine fw_iadd h rfl ?_
                  refine fw_istore h [_, _, _, _, _, _, _, _, _, _, _] rfl rfl rfl rfl ?_
                  first | refine fn_iinc h [_, _, _, _, _, _, _, _, _, _, _] rfl rfl rfl rfl rfl ?_ | refine fw_iinc h 1 [_, _, _, _, _, _, _, _, _, _, _] rfl (by decide) rfl rfl rfl rfl ?_
                  refine fw_goto h rfl ?_
                  have en : fp_cnt (fun q => decide (fr ≤ mD w 6 q ∧ mD w 6 q ≤ to) && !decide (fs_he (mD w) nt nx ng lo q ≤ 0)) (i + 1) = fp_cnt (fun q => decide (fr ≤ mD w 6 q ∧ mD w 6 q ≤ to) && !decide (fs_he (mD w) nt nx ng lo q ≤ 0)) i + 1 := fp_cnt_1 (fx_dt (And.intro c53a c53b) c185)
                  have es : fp_sum (fun q => if (fr ≤ mD w 6 q ∧ mD w 6 q ≤ to) then fs_he (mD w) nt nx ng lo q else nI 0) (i + 1) = fp_sum (fun q => if (fr ≤ mD w 6 q ∧ mD w 6 q ≤ to) then fs_he (mD w) nt nx ng lo q else nI 0) i + fs_he (mD w) nt nx ng lo i := fp_sum_s (if_pos (And.intro c53a c53b))
                  rw [en, es] at ih
                  exact fw_sub (fb_pad_c (Or.inr rfl) (fb_pad_c (Or.inr rfl) (fb_pad_c (Or.inr rfl) (fb_pad_c (Or.inr rfl) (fb_pad_c (Or.inr rfl) (fb_pad_c (Or.inr rfl) (fb_pad_c (Or.inr rfl) (fb_pad_c (Or.inl rfl) (fb_pad_c (Or.inl rfl) (fb_pad_c (Or.inr rfl) (fb_pad_c (Or.inr rfl) (fb_pad_n)))))))))))) (ih w2 hs2)
            · refine fw_iload h rfl rfl ?_
              refine fw_aload_n h rfl rfl ?_
              refine fw_getIv (nI nt) h rfl fk_g_X8_124 rfl rfl (hN2.1.1) ?_
              refine fw_icmp_ge h rfl (fun c77 => False.elim (nI_ge hj (by omega) c77)) (fun c77 => ?_)
              refine fw_aload_n h rfl rfl ?_
              refine fw_getIv (fs_ds (mD w) nt nx i) h rfl fk_g_X8_249 rfl rfl (q33) ?_
              refine fw_iload h rfl rfl ?_
              refine fw_s2I h rfl fk_s_X8_has fk_l_X8_185 rfl rfl ?_
              refine c_X8_hasN rfl (by omega) (fun c86 => ?_) (fun c86 => ?_)
              · refine fw_if_eq h rfl (fun c => absurd c (by decide)) (fun _ => ?_)
                refine fw_aload_n h rfl rfl ?_
                refine fw_iload h rfl rfl ?_
                refine fw_iload h rfl rfl ?_
                refine fw_v2I h rfl fk_v_X8_grantFor fk_l_X8_287 rfl rfl rfl rfl ?_
                obtain ⟨s2, hs9, es2⟩ := (hT2 j hj).2.1
                refine c_X8_grantFor (by omega) (by omega) es2 hs9 hN2.2.2.2.1 hN2.2.2.2.2 ?_
                change fb_AW _ _ _ _ (.int (fs_g (mD w2) ng i j) :: _) _
                rw [eD2]
                have hgi : fs_g (mD w) ng i j = -9 ∨ ∃ g, g < ng ∧ fs_g (mD w) ng i j = nI g := fp_fst_in _ _
                refine fw_istore h [_, _, _, _, _, _, _, _, _, _, _] rfl rfl rfl rfl ?_
                refine fw_iload h rfl rfl ?_
                refine fw_if_ge h rfl (fun c104 => ?_) (fun c104 => ?_)
                · obtain ⟨g, hg2, eg⟩ := hgi.resolve_left (fun z => by rw [z] at c104; exact absurd c104 (by decide))
                  have hng := hN.2.2.2.2
                  rw [eg]
                  · refine fw_aload_n h rfl rfl ?_
                    refine fw_iload h rfl rfl ?_
                    refine fw_v1I h rfl fk_v_X8_priceOf fk_l_X8_140 rfl rfl rfl rfl ?_
                    refine c_X8_priceOf hN2.1.2 hN2.1.1 (fd_wh hT2) (by omega) ?_
                    change fb_AW _ _ _ _ (.int (fs_pr (mD w2) nt j) :: _) _
                    rw [eD2]
                    refine fw_aload_n h rfl rfl ?_
                    refine fw_getR _ h rfl fk_g_X8_96 rfl rfl ?_
                    refine fw_iload h rfl rfl ?_
                    refine fn_ialdF (w.1 74) h rfl rfl ((show sM [23, 24, 25, 26, 32, 33, 34] w w2 from hs2).1 74 (by decide)) (by omega) rfl ?_
                    first | refine fn_imul h rfl ?_ | refine fw_imul h rfl ?_
                    refine fw_bipush h (nI 12) rfl (by decide) ?_
                    refine fw_idiv h rfl (by decide) ?_
                    refine fw_istore h [_, _, _, _, _, _, _, _, _, _, _] rfl rfl rfl rfl ?_
                    refine fw_iload h rfl rfl ?_
                    refine fw_iload_n h rfl rfl ?_
                    refine fw_bipush h (nI 9) rfl (by decide) ?_
                    refine fw_icmp_ne h rfl (fun c135 => ?_) (fun c135 => ?_)
                    · refine fw_iload h rfl rfl ?_
                      refine fw_if_lt h rfl (fun c152 => False.elim (absurd c152 (nI_pos (by omega)))) (fun c152 => ?_)
                      refine fw_aload_n h rfl rfl ?_
                      refine fw_getR _ h rfl fk_g_X8_81 rfl rfl ?_
                      refine fw_iload h rfl rfl ?_
                      refine fn_ialdF (w.1 69) h rfl rfl ((show sM [23, 24, 25, 26, 32, 33, 34] w w2 from hs2).1 69 (by decide)) (by omega) rfl ?_
                      refine fw_iload_n h rfl rfl ?_
                      refine fw_icmp_ne h rfl (fun c163 => ?_) (fun c163 => ?_)
                      · skip
                        · refine fw_iconst h (nI 0) rfl (by decide) ?_
                          first | refine fn_iadd h rfl ?_ | refine fw_iadd h rfl ?_
                          refine fw_istore h [_, _, _, _, _, _, _, _, _, _, _] rfl rfl rfl rfl ?_
                          first | refine fn_iinc h [_, _, _, _, _, _, _, _, _, _, _] rfl rfl rfl rfl rfl ?_ | refine fw_iinc h 1 [_, _, _, _, _, _, _, _, _, _, _] rfl (by decide) rfl rfl rfl rfl ?_
                          refine fw_goto h rfl ?_
                          have es : fp_sum (fun t => if bt (fs_ds (mD w) nt nx i) t = true then fs_sh (mD w) nt ng lo i t else nI 0) (j + 1) = fp_sum (fun t => if bt (fs_ds (mD w) nt nx i) t = true then fs_sh (mD w) nt ng lo i t else nI 0) j + nI 0 := fp_sum_s (by rw [if_pos c86]; exact fs_sh_2 c135 eg (by omega) c163)
                          rw [es] at ihj
                          exact fw_sub (fb_pad_c (Or.inr rfl) (fb_pad_c (Or.inr rfl) (fb_pad_c (Or.inr rfl) (fb_pad_c (Or.inr rfl) (fb_pad_c (Or.inr rfl) (fb_pad_c (Or.inr rfl) (fb_pad_c (Or.inr rfl) (fb_pad_c (Or.inr rfl) (fb_pad_c (Or.inr rfl) (fb_pad_c (Or.inl rfl) (fb_pad_c (Or.inl rfl) (fb_pad_n)))))))))))) ihj
                      · skip
                        · refine fw_iload h rfl rfl ?_
                          refine fw_goto h rfl ?_
                          first | refine fn_iadd h rfl ?_ | refine fw_iadd h rfl ?_
                          refine fw_istore h [_, _, _, _, _, _, _, _, _, _, _] rfl rfl rfl rfl ?_
                          first | refine fn_iinc h [_, _, _, _, _, _, _, _, _, _, _] rfl rfl rfl rfl rfl ?_ | refine fw_iinc h 1 [_, _, _, _, _, _, _, _, _, _, _] rfl (by decide) rfl rfl rfl rfl ?_
                          refine fw_goto h rfl ?_
                          have es : fp_sum (fun t => if bt (fs_ds (mD w) nt nx i) t = true then fs_sh (mD w) nt ng lo i t else nI 0) (j + 1) = fp_sum (fun t => if bt (fs_ds (mD w) nt nx i) t = true then fs_sh (mD w) nt ng lo i t else nI 0) j + fs_pr (mD w) nt j * mD w 22 g / nI 12 := fp_sum_s (by rw [if_pos c86]; exact by rw [fs_sh_1 c135 eg (by omega) c163, fs_pt_1 eg (by omega)])
                          rw [es] at ihj
                          exact fw_sub (fb_pad_c (Or.inr rfl) (fb_pad_c (Or.inr rfl) (fb_pad_c (Or.inr rfl) (fb_pad_c (Or.inr rfl) (fb_pad_c (Or.inr rfl) (fb_pad_c (Or.inr rfl) (fb_pad_c (Or.inr rfl) (fb_pad_c (Or.inr rfl) (fb_pad_c (Or.inr rfl) (fb_pad_c (Or.inl rfl) (fb_pad_c (Or.inl rfl) (fb_pad_n)))))))))))) ihj
                    · skip
                      · refine fw_aload_n h rfl rfl ?_
                        refine fw_iload h rfl rfl ?_
                        refine fw_v1I h rfl fk_v_X8_priceOf fk_l_X8_140 rfl rfl rfl rfl ?_
                        refine c_X8_priceOf hN2.1.2 hN2.1.1 (fd_wh hT2) (by omega) ?_
                        change fb_AW _ _ _ _ (.int (fs_pr (mD w2) nt j) :: _) _
                        rw [eD2]
                        refine fw_iload h rfl rfl ?_
                        refine fw_isub h rfl ?_
                        refine fw_goto h rfl ?_
                        first | refine fn_iadd h rfl ?_ | refine fw_iadd h rfl ?_
                        refine fw_istore h [_, _, _, _, _, _, _, _, _, _, _] rfl rfl rfl rfl ?_
                        first | refine fn_iinc h [_, _, _, _, _, _, _, _, _, _, _] rfl rfl rfl rfl rfl ?_ | refine fw_iinc h 1 [_, _, _, _, _, _, _, _, _, _, _] rfl (by decide) rfl rfl rfl rfl ?_
                        refine fw_goto h rfl ?_
                        have es : fp_sum (fun t => if bt (fs_ds (mD w) nt nx i) t = true then fs_sh (mD w) nt ng lo i t else nI 0) (j + 1) = fp_sum (fun t => if bt (fs_ds (mD w) nt nx i) t = true then fs_sh (mD w) nt ng lo i t else nI 0) j + (fs_pr (mD w) nt j - fs_pr (mD w) nt j * mD w 22 g / nI 12) := fp_sum_s (by rw [if_pos c86]; exact by rw [fs_sh_k c135, fs_pt_1 eg (by omega)])
                        rw [es] at ihj
                        exact fw_sub (fb_pad_c (Or.inr rfl) (fb_pad_c (Or.inr rfl) (fb_pad_c (Or.inr rfl) (fb_pad_c (Or.inr rfl) (fb_pad_c (Or.inr rfl) (fb_pad_c (Or.inr rfl) (fb_pad_c (Or.inr rfl) (fb_pad_c (Or.inr rfl) (fb_pad_c (Or.inr rfl) (fb_pad_c (Or.inl rfl) (fb_pad_c (Or.inl rfl) (fb_pad_n)))))))))))) ihj
                · skip
                  · have c104n : fs_g (mD w) ng i j < 0 := Int32.not_le.mp c104
                    refine fw_iconst h (nI 0) rfl (by decide) ?_
                    refine fw_goto h rfl ?_
                    refine fw_istore h [_, _, _, _, _, _, _, _, _, _, _] rfl rfl rfl rfl ?_
                    refine fw_iload h rfl rfl ?_
                    refine fw_iload_n h rfl rfl ?_
                    refine fw_bipush h (nI 9) rfl (by decide) ?_
                    refine fw_icmp_ne h rfl (fun c135 => ?_) (fun c135 => ?_)
                    · skip
                      · refine fw_iload h rfl rfl ?_
                        refine fw_if_lt h rfl (fun c152 => ?_) (fun c152 => False.elim (c152 c104n))
                        refine fw_iconst h (nI 0) rfl (by decide) ?_
                        first | refine fn_iadd h rfl ?_ | refine fw_iadd h rfl ?_
                        refine fw_istore h [_, _, _, _, _, _, _, _, _, _, _] rfl rfl rfl rfl ?_
                        first | refine fn_iinc h [_, _, _, _, _, _, _, _, _, _, _] rfl rfl rfl rfl rfl ?_ | refine fw_iinc h 1 [_, _, _, _, _, _, _, _, _, _, _] rfl (by decide) rfl rfl rfl rfl ?_
                        refine fw_goto h rfl ?_
                        have es : fp_sum (fun t => if bt (fs_ds (mD w) nt nx i) t = true then fs_sh (mD w) nt ng lo i t else nI 0) (j + 1) = fp_sum (fun t => if bt (fs_ds (mD w) nt nx i) t = true then fs_sh (mD w) nt ng lo i t else nI 0) j + nI 0 := fp_sum_s (by rw [if_pos c86]; exact fs_sh_0 c135 c104n)
                        rw [es] at ihj
                        exact fw_sub (fb_pad_c (Or.inr rfl) (fb_pad_c (Or.inr rfl) (fb_pad_c (Or.inr rfl) (fb_pad_c (Or.inr rfl) (fb_pad_c (Or.inr rfl) (fb_pad_c (Or.inr rfl) (fb_pad_c (Or.inr rfl) (fb_pad_c (Or.inr rfl) (fb_pad_c (Or.inr rfl) (fb_pad_c (Or.inl rfl) (fb_pad_c (Or.inl rfl) (fb_pad_n)))))))))))) ihj
                    · skip
                      · refine fw_aload_n h rfl rfl ?_
                        refine fw_iload h rfl rfl ?_
                        refine fw_v1I h rfl fk_v_X8_priceOf fk_l_X8_140 rfl rfl rfl rfl ?_
                        refine c_X8_priceOf hN2.1.2 hN2.1.1 (fd_wh hT2) (by omega) ?_
                        change fb_AW _ _ _ _ (.int (fs_pr (mD w2) nt j) :: _) _
                        rw [eD2]
                        refine fw_iload h rfl rfl ?_
                        refine fw_isub h rfl ?_
                        refine fw_goto h rfl ?_
                        first | refine fn_iadd h rfl ?_ | refine fw_iadd h rfl ?_
                        refine fw_istore h [_, _, _, _, _, _, _, _, _, _, _] rfl rfl rfl rfl ?_
                        first | refine fn_iinc h [_, _, _, _, _, _, _, _, _, _, _] rfl rfl rfl rfl rfl ?_ | refine fw_iinc h 1 [_, _, _, _, _, _, _, _, _, _, _] rfl (by decide) rfl rfl rfl rfl ?_
                        refine fw_goto h rfl ?_
                        have es : fp_sum (fun t => if bt (fs_ds (mD w) nt nx i) t = true then fs_sh (mD w) nt ng lo i t else nI 0) (j + 1) = fp_sum (fun t => if bt (fs_ds (mD w) nt nx i) t = true then fs_sh (mD w) nt ng lo i t else nI 0) j + (fs_pr (mD w) nt j - nI 0) := fp_sum_s (by rw [if_pos c86]; exact by rw [fs_sh_k c135, fs_pt_0 c104n])
                        rw [es] at ihj
                        exact fw_sub (fb_pad_c (Or.inr rfl) (fb_pad_c (Or.inr rfl) (fb_pad_c (Or.inr rfl) (fb_pad_c (Or.inr rfl) (fb_pad_c (Or.inr rfl) (fb_pad_c (Or.inr rfl) (fb_pad_c (Or.inr rfl) (fb_pad_c (Or.inr rfl) (fb_pad_c (Or.inr rfl) (fb_pad_c (Or.inl rfl) (fb_pad_c (Or.inl rfl) (fb_pad_n)))))))))))) ihj
              · refine fw_if_eq h rfl (fun _ => ?_) (fun c => absurd c (by decide))
                first | refine fn_iinc h [_, _, _, _, _, _, _, _, _, _, _] rfl rfl rfl rfl rfl ?_ | refine fw_iinc h 1 [_, _, _, _, _, _, _, _, _, _, _] rfl (by decide) rfl rfl rfl rfl ?_
                refine fw_goto h rfl ?_
                have es : fp_sum (fun t => if bt (fs_ds (mD w) nt nx i) t = true then fs_sh (mD w) nt ng lo i t else nI 0) (j + 1) = fp_sum (fun t => if bt (fs_ds (mD w) nt nx i) t = true then fs_sh (mD w) nt ng lo i t else nI 0) j := fp_sum_z (if_neg (fun q => by rw [c86] at q; cases q))
                rw [es] at ihj
                exact ihj
          · refine fw_if_eq h rfl (fun _ => ?_) (fun c => absurd c (by decide))
            first | refine fn_iinc h [_, _, _, _, _, _, _, _, _, _, _] rfl rfl rfl rfl rfl ?_ | refine fw_iinc h 1 [_, _, _, _, _, _, _, _, _, _, _] rfl (by decide) rfl rfl rfl rfl ?_
            refine fw_goto h rfl ?_
            have en : fp_cnt (fun q => decide (fr ≤ mD w 6 q ∧ mD w 6 q ≤ to) && !decide (fs_he (mD w) nt nx ng lo q ≤ 0)) (i + 1) = fp_cnt (fun q => decide (fr ≤ mD w 6 q ∧ mD w 6 q ≤ to) && !decide (fs_he (mD w) nt nx ng lo q ≤ 0)) i + 0 := fp_cnt_0 (fx_df1 c53)
            have es : fp_sum (fun q => if (fr ≤ mD w 6 q ∧ mD w 6 q ≤ to) then fs_he (mD w) nt nx ng lo q else nI 0) (i + 1) = fp_sum (fun q => if (fr ≤ mD w 6 q ∧ mD w 6 q ≤ to) then fs_he (mD w) nt nx ng lo q else nI 0) i := fp_sum_z (if_neg c53)
            rw [en, es] at ih
            exact ih w1 hs
      · refine fw_if_ne h rfl (fun c => absurd c (by decide)) (fun _ => ?_)
        refine fw_iconst h (-1) rfl (by decide) ?_
        exact fw_iret h rfl rfl ⟨_, rfl, hb (fun q => by first | exact c18 q.2 | exact q.1.elim c4 c13)⟩
theorem fp_sum_d {g h : Nat → Int32} {i : Nat} : fp_sum (fun q => g q - h q) i + g i - h i = fp_sum (fun q => g q - h q) (i + 1) := by
  rw [fp_sum, Int32.sub_eq_add_neg, Int32.sub_eq_add_neg, Int32.add_assoc]
theorem c_X8_shift {l : Launch} {w : fb_Wd} {P : Int32 → fb_Wd → Prop} {nt nd nx ng : Nat} (hN : fd_N (mD w) nt nd nx ng) (hT : fd_T (mD w) nt) (hAA : ∀ d, d < nd → fd_A (mD w) nt d (fd_m (mD w) d)) {r z f so : Int32} (hz : z = 0 ∨ z = 1) (hb : ¬ ((0 ≤ r ∧ r ≤ 3 ∧ 0 ≤ f ∧ f ≤ 1023) ∧ (0 ≤ so ∧ so ≤ 10)) → P (-1) w) (hg : (0 ≤ r ∧ r ≤ 3 ∧ 0 ≤ f ∧ f ≤ 1023) → (0 ≤ so ∧ so ≤ 10) → ∀ w', sM [23, 24, 25, 26, 32, 33, 34] (fp_setText w 8 r z f) w' → P 1 (fb_up w' 46 2 (fp_sum (fun q => fs_vs (mD w) nt so (fs_cs (mD w) nt q r z f) - fs_vs (mD w) nt so (fs_ds (mD w) nt nx q)) nd))) : fb_Can l tX8_shift [.ref 46, .int r, .int z, .int f, .int so] w (fb_kI P) := by
  refine fb_intro 2 fk_t_X8_shift (by decide) rfl (fun X hX h => ?_)
  subst hX
  change fb_AW tX8_shift X 0 [some (.ref 46), some (.int r), some (.int z), some (.int f), some (.int so), none, none] [] w
  refine fw_iload_n h rfl rfl ?_
  refine fw_iload_n h rfl rfl ?_
  refine fw_s2I h rfl fk_s_X8_isRule fk_l_X8_223 rfl rfl ?_
  refine c_X8_isRule (fun c2a c2b c2c c2d => ?_) (fun c2 => ?_)
  · refine fw_if_eq h rfl (fun c => absurd c (by decide)) (fun _ => ?_)
    refine fw_iload h rfl rfl ?_
    refine fw_iconst h (nI 0) rfl (by decide) ?_
    refine fw_bipush h (nI 10) rfl (by decide) ?_
    refine fw_s3I h rfl fk_s_X8_in fk_l_X8_109 rfl rfl ?_
    refine c_X8_in (fun c13a c13b => ?_) (fun c13 => ?_)
    · refine fw_if_ne h rfl (fun _ => ?_) (fun c => absurd c (by decide))
      have hnd := hN.2.1.2
      refine fw_aload_n h rfl rfl ?_
      refine fw_bipush h (nI 8) rfl (by decide) ?_
      refine fw_iload_n h rfl rfl ?_
      refine fw_iload_n h rfl rfl ?_
      refine fw_iload_n h rfl rfl ?_
      refine fw_v4V h rfl fk_v_X8_setText fk_l_X8_229 rfl rfl rfl rfl ?_
      refine c_X8_setText (by omega) hz ?_
      refine fw_iconst h (nI 0) rfl (by decide) ?_
      refine fw_istore h [_, _, _, _, _, _, _] rfl rfl rfl rfl ?_
      refine fw_iconst h (nI 0) rfl (by decide) ?_
      refine fw_istore h [_, _, _, _, _, _, _] rfl rfl rfl rfl ?_
      refine (?_ : ∀ w1, sM [23, 24, 25, 26, 32, 33, 34] (fp_setText w 8 r z f) w1 → fb_AW tX8_shift X 36 [some (.ref 46), some (.int r), some (.int z), some (.int f), some (.int so), some (.int (fp_sum (fun q => fs_vs (mD w) nt so (fs_cs (mD w) nt q r z f) - fs_vs (mD w) nt so (fs_ds (mD w) nt nx q)) 0)), some (.int (nI 0))] [] w1) _ (sM.rf _ (fp_setText w 8 r z f))
      refine fb_loop (fun i => ∀ w1, sM [23, 24, 25, 26, 32, 33, 34] (fp_setText w 8 r z f) w1 → fb_AW tX8_shift X 36 [some (.ref 46), some (.int r), some (.int z), some (.int f), some (.int so), some (.int (fp_sum (fun q => fs_vs (mD w) nt so (fs_cs (mD w) nt q r z f) - fs_vs (mD w) nt so (fs_ds (mD w) nt nx q)) i)), some (.int (nI i))] [] w1) (nd) ?_ (fun i hi ih => ?_) 0 (Nat.zero_le _)
      · intro w1 hs
        have eD : mD w1 = mD w := (sM.mD hs (by decide)).trans (mD_text8 w r z f)
        have hN1 : fd_N (mD w1) nt nd nx ng := by rw [eD]; exact hN
        have hT1 : fd_T (mD w1) nt := by rw [eD]; exact hT
        refine fw_iload h rfl rfl ?_
        refine fw_aload_n h rfl rfl ?_
        refine fw_getI h rfl fk_g_X8_150 rfl rfl ?_
        refine fw_icmp_ge h rfl (fun c42 => ?_) (fun c42 => False.elim (c42 (by rw [show w1.1 46 14 = nI nd from hN1.2.1.1]; exact Int32.le_refl _)))
        refine fw_aload_n h rfl rfl ?_
        refine fw_iload h rfl rfl ?_
        refine fw_iconst h (nI 1) rfl (by decide) ?_
        refine fw_v2I h rfl fk_v_X8_ask fk_l_X8_147 rfl rfl rfl rfl ?_
        refine c_X8_ask ?_
        exact fw_iret h rfl rfl ⟨_, rfl, hg (And.intro c2a (And.intro c2b (And.intro c2c c2d))) (And.intro c13a c13b) w1 hs⟩
      · intro w1 hs
        have eD : mD w1 = mD w := (sM.mD hs (by decide)).trans (mD_text8 w r z f)
        have hN1 : fd_N (mD w1) nt nd nx ng := by rw [eD]; exact hN
        have hT1 : fd_T (mD w1) nt := by rw [eD]; exact hT
        refine fw_iload h rfl rfl ?_
        refine fw_aload_n h rfl rfl ?_
        refine fw_getI h rfl fk_g_X8_150 rfl rfl ?_
        refine fw_icmp_ge h rfl (fun c42 => False.elim (nI_ge hi (by omega) (by rw [← show w1.1 46 14 = nI nd from hN1.2.1.1]; exact c42))) (fun c42 => ?_)
        refine fw_aload_n h rfl rfl ?_
        refine fw_iload h rfl rfl ?_
        refine fw_bipush h (nI 8) rfl (by decide) ?_
        refine fw_v2V h rfl fk_v_X8_layDue fk_l_X8_252 rfl rfl rfl rfl ?_
        have hA1 : fd_A (mD w1) nt i (fd_m (mD w) i) := by rw [eD]; exact hAA i hi
        refine c_X8_layDueC hN1 hT1 hA1 (by omega) (fun w2 hs2 p32 p33 p34 => ?_)
        rw [eD, hs.1 65 (by decide), hs.1 66 (by decide), hs.1 67 (by decide)] at p33
        have p33 : w2.1 46 33 = fs_cs (mD w) nt i r z f := p33
        have hs2 : sM [23, 24, 25, 26, 32, 33, 34] (fp_setText w 8 r z f) w2 := sM.tr hs hs2
        have eD2 : mD w2 = mD w := (sM.mD hs2 (by decide)).trans (mD_text8 w r z f)
        have hN2 : fd_N (mD w2) nt nd nx ng := by rw [eD2]; exact hN
        have hT2 : fd_T (mD w2) nt := by rw [eD2]; exact hT
        have hA2 : fd_A (mD w2) nt i (fd_m (mD w) i) := by rw [eD2]; exact hAA i hi
        refine fw_iload h rfl rfl ?_
        refine fw_aload_n h rfl rfl ?_
        refine fw_aload_n h rfl rfl ?_
        refine fw_getI h rfl fk_g_X8_249 rfl rfl ?_
        refine fw_iload h rfl rfl ?_
        refine fw_v2I h rfl fk_v_X8_valueOfSort fk_l_X8_300 rfl rfl rfl rfl ?_
        rw [p33]
        refine c_X8_valueOfSort hN2.1.2 hN2.1.1 (fd_wh hT2) ?_
        rw [eD2]
        first | refine fn_iadd h rfl ?_ | refine fw_iadd h rfl ?_
        refine fw_istore h [_, _, _, _, _, _, _] rfl rfl rfl rfl ?_
        refine fw_aload_n h rfl rfl ?_
        refine fw_iload h rfl rfl ?_
        refine fw_v1V h rfl fk_v_X8_layDueNow fk_l_X8_255 rfl rfl rfl rfl ?_
        refine c_X8_layDueNow hN2 hT2 hA2 (by omega) (fun w3 hs3 q32 q33 q34 => ?_)
        rw [eD2] at q33
        have q33 : w3.1 46 33 = fs_ds (mD w) nt nx i := q33
        have hs3 : sM [23, 24, 25, 26, 32, 33, 34] (fp_setText w 8 r z f) w3 := sM.tr hs2 hs3
        have eD3 : mD w3 = mD w := (sM.mD hs3 (by decide)).trans (mD_text8 w r z f)
        have hN3 : fd_N (mD w3) nt nd nx ng := by rw [eD3]; exact hN
        have hT3 : fd_T (mD w3) nt := by rw [eD3]; exact hT
        refine fw_iload h rfl rfl ?_
        refine fw_aload_n h rfl rfl ?_
        refine fw_aload_n h rfl rfl ?_
        refine fw_getI h rfl fk_g_X8_249 rfl rfl ?_
        refine fw_iload h rfl rfl ?_
        refine fw_v2I h rfl fk_v_X8_valueOfSort fk_l_X8_300 rfl rfl rfl rfl ?_
        rw [q33]
        refine c_X8_valueOfSort hN3.1.2 hN3.1.1 (fd_wh hT3) ?_
        rw [eD3]
        refine fw_isub h rfl ?_
        refine fw_istore h [_, _, _, _, _, _, _] rfl rfl rfl rfl ?_
        first | refine fn_iinc h [_, _, _, _, _, _, _] rfl rfl rfl rfl rfl ?_ | refine fw_iinc h 1 [_, _, _, _, _, _, _] rfl (by decide) rfl rfl rfl rfl ?_
        refine fw_goto h rfl ?_
        exact fw_cg (congrArg (fun z2 => [some (Value.ref 46), some (Value.int r), some (Value.int z), some (Value.int f), some (Value.int so), some (Value.int z2), some (Value.int (nI (i + 1)))]) fp_sum_d.symm) (ih w3 hs3)
    · refine fw_if_ne h rfl (fun c => absurd c (by decide)) (fun _ => ?_)
      refine fw_iconst h (-1) rfl (by decide) ?_
      exact fw_iret h rfl rfl ⟨_, rfl, hb (fun q => by first | exact c2 q.1 | exact c13 q.2)⟩
  · refine fw_if_eq h rfl (fun _ => ?_) (fun c => absurd c (by decide))
    refine fw_iconst h (-1) rfl (by decide) ?_
    exact fw_iret h rfl rfl ⟨_, rfl, hb (fun q => by first | exact c2 q.1 | exact c13 q.2)⟩
