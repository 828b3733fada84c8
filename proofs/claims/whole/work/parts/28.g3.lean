theorem c_X8_worth {l : Launch} {w : fb_Wd} {P : Int32 → fb_Wd → Prop} {nt nd nx ng : Nat} (hN : fd_N (mD w) nt nd nx ng) (hT : fd_T (mD w) nt) (hAA : ∀ d, d < nd → fd_A (mD w) nt d (fd_m (mD w) d)) {t v : Int32} (hb : ¬ ((∃ j, j < nt ∧ t = nI j) ∧ 0 ≤ v ∧ v ≤ 10000) → P (-1) w) (hg : ∀ j, j < nt → t = nI j → 0 ≤ v → v ≤ 10000 → P (mD w 2 j) (fb_up w 53 j v)) : fb_Can l tX8_worth [.ref 46, .int t, .int v] w (fb_kI P) := by
  refine fb_intro 1 fk_t_X8_worth (by decide) rfl (fun X hX h => ?_)
  subst hX
  change fb_AW tX8_worth X 0 [some (.ref 46), some (.int t), some (.int v), none] [] w
  refine fw_aload_n h rfl rfl ?_
  refine fw_iload_n h rfl rfl ?_
  refine fw_v1I h rfl fk_v_X8_isThing fk_l_X8_130 rfl rfl rfl rfl ?_
  refine c_X8_isThing hN.1.1 hN.1.2 (fun j hj e => ?_) (fun c2 => ?_)
  · refine fw_if_eq h rfl (fun c => absurd c (by decide)) (fun _ => ?_)
    refine fw_iload_n h rfl rfl ?_
    refine fw_iconst h (nI 0) rfl (by decide) ?_
    refine fw_sipush h (nI 10000) rfl (by decide) ?_
    refine fw_s3I h rfl fk_s_X8_in fk_l_X8_109 rfl rfl ?_
    refine c_X8_in (fun c13a c13b => ?_) (fun c13 => ?_)
    · refine fw_if_ne h rfl (fun _ => ?_) (fun c => absurd c (by decide))
      subst e
      have hnt := hN.1.2
      refine fw_aload_n h rfl rfl ?_
      refine fw_getR _ h rfl fk_g_X8_32 rfl rfl ?_
      refine fw_iload_n h rfl rfl ?_
      refine fn_iald h rfl rfl (by omega) rfl ?_
      refine fw_istore_n h [_, _, _, _] rfl rfl rfl rfl ?_
      refine fw_aload_n h rfl rfl ?_
      refine fw_getR _ h rfl fk_g_X8_32 rfl rfl ?_
      refine fw_iload_n h rfl rfl ?_
      refine fw_iload_n h rfl rfl ?_
      refine fn_iast h rfl rfl (by omega) rfl ?_
      refine fw_iload_n h rfl rfl ?_
      exact fw_iret h rfl rfl ⟨_, rfl, hg j hj rfl c13a c13b⟩
    · refine fw_if_ne h rfl (fun c => absurd c (by decide)) (fun _ => ?_)
      refine fw_iconst h (-1) rfl (by decide) ?_
      exact fw_iret h rfl rfl ⟨_, rfl, hb (fun z => by first | exact c2 z.1 | exact c13 z.2)⟩
  · refine fw_if_eq h rfl (fun _ => ?_) (fun c => absurd c (by decide))
    refine fw_iconst h (-1) rfl (by decide) ?_
    exact fw_iret h rfl rfl ⟨_, rfl, hb (fun z => by first | exact c2 z.1 | exact c13 z.2)⟩
theorem c_X8_jury {l : Launch} {w : fb_Wd} {P : Int32 → fb_Wd → Prop} {nt nd nx ng : Nat} (hN : fd_N (mD w) nt nd nx ng) (hT : fd_T (mD w) nt) (hAA : ∀ d, d < nd → fd_A (mD w) nt d (fd_m (mD w) d)) {d v : Int32} (hb : ¬ ((∃ j, j < nd ∧ d = nI j) ∧ (v = -9 ∨ 0 ≤ v ∧ v ≤ 100000)) → P (-1) w) (hg : ∀ j, j < nd → d = nI j → (v = -9 ∨ 0 ≤ v ∧ v ≤ 100000) → P (mD w 7 j) (fb_up w 58 j v)) : fb_Can l tX8_jury [.ref 46, .int d, .int v] w (fb_kI P) := by
  refine fb_intro 1 fk_t_X8_jury (by decide) rfl (fun X hX h => ?_)
  subst hX
  change fb_AW tX8_jury X 0 [some (.ref 46), some (.int d), some (.int v), none] [] w
  refine fw_aload_n h rfl rfl ?_
  refine fw_iload_n h rfl rfl ?_
  refine fw_v1I h rfl fk_v_X8_isDeath fk_l_X8_163 rfl rfl rfl rfl ?_
  refine c_X8_isDeath hN.2.1.1 (by have := hN.2.1.2; omega) (fun j hj e => ?_) (fun c2 => ?_)
  · refine fw_if_eq h rfl (fun c => absurd c (by decide)) (fun _ => ?_)
    refine fw_iload_n h rfl rfl ?_
    refine fw_s1I h rfl fk_s_X8_isTold fk_l_X8_160 rfl rfl ?_
    refine c_X8_isTold (fun c9 => ?_) (fun c9 => ?_)
    · refine fw_if_ne h rfl (fun _ => ?_) (fun c => absurd c (by decide))
      subst e
      have hnd := hN.2.1.2
      refine fw_aload_n h rfl rfl ?_
      refine fw_getR _ h rfl fk_g_X8_47 rfl rfl ?_
      refine fw_iload_n h rfl rfl ?_
      refine fn_iald h rfl rfl (by omega) rfl ?_
      refine fw_istore_n h [_, _, _, _] rfl rfl rfl rfl ?_
      refine fw_aload_n h rfl rfl ?_
      refine fw_getR _ h rfl fk_g_X8_47 rfl rfl ?_
      refine fw_iload_n h rfl rfl ?_
      refine fw_iload_n h rfl rfl ?_
      refine fn_iast h rfl rfl (by omega) rfl ?_
      refine fw_iload_n h rfl rfl ?_
      exact fw_iret h rfl rfl ⟨_, rfl, hg j hj rfl c9⟩
    · refine fw_if_ne h rfl (fun c => absurd c (by decide)) (fun _ => ?_)
      refine fw_iconst h (-1) rfl (by decide) ?_
      exact fw_iret h rfl rfl ⟨_, rfl, hb (fun z => by first | exact c2 z.1 | exact c9 z.2)⟩
  · refine fw_if_eq h rfl (fun _ => ?_) (fun c => absurd c (by decide))
    refine fw_iconst h (-1) rfl (by decide) ?_
    exact fw_iret h rfl rfl ⟨_, rfl, hb (fun z => by first | exact c2 z.1 | exact c9 z.2)⟩
theorem c_X8_value {l : Launch} {w : fb_Wd} {P : Int32 → fb_Wd → Prop} {nt nd nx ng : Nat} (hN : fd_N (mD w) nt nd nx ng) (hT : fd_T (mD w) nt) (hAA : ∀ d, d < nd → fd_A (mD w) nt d (fd_m (mD w) d)) {d r : Int32} (hb : ¬ (∃ j k, j < nd ∧ d = nI j ∧ k < 2 ^ fp_dbt (mD w 12) j (fd_m (mD w) j) ∧ r = nI k) → P (-1) w) (hg : ∀ j k, j < nd → d = nI j → k < 2 ^ fp_dbt (mD w 12) j (fd_m (mD w) j) → r = nI k → ∀ w', sM [23, 24, 25, 26] w w' → P (fs_vn (mD w) nt nx j (fd_m (mD w) j) k) (fb_up w' 46 2 (fs_sn (mD w) nt nx j (fd_m (mD w) j) k))) : fb_Can l tX8_value [.ref 46, .int d, .int r] w (fb_kI P) := by
  refine fb_intro 1 fk_t_X8_value (by decide) rfl (fun X hX h => ?_)
  subst hX
  change fb_AW tX8_value X 0 [some (.ref 46), some (.int d), some (.int r), none] [] w
  refine fw_aload_n h rfl rfl ?_
  refine fw_iload_n h rfl rfl ?_
  refine fw_iload_n h rfl rfl ?_
  refine fw_v2I h rfl fk_v_X8_isReading fk_l_X8_213 rfl rfl rfl rfl ?_
  refine c_X8_isReading hN hT hAA (fun j k hj ej hk ek => ?_) (fun c3 => ?_)
  · refine fw_if_ne h rfl (fun _ => ?_) (fun c => absurd c (by decide))
    subst ej; subst ek
    have hnd := hN.2.1.2
    refine fw_aload_n h rfl rfl ?_
    refine fw_iload_n h rfl rfl ?_
    refine fw_iload_n h rfl rfl ?_
    refine fw_aload_n h rfl rfl ?_
    refine fw_aload_n h rfl rfl ?_
    refine fw_getR _ h rfl fk_g_X8_44 rfl rfl ?_
    refine fw_iload_n h rfl rfl ?_
    refine fn_ialdF (w.1 57) h rfl rfl (rfl) (by omega) rfl ?_
    refine fw_v1I h rfl fk_v_X8_forceIn fk_l_X8_233 rfl rfl rfl rfl ?_
    refine c_X8_forceIn hN.2.2.1.1 hN.2.2.1.2 ?_
    rw [fs_tn_m hN.2.2.1.2]
    refine fw_v3I h rfl fk_v_X8_forfeitOf fk_l_X8_236 rfl rfl rfl rfl ?_
    refine c_X8_forfeitR hN hT (hAA j hj) (by omega) ((fs_tn_in _ _ _).imp id (fun ⟨j, hj, e⟩ => ⟨j, by have := hN.2.2.1.2; omega, e⟩)) (fun w2 hs2 => ?_)
    rw [show fs_fx (mD w) (w.1 65) (w.1 66) (w.1 67) nt j (fd_m (mD w) j) (nI k) (fs_tn (mD w) nx j) = fs_sn (mD w) nt nx j (fd_m (mD w) j) k from congrFun (fs_sn_m hN.2.2.1.2) k]
    have eD2 : mD w2 = mD w := sM.mD hs2 (by decide)
    have hN2 : fd_N (mD w2) nt nd nx ng := by rw [eD2]; exact hN
    have hT2 : fd_T (mD w2) nt := by rw [eD2]; exact hT
    refine fw_istore_n h [_, _, _, _] rfl rfl rfl rfl ?_
    refine fw_aload_n h rfl rfl ?_
    refine fw_iload_n h rfl rfl ?_
    refine fw_aload_n h rfl rfl ?_
    refine fw_iload_n h rfl rfl ?_
    refine fw_v1I h rfl fk_v_X8_valueOf fk_l_X8_240 rfl rfl rfl rfl ?_
    refine c_X8_valueOf hN2.1.2 hN2.1.1 (fd_wh hT2) ?_
    rw [eD2]
    refine fw_v2I h rfl fk_v_X8_ask fk_l_X8_147 rfl rfl rfl rfl ?_
    refine c_X8_ask ?_
    exact fw_iret h rfl rfl ⟨_, rfl, by first | exact hb c3 | exact hg j k hj rfl hk rfl w2 hs2⟩
  · refine fw_if_ne h rfl (fun c => absurd c (by decide)) (fun _ => ?_)
    refine fw_iconst h (-1) rfl (by decide) ?_
    exact fw_iret h rfl rfl ⟨_, rfl, by first | exact hb c3 | exact hg j k hj rfl hk rfl w2 hs2⟩
theorem fp_new_cg {s s' : Nat → Int32} {mk as : Int32} {a : Nat} (ha : s a = s' a) : ∀ {n : Nat}, (∀ r, r < n → s r = s' r) → fp_new s mk as a n = fp_new s' mk as a n
  | 0, _ => rfl
  | n + 1, h => by rw [fp_new, fp_new, fp_new_cg ha (n := n) (fun r hr => h r (by omega)), h n (by omega), ha]
theorem fp_unl_cg {s s' : Nat → Int32} {mk as : Int32} {n : Nat} (h : ∀ r, r < n → s r = s' r) : fp_unl s mk as n = fp_unl s' mk as n := fp_cnt_cg (fun i hi => by
  show (decide _ && fp_new s mk as i i) = (decide _ && fp_new s' mk as i i)
  rw [fp_new_cg (h i hi) (fun r hr => h r (by omega))])
theorem c_X8_unlike {l : Launch} {w : fb_Wd} {P : Int32 → fb_Wd → Prop} {nt nd nx ng : Nat} (hN : fd_N (mD w) nt nd nx ng) (hT : fd_T (mD w) nt) (hAA : ∀ d, d < nd → fd_A (mD w) nt d (fd_m (mD w) d)) {d : Int32} (hb : ¬ (∃ j, j < nd ∧ d = nI j) → P (-1) w) (hg : ∀ j, j < nd → d = nI j → ∀ w', sW [23, 24, 25, 26] w w' → P (nI (fp_unl (fs_sn (mD w) nt nx j (fd_m (mD w) j)) (nI 0) (nI 0) (2 ^ fp_dbt (mD w 12) j (fd_m (mD w) j)))) w') : fb_Can l tX8_unlike [.ref 46, .int d] w (fb_kI P) := by
  refine fb_intro 0 fk_t_X8_unlike (by decide) rfl (fun X hX h => ?_)
  subst hX
  change fb_AW tX8_unlike X 0 [some (.ref 46), some (.int d)] [] w
  refine fw_aload_n h rfl rfl ?_
  refine fw_iload_n h rfl rfl ?_
  refine fw_v1I h rfl fk_v_X8_isDeath fk_l_X8_163 rfl rfl rfl rfl ?_
  refine c_X8_isDeath hN.2.1.1 (by have := hN.2.1.2; omega) (fun j hj e => ?_) (fun c2 => ?_)
  · refine fw_if_ne h rfl (fun _ => ?_) (fun c => absurd c (by decide))
    subst e
    have hnd := hN.2.1.2
    have h5 : fp_dbt (mD w 12) j (fd_m (mD w) j) ≤ 5 := (hAA j hj).2.2.2
    have h32 : 2 ^ fp_dbt (mD w 12) j (fd_m (mD w) j) ≤ 2 ^ 5 := Nat.pow_le_pow_right (by decide) h5
    refine fw_aload_n h rfl rfl ?_
    refine fw_iload_n h rfl rfl ?_
    refine fw_v1V h rfl fk_v_X8_laySets fk_l_X8_258 rfl rfl rfl rfl ?_
    refine c_X8_laySets hN hT (hAA j hj) (by omega) (fun w2 hs2 hq => ?_)
    have eD2 : mD w2 = mD w := sW.mD hs2 (by decide)
    have hA2 : fd_A (mD w2) nt j (fd_m (mD w) j) := by rw [eD2]; exact hAA j hj
    refine fw_aload_n h rfl rfl ?_
    refine fw_aload_n h rfl rfl ?_
    refine fw_iload_n h rfl rfl ?_
    refine fw_v1I h rfl fk_v_X8_readings fk_l_X8_176 rfl rfl rfl rfl ?_
    refine c_X8_readings (by omega) hA2.1 hA2.2.1 ?_
    rw [show fp_dbt (w2.1 63) j (fd_m (mD w) j) = fp_dbt (mD w 12) j (fd_m (mD w) j) by rw [hs2.1 63 (by decide) (by decide)]; rfl]
    refine fw_iconst h (nI 0) rfl (by decide) ?_
    refine fw_iconst h (nI 0) rfl (by decide) ?_
    refine fw_v3I h rfl fk_v_X8_unlikeOf fk_l_X8_261 rfl rfl rfl rfl ?_
    refine c_X8_unlikeOf (by omega) ?_
    rw [fp_unl_cg (n := 2 ^ fp_dbt (mD w 12) j (fd_m (mD w) j)) hq]
    exact fw_iret h rfl rfl ⟨_, rfl, by first | exact hb c2 | exact hg j hj rfl w2 hs2⟩
  · refine fw_if_ne h rfl (fun c => absurd c (by decide)) (fun _ => ?_)
    refine fw_iconst h (-1) rfl (by decide) ?_
    exact fw_iret h rfl rfl ⟨_, rfl, by first | exact hb c2 | exact hg j hj rfl w2 hs2⟩
