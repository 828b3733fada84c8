theorem c_max_wv {l : Launch} {w : fb_Wd} {P : Int32 → fb_Wd → Prop} {s : Nat → Int32} {N q : Nat} (hp : P (fs_wv s N q) w) : fb_Can l tJ9_max_7cf53 [.int (nI (fp_unl s (nI 1 <<< (nI q &&& 31)) (nI 0) N)), .int (nI (fp_unl s (nI 1 <<< (nI q &&& 31)) (nI 1 <<< (nI q &&& 31)) N))] w (fb_kI P) := by
  unfold fs_wv at hp
  refine c_J9_max_7cf53 (fun h1 => ?_) (fun h1 => ?_)
  · rw [if_pos h1] at hp; exact hp
  · rw [if_neg h1] at hp; exact hp
theorem fs_wv_b (s : Nat → Int32) (N q : Nat) : ∃ u, u ≤ N ∧ fs_wv s N q = nI u := by
  unfold fs_wv
  split
  · exact ⟨_, fp_cnt_le _ N, rfl⟩
  · exact ⟨_, fp_cnt_le _ N, rfl⟩
theorem c_X7_settle {l : Launch} {w : fb_Wd} {P : Int32 → fb_Wd → Prop} {nt nd nx ng : Nat} (hX : XI w nt nd nx ng) (hx : fd_X (xD w) nx) {d : Int32} (hb : ¬ (∃ j, j < nd ∧ d = nI j) → P (-1) w) (hn : ∀ j, j < nd → d = nI j → fp_dbt (xD w 12) j (fd_m (xD w) j) = 0 → P (-9) w) (hg : ∀ j, j < nd → d = nI j → 0 < fp_dbt (xD w 12) j (fd_m (xD w) j) → ∀ w', xRN w nt nx j (fd_m (xD w) j) w' → P (nI (fs_ad (xD w 12) j (fp_mn (fs_wv (fs_sn (xD w) nt nx j (fd_m (xD w) j)) (2 ^ fp_dbt (xD w 12) j (fd_m (xD w) j))) (fp_dbt (xD w 12) j (fd_m (xD w) j))) (fd_m (xD w) j))) (fb_up w' 0 10 ((fs_wv (fs_sn (xD w) nt nx j (fd_m (xD w) j)) (2 ^ fp_dbt (xD w 12) j (fd_m (xD w) j))) (fp_mn (fs_wv (fs_sn (xD w) nt nx j (fd_m (xD w) j)) (2 ^ fp_dbt (xD w 12) j (fd_m (xD w) j))) (fp_dbt (xD w 12) j (fd_m (xD w) j)))))) : fb_Can l tX7_settle [.ref 0, .int d] w (fb_kI P) := by
  refine fb_intro 5 fk_t_X7_settle (by decide) rfl (fun X hX h => ?_)
  subst hX
  change fb_AW tX7_settle X 0 [some (.ref 0), some (.int d), none, none, none, none, none] [] w
  refine fw_aload_n h rfl rfl ?_
  refine fw_getR _ h rfl fk_g_X7_26 rfl rfl ?_
  refine fw_iload_n h rfl rfl ?_
  refine fw_v1I h rfl fk_v_X0_has fk_l_X7_181 rfl rfl rfl rfl ?_
  refine c_X0_has hX.1.2.1.1 hX.1.2.1.2 (fun j hj ej => ?_) (fun c5 => ?_)
  · refine fw_if_ne h rfl (fun _ => ?_) (fun c => absurd c (by decide))
    subst ej
    have hnd := hX.1.2.1.2
    have h26 := (hX.kq j hj).1
    have hk5 := (hX.kq j hj).2
    have hp5 : 2 ^ fp_dbt (xD w 12) j (fd_m (xD w) j) ≤ 2 ^ 5 := Nat.pow_le_pow_right (by decide) hk5
    refine fw_aload_n h rfl rfl ?_
    refine fw_getR _ h rfl fk_g_X7_26 rfl rfl ?_
    refine fw_getR _ h rfl fk_g_X7_188 rfl rfl ?_
    refine fw_iload_n h rfl rfl ?_
    refine fn_iald h rfl rfl (by omega) rfl ?_
    rw [h26]
    refine fw_if_ne h rfl (fun c22 => ?_) (fun c22 => ?_)
    · have hkp : 0 < fp_dbt (xD w 12) j (fd_m (xD w) j) := by
        rcases Nat.eq_zero_or_pos (fp_dbt (xD w 12) j (fd_m (xD w) j)) with z | z
        · exact absurd (by rw [z]; rfl) c22
        · exact z
      refine fw_aload_n h rfl rfl ?_
      refine fw_iload_n h rfl rfl ?_
      refine fw_v1V h rfl fk_v_X7_ruleNow fk_l_X7_247 rfl rfl rfl rfl ?_
      refine c_X7_ruleNow hX hx hj (hX.2.2.1 j hj) (hX.kq j hj).1 (fun w1 hr => ?_)
      have e26 : w1.1 26 j = nI (fp_dbt (xD w 12) j (fd_m (xD w) j)) := (congrFun (hr.1.1 26 (by decide)) j).trans h26
      refine fw_iconst h (nI 0) rfl (by decide) ?_
      refine fw_istore_n h [_, _, _, _, _, _, _] rfl rfl rfl rfl ?_
      refine fw_bipush h (nI 33) rfl (by decide) ?_
      refine fw_istore_n h [_, _, _, _, _, _, _] rfl rfl rfl rfl ?_
      refine fw_iconst h (nI 0) rfl (by decide) ?_
      refine fw_istore h [_, _, _, _, _, _, _] rfl rfl rfl rfl ?_
      refine (?_ : ∀ b v, ((0 = 0 ∧ b = nI 0 ∧ v = nI 33) ∨ (0 < 0 ∧ b = nI (fp_mn (fs_wv (fs_sn (xD w) nt nx j (fd_m (xD w) j)) (2 ^ fp_dbt (xD w 12) j (fd_m (xD w) j))) 0) ∧ v = (fs_wv (fs_sn (xD w) nt nx j (fd_m (xD w) j)) (2 ^ fp_dbt (xD w 12) j (fd_m (xD w) j))) (fp_mn (fs_wv (fs_sn (xD w) nt nx j (fd_m (xD w) j)) (2 ^ fp_dbt (xD w 12) j (fd_m (xD w) j))) 0))) → fb_AW tX7_settle X 41 [some (.ref 0), some (.int (nI j)), some (.int b), some (.int v), some (.int (nI 0)), none, none] [] w1) _ _ (Or.inl ⟨rfl, rfl, rfl⟩)
      refine fb_loop (fun i => ∀ b v, ((i = 0 ∧ b = nI 0 ∧ v = nI 33) ∨ (0 < i ∧ b = nI (fp_mn (fs_wv (fs_sn (xD w) nt nx j (fd_m (xD w) j)) (2 ^ fp_dbt (xD w 12) j (fd_m (xD w) j))) i) ∧ v = (fs_wv (fs_sn (xD w) nt nx j (fd_m (xD w) j)) (2 ^ fp_dbt (xD w 12) j (fd_m (xD w) j))) (fp_mn (fs_wv (fs_sn (xD w) nt nx j (fd_m (xD w) j)) (2 ^ fp_dbt (xD w 12) j (fd_m (xD w) j))) i))) → fb_AW tX7_settle X 41 [some (.ref 0), some (.int (nI j)), some (.int b), some (.int v), some (.int (nI i)), none, none] [] w1) (fp_dbt (xD w 12) j (fd_m (xD w) j)) ?_ (fun i hi ih => ?_) 0 (Nat.zero_le _)
      · intro b v hI
        refine fw_iload h rfl rfl ?_
        refine fw_aload_n h rfl rfl ?_
        refine fw_getR _ h rfl fk_g_X7_26 rfl rfl ?_
        refine fw_getR _ h rfl fk_g_X7_188 rfl rfl ?_
        refine fw_iload_n h rfl rfl ?_
        refine fn_iald h rfl rfl (by omega) rfl ?_
        refine fw_icmp_ge h rfl (fun c52 => ?_) (fun c52 => False.elim (c52 (by rw [e26]; exact Int32.le_refl _)))
        obtain ⟨-, rfl, rfl⟩ := hI.resolve_left (fun z => by have := z.1; omega)
        have hml := fp_mn_lt (v := (fs_wv (fs_sn (xD w) nt nx j (fd_m (xD w) j)) (2 ^ fp_dbt (xD w 12) j (fd_m (xD w) j)))) (n := fp_dbt (xD w 12) j (fd_m (xD w) j)) (by omega)
        have e30 : w1.1 30 = w.1 30 := hr.1.1 30 (by decide)
        · refine fw_aload_n h rfl rfl ?_
          refine fw_iload_n h rfl rfl ?_
          refine fw_aload_n h rfl rfl ?_
          refine fw_getR _ h rfl fk_g_X7_26 rfl rfl ?_
          refine fw_iload_n h rfl rfl ?_
          refine fw_iload_n h rfl rfl ?_
          refine fw_v2I h rfl fk_v_X0_doubtfulAct fk_l_X7_277 rfl rfl rfl rfl ?_
          refine c_X0_doubtfulAct (by omega) ((congrFun (hr.1.1 25 (by decide)) j).trans (hX.2.2.1 j hj).1) (hX.2.2.1 j hj).2.1 (by rw [e30]; exact hml) ?_
          rw [e30]
          refine fw_v2I h rfl fk_v_X7_tell fk_l_X7_111 rfl rfl rfl rfl ?_
          refine c_X7_tell ?_
          exact fw_iret h rfl rfl ⟨_, rfl, hg j hj rfl (by omega) w1 hr⟩
      · intro b v hI
        refine fw_iload h rfl rfl ?_
        refine fw_aload_n h rfl rfl ?_
        refine fw_getR _ h rfl fk_g_X7_26 rfl rfl ?_
        refine fw_getR _ h rfl fk_g_X7_188 rfl rfl ?_
        refine fw_iload_n h rfl rfl ?_
        refine fn_iald h rfl rfl (by omega) rfl ?_
        refine fw_icmp_ge h rfl (fun c52 => False.elim (by rw [e26] at c52; exact nI_ge hi (by omega) c52)) (fun c52 => ?_)
        refine fw_iconst h (nI 1) rfl (by decide) ?_
        refine fw_iload h rfl rfl ?_
        refine fw_ishl h rfl ?_
        refine fw_istore h [_, _, _, _, _, _, _] rfl rfl rfl rfl ?_
        refine fw_aload_n h rfl rfl ?_
        refine fw_getR _ h rfl fk_g_X7_58 rfl rfl ?_
        refine fw_iload h rfl rfl ?_
        refine fw_iconst h (nI 0) rfl (by decide) ?_
        refine fw_v2I h rfl fk_v_X4_unlikeSets fk_l_X7_269 rfl rfl rfl rfl ?_
        refine c_X4_unlikeSets_n hr.2.2.2.1 (by omega) ?_
        rw [fp_unl_cg (n := 2 ^ fp_dbt (xD w 12) j (fd_m (xD w) j)) hr.2.2.2.2.1]
        refine fw_aload_n h rfl rfl ?_
        refine fw_getR _ h rfl fk_g_X7_58 rfl rfl ?_
        refine fw_iload h rfl rfl ?_
        refine fw_iload h rfl rfl ?_
        refine fw_v2I h rfl fk_v_X4_unlikeSets fk_l_X7_269 rfl rfl rfl rfl ?_
        refine c_X4_unlikeSets_n hr.2.2.2.1 (by omega) ?_
        rw [fp_unl_cg (n := 2 ^ fp_dbt (xD w 12) j (fd_m (xD w) j)) hr.2.2.2.2.1]
        refine fw_s2I h rfl fk_s_J9_max_7cf53 fk_l_X7_272 rfl rfl ?_
        refine c_max_wv ?_
        refine fw_istore h [_, _, _, _, _, _, _] rfl rfl rfl rfl ?_
        refine fw_iload h rfl rfl ?_
        refine fw_iload_n h rfl rfl ?_
        refine fw_icmp_ge h rfl (fun c90 => ?_) (fun c90 => ?_)
        · have hI2 : 0 < i ∧ b = nI (fp_mn (fs_wv (fs_sn (xD w) nt nx j (fd_m (xD w) j)) (2 ^ fp_dbt (xD w 12) j (fd_m (xD w) j))) i) ∧ v = (fs_wv (fs_sn (xD w) nt nx j (fd_m (xD w) j)) (2 ^ fp_dbt (xD w 12) j (fd_m (xD w) j))) (fp_mn (fs_wv (fs_sn (xD w) nt nx j (fd_m (xD w) j)) (2 ^ fp_dbt (xD w 12) j (fd_m (xD w) j))) i) := by
            rcases hI with ⟨rfl, -, rfl⟩ | z
            · obtain ⟨u, hu, eu⟩ := fs_wv_b (fs_sn (xD w) nt nx j (fd_m (xD w) j)) (2 ^ fp_dbt (xD w 12) j (fd_m (xD w) j)) 0
              rw [eu] at c90
              exact absurd c90 (nI_ge (by omega) (by decide))
            · exact z
          obtain ⟨h0, rfl, rfl⟩ := hI2
          have em : fp_mn (fs_wv (fs_sn (xD w) nt nx j (fd_m (xD w) j)) (2 ^ fp_dbt (xD w 12) j (fd_m (xD w) j))) (i + 1) = fp_mn (fs_wv (fs_sn (xD w) nt nx j (fd_m (xD w) j)) (2 ^ fp_dbt (xD w 12) j (fd_m (xD w) j))) i := fp_mn_0 c90
          · first | refine fn_iinc h [_, _, _, _, _, _, _] rfl rfl rfl rfl rfl ?_ | refine fw_iinc h 1 [_, _, _, _, _, _, _] rfl (by decide) rfl rfl rfl rfl ?_
            refine fw_goto h rfl ?_
            refine fw_sub (fb_pad_c (Or.inr rfl) (fb_pad_c (Or.inr rfl) (fb_pad_c (Or.inr rfl) (fb_pad_c (Or.inr rfl) (fb_pad_c (Or.inr rfl) (fb_pad_c (Or.inl rfl) (fb_pad_c (Or.inl rfl) (fb_pad_n)))))))) (ih _ _ (Or.inr ⟨by omega, by rw [em], by rw [em]⟩))
        · have em : fp_mn (fs_wv (fs_sn (xD w) nt nx j (fd_m (xD w) j)) (2 ^ fp_dbt (xD w 12) j (fd_m (xD w) j))) (i + 1) = i := by
            rcases hI with ⟨rfl, -, -⟩ | ⟨-, -, rfl⟩
            · exact fp_mn_b
            · exact fp_mn_1 (Int32.not_le.mp c90)
          · refine fw_iload h rfl rfl ?_
            refine fw_istore_n h [_, _, _, _, _, _, _] rfl rfl rfl rfl ?_
            refine fw_iload h rfl rfl ?_
            refine fw_istore_n h [_, _, _, _, _, _, _] rfl rfl rfl rfl ?_
            first | refine fn_iinc h [_, _, _, _, _, _, _] rfl rfl rfl rfl rfl ?_ | refine fw_iinc h 1 [_, _, _, _, _, _, _] rfl (by decide) rfl rfl rfl rfl ?_
            refine fw_goto h rfl ?_
            refine fw_sub (fb_pad_c (Or.inr rfl) (fb_pad_c (Or.inr rfl) (fb_pad_c (Or.inr rfl) (fb_pad_c (Or.inr rfl) (fb_pad_c (Or.inr rfl) (fb_pad_c (Or.inl rfl) (fb_pad_c (Or.inl rfl) (fb_pad_n)))))))) (ih _ _ (Or.inr ⟨by omega, by rw [em], by rw [em]⟩))
    · refine fw_bipush h (-9) rfl (by decide) ?_
      exact fw_iret h rfl rfl ⟨_, rfl, hn j hj rfl ((nI_eq (b := 0) (by omega) (by decide)).mp c22)⟩
  · refine fw_if_ne h rfl (fun c => absurd c (by decide)) (fun _ => ?_)
    refine fw_iconst h (-1) rfl (by decide) ?_
    exact fw_iret h rfl rfl ⟨_, rfl, hb c5⟩
theorem c_X7_holdsActs {l : Launch} {w : fb_Wd} {P : Int32 → fb_Wd → Prop} {nt nd nx ng : Nat} (hX : XI w nt nd nx ng) {a p : Nat} (ha : a < 6) (hp40 : p ≤ 40) (h4 : p % 4 = 0) (ep : w.1 10 a = nI p) (ht : fa_ok nt (w.1 11) (40 * a) (p / 4) → fa_z (w.1 11) (40 * a) (p / 4) ≤ 5 → P 1 w) (hf : ¬ (fa_ok nt (w.1 11) (40 * a) (p / 4) ∧ fa_z (w.1 11) (40 * a) (p / 4) ≤ 5) → P 0 w) : fb_Can l tX7_holdsActs [.ref 0, .int (nI a)] w (fb_kI P) := by
  refine fb_intro 3 fk_t_X7_holdsActs (by decide) rfl (fun X hX h => ?_)
  subst hX
  change fb_AW tX7_holdsActs X 0 [some (.ref 0), some (.int (nI a)), none, none, none] [] w
  refine fw_iconst h (nI 0) rfl (by decide) ?_
  refine fw_istore_n h [_, _, _, _, _] rfl rfl rfl rfl ?_
  refine fw_iconst h (nI 0) rfl (by decide) ?_
  refine fw_istore_n h [_, _, _, _, _] rfl rfl rfl rfl ?_
  refine (?_ : fa_ok nt (w.1 11) (40 * a) 0 → fb_AW tX7_holdsActs X 4 [some (.ref 0), some (.int (nI a)), some (.int (nI (fa_z (w.1 11) (40 * a) 0))), some (.int (nI (4 * 0))), none] [] w) (fun k hk => by omega)
  refine fb_loop (fun i => fa_ok nt (w.1 11) (40 * a) i → fb_AW tX7_holdsActs X 4 [some (.ref 0), some (.int (nI a)), some (.int (nI (fa_z (w.1 11) (40 * a) i))), some (.int (nI (4 * i))), none] [] w) (p / 4) ?_ (fun i hi ih => ?_) 0 (Nat.zero_le _)
  · intro hok
    refine fw_iload_n h rfl rfl ?_
    refine fw_aload_n h rfl rfl ?_
    refine fw_getR _ h rfl fk_g_X7_12 rfl rfl ?_
    refine fw_getR _ h rfl fk_g_X7_195 rfl rfl ?_
    refine fw_iload_n h rfl rfl ?_
    refine fn_iald h rfl rfl (by omega) rfl ?_
    refine fw_icmp_ge h rfl (fun c14 => ?_) (fun c14 => False.elim (c14 (by rw [ep, show 4 * (p / 4) = p by omega]; exact Int32.le_refl _)))
    have hzl := fp_cnt_le (fun k => decide (w.1 11 (40 * a + 4 * k + 3) = 0)) (p / 4)
    refine fw_iload_n h rfl rfl ?_
    refine fw_iconst h (nI 5) rfl (by decide) ?_
    refine fw_icmp_gt h rfl (fun c96 => ?_) (fun c96 => ?_)
    · refine fw_iconst h (nI 0) rfl (by decide) ?_
      exact fw_zret h rfl rfl (by first | exact Or.inl rfl | exact Or.inr rfl | assumption) ⟨_, rfl, hf (fun z => absurd c96 (nI_nlt z.2 (by decide)))⟩
    · refine fw_iconst h (nI 1) rfl (by decide) ?_
      refine fw_goto h rfl ?_
      exact fw_zret h rfl rfl (by first | exact Or.inl rfl | exact Or.inr rfl | assumption) ⟨_, rfl, ht hok (Nat.not_lt.mp (fun y => c96 (nI_lt y (by show fp_cnt _ _ < _; omega))))⟩
  · intro hok
    refine fw_iload_n h rfl rfl ?_
    refine fw_aload_n h rfl rfl ?_
    refine fw_getR _ h rfl fk_g_X7_12 rfl rfl ?_
    refine fw_getR _ h rfl fk_g_X7_195 rfl rfl ?_
    refine fw_iload_n h rfl rfl ?_
    refine fn_iald h rfl rfl (by omega) rfl ?_
    refine fw_icmp_ge h rfl (fun c14 => False.elim (by rw [ep] at c14; exact nI_ge (a := 4 * i) (b := p) (by omega) (by omega) c14)) (fun c14 => ?_)
    refine fw_aload_n h rfl rfl ?_
    refine fw_getR _ h rfl fk_g_X7_12 rfl rfl ?_
    refine fw_iload_n h rfl rfl ?_
    refine fw_iload_n h rfl rfl ?_
    refine fw_iconst h (nI 3) rfl (by decide) ?_
    first | refine fn_iadd h rfl ?_ | refine fw_iadd h rfl ?_
    refine fw_v2I h rfl fk_v_X3_at fk_l_X7_103 rfl rfl rfl rfl ?_
    refine c_X3_at ha (by omega) ?_
    rw [← Nat.add_assoc]
    refine fw_istore h [_, _, _, _, _] rfl rfl rfl rfl ?_
    refine fw_iload h rfl rfl ?_
    refine fw_iconst h (nI 0) rfl (by decide) ?_
    refine fw_iconst h (nI 1) rfl (by decide) ?_
    refine fw_s3I h rfl fk_s_X7_isBetween fk_l_X7_122 rfl rfl ?_
    refine c_X7_isBetween (fun c34a c34b => ?_) (fun c34 => ?_)
    · refine fw_if_eq h rfl (fun c => absurd c (by decide)) (fun _ => ?_)
      refine fw_aload_n h rfl rfl ?_
      refine fw_aload_n h rfl rfl ?_
      refine fw_getR _ h rfl fk_g_X7_12 rfl rfl ?_
      refine fw_iload_n h rfl rfl ?_
      refine fw_iload_n h rfl rfl ?_
      refine fw_v2I h rfl fk_v_X3_at fk_l_X7_103 rfl rfl rfl rfl ?_
      refine c_X3_at ha (by omega) ?_
      refine fw_aload_n h rfl rfl ?_
      refine fw_getR _ h rfl fk_g_X7_12 rfl rfl ?_
      refine fw_iload_n h rfl rfl ?_
      refine fw_iload_n h rfl rfl ?_
      refine fw_iconst h (nI 1) rfl (by decide) ?_
      first | refine fn_iadd h rfl ?_ | refine fw_iadd h rfl ?_
      refine fw_v2I h rfl fk_v_X3_at fk_l_X7_103 rfl rfl rfl rfl ?_
      refine c_X3_at ha (by omega) ?_
      rw [← Nat.add_assoc]
      refine fw_aload_n h rfl rfl ?_
      refine fw_getR _ h rfl fk_g_X7_12 rfl rfl ?_
      refine fw_iload_n h rfl rfl ?_
      refine fw_iload_n h rfl rfl ?_
      refine fw_iconst h (nI 2) rfl (by decide) ?_
      first | refine fn_iadd h rfl ?_ | refine fw_iadd h rfl ?_
      refine fw_v2I h rfl fk_v_X3_at fk_l_X7_103 rfl rfl rfl rfl ?_
      refine c_X3_at ha (by omega) ?_
      rw [← Nat.add_assoc]
      refine fw_v3I h rfl fk_v_X7_isAct fk_l_X7_182 rfl rfl rfl rfl ?_
      refine c_X7_isAct hX (fun c72 => ?_) (fun c72 => ?_)
      · refine fw_if_ne h rfl (fun _ => ?_) (fun c => absurd c (by decide))
        refine fw_iload h rfl rfl ?_
        refine fw_if_ne h rfl (fun c82 => ?_) (fun c82 => ?_)
        · have ez : fa_z (w.1 11) (40 * a) (i + 1) = fa_z (w.1 11) (40 * a) i + 0 := fp_cnt_0 (decide_eq_false c82)
          · refine fw_iinc h 4 [_, _, _, _, _] rfl (by decide) rfl rfl rfl rfl ?_
            refine fw_goto h rfl ?_
            rw [show nI (4 * i) + 4 = nI (4 * (i + 1)) from nI_add _ _]
            refine fw_sub (fb_pad_c (Or.inr rfl) (fb_pad_c (Or.inr rfl) (fb_pad_c (Or.inr rfl) (fb_pad_c (Or.inr rfl) (fb_pad_c (Or.inl rfl) (fb_pad_n)))))) ?_
            have ih2 := ih (fa_ok_s hok ⟨c72, c34a, c34b⟩)
            rw [ez] at ih2
            exact ih2
        · have ez : fa_z (w.1 11) (40 * a) (i + 1) = fa_z (w.1 11) (40 * a) i + 1 := fp_cnt_1 (decide_eq_true c82)
          · first | refine fn_iinc h [_, _, _, _, _] rfl rfl rfl rfl rfl ?_ | refine fw_iinc h 1 [_, _, _, _, _] rfl (by decide) rfl rfl rfl rfl ?_
            refine fw_iinc h 4 [_, _, _, _, _] rfl (by decide) rfl rfl rfl rfl ?_
            refine fw_goto h rfl ?_
            rw [show nI (4 * i) + 4 = nI (4 * (i + 1)) from nI_add _ _]
            refine fw_sub (fb_pad_c (Or.inr rfl) (fb_pad_c (Or.inr rfl) (fb_pad_c (Or.inr rfl) (fb_pad_c (Or.inr rfl) (fb_pad_c (Or.inl rfl) (fb_pad_n)))))) ?_
            have ih2 := ih (fa_ok_s hok ⟨c72, c34a, c34b⟩)
            rw [ez] at ih2
            exact ih2
      · refine fw_if_ne h rfl (fun c => absurd c (by decide)) (fun _ => ?_)
        refine fw_iconst h (nI 0) rfl (by decide) ?_
        exact fw_zret h rfl rfl (by first | exact Or.inl rfl | exact Or.inr rfl | assumption) ⟨_, rfl, hf (fun z => by first | exact c34 (z.1 i hi).2 | exact c72 (z.1 i hi).1)⟩
    · refine fw_if_eq h rfl (fun _ => ?_) (fun c => absurd c (by decide))
      refine fw_iconst h (nI 0) rfl (by decide) ?_
      exact fw_zret h rfl rfl (by first | exact Or.inl rfl | exact Or.inr rfl | assumption) ⟨_, rfl, hf (fun z => by first | exact c34 (z.1 i hi).2 | exact c72 (z.1 i hi).1)⟩
def fx_pw (w : fb_Wd) (d : Nat) (f : Nat → Int32) (b : Nat) : Nat → fb_Wd
  | 0 => fb_up (fb_up w 25 d (nI 0)) 26 d (nI 0)
  | k + 1 => fx_ap (fx_pw w d f b k) d k (f (b + 4 * k)) (f (b + 4 * k + 1)) (fa_b f b k) (fa_s f b k)
theorem fx_ap_ne (w : fb_Wd) (d m : Nat) (s a b z : Int32) {c : Nat} (h : c < 25 ∨ 30 < c) : (fx_ap w d m s a b z).1 c = w.1 c := by
  have h1 : (fx_pa w d m s a b z).1 c = w.1 c := by
    unfold fx_pa
    rw [fb_up_ne _ _ _ (by omega), fb_up_ne _ _ _ (by omega), fb_up_ne _ _ _ (by omega), fb_up_ne _ _ _ (by omega), fb_up_ne _ _ _ (by omega)]
  unfold fx_ap
  split
  · unfold fx_pd
    rw [fb_up_ne _ _ _ (by omega), h1]
  · exact h1
theorem fx_pw_ne (w : fb_Wd) (d : Nat) (f : Nat → Int32) (b : Nat) {c : Nat} (h : c < 25 ∨ 30 < c) : ∀ k, (fx_pw w d f b k).1 c = w.1 c
  | 0 => by rw [fx_pw, fb_up_ne _ _ _ (by omega), fb_up_ne _ _ _ (by omega)]
  | k + 1 => by rw [fx_pw, fx_ap_ne _ _ _ _ _ _ _ h, fx_pw_ne w d f b h k]
theorem fx_pw_25 (w : fb_Wd) (d : Nat) (f : Nat → Int32) (b : Nat) : ∀ k, (fx_pw w d f b k).1 25 d = nI k
  | 0 => by simp [fx_pw, fb_up]
  | k + 1 => by rw [fx_pw, fx_ap_25, fx_pw_25 w d f b k, nI_1]
theorem c_X7_acts {l : Launch} {w : fb_Wd} {P : Int32 → fb_Wd → Prop} {nt nd nx ng : Nat} (hX : XI w nt nd nx ng) {d r : Int32} (hz : xZ w) (hb : ¬ ((∃ j, j < nd ∧ d = nI j) ∧ (∃ a, a < 6 ∧ r = nI a)) → P (-1) w) (h1 : ∀ j a, j < nd → d = nI j → a < 6 → r = nI a → w.1 10 a = -1 → P (-3) (fb_up (fb_up w 0 9 (nI 1)) 9 1 (w.1 9 1 + 1))) (h5 : ∀ j a p, j < nd → d = nI j → a < 6 → r = nI a → p ≤ 40 → w.1 10 a = nI p → ¬ p % 4 = 0 → P (-3) (fb_up (fb_up w 0 9 (nI 5)) 9 5 (w.1 9 5 + 1))) (hu : ∀ j a p, j < nd → d = nI j → a < 6 → r = nI a → p ≤ 40 → w.1 10 a = nI p → p % 4 = 0 → ¬ (fa_ok nt (w.1 11) (40 * a) (p / 4) ∧ fa_z (w.1 11) (40 * a) (p / 4) ≤ 5) → P (-3) (fb_up (fb_up w 0 9 (nI 3)) 9 3 (w.1 9 3 + 1))) (hg : ∀ j a p, j < nd → d = nI j → a < 6 → r = nI a → p ≤ 40 → w.1 10 a = nI p → p % 4 = 0 → fa_ok nt (w.1 11) (40 * a) (p / 4) → fa_z (w.1 11) (40 * a) (p / 4) ≤ 5 → P (nI (p / 4)) (fx_pw w j (w.1 11) (40 * a) (p / 4))) : fb_Can l tX7_acts [.ref 0, .int d, .int r] w (fb_kI P) := by
  refine fb_intro 2 fk_t_X7_acts (by decide) rfl (fun X hX h => ?_)
  subst hX
  change fb_AW tX7_acts X 0 [some (.ref 0), some (.int d), some (.int r), none, none] [] w
  refine fw_aload_n h rfl rfl ?_
  refine fw_getR _ h rfl fk_g_X7_26 rfl rfl ?_
  refine fw_iload_n h rfl rfl ?_
  refine fw_v1I h rfl fk_v_X0_has fk_l_X7_181 rfl rfl rfl rfl ?_
  refine c_X0_has hX.1.2.1.1 hX.1.2.1.2 (fun j hj ej => ?_) (fun c5 => ?_)
  · refine fw_if_eq h rfl (fun c => absurd c (by decide)) (fun _ => ?_)
    refine fw_iload_n h rfl rfl ?_
    refine fw_bipush h (nI 6) rfl (by decide) ?_
    refine fw_s2I h rfl fk_s_X7_isBelow fk_l_X7_83 rfl rfl ?_
    refine c_X7_isBelow (by decide) (fun a ha ea => ?_) (fun c14 => ?_)
    · refine fw_if_ne h rfl (fun _ => ?_) (fun c => absurd c (by decide))
      subst ej; subst ea
      have hnd := hX.1.2.1.2
      refine fw_aload_n h rfl rfl ?_
      refine fw_getR _ h rfl fk_g_X7_12 rfl rfl ?_
      refine fw_iload_n h rfl rfl ?_
      refine fw_v1I h rfl fk_v_X3_isMissing fk_l_X7_95 rfl rfl rfl rfl ?_
      refine c_X3_isMissing ha (fun c27 => ?_) (fun c27 => ?_)
      · refine fw_if_eq h rfl (fun c => absurd c (by decide)) (fun _ => ?_)
        refine fw_aload_n h rfl rfl ?_
        refine fw_iconst h (nI 1) rfl (by decide) ?_
        refine fw_v1I h rfl fk_v_X7_found fk_l_X7_87 rfl rfl rfl rfl ?_
        refine c_X7_found (by decide) ?_
        exact fw_iret h rfl rfl ⟨_, rfl, h1 j a hj rfl ha rfl c27⟩
      · refine fw_if_eq h rfl (fun _ => ?_) (fun c => absurd c (by decide))
        obtain ⟨p, hp40, ep⟩ := (hz a ha).resolve_left c27
        refine fw_aload_n h rfl rfl ?_
        refine fw_getR _ h rfl fk_g_X7_12 rfl rfl ?_
        refine fw_getR _ h rfl fk_g_X7_195 rfl rfl ?_
        refine fw_iload_n h rfl rfl ?_
        refine fn_iald h rfl rfl (by omega) rfl ?_
        rw [ep]
        refine fw_istore_n h [_, _, _, _, _] rfl rfl rfl rfl ?_
        refine fw_iload_n h rfl rfl ?_
        refine fw_iconst h (nI 4) rfl (by decide) ?_
        refine fw_irem h rfl (by decide) ?_
        rw [pk_rem (by omega) (by decide) (by decide)]
        refine fw_if_ne h rfl (fun c52 => ?_) (fun c52 => ?_)
        · refine fw_aload_n h rfl rfl ?_
          refine fw_iconst h (nI 5) rfl (by decide) ?_
          refine fw_v1I h rfl fk_v_X7_found fk_l_X7_87 rfl rfl rfl rfl ?_
          refine c_X7_found (by decide) ?_
          exact fw_iret h rfl rfl ⟨_, rfl, h5 j a p hj rfl ha rfl hp40 ep (fun z => c52 (by rw [z]; rfl))⟩
        · have h4 : p % 4 = 0 := (nI_eq (a := p % 4) (b := 0) (by omega) (by decide)).mp c52
          refine fw_iload_n h rfl rfl ?_
          refine fw_iconst h (nI 4) rfl (by decide) ?_
          refine fw_idiv h rfl (by decide) ?_
          rw [pk_div (by omega) (by decide) (by decide)]
          refine fw_bipush h (nI 10) rfl (by decide) ?_
          refine fw_icmp_le h rfl (fun c60 => ?_) (fun c60 => False.elim (c60 (nI_le (by omega) (by decide))))
          refine fw_aload_n h rfl rfl ?_
          refine fw_iload_n h rfl rfl ?_
          refine fw_v1I h rfl fk_v_X7_holdsActs fk_l_X7_198 rfl rfl rfl rfl ?_
          refine c_X7_holdsActs hX ha hp40 h4 ep (fun c71a c71b => ?_) (fun c71 => ?_)
          · refine fw_if_ne h rfl (fun _ => ?_) (fun c => absurd c (by decide))
            refine fw_aload_n h rfl rfl ?_
            refine fw_getR _ h rfl fk_g_X7_26 rfl rfl ?_
            refine fw_iload_n h rfl rfl ?_
            refine fw_v1V h rfl fk_v_X0_dropActs fk_l_X7_201 rfl rfl rfl rfl ?_
            refine c_X0_dropActs (by omega) ?_
            refine fw_iconst h (nI 0) rfl (by decide) ?_
            refine fw_istore h [_, _, _, _, _] rfl rfl rfl rfl ?_
            refine fb_loop (fun i => fb_AW tX7_acts X 94 [some (.ref 0), some (.int (nI j)), some (.int (nI a)), some (.int (nI p)), some (.int (nI (4 * i)))] [] (fx_pw w j (w.1 11) (40 * a) i)) (p / 4) ?_ (fun i hi ih => ?_) 0 (Nat.zero_le _)
            · refine fw_iload h rfl rfl ?_
              refine fw_iload_n h rfl rfl ?_
              refine fw_icmp_ge h rfl (fun c97 => ?_) (fun c97 => False.elim (c97 (by rw [show 4 * (p / 4) = p by omega]; exact Int32.le_refl _)))
              refine fw_aload_n h rfl rfl ?_
              refine fw_getR _ h rfl fk_g_X7_26 rfl rfl ?_
              refine fw_getR _ h rfl fk_g_X7_185 rfl rfl ?_
              refine fw_iload_n h rfl rfl ?_
              refine fn_iald h rfl rfl (by omega) rfl ?_
              exact fw_iret h rfl rfl ⟨_, rfl, by rw [fx_pw_25]; exact hg j a p hj rfl ha rfl hp40 ep h4 c71a c71b⟩
            · refine fw_iload h rfl rfl ?_
              refine fw_iload_n h rfl rfl ?_
              refine fw_icmp_ge h rfl (fun c97 => False.elim (nI_ge (a := 4 * i) (b := p) (by omega) (by omega) c97)) (fun c97 => ?_)
              refine fw_aload_n h rfl rfl ?_
              refine fw_getR _ h rfl fk_g_X7_26 rfl rfl ?_
              refine fw_iload_n h rfl rfl ?_
              refine fw_aload_n h rfl rfl ?_
              refine fw_getR _ h rfl fk_g_X7_12 rfl rfl ?_
              refine fw_iload_n h rfl rfl ?_
              refine fw_iload h rfl rfl ?_
              refine fw_v2I h rfl fk_v_X3_at fk_l_X7_103 rfl rfl rfl rfl ?_
              refine c_X3_at ha (by omega) ?_
              rw [fx_pw_ne w j (w.1 11) (40 * a) (by decide) i]
              refine fw_aload_n h rfl rfl ?_
              refine fw_getR _ h rfl fk_g_X7_12 rfl rfl ?_
              refine fw_iload_n h rfl rfl ?_
              refine fw_iload h rfl rfl ?_
              refine fw_iconst h (nI 1) rfl (by decide) ?_
              first | refine fn_iadd h rfl ?_ | refine fw_iadd h rfl ?_
              refine fw_v2I h rfl fk_v_X3_at fk_l_X7_103 rfl rfl rfl rfl ?_
              refine c_X3_at ha (by omega) ?_
              rw [fx_pw_ne w j (w.1 11) (40 * a) (by decide) i, ← Nat.add_assoc]
              refine fw_aload_n h rfl rfl ?_
              refine fw_getR _ h rfl fk_g_X7_12 rfl rfl ?_
              refine fw_iload_n h rfl rfl ?_
              refine fw_iload h rfl rfl ?_
              refine fw_iconst h (nI 2) rfl (by decide) ?_
              first | refine fn_iadd h rfl ?_ | refine fw_iadd h rfl ?_
              refine fw_v2I h rfl fk_v_X3_at fk_l_X7_103 rfl rfl rfl rfl ?_
              refine c_X3_at ha (by omega) ?_
              rw [fx_pw_ne w j (w.1 11) (40 * a) (by decide) i, ← Nat.add_assoc]
              refine fw_aload_n h rfl rfl ?_
              refine fw_getR _ h rfl fk_g_X7_12 rfl rfl ?_
              refine fw_iload_n h rfl rfl ?_
              refine fw_iload h rfl rfl ?_
              refine fw_iconst h (nI 3) rfl (by decide) ?_
              first | refine fn_iadd h rfl ?_ | refine fw_iadd h rfl ?_
              refine fw_v2I h rfl fk_v_X3_at fk_l_X7_103 rfl rfl rfl rfl ?_
              refine c_X3_at ha (by omega) ?_
              rw [fx_pw_ne w j (w.1 11) (40 * a) (by decide) i, ← Nat.add_assoc]
              refine fw_iconst h (nI 1) rfl (by decide) ?_
              refine fw_icmp_ne h rfl (fun c152 => ?_) (fun c152 => ?_)
              · have ez : fa_s (w.1 11) (40 * a) i = nI 0 := if_neg c152
                refine fw_iconst h (nI 0) rfl (by decide) ?_
                refine fw_v5V h rfl fk_v_X0_addAct fk_l_X7_191 rfl rfl rfl rfl ?_
                refine c_X0_addActN (by omega) (fx_pw_25 _ _ _ _ i) (by omega) (by first | exact Or.inl rfl | exact Or.inr rfl) (fun b2 hb2 hb3 => ?_)
                have eb : fa_b (w.1 11) (40 * a) i = b2 := by
                  by_cases z : w.1 11 (40 * a + 4 * i) = 1
                  · rw [hb2 z]; exact if_pos z
                  · rw [hb3 z]; exact if_neg z
                refine fw_iinc h 4 [_, _, _, _, _] rfl (by decide) rfl rfl rfl rfl ?_
                refine fw_goto h rfl ?_
                rw [show nI (4 * i) + 4 = nI (4 * (i + 1)) from nI_add _ _]
                rw [fx_pw, eb, ez] at ih
                exact ih
              · have ez : fa_s (w.1 11) (40 * a) i = nI 1 := if_pos c152
                refine fw_iconst h (nI 1) rfl (by decide) ?_
                refine fw_goto h rfl ?_
                refine fw_v5V h rfl fk_v_X0_addAct fk_l_X7_191 rfl rfl rfl rfl ?_
                refine c_X0_addActN (by omega) (fx_pw_25 _ _ _ _ i) (by omega) (by first | exact Or.inl rfl | exact Or.inr rfl) (fun b2 hb2 hb3 => ?_)
                have eb : fa_b (w.1 11) (40 * a) i = b2 := by
                  by_cases z : w.1 11 (40 * a + 4 * i) = 1
                  · rw [hb2 z]; exact if_pos z
                  · rw [hb3 z]; exact if_neg z
                refine fw_iinc h 4 [_, _, _, _, _] rfl (by decide) rfl rfl rfl rfl ?_
                refine fw_goto h rfl ?_
                rw [show nI (4 * i) + 4 = nI (4 * (i + 1)) from nI_add _ _]
                rw [fx_pw, eb, ez] at ih
                exact ih
          · refine fw_if_ne h rfl (fun c => absurd c (by decide)) (fun _ => ?_)
            refine fw_aload_n h rfl rfl ?_
            refine fw_iconst h (nI 3) rfl (by decide) ?_
            refine fw_v1I h rfl fk_v_X7_found fk_l_X7_87 rfl rfl rfl rfl ?_
            refine c_X7_found (by decide) ?_
            exact fw_iret h rfl rfl ⟨_, rfl, hu j a p hj rfl ha rfl hp40 ep h4 c71⟩
    · refine fw_if_ne h rfl (fun c => absurd c (by decide)) (fun _ => ?_)
      refine fw_iconst h (-1) rfl (by decide) ?_
      exact fw_iret h rfl rfl ⟨_, rfl, hb (fun z => by first | exact c5 z.1 | exact c14 z.2)⟩
  · refine fw_if_eq h rfl (fun _ => ?_) (fun c => absurd c (by decide))
    refine fw_iconst h (-1) rfl (by decide) ?_
    exact fw_iret h rfl rfl ⟨_, rfl, hb (fun z => by first | exact c5 z.1 | exact c14 z.2)⟩
theorem fx_c4 : ∀ c, c < 16 → nI c >>> (nI 2 &&& 31) = nI (c / 4) := by decide +kernel
theorem fx_c1 : ∀ c, c < 16 → nI c &&& nI 1 = nI (c % 2) := by decide +kernel
theorem fx_c2 : ∀ c, c < 16 → ((nI c &&& nI 2 = 0) ↔ c / 2 % 2 = 0) := by decide +kernel
noncomputable def fx_kp (D : Nat → Nat → Int32) (nt nx : Nat) (so : Int32) (d : Nat) : Int32 := if fs_ds D nt nx d &&& (fx_os (D 1) (nI 1 <<< (so &&& 31)) nt ^^^ -1) = 0 then nI 0 else fs_ds D nt nx d
noncomputable def fx_ft (D : Nat → Nat → Int32) (nt nx : Nat) (so fr : Int32) (d c : Nat) : Bool := decide (fs_cs D nt d (nI (c / 4)) (nI (c / 2 % 2)) (fl_f so fr c) = fx_kp D nt nx so d)
theorem fx_fl {so fr : Int32} {c : Nat} : (fr &&& ((nI 1 <<< (so &&& 31)) ^^^ -1)) ||| (nI (c % 2) <<< (so &&& 31)) = fl_f so fr c ∨ ¬ (∃ s, s < 10 ∧ so = nI s) := by
  by_cases h : ∃ s, s < 10 ∧ so = nI s
  · refine Or.inl ?_
    obtain ⟨s, hs, rfl⟩ := h
    unfold fl_f
    by_cases e : c % 2 = 1
    · rw [if_pos e, e]
      apply b_ext
      intro i hi
      rw [b_or, b_or, b_and, b_not hi]
      cases bt fr i <;> cases bt (nI 1 <<< (nI s &&& 31)) i <;> rfl
    · rw [if_neg e, show c % 2 = 0 by omega]
      have h0 : ∀ s, s < 10 → nI 0 <<< (nI s &&& 31) = 0 := by decide +kernel
      rw [h0 s hs]
      apply b_ext
      intro i hi
      rw [b_or, b_0, Bool.or_false]
  · exact Or.inr h
theorem c_X7_ruleOfChange {l : Launch} {w : fb_Wd} {P : Int32 → fb_Wd → Prop} {c : Nat} (hc : c < 16) (hp : P (nI (c / 4)) w) : fb_Can l tX7_ruleOfChange [.int (nI c)] w (fb_kI P) := by
  refine fb_intro 0 fk_t_X7_ruleOfChange (by decide) rfl (fun X hX h => ?_)
  subst hX
  change fb_AW tX7_ruleOfChange X 0 [some (.int (nI c))] [] w
  refine fw_iload_n h rfl rfl ?_
  refine fw_iconst h (nI 2) rfl (by decide) ?_
  refine fw_ishr h rfl ?_
  exact fw_iret h rfl rfl ⟨_, rfl, by rw [fx_c4 c hc]; exact hp⟩
theorem c_X7_withOfChange {l : Launch} {w : fb_Wd} {P : Int32 → fb_Wd → Prop} {c : Nat} (hc : c < 16) (hp : P (nI (c % 2)) w) : fb_Can l tX7_withOfChange [.int (nI c)] w (fb_kI P) := by
  refine fb_intro 0 fk_t_X7_withOfChange (by decide) rfl (fun X hX h => ?_)
  subst hX
  change fb_AW tX7_withOfChange X 0 [some (.int (nI c))] [] w
  refine fw_iload_n h rfl rfl ?_
  refine fw_iconst h (nI 1) rfl (by decide) ?_
  refine fw_iand h rfl ?_
  exact fw_iret h rfl rfl ⟨_, rfl, by rw [fx_c1 c hc]; exact hp⟩
theorem c_X7_stoodOfChange {l : Launch} {w : fb_Wd} {P : Int32 → fb_Wd → Prop} {c : Nat} (hc : c < 16) (hp : P (nI (c / 2 % 2)) w) : fb_Can l tX7_stoodOfChange [.int (nI c)] w (fb_kI P) := by
  refine fb_intro 0 fk_t_X7_stoodOfChange (by decide) rfl (fun X hX h => ?_)
  subst hX
  change fb_AW tX7_stoodOfChange X 0 [some (.int (nI c))] [] w
  refine fw_iload_n h rfl rfl ?_
  refine fw_iconst h (nI 2) rfl (by decide) ?_
  refine fw_iand h rfl ?_
  refine fw_if_eq h rfl (fun c3 => ?_) (fun c3 => ?_)
  · refine fw_iconst h (nI 0) rfl (by decide) ?_
    exact fw_zret h rfl rfl (by first | exact Or.inl rfl | exact Or.inr rfl | assumption) ⟨_, rfl, by rw [(fx_c2 c hc).mp c3] at hp; exact hp⟩
  · refine fw_iconst h (nI 1) rfl (by decide) ?_
    refine fw_goto h rfl ?_
    exact fw_zret h rfl rfl (by first | exact Or.inl rfl | exact Or.inr rfl | assumption) ⟨_, rfl, by rw [show c / 2 % 2 = 1 from (Nat.mod_two_eq_zero_or_one _).resolve_left (fun y => c3 ((fx_c2 c hc).mpr y))] at hp; exact hp⟩
theorem lp_ctf {X : fb_Cx} {w w0 w2 : fb_Wd} {P : Int32 → fb_Wd → Prop} {Q : Prop} {fr ch : Int32} {d s nt nd nx ng : Nat} (hX : XI w nt nd nx ng) (hx : fd_X (xD w) nx) (hs0 : xSL [6, 7, 8, 41, 42, 43, 44, 45] w w0) (hdn : d < nd) (hs10 : s < 10) (hA : fd_A (xD w) nt d (fd_m (xD w) d)) (eD2 : xD w2 = xD w) (hX2 : XI w2 nt nd nx ng) (hr : (xSL [6, 7, 41, 42, 43, 44] w0 w2 ∧ w2.1 6 5 = nI (2 ^ fp_dbt (xD w 12) d (fd_m (xD w) d)) ∧ (∀ r, r < 2 ^ fp_dbt (xD w 12) d (fd_m (xD w) d) → w2.1 41 r = fs_mv (xD w) nt d (fd_m (xD w) d) (fs_so (xD w) d (nI r) (fd_m (xD w) d)) ∧ w2.1 42 r = fs_ht (xD w) d (fs_so (xD w) d (nI r) (fd_m (xD w) d)) (fd_m (xD w) d) ∧ w2.1 43 r = fs_bl (xD w) nt d (fd_m (xD w) d) (fs_so (xD w) d (nI r) (fd_m (xD w) d))) ∧ Q)) (hp0 : 0 < 2 ^ fp_dbt (xD w 12) d (fd_m (xD w) d)) (h5 : 2 ^ fp_dbt (xD w 12) d (fd_m (xD w) d) ≤ 2 ^ 5) (h : fb_Ok tX7_changesThatFit X (fb_kI P)) (hp : ∀ w', xSL [6, 7, 8, 41, 42, 43, 44, 45] w w' → P (fp_mk (fun c => bt ch c && fx_ft (xD w) nt nx (nI s) fr d c) 16) w') : fb_AW tX7_changesThatFit X 41 [some (.ref 0), some (.int (nI d)), some (.int (nI s)), some (.int fr), some (.int ch), some (.int (fx_kp (xD w) nt nx (nI s) d)), some (.int (nI 0)), some (.int (nI 0)), none] [] w2 := by
  refine (?_ : ∀ w3, xSL [8, 45] w2 w3 → fb_AW tX7_changesThatFit X 41 [some (.ref 0), some (.int (nI d)), some (.int (nI s)), some (.int fr), some (.int ch), some (.int (fx_kp (xD w) nt nx (nI s) d)), some (.int (fp_mk (fun c => bt ch c && fx_ft (xD w) nt nx (nI s) fr d c) 0)), some (.int (nI 0)), none] [] w3) w2 (xSL.rf _ w2)
  refine fb_loop (fun i => ∀ w3, xSL [8, 45] w2 w3 → fb_AW tX7_changesThatFit X 41 [some (.ref 0), some (.int (nI d)), some (.int (nI s)), some (.int fr), some (.int ch), some (.int (fx_kp (xD w) nt nx (nI s) d)), some (.int (fp_mk (fun c => bt ch c && fx_ft (xD w) nt nx (nI s) fr d c) i)), some (.int (nI i)), none] [] w3) (16) ?_ (fun i hi ih => ?_) 0 (Nat.zero_le _)
  · intro w3 hs3
    refine fw_iload h rfl rfl ?_
    refine fw_bipush h (nI 16) rfl (by decide) ?_
    refine fw_icmp_ge h rfl (fun c45 => ?_) (fun c45 => False.elim (c45 (by decide)))
    refine fw_iload h rfl rfl ?_
    exact fw_iret h rfl rfl ⟨_, rfl, hp w3 ((hs0.tr (hr.1.mono (by decide))).tr (hs3.mono (by decide)))⟩
  · intro w3 hs3
    refine fw_iload h rfl rfl ?_
    refine fw_bipush h (nI 16) rfl (by decide) ?_
    refine fw_icmp_ge h rfl (fun c45 => False.elim (nI_ge hi (by decide) c45)) (fun c45 => ?_)
    refine fw_iload h rfl rfl ?_
    refine fw_iload h rfl rfl ?_
    refine fw_s2I h rfl fk_s_X7_isIn fk_l_X7_154 rfl rfl ?_
    refine c_X7_isIn rfl (by omega) (fun c52 => ?_) (fun c52 => ?_)
    · refine fw_if_ne h rfl (fun _ => ?_) (fun c => absurd c (by decide))
      refine fw_iload_n h rfl rfl ?_
      refine fw_iconst h (nI 1) rfl (by decide) ?_
      refine fw_iload_n h rfl rfl ?_
      refine fw_ishl h rfl ?_
      refine fw_iconst h (-1) rfl (by decide) ?_
      refine fw_ixor h rfl ?_
      refine fw_iand h rfl ?_
      refine fw_iload h rfl rfl ?_
      refine fw_s1I h rfl fk_s_X7_withOfChange fk_l_X7_359 rfl rfl ?_
      refine c_X7_withOfChange hi ?_
      refine fw_iload_n h rfl rfl ?_
      refine fw_ishl h rfl ?_
      refine fw_ior h rfl ?_
      refine fw_istore h [_, _, _, _, _, _, _, _, _] rfl rfl rfl rfl ?_
      refine fw_aload_n h rfl rfl ?_
      refine fw_getR _ h rfl fk_g_X7_62 rfl rfl ?_
      refine fw_aload_n h rfl rfl ?_
      refine fw_getR _ h rfl fk_g_X7_49 rfl rfl ?_
      refine fw_iload h rfl rfl ?_
      refine fw_s1I h rfl fk_s_X7_ruleOfChange fk_l_X7_353 rfl rfl ?_
      refine c_X7_ruleOfChange hi ?_
      refine fw_iload h rfl rfl ?_
      refine fw_s1I h rfl fk_s_X7_stoodOfChange fk_l_X7_356 rfl rfl ?_
      refine c_X7_stoodOfChange hi ?_
      refine fw_iload h rfl rfl ?_
      refine fw_v4V h rfl fk_v_X4_rule fk_l_X7_290 rfl rfl rfl rfl ?_
      have eD3 : xD w3 = xD w := (hs3.eD (by decide)).trans eD2
      have hX3 := hs3.keep (by decide) hX2
      have e65 := (fx_fl (so := nI s) (fr := fr) (c := i)).resolve_right (fun z => z ⟨s, hs10, rfl⟩)
      rw [e65]
      refine c_X4_rule_c (m := fd_m (xD w) d) hX3 (by rw [eD3]; exact hA) ((congrFun (hs3.1 6 (by decide)) 5).trans hr.2.1) (by omega) (by omega) (fun r hr2 => by rw [eD3, hs3.1 41 (by decide), hs3.1 42 (by decide), hs3.1 43 (by decide)]; exact hr.2.2.1 r hr2) (by omega) (fun w4 hs4 q1 q2 q3 q4 => ?_)
      rw [eD3] at q2 q3 q4
      have hlt2 : fs_cq (xD w) nt d (nI (i / 4)) (nI (i / 2 % 2)) (fl_f (nI s) fr i) < 2 ^ fp_dbt (xD w 12) d (fd_m (xD w) d) := fp_mn_lt (Nat.two_pow_pos _)
      refine fw_aload_n h rfl rfl ?_
      refine fw_getR _ h rfl fk_g_X7_62 rfl rfl ?_
      refine fw_v0I h rfl fk_v_X4_dueSet fk_l_X7_321 rfl rfl rfl rfl ?_
      refine c_X4_dueSet_c q3 (Nat.lt_of_lt_of_le hlt2 (by omega)) ?_
      rw [show w4.1 45 (fp_mn (fs_vc (xD w) nt d (fd_m (xD w) d) (nI (i / 4)) (nI (i / 2 % 2)) (fl_f (nI s) fr i)) (2 ^ fp_dbt (xD w 12) d (fd_m (xD w) d))) = fs_cs (xD w) nt d (nI (i / 4)) (nI (i / 2 % 2)) (fl_f (nI s) fr i) from q2 _ hlt2]
      refine fw_iload h rfl rfl ?_
      refine fw_icmp_ne h rfl (fun c110 => ?_) (fun c110 => ?_)
      · first | refine fn_iinc h [_, _, _, _, _, _, _, _, _] rfl rfl rfl rfl rfl ?_ | refine fw_iinc h 1 [_, _, _, _, _, _, _, _, _] rfl (by decide) rfl rfl rfl rfl ?_
        refine fw_goto h rfl ?_
        have en : fp_mk (fun c => bt ch c && fx_ft (xD w) nt nx (nI s) fr d c) (i + 1) = fp_mk (fun c => bt ch c && fx_ft (xD w) nt nx (nI s) fr d c) i := fp_mk_s0 (fx_bc c110)
        refine fw_sub (fb_pad_c (Or.inr rfl) (fb_pad_c (Or.inr rfl) (fb_pad_c (Or.inr rfl) (fb_pad_c (Or.inr rfl) (fb_pad_c (Or.inr rfl) (fb_pad_c (Or.inr rfl) (fb_pad_c (Or.inr rfl) (fb_pad_c (Or.inr rfl) (fb_pad_c (Or.inl rfl) (fb_pad_n)))))))))) ?_
        rw [en] at ih
        exact ih w4 (hs3.tr hs4)
      · skip
        · refine fw_iload h rfl rfl ?_
          refine fw_iconst h (nI 1) rfl (by decide) ?_
          refine fw_iload h rfl rfl ?_
          refine fw_ishl h rfl ?_
          refine fw_ior h rfl ?_
          refine fw_istore h [_, _, _, _, _, _, _, _, _] rfl rfl rfl rfl ?_
          first | refine fn_iinc h [_, _, _, _, _, _, _, _, _] rfl rfl rfl rfl rfl ?_ | refine fw_iinc h 1 [_, _, _, _, _, _, _, _, _] rfl (by decide) rfl rfl rfl rfl ?_
          refine fw_goto h rfl ?_
          have en : fp_mk (fun c => bt ch c && fx_ft (xD w) nt nx (nI s) fr d c) (i + 1) = fp_mk (fun c => bt ch c && fx_ft (xD w) nt nx (nI s) fr d c) i ||| nI 1 <<< (nI i &&& 31) := fp_mk_s1 (fx_ba c52 c110)
          refine fw_sub (fb_pad_c (Or.inr rfl) (fb_pad_c (Or.inr rfl) (fb_pad_c (Or.inr rfl) (fb_pad_c (Or.inr rfl) (fb_pad_c (Or.inr rfl) (fb_pad_c (Or.inr rfl) (fb_pad_c (Or.inr rfl) (fb_pad_c (Or.inr rfl) (fb_pad_c (Or.inl rfl) (fb_pad_n)))))))))) ?_
          rw [en] at ih
          exact ih w4 (hs3.tr hs4)
    · refine fw_if_ne h rfl (fun c => absurd c (by decide)) (fun _ => ?_)
      skip
      · refine fw_goto h rfl ?_
        first | refine fn_iinc h [_, _, _, _, _, _, _, _, _] rfl rfl rfl rfl rfl ?_ | refine fw_iinc h 1 [_, _, _, _, _, _, _, _, _] rfl (by decide) rfl rfl rfl rfl ?_
        refine fw_goto h rfl ?_
        have en : fp_mk (fun c => bt ch c && fx_ft (xD w) nt nx (nI s) fr d c) (i + 1) = fp_mk (fun c => bt ch c && fx_ft (xD w) nt nx (nI s) fr d c) i := fp_mk_s0 (fx_bb c52)
        rw [en] at ih
        exact ih w3 hs3
theorem c_X7_changesThatFit {l : Launch} {w : fb_Wd} {P : Int32 → fb_Wd → Prop} {w0 : fb_Wd} {fr ch : Int32} {d s nt nd nx ng : Nat} (hX : XI w nt nd nx ng) (hx : fd_X (xD w) nx) (hs0 : xSL [6, 7, 8, 41, 42, 43, 44, 45] w w0) (hdn : d < nd) (hs10 : s < 10) (hp : ∀ w', xSL [6, 7, 8, 41, 42, 43, 44, 45] w w' → P (fp_mk (fun c => bt ch c && fx_ft (xD w) nt nx (nI s) fr d c) 16) w') : fb_Can l tX7_changesThatFit [.ref 0, .int (nI d), .int (nI s), .int fr, .int ch] w0 (fb_kI P) := by
  refine fb_intro 4 fk_t_X7_changesThatFit (by decide) rfl (fun X hX h => ?_)
  subst hX
  change fb_AW tX7_changesThatFit X 0 [some (.ref 0), some (.int (nI d)), some (.int (nI s)), some (.int fr), some (.int ch), none, none, none, none] [] w0
  refine fw_aload_n h rfl rfl ?_
  refine fw_iload_n h rfl rfl ?_
  refine fw_v1V h rfl fk_v_X7_ruleNow fk_l_X7_247 rfl rfl rfl rfl ?_
  have eD1 : xD w0 = xD w := hs0.eD (by decide)
  have hX1 := hs0.keep (by decide) hX
  have hA := hX.2.2.1 d hdn
  have hk := (hX1.kq d hdn).1
  rw [eD1] at hk
  refine c_X7_ruleNow hX1 (by rw [eD1]; exact hx) hdn (by rw [eD1]; exact hA) (by rw [eD1]; exact hk) (fun w2 hr => ?_)
  unfold xRN at hr
  rw [eD1] at hr
  have eD2 : xD w2 = xD w := (hr.1.eD (by decide)).trans eD1
  have hX2 := hr.1.keep (by decide) hX1
  have hlt : fs_dq (xD w) nt nx d < 2 ^ fp_dbt (xD w 12) d (fd_m (xD w) d) := fp_mn_lt (Nat.two_pow_pos _)
  have hp0 := Nat.two_pow_pos (fp_dbt (xD w 12) d (fd_m (xD w) d))
  have h5 : 2 ^ fp_dbt (xD w 12) d (fd_m (xD w) d) ≤ 2 ^ 5 := Nat.pow_le_pow_right (by decide) hA.2.2.2
  refine fw_aload_n h rfl rfl ?_
  refine fw_getR _ h rfl fk_g_X7_58 rfl rfl ?_
  refine fw_v0I h rfl fk_v_X4_dueSet fk_l_X7_321 rfl rfl rfl rfl ?_
  refine c_X4_dueSet_n hr.2.2.2.2.2.1 (Nat.lt_of_lt_of_le hlt (by omega)) ?_
  rw [show w2.1 44 (fs_qn (xD w) nt nx d (fd_m (xD w) d)) = fs_ds (xD w) nt nx d from hr.2.2.2.2.1 _ hlt]
  refine fw_istore h [_, _, _, _, _, _, _, _, _] rfl rfl rfl rfl ?_
  refine fw_iload h rfl rfl ?_
  refine fw_aload_n h rfl rfl ?_
  refine fw_getR _ h rfl fk_g_X7_19 rfl rfl ?_
  refine fw_iconst h (nI 1) rfl (by decide) ?_
  refine fw_iload_n h rfl rfl ?_
  refine fw_ishl h rfl ?_
  refine fw_v1I h rfl fk_v_X6_ofSorts fk_l_X7_234 rfl rfl rfl rfl ?_
  refine c_X6_ofSorts hX2.1.1.1 hX2.1.1.2 (fun t ht => (hX2.2.1 t ht).2.1) ?_
  rw [show w2.1 13 = xD w 1 by rw [← eD2]; rfl]
  refine fw_iconst h (-1) rfl (by decide) ?_
  refine fw_ixor h rfl ?_
  refine fw_iand h rfl ?_
  refine fw_if_ne h rfl (fun c29 => ?_) (fun c29 => ?_)
  · have ekp : fx_kp (xD w) nt nx (nI s) d = fs_ds (xD w) nt nx d := if_neg c29
    · refine fw_iconst h (nI 0) rfl (by decide) ?_
      refine fw_istore h [_, _, _, _, _, _, _, _, _] rfl rfl rfl rfl ?_
      refine fw_iconst h (nI 0) rfl (by decide) ?_
      refine fw_istore h [_, _, _, _, _, _, _, _, _] rfl rfl rfl rfl ?_
      have z := lp_ctf hX hx hs0 hdn hs10 hA eD2 hX2 hr hp0 h5 h hp
      rw [ekp] at z
      exact z
  · have ekp : fx_kp (xD w) nt nx (nI s) d = nI 0 := if_pos c29
    · refine fw_iconst h (nI 0) rfl (by decide) ?_
      refine fw_istore h [_, _, _, _, _, _, _, _, _] rfl rfl rfl rfl ?_
      refine fw_iconst h (nI 0) rfl (by decide) ?_
      refine fw_istore h [_, _, _, _, _, _, _, _, _] rfl rfl rfl rfl ?_
      refine fw_iconst h (nI 0) rfl (by decide) ?_
      refine fw_istore h [_, _, _, _, _, _, _, _, _] rfl rfl rfl rfl ?_
      have z := lp_ctf hX hx hs0 hdn hs10 hA eD2 hX2 hr hp0 h5 h hp
      rw [ekp] at z
      exact z
def fl_a (g : Nat → Nat → Bool) : Nat → Nat → Bool
  | 0, _ => true
  | i + 1, c => fl_a g i c && g i c
theorem fl_a_f {g : Nat → Nat → Bool} {i c : Nat} (h : fl_a g i c = false) : ∀ k, fl_a g (i + k) c = false
  | 0 => h
  | k + 1 => by rw [← Nat.add_assoc, fl_a, fl_a_f h k]; rfl
theorem fl_a_iff {g : Nat → Nat → Bool} {c : Nat} : ∀ {n : Nat}, fl_a g n c = true ↔ ∀ d, d < n → g d c = true
  | 0 => ⟨fun _ d hd => by omega, fun _ => rfl⟩
  | n + 1 => by
    rw [fl_a, Bool.and_eq_true, fl_a_iff (n := n)]
    constructor
    · rintro ⟨h1, h2⟩ d hd
      by_cases e : d = n
      · subst e; exact h2
      · exact h1 d (by omega)
    · exact fun h => ⟨fun d hd => h d (by omega), h n (by omega)⟩
theorem fl_a_0 {g : Nat → Nat → Bool} {i n : Nat} (hin : i ≤ n) (h : fp_mk (fl_a g i) 16 = 0) : fp_mk (fl_a g i) 16 = fp_mk (fl_a g n) 16 := by
  refine fp_mk_cg (fun c hc => ?_)
  have h1 : fl_a g i c = false := by
    have z := congrArg (fun x => bt x c) h
    simp only [b_0] at z
    rw [fp_mk_bt _ 16 (by decide) c (by omega), decide_eq_true hc, Bool.true_and] at z
    exact z
  obtain ⟨k, rfl⟩ : ∃ k, n = i + k := ⟨n - i, by omega⟩
  rw [h1, fl_a_f h1 k]
theorem lp_lc {X : fb_Cx} {w w1 : fb_Wd} {P : Int32 → fb_Wd → Prop} {fr : Int32} {s nt nd nx : Nat} (hs : xSL [6, 7, 8, 41, 42, 43, 44, 45] w w1) (hn : (∀ c, c < 16 → fl_a (fx_ft (xD w) nt nx (nI s) fr) nd c = false) → ∀ w', xSL [6, 7, 8, 41, 42, 43, 44, 45] w w' → P (-9) w') (hg : ∀ c, c < 16 → (∀ q, q < c → fl_a (fx_ft (xD w) nt nx (nI s) fr) nd q = false) → fl_a (fx_ft (xD w) nt nx (nI s) fr) nd c = true → ∀ w', xSL [6, 7, 8, 41, 42, 43, 44, 45] w w' → P (nI (100 * (c / 4) + 10 * (c / 2 % 2) + c % 2)) w') (h : fb_Ok tX7_leastChange X (fb_kI P)) : fb_AW tX7_leastChange X 60 [some (.ref 0), some (.int (nI s)), some (.int fr), some (.int (fp_mk (fl_a (fx_ft (xD w) nt nx (nI s) fr) nd) 16)), some (.int (nI 0))] [] w1 := by
  refine (?_ : (∀ c, c < 0 → fl_a (fx_ft (xD w) nt nx (nI s) fr) nd c = false) → fb_AW tX7_leastChange X 60 [some (.ref 0), some (.int (nI s)), some (.int fr), some (.int (fp_mk (fl_a (fx_ft (xD w) nt nx (nI s) fr) nd) 16)), some (.int (nI 0))] [] w1) (fun c hc => by omega)
  refine fb_loop (fun i => (∀ c, c < i → fl_a (fx_ft (xD w) nt nx (nI s) fr) nd c = false) → fb_AW tX7_leastChange X 60 [some (.ref 0), some (.int (nI s)), some (.int fr), some (.int (fp_mk (fl_a (fx_ft (xD w) nt nx (nI s) fr) nd) 16)), some (.int (nI i))] [] w1) (16) ?_ (fun i hi ih => ?_) 0 (Nat.zero_le _)
  · intro hno
    refine fw_iload h rfl rfl ?_
    refine fw_bipush h (nI 16) rfl (by decide) ?_
    refine fw_icmp_ge h rfl (fun c64 => ?_) (fun c64 => False.elim (c64 (by decide)))
    refine fw_bipush h (-9) rfl (by decide) ?_
    exact fw_iret h rfl rfl ⟨_, rfl, hn hno w1 hs⟩
  · intro hno
    refine fw_iload h rfl rfl ?_
    refine fw_bipush h (nI 16) rfl (by decide) ?_
    refine fw_icmp_ge h rfl (fun c64 => False.elim (nI_ge hi (by decide) c64)) (fun c64 => ?_)
    refine fw_iload_n h rfl rfl ?_
    refine fw_iload h rfl rfl ?_
    refine fw_s2I h rfl fk_s_X7_isIn fk_l_X7_154 rfl rfl ?_
    refine c_X7_isIn rfl (by omega) (fun c70 => ?_) (fun c70 => ?_)
    all_goals rw [fp_mk_bt _ 16 (by decide) i (by omega), decide_eq_true hi, Bool.true_and] at c70
    · refine fw_if_eq h rfl (fun c => absurd c (by decide)) (fun _ => ?_)
      refine fw_bipush h (nI 100) rfl (by decide) ?_
      refine fw_iload h rfl rfl ?_
      refine fw_s1I h rfl fk_s_X7_ruleOfChange fk_l_X7_353 rfl rfl ?_
      refine c_X7_ruleOfChange hi ?_
      first | refine fn_imul h rfl ?_ | refine fw_imul h rfl ?_
      refine fw_iload h rfl rfl ?_
      refine fw_s1I h rfl fk_s_X7_stoodOfChange fk_l_X7_356 rfl rfl ?_
      refine c_X7_stoodOfChange hi ?_
      refine fw_if_eq h rfl (fun c89 => ?_) (fun c89 => ?_)
      · have e10 : nI 0 = nI (10 * (i / 2 % 2)) := by rw [show i / 2 % 2 = 0 from (nI_eq (b := 0) (by omega) (by decide)).mp c89]
        refine fw_iconst h (nI 0) rfl (by decide) ?_
        rw [e10]
        · first | refine fn_iadd h rfl ?_ | refine fw_iadd h rfl ?_
          refine fw_iload h rfl rfl ?_
          refine fw_s1I h rfl fk_s_X7_withOfChange fk_l_X7_359 rfl rfl ?_
          refine c_X7_withOfChange hi ?_
          first | refine fn_iadd h rfl ?_ | refine fw_iadd h rfl ?_
          exact fw_iret h rfl rfl ⟨_, rfl, hg i hi hno c70 w1 hs⟩
      · have e10 : nI 10 = nI (10 * (i / 2 % 2)) := by rw [show i / 2 % 2 = 1 from (Nat.mod_two_eq_zero_or_one _).resolve_left (fun y => c89 (by rw [y]; rfl))]
        refine fw_bipush h (nI 10) rfl (by decide) ?_
        refine fw_goto h rfl ?_
        rw [e10]
        · first | refine fn_iadd h rfl ?_ | refine fw_iadd h rfl ?_
          refine fw_iload h rfl rfl ?_
          refine fw_s1I h rfl fk_s_X7_withOfChange fk_l_X7_359 rfl rfl ?_
          refine c_X7_withOfChange hi ?_
          first | refine fn_iadd h rfl ?_ | refine fw_iadd h rfl ?_
          exact fw_iret h rfl rfl ⟨_, rfl, hg i hi hno c70 w1 hs⟩
    · refine fw_if_eq h rfl (fun _ => ?_) (fun c => absurd c (by decide))
      first | refine fn_iinc h [_, _, _, _, _] rfl rfl rfl rfl rfl ?_ | refine fw_iinc h 1 [_, _, _, _, _] rfl (by decide) rfl rfl rfl rfl ?_
      refine fw_goto h rfl ?_
      refine ih (fun c hc => ?_)
      by_cases e : c = i
      · subst e; exact c70
      · exact hno c (by omega)
theorem c_X7_leastChange {l : Launch} {w : fb_Wd} {P : Int32 → fb_Wd → Prop} {nt nd nx ng : Nat} (hX : XI w nt nd nx ng) (hx : fd_X (xD w) nx) {so fr : Int32} (hb : ¬ ((∃ s, s < 10 ∧ so = nI s) ∧ (0 ≤ fr ∧ fr ≤ 1023)) → P (-1) w) (hn : (∃ s, s < 10 ∧ so = nI s) → (0 ≤ fr ∧ fr ≤ 1023) → (∀ c, c < 16 → fl_a (fx_ft (xD w) nt nx so fr) nd c = false) → ∀ w', xSL [6, 7, 8, 41, 42, 43, 44, 45] w w' → P (-9) w') (hg : ∀ s, s < 10 → so = nI s → (0 ≤ fr ∧ fr ≤ 1023) → ∀ c, c < 16 → (∀ q, q < c → fl_a (fx_ft (xD w) nt nx so fr) nd q = false) → fl_a (fx_ft (xD w) nt nx so fr) nd c = true → ∀ w', xSL [6, 7, 8, 41, 42, 43, 44, 45] w w' → P (nI (100 * (c / 4) + 10 * (c / 2 % 2) + c % 2)) w') : fb_Can l tX7_leastChange [.ref 0, .int so, .int fr] w (fb_kI P) := by
  refine fb_intro 2 fk_t_X7_leastChange (by decide) rfl (fun X hX h => ?_)
  subst hX
  change fb_AW tX7_leastChange X 0 [some (.ref 0), some (.int so), some (.int fr), none, none] [] w
  refine fw_iload_n h rfl rfl ?_
  refine fw_bipush h (nI 10) rfl (by decide) ?_
  refine fw_s2I h rfl fk_s_X7_isBelow fk_l_X7_83 rfl rfl ?_
  refine c_X7_isBelow (by decide) (fun s hs10 es => ?_) (fun c3 => ?_)
  · refine fw_if_eq h rfl (fun c => absurd c (by decide)) (fun _ => ?_)
    refine fw_iload_n h rfl rfl ?_
    refine fw_s1I h rfl fk_s_X7_areSorts fk_l_X7_314 rfl rfl ?_
    refine c_X7_areSorts (fun c10a c10b => ?_) (fun c10 => ?_)
    · refine fw_if_ne h rfl (fun _ => ?_) (fun c => absurd c (by decide))
      subst es
      have hnd := hX.1.2.1.2
      refine fw_ldcw h 65535 rfl (fb_mT 749 (by decide +kernel) (by decide +kernel)) ?_
      rw [show (65535 : Int32) = fp_mk (fun _ => true) 16 from by decide +kernel]
      refine fw_istore_n h [_, _, _, _, _] rfl rfl rfl rfl ?_
      refine fw_iconst h (nI 0) rfl (by decide) ?_
      refine fw_istore h [_, _, _, _, _] rfl rfl rfl rfl ?_
      refine (?_ : ∀ w1, xSL [6, 7, 8, 41, 42, 43, 44, 45] w w1 → fb_AW tX7_leastChange X 25 [some (.ref 0), some (.int (nI s)), some (.int fr), some (.int (fp_mk (fl_a (fx_ft (xD w) nt nx (nI s) fr) 0) 16)), some (.int (nI 0))] [] w1) w (xSL.rf _ w)
      refine fb_loop (fun i => ∀ w1, xSL [6, 7, 8, 41, 42, 43, 44, 45] w w1 → fb_AW tX7_leastChange X 25 [some (.ref 0), some (.int (nI s)), some (.int fr), some (.int (fp_mk (fl_a (fx_ft (xD w) nt nx (nI s) fr) i) 16)), some (.int (nI i))] [] w1) (nd) ?_ (fun i hi ih => ?_) 0 (Nat.zero_le _)
      · intro w1 hs
        have eD : xD w1 = xD w := hs.eD (by decide)
        have hX1 := hs.keep (by decide) hX
        refine fw_iload h rfl rfl ?_
        refine fw_aload_n h rfl rfl ?_
        refine fw_getR _ h rfl fk_g_X7_26 rfl rfl ?_
        refine fw_getIv (nI nd) h rfl fk_g_X7_150 rfl rfl (hX1.1.2.1.1) ?_
        refine fw_icmp_ge h rfl (fun c34 => ?_) (fun c34 => False.elim (c34 (Int32.le_refl _)))
        refine fw_iconst h (nI 0) rfl (by decide) ?_
        refine fw_istore h [_, _, _, _, _] rfl rfl rfl rfl ?_
        exact lp_lc hs (hn ⟨s, hs10, rfl⟩ ⟨c10a, c10b⟩) (hg s hs10 rfl ⟨c10a, c10b⟩) h
      · intro w1 hs
        have eD : xD w1 = xD w := hs.eD (by decide)
        have hX1 := hs.keep (by decide) hX
        refine fw_iload h rfl rfl ?_
        refine fw_aload_n h rfl rfl ?_
        refine fw_getR _ h rfl fk_g_X7_26 rfl rfl ?_
        refine fw_getIv (nI nd) h rfl fk_g_X7_150 rfl rfl (hX1.1.2.1.1) ?_
        refine fw_icmp_ge h rfl (fun c34 => False.elim (nI_ge hi (by omega) c34)) (fun c34 => ?_)
        refine fw_iload_n h rfl rfl ?_
        refine fw_if_eq h rfl (fun c38 => ?_) (fun c38 => ?_)
        · rw [fl_a_0 (n := nd) (by omega) c38]
          · refine fw_iconst h (nI 0) rfl (by decide) ?_
            refine fw_istore h [_, _, _, _, _] rfl rfl rfl rfl ?_
            exact lp_lc hs (hn ⟨s, hs10, rfl⟩ ⟨c10a, c10b⟩) (hg s hs10 rfl ⟨c10a, c10b⟩) h
        · refine fw_aload_n h rfl rfl ?_
          refine fw_iload h rfl rfl ?_
          refine fw_iload_n h rfl rfl ?_
          refine fw_iload_n h rfl rfl ?_
          refine fw_iload_n h rfl rfl ?_
          refine fw_v4I h rfl fk_v_X7_changesThatFit fk_l_X7_350 rfl rfl rfl rfl ?_
          refine c_X7_changesThatFit hX hx hs hi hs10 (fun w2 hs2 => ?_)
          rw [show fp_mk (fun c => bt (fp_mk (fl_a (fx_ft (xD w) nt nx (nI s) fr) i) 16) c && fx_ft (xD w) nt nx (nI s) fr i c) 16 = fp_mk (fl_a (fx_ft (xD w) nt nx (nI s) fr) (i + 1)) 16 from fp_mk_cg (fun c hc => by rw [fp_mk_bt _ 16 (by decide) c (by omega), decide_eq_true hc, Bool.true_and]; rfl)]
          refine fw_istore_n h [_, _, _, _, _] rfl rfl rfl rfl ?_
          first | refine fn_iinc h [_, _, _, _, _] rfl rfl rfl rfl rfl ?_ | refine fw_iinc h 1 [_, _, _, _, _] rfl (by decide) rfl rfl rfl rfl ?_
          refine fw_goto h rfl ?_
          exact ih w2 hs2
    · refine fw_if_ne h rfl (fun c => absurd c (by decide)) (fun _ => ?_)
      refine fw_iconst h (-1) rfl (by decide) ?_
      exact fw_iret h rfl rfl ⟨_, rfl, hb (fun z => by first | exact c3 z.1 | exact c10 z.2)⟩
  · refine fw_if_eq h rfl (fun _ => ?_) (fun c => absurd c (by decide))
    refine fw_iconst h (-1) rfl (by decide) ?_
    exact fw_iret h rfl rfl ⟨_, rfl, hb (fun z => by first | exact c3 z.1 | exact c10 z.2)⟩
