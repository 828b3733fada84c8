def xD (w : fb_Wd) : Nat → Nat → Int32
  | 0 => w.1 12
  | 1 => w.1 13
  | 2 => w.1 14
  | 3 => w.1 15
  | 4 => w.1 16
  | 5 => w.1 22
  | 6 => w.1 23
  | 7 => w.1 24
  | 8 => w.1 25
  | 9 => w.1 27
  | 10 => w.1 28
  | 11 => w.1 29
  | 12 => w.1 30
  | 13 => fd_c8 (w.1 31)
  | 14 => fd_c8 (w.1 32)
  | 15 => fd_c8 (w.1 33)
  | 16 => fd_c8 (w.1 34)
  | 17 => w.1 35
  | 18 => w.1 36
  | 19 => w.1 37
  | 20 => w.1 38
  | 21 => w.1 39
  | 22 => w.1 40
  | 23 => fd_s4 (w.1 2 12) (w.1 3 9) (w.1 4 4) (w.1 5 6)
  | _ => fun _ => 0
theorem fp_orF_1 {g : Nat → Int32} {i : Nat} {x : Int32} (e : g i = x) : fp_orF g (i + 1) = fp_orF g i ||| x := by rw [fp_orF, e]
theorem fp_orF_0 {g : Nat → Int32} {i : Nat} (e : g i = nI 0) : fp_orF g (i + 1) = fp_orF g i := by rw [fp_orF, e, fq_inv_or0]
def fx_ac (D : Nat → Nat → Int32) (d : Nat) (so s : Int32) (m : Nat) : Int32 := fp_orF (fun k => if D 9 (10 * d + k) = s ∧ bt so k = true then fx_bo (D 10 (10 * d + k)) else nI 0) m
def fx_mb (D : Nat → Nat → Int32) (d : Nat) (so t : Int32) (m : Nat) : Int32 := fp_orF (fun k => if bt so k = true ∧ D 10 (10 * d + k) = t then fx_bo (D 11 (10 * d + k)) else nI 0) m
def fx_mr (D : Nat → Nat → Int32) (d : Nat) (so t : Int32) (m : Nat) : Int32 := fp_orF (fun k => if bt so k = true ∧ D 11 (10 * d + k) = t then fx_bo (D 10 (10 * d + k)) else nI 0) m
theorem fp_or_bt {a b : Int32} {i : Nat} : bt (a ||| b) i = true ↔ bt a i = true ∨ bt b i = true := by rw [b_or, Bool.or_eq_true]
theorem fx_ht_eq {D : Nat → Nat → Int32} {nt d m : Nat} (hA : fd_A D nt d m) (hn : nt ≤ 20) (so : Int32) : fx_ac D d so (nI 2) m ||| fx_ac D d so (nI 3) m = fs_ht D d so m := by
  apply b_ext
  intro i hi
  apply Bool.eq_iff_iff.mpr
  rw [fp_or_bt]
  unfold fx_ac fs_ht
  rw [fp_orF_bt, fp_orF_bt, fp_orF_bt]
  constructor
  · rintro (⟨k, hk, h⟩ | ⟨k, hk, h⟩)
    all_goals
      refine ⟨k, hk, ?_⟩
      obtain ⟨s, a, hs, es, ha, ea, -⟩ := hA.2.2.1 k hk
      split at h
      · rename_i q
        have h2 := fx_bo_n (k := a) (by omega)
        rw [ea, h2] at h
        rw [ea, if_pos ⟨q.2, by rw [q.1]; decide⟩]
        exact h
      · rw [nI_0, b_0] at h; cases h
  · rintro ⟨k, hk, h⟩
    obtain ⟨s, a, hs, es, ha, ea, -⟩ := hA.2.2.1 k hk
    split at h
    · rename_i q
      have h2 := fx_bo_n (k := a) (by omega)
      rw [es] at q
      have hs2 : s = 2 ∨ s = 3 := by
        have z : ¬ s ≤ 1 := fun y => q.2 (nI_le y (by decide))
        omega
      rcases hs2 with rfl | rfl
      · refine Or.inl ⟨k, hk, ?_⟩
        rw [if_pos ⟨es, q.1⟩, ea, h2]
        rw [ea] at h
        exact h
      · refine Or.inr ⟨k, hk, ?_⟩
        rw [if_pos ⟨es, q.1⟩, ea, h2]
        rw [ea] at h
        exact h
    · rw [nI_0, b_0] at h; cases h
theorem fs_ad_st {su : Nat → Int32} {d q i : Nat} (h : q < fp_dbt su d i) : ∀ k, fs_ad su d q (i + k) = fs_ad su d q i
  | 0 => rfl
  | k + 1 => by
    rw [← Nat.add_assoc, fs_ad_0, fs_ad_st h k]
    intro z
    have h2 : fp_dbt su d i ≤ fp_dbt su d (i + k) := by
      clear z
      induction k with
      | zero => exact Nat.le_refl _
      | succ k ih =>
        refine Nat.le_trans ih ?_
        show fp_cnt _ (i + k) ≤ fp_cnt _ (i + k + 1)
        rw [fp_cnt]
        exact Nat.le_add_right _ _
    have h3 := z.2
    omega
theorem c_X0_has {l : Launch} {w : fb_Wd} {P : Int32 → fb_Wd → Prop} {a : Int32} {n : Nat} (hn : w.1 3 9 = nI n) (hn2 : n ≤ 12) (ht : ∀ j, j < n → a = nI j → P 1 w) (hf : ¬ (∃ j, j < n ∧ a = nI j) → P 0 w) : fb_Can l tX0_has [.ref 3, .int a] w (fb_kI P) := by
  refine fb_intro 0 fk_t_X0_has (by decide) rfl (fun X hX h => ?_)
  subst hX
  change fb_AW tX0_has X 0 [some (.ref 3), some (.int a)] [] w
  refine fw_iload_n h rfl rfl ?_
  refine fw_aload_n h rfl rfl ?_
  refine fw_getI h rfl fk_g_X0_40 rfl rfl ?_
  rw [hn]
  refine fw_s2I h rfl fk_s_X7_isBelow fk_l_X0_44 rfl rfl ?_
  refine c_X7_isBelow (by omega) (fun j hj e => ?_) (fun c5 => ?_)
  · exact fw_zret h rfl rfl (by first | exact Or.inl rfl | exact Or.inr rfl | assumption) ⟨_, rfl, ht j hj e⟩
  · exact fw_zret h rfl rfl (by first | exact Or.inl rfl | exact Or.inr rfl | assumption) ⟨_, rfl, hf c5⟩
theorem c_X0_readings {l : Launch} {w : fb_Wd} {P : Int32 → fb_Wd → Prop} {d k : Nat} (hd : d < 12) (hk : w.1 26 d = nI k) (hk2 : k ≤ 10) (hp : P (nI (2 ^ k)) w) : fb_Can l tX0_readings [.ref 3, .int (nI d)] w (fb_kI P) := by
  refine fb_intro 0 fk_t_X0_readings (by decide) rfl (fun X hX h => ?_)
  subst hX
  change fb_AW tX0_readings X 0 [some (.ref 3), some (.int (nI d))] [] w
  refine fw_iconst h (nI 1) rfl (by decide) ?_
  refine fw_aload_n h rfl rfl ?_
  refine fw_getR _ h rfl fk_g_X0_24 rfl rfl ?_
  refine fw_iload_n h rfl rfl ?_
  refine fn_iald h rfl rfl (by omega) rfl ?_
  rw [hk]
  refine fw_ishl h rfl ?_
  exact fw_iret h rfl rfl ⟨_, rfl, by rw [fp_pow _ (by omega)]; exact hp⟩
theorem c_X0_hasReading {l : Launch} {w : fb_Wd} {P : Int32 → fb_Wd → Prop} {a r : Int32} {n : Nat} {kq : Nat → Nat} (hn : w.1 3 9 = nI n) (hn2 : n ≤ 12) (hk : ∀ j, j < n → w.1 26 j = nI (kq j) ∧ kq j ≤ 5) (ht : ∀ j k, j < n → a = nI j → k < 2 ^ kq j → r = nI k → P 1 w) (hf : ¬ (∃ j k, j < n ∧ a = nI j ∧ k < 2 ^ kq j ∧ r = nI k) → P 0 w) : fb_Can l tX0_hasReading [.ref 3, .int a, .int r] w (fb_kI P) := by
  refine fb_intro 0 fk_t_X0_hasReading (by decide) rfl (fun X hX h => ?_)
  subst hX
  change fb_AW tX0_hasReading X 0 [some (.ref 3), some (.int a), some (.int r)] [] w
  refine fw_aload_n h rfl rfl ?_
  refine fw_iload_n h rfl rfl ?_
  refine fw_v1I h rfl fk_v_X0_has fk_l_X0_48 rfl rfl rfl rfl ?_
  refine c_X0_has hn hn2 (fun j hj e => ?_) (fun c2 => ?_)
  · refine fw_if_eq h rfl (fun c => absurd c (by decide)) (fun _ => ?_)
    subst e
    refine fw_iload_n h rfl rfl ?_
    refine fw_aload_n h rfl rfl ?_
    refine fw_iload_n h rfl rfl ?_
    refine fw_v1I h rfl fk_v_X0_readings fk_l_X0_52 rfl rfl rfl rfl ?_
    refine c_X0_readings (by omega) (hk j hj).1 (by have := (hk j hj).2; omega) ?_
    refine fw_s2I h rfl fk_s_X7_isBelow fk_l_X0_44 rfl rfl ?_
    refine c_X7_isBelow (by have := Nat.pow_le_pow_right (n := 2) (by decide) (hk j hj).2; omega) (fun k hk2 ek => ?_) (fun c14 => ?_)
    · refine fw_if_eq h rfl (fun c => absurd c (by decide)) (fun _ => ?_)
      refine fw_iconst h (nI 1) rfl (by decide) ?_
      refine fw_goto h rfl ?_
      exact fw_zret h rfl rfl (by first | exact Or.inl rfl | exact Or.inr rfl | assumption) ⟨_, rfl, ht j k hj rfl hk2 ek⟩
    · refine fw_if_eq h rfl (fun _ => ?_) (fun c => absurd c (by decide))
      refine fw_iconst h (nI 0) rfl (by decide) ?_
      exact fw_zret h rfl rfl (by first | exact Or.inl rfl | exact Or.inr rfl | assumption) ⟨_, rfl, hf (by first | (rintro ⟨j2, k2, z1, z2, -⟩; exact c2 ⟨j2, z1, z2⟩) | (rintro ⟨j2, k2, z1, z2, z3, z4⟩; have e2 := (nI_eq (by omega) (by omega)).mp z2; subst e2; exact c14 ⟨k2, z3, z4⟩))⟩
  · refine fw_if_eq h rfl (fun _ => ?_) (fun c => absurd c (by decide))
    refine fw_iconst h (nI 0) rfl (by decide) ?_
    exact fw_zret h rfl rfl (by first | exact Or.inl rfl | exact Or.inr rfl | assumption) ⟨_, rfl, hf (by first | (rintro ⟨j2, k2, z1, z2, -⟩; exact c2 ⟨j2, z1, z2⟩) | (rintro ⟨j2, k2, z1, z2, z3, z4⟩; have e2 := (nI_eq (by omega) (by omega)).mp z2; subst e2; exact c14 ⟨k2, z3, z4⟩))⟩
theorem c_X0_isWithin {l : Launch} {w : fb_Wd} {P : Int32 → fb_Wd → Prop} {d : Nat} {a b : Int32} (hd : d < 12) (ht : a ≤ w.1 23 d → w.1 23 d ≤ b → P 1 w) (hf : ¬ (a ≤ w.1 23 d ∧ w.1 23 d ≤ b) → P 0 w) : fb_Can l tX0_isWithin [.ref 3, .int (nI d), .int a, .int b] w (fb_kI P) := by
  refine fb_intro 0 fk_t_X0_isWithin (by decide) rfl (fun X hX h => ?_)
  subst hX
  change fb_AW tX0_isWithin X 0 [some (.ref 3), some (.int (nI d)), some (.int a), some (.int b)] [] w
  refine fw_aload_n h rfl rfl ?_
  refine fw_getR _ h rfl fk_g_X0_15 rfl rfl ?_
  refine fw_iload_n h rfl rfl ?_
  refine fn_iald h rfl rfl (by omega) rfl ?_
  refine fw_iload_n h rfl rfl ?_
  refine fw_iload_n h rfl rfl ?_
  refine fw_s3I h rfl fk_s_X7_isBetween fk_l_X0_56 rfl rfl ?_
  refine c_X7_isBetween (fun c8a c8b => ?_) (fun c8 => ?_)
  · exact fw_zret h rfl rfl (by first | exact Or.inl rfl | exact Or.inr rfl | assumption) ⟨_, rfl, ht c8a c8b⟩
  · exact fw_zret h rfl rfl (by first | exact Or.inl rfl | exact Or.inr rfl | assumption) ⟨_, rfl, hf c8⟩
theorem c_X0_add {l : Launch} {w : fb_Wd} {P : Int32 → fb_Wd → Prop} {p y t : Int32} {n : Nat} (hn : w.1 3 9 = nI n) (hn2 : n < 12) (hp : P (nI n) (fb_up (fb_up (fb_up (fb_up w 3 9 (nI (n + 1))) 22 n p) 23 n y) 24 n t)) : fb_Can l tX0_add [.ref 3, .int p, .int y, .int t] w (fb_kI P) := by
  refine fb_intro 1 fk_t_X0_add (by decide) rfl (fun X hX h => ?_)
  subst hX
  change fb_AW tX0_add X 0 [some (.ref 3), some (.int p), some (.int y), some (.int t), none] [] w
  refine fw_aload_n h rfl rfl ?_
  refine fw_getIv (nI n) h rfl fk_g_X0_40 rfl rfl (hn) ?_
  refine fw_istore h [_, _, _, _, _] rfl rfl rfl rfl ?_
  refine fw_aload_n h rfl rfl ?_
  refine fw_dup h rfl rfl ?_
  refine fw_getIv (nI n) h rfl fk_g_X0_40 rfl rfl (hn) ?_
  refine fw_iconst h (nI 1) rfl (by decide) ?_
  first | refine fn_iadd h rfl ?_ | refine fw_iadd h rfl ?_
  refine fw_putI h rfl fk_p_X0_40 rfl rfl ?_
  refine fw_aload_n h rfl rfl ?_
  refine fw_getR _ h rfl fk_g_X0_9 rfl rfl ?_
  refine fw_iload h rfl rfl ?_
  refine fw_iload_n h rfl rfl ?_
  refine fn_iast h rfl rfl (by omega) rfl ?_
  refine fw_aload_n h rfl rfl ?_
  refine fw_getR _ h rfl fk_g_X0_15 rfl rfl ?_
  refine fw_iload h rfl rfl ?_
  refine fw_iload_n h rfl rfl ?_
  refine fn_iast h rfl rfl (by omega) rfl ?_
  refine fw_aload_n h rfl rfl ?_
  refine fw_getR _ h rfl fk_g_X0_18 rfl rfl ?_
  refine fw_iload h rfl rfl ?_
  refine fw_iload_n h rfl rfl ?_
  refine fn_iast h rfl rfl (by omega) rfl ?_
  refine fw_iload h rfl rfl ?_
  exact fw_iret h rfl rfl ⟨_, rfl, hp⟩
def fx_pa (w : fb_Wd) (d m : Nat) (s a b z : Int32) : fb_Wd := fb_up (fb_up (fb_up (fb_up (fb_up w 27 (10 * d + m) s) 28 (10 * d + m) a) 29 (10 * d + m) b) 30 (10 * d + m) z) 25 d (w.1 25 d + 1)
def fx_pd (w : fb_Wd) (d m : Nat) (s a b z : Int32) : fb_Wd := fb_up (fx_pa w d m s a b z) 26 d (w.1 26 d + 1)
theorem c_X0_addAct {l : Launch} {w : fb_Wd} {P : fb_Wd → Prop} {d m : Nat} {s a b z : Int32} (hd : d < 12) (hm : w.1 25 d = nI m) (hm2 : m < 10) (hz : z = 0 ∨ z = 1) (hp : ∀ b2, (s = 1 → b2 = b) → (¬ s = 1 → b2 = -9) → (¬ z = 0 → P (fx_pa w d m s a b2 z)) ∧ (z = 0 → P (fx_pd w d m s a b2 z))) : fb_Can l tX0_addAct [.ref 3, .int (nI d), .int s, .int a, .int b, .int z] w (fb_kV P) := by
  refine fb_intro 1 fk_t_X0_addAct (by decide) rfl (fun X hX h => ?_)
  subst hX
  change fb_AW tX0_addAct X 0 [some (.ref 3), some (.int (nI d)), some (.int s), some (.int a), some (.int b), some (.int z), none] [] w
  refine fw_iload_n h rfl rfl ?_
  refine fw_bipush h (nI 10) rfl (by decide) ?_
  refine fn_imulc h rfl ?_
  refine fw_aload_n h rfl rfl ?_
  refine fw_getR _ h rfl fk_g_X0_21 rfl rfl ?_
  refine fw_iload_n h rfl rfl ?_
  refine fn_iald h rfl rfl (by omega) rfl ?_
  rw [hm]
  first | refine fn_iadd h rfl ?_ | refine fw_iadd h rfl ?_
  refine fw_istore h [_, _, _, _, _, _, _] rfl rfl rfl rfl ?_
  refine fw_aload_n h rfl rfl ?_
  refine fw_getR _ h rfl fk_g_X0_27 rfl rfl ?_
  refine fw_iload h rfl rfl ?_
  refine fw_iload_n h rfl rfl ?_
  refine fn_iast h rfl rfl (by omega) rfl ?_
  refine fw_aload_n h rfl rfl ?_
  refine fw_getR _ h rfl fk_g_X0_30 rfl rfl ?_
  refine fw_iload h rfl rfl ?_
  refine fw_iload_n h rfl rfl ?_
  refine fn_iast h rfl rfl (by omega) rfl ?_
  refine fw_aload_n h rfl rfl ?_
  refine fw_getR _ h rfl fk_g_X0_33 rfl rfl ?_
  refine fw_iload h rfl rfl ?_
  refine fw_iload_n h rfl rfl ?_
  refine fw_iconst h (nI 1) rfl (by decide) ?_
  refine fw_icmp_ne h rfl (fun c37 => ?_) (fun c37 => ?_)
  · skip
    · refine fw_bipush h (-9) rfl (by decide) ?_
      refine fn_iast h rfl rfl (by omega) rfl ?_
      refine fw_aload_n h rfl rfl ?_
      refine fw_getR _ h rfl fk_g_X0_36 rfl rfl ?_
      refine fw_iload h rfl rfl ?_
      refine fw_iload h rfl rfl ?_
      refine fn_zast h rfl rfl (by omega) rfl (by first | assumption | decide) ?_
      refine fw_aload_n h rfl rfl ?_
      refine fw_getR _ h rfl fk_g_X0_21 rfl rfl ?_
      refine fw_iload_n h rfl rfl ?_
      refine fw_dup2 h rfl rfl rfl ?_
      refine fn_iald h rfl rfl (hd) rfl ?_
      refine fw_iconst h (nI 1) rfl (by decide) ?_
      first | refine fn_iadd h rfl ?_ | refine fw_iadd h rfl ?_
      refine fn_iast h rfl rfl (hd) rfl ?_
      refine fw_iload h rfl rfl ?_
      refine fw_if_ne h rfl (fun c69 => ?_) (fun c69 => ?_)
      · exact fw_vret h rfl rfl ⟨rfl, (hp (-9) (fun q => absurd q c37) (fun _ => rfl)).1 c69⟩
      · skip
        · refine fw_aload_n h rfl rfl ?_
          refine fw_getR _ h rfl fk_g_X0_24 rfl rfl ?_
          refine fw_iload_n h rfl rfl ?_
          refine fw_dup2 h rfl rfl rfl ?_
          refine fn_iald h rfl rfl (hd) rfl ?_
          refine fw_iconst h (nI 1) rfl (by decide) ?_
          first | refine fn_iadd h rfl ?_ | refine fw_iadd h rfl ?_
          refine fn_iast h rfl rfl (hd) rfl ?_
          exact fw_vret h rfl rfl ⟨rfl, (hp (-9) (fun q => absurd q c37) (fun _ => rfl)).2 c69⟩
  · skip
    · refine fw_iload h rfl rfl ?_
      refine fw_goto h rfl ?_
      refine fn_iast h rfl rfl (by omega) rfl ?_
      refine fw_aload_n h rfl rfl ?_
      refine fw_getR _ h rfl fk_g_X0_36 rfl rfl ?_
      refine fw_iload h rfl rfl ?_
      refine fw_iload h rfl rfl ?_
      refine fn_zast h rfl rfl (by omega) rfl (by first | assumption | decide) ?_
      refine fw_aload_n h rfl rfl ?_
      refine fw_getR _ h rfl fk_g_X0_21 rfl rfl ?_
      refine fw_iload_n h rfl rfl ?_
      refine fw_dup2 h rfl rfl rfl ?_
      refine fn_iald h rfl rfl (hd) rfl ?_
      refine fw_iconst h (nI 1) rfl (by decide) ?_
      first | refine fn_iadd h rfl ?_ | refine fw_iadd h rfl ?_
      refine fn_iast h rfl rfl (hd) rfl ?_
      refine fw_iload h rfl rfl ?_
      refine fw_if_ne h rfl (fun c69 => ?_) (fun c69 => ?_)
      · exact fw_vret h rfl rfl ⟨rfl, (hp b (fun _ => rfl) (fun q => absurd c37 q)).1 c69⟩
      · skip
        · refine fw_aload_n h rfl rfl ?_
          refine fw_getR _ h rfl fk_g_X0_24 rfl rfl ?_
          refine fw_iload_n h rfl rfl ?_
          refine fw_dup2 h rfl rfl rfl ?_
          refine fn_iald h rfl rfl (hd) rfl ?_
          refine fw_iconst h (nI 1) rfl (by decide) ?_
          first | refine fn_iadd h rfl ?_ | refine fw_iadd h rfl ?_
          refine fn_iast h rfl rfl (hd) rfl ?_
          exact fw_vret h rfl rfl ⟨rfl, (hp b (fun _ => rfl) (fun q => absurd c37 q)).2 c69⟩
theorem c_X0_dropActs {l : Launch} {w : fb_Wd} {P : fb_Wd → Prop} {d : Nat} (hd : d < 12) (hp : P (fb_up (fb_up w 25 d (nI 0)) 26 d (nI 0))) : fb_Can l tX0_dropActs [.ref 3, .int (nI d)] w (fb_kV P) := by
  refine fb_intro 0 fk_t_X0_dropActs (by decide) rfl (fun X hX h => ?_)
  subst hX
  change fb_AW tX0_dropActs X 0 [some (.ref 3), some (.int (nI d))] [] w
  refine fw_aload_n h rfl rfl ?_
  refine fw_getR _ h rfl fk_g_X0_21 rfl rfl ?_
  refine fw_iload_n h rfl rfl ?_
  refine fw_iconst h (nI 0) rfl (by decide) ?_
  refine fn_iast h rfl rfl (by omega) rfl ?_
  refine fw_aload_n h rfl rfl ?_
  refine fw_getR _ h rfl fk_g_X0_24 rfl rfl ?_
  refine fw_iload_n h rfl rfl ?_
  refine fw_iconst h (nI 0) rfl (by decide) ?_
  refine fn_iast h rfl rfl (by omega) rfl ?_
  exact fw_vret h rfl rfl ⟨rfl, hp⟩
theorem c_X0_actsInAll {l : Launch} {w : fb_Wd} {P : Int32 → fb_Wd → Prop} {n : Nat} (hn : w.1 3 9 = nI n) (hn2 : n ≤ 12) (hp : P (fp_sum (w.1 25) n) w) : fb_Can l tX0_actsInAll [.ref 3] w (fb_kI P) := by
  refine fb_intro 2 fk_t_X0_actsInAll (by decide) rfl (fun X hX h => ?_)
  subst hX
  change fb_AW tX0_actsInAll X 0 [some (.ref 3), none, none] [] w
  refine fw_iconst h (nI 0) rfl (by decide) ?_
  refine fw_istore_n h [_, _, _] rfl rfl rfl rfl ?_
  refine fw_iconst h (nI 0) rfl (by decide) ?_
  refine fw_istore_n h [_, _, _] rfl rfl rfl rfl ?_
  refine fb_loop (fun i => fb_AW tX0_actsInAll X 4 [some (.ref 3), some (.int (fp_sum (w.1 25) i)), some (.int (nI i))] [] w) (n) ?_ (fun i hi ih => ?_) 0 (Nat.zero_le _)
  · refine fw_iload_n h rfl rfl ?_
    refine fw_aload_n h rfl rfl ?_
    refine fw_getI h rfl fk_g_X0_40 rfl rfl ?_
    refine fw_icmp_ge h rfl (fun c9 => ?_) (fun c9 => False.elim (c9 (by rw [hn]; exact Int32.le_refl _)))
    refine fw_iload_n h rfl rfl ?_
    exact fw_iret h rfl rfl ⟨_, rfl, hp⟩
  · refine fw_iload_n h rfl rfl ?_
    refine fw_aload_n h rfl rfl ?_
    refine fw_getI h rfl fk_g_X0_40 rfl rfl ?_
    refine fw_icmp_ge h rfl (fun c9 => False.elim (by rw [hn] at c9; exact nI_ge hi (by omega) c9)) (fun c9 => ?_)
    refine fw_iload_n h rfl rfl ?_
    refine fw_aload_n h rfl rfl ?_
    refine fw_getR _ h rfl fk_g_X0_21 rfl rfl ?_
    refine fw_iload_n h rfl rfl ?_
    refine fn_iald h rfl rfl (by omega) rfl ?_
    first | refine fn_iadd h rfl ?_ | refine fw_iadd h rfl ?_
    refine fw_istore_n h [_, _, _] rfl rfl rfl rfl ?_
    first | refine fn_iinc h [_, _, _] rfl rfl rfl rfl rfl ?_ | refine fw_iinc h 1 [_, _, _] rfl (by decide) rfl rfl rfl rfl ?_
    refine fw_goto h rfl ?_
    exact ih
theorem c_X0_doubtfulAct {l : Launch} {w : fb_Wd} {P : Int32 → fb_Wd → Prop} {d m q : Nat} (hd : d < 12) (hm : w.1 25 d = nI m) (hm2 : m ≤ 10) (hq : q < fp_dbt (w.1 30) d m) (hp : P (nI (fs_ad (w.1 30) d q m)) w) : fb_Can l tX0_doubtfulAct [.ref 3, .int (nI d), .int (nI q)] w (fb_kI P) := by
  refine fb_intro 2 fk_t_X0_doubtfulAct (by decide) rfl (fun X hX h => ?_)
  subst hX
  change fb_AW tX0_doubtfulAct X 0 [some (.ref 3), some (.int (nI d)), some (.int (nI q)), none, none] [] w
  have hqm := fp_dbt_le (w.1 30) d m
  refine fw_iconst h (nI 0) rfl (by decide) ?_
  refine fw_istore_n h [_, _, _, _, _] rfl rfl rfl rfl ?_
  refine fw_iconst h (nI 0) rfl (by decide) ?_
  refine fw_istore h [_, _, _, _, _] rfl rfl rfl rfl ?_
  refine (?_ : fp_dbt (w.1 30) d 0 ≤ q → fb_AW tX0_doubtfulAct X 5 [some (.ref 3), some (.int (nI d)), some (.int (nI q)), some (.int (nI (fp_dbt (w.1 30) d 0))), some (.int (nI 0))] [] w) (Nat.zero_le _)
  refine fb_loop (fun i => fp_dbt (w.1 30) d i ≤ q → fb_AW tX0_doubtfulAct X 5 [some (.ref 3), some (.int (nI d)), some (.int (nI q)), some (.int (nI (fp_dbt (w.1 30) d i))), some (.int (nI i))] [] w) (m) ?_ (fun i hi ih => ?_) 0 (Nat.zero_le _)
  · intro hdq
    refine fw_iload h rfl rfl ?_
    refine fw_aload_n h rfl rfl ?_
    refine fw_getR _ h rfl fk_g_X0_21 rfl rfl ?_
    refine fw_iload_n h rfl rfl ?_
    refine fn_iald h rfl rfl (by omega) rfl ?_
    refine fw_icmp_ge h rfl (fun c13 => ?_) (fun c13 => False.elim (by omega))
    refine fw_bipush h (-9) rfl (by decide) ?_
    exact fw_iret h rfl rfl ⟨_, rfl, absurd hq (Nat.not_lt.mpr hdq)⟩
  · intro hdq
    refine fw_iload h rfl rfl ?_
    refine fw_aload_n h rfl rfl ?_
    refine fw_getR _ h rfl fk_g_X0_21 rfl rfl ?_
    refine fw_iload_n h rfl rfl ?_
    refine fn_iald h rfl rfl (by omega) rfl ?_
    refine fw_icmp_ge h rfl (fun c13 => False.elim (by rw [hm] at c13; exact nI_ge hi (by omega) c13)) (fun c13 => ?_)
    have hle := fp_dbt_le (w.1 30) d i
    refine fw_aload_n h rfl rfl ?_
    refine fw_getR _ h rfl fk_g_X0_36 rfl rfl ?_
    refine fw_iload_n h rfl rfl ?_
    refine fw_bipush h (nI 10) rfl (by decide) ?_
    refine fn_imulc h rfl ?_
    refine fw_iload h rfl rfl ?_
    first | refine fn_iadd h rfl ?_ | refine fw_iadd h rfl ?_
    refine fn_zald h rfl rfl (by omega) rfl ?_
    refine fw_if_eq h rfl (fun c28 => ?_) (fun c28 => ?_)
    · refine fw_iload_n h rfl rfl ?_
      refine fw_iload_n h rfl rfl ?_
      refine fw_icmp_ne h rfl (fun c36 => ?_) (fun c36 => ?_)
      · have hne : ¬ fp_dbt (w.1 30) d i = q := fun z => c36 (by rw [z])
        · first | refine fn_iinc h [_, _, _, _, _] rfl rfl rfl rfl rfl ?_ | refine fw_iinc h 1 [_, _, _, _, _] rfl (by decide) rfl rfl rfl rfl ?_
          first | refine fn_iinc h [_, _, _, _, _] rfl rfl rfl rfl rfl ?_ | refine fw_iinc h 1 [_, _, _, _, _] rfl (by decide) rfl rfl rfl rfl ?_
          refine fw_goto h rfl ?_
          have ih2 := ih (by rw [fp_dbt_1 c28]; omega)
          rw [fp_dbt_1 c28] at ih2
          exact ih2
      · refine fw_iload h rfl rfl ?_
        exact fw_iret h rfl rfl ⟨_, rfl, by
    have e1 : fp_dbt (w.1 30) d i = q := (nI_eq (by omega) (by omega)).mp c36
    have e2 : fs_ad (w.1 30) d q (i + 1) = i := by rw [← e1]; exact fs_ad_1 c28
    have e3 := fs_ad_st (su := w.1 30) (d := d) (q := q) (i := i + 1) (by rw [fp_dbt_1 c28]; omega) (m - (i + 1))
    rw [show i + 1 + (m - (i + 1)) = m by omega, e2] at e3
    rw [e3] at hp; exact hp⟩
    · refine fw_goto h rfl ?_
      first | refine fn_iinc h [_, _, _, _, _] rfl rfl rfl rfl rfl ?_ | refine fw_iinc h 1 [_, _, _, _, _] rfl (by decide) rfl rfl rfl rfl ?_
      refine fw_goto h rfl ?_
      have ih2 := ih (by rw [fp_dbt_0 c28]; exact hdq)
      rw [fp_dbt_0 c28] at ih2
      exact ih2
theorem c_X0_actsThatWereSo {l : Launch} {w : fb_Wd} {P : Int32 → fb_Wd → Prop} {d m : Nat} {rd : Int32} (hd : d < 12) (hm : w.1 25 d = nI m) (hm2 : m ≤ 10) (hp : P (fs_so (xD w) d rd m) w) : fb_Can l tX0_actsThatWereSo [.ref 3, .int (nI d), .int rd] w (fb_kI P) := by
  refine fb_intro 4 fk_t_X0_actsThatWereSo (by decide) rfl (fun X hX h => ?_)
  subst hX
  change fb_AW tX0_actsThatWereSo X 0 [some (.ref 3), some (.int (nI d)), some (.int rd), none, none, none, none] [] w
  refine fw_iconst h (nI 0) rfl (by decide) ?_
  refine fw_istore_n h [_, _, _, _, _, _, _] rfl rfl rfl rfl ?_
  refine fw_iconst h (nI 0) rfl (by decide) ?_
  refine fw_istore h [_, _, _, _, _, _, _] rfl rfl rfl rfl ?_
  refine fw_iconst h (nI 0) rfl (by decide) ?_
  refine fw_istore h [_, _, _, _, _, _, _] rfl rfl rfl rfl ?_
  refine fb_loop (fun i => fb_AW tX0_actsThatWereSo X 8 [some (.ref 3), some (.int (nI d)), some (.int rd), some (.int (fs_so (xD w) d rd i)), some (.int (nI (fp_dbt (w.1 30) d i))), some (.int (nI i)), none] [] w) (m) ?_ (fun i hi ih => ?_) 0 (Nat.zero_le _)
  · refine fw_iload h rfl rfl ?_
    refine fw_aload_n h rfl rfl ?_
    refine fw_getR _ h rfl fk_g_X0_21 rfl rfl ?_
    refine fw_iload_n h rfl rfl ?_
    refine fn_iald h rfl rfl (by omega) rfl ?_
    refine fw_icmp_ge h rfl (fun c16 => ?_) (fun c16 => False.elim (c16 (by rw [hm]; exact Int32.le_refl _)))
    refine fw_iload_n h rfl rfl ?_
    exact fw_iret h rfl rfl ⟨_, rfl, hp⟩
  · refine fw_iload h rfl rfl ?_
    refine fw_aload_n h rfl rfl ?_
    refine fw_getR _ h rfl fk_g_X0_21 rfl rfl ?_
    refine fw_iload_n h rfl rfl ?_
    refine fn_iald h rfl rfl (by omega) rfl ?_
    refine fw_icmp_ge h rfl (fun c16 => False.elim (by rw [hm] at c16; exact nI_ge hi (by omega) c16)) (fun c16 => ?_)
    have hle := fp_dbt_le (w.1 30) d i
    refine fw_aload_n h rfl rfl ?_
    refine fw_getR _ h rfl fk_g_X0_36 rfl rfl ?_
    refine fw_iload_n h rfl rfl ?_
    refine fw_bipush h (nI 10) rfl (by decide) ?_
    refine fn_imulc h rfl ?_
    refine fw_iload h rfl rfl ?_
    first | refine fn_iadd h rfl ?_ | refine fw_iadd h rfl ?_
    refine fn_zald h rfl rfl (by omega) rfl ?_
    refine fw_istore h [_, _, _, _, _, _, _] rfl rfl rfl rfl ?_
    refine fw_iload h rfl rfl ?_
    refine fw_if_ne h rfl (fun c35 => ?_) (fun c35 => ?_)
    · skip
      · refine fw_iload_n h rfl rfl ?_
        refine fw_iload h rfl rfl ?_
        refine fw_s1I h rfl fk_s_X7_bitOf fk_l_X0_63 rfl rfl ?_
        refine c_X7_bitOfN (by omega) ?_
        refine fw_ior h rfl ?_
        refine fw_istore_n h [_, _, _, _, _, _, _] rfl rfl rfl rfl ?_
        refine fw_iload h rfl rfl ?_
        refine fw_if_ne h rfl (fun c57 => ?_) (fun c57 => False.elim (c35 c57))
        first | refine fn_iinc h [_, _, _, _, _, _, _] rfl rfl rfl rfl rfl ?_ | refine fw_iinc h 1 [_, _, _, _, _, _, _] rfl (by decide) rfl rfl rfl rfl ?_
        refine fw_goto h rfl ?_
        refine fw_sub (fb_pad_c (Or.inr rfl) (fb_pad_c (Or.inr rfl) (fb_pad_c (Or.inr rfl) (fb_pad_c (Or.inr rfl) (fb_pad_c (Or.inr rfl) (fb_pad_c (Or.inr rfl) (fb_pad_c (Or.inl rfl) (fb_pad_n)))))))) ?_
        rw [fs_so_1 (Or.inl c35), fp_dbt_0 c35] at ih
        exact ih
    · skip
      · refine fw_iload_n h rfl rfl ?_
        refine fw_iload h rfl rfl ?_
        refine fw_s2I h rfl fk_s_X7_isIn fk_l_X0_60 rfl rfl ?_
        refine c_X7_isIn rfl (by omega) (fun c41 => ?_) (fun c41 => ?_)
        · refine fw_if_eq h rfl (fun c => absurd c (by decide)) (fun _ => ?_)
          refine fw_iload_n h rfl rfl ?_
          skip
          · refine fw_iload h rfl rfl ?_
            refine fw_s1I h rfl fk_s_X7_bitOf fk_l_X0_63 rfl rfl ?_
            refine c_X7_bitOfN (by omega) ?_
            refine fw_ior h rfl ?_
            refine fw_istore_n h [_, _, _, _, _, _, _] rfl rfl rfl rfl ?_
            refine fw_iload h rfl rfl ?_
            refine fw_if_ne h rfl (fun c57 => False.elim (c57 c35)) (fun c57 => ?_)
            first | refine fn_iinc h [_, _, _, _, _, _, _] rfl rfl rfl rfl rfl ?_ | refine fw_iinc h 1 [_, _, _, _, _, _, _] rfl (by decide) rfl rfl rfl rfl ?_
            first | refine fn_iinc h [_, _, _, _, _, _, _] rfl rfl rfl rfl rfl ?_ | refine fw_iinc h 1 [_, _, _, _, _, _, _] rfl (by decide) rfl rfl rfl rfl ?_
            refine fw_goto h rfl ?_
            refine fw_sub (fb_pad_c (Or.inr rfl) (fb_pad_c (Or.inr rfl) (fb_pad_c (Or.inr rfl) (fb_pad_c (Or.inr rfl) (fb_pad_c (Or.inr rfl) (fb_pad_c (Or.inr rfl) (fb_pad_c (Or.inl rfl) (fb_pad_n)))))))) ?_
            rw [fs_so_1 (Or.inr c41), fp_dbt_1 c35] at ih
            exact ih
        · refine fw_if_eq h rfl (fun _ => ?_) (fun c => absurd c (by decide))
          refine fw_iload h rfl rfl ?_
          refine fw_if_ne h rfl (fun c57 => False.elim (c57 c35)) (fun c57 => ?_)
          first | refine fn_iinc h [_, _, _, _, _, _, _] rfl rfl rfl rfl rfl ?_ | refine fw_iinc h 1 [_, _, _, _, _, _, _] rfl (by decide) rfl rfl rfl rfl ?_
          first | refine fn_iinc h [_, _, _, _, _, _, _] rfl rfl rfl rfl rfl ?_ | refine fw_iinc h 1 [_, _, _, _, _, _, _] rfl (by decide) rfl rfl rfl rfl ?_
          refine fw_goto h rfl ?_
          refine fw_sub (fb_pad_c (Or.inr rfl) (fb_pad_c (Or.inr rfl) (fb_pad_c (Or.inr rfl) (fb_pad_c (Or.inr rfl) (fb_pad_c (Or.inr rfl) (fb_pad_c (Or.inr rfl) (fb_pad_c (Or.inl rfl) (fb_pad_n)))))))) ?_
          rw [fs_so_0 c35 c41, fq_inv_or0, fp_dbt_1 c35] at ih
          exact ih
theorem c_X0_actors {l : Launch} {w : fb_Wd} {P : Int32 → fb_Wd → Prop} {d m : Nat} {so s : Int32} (hd : d < 12) (hm : w.1 25 d = nI m) (hm2 : m ≤ 10) (hp : P (fx_ac (xD w) d so s m) w) : fb_Can l tX0_actors [.ref 3, .int (nI d), .int so, .int s] w (fb_kI P) := by
  refine fb_intro 2 fk_t_X0_actors (by decide) rfl (fun X hX h => ?_)
  subst hX
  change fb_AW tX0_actors X 0 [some (.ref 3), some (.int (nI d)), some (.int so), some (.int s), none, none] [] w
  refine fw_iconst h (nI 0) rfl (by decide) ?_
  refine fw_istore h [_, _, _, _, _, _] rfl rfl rfl rfl ?_
  refine fw_iconst h (nI 0) rfl (by decide) ?_
  refine fw_istore h [_, _, _, _, _, _] rfl rfl rfl rfl ?_
  refine fb_loop (fun i => fb_AW tX0_actors X 6 [some (.ref 3), some (.int (nI d)), some (.int so), some (.int s), some (.int (fx_ac (xD w) d so s i)), some (.int (nI i))] [] w) (m) ?_ (fun i hi ih => ?_) 0 (Nat.zero_le _)
  · refine fw_iload h rfl rfl ?_
    refine fw_aload_n h rfl rfl ?_
    refine fw_getR _ h rfl fk_g_X0_21 rfl rfl ?_
    refine fw_iload_n h rfl rfl ?_
    refine fn_iald h rfl rfl (by omega) rfl ?_
    refine fw_icmp_ge h rfl (fun c14 => ?_) (fun c14 => False.elim (c14 (by rw [hm]; exact Int32.le_refl _)))
    refine fw_iload h rfl rfl ?_
    exact fw_iret h rfl rfl ⟨_, rfl, hp⟩
  · refine fw_iload h rfl rfl ?_
    refine fw_aload_n h rfl rfl ?_
    refine fw_getR _ h rfl fk_g_X0_21 rfl rfl ?_
    refine fw_iload_n h rfl rfl ?_
    refine fn_iald h rfl rfl (by omega) rfl ?_
    refine fw_icmp_ge h rfl (fun c14 => False.elim (by rw [hm] at c14; exact nI_ge hi (by omega) c14)) (fun c14 => ?_)
    refine fw_aload_n h rfl rfl ?_
    refine fw_getR _ h rfl fk_g_X0_27 rfl rfl ?_
    refine fw_iload_n h rfl rfl ?_
    refine fw_bipush h (nI 10) rfl (by decide) ?_
    refine fn_imulc h rfl ?_
    refine fw_iload h rfl rfl ?_
    first | refine fn_iadd h rfl ?_ | refine fw_iadd h rfl ?_
    refine fn_iald h rfl rfl (by omega) rfl ?_
    refine fw_iload_n h rfl rfl ?_
    refine fw_icmp_ne h rfl (fun c30 => ?_) (fun c30 => ?_)
    · first | refine fn_iinc h [_, _, _, _, _, _] rfl rfl rfl rfl rfl ?_ | refine fw_iinc h 1 [_, _, _, _, _, _] rfl (by decide) rfl rfl rfl rfl ?_
      refine fw_goto h rfl ?_
      have en : fx_ac (xD w) d so s (i + 1) = fx_ac (xD w) d so s i := fp_orF_0 (if_neg (by first | exact (fun q => c30 q.1) | exact (fun q => by rw [c36] at q; exact absurd q.2 (by decide))))
      rw [en] at ih
      exact ih
    · refine fw_iload_n h rfl rfl ?_
      refine fw_iload h rfl rfl ?_
      refine fw_s2I h rfl fk_s_X7_isIn fk_l_X0_60 rfl rfl ?_
      refine c_X7_isIn rfl (by omega) (fun c36 => ?_) (fun c36 => ?_)
      · refine fw_if_eq h rfl (fun c => absurd c (by decide)) (fun _ => ?_)
        skip
        · refine fw_iload h rfl rfl ?_
          refine fw_aload_n h rfl rfl ?_
          refine fw_getR _ h rfl fk_g_X0_30 rfl rfl ?_
          refine fw_iload_n h rfl rfl ?_
          refine fw_bipush h (nI 10) rfl (by decide) ?_
          refine fn_imulc h rfl ?_
          refine fw_iload h rfl rfl ?_
          first | refine fn_iadd h rfl ?_ | refine fw_iadd h rfl ?_
          refine fn_iald h rfl rfl (by omega) rfl ?_
          refine fw_s1I h rfl fk_s_X7_bitOf fk_l_X0_63 rfl rfl ?_
          refine c_X7_bitOf ?_
          refine fw_ior h rfl ?_
          refine fw_istore h [_, _, _, _, _, _] rfl rfl rfl rfl ?_
          first | refine fn_iinc h [_, _, _, _, _, _] rfl rfl rfl rfl rfl ?_ | refine fw_iinc h 1 [_, _, _, _, _, _] rfl (by decide) rfl rfl rfl rfl ?_
          refine fw_goto h rfl ?_
          have en : fx_ac (xD w) d so s (i + 1) = fx_ac (xD w) d so s i ||| fx_bo (w.1 28 (10 * d + i)) := fp_orF_1 (if_pos (And.intro c30 c36))
          rw [en] at ih
          exact ih
      · refine fw_if_eq h rfl (fun _ => ?_) (fun c => absurd c (by decide))
        first | refine fn_iinc h [_, _, _, _, _, _] rfl rfl rfl rfl rfl ?_ | refine fw_iinc h 1 [_, _, _, _, _, _] rfl (by decide) rfl rfl rfl rfl ?_
        refine fw_goto h rfl ?_
        have en : fx_ac (xD w) d so s (i + 1) = fx_ac (xD w) d so s i := fp_orF_0 (if_neg (by first | exact (fun q => c30 q.1) | exact (fun q => by rw [c36] at q; exact absurd q.2 (by decide))))
        rw [en] at ih
        exact ih
theorem c_X0_movedBy {l : Launch} {w : fb_Wd} {P : Int32 → fb_Wd → Prop} {d m : Nat} {so s : Int32} (hd : d < 12) (hm : w.1 25 d = nI m) (hm2 : m ≤ 10) (hp : P (fx_mb (xD w) d so s m) w) : fb_Can l tX0_movedBy [.ref 3, .int (nI d), .int so, .int s] w (fb_kI P) := by
  refine fb_intro 2 fk_t_X0_movedBy (by decide) rfl (fun X hX h => ?_)
  subst hX
  change fb_AW tX0_movedBy X 0 [some (.ref 3), some (.int (nI d)), some (.int so), some (.int s), none, none] [] w
  refine fw_iconst h (nI 0) rfl (by decide) ?_
  refine fw_istore h [_, _, _, _, _, _] rfl rfl rfl rfl ?_
  refine fw_iconst h (nI 0) rfl (by decide) ?_
  refine fw_istore h [_, _, _, _, _, _] rfl rfl rfl rfl ?_
  refine fb_loop (fun i => fb_AW tX0_movedBy X 6 [some (.ref 3), some (.int (nI d)), some (.int so), some (.int s), some (.int (fx_mb (xD w) d so s i)), some (.int (nI i))] [] w) (m) ?_ (fun i hi ih => ?_) 0 (Nat.zero_le _)
  · refine fw_iload h rfl rfl ?_
    refine fw_aload_n h rfl rfl ?_
    refine fw_getR _ h rfl fk_g_X0_21 rfl rfl ?_
    refine fw_iload_n h rfl rfl ?_
    refine fn_iald h rfl rfl (by omega) rfl ?_
    refine fw_icmp_ge h rfl (fun c14 => ?_) (fun c14 => False.elim (c14 (by rw [hm]; exact Int32.le_refl _)))
    refine fw_iload h rfl rfl ?_
    exact fw_iret h rfl rfl ⟨_, rfl, hp⟩
  · refine fw_iload h rfl rfl ?_
    refine fw_aload_n h rfl rfl ?_
    refine fw_getR _ h rfl fk_g_X0_21 rfl rfl ?_
    refine fw_iload_n h rfl rfl ?_
    refine fn_iald h rfl rfl (by omega) rfl ?_
    refine fw_icmp_ge h rfl (fun c14 => False.elim (by rw [hm] at c14; exact nI_ge hi (by omega) c14)) (fun c14 => ?_)
    refine fw_iload_n h rfl rfl ?_
    refine fw_iload h rfl rfl ?_
    refine fw_s2I h rfl fk_s_X7_isIn fk_l_X0_60 rfl rfl ?_
    refine c_X7_isIn rfl (by omega) (fun c20 => ?_) (fun c20 => ?_)
    · refine fw_if_eq h rfl (fun c => absurd c (by decide)) (fun _ => ?_)
      refine fw_aload_n h rfl rfl ?_
      refine fw_getR _ h rfl fk_g_X0_30 rfl rfl ?_
      refine fw_iload_n h rfl rfl ?_
      refine fw_bipush h (nI 10) rfl (by decide) ?_
      refine fn_imulc h rfl ?_
      refine fw_iload h rfl rfl ?_
      first | refine fn_iadd h rfl ?_ | refine fw_iadd h rfl ?_
      refine fn_iald h rfl rfl (by omega) rfl ?_
      refine fw_iload_n h rfl rfl ?_
      refine fw_icmp_ne h rfl (fun c39 => ?_) (fun c39 => ?_)
      · first | refine fn_iinc h [_, _, _, _, _, _] rfl rfl rfl rfl rfl ?_ | refine fw_iinc h 1 [_, _, _, _, _, _] rfl (by decide) rfl rfl rfl rfl ?_
        refine fw_goto h rfl ?_
        have en : fx_mb (xD w) d so s (i + 1) = fx_mb (xD w) d so s i := fp_orF_0 (if_neg (by first | exact (fun q => c39 q.2) | exact (fun q => by rw [c20] at q; exact absurd q.1 (by decide))))
        rw [en] at ih
        exact ih
      · skip
        · refine fw_iload h rfl rfl ?_
          refine fw_aload_n h rfl rfl ?_
          refine fw_getR _ h rfl fk_g_X0_33 rfl rfl ?_
          refine fw_iload_n h rfl rfl ?_
          refine fw_bipush h (nI 10) rfl (by decide) ?_
          refine fn_imulc h rfl ?_
          refine fw_iload h rfl rfl ?_
          first | refine fn_iadd h rfl ?_ | refine fw_iadd h rfl ?_
          refine fn_iald h rfl rfl (by omega) rfl ?_
          refine fw_s1I h rfl fk_s_X7_bitOf fk_l_X0_63 rfl rfl ?_
          refine c_X7_bitOf ?_
          refine fw_ior h rfl ?_
          refine fw_istore h [_, _, _, _, _, _] rfl rfl rfl rfl ?_
          first | refine fn_iinc h [_, _, _, _, _, _] rfl rfl rfl rfl rfl ?_ | refine fw_iinc h 1 [_, _, _, _, _, _] rfl (by decide) rfl rfl rfl rfl ?_
          refine fw_goto h rfl ?_
          have en : fx_mb (xD w) d so s (i + 1) = fx_mb (xD w) d so s i ||| fx_bo (w.1 29 (10 * d + i)) := fp_orF_1 (if_pos (And.intro c20 c39))
          rw [en] at ih
          exact ih
    · refine fw_if_eq h rfl (fun _ => ?_) (fun c => absurd c (by decide))
      first | refine fn_iinc h [_, _, _, _, _, _] rfl rfl rfl rfl rfl ?_ | refine fw_iinc h 1 [_, _, _, _, _, _] rfl (by decide) rfl rfl rfl rfl ?_
      refine fw_goto h rfl ?_
      have en : fx_mb (xD w) d so s (i + 1) = fx_mb (xD w) d so s i := fp_orF_0 (if_neg (by first | exact (fun q => c39 q.2) | exact (fun q => by rw [c20] at q; exact absurd q.1 (by decide))))
      rw [en] at ih
      exact ih
theorem c_X0_moversOf {l : Launch} {w : fb_Wd} {P : Int32 → fb_Wd → Prop} {d m : Nat} {so s : Int32} (hd : d < 12) (hm : w.1 25 d = nI m) (hm2 : m ≤ 10) (hp : P (fx_mr (xD w) d so s m) w) : fb_Can l tX0_moversOf [.ref 3, .int (nI d), .int so, .int s] w (fb_kI P) := by
  refine fb_intro 2 fk_t_X0_moversOf (by decide) rfl (fun X hX h => ?_)
  subst hX
  change fb_AW tX0_moversOf X 0 [some (.ref 3), some (.int (nI d)), some (.int so), some (.int s), none, none] [] w
  refine fw_iconst h (nI 0) rfl (by decide) ?_
  refine fw_istore h [_, _, _, _, _, _] rfl rfl rfl rfl ?_
  refine fw_iconst h (nI 0) rfl (by decide) ?_
  refine fw_istore h [_, _, _, _, _, _] rfl rfl rfl rfl ?_
  refine fb_loop (fun i => fb_AW tX0_moversOf X 6 [some (.ref 3), some (.int (nI d)), some (.int so), some (.int s), some (.int (fx_mr (xD w) d so s i)), some (.int (nI i))] [] w) (m) ?_ (fun i hi ih => ?_) 0 (Nat.zero_le _)
  · refine fw_iload h rfl rfl ?_
    refine fw_aload_n h rfl rfl ?_
    refine fw_getR _ h rfl fk_g_X0_21 rfl rfl ?_
    refine fw_iload_n h rfl rfl ?_
    refine fn_iald h rfl rfl (by omega) rfl ?_
    refine fw_icmp_ge h rfl (fun c14 => ?_) (fun c14 => False.elim (c14 (by rw [hm]; exact Int32.le_refl _)))
    refine fw_iload h rfl rfl ?_
    exact fw_iret h rfl rfl ⟨_, rfl, hp⟩
  · refine fw_iload h rfl rfl ?_
    refine fw_aload_n h rfl rfl ?_
    refine fw_getR _ h rfl fk_g_X0_21 rfl rfl ?_
    refine fw_iload_n h rfl rfl ?_
    refine fn_iald h rfl rfl (by omega) rfl ?_
    refine fw_icmp_ge h rfl (fun c14 => False.elim (by rw [hm] at c14; exact nI_ge hi (by omega) c14)) (fun c14 => ?_)
    refine fw_iload_n h rfl rfl ?_
    refine fw_iload h rfl rfl ?_
    refine fw_s2I h rfl fk_s_X7_isIn fk_l_X0_60 rfl rfl ?_
    refine c_X7_isIn rfl (by omega) (fun c20 => ?_) (fun c20 => ?_)
    · refine fw_if_eq h rfl (fun c => absurd c (by decide)) (fun _ => ?_)
      refine fw_aload_n h rfl rfl ?_
      refine fw_getR _ h rfl fk_g_X0_33 rfl rfl ?_
      refine fw_iload_n h rfl rfl ?_
      refine fw_bipush h (nI 10) rfl (by decide) ?_
      refine fn_imulc h rfl ?_
      refine fw_iload h rfl rfl ?_
      first | refine fn_iadd h rfl ?_ | refine fw_iadd h rfl ?_
      refine fn_iald h rfl rfl (by omega) rfl ?_
      refine fw_iload_n h rfl rfl ?_
      refine fw_icmp_ne h rfl (fun c39 => ?_) (fun c39 => ?_)
      · first | refine fn_iinc h [_, _, _, _, _, _] rfl rfl rfl rfl rfl ?_ | refine fw_iinc h 1 [_, _, _, _, _, _] rfl (by decide) rfl rfl rfl rfl ?_
        refine fw_goto h rfl ?_
        have en : fx_mr (xD w) d so s (i + 1) = fx_mr (xD w) d so s i := fp_orF_0 (if_neg (by first | exact (fun q => c39 q.2) | exact (fun q => by rw [c20] at q; exact absurd q.1 (by decide))))
        rw [en] at ih
        exact ih
      · skip
        · refine fw_iload h rfl rfl ?_
          refine fw_aload_n h rfl rfl ?_
          refine fw_getR _ h rfl fk_g_X0_30 rfl rfl ?_
          refine fw_iload_n h rfl rfl ?_
          refine fw_bipush h (nI 10) rfl (by decide) ?_
          refine fn_imulc h rfl ?_
          refine fw_iload h rfl rfl ?_
          first | refine fn_iadd h rfl ?_ | refine fw_iadd h rfl ?_
          refine fn_iald h rfl rfl (by omega) rfl ?_
          refine fw_s1I h rfl fk_s_X7_bitOf fk_l_X0_63 rfl rfl ?_
          refine c_X7_bitOf ?_
          refine fw_ior h rfl ?_
          refine fw_istore h [_, _, _, _, _, _] rfl rfl rfl rfl ?_
          first | refine fn_iinc h [_, _, _, _, _, _] rfl rfl rfl rfl rfl ?_ | refine fw_iinc h 1 [_, _, _, _, _, _] rfl (by decide) rfl rfl rfl rfl ?_
          refine fw_goto h rfl ?_
          have en : fx_mr (xD w) d so s (i + 1) = fx_mr (xD w) d so s i ||| fx_bo (w.1 28 (10 * d + i)) := fp_orF_1 (if_pos (And.intro c20 c39))
          rw [en] at ih
          exact ih
    · refine fw_if_eq h rfl (fun _ => ?_) (fun c => absurd c (by decide))
      first | refine fn_iinc h [_, _, _, _, _, _] rfl rfl rfl rfl rfl ?_ | refine fw_iinc h 1 [_, _, _, _, _, _] rfl (by decide) rfl rfl rfl rfl ?_
      refine fw_goto h rfl ?_
      have en : fx_mr (xD w) d so s (i + 1) = fx_mr (xD w) d so s i := fp_orF_0 (if_neg (by first | exact (fun q => c39 q.2) | exact (fun q => by rw [c20] at q; exact absurd q.1 (by decide))))
      rw [en] at ih
      exact ih
theorem c_X0_hit {l : Launch} {w : fb_Wd} {P : Int32 → fb_Wd → Prop} {d m nt : Nat} {so : Int32} (hA : fd_A (xD w) nt d m) (hn : nt ≤ 20) (hd : d < 12) (hp : P (fs_ht (xD w) d so m) w) : fb_Can l tX0_hit [.ref 3, .int (nI d), .int so] w (fb_kI P) := by
  refine fb_intro 0 fk_t_X0_hit (by decide) rfl (fun X hX h => ?_)
  subst hX
  change fb_AW tX0_hit X 0 [some (.ref 3), some (.int (nI d)), some (.int so)] [] w
  refine fw_aload_n h rfl rfl ?_
  refine fw_iload_n h rfl rfl ?_
  refine fw_iload_n h rfl rfl ?_
  refine fw_iconst h (nI 2) rfl (by decide) ?_
  refine fw_v3I h rfl fk_v_X0_actors fk_l_X0_66 rfl rfl rfl rfl ?_
  refine c_X0_actors hd hA.1 hA.2.1 ?_
  refine fw_aload_n h rfl rfl ?_
  refine fw_iload_n h rfl rfl ?_
  refine fw_iload_n h rfl rfl ?_
  refine fw_iconst h (nI 3) rfl (by decide) ?_
  refine fw_v3I h rfl fk_v_X0_actors fk_l_X0_66 rfl rfl rfl rfl ?_
  refine c_X0_actors hd hA.1 hA.2.1 ?_
  refine fw_ior h rfl ?_
  exact fw_iret h rfl rfl ⟨_, rfl, by rw [fx_ht_eq hA hn]; exact hp⟩
theorem c_X0_fact_0 {l : Launch} {w : fb_Wd} {P : Int32 → fb_Wd → Prop} {d m : Nat} (hd : d < 12) (hm : w.1 25 d = nI m) (hk : w.1 26 d = nI (fp_dbt (w.1 30) d m)) (hm2 : m ≤ 10) (hp : P (fs_dt (xD w) d m 0) w) : fb_Can l tX0_fact [.ref 3, .int (nI d), .int (nI 0)] w (fb_kI P) := by
  refine fb_intro 0 fk_t_X0_fact (by decide) rfl (fun X hX h => ?_)
  subst hX
  change fb_AW tX0_fact X 0 [some (.ref 3), some (.int (nI d)), some (.int (nI 0))] [] w
  refine fw_iload_n h rfl rfl ?_
  refine fw_swI h (t := 36) rfl (by decide) ?_
  refine fw_aload_n h rfl rfl ?_
  refine fw_getR _ h rfl fk_g_X0_9 rfl rfl ?_
  refine fw_iload_n h rfl rfl ?_
  refine fn_iald h rfl rfl (by omega) rfl ?_
  exact fw_iret h rfl rfl ⟨_, rfl, hp⟩
theorem c_X0_fact_1 {l : Launch} {w : fb_Wd} {P : Int32 → fb_Wd → Prop} {d m : Nat} (hd : d < 12) (hm : w.1 25 d = nI m) (hk : w.1 26 d = nI (fp_dbt (w.1 30) d m)) (hm2 : m ≤ 10) (hp : P (fs_dt (xD w) d m 1) w) : fb_Can l tX0_fact [.ref 3, .int (nI d), .int (nI 1)] w (fb_kI P) := by
  refine fb_intro 0 fk_t_X0_fact (by decide) rfl (fun X hX h => ?_)
  subst hX
  change fb_AW tX0_fact X 0 [some (.ref 3), some (.int (nI d)), some (.int (nI 1))] [] w
  refine fw_iload_n h rfl rfl ?_
  refine fw_swI h (t := 43) rfl (by decide) ?_
  refine fw_aload_n h rfl rfl ?_
  refine fw_getR _ h rfl fk_g_X0_15 rfl rfl ?_
  refine fw_iload_n h rfl rfl ?_
  refine fn_iald h rfl rfl (by omega) rfl ?_
  exact fw_iret h rfl rfl ⟨_, rfl, hp⟩
theorem c_X0_fact_2 {l : Launch} {w : fb_Wd} {P : Int32 → fb_Wd → Prop} {d m : Nat} (hd : d < 12) (hm : w.1 25 d = nI m) (hk : w.1 26 d = nI (fp_dbt (w.1 30) d m)) (hm2 : m ≤ 10) (hp : P (fs_dt (xD w) d m 2) w) : fb_Can l tX0_fact [.ref 3, .int (nI d), .int (nI 2)] w (fb_kI P) := by
  refine fb_intro 0 fk_t_X0_fact (by decide) rfl (fun X hX h => ?_)
  subst hX
  change fb_AW tX0_fact X 0 [some (.ref 3), some (.int (nI d)), some (.int (nI 2))] [] w
  refine fw_iload_n h rfl rfl ?_
  refine fw_swI h (t := 50) rfl (by decide) ?_
  refine fw_aload_n h rfl rfl ?_
  refine fw_getR _ h rfl fk_g_X0_18 rfl rfl ?_
  refine fw_iload_n h rfl rfl ?_
  refine fn_iald h rfl rfl (by omega) rfl ?_
  exact fw_iret h rfl rfl ⟨_, rfl, hp⟩
theorem c_X0_fact_3 {l : Launch} {w : fb_Wd} {P : Int32 → fb_Wd → Prop} {d m : Nat} (hd : d < 12) (hm : w.1 25 d = nI m) (hk : w.1 26 d = nI (fp_dbt (w.1 30) d m)) (hm2 : m ≤ 10) (hp : P (fs_dt (xD w) d m 3) w) : fb_Can l tX0_fact [.ref 3, .int (nI d), .int (nI 3)] w (fb_kI P) := by
  refine fb_intro 0 fk_t_X0_fact (by decide) rfl (fun X hX h => ?_)
  subst hX
  change fb_AW tX0_fact X 0 [some (.ref 3), some (.int (nI d)), some (.int (nI 3))] [] w
  refine fw_iload_n h rfl rfl ?_
  refine fw_swI h (t := 57) rfl (by decide) ?_
  refine fw_aload_n h rfl rfl ?_
  refine fw_getR _ h rfl fk_g_X0_21 rfl rfl ?_
  refine fw_iload_n h rfl rfl ?_
  refine fn_iald h rfl rfl (by omega) rfl ?_
  exact fw_iret h rfl rfl ⟨_, rfl, hp⟩
theorem c_X0_fact_4 {l : Launch} {w : fb_Wd} {P : Int32 → fb_Wd → Prop} {d m : Nat} (hd : d < 12) (hm : w.1 25 d = nI m) (hk : w.1 26 d = nI (fp_dbt (w.1 30) d m)) (hm2 : m ≤ 10) (hp : P (fs_dt (xD w) d m 4) w) : fb_Can l tX0_fact [.ref 3, .int (nI d), .int (nI 4)] w (fb_kI P) := by
  refine fb_intro 0 fk_t_X0_fact (by decide) rfl (fun X hX h => ?_)
  subst hX
  change fb_AW tX0_fact X 0 [some (.ref 3), some (.int (nI d)), some (.int (nI 4))] [] w
  refine fw_iload_n h rfl rfl ?_
  refine fw_swI h (t := 64) rfl (by decide) ?_
  refine fw_aload_n h rfl rfl ?_
  refine fw_getR _ h rfl fk_g_X0_24 rfl rfl ?_
  refine fw_iload_n h rfl rfl ?_
  refine fn_iald h rfl rfl (by omega) rfl ?_
  exact fw_iret h rfl rfl ⟨_, rfl, by rw [hk]; exact hp⟩
theorem c_X0_fact_5 {l : Launch} {w : fb_Wd} {P : Int32 → fb_Wd → Prop} {d m : Nat} (hd : d < 12) (hm : w.1 25 d = nI m) (hk : w.1 26 d = nI (fp_dbt (w.1 30) d m)) (hm2 : m ≤ 10) (hp : P (fs_dt (xD w) d m 5) w) : fb_Can l tX0_fact [.ref 3, .int (nI d), .int (nI 5)] w (fb_kI P) := by
  refine fb_intro 0 fk_t_X0_fact (by decide) rfl (fun X hX h => ?_)
  subst hX
  change fb_AW tX0_fact X 0 [some (.ref 3), some (.int (nI d)), some (.int (nI 5))] [] w
  refine fw_iload_n h rfl rfl ?_
  refine fw_swO h rfl (by decide) ?_
  refine fw_aload_n h rfl rfl ?_
  refine fw_iload_n h rfl rfl ?_
  refine fw_v1I h rfl fk_v_X0_readings fk_l_X0_52 rfl rfl rfl rfl ?_
  refine c_X0_readings hd hk (by have := fp_dbt_le (w.1 30) d m; omega) ?_
  exact fw_iret h rfl rfl ⟨_, rfl, hp⟩
theorem c_X0_fact {l : Launch} {w : fb_Wd} {P : Int32 → fb_Wd → Prop} {d m : Nat} (hd : d < 12) (hm : w.1 25 d = nI m) (hk : w.1 26 d = nI (fp_dbt (w.1 30) d m)) (hm2 : m ≤ 10) {q : Nat} (hq : q ≤ 5) (hp : P (fs_dt (xD w) d m q) w) : fb_Can l tX0_fact [.ref 3, .int (nI d), .int (nI q)] w (fb_kI P) := by
  rcases (show q = 0 ∨ q = 1 ∨ q = 2 ∨ q = 3 ∨ q = 4 ∨ q = 5 by omega) with rfl | rfl | rfl | rfl | rfl | rfl
  · exact c_X0_fact_0 hd hm hk hm2 hp
  · exact c_X0_fact_1 hd hm hk hm2 hp
  · exact c_X0_fact_2 hd hm hk hm2 hp
  · exact c_X0_fact_3 hd hm hk hm2 hp
  · exact c_X0_fact_4 hd hm hk hm2 hp
  · exact c_X0_fact_5 hd hm hk hm2 hp
theorem c_X0_mixInto {l : Launch} {w : fb_Wd} {P : Int64 → fb_Wd → Prop} {n : Nat} {h0 : Int64} (hn : w.1 3 9 = nI n) (hn2 : n ≤ 12) (hd : ∀ d, d < n → ∃ m, w.1 25 d = nI m ∧ w.1 26 d = nI (fp_dbt (w.1 30) d m) ∧ m ≤ 10) (hp : P (fs_it (fs_e3 (xD w)) h0 n) w) : fb_Can l tX0_mixInto [.ref 3, .long h0] w (fb_kL P) := by
  refine fb_intro 4 fk_t_X0_mixInto (by decide) rfl (fun X hX h => ?_)
  subst hX
  change fb_AW tX0_mixInto X 0 [some (.ref 3), some (.long h0), none, none, none, none, none] [] w
  refine fw_lload_n h rfl rfl ?_
  refine fw_lstore_n h [_, _, _, _, _, _, _] rfl rfl rfl rfl ?_
  refine fw_iconst h (nI 0) rfl (by decide) ?_
  refine fw_istore h [_, _, _, _, _, _, _] rfl rfl rfl rfl ?_
  refine fb_loop (fun i => fb_AW tX0_mixInto X 5 [some (.ref 3), some (.long h0), none, some (.long (fs_it (fs_e3 (xD w)) h0 i)), none, some (.int (nI i)), none] [] w) (n) ?_ (fun i hi ih => ?_) 0 (Nat.zero_le _)
  · refine fw_iload h rfl rfl ?_
    refine fw_aload_n h rfl rfl ?_
    refine fw_getI h rfl fk_g_X0_40 rfl rfl ?_
    refine fw_icmp_ge h rfl (fun c11 => ?_) (fun c11 => False.elim (c11 (by rw [hn]; exact Int32.le_refl _)))
    refine fw_lload_n h rfl rfl ?_
    exact fw_lret h rfl rfl ⟨_, rfl, hp⟩
  · refine fw_iload h rfl rfl ?_
    refine fw_aload_n h rfl rfl ?_
    refine fw_getI h rfl fk_g_X0_40 rfl rfl ?_
    refine fw_icmp_ge h rfl (fun c11 => False.elim (by rw [hn] at c11; exact nI_ge hi (by omega) c11)) (fun c11 => ?_)
    obtain ⟨m, hm, hk, hm2⟩ := hd i hi
    have em : fd_m (xD w) i = m := by show (w.1 25 i).toNatClampNeg = m; rw [hm]; exact nI_clamp (by omega)
    refine fw_iconst h (nI 0) rfl (by decide) ?_
    refine fw_istore h [_, _, _, _, _, _, _] rfl rfl rfl rfl ?_
    refine fb_loop (fun b => fb_AW tX0_mixInto X 17 [some (.ref 3), some (.long h0), none, some (.long (fs_mxF (fs_it (fs_e3 (xD w)) h0 i) (fs_dt (xD w) i m) b)), none, some (.int (nI i)), some (.int (nI b))] [] w) 6 ?_ (fun b hb ihb => ?_) 0 (Nat.zero_le _)
    · change fb_AW tX0_mixInto X 17 [some (.ref 3), some (.long h0), none, some (.long (fs_mxF (fs_it (fs_e3 (xD w)) h0 i) (fs_dt (xD w) i m) 6)), none, some (.int (nI i)), some (.int (nI 6))] [] w
      refine fw_iload h rfl rfl ?_
      refine fw_iconst h (nI 5) rfl (by decide) ?_
      refine fw_icmp_gt h rfl (fun c20 => ?_) (fun c20 => False.elim (c20 (by decide)))
      refine fw_iload h rfl rfl ?_
      refine fw_bipush h (nI 10) rfl (by decide) ?_
      refine fn_imulc h rfl ?_
      refine fw_istore h [_, _, _, _, _, _, _] rfl rfl rfl rfl ?_
      refine fb_loop (fun b => fb_AW tX0_mixInto X 50 [some (.ref 3), some (.long h0), none, some (.long (fs_mxA (xD w) i (fs_mxF (fs_it (fs_e3 (xD w)) h0 i) (fs_dt (xD w) i m) 6) b)), none, some (.int (nI i)), some (.int (nI (10 * i + b)))] [] w) m ?_ (fun b hb ihb => ?_) 0 (Nat.zero_le _)
      · change fb_AW tX0_mixInto X 50 [some (.ref 3), some (.long h0), none, some (.long (fs_mxA (xD w) i (fs_mxF (fs_it (fs_e3 (xD w)) h0 i) (fs_dt (xD w) i m) 6) m)), none, some (.int (nI i)), some (.int (nI (10 * i + m)))] [] w
        refine fw_iload h rfl rfl ?_
        refine fw_iload h rfl rfl ?_
        refine fw_bipush h (nI 10) rfl (by decide) ?_
        refine fn_imulc h rfl ?_
        refine fw_aload_n h rfl rfl ?_
        refine fw_getR _ h rfl fk_g_X0_21 rfl rfl ?_
        refine fw_iload h rfl rfl ?_
        refine fn_iald h rfl rfl (by omega) rfl ?_
        rw [hm]
        first | refine fn_iadd h rfl ?_ | refine fw_iadd h rfl ?_
        refine fw_icmp_ge h rfl (fun c65 => ?_) (fun c65 => False.elim (c65 (Int32.le_refl _)))
        first | refine fn_iinc h [_, _, _, _, _, _, _] rfl rfl rfl rfl rfl ?_ | refine fw_iinc h 1 [_, _, _, _, _, _, _] rfl (by decide) rfl rfl rfl rfl ?_
        refine fw_goto h rfl ?_
        refine fw_sub (fb_pad_c (Or.inr rfl) (fb_pad_c (Or.inr rfl) (fb_pad_c (Or.inr rfl) (fb_pad_c (Or.inr rfl) (fb_pad_c (Or.inr rfl) (fb_pad_c (Or.inr rfl) (fb_pad_c (Or.inl rfl) (fb_pad_n)))))))) ?_
        have ih2 := ih
        rw [fs_it, fs_e3, show fd_m (xD w) i = m from em] at ih2
        exact ih2
      · refine fw_iload h rfl rfl ?_
        refine fw_iload h rfl rfl ?_
        refine fw_bipush h (nI 10) rfl (by decide) ?_
        refine fn_imulc h rfl ?_
        refine fw_aload_n h rfl rfl ?_
        refine fw_getR _ h rfl fk_g_X0_21 rfl rfl ?_
        refine fw_iload h rfl rfl ?_
        refine fn_iald h rfl rfl (by omega) rfl ?_
        rw [hm]
        first | refine fn_iadd h rfl ?_ | refine fw_iadd h rfl ?_
        refine fw_icmp_ge h rfl (fun c65 => False.elim (nI_ge (a := 10 * i + b) (b := 10 * i + m) (by omega) (by omega) c65)) (fun c65 => ?_)
        refine fw_lload_n h rfl rfl ?_
        refine fw_aload_n h rfl rfl ?_
        refine fw_getR _ h rfl fk_g_X0_27 rfl rfl ?_
        refine fw_iload h rfl rfl ?_
        refine fn_iald h rfl rfl (by omega) rfl ?_
        refine fw_i2l h rfl ?_
        refine fw_s2L h rfl fk_s_X7_mixed fk_l_X0_74 rfl rfl ?_
        refine c_X7_mixed ?_
        refine fw_aload_n h rfl rfl ?_
        refine fw_getR _ h rfl fk_g_X0_30 rfl rfl ?_
        refine fw_iload h rfl rfl ?_
        refine fn_iald h rfl rfl (by omega) rfl ?_
        refine fw_i2l h rfl ?_
        refine fw_s2L h rfl fk_s_X7_mixed fk_l_X0_74 rfl rfl ?_
        refine c_X7_mixed ?_
        refine fw_lstore_n h [_, _, _, _, _, _, _] rfl rfl rfl rfl ?_
        refine fw_lload_n h rfl rfl ?_
        refine fw_aload_n h rfl rfl ?_
        refine fw_getR _ h rfl fk_g_X0_33 rfl rfl ?_
        refine fw_iload h rfl rfl ?_
        refine fn_iald h rfl rfl (by omega) rfl ?_
        refine fw_i2l h rfl ?_
        refine fw_s2L h rfl fk_s_X7_mixed fk_l_X0_74 rfl rfl ?_
        refine c_X7_mixed ?_
        refine fw_aload_n h rfl rfl ?_
        refine fw_getR _ h rfl fk_g_X0_36 rfl rfl ?_
        refine fw_iload h rfl rfl ?_
        refine fn_zald h rfl rfl (by omega) rfl ?_
        refine fw_if_eq h rfl (fun c111 => ?_) (fun c111 => ?_)
        · have en : (if xD w 12 (10 * i + b) = 0 then nI 0 else nI 1) = nI 0 := if_pos c111
          refine fw_lconst h 0 rfl (by decide) ?_
          refine fw_s2L h rfl fk_s_X7_mixed fk_l_X0_74 rfl rfl ?_
          refine c_X7_mixed ?_
          refine fw_lstore_n h [_, _, _, _, _, _, _] rfl rfl rfl rfl ?_
          first | refine fn_iinc h [_, _, _, _, _, _, _] rfl rfl rfl rfl rfl ?_ | refine fw_iinc h 1 [_, _, _, _, _, _, _] rfl (by decide) rfl rfl rfl rfl ?_
          refine fw_goto h rfl ?_
          rw [fs_mxA, en] at ihb
          exact ihb
        · have en : (if xD w 12 (10 * i + b) = 0 then nI 0 else nI 1) = nI 1 := if_neg c111
          refine fw_lconst h 1 rfl (by decide) ?_
          refine fw_goto h rfl ?_
          refine fw_s2L h rfl fk_s_X7_mixed fk_l_X0_74 rfl rfl ?_
          refine c_X7_mixed ?_
          refine fw_lstore_n h [_, _, _, _, _, _, _] rfl rfl rfl rfl ?_
          first | refine fn_iinc h [_, _, _, _, _, _, _] rfl rfl rfl rfl rfl ?_ | refine fw_iinc h 1 [_, _, _, _, _, _, _] rfl (by decide) rfl rfl rfl rfl ?_
          refine fw_goto h rfl ?_
          rw [fs_mxA, en] at ihb
          exact ihb
    · refine fw_iload h rfl rfl ?_
      refine fw_iconst h (nI 5) rfl (by decide) ?_
      refine fw_icmp_gt h rfl (fun c20 => False.elim (absurd c20 (nI_nlt (by omega) (by decide)))) (fun c20 => ?_)
      refine fw_lload_n h rfl rfl ?_
      refine fw_aload_n h rfl rfl ?_
      refine fw_iload h rfl rfl ?_
      refine fw_iload h rfl rfl ?_
      refine fw_v2I h rfl fk_v_X0_fact fk_l_X0_70 rfl rfl rfl rfl ?_
      refine c_X0_fact (by omega) hm hk hm2 (by omega) ?_
      refine fw_i2l h rfl ?_
      refine fw_s2L h rfl fk_s_X7_mixed fk_l_X0_74 rfl rfl ?_
      refine c_X7_mixed ?_
      refine fw_lstore_n h [_, _, _, _, _, _, _] rfl rfl rfl rfl ?_
      first | refine fn_iinc h [_, _, _, _, _, _, _] rfl rfl rfl rfl rfl ?_ | refine fw_iinc h 1 [_, _, _, _, _, _, _] rfl (by decide) rfl rfl rfl rfl ?_
      refine fw_goto h rfl ?_
      exact ihb
