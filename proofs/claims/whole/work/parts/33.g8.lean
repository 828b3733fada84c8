def fm_sz (w : fb_Wd) : Prop := ∀ r, r < 6 → w.1 48 r = -9 ∨ ∃ n, n ≤ 40 ∧ w.1 48 r = nI n
def fp_zr (w : fb_Wd) (c b : Nat) : Nat → fb_Wd
  | 0 => w
  | k + 1 => fb_up (fp_zr w c b k) c (b + k) (nI 0)
theorem c_X8_lay {l : Launch} {w : fb_Wd} {P : Int32 → fb_Wd → Prop} {r i v : Int32} (hsz : fm_sz w) (h1 : ¬ (0 ≤ r ∧ r ≤ 5) → P (-1) w) (h2 : ∀ j, j < 6 → r = nI j → w.1 48 j < 0 → P (-3) (fb_up (fb_up w 46 0 (nI 1)) 47 1 (w.1 47 1 + 1))) (h3 : ∀ j n, j < 6 → r = nI j → n ≤ 40 → w.1 48 j = nI n → ¬ (∃ k, k < n ∧ i = nI k) → P (-3) (fb_up (fb_up w 46 0 (nI 2)) 47 2 (w.1 47 2 + 1))) (h4 : ∀ j n k, j < 6 → r = nI j → n ≤ 40 → w.1 48 j = nI n → k < n → i = nI k → P 1 (fb_up (fb_up w 46 2 (w.1 49 (40 * j + k))) 49 (40 * j + k) v)) : fb_Can l tX8_lay [.ref 46, .int r, .int i, .int v] w (fb_kI P) := by
  refine fb_intro 1 fk_t_X8_lay (by decide) rfl (fun X hX h => ?_)
  subst hX
  change fb_AW tX8_lay X 0 [some (.ref 46), some (.int r), some (.int i), some (.int v), none] [] w
  refine fw_aload_n h rfl rfl ?_
  refine fw_iload_n h rfl rfl ?_
  refine fw_v1I h rfl fk_v_X8_looked fk_l_X8_121 rfl rfl rfl rfl ?_
  refine c_X8_looked (fun c2 => ?_) (fun j2 hj2 e2 c2 => ?_) (fun j2 hj2 e2 c2 => ?_)
  · refine fw_istore h [_, _, _, _, _] rfl rfl rfl rfl ?_
    refine fw_iload h rfl rfl ?_
    refine fw_if_ge h rfl (fun c => absurd c (by decide)) (fun _ => ?_)
    refine fw_iload h rfl rfl ?_
    exact fw_iret h rfl rfl ⟨_, rfl, h1 c2⟩
  · refine fw_istore h [_, _, _, _, _] rfl rfl rfl rfl ?_
    refine fw_iload h rfl rfl ?_
    refine fw_if_ge h rfl (fun c => absurd c (by decide)) (fun _ => ?_)
    refine fw_iload h rfl rfl ?_
    exact fw_iret h rfl rfl ⟨_, rfl, h2 j2 hj2 e2 c2⟩
  · refine fw_istore h [_, _, _, _, _] rfl rfl rfl rfl ?_
    refine fw_iload h rfl rfl ?_
    refine fw_if_ge h rfl (fun _ => ?_) (fun c => absurd c (by decide))
    subst e2
    obtain ⟨n, hn40, hn⟩ : ∃ n, n ≤ 40 ∧ w.1 48 j2 = nI n := (hsz j2 hj2).resolve_left (fun z => c2 (by rw [z]; decide))
    refine fw_iload_n h rfl rfl ?_
    refine fw_iconst h (nI 0) rfl (by decide) ?_
    refine fw_aload_n h rfl rfl ?_
    refine fw_getR _ h rfl fk_g_X8_17 rfl rfl ?_
    refine fw_iload_n h rfl rfl ?_
    refine fn_iald h rfl rfl (by omega) rfl ?_
    rw [hn]
    refine fw_iconst h (nI 1) rfl (by decide) ?_
    refine fw_isub h rfl ?_
    refine fw_s3I h rfl fk_s_X8_in fk_l_X8_109 rfl rfl ?_
    refine c_X8_in (fun c25a c25b => ?_) (fun c25 => ?_)
    · refine fw_if_ne h rfl (fun _ => ?_) (fun c => absurd c (by decide))
      obtain ⟨k, hk, ek⟩ := (fp_below (n := n) (by omega)).mp (And.intro c25a c25b)
      subst ek
      refine fw_aload_n h rfl rfl ?_
      refine fw_aload_n h rfl rfl ?_
      refine fw_getR _ h rfl fk_g_X8_20 rfl rfl ?_
      refine fw_bipush h (nI 40) rfl (by decide) ?_
      refine fw_iload_n h rfl rfl ?_
      first | refine fn_imul h rfl ?_ | refine fw_imul h rfl ?_
      refine fw_iload_n h rfl rfl ?_
      first | refine fn_iadd h rfl ?_ | refine fw_iadd h rfl ?_
      refine fn_iald h rfl rfl (by omega) rfl ?_
      refine fw_putI h rfl fk_p_X8_103 rfl rfl ?_
      refine fw_aload_n h rfl rfl ?_
      refine fw_getR _ h rfl fk_g_X8_20 rfl rfl ?_
      refine fw_bipush h (nI 40) rfl (by decide) ?_
      refine fw_iload_n h rfl rfl ?_
      first | refine fn_imul h rfl ?_ | refine fw_imul h rfl ?_
      refine fw_iload_n h rfl rfl ?_
      first | refine fn_iadd h rfl ?_ | refine fw_iadd h rfl ?_
      refine fw_iload_n h rfl rfl ?_
      refine fn_iast h rfl rfl (by omega) rfl ?_
      refine fw_iconst h (nI 1) rfl (by decide) ?_
      exact fw_iret h rfl rfl ⟨_, rfl, h4 j2 n k hj2 rfl hn40 hn hk rfl⟩
    · refine fw_if_ne h rfl (fun c => absurd c (by decide)) (fun _ => ?_)
      refine fw_aload_n h rfl rfl ?_
      refine fw_iconst h (nI 2) rfl (by decide) ?_
      refine fw_v1I h rfl fk_v_X8_meets fk_l_X8_117 rfl rfl rfl rfl ?_
      refine c_X8_meets (by decide) ?_
      exact fw_iret h rfl rfl ⟨_, rfl, h3 j2 n hj2 rfl hn40 hn (fun z => c25 ((fp_below (n := n) (by omega)).mpr z))⟩
theorem c_X8_row {l : Launch} {w : fb_Wd} {P : Int32 → fb_Wd → Prop} {r n : Int32} (h1 : ¬ ((0 ≤ r ∧ r ≤ 5) ∧ n ≤ 40) → P (-1) w) (h2 : 0 ≤ r → r ≤ 5 → n < 0 → P (-3) (fb_up (fb_up w 46 0 (nI 5)) 47 5 (w.1 47 5 + 1))) (h3 : ∀ j, j < 6 → r = nI j → 0 ≤ n → n ≤ 40 → P n (fp_zr (fb_up w 48 j n) 49 (40 * j) 40)) : fb_Can l tX8_row [.ref 46, .int r, .int n] w (fb_kI P) := by
  refine fb_intro 1 fk_t_X8_row (by decide) rfl (fun X hX h => ?_)
  subst hX
  change fb_AW tX8_row X 0 [some (.ref 46), some (.int r), some (.int n), none] [] w
  refine fw_iload_n h rfl rfl ?_
  refine fw_s1I h rfl fk_s_X8_isRow fk_l_X8_113 rfl rfl ?_
  refine c_X8_isRow (fun c1a c1b => ?_) (fun c1 => ?_)
  · refine fw_if_eq h rfl (fun c => absurd c (by decide)) (fun _ => ?_)
    refine fw_iload_n h rfl rfl ?_
    refine fw_bipush h (nI 40) rfl (by decide) ?_
    refine fw_icmp_le h rfl (fun c10 => ?_) (fun c10 => ?_)
    · refine fw_iload_n h rfl rfl ?_
      refine fw_if_ge h rfl (fun c16 => ?_) (fun c16 => ?_)
      · obtain ⟨j, hj5, ej⟩ := nI_ofle (n := 5) c1a c1b (by decide)
        subst ej
        have hj : j < 6 := by omega
        refine fw_aload_n h rfl rfl ?_
        refine fw_getR _ h rfl fk_g_X8_17 rfl rfl ?_
        refine fw_iload_n h rfl rfl ?_
        refine fw_iload_n h rfl rfl ?_
        refine fn_iast h rfl rfl (by omega) rfl ?_
        refine fw_iconst h (nI 0) rfl (by decide) ?_
        refine fw_istore_n h [_, _, _, _] rfl rfl rfl rfl ?_
        refine fb_loop (fun i => fb_AW tX8_row X 34 [some (.ref 46), some (.int (nI j)), some (.int n), some (.int (nI i))] [] (fp_zr (fb_up w 48 j n) 49 (40 * j) i)) (40) ?_ (fun i hi ih => ?_) 0 (Nat.zero_le _)
        · refine fw_iload_n h rfl rfl ?_
          refine fw_bipush h (nI 40) rfl (by decide) ?_
          refine fw_icmp_ge h rfl (fun c37 => ?_) (fun c37 => False.elim (c37 (by decide)))
          refine fw_iload_n h rfl rfl ?_
          exact fw_iret h rfl rfl ⟨_, rfl, h3 j hj rfl c16 c10⟩
        · refine fw_iload_n h rfl rfl ?_
          refine fw_bipush h (nI 40) rfl (by decide) ?_
          refine fw_icmp_ge h rfl (fun c37 => False.elim (nI_ge hi (by decide) c37)) (fun c37 => ?_)
          refine fw_aload_n h rfl rfl ?_
          refine fw_getR _ h rfl fk_g_X8_20 rfl rfl ?_
          refine fw_bipush h (nI 40) rfl (by decide) ?_
          refine fw_iload_n h rfl rfl ?_
          first | refine fn_imul h rfl ?_ | refine fw_imul h rfl ?_
          refine fw_iload_n h rfl rfl ?_
          first | refine fn_iadd h rfl ?_ | refine fw_iadd h rfl ?_
          refine fw_iconst h (nI 0) rfl (by decide) ?_
          refine fn_iast h rfl rfl (by omega) rfl ?_
          first | refine fn_iinc h [_, _, _, _] rfl rfl rfl rfl rfl ?_ | refine fw_iinc h 1 [_, _, _, _] rfl (by decide) rfl rfl rfl rfl ?_
          refine fw_goto h rfl ?_
          exact ih
      · refine fw_aload_n h rfl rfl ?_
        refine fw_iconst h (nI 5) rfl (by decide) ?_
        refine fw_v1I h rfl fk_v_X8_meets fk_l_X8_117 rfl rfl rfl rfl ?_
        refine c_X8_meets (by decide) ?_
        exact fw_iret h rfl rfl ⟨_, rfl, h2 c1a c1b (Int32.not_le.mp c16)⟩
    · refine fw_iconst h (-1) rfl (by decide) ?_
      exact fw_iret h rfl rfl ⟨_, rfl, h1 (fun q => by first | exact c1 q.1 | exact c10 q.2)⟩
  · refine fw_if_eq h rfl (fun _ => ?_) (fun c => absurd c (by decide))
    refine fw_iconst h (-1) rfl (by decide) ?_
    exact fw_iret h rfl rfl ⟨_, rfl, h1 (fun q => by first | exact c1 q.1 | exact c10 q.2)⟩
