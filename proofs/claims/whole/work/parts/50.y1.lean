theorem fx_nlt {a b : Nat} (ha : a < 2 ^ 31) (hb : b < 2 ^ 31) (h : ¬ nI a < nI b) : b ≤ a := Nat.not_lt.mp (fun y => h ((nI_ltI ha hb).mpr y))
def xZ (w : fb_Wd) : Prop := ∀ r, r < 6 → w.1 10 r = -1 ∨ ∃ n, n ≤ 40 ∧ w.1 10 r = nI n
theorem XI.kq {w : fb_Wd} {nt nd nx ng : Nat} (hX : XI w nt nd nx ng) : ∀ j, j < nd → w.1 26 j = nI (fp_dbt (xD w 12) j (fd_m (xD w) j)) ∧ fp_dbt (xD w 12) j (fd_m (xD w) j) ≤ 5 := fun j hj => ⟨(hX.2.2.2.2.1 j (by have := hX.1.2.1.2; omega)).2, (hX.2.2.1 j hj).2.2.2⟩
theorem c_X7_row {l : Launch} {w : fb_Wd} {P : Int32 → fb_Wd → Prop} {r n : Int32} (h1 : ¬ ((∃ a, a < 6 ∧ r = nI a) ∧ n ≤ 40) → P (-1) w) (h2 : (∃ a, a < 6 ∧ r = nI a) → n < 0 → P (-3) (fb_up (fb_up w 0 9 (nI 5)) 9 5 (w.1 9 5 + 1))) (h3 : ∀ a m, a < 6 → r = nI a → m ≤ 40 → n = nI m → P (nI m) (fp_zr (fb_up w 10 a (nI m)) 11 (40 * a) m)) : fb_Can l tX7_row [.ref 0, .int r, .int n] w (fb_kI P) := by
  refine fb_intro 0 fk_t_X7_row (by decide) rfl (fun X hX h => ?_)
  subst hX
  change fb_AW tX7_row X 0 [some (.ref 0), some (.int r), some (.int n)] [] w
  refine fw_iload_n h rfl rfl ?_
  refine fw_bipush h (nI 6) rfl (by decide) ?_
  refine fw_s2I h rfl fk_s_X7_isBelow fk_l_X7_83 rfl rfl ?_
  refine c_X7_isBelow (by decide) (fun a ha ea => ?_) (fun c3 => ?_)
  · refine fw_if_eq h rfl (fun c => absurd c (by decide)) (fun _ => ?_)
    refine fw_iload_n h rfl rfl ?_
    refine fw_bipush h (nI 40) rfl (by decide) ?_
    refine fw_icmp_le h rfl (fun c12 => ?_) (fun c12 => ?_)
    · refine fw_iload_n h rfl rfl ?_
      refine fw_if_ge h rfl (fun c18 => ?_) (fun c18 => ?_)
      · subst ea
        obtain ⟨m, hm, em⟩ := nI_ofle (n := 40) c18 c12 (by decide)
        subst em
        refine fw_aload_n h rfl rfl ?_
        refine fw_getR _ h rfl fk_g_X7_12 rfl rfl ?_
        refine fw_iload_n h rfl rfl ?_
        refine fw_iload_n h rfl rfl ?_
        refine fw_v2V h rfl fk_v_X3_make fk_l_X7_91 rfl rfl rfl rfl ?_
        refine c_X3_make ha hm ?_
        refine fw_iload_n h rfl rfl ?_
        exact fw_iret h rfl rfl ⟨_, rfl, h3 a m ha rfl hm rfl⟩
      · refine fw_aload_n h rfl rfl ?_
        refine fw_iconst h (nI 5) rfl (by decide) ?_
        refine fw_v1I h rfl fk_v_X7_found fk_l_X7_87 rfl rfl rfl rfl ?_
        refine c_X7_found (by decide) ?_
        exact fw_iret h rfl rfl ⟨_, rfl, h2 ⟨a, ha, ea⟩ (Int32.not_le.mp c18)⟩
    · refine fw_iconst h (-1) rfl (by decide) ?_
      exact fw_iret h rfl rfl ⟨_, rfl, h1 (fun q => by first | exact c3 q.1 | exact c12 q.2)⟩
  · refine fw_if_eq h rfl (fun _ => ?_) (fun c => absurd c (by decide))
    refine fw_iconst h (-1) rfl (by decide) ?_
    exact fw_iret h rfl rfl ⟨_, rfl, h1 (fun q => by first | exact c3 q.1 | exact c12 q.2)⟩
theorem c_X7_lay {l : Launch} {w : fb_Wd} {P : Int32 → fb_Wd → Prop} {r i v : Int32} (hz : xZ w) (h1 : ¬ (∃ a, a < 6 ∧ r = nI a) → P (-1) w) (h2 : ∀ a, a < 6 → r = nI a → w.1 10 a = -1 → P (-3) (fb_up (fb_up w 0 9 (nI 1)) 9 1 (w.1 9 1 + 1))) (h3 : ∀ a p, a < 6 → r = nI a → p ≤ 40 → w.1 10 a = nI p → ¬ (∃ x, i = nI x ∧ x + 1 ≤ p) → P (-3) (fb_up (fb_up w 0 9 (nI 2)) 9 2 (w.1 9 2 + 1))) (h4 : ∀ a p x, a < 6 → r = nI a → p ≤ 40 → w.1 10 a = nI p → i = nI x → x + 1 ≤ p → P 1 (fb_up (fb_up w 11 (40 * a + x) v) 0 10 (w.1 11 (40 * a + x)))) : fb_Can l tX7_lay [.ref 0, .int r, .int i, .int v] w (fb_kI P) := by
  refine fb_intro 1 fk_t_X7_lay (by decide) rfl (fun X hX h => ?_)
  subst hX
  change fb_AW tX7_lay X 0 [some (.ref 0), some (.int r), some (.int i), some (.int v), none] [] w
  refine fw_iload_n h rfl rfl ?_
  refine fw_bipush h (nI 6) rfl (by decide) ?_
  refine fw_s2I h rfl fk_s_X7_isBelow fk_l_X7_83 rfl rfl ?_
  refine c_X7_isBelow (by decide) (fun a ha ea => ?_) (fun c3 => ?_)
  · refine fw_if_ne h rfl (fun _ => ?_) (fun c => absurd c (by decide))
    subst ea
    refine fw_aload_n h rfl rfl ?_
    refine fw_getR _ h rfl fk_g_X7_12 rfl rfl ?_
    refine fw_iload_n h rfl rfl ?_
    refine fw_v1I h rfl fk_v_X3_isMissing fk_l_X7_95 rfl rfl rfl rfl ?_
    refine c_X3_isMissing ha (fun c16 => ?_) (fun c16 => ?_)
    · refine fw_if_eq h rfl (fun c => absurd c (by decide)) (fun _ => ?_)
      refine fw_aload_n h rfl rfl ?_
      refine fw_iconst h (nI 1) rfl (by decide) ?_
      refine fw_v1I h rfl fk_v_X7_found fk_l_X7_87 rfl rfl rfl rfl ?_
      refine c_X7_found (by decide) ?_
      exact fw_iret h rfl rfl ⟨_, rfl, h2 a ha rfl c16⟩
    · refine fw_if_eq h rfl (fun _ => ?_) (fun c => absurd c (by decide))
      obtain ⟨p, hp40, ep⟩ := (hz a ha).resolve_left c16
      refine fw_aload_n h rfl rfl ?_
      refine fw_getR _ h rfl fk_g_X7_12 rfl rfl ?_
      refine fw_iload_n h rfl rfl ?_
      refine fw_iload_n h rfl rfl ?_
      refine fw_iconst h (nI 1) rfl (by decide) ?_
      refine fw_v3I h rfl fk_v_X3_reaches fk_l_X7_99 rfl rfl rfl rfl ?_
      refine c_X3_reaches (m := 1) ha ep hp40 (by decide) (fun x ex hx => ?_) (fun c35 => ?_)
      · refine fw_if_ne h rfl (fun _ => ?_) (fun c => absurd c (by decide))
        refine fw_aload_n h rfl rfl ?_
        refine fw_getR _ h rfl fk_g_X7_12 rfl rfl ?_
        refine fw_iload_n h rfl rfl ?_
        refine fw_iload_n h rfl rfl ?_
        refine fw_v2I h rfl fk_v_X3_at fk_l_X7_103 rfl rfl rfl rfl ?_
        subst ex
        refine c_X3_at ha (by omega) ?_
        refine fw_istore h [_, _, _, _, _] rfl rfl rfl rfl ?_
        refine fw_aload_n h rfl rfl ?_
        refine fw_getR _ h rfl fk_g_X7_12 rfl rfl ?_
        refine fw_iload_n h rfl rfl ?_
        refine fw_iload_n h rfl rfl ?_
        refine fw_iload_n h rfl rfl ?_
        refine fw_v3V h rfl fk_v_X3_put fk_l_X7_107 rfl rfl rfl rfl ?_
        refine c_X3_put ha (by omega) ?_
        refine fw_aload_n h rfl rfl ?_
        refine fw_iload h rfl rfl ?_
        refine fw_iconst h (nI 1) rfl (by decide) ?_
        refine fw_v2I h rfl fk_v_X7_tell fk_l_X7_111 rfl rfl rfl rfl ?_
        refine c_X7_tell ?_
        exact fw_iret h rfl rfl ⟨_, rfl, h4 a p x ha rfl hp40 ep rfl hx⟩
      · refine fw_if_ne h rfl (fun c => absurd c (by decide)) (fun _ => ?_)
        refine fw_aload_n h rfl rfl ?_
        refine fw_iconst h (nI 2) rfl (by decide) ?_
        refine fw_v1I h rfl fk_v_X7_found fk_l_X7_87 rfl rfl rfl rfl ?_
        refine c_X7_found (by decide) ?_
        exact fw_iret h rfl rfl ⟨_, rfl, h3 a p ha rfl hp40 ep c35⟩
  · refine fw_if_ne h rfl (fun c => absurd c (by decide)) (fun _ => ?_)
    refine fw_iconst h (-1) rfl (by decide) ?_
    exact fw_iret h rfl rfl ⟨_, rfl, h1 c3⟩
theorem c_X7_tear {l : Launch} {w : fb_Wd} {P : Int32 → fb_Wd → Prop} {r : Int32} (h1 : ¬ (∃ a, a < 6 ∧ r = nI a) → P (-1) w) (h2 : ∀ a, a < 6 → r = nI a → w.1 10 a = -1 → P (-3) (fb_up (fb_up w 0 9 (nI 1)) 9 1 (w.1 9 1 + 1))) (h3 : ∀ a, a < 6 → r = nI a → ¬ w.1 10 a = -1 → P 1 (fb_up w 10 a (-1))) : fb_Can l tX7_tear [.ref 0, .int r] w (fb_kI P) := by
  refine fb_intro 0 fk_t_X7_tear (by decide) rfl (fun X hX h => ?_)
  subst hX
  change fb_AW tX7_tear X 0 [some (.ref 0), some (.int r)] [] w
  refine fw_iload_n h rfl rfl ?_
  refine fw_bipush h (nI 6) rfl (by decide) ?_
  refine fw_s2I h rfl fk_s_X7_isBelow fk_l_X7_83 rfl rfl ?_
  refine c_X7_isBelow (by decide) (fun a ha ea => ?_) (fun c3 => ?_)
  · refine fw_if_ne h rfl (fun _ => ?_) (fun c => absurd c (by decide))
    subst ea
    refine fw_aload_n h rfl rfl ?_
    refine fw_getR _ h rfl fk_g_X7_12 rfl rfl ?_
    refine fw_iload_n h rfl rfl ?_
    refine fw_v1I h rfl fk_v_X3_isMissing fk_l_X7_95 rfl rfl rfl rfl ?_
    refine c_X3_isMissing ha (fun c16 => ?_) (fun c16 => ?_)
    · refine fw_if_eq h rfl (fun c => absurd c (by decide)) (fun _ => ?_)
      refine fw_aload_n h rfl rfl ?_
      refine fw_iconst h (nI 1) rfl (by decide) ?_
      refine fw_v1I h rfl fk_v_X7_found fk_l_X7_87 rfl rfl rfl rfl ?_
      refine c_X7_found (by decide) ?_
      exact fw_iret h rfl rfl ⟨_, rfl, h2 a ha rfl c16⟩
    · refine fw_if_eq h rfl (fun _ => ?_) (fun c => absurd c (by decide))
      refine fw_aload_n h rfl rfl ?_
      refine fw_getR _ h rfl fk_g_X7_12 rfl rfl ?_
      refine fw_iload_n h rfl rfl ?_
      refine fw_v1V h rfl fk_v_X3_drop fk_l_X7_114 rfl rfl rfl rfl ?_
      refine c_X3_drop ha ?_
      refine fw_iconst h (nI 1) rfl (by decide) ?_
      exact fw_iret h rfl rfl ⟨_, rfl, h3 a ha rfl c16⟩
  · refine fw_if_ne h rfl (fun c => absurd c (by decide)) (fun _ => ?_)
    refine fw_iconst h (-1) rfl (by decide) ?_
    exact fw_iret h rfl rfl ⟨_, rfl, h1 c3⟩
theorem c_X7_copy {l : Launch} {w : fb_Wd} {P : Int32 → fb_Wd → Prop} {r i to j n : Int32} (hz : xZ w) (h1 : ¬ ((∃ a, a < 6 ∧ r = nI a) ∧ ∃ b, b < 6 ∧ to = nI b) → P (-1) w) (h2 : (∃ a, a < 6 ∧ r = nI a) → (∃ b, b < 6 ∧ to = nI b) → n < 0 → P (-3) (fb_up (fb_up w 0 9 (nI 5)) 9 5 (w.1 9 5 + 1))) (h3 : ∀ a b, a < 6 → b < 6 → r = nI a → to = nI b → 0 ≤ n → (w.1 10 a = -1 ∨ w.1 10 b = -1) → P (-3) (fb_up (fb_up w 0 9 (nI 1)) 9 1 (w.1 9 1 + 1))) (h4 : ∀ a b p q m, a < 6 → b < 6 → r = nI a → to = nI b → p ≤ 40 → q ≤ 40 → w.1 10 a = nI p → w.1 10 b = nI q → m < 2 ^ 31 → n = nI m → ¬ (∃ x y, i = nI x ∧ j = nI y ∧ x + m ≤ p ∧ y + m ≤ q) → P (-3) (fb_up (fb_up w 0 9 (nI 2)) 9 2 (w.1 9 2 + 1))) (h5 : ∀ a b p q x y m, a < 6 → b < 6 → r = nI a → to = nI b → p ≤ 40 → q ≤ 40 → w.1 10 a = nI p → w.1 10 b = nI q → i = nI x → j = nI y → n = nI m → x + m ≤ p → y + m ≤ q → P 1 (fb_ua w 11 (va_cpy (w.1 11) (w.1 11) (40 * a + x) (40 * b + y) m))) : fb_Can l tX7_copy [.ref 0, .int r, .int i, .int to, .int j, .int n] w (fb_kI P) := by
  refine fb_intro 0 fk_t_X7_copy (by decide) rfl (fun X hX h => ?_)
  subst hX
  change fb_AW tX7_copy X 0 [some (.ref 0), some (.int r), some (.int i), some (.int to), some (.int j), some (.int n)] [] w
  refine fw_iload_n h rfl rfl ?_
  refine fw_bipush h (nI 6) rfl (by decide) ?_
  refine fw_s2I h rfl fk_s_X7_isBelow fk_l_X7_83 rfl rfl ?_
  refine c_X7_isBelow (by decide) (fun a ha ea => ?_) (fun c3 => ?_)
  · refine fw_if_eq h rfl (fun c => absurd c (by decide)) (fun _ => ?_)
    refine fw_iload_n h rfl rfl ?_
    refine fw_bipush h (nI 6) rfl (by decide) ?_
    refine fw_s2I h rfl fk_s_X7_isBelow fk_l_X7_83 rfl rfl ?_
    refine c_X7_isBelow (by decide) (fun b hb eb => ?_) (fun c12 => ?_)
    · refine fw_if_ne h rfl (fun _ => ?_) (fun c => absurd c (by decide))
      refine fw_iload h rfl rfl ?_
      refine fw_if_ge h rfl (fun c22 => ?_) (fun c22 => ?_)
      · subst ea; subst eb
        obtain ⟨m, hm, em⟩ := nI_of (Int32.not_lt.mpr c22)
        subst em
        refine fw_aload_n h rfl rfl ?_
        refine fw_getR _ h rfl fk_g_X7_12 rfl rfl ?_
        refine fw_iload_n h rfl rfl ?_
        refine fw_v1I h rfl fk_v_X3_isMissing fk_l_X7_95 rfl rfl rfl rfl ?_
        refine c_X3_isMissing ha (fun c36 => ?_) (fun c36 => ?_)
        · refine fw_if_ne h rfl (fun _ => ?_) (fun c => absurd c (by decide))
          refine fw_aload_n h rfl rfl ?_
          refine fw_iconst h (nI 1) rfl (by decide) ?_
          refine fw_v1I h rfl fk_v_X7_found fk_l_X7_87 rfl rfl rfl rfl ?_
          refine c_X7_found (by decide) ?_
          exact fw_iret h rfl rfl ⟨_, rfl, h3 a b ha hb rfl rfl (nI_pos' hm) (by first | exact Or.inl c36 | exact Or.inr c47)⟩
        · refine fw_if_ne h rfl (fun c => absurd c (by decide)) (fun _ => ?_)
          refine fw_aload_n h rfl rfl ?_
          refine fw_getR _ h rfl fk_g_X7_12 rfl rfl ?_
          refine fw_iload_n h rfl rfl ?_
          refine fw_v1I h rfl fk_v_X3_isMissing fk_l_X7_95 rfl rfl rfl rfl ?_
          refine c_X3_isMissing hb (fun c47 => ?_) (fun c47 => ?_)
          · refine fw_if_eq h rfl (fun c => absurd c (by decide)) (fun _ => ?_)
            refine fw_aload_n h rfl rfl ?_
            refine fw_iconst h (nI 1) rfl (by decide) ?_
            refine fw_v1I h rfl fk_v_X7_found fk_l_X7_87 rfl rfl rfl rfl ?_
            refine c_X7_found (by decide) ?_
            exact fw_iret h rfl rfl ⟨_, rfl, h3 a b ha hb rfl rfl (nI_pos' hm) (by first | exact Or.inl c36 | exact Or.inr c47)⟩
          · refine fw_if_eq h rfl (fun _ => ?_) (fun c => absurd c (by decide))
            obtain ⟨p, hp40, ep⟩ := (hz a ha).resolve_left c36
            obtain ⟨q, hq40, eq⟩ := (hz b hb).resolve_left c47
            refine fw_aload_n h rfl rfl ?_
            refine fw_getR _ h rfl fk_g_X7_12 rfl rfl ?_
            refine fw_iload_n h rfl rfl ?_
            refine fw_iload_n h rfl rfl ?_
            refine fw_iload h rfl rfl ?_
            refine fw_v3I h rfl fk_v_X3_reaches fk_l_X7_99 rfl rfl rfl rfl ?_
            refine c_X3_reaches ha ep hp40 hm (fun x ex hx => ?_) (fun c67 => ?_)
            · refine fw_if_eq h rfl (fun c => absurd c (by decide)) (fun _ => ?_)
              refine fw_aload_n h rfl rfl ?_
              refine fw_getR _ h rfl fk_g_X7_12 rfl rfl ?_
              refine fw_iload_n h rfl rfl ?_
              refine fw_iload h rfl rfl ?_
              refine fw_iload h rfl rfl ?_
              refine fw_v3I h rfl fk_v_X3_reaches fk_l_X7_99 rfl rfl rfl rfl ?_
              refine c_X3_reaches hb eq hq40 hm (fun y ey hy => ?_) (fun c82 => ?_)
              · refine fw_if_ne h rfl (fun _ => ?_) (fun c => absurd c (by decide))
                refine fw_aload_n h rfl rfl ?_
                refine fw_getR _ h rfl fk_g_X7_12 rfl rfl ?_
                refine fw_iload_n h rfl rfl ?_
                refine fw_iload_n h rfl rfl ?_
                refine fw_iload_n h rfl rfl ?_
                refine fw_iload h rfl rfl ?_
                refine fw_iload h rfl rfl ?_
                refine fw_v5V h rfl fk_v_X3_carry fk_l_X7_118 rfl rfl rfl rfl ?_
                subst ex; subst ey
                refine c_X3_carry ha hb (by omega) (by omega) ?_
                refine fw_iconst h (nI 1) rfl (by decide) ?_
                exact fw_iret h rfl rfl ⟨_, rfl, h5 a b p q x y m ha hb rfl rfl hp40 hq40 ep eq rfl rfl rfl hx hy⟩
              · refine fw_if_ne h rfl (fun c => absurd c (by decide)) (fun _ => ?_)
                refine fw_aload_n h rfl rfl ?_
                refine fw_iconst h (nI 2) rfl (by decide) ?_
                refine fw_v1I h rfl fk_v_X7_found fk_l_X7_87 rfl rfl rfl rfl ?_
                refine c_X7_found (by decide) ?_
                exact fw_iret h rfl rfl ⟨_, rfl, h4 a b p q m ha hb rfl rfl hp40 hq40 ep eq hm rfl (fun ⟨x2, y2, z1, z2, z3, z4⟩ => by first | exact c67 ⟨x2, z1, z3⟩ | exact c82 ⟨y2, z2, z4⟩)⟩
            · refine fw_if_eq h rfl (fun _ => ?_) (fun c => absurd c (by decide))
              refine fw_aload_n h rfl rfl ?_
              refine fw_iconst h (nI 2) rfl (by decide) ?_
              refine fw_v1I h rfl fk_v_X7_found fk_l_X7_87 rfl rfl rfl rfl ?_
              refine c_X7_found (by decide) ?_
              exact fw_iret h rfl rfl ⟨_, rfl, h4 a b p q m ha hb rfl rfl hp40 hq40 ep eq hm rfl (fun ⟨x2, y2, z1, z2, z3, z4⟩ => by first | exact c67 ⟨x2, z1, z3⟩ | exact c82 ⟨y2, z2, z4⟩)⟩
      · refine fw_aload_n h rfl rfl ?_
        refine fw_iconst h (nI 5) rfl (by decide) ?_
        refine fw_v1I h rfl fk_v_X7_found fk_l_X7_87 rfl rfl rfl rfl ?_
        refine c_X7_found (by decide) ?_
        exact fw_iret h rfl rfl ⟨_, rfl, h2 ⟨a, ha, ea⟩ ⟨b, hb, eb⟩ (Int32.not_le.mp c22)⟩
    · refine fw_if_ne h rfl (fun c => absurd c (by decide)) (fun _ => ?_)
      refine fw_iconst h (-1) rfl (by decide) ?_
      exact fw_iret h rfl rfl ⟨_, rfl, h1 (fun z => by first | exact c3 z.1 | exact c12 z.2)⟩
  · refine fw_if_eq h rfl (fun _ => ?_) (fun c => absurd c (by decide))
    refine fw_iconst h (-1) rfl (by decide) ?_
    exact fw_iret h rfl rfl ⟨_, rfl, h1 (fun z => by first | exact c3 z.1 | exact c12 z.2)⟩
def fx_ad (w : fb_Wd) (n : Nat) (k s v u tp wm : Int32) (p : Nat) (x be sd : Int32) : fb_Wd := (fb_up (fb_up (fx_cw (fb_up (fb_up (fb_up (fb_up (fb_up (fb_up (fb_up (fb_up w 2 12 (nI (n + 1))) 12 n k) 13 n s) 15 n u) 16 n (-9)) 17 n tp) 18 n wm) 20 p x) n v) 2 10 be) 2 11 sd)
theorem c_X7_thing {l : Launch} {w : fb_Wd} {P : Int32 → fb_Wd → Prop} {nt nd nx ng : Nat} (hX : XI w nt nd nx ng) {k s v u : Int32} (hb : ¬ ((0 ≤ k ∧ k ≤ 3) ∧ (∃ q, q < 10 ∧ s = nI q) ∧ (0 ≤ v ∧ v ≤ 10000) ∧ (u = -9 ∨ ∃ j, j < nt ∧ u = nI j)) → P (-1) w) (hf : nt = 20 → ((0 ≤ k ∧ k ≤ 3) ∧ (∃ q, q < 10 ∧ s = nI q) ∧ (0 ≤ v ∧ v ≤ 10000) ∧ (u = -9 ∨ ∃ j, j < nt ∧ u = nI j)) → P (-2) w) (hg : nt < 20 → ((0 ≤ k ∧ k ≤ 3) ∧ (∃ q, q < 10 ∧ s = nI q) ∧ (0 ≤ v ∧ v ≤ 10000) ∧ (u = -9 ∨ ∃ j, j < nt ∧ u = nI j)) → ∀ tp wm p x be sd, (u = -9 → tp = nI nt ∧ wm = nI 0 ∧ p = 0 ∧ x = w.1 20 0) → (∀ q, q < nt → u = nI q → tp = w.1 17 q ∧ wm = w.1 18 q ||| nI 1 <<< (nI q &&& 31) ∧ p = q ∧ x = w.1 20 q ||| nI 1 <<< (nI nt &&& 31)) → ((k = 1 ∨ k = 2) → be = w.1 2 10 ||| nI 1 <<< (nI nt &&& 31)) → (¬ (k = 1 ∨ k = 2) → be = w.1 2 10) → (k = 3 → sd = w.1 2 11 ||| nI 1 <<< (nI nt &&& 31)) → (¬ k = 3 → sd = w.1 2 11) → P (nI nt) (fx_ad w nt k s v u tp wm p x be sd)) : fb_Can l tX7_thing [.ref 0, .int k, .int s, .int v, .int u] w (fb_kI P) := by
  refine fb_intro 0 fk_t_X7_thing (by decide) rfl (fun X hX h => ?_)
  subst hX
  change fb_AW tX7_thing X 0 [some (.ref 0), some (.int k), some (.int s), some (.int v), some (.int u)] [] w
  refine fw_iload_n h rfl rfl ?_
  refine fw_iconst h (nI 0) rfl (by decide) ?_
  refine fw_iconst h (nI 3) rfl (by decide) ?_
  refine fw_s3I h rfl fk_s_X7_isBetween fk_l_X7_122 rfl rfl ?_
  refine c_X7_isBetween (fun c3a c3b => ?_) (fun c3 => ?_)
  · refine fw_if_eq h rfl (fun c => absurd c (by decide)) (fun _ => ?_)
    refine fw_iload_n h rfl rfl ?_
    refine fw_bipush h (nI 10) rfl (by decide) ?_
    refine fw_s2I h rfl fk_s_X7_isBelow fk_l_X7_83 rfl rfl ?_
    refine c_X7_isBelow (by decide) (fun q hq eq => ?_) (fun c12 => ?_)
    · refine fw_if_eq h rfl (fun c => absurd c (by decide)) (fun _ => ?_)
      refine fw_iload_n h rfl rfl ?_
      refine fw_iconst h (nI 0) rfl (by decide) ?_
      refine fw_sipush h (nI 10000) rfl (by decide) ?_
      refine fw_s3I h rfl fk_s_X7_isBetween fk_l_X7_122 rfl rfl ?_
      refine c_X7_isBetween (fun c23a c23b => ?_) (fun c23 => ?_)
      · refine fw_if_ne h rfl (fun _ => ?_) (fun c => absurd c (by decide))
        refine fw_iload h rfl rfl ?_
        refine fw_bipush h (-9) rfl (by decide) ?_
        refine fw_icmp_eq h rfl (fun c35 => ?_) (fun c35 => ?_)
        · have hu : u = -9 ∨ ∃ j, j < nt ∧ u = nI j := by first | exact Or.inl c35 | exact Or.inr ⟨j, hj, ej⟩
          have hnt := hX.1.1.2
          refine fw_aload_n h rfl rfl ?_
          refine fw_getR _ h rfl fk_g_X7_19 rfl rfl ?_
          refine fw_getI h rfl fk_g_X7_128 rfl rfl ?_
          rw [show w.1 2 12 = nI nt from hX.1.1.1]
          refine fw_bipush h (nI 20) rfl (by decide) ?_
          refine fw_icmp_lt h rfl (fun c61 => ?_) (fun c61 => ?_)
          · refine fw_aload_n h rfl rfl ?_
            refine fw_getR _ h rfl fk_g_X7_19 rfl rfl ?_
            refine fw_iload_n h rfl rfl ?_
            refine fw_iload_n h rfl rfl ?_
            refine fw_iload_n h rfl rfl ?_
            refine fw_iload h rfl rfl ?_
            refine fw_v4I h rfl fk_v_X6_add fk_l_X7_131 rfl rfl rfl rfl ?_
            refine c_X6_add hX.1.1.1 (by have := (nI_ltI (by have := hX.1.1.2; omega) (by decide)).mp c61; exact this) hu (fun tp wm p x be sd z1 z2 z3 z4 z5 z6 => ?_)
            exact fw_iret h rfl rfl ⟨_, rfl, hg ((nI_ltI (by omega) (by decide)).mp c61) ⟨⟨c3a, c3b⟩, ⟨q, hq, eq⟩, ⟨c23a, c23b⟩, hu⟩ tp wm p x be sd z1 z2 z3 z4 z5 z6⟩
          · refine fw_bipush h (-2) rfl (by decide) ?_
            exact fw_iret h rfl rfl ⟨_, rfl, hf (by have := fx_nlt (b := 20) (by omega) (by decide) c61; omega) ⟨⟨c3a, c3b⟩, ⟨q, hq, eq⟩, ⟨c23a, c23b⟩, hu⟩⟩
        · refine fw_aload_n h rfl rfl ?_
          refine fw_getR _ h rfl fk_g_X7_19 rfl rfl ?_
          refine fw_iload h rfl rfl ?_
          refine fw_v1I h rfl fk_v_X6_has fk_l_X7_125 rfl rfl rfl rfl ?_
          refine c_X6_has hX.1.1.1 hX.1.1.2 (fun j hj ej => ?_) (fun c44 => ?_)
          · refine fw_if_ne h rfl (fun _ => ?_) (fun c => absurd c (by decide))
            have hu : u = -9 ∨ ∃ j, j < nt ∧ u = nI j := by first | exact Or.inl c35 | exact Or.inr ⟨j, hj, ej⟩
            have hnt := hX.1.1.2
            refine fw_aload_n h rfl rfl ?_
            refine fw_getR _ h rfl fk_g_X7_19 rfl rfl ?_
            refine fw_getI h rfl fk_g_X7_128 rfl rfl ?_
            rw [show w.1 2 12 = nI nt from hX.1.1.1]
            refine fw_bipush h (nI 20) rfl (by decide) ?_
            refine fw_icmp_lt h rfl (fun c61 => ?_) (fun c61 => ?_)
            · refine fw_aload_n h rfl rfl ?_
              refine fw_getR _ h rfl fk_g_X7_19 rfl rfl ?_
              refine fw_iload_n h rfl rfl ?_
              refine fw_iload_n h rfl rfl ?_
              refine fw_iload_n h rfl rfl ?_
              refine fw_iload h rfl rfl ?_
              refine fw_v4I h rfl fk_v_X6_add fk_l_X7_131 rfl rfl rfl rfl ?_
              refine c_X6_add hX.1.1.1 (by have := (nI_ltI (by have := hX.1.1.2; omega) (by decide)).mp c61; exact this) hu (fun tp wm p x be sd z1 z2 z3 z4 z5 z6 => ?_)
              exact fw_iret h rfl rfl ⟨_, rfl, hg ((nI_ltI (by omega) (by decide)).mp c61) ⟨⟨c3a, c3b⟩, ⟨q, hq, eq⟩, ⟨c23a, c23b⟩, hu⟩ tp wm p x be sd z1 z2 z3 z4 z5 z6⟩
            · refine fw_bipush h (-2) rfl (by decide) ?_
              exact fw_iret h rfl rfl ⟨_, rfl, hf (by have := fx_nlt (b := 20) (by omega) (by decide) c61; omega) ⟨⟨c3a, c3b⟩, ⟨q, hq, eq⟩, ⟨c23a, c23b⟩, hu⟩⟩
          · refine fw_if_ne h rfl (fun c => absurd c (by decide)) (fun _ => ?_)
            refine fw_iconst h (-1) rfl (by decide) ?_
            exact fw_iret h rfl rfl ⟨_, rfl, hb (fun z => z.2.2.2.elim c35 c44)⟩
      · refine fw_if_ne h rfl (fun c => absurd c (by decide)) (fun _ => ?_)
        refine fw_iconst h (-1) rfl (by decide) ?_
        exact fw_iret h rfl rfl ⟨_, rfl, hb (fun z => by first | exact c3 z.1 | exact c12 z.2.1 | exact c23 z.2.2.1)⟩
    · refine fw_if_eq h rfl (fun _ => ?_) (fun c => absurd c (by decide))
      refine fw_iconst h (-1) rfl (by decide) ?_
      exact fw_iret h rfl rfl ⟨_, rfl, hb (fun z => by first | exact c3 z.1 | exact c12 z.2.1 | exact c23 z.2.2.1)⟩
  · refine fw_if_eq h rfl (fun _ => ?_) (fun c => absurd c (by decide))
    refine fw_iconst h (-1) rfl (by decide) ?_
    exact fw_iret h rfl rfl ⟨_, rfl, hb (fun z => by first | exact c3 z.1 | exact c12 z.2.1 | exact c23 z.2.2.1)⟩
theorem c_X7_on {l : Launch} {w : fb_Wd} {P : Int32 → fb_Wd → Prop} {nt nd nx ng : Nat} (hX : XI w nt nd nx ng) {t o : Int32} {rk : Nat → Nat} (hrk : fo_rb (xD w 4) nt rk) (hb : ¬ ((∃ j, j < nt ∧ t = nI j) ∧ ¬ t = o ∧ (o = -9 ∨ ∃ u, u < nt ∧ o = nI u)) → P (-1) w) (hs : ∀ j, j < nt → t = nI j → ¬ t = o → (o = -9 ∨ ∃ u, u < nt ∧ o = nI u) → (∃ k, fo_it (xD w 4) k o = nI j) → P (-4) w) (hg : ∀ j, j < nt → t = nI j → ¬ t = o → (o = -9 ∨ ∃ u, u < nt ∧ o = nI u) → ¬ (∃ k, fo_it (xD w 4) k o = nI j) → P (xD w 4 j) (fx_lo w j o)) : fb_Can l tX7_on [.ref 0, .int t, .int o] w (fb_kI P) := by
  refine fb_intro 1 fk_t_X7_on (by decide) rfl (fun X hX h => ?_)
  subst hX
  change fb_AW tX7_on X 0 [some (.ref 0), some (.int t), some (.int o), none] [] w
  refine fw_aload_n h rfl rfl ?_
  refine fw_getR _ h rfl fk_g_X7_19 rfl rfl ?_
  refine fw_iload_n h rfl rfl ?_
  refine fw_v1I h rfl fk_v_X6_has fk_l_X7_125 rfl rfl rfl rfl ?_
  refine c_X6_has hX.1.1.1 hX.1.1.2 (fun j hj ej => ?_) (fun c5 => ?_)
  · refine fw_if_eq h rfl (fun c => absurd c (by decide)) (fun _ => ?_)
    refine fw_iload_n h rfl rfl ?_
    refine fw_iload_n h rfl rfl ?_
    refine fw_icmp_ne h rfl (fun c13 => ?_) (fun c13 => ?_)
    · refine fw_iload_n h rfl rfl ?_
      refine fw_bipush h (-9) rfl (by decide) ?_
      refine fw_icmp_eq h rfl (fun c21 => ?_) (fun c21 => ?_)
      · have ho : o = -9 ∨ ∃ u, u < nt ∧ o = nI u := by first | exact Or.inl c21 | exact Or.inr ⟨u, hu, eu⟩
        have hnt := hX.1.1.2
        refine fw_aload_n h rfl rfl ?_
        refine fw_getR _ h rfl fk_g_X7_19 rfl rfl ?_
        refine fw_iload_n h rfl rfl ?_
        refine fw_iload_n h rfl rfl ?_
        refine fw_v2I h rfl fk_v_X6_liesBeneath fk_l_X7_135 rfl rfl rfl rfl ?_
        subst ej
        refine c_X6_liesBeneath hX.1.1.2 hX.1.1.1 hj hrk (fun t ht => (hX.2.1 t ht).2.2.2.2) ho (fun c43 => ?_) (fun c43 => ?_)
        · refine fw_if_eq h rfl (fun c => absurd c (by decide)) (fun _ => ?_)
          refine fw_bipush h (-4) rfl (by decide) ?_
          exact fw_iret h rfl rfl ⟨_, rfl, hs j hj rfl c13 ho c43⟩
        · refine fw_if_eq h rfl (fun _ => ?_) (fun c => absurd c (by decide))
          refine fw_aload_n h rfl rfl ?_
          refine fw_getR _ h rfl fk_g_X7_19 rfl rfl ?_
          refine fw_getR _ h rfl fk_g_X7_138 rfl rfl ?_
          refine fw_iload_n h rfl rfl ?_
          refine fn_iald h rfl rfl (by omega) rfl ?_
          refine fw_istore_n h [_, _, _, _] rfl rfl rfl rfl ?_
          refine fw_aload_n h rfl rfl ?_
          refine fw_getR _ h rfl fk_g_X7_19 rfl rfl ?_
          refine fw_iload_n h rfl rfl ?_
          refine fw_iload_n h rfl rfl ?_
          refine fw_v2V h rfl fk_v_X6_layOn fk_l_X7_141 rfl rfl rfl rfl ?_
          refine c_X6_layOn (by omega) ((hX.2.1 j hj).2.2.2.2.imp id (fun ⟨u, hu, e⟩ => ⟨u, by omega, e⟩)) (ho.imp id (fun ⟨u, hu, e⟩ => ⟨u, by omega, e⟩)) ?_
          refine fw_iload_n h rfl rfl ?_
          exact fw_iret h rfl rfl ⟨_, rfl, hg j hj rfl c13 ho c43⟩
      · refine fw_aload_n h rfl rfl ?_
        refine fw_getR _ h rfl fk_g_X7_19 rfl rfl ?_
        refine fw_iload_n h rfl rfl ?_
        refine fw_v1I h rfl fk_v_X6_has fk_l_X7_125 rfl rfl rfl rfl ?_
        refine c_X6_has hX.1.1.1 hX.1.1.2 (fun u hu eu => ?_) (fun c29 => ?_)
        · refine fw_if_ne h rfl (fun _ => ?_) (fun c => absurd c (by decide))
          have ho : o = -9 ∨ ∃ u, u < nt ∧ o = nI u := by first | exact Or.inl c21 | exact Or.inr ⟨u, hu, eu⟩
          have hnt := hX.1.1.2
          refine fw_aload_n h rfl rfl ?_
          refine fw_getR _ h rfl fk_g_X7_19 rfl rfl ?_
          refine fw_iload_n h rfl rfl ?_
          refine fw_iload_n h rfl rfl ?_
          refine fw_v2I h rfl fk_v_X6_liesBeneath fk_l_X7_135 rfl rfl rfl rfl ?_
          subst ej
          refine c_X6_liesBeneath hX.1.1.2 hX.1.1.1 hj hrk (fun t ht => (hX.2.1 t ht).2.2.2.2) ho (fun c43 => ?_) (fun c43 => ?_)
          · refine fw_if_eq h rfl (fun c => absurd c (by decide)) (fun _ => ?_)
            refine fw_bipush h (-4) rfl (by decide) ?_
            exact fw_iret h rfl rfl ⟨_, rfl, hs j hj rfl c13 ho c43⟩
          · refine fw_if_eq h rfl (fun _ => ?_) (fun c => absurd c (by decide))
            refine fw_aload_n h rfl rfl ?_
            refine fw_getR _ h rfl fk_g_X7_19 rfl rfl ?_
            refine fw_getR _ h rfl fk_g_X7_138 rfl rfl ?_
            refine fw_iload_n h rfl rfl ?_
            refine fn_iald h rfl rfl (by omega) rfl ?_
            refine fw_istore_n h [_, _, _, _] rfl rfl rfl rfl ?_
            refine fw_aload_n h rfl rfl ?_
            refine fw_getR _ h rfl fk_g_X7_19 rfl rfl ?_
            refine fw_iload_n h rfl rfl ?_
            refine fw_iload_n h rfl rfl ?_
            refine fw_v2V h rfl fk_v_X6_layOn fk_l_X7_141 rfl rfl rfl rfl ?_
            refine c_X6_layOn (by omega) ((hX.2.1 j hj).2.2.2.2.imp id (fun ⟨u, hu, e⟩ => ⟨u, by omega, e⟩)) (ho.imp id (fun ⟨u, hu, e⟩ => ⟨u, by omega, e⟩)) ?_
            refine fw_iload_n h rfl rfl ?_
            exact fw_iret h rfl rfl ⟨_, rfl, hg j hj rfl c13 ho c43⟩
        · refine fw_if_ne h rfl (fun c => absurd c (by decide)) (fun _ => ?_)
          refine fw_iconst h (-1) rfl (by decide) ?_
          exact fw_iret h rfl rfl ⟨_, rfl, hb (fun z => z.2.2.elim c21 c29)⟩
    · refine fw_iconst h (-1) rfl (by decide) ?_
      exact fw_iret h rfl rfl ⟨_, rfl, hb (fun z => by first | exact c5 z.1 | exact z.2.1 c13)⟩
  · refine fw_if_eq h rfl (fun _ => ?_) (fun c => absurd c (by decide))
    refine fw_iconst h (-1) rfl (by decide) ?_
    exact fw_iret h rfl rfl ⟨_, rfl, hb (fun z => by first | exact c5 z.1 | exact z.2.1 c13)⟩
theorem c_X7_told {l : Launch} {w : fb_Wd} {P : Int32 → fb_Wd → Prop} {nt nd nx ng : Nat} (hX : XI w nt nd nx ng) {t q : Int32} (hb : ¬ ((∃ j, j < nt ∧ t = nI j) ∧ 0 ≤ q ∧ q ≤ 6) → P (-1) w) (hg : ∀ j k, j < nt → t = nI j → k ≤ 6 → q = nI k → P 1 (fb_up w 0 10 (fs_tt (xD w) nt j k))) : fb_Can l tX7_told [.ref 0, .int t, .int q] w (fb_kI P) := by
  refine fb_intro 0 fk_t_X7_told (by decide) rfl (fun X hX h => ?_)
  subst hX
  change fb_AW tX7_told X 0 [some (.ref 0), some (.int t), some (.int q)] [] w
  refine fw_aload_n h rfl rfl ?_
  refine fw_getR _ h rfl fk_g_X7_19 rfl rfl ?_
  refine fw_iload_n h rfl rfl ?_
  refine fw_v1I h rfl fk_v_X6_has fk_l_X7_125 rfl rfl rfl rfl ?_
  refine c_X6_has hX.1.1.1 hX.1.1.2 (fun j hj ej => ?_) (fun c5 => ?_)
  · refine fw_if_eq h rfl (fun c => absurd c (by decide)) (fun _ => ?_)
    refine fw_iload_n h rfl rfl ?_
    refine fw_iconst h (nI 0) rfl (by decide) ?_
    refine fw_bipush h (nI 6) rfl (by decide) ?_
    refine fw_s3I h rfl fk_s_X7_isBetween fk_l_X7_122 rfl rfl ?_
    refine c_X7_isBetween (fun c15a c15b => ?_) (fun c15 => ?_)
    · refine fw_if_ne h rfl (fun _ => ?_) (fun c => absurd c (by decide))
      obtain ⟨k, hk, ek⟩ := nI_ofle (n := 6) c15a c15b (by decide)
      subst ej; subst ek
      refine fw_aload_n h rfl rfl ?_
      refine fw_aload_n h rfl rfl ?_
      refine fw_getR _ h rfl fk_g_X7_19 rfl rfl ?_
      refine fw_iload_n h rfl rfl ?_
      refine fw_iload_n h rfl rfl ?_
      refine fw_v2I h rfl fk_v_X6_fact fk_l_X7_144 rfl rfl rfl rfl ?_
      refine c_X6_fact hX.1.1.2 hj (hX.2.2.2.1.1 j hj) (hX.2.2.2.1.2.2.1 j hj) hk ?_
      refine fw_iconst h (nI 1) rfl (by decide) ?_
      refine fw_v2I h rfl fk_v_X7_tell fk_l_X7_111 rfl rfl rfl rfl ?_
      refine c_X7_tell ?_
      exact fw_iret h rfl rfl ⟨_, rfl, hg j k hj rfl hk rfl⟩
    · refine fw_if_ne h rfl (fun c => absurd c (by decide)) (fun _ => ?_)
      refine fw_iconst h (-1) rfl (by decide) ?_
      exact fw_iret h rfl rfl ⟨_, rfl, hb (fun z => by first | exact c5 z.1 | exact c15 z.2)⟩
  · refine fw_if_eq h rfl (fun _ => ?_) (fun c => absurd c (by decide))
    refine fw_iconst h (-1) rfl (by decide) ?_
    exact fw_iret h rfl rfl ⟨_, rfl, hb (fun z => by first | exact c5 z.1 | exact c15 z.2)⟩
def fx_mi (D : Nat → Nat → Int32) (kd : Int32) (d m : Nat) : Int32 := if kd = nI 1 then fx_ac D d (nI 1023) (nI 0) m else if kd = nI 2 then fx_ac D d (nI 1023) (nI 1) m else fs_ht D d (nI 1023) m
theorem fs_ma_iff {D : Nat → Nat → Int32} {kd t : Int32} {d : Nat} : ∀ {m : Nat}, fs_ma D kd t d m = true ↔ ∃ k, k < m ∧ fs_ft kd (D 9 (10 * d + k)) = true ∧ D 10 (10 * d + k) = t
  | 0 => by rw [fs_ma]; simp
  | m + 1 => by
    rw [fs_ma, Bool.or_eq_true, fs_ma_iff (m := m), Bool.and_eq_true, decide_eq_true_eq]
    constructor
    · rintro (⟨k, hk, h⟩ | h)
      · exact ⟨k, by omega, h⟩
      · exact ⟨m, by omega, h⟩
    · rintro ⟨k, hk, h⟩
      by_cases e : k = m
      · subst e; exact Or.inr h
      · exact Or.inl ⟨k, by omega, h⟩
theorem fx_1023 : ∀ k, k < 10 → bt (nI 1023) k = true := by decide +kernel
theorem fx_ac_j {D : Nat → Nat → Int32} {nt d m j : Nat} {s : Int32} (hA : fd_A D nt d m) (hn : nt ≤ 20) (hj : j < 32) : bt (fx_ac D d (nI 1023) s m) j = true ↔ ∃ k, k < m ∧ D 9 (10 * d + k) = s ∧ D 10 (10 * d + k) = nI j := by
  unfold fx_ac
  rw [fp_orF_bt]
  have hm := hA.2.1
  constructor
  · rintro ⟨k, hk, h⟩
    obtain ⟨s2, a, hs, es, ha, ea, -⟩ := hA.2.2.1 k hk
    split at h
    · rename_i q
      rw [ea, fx_bo_bt (by omega) hj] at h
      have e := of_decide_eq_true h
      subst e
      exact ⟨k, hk, q.1, ea⟩
    · rw [nI_0, b_0] at h; cases h
  · rintro ⟨k, hk, h1, h2⟩
    exact ⟨k, hk, by rw [if_pos ⟨h1, fx_1023 k (by omega)⟩, h2, fx_bo_bt hj hj]; exact decide_eq_true rfl⟩
theorem fx_mi_eq {D : Nat → Nat → Int32} {nt d m j : Nat} {kd : Int32} (hA : fd_A D nt d m) (hn : nt ≤ 20) (hj : j < 20) : bt (fx_mi D kd d m) j = fs_ma D kd (nI j) d m := by
  apply Bool.eq_iff_iff.mpr
  rw [fs_ma_iff]
  unfold fx_mi
  by_cases h1 : kd = nI 1
  · rw [if_pos h1, fx_ac_j hA hn (by omega)]
    constructor
    · rintro ⟨k, hk, q1, q2⟩
      exact ⟨k, hk, by rw [fs_ft_1 h1]; exact decide_eq_true q1, q2⟩
    · rintro ⟨k, hk, q1, q2⟩
      rw [fs_ft_1 h1] at q1
      exact ⟨k, hk, of_decide_eq_true q1, q2⟩
  · rw [if_neg h1]
    by_cases h2 : kd = nI 2
    · rw [if_pos h2, fx_ac_j hA hn (by omega)]
      constructor
      · rintro ⟨k, hk, q1, q2⟩
        exact ⟨k, hk, by rw [fs_ft_2 h1 h2]; exact decide_eq_true q1, q2⟩
      · rintro ⟨k, hk, q1, q2⟩
        rw [fs_ft_2 h1 h2] at q1
        exact ⟨k, hk, of_decide_eq_true q1, q2⟩
    · rw [if_neg h2, ← fx_ht_eq hA hn, fp_or_bt, fx_ac_j hA hn (by omega), fx_ac_j hA hn (by omega)]
      constructor
      · rintro (⟨k, hk, q1, q2⟩ | ⟨k, hk, q1, q2⟩)
        · exact ⟨k, hk, by rw [fs_ft_3 h1 h2, q1]; decide, q2⟩
        · exact ⟨k, hk, by rw [fs_ft_3 h1 h2, q1]; decide, q2⟩
      · rintro ⟨k, hk, q1, q2⟩
        obtain ⟨s, a, hs, es, -⟩ := hA.2.2.1 k hk
        rw [fs_ft_3 h1 h2, es] at q1
        have hs2 : s = 2 ∨ s = 3 := by
          rcases (show s = 0 ∨ s = 1 ∨ s = 2 ∨ s = 3 by omega) with rfl | rfl | rfl | rfl
          · exact absurd q1 (by decide)
          · exact absurd q1 (by decide)
          · exact Or.inl rfl
          · exact Or.inr rfl
        rcases hs2 with rfl | rfl
        · exact Or.inl ⟨k, hk, es, q2⟩
        · exact Or.inr ⟨k, hk, es, q2⟩
theorem c_X7_markedIn {l : Launch} {w : fb_Wd} {P : Int32 → fb_Wd → Prop} {d m nt : Nat} {kd : Int32} (hA : fd_A (xD w) nt d m) (hn : nt ≤ 20) (hd : d < 12) (hp : P (fx_mi (xD w) kd d m) w) : fb_Can l tX7_markedIn [.ref 0, .int (nI d), .int kd] w (fb_kI P) := by
  refine fb_intro 0 fk_t_X7_markedIn (by decide) rfl (fun X hX h => ?_)
  subst hX
  change fb_AW tX7_markedIn X 0 [some (.ref 0), some (.int (nI d)), some (.int kd)] [] w
  refine fw_iload_n h rfl rfl ?_
  refine fw_iconst h (nI 1) rfl (by decide) ?_
  refine fw_icmp_ne h rfl (fun c2 => ?_) (fun c2 => ?_)
  · refine fw_iload_n h rfl rfl ?_
    refine fw_iconst h (nI 2) rfl (by decide) ?_
    refine fw_icmp_ne h rfl (fun c20 => ?_) (fun c20 => ?_)
    · refine fw_aload_n h rfl rfl ?_
      refine fw_getR _ h rfl fk_g_X7_26 rfl rfl ?_
      refine fw_iload_n h rfl rfl ?_
      refine fw_sipush h (nI 1023) rfl (by decide) ?_
      refine fw_v2I h rfl fk_v_X0_hit fk_l_X7_161 rfl rfl rfl rfl ?_
      refine c_X0_hit hA hn hd ?_
      exact fw_iret h rfl rfl ⟨_, rfl, by unfold fx_mi at hp; rw [if_neg c2, if_neg c20] at hp; exact hp⟩
    · refine fw_aload_n h rfl rfl ?_
      refine fw_getR _ h rfl fk_g_X7_26 rfl rfl ?_
      refine fw_iload_n h rfl rfl ?_
      refine fw_sipush h (nI 1023) rfl (by decide) ?_
      refine fw_iconst h (nI 1) rfl (by decide) ?_
      refine fw_v3I h rfl fk_v_X0_actors fk_l_X7_157 rfl rfl rfl rfl ?_
      refine c_X0_actors (by omega) hA.1 hA.2.1 ?_
      exact fw_iret h rfl rfl ⟨_, rfl, by unfold fx_mi at hp; rw [if_neg c2, if_pos c20] at hp; exact hp⟩
  · refine fw_aload_n h rfl rfl ?_
    refine fw_getR _ h rfl fk_g_X7_26 rfl rfl ?_
    refine fw_iload_n h rfl rfl ?_
    refine fw_sipush h (nI 1023) rfl (by decide) ?_
    refine fw_iconst h (nI 0) rfl (by decide) ?_
    refine fw_v3I h rfl fk_v_X0_actors fk_l_X7_157 rfl rfl rfl rfl ?_
    refine c_X0_actors (by omega) hA.1 hA.2.1 ?_
    exact fw_iret h rfl rfl ⟨_, rfl, by unfold fx_mi at hp; rw [if_pos c2] at hp; exact hp⟩
theorem c_X7_mark {l : Launch} {w : fb_Wd} {P : Int32 → fb_Wd → Prop} {nt nd nx ng : Nat} (hX : XI w nt nd nx ng) {t kd : Int32} (hb : ¬ ((∃ j, j < nt ∧ t = nI j) ∧ 1 ≤ kd ∧ kd ≤ 3) → P (-1) w) (hu : ∀ j, j < nt → t = nI j → 1 ≤ kd → kd ≤ 3 → ¬ (xD w 0 j = kd ∨ (kd = nI 1 ∧ xD w 0 j = nI 2)) → P (-3) (fb_up (fb_up w 0 9 (nI 3)) 9 3 (w.1 9 3 + 1))) (hg : ∀ j, j < nt → t = nI j → 1 ≤ kd → kd ≤ 3 → (xD w 0 j = kd ∨ (kd = nI 1 ∧ xD w 0 j = nI 2)) → P (nI (fp_cnt (fun d => fs_ma (xD w) kd (nI j) d (fd_m (xD w) d)) nd)) w) : fb_Can l tX7_mark [.ref 0, .int t, .int kd] w (fb_kI P) := by
  refine fb_intro 2 fk_t_X7_mark (by decide) rfl (fun X hX h => ?_)
  subst hX
  change fb_AW tX7_mark X 0 [some (.ref 0), some (.int t), some (.int kd), none, none] [] w
  refine fw_aload_n h rfl rfl ?_
  refine fw_getR _ h rfl fk_g_X7_19 rfl rfl ?_
  refine fw_iload_n h rfl rfl ?_
  refine fw_v1I h rfl fk_v_X6_has fk_l_X7_125 rfl rfl rfl rfl ?_
  refine c_X6_has hX.1.1.1 hX.1.1.2 (fun j hj ej => ?_) (fun c5 => ?_)
  · refine fw_if_eq h rfl (fun c => absurd c (by decide)) (fun _ => ?_)
    refine fw_iload_n h rfl rfl ?_
    refine fw_iconst h (nI 1) rfl (by decide) ?_
    refine fw_iconst h (nI 3) rfl (by decide) ?_
    refine fw_s3I h rfl fk_s_X7_isBetween fk_l_X7_122 rfl rfl ?_
    refine c_X7_isBetween (fun c14a c14b => ?_) (fun c14 => ?_)
    · refine fw_if_ne h rfl (fun _ => ?_) (fun c => absurd c (by decide))
      have hnt := hX.1.1.2
      have hnd := hX.1.2.1.2
      refine fw_aload_n h rfl rfl ?_
      refine fw_getR _ h rfl fk_g_X7_19 rfl rfl ?_
      refine fw_iload_n h rfl rfl ?_
      refine fw_iload_n h rfl rfl ?_
      refine fw_v2I h rfl fk_v_X6_isA fk_l_X7_147 rfl rfl rfl rfl ?_
      subst ej
      refine c_X6_isA (by omega) rfl (fun c28 => ?_) (fun c28 => ?_)
      · refine fw_if_ne h rfl (fun _ => ?_) (fun c => absurd c (by decide))
        refine fw_iconst h (nI 0) rfl (by decide) ?_
        refine fw_istore_n h [_, _, _, _, _] rfl rfl rfl rfl ?_
        refine fw_iconst h (nI 0) rfl (by decide) ?_
        refine fw_istore h [_, _, _, _, _] rfl rfl rfl rfl ?_
        refine fb_loop (fun i => fb_AW tX7_mark X 45 [some (.ref 0), some (.int (nI j)), some (.int kd), some (.int (nI (fp_cnt (fun d => fs_ma (xD w) kd (nI j) d (fd_m (xD w) d)) i))), some (.int (nI i))] [] w) (nd) ?_ (fun i hi ih => ?_) 0 (Nat.zero_le _)
        · refine fw_iload h rfl rfl ?_
          refine fw_aload_n h rfl rfl ?_
          refine fw_getR _ h rfl fk_g_X7_26 rfl rfl ?_
          refine fw_getI h rfl fk_g_X7_150 rfl rfl ?_
          refine fw_icmp_ge h rfl (fun c54 => ?_) (fun c54 => False.elim (c54 (by rw [show w.1 3 9 = nI nd from hX.1.2.1.1]; exact Int32.le_refl _)))
          refine fw_iload_n h rfl rfl ?_
          exact fw_iret h rfl rfl ⟨_, rfl, hg j hj rfl c14a c14b c28⟩
        · refine fw_iload h rfl rfl ?_
          refine fw_aload_n h rfl rfl ?_
          refine fw_getR _ h rfl fk_g_X7_26 rfl rfl ?_
          refine fw_getI h rfl fk_g_X7_150 rfl rfl ?_
          refine fw_icmp_ge h rfl (fun c54 => False.elim (nI_ge hi (by omega) (by rw [← show w.1 3 9 = nI nd from hX.1.2.1.1]; exact c54))) (fun c54 => ?_)
          refine fw_aload_n h rfl rfl ?_
          refine fw_iload h rfl rfl ?_
          refine fw_iload_n h rfl rfl ?_
          refine fw_v2I h rfl fk_v_X7_markedIn fk_l_X7_151 rfl rfl rfl rfl ?_
          refine c_X7_markedIn (hX.2.2.1 i hi) hX.1.1.2 (by omega) ?_
          refine fw_iload_n h rfl rfl ?_
          refine fw_s2I h rfl fk_s_X7_isIn fk_l_X7_154 rfl rfl ?_
          refine c_X7_isIn rfl (by omega) (fun c65 => ?_) (fun c65 => ?_)
          all_goals rw [fx_mi_eq (hX.2.2.1 i hi) hX.1.1.2 (by omega)] at c65
          · refine fw_if_eq h rfl (fun c => absurd c (by decide)) (fun _ => ?_)
            skip
            · first | refine fn_iinc h [_, _, _, _, _] rfl rfl rfl rfl rfl ?_ | refine fw_iinc h 1 [_, _, _, _, _] rfl (by decide) rfl rfl rfl rfl ?_
              first | refine fn_iinc h [_, _, _, _, _] rfl rfl rfl rfl rfl ?_ | refine fw_iinc h 1 [_, _, _, _, _] rfl (by decide) rfl rfl rfl rfl ?_
              refine fw_goto h rfl ?_
              have en : fp_cnt (fun d => fs_ma (xD w) kd (nI j) d (fd_m (xD w) d)) (i + 1) = fp_cnt (fun d => fs_ma (xD w) kd (nI j) d (fd_m (xD w) d)) i + 1 := fp_cnt_1 c65
              rw [en] at ih
              exact ih
          · refine fw_if_eq h rfl (fun _ => ?_) (fun c => absurd c (by decide))
            first | refine fn_iinc h [_, _, _, _, _] rfl rfl rfl rfl rfl ?_ | refine fw_iinc h 1 [_, _, _, _, _] rfl (by decide) rfl rfl rfl rfl ?_
            refine fw_goto h rfl ?_
            have en : fp_cnt (fun d => fs_ma (xD w) kd (nI j) d (fd_m (xD w) d)) (i + 1) = fp_cnt (fun d => fs_ma (xD w) kd (nI j) d (fd_m (xD w) d)) i + 0 := fp_cnt_0 c65
            rw [en] at ih
            exact ih
      · refine fw_if_ne h rfl (fun c => absurd c (by decide)) (fun _ => ?_)
        refine fw_aload_n h rfl rfl ?_
        refine fw_iconst h (nI 3) rfl (by decide) ?_
        refine fw_v1I h rfl fk_v_X7_found fk_l_X7_87 rfl rfl rfl rfl ?_
        refine c_X7_found (by decide) ?_
        exact fw_iret h rfl rfl ⟨_, rfl, hu j hj rfl c14a c14b c28⟩
    · refine fw_if_ne h rfl (fun c => absurd c (by decide)) (fun _ => ?_)
      refine fw_iconst h (-1) rfl (by decide) ?_
      exact fw_iret h rfl rfl ⟨_, rfl, hb (fun z => by first | exact c5 z.1 | exact c14 z.2)⟩
  · refine fw_if_eq h rfl (fun _ => ?_) (fun c => absurd c (by decide))
    refine fw_iconst h (-1) rfl (by decide) ?_
    exact fw_iret h rfl rfl ⟨_, rfl, hb (fun z => by first | exact c5 z.1 | exact c14 z.2)⟩
theorem c_X7_worth {l : Launch} {w : fb_Wd} {P : Int32 → fb_Wd → Prop} {nt nd nx ng : Nat} (hX : XI w nt nd nx ng) {t v : Int32} (hb : ¬ ((∃ j, j < nt ∧ t = nI j) ∧ 0 ≤ v ∧ v ≤ 10000) → P (-1) w) (hg : ∀ j, j < nt → t = nI j → 0 ≤ v → v ≤ 10000 → P (xD w 2 j) (fx_cw w j v)) : fb_Can l tX7_worth [.ref 0, .int t, .int v] w (fb_kI P) := by
  refine fb_intro 1 fk_t_X7_worth (by decide) rfl (fun X hX h => ?_)
  subst hX
  change fb_AW tX7_worth X 0 [some (.ref 0), some (.int t), some (.int v), none] [] w
  refine fw_aload_n h rfl rfl ?_
  refine fw_getR _ h rfl fk_g_X7_19 rfl rfl ?_
  refine fw_iload_n h rfl rfl ?_
  refine fw_v1I h rfl fk_v_X6_has fk_l_X7_125 rfl rfl rfl rfl ?_
  refine c_X6_has hX.1.1.1 hX.1.1.2 (fun j hj ej => ?_) (fun c5 => ?_)
  · refine fw_if_eq h rfl (fun c => absurd c (by decide)) (fun _ => ?_)
    refine fw_iload_n h rfl rfl ?_
    refine fw_iconst h (nI 0) rfl (by decide) ?_
    refine fw_sipush h (nI 10000) rfl (by decide) ?_
    refine fw_s3I h rfl fk_s_X7_isBetween fk_l_X7_122 rfl rfl ?_
    refine c_X7_isBetween (fun c16a c16b => ?_) (fun c16 => ?_)
    · refine fw_if_ne h rfl (fun _ => ?_) (fun c => absurd c (by decide))
      subst ej
      have hnt := hX.1.1.2
      refine fw_aload_n h rfl rfl ?_
      refine fw_getR _ h rfl fk_g_X7_19 rfl rfl ?_
      refine fw_getR _ h rfl fk_g_X7_164 rfl rfl ?_
      refine fw_iload_n h rfl rfl ?_
      refine fn_iald h rfl rfl (by omega) rfl ?_
      refine fw_istore_n h [_, _, _, _] rfl rfl rfl rfl ?_
      refine fw_aload_n h rfl rfl ?_
      refine fw_getR _ h rfl fk_g_X7_19 rfl rfl ?_
      refine fw_iload_n h rfl rfl ?_
      refine fw_iload_n h rfl rfl ?_
      refine fw_v2V h rfl fk_v_X6_changeWorth fk_l_X7_167 rfl rfl rfl rfl ?_
      refine c_X6_changeWorth (by omega) ?_
      refine fw_iload_n h rfl rfl ?_
      exact fw_iret h rfl rfl ⟨_, rfl, hg j hj rfl c16a c16b⟩
    · refine fw_if_ne h rfl (fun c => absurd c (by decide)) (fun _ => ?_)
      refine fw_iconst h (-1) rfl (by decide) ?_
      exact fw_iret h rfl rfl ⟨_, rfl, hb (fun z => by first | exact c5 z.1 | exact c16 z.2)⟩
  · refine fw_if_eq h rfl (fun _ => ?_) (fun c => absurd c (by decide))
    refine fw_iconst h (-1) rfl (by decide) ?_
    exact fw_iret h rfl rfl ⟨_, rfl, hb (fun z => by first | exact c5 z.1 | exact c16 z.2)⟩
theorem c_X7_mean {l : Launch} {w : fb_Wd} {P : Int32 → fb_Wd → Prop} {nt nd nx ng : Nat} (hX : XI w nt nd nx ng) {so : Int32} (hb : ¬ (∃ q, q < 10 ∧ so = nI q) → P (-1) w) (h0 : (∃ q, q < 10 ∧ so = nI q) → fp_cnt (fun t => decide (xD w 1 t = so)) nt = 0 → P (-3) (fb_up (fb_up w 0 9 (nI 4)) 9 4 (w.1 9 4 + 1))) (hg : (∃ q, q < 10 ∧ so = nI q) → ¬ fp_cnt (fun t => decide (xD w 1 t = so)) nt = 0 → P 1 (fb_up w 0 10 (fp_sum (fun t => if xD w 1 t = so then xD w 2 t else nI 0) nt / nI (fp_cnt (fun t => decide (xD w 1 t = so)) nt)))) : fb_Can l tX7_mean [.ref 0, .int so] w (fb_kI P) := by
  refine fb_intro 3 fk_t_X7_mean (by decide) rfl (fun X hX h => ?_)
  subst hX
  change fb_AW tX7_mean X 0 [some (.ref 0), some (.int so), none, none, none] [] w
  refine fw_iload_n h rfl rfl ?_
  refine fw_bipush h (nI 10) rfl (by decide) ?_
  refine fw_s2I h rfl fk_s_X7_isBelow fk_l_X7_83 rfl rfl ?_
  refine c_X7_isBelow (by decide) (fun q hq eq => ?_) (fun c3 => ?_)
  · refine fw_if_ne h rfl (fun _ => ?_) (fun c => absurd c (by decide))
    have hnt := hX.1.1.2
    have hcl := fp_cnt_le (fun t => decide (xD w 1 t = so)) nt
    refine fw_iconst h (nI 0) rfl (by decide) ?_
    refine fw_istore_n h [_, _, _, _, _] rfl rfl rfl rfl ?_
    refine fw_iconst h (nI 0) rfl (by decide) ?_
    refine fw_istore_n h [_, _, _, _, _] rfl rfl rfl rfl ?_
    refine fw_iconst h (nI 0) rfl (by decide) ?_
    refine fw_istore h [_, _, _, _, _] rfl rfl rfl rfl ?_
    refine fb_loop (fun i => fb_AW tX7_mean X 18 [some (.ref 0), some (.int so), some (.int (fp_sum (fun t => if xD w 1 t = so then xD w 2 t else nI 0) i)), some (.int (nI (fp_cnt (fun t => decide (xD w 1 t = so)) i))), some (.int (nI i))] [] w) (nt) ?_ (fun i hi ih => ?_) 0 (Nat.zero_le _)
    · refine fw_iload h rfl rfl ?_
      refine fw_aload_n h rfl rfl ?_
      refine fw_getR _ h rfl fk_g_X7_19 rfl rfl ?_
      refine fw_getI h rfl fk_g_X7_128 rfl rfl ?_
      refine fw_icmp_ge h rfl (fun c27 => ?_) (fun c27 => False.elim (c27 (by rw [show w.1 2 12 = nI nt from hX.1.1.1]; exact Int32.le_refl _)))
      refine fw_iload_n h rfl rfl ?_
      refine fw_if_ne h rfl (fun c67 => ?_) (fun c67 => ?_)
      · refine fw_aload_n h rfl rfl ?_
        refine fw_iload_n h rfl rfl ?_
        refine fw_iload_n h rfl rfl ?_
        refine fw_idiv h rfl (c67) ?_
        refine fw_iconst h (nI 1) rfl (by decide) ?_
        refine fw_v2I h rfl fk_v_X7_tell fk_l_X7_111 rfl rfl rfl rfl ?_
        refine c_X7_tell ?_
        exact fw_iret h rfl rfl ⟨_, rfl, hg ⟨q, hq, eq⟩ (fun z => c67 (by rw [z]; rfl))⟩
      · refine fw_aload_n h rfl rfl ?_
        refine fw_iconst h (nI 4) rfl (by decide) ?_
        refine fw_v1I h rfl fk_v_X7_found fk_l_X7_87 rfl rfl rfl rfl ?_
        refine c_X7_found (by decide) ?_
        exact fw_iret h rfl rfl ⟨_, rfl, h0 ⟨q, hq, eq⟩ ((nI_eq (b := 0) (by omega) (by decide)).mp c67)⟩
    · refine fw_iload h rfl rfl ?_
      refine fw_aload_n h rfl rfl ?_
      refine fw_getR _ h rfl fk_g_X7_19 rfl rfl ?_
      refine fw_getIv (w.1 2 12) h rfl fk_g_X7_128 rfl rfl (rfl) ?_
      refine fw_icmp_ge h rfl (fun c27 => False.elim (nI_ge hi (by omega) (by rw [← show w.1 2 12 = nI nt from hX.1.1.1]; exact c27))) (fun c27 => ?_)
      refine fw_aload_n h rfl rfl ?_
      refine fw_getR _ h rfl fk_g_X7_19 rfl rfl ?_
      refine fw_getR _ h rfl fk_g_X7_170 rfl rfl ?_
      refine fw_iload h rfl rfl ?_
      refine fn_ialdF (w.1 13) h rfl rfl (rfl) (by omega) rfl ?_
      refine fw_iload_n h rfl rfl ?_
      refine fw_icmp_ne h rfl (fun c41 => ?_) (fun c41 => ?_)
      · first | refine fn_iinc h [_, _, _, _, _] rfl rfl rfl rfl rfl ?_ | refine fw_iinc h 1 [_, _, _, _, _] rfl (by decide) rfl rfl rfl rfl ?_
        refine fw_goto h rfl ?_
        have en : fp_cnt (fun t => decide (xD w 1 t = so)) (i + 1) = fp_cnt (fun t => decide (xD w 1 t = so)) i + 0 := fp_cnt_0 (decide_eq_false c41)
        have es : fp_sum (fun t => if xD w 1 t = so then xD w 2 t else nI 0) (i + 1) = fp_sum (fun t => if xD w 1 t = so then xD w 2 t else nI 0) i := fp_sum_z (if_neg c41)
        rw [en, es] at ih
        exact ih
      · skip
        · refine fw_iload_n h rfl rfl ?_
          refine fw_aload_n h rfl rfl ?_
          refine fw_getR _ h rfl fk_g_X7_19 rfl rfl ?_
          refine fw_getR _ h rfl fk_g_X7_164 rfl rfl ?_
          refine fw_iload h rfl rfl ?_
          refine fn_ialdF (w.1 14) h rfl rfl (rfl) (by omega) rfl ?_
          first | refine fn_iadd h rfl ?_ | refine fw_iadd h rfl ?_
          refine fw_istore_n h [_, _, _, _, _] rfl rfl rfl rfl ?_
          first | refine fn_iinc h [_, _, _, _, _] rfl rfl rfl rfl rfl ?_ | refine fw_iinc h 1 [_, _, _, _, _] rfl (by decide) rfl rfl rfl rfl ?_
          first | refine fn_iinc h [_, _, _, _, _] rfl rfl rfl rfl rfl ?_ | refine fw_iinc h 1 [_, _, _, _, _] rfl (by decide) rfl rfl rfl rfl ?_
          refine fw_goto h rfl ?_
          have en : fp_cnt (fun t => decide (xD w 1 t = so)) (i + 1) = fp_cnt (fun t => decide (xD w 1 t = so)) i + 1 := fp_cnt_1 (decide_eq_true c41)
          have es : fp_sum (fun t => if xD w 1 t = so then xD w 2 t else nI 0) (i + 1) = fp_sum (fun t => if xD w 1 t = so then xD w 2 t else nI 0) i + w.1 14 i := fp_sum_s (if_pos c41)
          rw [en, es] at ih
          exact ih
  · refine fw_if_ne h rfl (fun c => absurd c (by decide)) (fun _ => ?_)
    refine fw_iconst h (-1) rfl (by decide) ?_
    exact fw_iret h rfl rfl ⟨_, rfl, hb c3⟩
theorem c_X7_death {l : Launch} {w : fb_Wd} {P : Int32 → fb_Wd → Prop} {nt nd nx ng : Nat} (hX : XI w nt nd nx ng) {p y t : Int32} (hb : ¬ ((∃ q, q < 8 ∧ p = nI q) ∧ (1000 ≤ y ∧ y ≤ 1900) ∧ (t = -9 ∨ 0 ≤ t ∧ t ≤ 100000)) → P (-1) w) (hf : nd = 12 → ((∃ q, q < 8 ∧ p = nI q) ∧ (1000 ≤ y ∧ y ≤ 1900) ∧ (t = -9 ∨ 0 ≤ t ∧ t ≤ 100000)) → P (-2) w) (hg : nd < 12 → ((∃ q, q < 8 ∧ p = nI q) ∧ (1000 ≤ y ∧ y ≤ 1900) ∧ (t = -9 ∨ 0 ≤ t ∧ t ≤ 100000)) → P (nI nd) (fb_up (fb_up (fb_up (fb_up w 3 9 (nI (nd + 1))) 22 nd p) 23 nd y) 24 nd t)) : fb_Can l tX7_death [.ref 0, .int p, .int y, .int t] w (fb_kI P) := by
  refine fb_intro 0 fk_t_X7_death (by decide) rfl (fun X hX h => ?_)
  subst hX
  change fb_AW tX7_death X 0 [some (.ref 0), some (.int p), some (.int y), some (.int t)] [] w
  refine fw_iload_n h rfl rfl ?_
  refine fw_bipush h (nI 8) rfl (by decide) ?_
  refine fw_s2I h rfl fk_s_X7_isBelow fk_l_X7_83 rfl rfl ?_
  refine c_X7_isBelow (by decide) (fun q hq eq => ?_) (fun c3 => ?_)
  · refine fw_if_eq h rfl (fun c => absurd c (by decide)) (fun _ => ?_)
    refine fw_iload_n h rfl rfl ?_
    refine fw_s1I h rfl fk_s_X7_isYear fk_l_X7_173 rfl rfl ?_
    refine c_X7_isYear (fun c10a c10b => ?_) (fun c10 => ?_)
    · refine fw_if_eq h rfl (fun c => absurd c (by decide)) (fun _ => ?_)
      refine fw_iload_n h rfl rfl ?_
      refine fw_s1I h rfl fk_s_X7_isToldWorth fk_l_X7_176 rfl rfl ?_
      refine c_X7_isToldWorth (fun c17 => ?_) (fun c17 => ?_)
      · refine fw_if_ne h rfl (fun _ => ?_) (fun c => absurd c (by decide))
        have hnd := hX.1.2.1.2
        refine fw_aload_n h rfl rfl ?_
        refine fw_getR _ h rfl fk_g_X7_26 rfl rfl ?_
        refine fw_getI h rfl fk_g_X7_150 rfl rfl ?_
        rw [show w.1 3 9 = nI nd from hX.1.2.1.1]
        refine fw_bipush h (nI 12) rfl (by decide) ?_
        refine fw_icmp_lt h rfl (fun c34 => ?_) (fun c34 => ?_)
        · have hlt : nd < 12 := (nI_ltI (by omega) (by decide)).mp c34
          refine fw_aload_n h rfl rfl ?_
          refine fw_getR _ h rfl fk_g_X7_26 rfl rfl ?_
          refine fw_iload_n h rfl rfl ?_
          refine fw_iload_n h rfl rfl ?_
          refine fw_iload_n h rfl rfl ?_
          refine fw_v3I h rfl fk_v_X0_add fk_l_X7_179 rfl rfl rfl rfl ?_
          refine c_X0_add hX.1.2.1.1 hlt ?_
          exact fw_iret h rfl rfl ⟨_, rfl, hg hlt ⟨⟨q, hq, eq⟩, ⟨c10a, c10b⟩, c17⟩⟩
        · refine fw_bipush h (-2) rfl (by decide) ?_
          exact fw_iret h rfl rfl ⟨_, rfl, hf (by have := fx_nlt (b := 12) (by omega) (by decide) c34; omega) ⟨⟨q, hq, eq⟩, ⟨c10a, c10b⟩, c17⟩⟩
      · refine fw_if_ne h rfl (fun c => absurd c (by decide)) (fun _ => ?_)
        refine fw_iconst h (-1) rfl (by decide) ?_
        exact fw_iret h rfl rfl ⟨_, rfl, hb (fun z => by first | exact c3 z.1 | exact c10 z.2.1 | exact c17 z.2.2)⟩
    · refine fw_if_eq h rfl (fun _ => ?_) (fun c => absurd c (by decide))
      refine fw_iconst h (-1) rfl (by decide) ?_
      exact fw_iret h rfl rfl ⟨_, rfl, hb (fun z => by first | exact c3 z.1 | exact c10 z.2.1 | exact c17 z.2.2)⟩
  · refine fw_if_eq h rfl (fun _ => ?_) (fun c => absurd c (by decide))
    refine fw_iconst h (-1) rfl (by decide) ?_
    exact fw_iret h rfl rfl ⟨_, rfl, hb (fun z => by first | exact c3 z.1 | exact c10 z.2.1 | exact c17 z.2.2)⟩
theorem c_X7_isAct {l : Launch} {w : fb_Wd} {P : Int32 → fb_Wd → Prop} {nt nd nx ng : Nat} (hX : XI w nt nd nx ng) {s a b : Int32} (ht : fp_act nt s a b → P 1 w) (hf : ¬ fp_act nt s a b → P 0 w) : fb_Can l tX7_isAct [.ref 0, .int s, .int a, .int b] w (fb_kI P) := by
  refine fb_intro 0 fk_t_X7_isAct (by decide) rfl (fun X hX h => ?_)
  subst hX
  change fb_AW tX7_isAct X 0 [some (.ref 0), some (.int s), some (.int a), some (.int b)] [] w
  refine fw_iload_n h rfl rfl ?_
  refine fw_iconst h (nI 0) rfl (by decide) ?_
  refine fw_iconst h (nI 3) rfl (by decide) ?_
  refine fw_s3I h rfl fk_s_X7_isBetween fk_l_X7_122 rfl rfl ?_
  refine c_X7_isBetween (fun c3a c3b => ?_) (fun c3 => ?_)
  · refine fw_if_eq h rfl (fun c => absurd c (by decide)) (fun _ => ?_)
    refine fw_aload_n h rfl rfl ?_
    refine fw_getR _ h rfl fk_g_X7_19 rfl rfl ?_
    refine fw_iload_n h rfl rfl ?_
    refine fw_v1I h rfl fk_v_X6_has fk_l_X7_125 rfl rfl rfl rfl ?_
    refine c_X6_has hX.1.1.1 hX.1.1.2 (fun i hi ei => ?_) (fun c14 => ?_)
    · refine fw_if_ne h rfl (fun _ => ?_) (fun c => absurd c (by decide))
      refine fw_iload_n h rfl rfl ?_
      refine fw_iconst h (nI 1) rfl (by decide) ?_
      refine fw_icmp_ne h rfl (fun c24 => ?_) (fun c24 => ?_)
      · refine fw_iconst h (nI 1) rfl (by decide) ?_
        refine fw_goto h rfl ?_
        exact fw_zret h rfl rfl (by first | exact Or.inl rfl | exact Or.inr rfl | assumption) ⟨_, rfl, ht ⟨⟨c3a, c3b⟩, ⟨_, hi, ei⟩, fun z => by first | exact absurd z c24 | exact ⟨⟨_, hj, ej⟩, c40⟩⟩⟩
      · refine fw_aload_n h rfl rfl ?_
        refine fw_getR _ h rfl fk_g_X7_19 rfl rfl ?_
        refine fw_iload_n h rfl rfl ?_
        refine fw_v1I h rfl fk_v_X6_has fk_l_X7_125 rfl rfl rfl rfl ?_
        refine c_X6_has hX.1.1.1 hX.1.1.2 (fun j hj ej => ?_) (fun c32 => ?_)
        · refine fw_if_eq h rfl (fun c => absurd c (by decide)) (fun _ => ?_)
          refine fw_iload_n h rfl rfl ?_
          refine fw_iload_n h rfl rfl ?_
          refine fw_icmp_eq h rfl (fun c40 => ?_) (fun c40 => ?_)
          · refine fw_iconst h (nI 0) rfl (by decide) ?_
            exact fw_zret h rfl rfl (by first | exact Or.inl rfl | exact Or.inr rfl | assumption) ⟨_, rfl, hf (fun q => by first | exact c32 (q.2.2 c24).1 | exact (q.2.2 c24).2 c40)⟩
          · refine fw_iconst h (nI 1) rfl (by decide) ?_
            refine fw_goto h rfl ?_
            exact fw_zret h rfl rfl (by first | exact Or.inl rfl | exact Or.inr rfl | assumption) ⟨_, rfl, ht ⟨⟨c3a, c3b⟩, ⟨_, hi, ei⟩, fun z => by first | exact absurd z c24 | exact ⟨⟨_, hj, ej⟩, c40⟩⟩⟩
        · refine fw_if_eq h rfl (fun _ => ?_) (fun c => absurd c (by decide))
          refine fw_iconst h (nI 0) rfl (by decide) ?_
          exact fw_zret h rfl rfl (by first | exact Or.inl rfl | exact Or.inr rfl | assumption) ⟨_, rfl, hf (fun q => by first | exact c32 (q.2.2 c24).1 | exact (q.2.2 c24).2 c40)⟩
    · refine fw_if_ne h rfl (fun c => absurd c (by decide)) (fun _ => ?_)
      refine fw_iconst h (nI 0) rfl (by decide) ?_
      exact fw_zret h rfl rfl (by first | exact Or.inl rfl | exact Or.inr rfl | assumption) ⟨_, rfl, hf (fun q => by first | exact c3 q.1 | exact c14 q.2.1)⟩
  · refine fw_if_eq h rfl (fun _ => ?_) (fun c => absurd c (by decide))
    refine fw_iconst h (nI 0) rfl (by decide) ?_
    exact fw_zret h rfl rfl (by first | exact Or.inl rfl | exact Or.inr rfl | assumption) ⟨_, rfl, hf (fun q => by first | exact c3 q.1 | exact c14 q.2.1)⟩
def fx_ap (w : fb_Wd) (d m : Nat) (s a b z : Int32) : fb_Wd := if z = 0 then fx_pd w d m s a b z else fx_pa w d m s a b z
theorem fx_ap_25 (w : fb_Wd) (d m : Nat) (s a b z : Int32) : (fx_ap w d m s a b z).1 25 d = w.1 25 d + 1 := by
  unfold fx_ap
  split <;> simp [fx_pd, fx_pa, fb_up]
theorem c_X0_addActN {l : Launch} {w : fb_Wd} {P : fb_Wd → Prop} {d m : Nat} {s a b z : Int32} (hd : d < 12) (hm : w.1 25 d = nI m) (hm2 : m < 10) (hz : z = 0 ∨ z = 1) (hp : ∀ b2, (s = 1 → b2 = b) → (¬ s = 1 → b2 = -9) → P (fx_ap w d m s a b2 z)) : fb_Can l tX0_addAct [.ref 3, .int (nI d), .int s, .int a, .int b, .int z] w (fb_kV P) := by
  refine c_X0_addAct hd hm hm2 hz (fun b2 h1 h2 => ⟨fun hz0 => ?_, fun hz0 => ?_⟩)
  · have q := hp b2 h1 h2
    unfold fx_ap at q
    rw [if_neg hz0] at q
    exact q
  · have q := hp b2 h1 h2
    unfold fx_ap at q
    rw [if_pos hz0] at q
    exact q
theorem c_X7_act {l : Launch} {w : fb_Wd} {P : Int32 → fb_Wd → Prop} {nt nd nx ng : Nat} (hX : XI w nt nd nx ng) {d s a b z : Int32} (hz : z = 0 ∨ z = 1) (hb : ¬ ((∃ j, j < nd ∧ d = nI j) ∧ fp_act nt s a b) → P (-1) w) (hf : ∀ j, j < nd → d = nI j → fp_act nt s a b → (fd_m (xD w) j = 10 ∨ (z = 0 ∧ fp_dbt (xD w 12) j (fd_m (xD w) j) = 5)) → P (-2) w) (hg : ∀ j, j < nd → d = nI j → fp_act nt s a b → ¬ (fd_m (xD w) j = 10 ∨ (z = 0 ∧ fp_dbt (xD w 12) j (fd_m (xD w) j) = 5)) → fd_m (xD w) j < 10 → ∀ b2, (s = 1 → b2 = b) → (¬ s = 1 → b2 = -9) → P (nI (fd_m (xD w) j + 1)) (fx_ap w j (fd_m (xD w) j) s a b2 z)) : fb_Can l tX7_act [.ref 0, .int d, .int s, .int a, .int b, .int z] w (fb_kI P) := by
  refine fb_intro 0 fk_t_X7_act (by decide) rfl (fun X hX h => ?_)
  subst hX
  change fb_AW tX7_act X 0 [some (.ref 0), some (.int d), some (.int s), some (.int a), some (.int b), some (.int z)] [] w
  refine fw_aload_n h rfl rfl ?_
  refine fw_getR _ h rfl fk_g_X7_26 rfl rfl ?_
  refine fw_iload_n h rfl rfl ?_
  refine fw_v1I h rfl fk_v_X0_has fk_l_X7_181 rfl rfl rfl rfl ?_
  refine c_X0_has hX.1.2.1.1 hX.1.2.1.2 (fun j hj ej => ?_) (fun c5 => ?_)
  · refine fw_if_eq h rfl (fun c => absurd c (by decide)) (fun _ => ?_)
    refine fw_aload_n h rfl rfl ?_
    refine fw_iload_n h rfl rfl ?_
    refine fw_iload_n h rfl rfl ?_
    refine fw_iload h rfl rfl ?_
    refine fw_v3I h rfl fk_v_X7_isAct fk_l_X7_182 rfl rfl rfl rfl ?_
    refine c_X7_isAct hX (fun c16 => ?_) (fun c16 => ?_)
    · refine fw_if_ne h rfl (fun _ => ?_) (fun c => absurd c (by decide))
      subst ej
      have hnd := hX.1.2.1.2
      have hm : w.1 25 j = nI (fd_m (xD w) j) := (hX.2.2.1 j hj).1
      have hm2 := (hX.2.2.1 j hj).2.1
      have h5 := hX.kq j hj
      refine fw_aload_n h rfl rfl ?_
      refine fw_getR _ h rfl fk_g_X7_26 rfl rfl ?_
      refine fw_getR _ h rfl fk_g_X7_185 rfl rfl ?_
      refine fw_iload_n h rfl rfl ?_
      refine fn_iald h rfl rfl (by omega) rfl ?_
      rw [hm]
      refine fw_bipush h (nI 10) rfl (by decide) ?_
      refine fw_icmp_lt h rfl (fun c35 => ?_) (fun c35 => ?_)
      · have hlt : fd_m (xD w) j < 10 := (nI_ltI (by omega) (by decide)).mp c35
        refine fw_iload h rfl rfl ?_
        refine fw_if_ne h rfl (fun c43 => ?_) (fun c43 => ?_)
        · refine fw_aload_n h rfl rfl ?_
          refine fw_getR _ h rfl fk_g_X7_26 rfl rfl ?_
          refine fw_iload_n h rfl rfl ?_
          refine fw_iload_n h rfl rfl ?_
          refine fw_iload_n h rfl rfl ?_
          refine fw_iload h rfl rfl ?_
          refine fw_iload h rfl rfl ?_
          refine fw_v5V h rfl fk_v_X0_addAct fk_l_X7_191 rfl rfl rfl rfl ?_
          refine c_X0_addActN (by omega) hm hlt hz (fun b2 hb2 hb3 => ?_)
          refine fw_aload_n h rfl rfl ?_
          refine fw_getR _ h rfl fk_g_X7_26 rfl rfl ?_
          refine fw_getR _ h rfl fk_g_X7_185 rfl rfl ?_
          refine fw_iload_n h rfl rfl ?_
          refine fn_iald h rfl rfl (by omega) rfl ?_
          exact fw_iret h rfl rfl ⟨_, rfl, by rw [fx_ap_25, hm, nI_1]; refine hg j hj rfl c16 (fun q => ?_) hlt b2 hb2 hb3; first | exact q.elim (fun z => by omega) (fun z => c43 z.1) | exact q.elim (fun z => by omega) (fun z => by have := (nI_ltI (by omega) (by decide)).mp c56; omega)⟩
        · refine fw_aload_n h rfl rfl ?_
          refine fw_getR _ h rfl fk_g_X7_26 rfl rfl ?_
          refine fw_getR _ h rfl fk_g_X7_188 rfl rfl ?_
          refine fw_iload_n h rfl rfl ?_
          refine fn_iald h rfl rfl (by omega) rfl ?_
          rw [h5.1]
          refine fw_iconst h (nI 5) rfl (by decide) ?_
          refine fw_icmp_lt h rfl (fun c56 => ?_) (fun c56 => ?_)
          · refine fw_aload_n h rfl rfl ?_
            refine fw_getR _ h rfl fk_g_X7_26 rfl rfl ?_
            refine fw_iload_n h rfl rfl ?_
            refine fw_iload_n h rfl rfl ?_
            refine fw_iload_n h rfl rfl ?_
            refine fw_iload h rfl rfl ?_
            refine fw_iload h rfl rfl ?_
            refine fw_v5V h rfl fk_v_X0_addAct fk_l_X7_191 rfl rfl rfl rfl ?_
            refine c_X0_addActN (by omega) hm hlt hz (fun b2 hb2 hb3 => ?_)
            refine fw_aload_n h rfl rfl ?_
            refine fw_getR _ h rfl fk_g_X7_26 rfl rfl ?_
            refine fw_getR _ h rfl fk_g_X7_185 rfl rfl ?_
            refine fw_iload_n h rfl rfl ?_
            refine fn_iald h rfl rfl (by omega) rfl ?_
            exact fw_iret h rfl rfl ⟨_, rfl, by rw [fx_ap_25, hm, nI_1]; refine hg j hj rfl c16 (fun q => ?_) hlt b2 hb2 hb3; first | exact q.elim (fun z => by omega) (fun z => c43 z.1) | exact q.elim (fun z => by omega) (fun z => by have := (nI_ltI (by omega) (by decide)).mp c56; omega)⟩
          · refine fw_bipush h (-2) rfl (by decide) ?_
            exact fw_iret h rfl rfl ⟨_, rfl, hf j hj rfl c16 (Or.inr ⟨c43, by have := fx_nlt (b := 5) (by omega) (by decide) c56; omega⟩)⟩
      · refine fw_bipush h (-2) rfl (by decide) ?_
        exact fw_iret h rfl rfl ⟨_, rfl, hf j hj rfl c16 (Or.inl (by have := fx_nlt (b := 10) (by omega) (by decide) c35; omega))⟩
    · refine fw_if_ne h rfl (fun c => absurd c (by decide)) (fun _ => ?_)
      refine fw_iconst h (-1) rfl (by decide) ?_
      exact fw_iret h rfl rfl ⟨_, rfl, hb (fun q => by first | exact c5 q.1 | exact c16 q.2)⟩
  · refine fw_if_eq h rfl (fun _ => ?_) (fun c => absurd c (by decide))
    refine fw_iconst h (-1) rfl (by decide) ?_
    exact fw_iret h rfl rfl ⟨_, rfl, hb (fun q => by first | exact c5 q.1 | exact c16 q.2)⟩
theorem c_X7_deathTold {l : Launch} {w : fb_Wd} {P : Int32 → fb_Wd → Prop} {nt nd nx ng : Nat} (hX : XI w nt nd nx ng) {d q : Int32} (hb : ¬ ((∃ j, j < nd ∧ d = nI j) ∧ 0 ≤ q ∧ q ≤ 5) → P (-1) w) (hg : ∀ j k, j < nd → d = nI j → k ≤ 5 → q = nI k → P 1 (fb_up w 0 10 (fs_dt (xD w) j (fd_m (xD w) j) k))) : fb_Can l tX7_deathTold [.ref 0, .int d, .int q] w (fb_kI P) := by
  refine fb_intro 0 fk_t_X7_deathTold (by decide) rfl (fun X hX h => ?_)
  subst hX
  change fb_AW tX7_deathTold X 0 [some (.ref 0), some (.int d), some (.int q)] [] w
  refine fw_aload_n h rfl rfl ?_
  refine fw_getR _ h rfl fk_g_X7_26 rfl rfl ?_
  refine fw_iload_n h rfl rfl ?_
  refine fw_v1I h rfl fk_v_X0_has fk_l_X7_181 rfl rfl rfl rfl ?_
  refine c_X0_has hX.1.2.1.1 hX.1.2.1.2 (fun j hj ej => ?_) (fun c5 => ?_)
  · refine fw_if_eq h rfl (fun c => absurd c (by decide)) (fun _ => ?_)
    refine fw_iload_n h rfl rfl ?_
    refine fw_iconst h (nI 0) rfl (by decide) ?_
    refine fw_iconst h (nI 5) rfl (by decide) ?_
    refine fw_s3I h rfl fk_s_X7_isBetween fk_l_X7_122 rfl rfl ?_
    refine c_X7_isBetween (fun c14a c14b => ?_) (fun c14 => ?_)
    · refine fw_if_ne h rfl (fun _ => ?_) (fun c => absurd c (by decide))
      obtain ⟨k, hk, ek⟩ := nI_ofle (n := 5) c14a c14b (by decide)
      subst ej; subst ek
      have hnd := hX.1.2.1.2
      refine fw_aload_n h rfl rfl ?_
      refine fw_aload_n h rfl rfl ?_
      refine fw_getR _ h rfl fk_g_X7_26 rfl rfl ?_
      refine fw_iload_n h rfl rfl ?_
      refine fw_iload_n h rfl rfl ?_
      refine fw_v2I h rfl fk_v_X0_fact fk_l_X7_204 rfl rfl rfl rfl ?_
      refine c_X0_fact (by omega) (hX.2.2.1 j hj).1 (hX.kq j hj).1 (hX.2.2.1 j hj).2.1 hk ?_
      refine fw_iconst h (nI 1) rfl (by decide) ?_
      refine fw_v2I h rfl fk_v_X7_tell fk_l_X7_111 rfl rfl rfl rfl ?_
      refine c_X7_tell ?_
      exact fw_iret h rfl rfl ⟨_, rfl, hg j k hj rfl hk rfl⟩
    · refine fw_if_ne h rfl (fun c => absurd c (by decide)) (fun _ => ?_)
      refine fw_iconst h (-1) rfl (by decide) ?_
      exact fw_iret h rfl rfl ⟨_, rfl, hb (fun z => by first | exact c5 z.1 | exact c14 z.2)⟩
  · refine fw_if_eq h rfl (fun _ => ?_) (fun c => absurd c (by decide))
    refine fw_iconst h (-1) rfl (by decide) ?_
    exact fw_iret h rfl rfl ⟨_, rfl, hb (fun z => by first | exact c5 z.1 | exact c14 z.2)⟩
theorem c_X7_moving {l : Launch} {w : fb_Wd} {P : Int32 → fb_Wd → Prop} {nt nd nx ng : Nat} (hX : XI w nt nd nx ng) {d r : Int32} (hb : ¬ (∃ j k, j < nd ∧ d = nI j ∧ k < 2 ^ fp_dbt (xD w 12) j (fd_m (xD w) j) ∧ r = nI k) → P (-1) w) (hg : ∀ j k, j < nd → d = nI j → k < 2 ^ fp_dbt (xD w 12) j (fd_m (xD w) j) → r = nI k → ∀ w', xSL [6, 41, 42, 43] w w' → P (fp_bits (fs_mv (xD w) nt j (fd_m (xD w) j) (fs_so (xD w) j (nI k) (fd_m (xD w) j))) 20) (fb_up w' 0 10 (fs_mv (xD w) nt j (fd_m (xD w) j) (fs_so (xD w) j (nI k) (fd_m (xD w) j))))) : fb_Can l tX7_moving [.ref 0, .int d, .int r] w (fb_kI P) := by
  refine fb_intro 0 fk_t_X7_moving (by decide) rfl (fun X hX h => ?_)
  subst hX
  change fb_AW tX7_moving X 0 [some (.ref 0), some (.int d), some (.int r)] [] w
  refine fw_aload_n h rfl rfl ?_
  refine fw_getR _ h rfl fk_g_X7_26 rfl rfl ?_
  refine fw_iload_n h rfl rfl ?_
  refine fw_iload_n h rfl rfl ?_
  refine fw_v2I h rfl fk_v_X0_hasReading fk_l_X7_205 rfl rfl rfl rfl ?_
  refine c_X0_hasReading hX.1.2.1.1 hX.1.2.1.2 hX.kq (fun j k hj ej hk ek => ?_) (fun c6 => ?_)
  · refine fw_if_ne h rfl (fun _ => ?_) (fun c => absurd c (by decide))
    refine fw_aload_n h rfl rfl ?_
    refine fw_getR _ h rfl fk_g_X7_49 rfl rfl ?_
    refine fw_iload_n h rfl rfl ?_
    refine fw_iload_n h rfl rfl ?_
    refine fw_iload_n h rfl rfl ?_
    refine fw_v3V h rfl fk_v_X2_hear fk_l_X7_208 rfl rfl rfl rfl ?_
    subst ej; subst ek
    have hp5 : 2 ^ fp_dbt (xD w 12) j (fd_m (xD w) j) ≤ 2 ^ 5 := Nat.pow_le_pow_right (by decide) (hX.kq j hj).2
    refine c_X2_hear hX hj (hX.2.2.1 j hj) (hX.kq j hj).1 (by omega) (Nat.le_refl _) (fun w1 hs1 g5 gF => ?_)
    have gk := gF k (Nat.le_refl _) (Nat.le_refl _)
    refine fw_aload_n h rfl rfl ?_
    refine fw_aload_n h rfl rfl ?_
    refine fw_getR _ h rfl fk_g_X7_49 rfl rfl ?_
    refine fw_getR _ h rfl fk_g_X7_211 rfl rfl ?_
    refine fw_iload_n h rfl rfl ?_
    refine fn_iald h rfl rfl (by omega) rfl ?_
    refine fw_v1I h rfl fk_v_X7_tellSet fk_l_X7_214 rfl rfl rfl rfl ?_
    rw [gk.1]
    refine c_X7_tellSet (fp_lt_le (fs_mv_lt (hX.2.2.1 j hj) hX.1.1.2 hX.2.1 hX.2.2.2.1) hX.1.1.2) ?_
    exact fw_iret h rfl rfl ⟨_, rfl, hg j k hj rfl hk rfl w1 hs1⟩
  · refine fw_if_ne h rfl (fun c => absurd c (by decide)) (fun _ => ?_)
    refine fw_iconst h (-1) rfl (by decide) ?_
    exact fw_iret h rfl rfl ⟨_, rfl, hb c6⟩
theorem c_X7_blame {l : Launch} {w : fb_Wd} {P : Int32 → fb_Wd → Prop} {nt nd nx ng : Nat} (hX : XI w nt nd nx ng) {d r : Int32} (hb : ¬ (∃ j k, j < nd ∧ d = nI j ∧ k < 2 ^ fp_dbt (xD w 12) j (fd_m (xD w) j) ∧ r = nI k) → P (-1) w) (hg : ∀ j k, j < nd → d = nI j → k < 2 ^ fp_dbt (xD w 12) j (fd_m (xD w) j) → r = nI k → ∀ w', xSL [6, 41, 42, 43] w w' → P (fp_bits (fs_bl (xD w) nt j (fd_m (xD w) j) (fs_so (xD w) j (nI k) (fd_m (xD w) j))) 20) (fb_up w' 0 10 (fs_bl (xD w) nt j (fd_m (xD w) j) (fs_so (xD w) j (nI k) (fd_m (xD w) j))))) : fb_Can l tX7_blame [.ref 0, .int d, .int r] w (fb_kI P) := by
  refine fb_intro 0 fk_t_X7_blame (by decide) rfl (fun X hX h => ?_)
  subst hX
  change fb_AW tX7_blame X 0 [some (.ref 0), some (.int d), some (.int r)] [] w
  refine fw_aload_n h rfl rfl ?_
  refine fw_getR _ h rfl fk_g_X7_26 rfl rfl ?_
  refine fw_iload_n h rfl rfl ?_
  refine fw_iload_n h rfl rfl ?_
  refine fw_v2I h rfl fk_v_X0_hasReading fk_l_X7_205 rfl rfl rfl rfl ?_
  refine c_X0_hasReading hX.1.2.1.1 hX.1.2.1.2 hX.kq (fun j k hj ej hk ek => ?_) (fun c6 => ?_)
  · refine fw_if_ne h rfl (fun _ => ?_) (fun c => absurd c (by decide))
    refine fw_aload_n h rfl rfl ?_
    refine fw_getR _ h rfl fk_g_X7_49 rfl rfl ?_
    refine fw_iload_n h rfl rfl ?_
    refine fw_iload_n h rfl rfl ?_
    refine fw_iload_n h rfl rfl ?_
    refine fw_v3V h rfl fk_v_X2_hear fk_l_X7_208 rfl rfl rfl rfl ?_
    subst ej; subst ek
    have hp5 : 2 ^ fp_dbt (xD w 12) j (fd_m (xD w) j) ≤ 2 ^ 5 := Nat.pow_le_pow_right (by decide) (hX.kq j hj).2
    refine c_X2_hear hX hj (hX.2.2.1 j hj) (hX.kq j hj).1 (by omega) (Nat.le_refl _) (fun w1 hs1 g5 gF => ?_)
    have gk := gF k (Nat.le_refl _) (Nat.le_refl _)
    refine fw_aload_n h rfl rfl ?_
    refine fw_aload_n h rfl rfl ?_
    refine fw_getR _ h rfl fk_g_X7_49 rfl rfl ?_
    refine fw_getR _ h rfl fk_g_X7_217 rfl rfl ?_
    refine fw_iload_n h rfl rfl ?_
    refine fn_iald h rfl rfl (by omega) rfl ?_
    refine fw_v1I h rfl fk_v_X7_tellSet fk_l_X7_214 rfl rfl rfl rfl ?_
    rw [gk.2.2]
    refine c_X7_tellSet (fp_lt_le (fs_bl_lt (hX.2.2.1 j hj) hX.1.1.2 hX.2.1 hX.2.2.2.1) hX.1.1.2) ?_
    exact fw_iret h rfl rfl ⟨_, rfl, hg j k hj rfl hk rfl w1 hs1⟩
  · refine fw_if_ne h rfl (fun c => absurd c (by decide)) (fun _ => ?_)
    refine fw_iconst h (-1) rfl (by decide) ?_
    exact fw_iret h rfl rfl ⟨_, rfl, hb c6⟩
theorem c_X7_text {l : Launch} {w : fb_Wd} {P : Int32 → fb_Wd → Prop} {nt nd nx ng : Nat} (hX : XI w nt nd nx ng) {y r z f : Int32} (hz : z = 0 ∨ z = 1) (hb : ¬ ((1000 ≤ y ∧ y ≤ 1900) ∧ (0 ≤ r ∧ r ≤ 3 ∧ 0 ≤ f ∧ f ≤ 1023)) → P (-1) w) (hf : nx = 8 → ((1000 ≤ y ∧ y ≤ 1900) ∧ (0 ≤ r ∧ r ≤ 3 ∧ 0 ≤ f ∧ f ≤ 1023)) → P (-2) w) (hg : nx < 8 → ((1000 ≤ y ∧ y ≤ 1900) ∧ (0 ≤ r ∧ r ≤ 3 ∧ 0 ≤ f ∧ f ≤ 1023)) → P (nI nx) (fb_up (fb_up (fb_up (fb_up (fb_up w 4 4 (nI (nx + 1))) 31 nx y) 32 nx r) 33 nx z) 34 nx f)) : fb_Can l tX7_text [.ref 0, .int y, .int r, .int z, .int f] w (fb_kI P) := by
  refine fb_intro 0 fk_t_X7_text (by decide) rfl (fun X hX h => ?_)
  subst hX
  change fb_AW tX7_text X 0 [some (.ref 0), some (.int y), some (.int r), some (.int z), some (.int f)] [] w
  refine fw_iload_n h rfl rfl ?_
  refine fw_s1I h rfl fk_s_X7_isYear fk_l_X7_173 rfl rfl ?_
  refine c_X7_isYear (fun c1a c1b => ?_) (fun c1 => ?_)
  · refine fw_if_eq h rfl (fun c => absurd c (by decide)) (fun _ => ?_)
    refine fw_iload_n h rfl rfl ?_
    refine fw_iload h rfl rfl ?_
    refine fw_s2I h rfl fk_s_X7_isLaw fk_l_X7_220 rfl rfl ?_
    refine c_X7_isLaw (fun c10a c10b c10c c10d => ?_) (fun c10 => ?_)
    · refine fw_if_ne h rfl (fun _ => ?_) (fun c => absurd c (by decide))
      have hnx := hX.1.2.2.1.2
      refine fw_aload_n h rfl rfl ?_
      refine fw_getR _ h rfl fk_g_X7_33 rfl rfl ?_
      refine fw_getI h rfl fk_g_X7_223 rfl rfl ?_
      rw [show w.1 4 4 = nI nx from hX.1.2.2.1.1]
      refine fw_bipush h (nI 8) rfl (by decide) ?_
      refine fw_icmp_lt h rfl (fun c27 => ?_) (fun c27 => ?_)
      · have hlt : nx < 8 := (nI_ltI (by omega) (by decide)).mp c27
        refine fw_aload_n h rfl rfl ?_
        refine fw_getR _ h rfl fk_g_X7_33 rfl rfl ?_
        refine fw_iload_n h rfl rfl ?_
        refine fw_iload_n h rfl rfl ?_
        refine fw_iload_n h rfl rfl ?_
        refine fw_iload h rfl rfl ?_
        refine fw_v4I h rfl fk_v_X5_add fk_l_X7_224 rfl rfl rfl rfl ?_
        refine c_X5_add hX.1.2.2.1.1 hlt hz ?_
        exact fw_iret h rfl rfl ⟨_, rfl, hg hlt ⟨⟨c1a, c1b⟩, c10a, c10b, c10c, c10d⟩⟩
      · refine fw_bipush h (-2) rfl (by decide) ?_
        exact fw_iret h rfl rfl ⟨_, rfl, hf (by have := fx_nlt (b := 8) (by omega) (by decide) c27; omega) ⟨⟨c1a, c1b⟩, c10a, c10b, c10c, c10d⟩⟩
    · refine fw_if_ne h rfl (fun c => absurd c (by decide)) (fun _ => ?_)
      refine fw_iconst h (-1) rfl (by decide) ?_
      exact fw_iret h rfl rfl ⟨_, rfl, hb (fun z => by first | exact c1 z.1 | exact c10 z.2)⟩
  · refine fw_if_eq h rfl (fun _ => ?_) (fun c => absurd c (by decide))
    refine fw_iconst h (-1) rfl (by decide) ?_
    exact fw_iret h rfl rfl ⟨_, rfl, hb (fun z => by first | exact c1 z.1 | exact c10 z.2)⟩
theorem c_X7_inForce {l : Launch} {w : fb_Wd} {P : Int32 → fb_Wd → Prop} {nt nd nx ng : Nat} (hX : XI w nt nd nx ng) {y : Int32} (hb : ¬ (1000 ≤ y ∧ y ≤ 1900) → P (-1) w) (hp : 1000 ≤ y → y ≤ 1900 → P (fp_force (xD w 13) y nx) w) : fb_Can l tX7_inForce [.ref 0, .int y] w (fb_kI P) := by
  refine fb_intro 0 fk_t_X7_inForce (by decide) rfl (fun X hX h => ?_)
  subst hX
  change fb_AW tX7_inForce X 0 [some (.ref 0), some (.int y)] [] w
  refine fw_iload_n h rfl rfl ?_
  refine fw_s1I h rfl fk_s_X7_isYear fk_l_X7_173 rfl rfl ?_
  refine c_X7_isYear (fun c1a c1b => ?_) (fun c1 => ?_)
  · refine fw_if_ne h rfl (fun _ => ?_) (fun c => absurd c (by decide))
    refine fw_aload_n h rfl rfl ?_
    refine fw_getR _ h rfl fk_g_X7_33 rfl rfl ?_
    refine fw_iload_n h rfl rfl ?_
    refine fw_v1I h rfl fk_v_X5_latestBy fk_l_X7_227 rfl rfl rfl rfl ?_
    refine c_X5_latestBy hX.1.2.2.1.1 hX.1.2.2.1.2 ?_
    exact fw_iret h rfl rfl ⟨_, rfl, by have z := hp c1a c1b; rw [show fp_force (xD w 13) y nx = fp_force (w.1 31) y nx from fp_force_cg (by have := hX.1.2.2.1.2; omega) (fun k hk => if_pos (show k < 8 by have := hX.1.2.2.1.2; omega))] at z; exact z⟩
  · refine fw_if_ne h rfl (fun c => absurd c (by decide)) (fun _ => ?_)
    refine fw_iconst h (-1) rfl (by decide) ?_
    exact fw_iret h rfl rfl ⟨_, rfl, hb c1⟩
theorem fs_ff_lt {D : Nat → Nat → Int32} {nt d m : Nat} {rd r st fr : Int32} (hn : nt ≤ 20) : fp_lt nt (fs_ff D nt d m rd r st fr) := by
  intro i h1 h2
  unfold fs_ff
  rw [fp_lft_bt (by omega) i h2]
  have hon : ∀ t, t < nt → fs_on D r t < nt := fun t ht => by
    unfold fs_on
    split
    · have := fp_top_le (f := D 3) t; omega
    · exact ht
  rw [fs_set_lt hn hon i h1 h2]; rfl
theorem c_X7_forfeit {l : Launch} {w : fb_Wd} {P : Int32 → fb_Wd → Prop} {nt nd nx ng : Nat} (hX : XI w nt nd nx ng) {d r tx : Int32} (hx : fd_X (xD w) nx) (hb : ¬ ((∃ j k, j < nd ∧ d = nI j ∧ k < 2 ^ fp_dbt (xD w 12) j (fd_m (xD w) j) ∧ r = nI k) ∧ ∃ x, x < nx ∧ tx = nI x) → P (-1) w) (hg : ∀ j k x, j < nd → d = nI j → k < 2 ^ fp_dbt (xD w 12) j (fd_m (xD w) j) → r = nI k → x < nx → tx = nI x → ∀ w', xSL [6, 41, 42, 43] w w' → P (fp_bits (fs_ff (xD w) nt j (fd_m (xD w) j) (nI k) (xD w 14 x) (xD w 15 x) (xD w 16 x)) 20) (fb_up w' 0 10 (fs_ff (xD w) nt j (fd_m (xD w) j) (nI k) (xD w 14 x) (xD w 15 x) (xD w 16 x)))) : fb_Can l tX7_forfeit [.ref 0, .int d, .int r, .int tx] w (fb_kI P) := by
  refine fb_intro 1 fk_t_X7_forfeit (by decide) rfl (fun X hX h => ?_)
  subst hX
  change fb_AW tX7_forfeit X 0 [some (.ref 0), some (.int d), some (.int r), some (.int tx), none] [] w
  refine fw_aload_n h rfl rfl ?_
  refine fw_getR _ h rfl fk_g_X7_26 rfl rfl ?_
  refine fw_iload_n h rfl rfl ?_
  refine fw_iload_n h rfl rfl ?_
  refine fw_v2I h rfl fk_v_X0_hasReading fk_l_X7_205 rfl rfl rfl rfl ?_
  refine c_X0_hasReading hX.1.2.1.1 hX.1.2.1.2 hX.kq (fun j k hj ej hk ek => ?_) (fun c6 => ?_)
  · refine fw_if_eq h rfl (fun c => absurd c (by decide)) (fun _ => ?_)
    refine fw_aload_n h rfl rfl ?_
    refine fw_getR _ h rfl fk_g_X7_33 rfl rfl ?_
    refine fw_iload_n h rfl rfl ?_
    refine fw_v1I h rfl fk_v_X5_has fk_l_X7_230 rfl rfl rfl rfl ?_
    refine c_X5_has hX.1.2.2.1.1 hX.1.2.2.1.2 (fun x hx8 ex => ?_) (fun c17 => ?_)
    · refine fw_if_ne h rfl (fun _ => ?_) (fun c => absurd c (by decide))
      refine fw_aload_n h rfl rfl ?_
      refine fw_getR _ h rfl fk_g_X7_49 rfl rfl ?_
      refine fw_iload_n h rfl rfl ?_
      refine fw_iload_n h rfl rfl ?_
      refine fw_iload_n h rfl rfl ?_
      refine fw_v3V h rfl fk_v_X2_hear fk_l_X7_208 rfl rfl rfl rfl ?_
      subst ej; subst ek
      have hp5 : 2 ^ fp_dbt (xD w 12) j (fd_m (xD w) j) ≤ 2 ^ 5 := Nat.pow_le_pow_right (by decide) (hX.kq j hj).2
      refine c_X2_hear hX hj (hX.2.2.1 j hj) (hX.kq j hj).1 (by omega) (Nat.le_refl _) (fun w1 hs1 g5 gF => ?_)
      have gk := gF k (Nat.le_refl _) (Nat.le_refl _)
      have eD1 : xD w1 = xD w := hs1.eD (by decide)
      have hX1 := hs1.keep (by decide) hX
      have hA1 : fd_A (xD w1) nt j (fd_m (xD w) j) := by rw [eD1]; exact hX.2.2.1 j hj
      subst ex
      have hnx := hX.1.2.2.1.2
      obtain ⟨q, hq3, eq⟩ := hx x hx8
      have ex2 : w1.1 32 x = nI q := by rw [hs1.1 32 (by decide), ← eq]; exact (if_pos (show x < 8 by omega)).symm
      have ex3 : w1.1 33 x = xD w 15 x := by rw [hs1.1 33 (by decide)]; exact (if_pos (show x < 8 by omega)).symm
      have ex4 : w1.1 34 x = xD w 16 x := by rw [hs1.1 34 (by decide)]; exact (if_pos (show x < 8 by omega)).symm
      refine fw_aload_n h rfl rfl ?_
      refine fw_getR _ h rfl fk_g_X7_19 rfl rfl ?_
      refine fw_aload_n h rfl rfl ?_
      refine fw_getR _ h rfl fk_g_X7_33 rfl rfl ?_
      refine fw_getR _ h rfl fk_g_X7_231 rfl rfl ?_
      refine fw_iload_n h rfl rfl ?_
      refine fn_iald h rfl rfl (by omega) rfl ?_
      refine fw_v1I h rfl fk_v_X6_ofSorts fk_l_X7_234 rfl rfl rfl rfl ?_
      refine c_X6_ofSorts hX1.1.1.1 hX1.1.1.2 (fun t ht => (hX1.2.1 t ht).2.1) ?_
      refine fw_istore h [_, _, _, _, _] rfl rfl rfl rfl ?_
      refine fw_aload_n h rfl rfl ?_
      refine fw_aload_n h rfl rfl ?_
      refine fw_getR _ h rfl fk_g_X7_49 rfl rfl ?_
      refine fw_iload_n h rfl rfl ?_
      refine fw_aload_n h rfl rfl ?_
      refine fw_getR _ h rfl fk_g_X7_33 rfl rfl ?_
      refine fw_getR _ h rfl fk_g_X7_237 rfl rfl ?_
      refine fw_iload_n h rfl rfl ?_
      refine fn_iald h rfl rfl (by omega) rfl ?_
      refine fw_aload_n h rfl rfl ?_
      refine fw_getR _ h rfl fk_g_X7_33 rfl rfl ?_
      refine fw_getR _ h rfl fk_g_X7_240 rfl rfl ?_
      refine fw_iload_n h rfl rfl ?_
      refine fn_zald h rfl rfl (by omega) rfl ?_
      refine fw_iload h rfl rfl ?_
      refine fw_v4I h rfl fk_v_X2_falls fk_l_X7_244 rfl rfl rfl rfl ?_
      rw [ex2, ex3, ex4]
      refine c_X2_falls hX1 hA1 (by omega) (by rw [eD1]; exact gk.1) (by rw [eD1]; exact gk.2.1) (by rw [eD1]; exact gk.2.2) hq3 ?_
      rw [eD1, ← eq]
      refine fw_v1I h rfl fk_v_X7_tellSet fk_l_X7_214 rfl rfl rfl rfl ?_
      refine c_X7_tellSet (fp_lt_le (fs_ff_lt (nt := nt) hX.1.1.2) hX.1.1.2) ?_
      exact fw_iret h rfl rfl ⟨_, rfl, hg j k x hj rfl hk rfl hx8 rfl w1 hs1⟩
    · refine fw_if_ne h rfl (fun c => absurd c (by decide)) (fun _ => ?_)
      refine fw_iconst h (-1) rfl (by decide) ?_
      exact fw_iret h rfl rfl ⟨_, rfl, hb (fun z => by first | exact c6 z.1 | exact c17 z.2)⟩
  · refine fw_if_eq h rfl (fun _ => ?_) (fun c => absurd c (by decide))
    refine fw_iconst h (-1) rfl (by decide) ?_
    exact fw_iret h rfl rfl ⟨_, rfl, hb (fun z => by first | exact c6 z.1 | exact c17 z.2)⟩
theorem c_X7_value {l : Launch} {w : fb_Wd} {P : Int32 → fb_Wd → Prop} {nt nd nx ng : Nat} (hX : XI w nt nd nx ng) {d r : Int32} (hx : fd_X (xD w) nx) (hb : ¬ (∃ j k, j < nd ∧ d = nI j ∧ k < 2 ^ fp_dbt (xD w 12) j (fd_m (xD w) j) ∧ r = nI k) → P (-1) w) (hg : ∀ j k, j < nd → d = nI j → k < 2 ^ fp_dbt (xD w 12) j (fd_m (xD w) j) → r = nI k → ∀ w', xRN w nt nx j (fd_m (xD w) j) w' → P (fs_vn (xD w) nt nx j (fd_m (xD w) j) k) (fb_up w' 0 10 (fs_sn (xD w) nt nx j (fd_m (xD w) j) k))) : fb_Can l tX7_value [.ref 0, .int d, .int r] w (fb_kI P) := by
  refine fb_intro 1 fk_t_X7_value (by decide) rfl (fun X hX h => ?_)
  subst hX
  change fb_AW tX7_value X 0 [some (.ref 0), some (.int d), some (.int r), none] [] w
  refine fw_aload_n h rfl rfl ?_
  refine fw_getR _ h rfl fk_g_X7_26 rfl rfl ?_
  refine fw_iload_n h rfl rfl ?_
  refine fw_iload_n h rfl rfl ?_
  refine fw_v2I h rfl fk_v_X0_hasReading fk_l_X7_205 rfl rfl rfl rfl ?_
  refine c_X0_hasReading hX.1.2.1.1 hX.1.2.1.2 hX.kq (fun j k hj ej hk ek => ?_) (fun c6 => ?_)
  · refine fw_if_ne h rfl (fun _ => ?_) (fun c => absurd c (by decide))
    refine fw_aload_n h rfl rfl ?_
    refine fw_iload_n h rfl rfl ?_
    refine fw_v1V h rfl fk_v_X7_ruleNow fk_l_X7_247 rfl rfl rfl rfl ?_
    subst ej; subst ek
    have hp5 : 2 ^ fp_dbt (xD w 12) j (fd_m (xD w) j) ≤ 2 ^ 5 := Nat.pow_le_pow_right (by decide) (hX.kq j hj).2
    refine c_X7_ruleNow hX hx hj (hX.2.2.1 j hj) (hX.kq j hj).1 (fun w1 hr => ?_)
    have hX1 := hr.1.keep (by decide) hX
    refine fw_aload_n h rfl rfl ?_
    refine fw_getR _ h rfl fk_g_X7_58 rfl rfl ?_
    refine fw_getR _ h rfl fk_g_X7_250 rfl rfl ?_
    refine fw_iload_n h rfl rfl ?_
    refine fn_iald h rfl rfl (by omega) rfl ?_
    rw [hr.2.2.2.2.1 k hk]
    refine fw_istore_n h [_, _, _, _] rfl rfl rfl rfl ?_
    refine fw_aload_n h rfl rfl ?_
    refine fw_iload_n h rfl rfl ?_
    refine fw_aload_n h rfl rfl ?_
    refine fw_getR _ h rfl fk_g_X7_19 rfl rfl ?_
    refine fw_iload_n h rfl rfl ?_
    refine fw_v1I h rfl fk_v_X6_priceOf fk_l_X7_253 rfl rfl rfl rfl ?_
    refine c_X6_priceOf hX1.1.1.1 hX1.1.1.2 ?_
    rw [fx_pv_eq hX1.2.2.2.1, hr.1.eD (by decide)]
    refine fw_v2I h rfl fk_v_X7_tell fk_l_X7_111 rfl rfl rfl rfl ?_
    refine c_X7_tell ?_
    exact fw_iret h rfl rfl ⟨_, rfl, hg j k hj rfl hk rfl w1 hr⟩
  · refine fw_if_ne h rfl (fun c => absurd c (by decide)) (fun _ => ?_)
    refine fw_iconst h (-1) rfl (by decide) ?_
    exact fw_iret h rfl rfl ⟨_, rfl, hb c6⟩
theorem c_X7_due {l : Launch} {w : fb_Wd} {P : Int32 → fb_Wd → Prop} {nt nd nx ng : Nat} (hX : XI w nt nd nx ng) {d : Int32} (hx : fd_X (xD w) nx) (hb : ¬ (∃ j, j < nd ∧ d = nI j) → P (-1) w) (hg : ∀ j, j < nd → d = nI j → ∀ w', xRN w nt nx j (fd_m (xD w) j) w' → P (fs_dv (xD w) nt nx j) (fb_up w' 0 10 (nI (fs_dq (xD w) nt nx j)))) : fb_Can l tX7_due [.ref 0, .int d] w (fb_kI P) := by
  refine fb_intro 0 fk_t_X7_due (by decide) rfl (fun X hX h => ?_)
  subst hX
  change fb_AW tX7_due X 0 [some (.ref 0), some (.int d)] [] w
  refine fw_aload_n h rfl rfl ?_
  refine fw_getR _ h rfl fk_g_X7_26 rfl rfl ?_
  refine fw_iload_n h rfl rfl ?_
  refine fw_v1I h rfl fk_v_X0_has fk_l_X7_181 rfl rfl rfl rfl ?_
  refine c_X0_has hX.1.2.1.1 hX.1.2.1.2 (fun j hj ej => ?_) (fun c5 => ?_)
  · refine fw_if_ne h rfl (fun _ => ?_) (fun c => absurd c (by decide))
    refine fw_aload_n h rfl rfl ?_
    refine fw_iload_n h rfl rfl ?_
    refine fw_v1V h rfl fk_v_X7_ruleNow fk_l_X7_247 rfl rfl rfl rfl ?_
    subst ej
    refine c_X7_ruleNow hX hx hj (hX.2.2.1 j hj) (hX.kq j hj).1 (fun w1 hr => ?_)
    refine fw_aload_n h rfl rfl ?_
    refine fw_aload_n h rfl rfl ?_
    refine fw_getR _ h rfl fk_g_X7_58 rfl rfl ?_
    refine fw_getI h rfl fk_g_X7_263 rfl rfl ?_
    rw [show w1.1 7 3 = nI (fs_dq (xD w) nt nx j) from hr.2.2.2.2.2.1]
    refine fw_aload_n h rfl rfl ?_
    refine fw_getR _ h rfl fk_g_X7_58 rfl rfl ?_
    refine fw_getI h rfl fk_g_X7_266 rfl rfl ?_
    rw [show w1.1 7 4 = fs_dv (xD w) nt nx j from hr.2.2.2.2.2.2]
    refine fw_v2I h rfl fk_v_X7_tell fk_l_X7_111 rfl rfl rfl rfl ?_
    refine c_X7_tell ?_
    exact fw_iret h rfl rfl ⟨_, rfl, hg j hj rfl w1 hr⟩
  · refine fw_if_ne h rfl (fun c => absurd c (by decide)) (fun _ => ?_)
    refine fw_iconst h (-1) rfl (by decide) ?_
    exact fw_iret h rfl rfl ⟨_, rfl, hb c5⟩
theorem c_X7_unlike {l : Launch} {w : fb_Wd} {P : Int32 → fb_Wd → Prop} {nt nd nx ng : Nat} (hX : XI w nt nd nx ng) {d : Int32} (hx : fd_X (xD w) nx) (hb : ¬ (∃ j, j < nd ∧ d = nI j) → P (-1) w) (hg : ∀ j, j < nd → d = nI j → ∀ w', xRN w nt nx j (fd_m (xD w) j) w' → P (nI (fp_unl (fs_sn (xD w) nt nx j (fd_m (xD w) j)) (nI 0) (nI 0) (2 ^ fp_dbt (xD w 12) j (fd_m (xD w) j)))) w') : fb_Can l tX7_unlike [.ref 0, .int d] w (fb_kI P) := by
  refine fb_intro 0 fk_t_X7_unlike (by decide) rfl (fun X hX h => ?_)
  subst hX
  change fb_AW tX7_unlike X 0 [some (.ref 0), some (.int d)] [] w
  refine fw_aload_n h rfl rfl ?_
  refine fw_getR _ h rfl fk_g_X7_26 rfl rfl ?_
  refine fw_iload_n h rfl rfl ?_
  refine fw_v1I h rfl fk_v_X0_has fk_l_X7_181 rfl rfl rfl rfl ?_
  refine c_X0_has hX.1.2.1.1 hX.1.2.1.2 (fun j hj ej => ?_) (fun c5 => ?_)
  · refine fw_if_ne h rfl (fun _ => ?_) (fun c => absurd c (by decide))
    refine fw_aload_n h rfl rfl ?_
    refine fw_iload_n h rfl rfl ?_
    refine fw_v1V h rfl fk_v_X7_ruleNow fk_l_X7_247 rfl rfl rfl rfl ?_
    subst ej
    have hp5 : 2 ^ fp_dbt (xD w 12) j (fd_m (xD w) j) ≤ 2 ^ 5 := Nat.pow_le_pow_right (by decide) (hX.kq j hj).2
    refine c_X7_ruleNow hX hx hj (hX.2.2.1 j hj) (hX.kq j hj).1 (fun w1 hr => ?_)
    refine fw_aload_n h rfl rfl ?_
    refine fw_getR _ h rfl fk_g_X7_58 rfl rfl ?_
    refine fw_iconst h (nI 0) rfl (by decide) ?_
    refine fw_iconst h (nI 0) rfl (by decide) ?_
    refine fw_v2I h rfl fk_v_X4_unlikeSets fk_l_X7_269 rfl rfl rfl rfl ?_
    refine c_X4_unlikeSets_n hr.2.2.2.1 (by omega) ?_
    rw [fp_unl_cg (n := 2 ^ fp_dbt (xD w 12) j (fd_m (xD w) j)) hr.2.2.2.2.1]
    exact fw_iret h rfl rfl ⟨_, rfl, hg j hj rfl w1 hr⟩
  · refine fw_if_ne h rfl (fun c => absurd c (by decide)) (fun _ => ?_)
    refine fw_iconst h (-1) rfl (by decide) ?_
    exact fw_iret h rfl rfl ⟨_, rfl, hb c5⟩
theorem fp_orF_cg {g g' : Nat → Int32} : ∀ {n : Nat}, (∀ i, i < n → g i = g' i) → fp_orF g n = fp_orF g' n
  | 0, _ => rfl
  | n + 1, h => by rw [fp_orF, fp_orF, fp_orF_cg (n := n) (fun i hi => h i (by omega)), h n (by omega)]
theorem fp_andF_cg {g g' : Nat → Int32} : ∀ {n : Nat}, (∀ i, i < n → g i = g' i) → fp_andF g n = fp_andF g' n
  | 0, _ => rfl
  | n + 1, h => by rw [fp_andF, fp_andF, fp_andF_cg (n := n) (fun i hi => h i (by omega)), h n (by omega)]
theorem fs_sn_lt {D : Nat → Nat → Int32} {nt nx d m : Nat} (hn : nt ≤ 20) (r : Nat) : fp_lt nt (fs_sn D nt nx d m r) := by
  unfold fs_sn fs_sx fs_fx
  split
  · exact fp_lt_0 nt
  · exact fs_ff_lt hn
theorem fp_andF_lt {g : Nat → Int32} {n : Nat} (h : fp_lt 20 (g 0)) : ∀ {m : Nat}, 0 < m → fp_lt 20 (fp_andF g m)
  | 1, _ => by rw [fp_andF_b]; exact h
  | m + 2, _ => fp_lt_and _ (fp_andF_lt (n := n) h (m := m + 1) (by omega))
theorem c_X7_sure {l : Launch} {w : fb_Wd} {P : Int32 → fb_Wd → Prop} {nt nd nx ng : Nat} (hX : XI w nt nd nx ng) {d mb : Int32} (hx : fd_X (xD w) nx) (hb : ¬ (∃ j, j < nd ∧ d = nI j) → P (-1) w) (hg : ∀ j, j < nd → d = nI j → ∀ w', xRN w nt nx j (fd_m (xD w) j) w' → (mb = 0 → P (fp_bits (fp_andF (fs_sn (xD w) nt nx j (fd_m (xD w) j)) (2 ^ fp_dbt (xD w 12) j (fd_m (xD w) j))) 20) (fb_up w' 0 10 (fp_andF (fs_sn (xD w) nt nx j (fd_m (xD w) j)) (2 ^ fp_dbt (xD w 12) j (fd_m (xD w) j))))) ∧ (¬ mb = 0 → P (fp_bits (fp_orF (fs_sn (xD w) nt nx j (fd_m (xD w) j)) (2 ^ fp_dbt (xD w 12) j (fd_m (xD w) j))) 20) (fb_up w' 0 10 (fp_orF (fs_sn (xD w) nt nx j (fd_m (xD w) j)) (2 ^ fp_dbt (xD w 12) j (fd_m (xD w) j)))))) : fb_Can l tX7_sure [.ref 0, .int d, .int mb] w (fb_kI P) := by
  refine fb_intro 0 fk_t_X7_sure (by decide) rfl (fun X hX h => ?_)
  subst hX
  change fb_AW tX7_sure X 0 [some (.ref 0), some (.int d), some (.int mb)] [] w
  refine fw_aload_n h rfl rfl ?_
  refine fw_getR _ h rfl fk_g_X7_26 rfl rfl ?_
  refine fw_iload_n h rfl rfl ?_
  refine fw_v1I h rfl fk_v_X0_has fk_l_X7_181 rfl rfl rfl rfl ?_
  refine c_X0_has hX.1.2.1.1 hX.1.2.1.2 (fun j hj ej => ?_) (fun c5 => ?_)
  · refine fw_if_ne h rfl (fun _ => ?_) (fun c => absurd c (by decide))
    refine fw_aload_n h rfl rfl ?_
    refine fw_iload_n h rfl rfl ?_
    refine fw_v1V h rfl fk_v_X7_ruleNow fk_l_X7_247 rfl rfl rfl rfl ?_
    subst ej
    have hp0 := Nat.two_pow_pos (fp_dbt (xD w 12) j (fd_m (xD w) j))
    have hp5 : 2 ^ fp_dbt (xD w 12) j (fd_m (xD w) j) ≤ 2 ^ 5 := Nat.pow_le_pow_right (by decide) (hX.kq j hj).2
    refine c_X7_ruleNow hX hx hj (hX.2.2.1 j hj) (hX.kq j hj).1 (fun w1 hr => ?_)
    refine fw_aload_n h rfl rfl ?_
    refine fw_iload_n h rfl rfl ?_
    refine fw_if_eq h rfl (fun c20 => ?_) (fun c20 => ?_)
    · skip
      · refine fw_aload_n h rfl rfl ?_
        refine fw_getR _ h rfl fk_g_X7_58 rfl rfl ?_
        refine fw_v0I h rfl fk_v_X4_inEach fk_l_X7_260 rfl rfl rfl rfl ?_
        refine c_X4_inEach_n hr.2.2.2.1 (by omega) (by omega) ?_
        rw [fp_andF_cg (n := 2 ^ fp_dbt (xD w 12) j (fd_m (xD w) j)) hr.2.2.2.2.1]
        refine fw_v1I h rfl fk_v_X7_tellSet fk_l_X7_214 rfl rfl rfl rfl ?_
        refine c_X7_tellSet (fp_andF_lt (n := 0) (fp_lt_le (fs_sn_lt hX.1.1.2 0) hX.1.1.2) (by omega)) ?_
        exact fw_iret h rfl rfl ⟨_, rfl, (hg j hj rfl w1 hr).1 c20⟩
    · skip
      · refine fw_aload_n h rfl rfl ?_
        refine fw_getR _ h rfl fk_g_X7_58 rfl rfl ?_
        refine fw_v0I h rfl fk_v_X4_inSome fk_l_X7_256 rfl rfl rfl rfl ?_
        refine c_X4_inSome_n hr.2.2.2.1 (by omega) ?_
        rw [fp_orF_cg (n := 2 ^ fp_dbt (xD w 12) j (fd_m (xD w) j)) hr.2.2.2.2.1]
        refine fw_goto h rfl ?_
        refine fw_v1I h rfl fk_v_X7_tellSet fk_l_X7_214 rfl rfl rfl rfl ?_
        refine c_X7_tellSet (fp_orF_lt (fun k hk => fp_lt_le (fs_sn_lt hX.1.1.2 k) hX.1.1.2)) ?_
        exact fw_iret h rfl rfl ⟨_, rfl, (hg j hj rfl w1 hr).2 c20⟩
  · refine fw_if_ne h rfl (fun c => absurd c (by decide)) (fun _ => ?_)
    refine fw_iconst h (-1) rfl (by decide) ?_
    exact fw_iret h rfl rfl ⟨_, rfl, hb c5⟩
theorem c_X7_jury {l : Launch} {w : fb_Wd} {P : Int32 → fb_Wd → Prop} {nt nd nx ng : Nat} (hX : XI w nt nd nx ng) {d v : Int32} (hb : ¬ ((∃ j, j < nd ∧ d = nI j) ∧ (v = -9 ∨ 0 ≤ v ∧ v ≤ 100000)) → P (-1) w) (hg : ∀ j, j < nd → d = nI j → (v = -9 ∨ 0 ≤ v ∧ v ≤ 100000) → P (xD w 7 j) (fb_up w 24 j v)) : fb_Can l tX7_jury [.ref 0, .int d, .int v] w (fb_kI P) := by
  refine fb_intro 1 fk_t_X7_jury (by decide) rfl (fun X hX h => ?_)
  subst hX
  change fb_AW tX7_jury X 0 [some (.ref 0), some (.int d), some (.int v), none] [] w
  refine fw_aload_n h rfl rfl ?_
  refine fw_getR _ h rfl fk_g_X7_26 rfl rfl ?_
  refine fw_iload_n h rfl rfl ?_
  refine fw_v1I h rfl fk_v_X0_has fk_l_X7_181 rfl rfl rfl rfl ?_
  refine c_X0_has hX.1.2.1.1 hX.1.2.1.2 (fun j hj ej => ?_) (fun c5 => ?_)
  · refine fw_if_eq h rfl (fun c => absurd c (by decide)) (fun _ => ?_)
    refine fw_iload_n h rfl rfl ?_
    refine fw_s1I h rfl fk_s_X7_isToldWorth fk_l_X7_176 rfl rfl ?_
    refine c_X7_isToldWorth (fun c12 => ?_) (fun c12 => ?_)
    · refine fw_if_ne h rfl (fun _ => ?_) (fun c => absurd c (by decide))
      subst ej
      have hnd := hX.1.2.1.2
      refine fw_aload_n h rfl rfl ?_
      refine fw_getR _ h rfl fk_g_X7_26 rfl rfl ?_
      refine fw_getR _ h rfl fk_g_X7_293 rfl rfl ?_
      refine fw_iload_n h rfl rfl ?_
      refine fn_iald h rfl rfl (by omega) rfl ?_
      refine fw_istore_n h [_, _, _, _] rfl rfl rfl rfl ?_
      refine fw_aload_n h rfl rfl ?_
      refine fw_getR _ h rfl fk_g_X7_26 rfl rfl ?_
      refine fw_getR _ h rfl fk_g_X7_293 rfl rfl ?_
      refine fw_iload_n h rfl rfl ?_
      refine fw_iload_n h rfl rfl ?_
      refine fn_iast h rfl rfl (by omega) rfl ?_
      refine fw_iload_n h rfl rfl ?_
      exact fw_iret h rfl rfl ⟨_, rfl, hg j hj rfl c12⟩
    · refine fw_if_ne h rfl (fun c => absurd c (by decide)) (fun _ => ?_)
      refine fw_iconst h (-1) rfl (by decide) ?_
      exact fw_iret h rfl rfl ⟨_, rfl, hb (fun z => by first | exact c5 z.1 | exact c12 z.2)⟩
  · refine fw_if_eq h rfl (fun _ => ?_) (fun c => absurd c (by decide))
    refine fw_iconst h (-1) rfl (by decide) ?_
    exact fw_iret h rfl rfl ⟨_, rfl, hb (fun z => by first | exact c5 z.1 | exact c12 z.2)⟩
