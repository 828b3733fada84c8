def fa_1 (nt : Nat) (f : Nat → Int32) (b k : Nat) : Prop := fp_act nt (f (b + 4 * k)) (f (b + 4 * k + 1)) (f (b + 4 * k + 2)) ∧ 0 ≤ f (b + 4 * k + 3) ∧ f (b + 4 * k + 3) ≤ 1
def fa_ok (nt : Nat) (f : Nat → Int32) (b n : Nat) : Prop := ∀ k, k < n → fa_1 nt f b k
def fa_z (f : Nat → Int32) (b n : Nat) : Nat := fp_cnt (fun k => decide (f (b + 4 * k + 3) = 0)) n
theorem fa_ok_s {nt : Nat} {f : Nat → Int32} {b n : Nat} (h : fa_ok nt f b n) (h1 : fa_1 nt f b n) : fa_ok nt f b (n + 1) := fun k hk => by
  by_cases e : k = n
  · subst e; exact h1
  · exact h k (by omega)
theorem fa_ok_n {nt : Nat} {f : Nat → Int32} {b n : Nat} (h : ¬ fa_ok nt f b n) : ¬ fa_ok nt f b (n + 1) := fun z => h (fun k hk => z k (by omega))
theorem fa_ok_m {nt : Nat} {f : Nat → Int32} {b n : Nat} (h : ¬ fa_1 nt f b n) : ¬ fa_ok nt f b (n + 1) := fun z => h (z n (by omega))
def fa_b (f : Nat → Int32) (b k : Nat) : Int32 := if f (b + 4 * k) = 1 then f (b + 4 * k + 2) else -9
def fa_s (f : Nat → Int32) (b k : Nat) : Int32 := if f (b + 4 * k + 3) = nI 1 then nI 1 else nI 0
def fp_pw (w : fb_Wd) (d : Nat) (f : Nat → Int32) (b : Nat) : Nat → fb_Wd
  | 0 => fb_up w 59 d (nI 0)
  | k + 1 => fp_put (fp_pw w d f b k) d k (f (b + 4 * k)) (f (b + 4 * k + 1)) (fa_b f b k) (fa_s f b k)
theorem fp_put_ne (w : fb_Wd) (d m : Nat) (s a b z : Int32) {c : Nat} (h : c < 59 ∨ 63 < c) : (fp_put w d m s a b z).1 c = w.1 c := by
  unfold fp_put
  rw [fb_up_ne _ _ _ (by omega), fb_up_ne _ _ _ (by omega), fb_up_ne _ _ _ (by omega), fb_up_ne _ _ _ (by omega), fb_up_ne _ _ _ (by omega)]
theorem fp_pw_ne (w : fb_Wd) (d : Nat) (f : Nat → Int32) (b : Nat) {c : Nat} (h : c < 59 ∨ 63 < c) : ∀ k, (fp_pw w d f b k).1 c = w.1 c
  | 0 => fb_up_ne _ _ _ (by omega)
  | k + 1 => by rw [fp_pw, fp_put_ne _ _ _ _ _ _ _ h, fp_pw_ne w d f b h k]
theorem fp_pw_59 (w : fb_Wd) (d : Nat) (f : Nat → Int32) (b : Nat) : ∀ k, (fp_pw w d f b k).1 59 d = nI k
  | 0 => by simp [fp_pw, fb_up]
  | k + 1 => by rw [fp_pw, fp_put_59, fp_pw_59 w d f b k, nI_1]
theorem c_X8_acts {l : Launch} {w : fb_Wd} {P : Int32 → fb_Wd → Prop} {nt nd nx ng : Nat} (hN : fd_N (mD w) nt nd nx ng) (hT : fd_T (mD w) nt) (hAA : ∀ d, d < nd → fd_A (mD w) nt d (fd_m (mD w) d)) {d r : Int32} (hsz : fm_sz w) (hb : ¬ ((∃ j, j < nd ∧ d = nI j) ∧ 0 ≤ r ∧ r ≤ 5) → P (-1) w) (h1 : ∀ j a, j < nd → d = nI j → a < 6 → r = nI a → w.1 48 a < 0 → P (-3) (fb_up (fb_up w 46 0 (nI 1)) 47 1 (w.1 47 1 + 1))) (h5 : ∀ j a p, j < nd → d = nI j → a < 6 → r = nI a → p ≤ 40 → w.1 48 a = nI p → ¬ p % 4 = 0 → P (-3) (fb_up (fb_up w 46 0 (nI 5)) 47 5 (w.1 47 5 + 1))) (hu : ∀ j a p, j < nd → d = nI j → a < 6 → r = nI a → p ≤ 40 → w.1 48 a = nI p → p % 4 = 0 → ¬ (fa_ok nt (w.1 49) (40 * a) (p / 4) ∧ fa_z (w.1 49) (40 * a) (p / 4) ≤ 5) → P (-3) (fb_up (fb_up w 46 0 (nI 3)) 47 3 (w.1 47 3 + 1))) (hg : ∀ j a p, j < nd → d = nI j → a < 6 → r = nI a → p ≤ 40 → w.1 48 a = nI p → p % 4 = 0 → fa_ok nt (w.1 49) (40 * a) (p / 4) → fa_z (w.1 49) (40 * a) (p / 4) ≤ 5 → P (nI (p / 4)) (fp_pw w j (w.1 49) (40 * a) (p / 4))) : fb_Can l tX8_acts [.ref 46, .int d, .int r] w (fb_kI P) := by
  refine fb_intro 5 fk_t_X8_acts (by decide) rfl (fun X hX h => ?_)
  subst hX
  change fb_AW tX8_acts X 0 [some (.ref 46), some (.int d), some (.int r), none, none, none, none, none] [] w
  refine fw_aload_n h rfl rfl ?_
  refine fw_iload_n h rfl rfl ?_
  refine fw_v1I h rfl fk_v_X8_isDeath fk_l_X8_163 rfl rfl rfl rfl ?_
  refine c_X8_isDeath hN.2.1.1 (by have := hN.2.1.2; omega) (fun j hj e => ?_) (fun c2 => ?_)
  · refine fw_if_eq h rfl (fun c => absurd c (by decide)) (fun _ => ?_)
    refine fw_iload_n h rfl rfl ?_
    refine fw_s1I h rfl fk_s_X8_isRow fk_l_X8_113 rfl rfl ?_
    refine c_X8_isRow (fun c9a c9b => ?_) (fun c9 => ?_)
    · refine fw_if_ne h rfl (fun _ => ?_) (fun c => absurd c (by decide))
      subst e
      obtain ⟨a, ha5, ea⟩ := nI_ofle (n := 5) c9a c9b (by decide)
      subst ea
      have ha : a < 6 := by omega
      have hnd := hN.2.1.2
      have hnt := hN.1.2
      refine fw_aload_n h rfl rfl ?_
      refine fw_getR _ h rfl fk_g_X8_17 rfl rfl ?_
      refine fw_iload_n h rfl rfl ?_
      refine fn_iald h rfl rfl (by omega) rfl ?_
      refine fw_if_ge h rfl (fun c23 => ?_) (fun c23 => ?_)
      · obtain ⟨p, hp40, ep⟩ : ∃ n, n ≤ 40 ∧ w.1 48 a = nI n := (hsz a ha).resolve_left (fun z => by rw [z] at c23; exact absurd c23 (by decide))
        refine fw_aload_n h rfl rfl ?_
        refine fw_getR _ h rfl fk_g_X8_17 rfl rfl ?_
        refine fw_iload_n h rfl rfl ?_
        refine fn_iald h rfl rfl (by omega) rfl ?_
        rw [ep]
        refine fw_iconst h (nI 4) rfl (by decide) ?_
        refine fw_irem h rfl (by decide) ?_
        rw [pk_rem (by omega) (by decide) (by decide)]
        refine fw_if_eq h rfl (fun c40 => ?_) (fun c40 => ?_)
        · have h4 : p % 4 = 0 := (nI_eq (a := p % 4) (b := 0) (by omega) (by decide)).mp c40
          refine fw_aload_n h rfl rfl ?_
          refine fw_getR _ h rfl fk_g_X8_17 rfl rfl ?_
          refine fw_iload_n h rfl rfl ?_
          refine fn_iald h rfl rfl (by omega) rfl ?_
          rw [ep]
          refine fw_iconst h (nI 4) rfl (by decide) ?_
          refine fw_idiv h rfl (by decide) ?_
          rw [pk_div (by omega) (by decide) (by decide)]
          refine fw_istore_n h [_, _, _, _, _, _, _, _] rfl rfl rfl rfl ?_
          refine fw_iconst h (nI 0) rfl (by decide) ?_
          refine fw_istore h [_, _, _, _, _, _, _, _] rfl rfl rfl rfl ?_
          refine fw_iconst h (nI 1) rfl (by decide) ?_
          refine fw_istore h [_, _, _, _, _, _, _, _] rfl rfl rfl rfl ?_
          refine fw_iconst h (nI 0) rfl (by decide) ?_
          refine fw_istore h [_, _, _, _, _, _, _, _] rfl rfl rfl rfl ?_
          refine (?_ : ∀ g q, ((g = nI 1 ∧ fa_ok nt (w.1 49) (40 * a) 0 ∧ q = nI (fa_z (w.1 49) (40 * a) 0)) ∨ (g = nI 0 ∧ ¬ fa_ok nt (w.1 49) (40 * a) 0)) → fb_AW tX8_acts X 67 [some (.ref 46), some (.int (nI j)), some (.int (nI a)), some (.int (nI (p / 4))), some (.int q), some (.int g), some (.int (nI 0)), none] [] w) _ _ (Or.inl ⟨rfl, fun k hk => by omega, rfl⟩)
          refine fb_loop (fun i => ∀ g q, ((g = nI 1 ∧ fa_ok nt (w.1 49) (40 * a) i ∧ q = nI (fa_z (w.1 49) (40 * a) i)) ∨ (g = nI 0 ∧ ¬ fa_ok nt (w.1 49) (40 * a) i)) → fb_AW tX8_acts X 67 [some (.ref 46), some (.int (nI j)), some (.int (nI a)), some (.int (nI (p / 4))), some (.int q), some (.int g), some (.int (nI i)), none] [] w) (p / 4) ?_ (fun i hi ih => ?_) 0 (Nat.zero_le _)
          · intro g q hb
            rcases hb with ⟨rfl, hb⟩ | ⟨rfl, hb⟩
            · refine fw_iload h rfl rfl ?_
              refine fw_iload_n h rfl rfl ?_
              refine fw_icmp_ge h rfl (fun c70 => ?_) (fun c70 => False.elim (c70 (Int32.le_refl _)))
              refine fw_iload h rfl rfl ?_
              refine fw_if_eq h rfl (fun c => absurd c (by decide)) (fun _ => ?_)
              have hz := fp_cnt_le (fun k => decide (w.1 49 (40 * a + 4 * k + 3) = 0)) (p / 4)
              rw [hb.2]
              refine fw_iload h rfl rfl ?_
              refine fw_iconst h (nI 5) rfl (by decide) ?_
              refine fw_icmp_le h rfl (fun c186 => ?_) (fun c186 => ?_)
              · have hz5 : fa_z (w.1 49) (40 * a) (p / 4) ≤ 5 := (nI_leI (by show fp_cnt _ _ < _; omega) (by decide)).mp c186
                refine fw_aload_n h rfl rfl ?_
                refine fw_getR _ h rfl fk_g_X8_50 rfl rfl ?_
                refine fw_iload_n h rfl rfl ?_
                refine fw_iconst h (nI 0) rfl (by decide) ?_
                refine fn_iast h rfl rfl (by omega) rfl ?_
                refine fw_iconst h (nI 0) rfl (by decide) ?_
                refine fw_istore h [_, _, _, _, _, _, _, _] rfl rfl rfl rfl ?_
                refine fb_loop (fun i => fb_AW tX8_acts X 205 [some (.ref 46), some (.int (nI j)), some (.int (nI a)), some (.int (nI (p / 4))), some (.int (nI (fa_z (w.1 49) (40 * a) (p / 4)))), some (.int (nI 1)), some (.int (nI i)), none] [] (fp_pw w j (w.1 49) (40 * a) i)) (p / 4) ?_ (fun i hi ih => ?_) 0 (Nat.zero_le _)
                · refine fw_iload h rfl rfl ?_
                  refine fw_iload_n h rfl rfl ?_
                  refine fw_icmp_ge h rfl (fun c208 => ?_) (fun c208 => False.elim (c208 (Int32.le_refl _)))
                  refine fw_iload_n h rfl rfl ?_
                  exact fw_iret h rfl rfl ⟨_, rfl, hg j a p hj rfl ha rfl hp40 ep h4 hb.1 (by omega)⟩
                · refine fw_iload h rfl rfl ?_
                  refine fw_iload_n h rfl rfl ?_
                  refine fw_icmp_ge h rfl (fun c208 => False.elim (nI_ge hi (by omega) c208)) (fun c208 => ?_)
                  refine fw_bipush h (nI 40) rfl (by decide) ?_
                  refine fw_iload_n h rfl rfl ?_
                  first | refine fn_imul h rfl ?_ | refine fw_imul h rfl ?_
                  refine fw_iconst h (nI 4) rfl (by decide) ?_
                  refine fw_iload h rfl rfl ?_
                  first | refine fn_imul h rfl ?_ | refine fw_imul h rfl ?_
                  first | refine fn_iadd h rfl ?_ | refine fw_iadd h rfl ?_
                  refine fw_istore h [_, _, _, _, _, _, _, _] rfl rfl rfl rfl ?_
                  refine fw_aload_n h rfl rfl ?_
                  refine fw_iload_n h rfl rfl ?_
                  refine fw_aload_n h rfl rfl ?_
                  refine fw_getR _ h rfl fk_g_X8_20 rfl rfl ?_
                  refine fw_iload h rfl rfl ?_
                  refine fn_ialdF (w.1 49) h rfl rfl (fp_pw_ne _ _ _ _ (by decide) _) (by omega) rfl ?_
                  refine fw_aload_n h rfl rfl ?_
                  refine fw_getR _ h rfl fk_g_X8_20 rfl rfl ?_
                  refine fw_iload h rfl rfl ?_
                  refine fw_iconst h (nI 1) rfl (by decide) ?_
                  first | refine fn_iadd h rfl ?_ | refine fw_iadd h rfl ?_
                  refine fn_ialdF (w.1 49) h rfl rfl (fp_pw_ne _ _ _ _ (by decide) _) (by omega) rfl ?_
                  refine fw_aload_n h rfl rfl ?_
                  refine fw_getR _ h rfl fk_g_X8_20 rfl rfl ?_
                  refine fw_iload h rfl rfl ?_
                  refine fw_iconst h (nI 2) rfl (by decide) ?_
                  first | refine fn_iadd h rfl ?_ | refine fw_iadd h rfl ?_
                  refine fn_ialdF (w.1 49) h rfl rfl (fp_pw_ne _ _ _ _ (by decide) _) (by omega) rfl ?_
                  refine fw_aload_n h rfl rfl ?_
                  refine fw_getR _ h rfl fk_g_X8_20 rfl rfl ?_
                  refine fw_iload h rfl rfl ?_
                  refine fw_iconst h (nI 3) rfl (by decide) ?_
                  first | refine fn_iadd h rfl ?_ | refine fw_iadd h rfl ?_
                  refine fn_ialdF (w.1 49) h rfl rfl (fp_pw_ne _ _ _ _ (by decide) _) (by omega) rfl ?_
                  refine fw_iconst h (nI 1) rfl (by decide) ?_
                  refine fw_icmp_ne h rfl (fun c259 => ?_) (fun c259 => ?_)
                  · have ez : fa_s (w.1 49) (40 * a) i = nI 0 := if_neg c259
                    refine fw_iconst h (nI 0) rfl (by decide) ?_
                    refine fw_v5V h rfl fk_v_X8_put fk_l_X8_172 rfl rfl rfl rfl ?_
                    refine c_X8_put (by omega) (fp_pw_59 _ _ _ _ i) (by omega) (by first | exact Or.inl rfl | exact Or.inr rfl) (fun b2 hb2 hb3 => ?_)
                    have eb : fa_b (w.1 49) (40 * a) i = b2 := by
                      by_cases z : w.1 49 (40 * a + 4 * i) = 1
                      · rw [hb2 z]; exact if_pos z
                      · rw [hb3 z]; exact if_neg z
                    first | refine fn_iinc h [_, _, _, _, _, _, _, _] rfl rfl rfl rfl rfl ?_ | refine fw_iinc h 1 [_, _, _, _, _, _, _, _] rfl (by decide) rfl rfl rfl rfl ?_
                    refine fw_goto h rfl ?_
                    refine fw_sub (fb_pad_c (Or.inr rfl) (fb_pad_c (Or.inr rfl) (fb_pad_c (Or.inr rfl) (fb_pad_c (Or.inr rfl) (fb_pad_c (Or.inr rfl) (fb_pad_c (Or.inr rfl) (fb_pad_c (Or.inr rfl) (fb_pad_c (Or.inl rfl) (fb_pad_n))))))))) ?_
                    rw [fp_pw, eb, ez] at ih
                    exact ih
                  · have ez : fa_s (w.1 49) (40 * a) i = nI 1 := if_pos c259
                    refine fw_iconst h (nI 1) rfl (by decide) ?_
                    refine fw_goto h rfl ?_
                    refine fw_v5V h rfl fk_v_X8_put fk_l_X8_172 rfl rfl rfl rfl ?_
                    refine c_X8_put (by omega) (fp_pw_59 _ _ _ _ i) (by omega) (by first | exact Or.inl rfl | exact Or.inr rfl) (fun b2 hb2 hb3 => ?_)
                    have eb : fa_b (w.1 49) (40 * a) i = b2 := by
                      by_cases z : w.1 49 (40 * a + 4 * i) = 1
                      · rw [hb2 z]; exact if_pos z
                      · rw [hb3 z]; exact if_neg z
                    first | refine fn_iinc h [_, _, _, _, _, _, _, _] rfl rfl rfl rfl rfl ?_ | refine fw_iinc h 1 [_, _, _, _, _, _, _, _] rfl (by decide) rfl rfl rfl rfl ?_
                    refine fw_goto h rfl ?_
                    refine fw_sub (fb_pad_c (Or.inr rfl) (fb_pad_c (Or.inr rfl) (fb_pad_c (Or.inr rfl) (fb_pad_c (Or.inr rfl) (fb_pad_c (Or.inr rfl) (fb_pad_c (Or.inr rfl) (fb_pad_c (Or.inr rfl) (fb_pad_c (Or.inl rfl) (fb_pad_n))))))))) ?_
                    rw [fp_pw, eb, ez] at ih
                    exact ih
              · refine fw_aload_n h rfl rfl ?_
                refine fw_iconst h (nI 3) rfl (by decide) ?_
                refine fw_v1I h rfl fk_v_X8_meets fk_l_X8_117 rfl rfl rfl rfl ?_
                refine c_X8_meets (by decide) ?_
                exact fw_iret h rfl rfl ⟨_, rfl, hu j a p hj rfl ha rfl hp40 ep h4 (fun z => c186 (nI_le z.2 (by decide)))⟩
            · refine fw_iload h rfl rfl ?_
              refine fw_iload_n h rfl rfl ?_
              refine fw_icmp_ge h rfl (fun c70 => ?_) (fun c70 => False.elim (c70 (Int32.le_refl _)))
              refine fw_iload h rfl rfl ?_
              refine fw_if_eq h rfl (fun _ => ?_) (fun c => absurd c (by decide))
              refine fw_aload_n h rfl rfl ?_
              refine fw_iconst h (nI 3) rfl (by decide) ?_
              refine fw_v1I h rfl fk_v_X8_meets fk_l_X8_117 rfl rfl rfl rfl ?_
              refine c_X8_meets (by decide) ?_
              exact fw_iret h rfl rfl ⟨_, rfl, hu j a p hj rfl ha rfl hp40 ep h4 (fun z => hb z.1)⟩
          · intro g q hb
            rcases hb with ⟨rfl, hb⟩ | ⟨rfl, hb⟩
            · refine fw_iload h rfl rfl ?_
              refine fw_iload_n h rfl rfl ?_
              refine fw_icmp_ge h rfl (fun c70 => False.elim (nI_ge hi (by omega) c70)) (fun c70 => ?_)
              refine fw_bipush h (nI 40) rfl (by decide) ?_
              refine fw_iload_n h rfl rfl ?_
              first | refine fn_imul h rfl ?_ | refine fw_imul h rfl ?_
              refine fw_iconst h (nI 4) rfl (by decide) ?_
              refine fw_iload h rfl rfl ?_
              first | refine fn_imul h rfl ?_ | refine fw_imul h rfl ?_
              first | refine fn_iadd h rfl ?_ | refine fw_iadd h rfl ?_
              refine fw_istore h [_, _, _, _, _, _, _, _] rfl rfl rfl rfl ?_
              refine fw_iload h rfl rfl ?_
              refine fw_if_eq h rfl (fun c => absurd c (by decide)) (fun _ => ?_)
              refine fw_aload_n h rfl rfl ?_
              refine fw_aload_n h rfl rfl ?_
              refine fw_getR _ h rfl fk_g_X8_20 rfl rfl ?_
              refine fw_iload h rfl rfl ?_
              refine fn_ialdF (w.1 49) h rfl rfl (rfl) (by omega) rfl ?_
              refine fw_aload_n h rfl rfl ?_
              refine fw_getR _ h rfl fk_g_X8_20 rfl rfl ?_
              refine fw_iload h rfl rfl ?_
              refine fw_iconst h (nI 1) rfl (by decide) ?_
              first | refine fn_iadd h rfl ?_ | refine fw_iadd h rfl ?_
              refine fn_ialdF (w.1 49) h rfl rfl (rfl) (by omega) rfl ?_
              refine fw_aload_n h rfl rfl ?_
              refine fw_getR _ h rfl fk_g_X8_20 rfl rfl ?_
              refine fw_iload h rfl rfl ?_
              refine fw_iconst h (nI 2) rfl (by decide) ?_
              first | refine fn_iadd h rfl ?_ | refine fw_iadd h rfl ?_
              refine fn_ialdF (w.1 49) h rfl rfl (rfl) (by omega) rfl ?_
              refine fw_v3I h rfl fk_v_X8_mayBe fk_l_X8_166 rfl rfl rfl rfl ?_
              refine c_X8_mayBe hN.1.1 (by have := hN.1.2; omega) (fun c115 => ?_) (fun c115 => ?_)
              · refine fw_if_eq h rfl (fun c => absurd c (by decide)) (fun _ => ?_)
                refine fw_aload_n h rfl rfl ?_
                refine fw_getR _ h rfl fk_g_X8_20 rfl rfl ?_
                refine fw_iload h rfl rfl ?_
                refine fw_iconst h (nI 3) rfl (by decide) ?_
                first | refine fn_iadd h rfl ?_ | refine fw_iadd h rfl ?_
                refine fn_ialdF (w.1 49) h rfl rfl (rfl) (by omega) rfl ?_
                refine fw_iconst h (nI 0) rfl (by decide) ?_
                refine fw_iconst h (nI 1) rfl (by decide) ?_
                refine fw_s3I h rfl fk_s_X8_in fk_l_X8_109 rfl rfl ?_
                refine c_X8_in (fun c132a c132b => ?_) (fun c132 => ?_)
                · refine fw_if_eq h rfl (fun c => absurd c (by decide)) (fun _ => ?_)
                  have h1 : fa_1 nt (w.1 49) (40 * a) i := ⟨c115, c132a, c132b⟩
                  obtain ⟨hb, rfl⟩ := hb
                  · refine fw_iconst h (nI 1) rfl (by decide) ?_
                    refine fw_goto h rfl ?_
                    refine fw_istore h [_, _, _, _, _, _, _, _] rfl rfl rfl rfl ?_
                    skip
                    refine fw_iload h rfl rfl ?_
                    refine fw_iload h rfl rfl ?_
                    refine fw_if_eq h rfl (fun c => absurd c (by decide)) (fun _ => ?_)
                    refine fw_aload_n h rfl rfl ?_
                    refine fw_getR _ h rfl fk_g_X8_20 rfl rfl ?_
                    refine fw_iload h rfl rfl ?_
                    refine fw_iconst h (nI 3) rfl (by decide) ?_
                    first | refine fn_iadd h rfl ?_ | refine fw_iadd h rfl ?_
                    refine fn_ialdF (w.1 49) h rfl rfl (rfl) (by omega) rfl ?_
                    refine fw_if_ne h rfl (fun c161 => ?_) (fun c161 => ?_)
                    · have ez : fa_z (w.1 49) (40 * a) (i + 1) = fa_z (w.1 49) (40 * a) i + 0 := fp_cnt_0 (decide_eq_false c161)
                      · refine fw_iconst h (nI 0) rfl (by decide) ?_
                        first | refine fn_iadd h rfl ?_ | refine fw_iadd h rfl ?_
                        refine fw_istore h [_, _, _, _, _, _, _, _] rfl rfl rfl rfl ?_
                        first | refine fn_iinc h [_, _, _, _, _, _, _, _] rfl rfl rfl rfl rfl ?_ | refine fw_iinc h 1 [_, _, _, _, _, _, _, _] rfl (by decide) rfl rfl rfl rfl ?_
                        refine fw_goto h rfl ?_
                        refine fw_sub (fb_pad_c (Or.inr rfl) (fb_pad_c (Or.inr rfl) (fb_pad_c (Or.inr rfl) (fb_pad_c (Or.inr rfl) (fb_pad_c (Or.inr rfl) (fb_pad_c (Or.inr rfl) (fb_pad_c (Or.inr rfl) (fb_pad_c (Or.inl rfl) (fb_pad_n))))))))) (ih _ _ (Or.inl ⟨rfl, fa_ok_s hb h1, congrArg nI ez.symm⟩))
                    · have ez : fa_z (w.1 49) (40 * a) (i + 1) = fa_z (w.1 49) (40 * a) i + 1 := fp_cnt_1 (decide_eq_true c161)
                      · refine fw_iconst h (nI 1) rfl (by decide) ?_
                        refine fw_goto h rfl ?_
                        first | refine fn_iadd h rfl ?_ | refine fw_iadd h rfl ?_
                        refine fw_istore h [_, _, _, _, _, _, _, _] rfl rfl rfl rfl ?_
                        first | refine fn_iinc h [_, _, _, _, _, _, _, _] rfl rfl rfl rfl rfl ?_ | refine fw_iinc h 1 [_, _, _, _, _, _, _, _] rfl (by decide) rfl rfl rfl rfl ?_
                        refine fw_goto h rfl ?_
                        refine fw_sub (fb_pad_c (Or.inr rfl) (fb_pad_c (Or.inr rfl) (fb_pad_c (Or.inr rfl) (fb_pad_c (Or.inr rfl) (fb_pad_c (Or.inr rfl) (fb_pad_c (Or.inr rfl) (fb_pad_c (Or.inr rfl) (fb_pad_c (Or.inl rfl) (fb_pad_n))))))))) (ih _ _ (Or.inl ⟨rfl, fa_ok_s hb h1, congrArg nI ez.symm⟩))
                · refine fw_if_eq h rfl (fun _ => ?_) (fun c => absurd c (by decide))
                  have h1 : ¬ fa_1 nt (w.1 49) (40 * a) i := fun z => by first | exact c115 z.1 | exact c132 z.2
                  · refine fw_iconst h (nI 0) rfl (by decide) ?_
                    refine fw_istore h [_, _, _, _, _, _, _, _] rfl rfl rfl rfl ?_
                    skip
                    refine fw_iload h rfl rfl ?_
                    refine fw_iload h rfl rfl ?_
                    refine fw_if_eq h rfl (fun _ => ?_) (fun c => absurd c (by decide))
                    refine fw_iconst h (nI 0) rfl (by decide) ?_
                    first | refine fn_iadd h rfl ?_ | refine fw_iadd h rfl ?_
                    refine fw_istore h [_, _, _, _, _, _, _, _] rfl rfl rfl rfl ?_
                    first | refine fn_iinc h [_, _, _, _, _, _, _, _] rfl rfl rfl rfl rfl ?_ | refine fw_iinc h 1 [_, _, _, _, _, _, _, _] rfl (by decide) rfl rfl rfl rfl ?_
                    refine fw_goto h rfl ?_
                    refine fw_sub (fb_pad_c (Or.inr rfl) (fb_pad_c (Or.inr rfl) (fb_pad_c (Or.inr rfl) (fb_pad_c (Or.inr rfl) (fb_pad_c (Or.inr rfl) (fb_pad_c (Or.inr rfl) (fb_pad_c (Or.inr rfl) (fb_pad_c (Or.inl rfl) (fb_pad_n))))))))) (ih _ _ (Or.inr ⟨rfl, fa_ok_m h1⟩))
              · refine fw_if_eq h rfl (fun _ => ?_) (fun c => absurd c (by decide))
                have h1 : ¬ fa_1 nt (w.1 49) (40 * a) i := fun z => by first | exact c115 z.1 | exact c132 z.2
                · refine fw_iconst h (nI 0) rfl (by decide) ?_
                  refine fw_istore h [_, _, _, _, _, _, _, _] rfl rfl rfl rfl ?_
                  skip
                  refine fw_iload h rfl rfl ?_
                  refine fw_iload h rfl rfl ?_
                  refine fw_if_eq h rfl (fun _ => ?_) (fun c => absurd c (by decide))
                  refine fw_iconst h (nI 0) rfl (by decide) ?_
                  first | refine fn_iadd h rfl ?_ | refine fw_iadd h rfl ?_
                  refine fw_istore h [_, _, _, _, _, _, _, _] rfl rfl rfl rfl ?_
                  first | refine fn_iinc h [_, _, _, _, _, _, _, _] rfl rfl rfl rfl rfl ?_ | refine fw_iinc h 1 [_, _, _, _, _, _, _, _] rfl (by decide) rfl rfl rfl rfl ?_
                  refine fw_goto h rfl ?_
                  refine fw_sub (fb_pad_c (Or.inr rfl) (fb_pad_c (Or.inr rfl) (fb_pad_c (Or.inr rfl) (fb_pad_c (Or.inr rfl) (fb_pad_c (Or.inr rfl) (fb_pad_c (Or.inr rfl) (fb_pad_c (Or.inr rfl) (fb_pad_c (Or.inl rfl) (fb_pad_n))))))))) (ih _ _ (Or.inr ⟨rfl, fa_ok_m h1⟩))
            · refine fw_iload h rfl rfl ?_
              refine fw_iload_n h rfl rfl ?_
              refine fw_icmp_ge h rfl (fun c70 => False.elim (nI_ge hi (by omega) c70)) (fun c70 => ?_)
              refine fw_bipush h (nI 40) rfl (by decide) ?_
              refine fw_iload_n h rfl rfl ?_
              first | refine fn_imul h rfl ?_ | refine fw_imul h rfl ?_
              refine fw_iconst h (nI 4) rfl (by decide) ?_
              refine fw_iload h rfl rfl ?_
              first | refine fn_imul h rfl ?_ | refine fw_imul h rfl ?_
              first | refine fn_iadd h rfl ?_ | refine fw_iadd h rfl ?_
              refine fw_istore h [_, _, _, _, _, _, _, _] rfl rfl rfl rfl ?_
              refine fw_iload h rfl rfl ?_
              refine fw_if_eq h rfl (fun _ => ?_) (fun c => absurd c (by decide))
              refine fw_iconst h (nI 0) rfl (by decide) ?_
              refine fw_istore h [_, _, _, _, _, _, _, _] rfl rfl rfl rfl ?_
              refine fw_iload h rfl rfl ?_
              refine fw_iload h rfl rfl ?_
              refine fw_if_eq h rfl (fun _ => ?_) (fun c => absurd c (by decide))
              refine fw_iconst h (nI 0) rfl (by decide) ?_
              first | refine fn_iadd h rfl ?_ | refine fw_iadd h rfl ?_
              refine fw_istore h [_, _, _, _, _, _, _, _] rfl rfl rfl rfl ?_
              first | refine fn_iinc h [_, _, _, _, _, _, _, _] rfl rfl rfl rfl rfl ?_ | refine fw_iinc h 1 [_, _, _, _, _, _, _, _] rfl (by decide) rfl rfl rfl rfl ?_
              refine fw_goto h rfl ?_
              refine fw_sub (fb_pad_c (Or.inr rfl) (fb_pad_c (Or.inr rfl) (fb_pad_c (Or.inr rfl) (fb_pad_c (Or.inr rfl) (fb_pad_c (Or.inr rfl) (fb_pad_c (Or.inr rfl) (fb_pad_c (Or.inr rfl) (fb_pad_c (Or.inl rfl) (fb_pad_n))))))))) (ih _ _ (Or.inr ⟨rfl, fa_ok_n hb⟩))
        · refine fw_aload_n h rfl rfl ?_
          refine fw_iconst h (nI 5) rfl (by decide) ?_
          refine fw_v1I h rfl fk_v_X8_meets fk_l_X8_117 rfl rfl rfl rfl ?_
          refine c_X8_meets (by decide) ?_
          exact fw_iret h rfl rfl ⟨_, rfl, h5 j a p hj rfl ha rfl hp40 ep (fun z => c40 (by rw [z]; rfl))⟩
      · refine fw_aload_n h rfl rfl ?_
        refine fw_iconst h (nI 1) rfl (by decide) ?_
        refine fw_v1I h rfl fk_v_X8_meets fk_l_X8_117 rfl rfl rfl rfl ?_
        refine c_X8_meets (by decide) ?_
        exact fw_iret h rfl rfl ⟨_, rfl, h1 j a hj rfl ha rfl (Int32.not_le.mp c23)⟩
    · refine fw_if_ne h rfl (fun c => absurd c (by decide)) (fun _ => ?_)
      refine fw_iconst h (-1) rfl (by decide) ?_
      exact fw_iret h rfl rfl ⟨_, rfl, hb (fun z => by first | exact c2 z.1 | exact c9 z.2)⟩
  · refine fw_if_eq h rfl (fun _ => ?_) (fun c => absurd c (by decide))
    refine fw_iconst h (-1) rfl (by decide) ?_
    exact fw_iret h rfl rfl ⟨_, rfl, hb (fun z => by first | exact c2 z.1 | exact c9 z.2)⟩
