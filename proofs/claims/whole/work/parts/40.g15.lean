def fp_w1 (w : fb_Wd) (s : Nat) : Nat → fb_Wd
  | 0 => w
  | k + 1 => fb_up (fp_w1 w s k) 50 k (w.1 49 (s + k))
def fp_w2 (w : fb_Wd) (t : Nat) : Nat → fb_Wd
  | 0 => w
  | k + 1 => fb_up (fp_w2 w t k) 49 (t + k) (w.1 50 k)
theorem fb_up_ne (w : fb_Wd) {c c2 : Nat} (k : Nat) (x : Int32) (h : ¬ c2 = c) : (fb_up w c k x).1 c2 = w.1 c2 := by
  funext b
  simp [fb_up, h]
theorem fb_up_eq (w : fb_Wd) (c k : Nat) (x : Int32) : (fb_up w c k x).1 c = upd (w.1 c) k x := by
  funext b
  simp [fb_up, upd]
theorem fp_w1_ne (w : fb_Wd) (s : Nat) {c : Nat} (h : ¬ c = 50) : ∀ k, (fp_w1 w s k).1 c = w.1 c
  | 0 => rfl
  | k + 1 => by rw [fp_w1, fb_up_ne _ _ _ h, fp_w1_ne w s h k]
theorem fp_w1_2 (w : fb_Wd) (s : Nat) : ∀ k, (fp_w1 w s k).2 = w.2
  | 0 => rfl
  | k + 1 => (fp_w1_2 w s k)
theorem fp_w1_at (w : fb_Wd) (s : Nat) : ∀ k j, j < k → (fp_w1 w s k).1 50 j = w.1 49 (s + j)
  | 0, j, h => by omega
  | k + 1, j, h => by
    rw [fp_w1, fb_up_eq]
    by_cases e : j = k
    · subst e; exact pk_us
    · rw [pk_un e]; exact fp_w1_at w s k j (by omega)
theorem fp_w2_ne (w : fb_Wd) (s : Nat) {c : Nat} (h : ¬ c = 49) : ∀ k, (fp_w2 w s k).1 c = w.1 c
  | 0 => rfl
  | k + 1 => by rw [fp_w2, fb_up_ne _ _ _ h, fp_w2_ne w s h k]
theorem fp_w2_2 (w : fb_Wd) (s : Nat) : ∀ k, (fp_w2 w s k).2 = w.2
  | 0 => rfl
  | k + 1 => (fp_w2_2 w s k)
theorem fp_w2_at (w : fb_Wd) (t : Nat) : ∀ k j, (fp_w2 w t k).1 49 j = if t ≤ j ∧ j < t + k then w.1 50 (j - t) else w.1 49 j
  | 0, j => by rw [fp_w2, if_neg (by omega)]
  | k + 1, j => by
    rw [fp_w2, fb_up_eq]
    by_cases e : j = t + k
    · subst e
      rw [pk_us, if_pos ⟨by omega, by omega⟩, show t + k - t = k by omega]
    · rw [pk_un e, fp_w2_at w t k j]
      by_cases h : t ≤ j ∧ j < t + k
      · rw [if_pos h, if_pos ⟨h.1, by omega⟩]
      · rw [if_neg h, if_neg (by omega)]
theorem fs_lg {a b : Nat} (ha : a < 2 ^ 62) (hb : b < 2 ^ 62) : 0 < lg_cmp (lN a) (lN b) ↔ b < a := by
  unfold lg_cmp
  by_cases h : b < a
  · have h1 : lN b < lN a := (pk_lLT (by omega) (by omega)).mpr h
    rw [if_pos h1]
    exact ⟨fun _ => h, fun _ => by decide⟩
  · have h1 : ¬ lN b < lN a := fun z => h ((pk_lLT (by omega) (by omega)).mp z)
    rw [if_neg h1]
    refine ⟨fun z => ?_, fun z => absurd z h⟩
    split at z
    · exact absurd z (by decide)
    · exact absurd z (by decide)
theorem fs_lg2 {a b : Nat} (ha : a < 2 ^ 62) (hb : b < 2 ^ 62) : lg_cmp (lN a) (lN b) ≤ 0 ↔ ¬ b < a := by
  rw [← fs_lg ha hb]
  exact (Int32.not_lt).symm
theorem c_X8_copy {l : Launch} {w : fb_Wd} {P : Int32 → fb_Wd → Prop} {r i to j n : Int32} (hsz : fm_sz w) (h1 : ¬ ((0 ≤ r ∧ r ≤ 5) ∧ 0 ≤ to ∧ to ≤ 5) → P (-1) w) (h2 : (0 ≤ r ∧ r ≤ 5) → (0 ≤ to ∧ to ≤ 5) → n < 0 → P (-3) (fb_up (fb_up w 46 0 (nI 5)) 47 5 (w.1 47 5 + 1))) (h3 : ∀ a b, a < 6 → b < 6 → r = nI a → to = nI b → 0 ≤ n → (w.1 48 a < 0 ∨ w.1 48 b < 0) → P (-3) (fb_up (fb_up w 46 0 (nI 1)) 47 1 (w.1 47 1 + 1))) (h4 : ∀ a b p q m, a < 6 → b < 6 → r = nI a → to = nI b → p ≤ 40 → q ≤ 40 → w.1 48 a = nI p → w.1 48 b = nI q → m < 2 ^ 31 → n = nI m → ¬ (∃ x y, i = nI x ∧ j = nI y ∧ x + m ≤ p ∧ y + m ≤ q) → P (-3) (fb_up (fb_up w 46 0 (nI 2)) 47 2 (w.1 47 2 + 1))) (h5 : ∀ a b p q x y m, a < 6 → b < 6 → r = nI a → to = nI b → p ≤ 40 → q ≤ 40 → w.1 48 a = nI p → w.1 48 b = nI q → i = nI x → j = nI y → n = nI m → x + m ≤ p → y + m ≤ q → P 1 (fp_w2 (fp_w1 w (40 * a + x) m) (40 * b + y) m)) : fb_Can l tX8_copy [.ref 46, .int r, .int i, .int to, .int j, .int n] w (fb_kI P) := by
  refine fb_intro 1 fk_t_X8_copy (by decide) rfl (fun X hX h => ?_)
  subst hX
  change fb_AW tX8_copy X 0 [some (.ref 46), some (.int r), some (.int i), some (.int to), some (.int j), some (.int n), none] [] w
  refine fw_iload_n h rfl rfl ?_
  refine fw_s1I h rfl fk_s_X8_isRow fk_l_X8_113 rfl rfl ?_
  refine c_X8_isRow (fun c1a c1b => ?_) (fun c1 => ?_)
  · refine fw_if_eq h rfl (fun c => absurd c (by decide)) (fun _ => ?_)
    refine fw_iload_n h rfl rfl ?_
    refine fw_s1I h rfl fk_s_X8_isRow fk_l_X8_113 rfl rfl ?_
    refine c_X8_isRow (fun c8a c8b => ?_) (fun c8 => ?_)
    · refine fw_if_ne h rfl (fun _ => ?_) (fun c => absurd c (by decide))
      refine fw_iload h rfl rfl ?_
      refine fw_if_ge h rfl (fun c18 => ?_) (fun c18 => ?_)
      · obtain ⟨a, ha5, ea⟩ := nI_ofle (n := 5) c1a c1b (by decide)
        obtain ⟨b, hb5, eb⟩ := nI_ofle (n := 5) c8a c8b (by decide)
        subst ea; subst eb
        have ha : a < 6 := by omega
        have hb : b < 6 := by omega
        obtain ⟨m, hm, em⟩ := nI_of (Int32.not_lt.mpr c18)
        subst em
        refine fw_aload_n h rfl rfl ?_
        refine fw_getR _ h rfl fk_g_X8_17 rfl rfl ?_
        refine fw_iload_n h rfl rfl ?_
        refine fn_iald h rfl rfl (by omega) rfl ?_
        refine fw_if_lt h rfl (fun c33 => ?_) (fun c33 => ?_)
        · refine fw_aload_n h rfl rfl ?_
          refine fw_iconst h (nI 1) rfl (by decide) ?_
          refine fw_v1I h rfl fk_v_X8_meets fk_l_X8_117 rfl rfl rfl rfl ?_
          refine c_X8_meets (by decide) ?_
          exact fw_iret h rfl rfl ⟨_, rfl, h3 a b ha hb rfl rfl (nI_pos' hm) (by first | exact Or.inl c33 | exact Or.inr (Int32.not_le.mp c42))⟩
        · refine fw_aload_n h rfl rfl ?_
          refine fw_getR _ h rfl fk_g_X8_17 rfl rfl ?_
          refine fw_iload_n h rfl rfl ?_
          refine fn_iald h rfl rfl (by omega) rfl ?_
          refine fw_if_ge h rfl (fun c42 => ?_) (fun c42 => ?_)
          · obtain ⟨p, hp40, ep⟩ : ∃ n, n ≤ 40 ∧ w.1 48 a = nI n := (hsz a ha).resolve_left (fun z => c33 (by rw [z]; decide))
            obtain ⟨q, hq40, eq⟩ : ∃ n, n ≤ 40 ∧ w.1 48 b = nI n := (hsz b hb).resolve_left (fun z => by rw [z] at c42; exact absurd c42 (by decide))
            refine fw_iload_n h rfl rfl ?_
            refine fw_if_lt h rfl (fun c52 => ?_) (fun c52 => ?_)
            · refine fw_aload_n h rfl rfl ?_
              refine fw_iconst h (nI 2) rfl (by decide) ?_
              refine fw_v1I h rfl fk_v_X8_meets fk_l_X8_117 rfl rfl rfl rfl ?_
              refine c_X8_meets (by decide) ?_
              exact fw_iret h rfl rfl ⟨_, rfl, h4 a b p q m ha hb rfl rfl hp40 hq40 ep eq hm rfl (by
    rintro ⟨x2, y2, z1, z2, z3, z4⟩
    first
      | exact absurd c52 (by rw [z1]; exact nI_pos (by omega))
      | exact absurd c57 (by rw [z2]; exact nI_pos (by omega))
      | (have e1 := (nI_eq (by omega) (by omega)).mp z1
         have z := (fs_lg (a := x + m) (b := p) (by omega) (by omega)).mp c74
         omega)
      | (have e1 := (nI_eq (by omega) (by omega)).mp z2
         exact c92 ((fs_lg2 (a := y + m) (b := q) (by omega) (by omega)).mpr (by omega))))⟩
            · refine fw_iload h rfl rfl ?_
              refine fw_if_lt h rfl (fun c57 => ?_) (fun c57 => ?_)
              · refine fw_aload_n h rfl rfl ?_
                refine fw_iconst h (nI 2) rfl (by decide) ?_
                refine fw_v1I h rfl fk_v_X8_meets fk_l_X8_117 rfl rfl rfl rfl ?_
                refine c_X8_meets (by decide) ?_
                exact fw_iret h rfl rfl ⟨_, rfl, h4 a b p q m ha hb rfl rfl hp40 hq40 ep eq hm rfl (by
    rintro ⟨x2, y2, z1, z2, z3, z4⟩
    first
      | exact absurd c52 (by rw [z1]; exact nI_pos (by omega))
      | exact absurd c57 (by rw [z2]; exact nI_pos (by omega))
      | (have e1 := (nI_eq (by omega) (by omega)).mp z1
         have z := (fs_lg (a := x + m) (b := p) (by omega) (by omega)).mp c74
         omega)
      | (have e1 := (nI_eq (by omega) (by omega)).mp z2
         exact c92 ((fs_lg2 (a := y + m) (b := q) (by omega) (by omega)).mpr (by omega))))⟩
              · obtain ⟨x, hx, ex⟩ := nI_of c52
                obtain ⟨y, hy, ey⟩ := nI_of c57
                subst ex; subst ey
                refine fw_iload_n h rfl rfl ?_
                refine fw_i2l h rfl ?_
                rw [nI_l hx]
                refine fw_iload h rfl rfl ?_
                refine fw_i2l h rfl ?_
                rw [nI_l hm]
                refine fw_ladd h rfl ?_
                rw [lN_add]
                refine fw_aload_n h rfl rfl ?_
                refine fw_getR _ h rfl fk_g_X8_17 rfl rfl ?_
                refine fw_iload_n h rfl rfl ?_
                refine fn_iald h rfl rfl (by omega) rfl ?_
                refine fw_i2l h rfl ?_
                rw [ep, nI_l (by omega)]
                refine fw_lcmp h rfl ?_
                refine fw_if_gt h rfl (fun c74 => ?_) (fun c74 => ?_)
                · refine fw_aload_n h rfl rfl ?_
                  refine fw_iconst h (nI 2) rfl (by decide) ?_
                  refine fw_v1I h rfl fk_v_X8_meets fk_l_X8_117 rfl rfl rfl rfl ?_
                  refine c_X8_meets (by decide) ?_
                  exact fw_iret h rfl rfl ⟨_, rfl, h4 a b p q m ha hb rfl rfl hp40 hq40 ep eq hm rfl (by
    rintro ⟨x2, y2, z1, z2, z3, z4⟩
    first
      | exact absurd c52 (by rw [z1]; exact nI_pos (by omega))
      | exact absurd c57 (by rw [z2]; exact nI_pos (by omega))
      | (have e1 := (nI_eq (by omega) (by omega)).mp z1
         have z := (fs_lg (a := x + m) (b := p) (by omega) (by omega)).mp c74
         omega)
      | (have e1 := (nI_eq (by omega) (by omega)).mp z2
         exact c92 ((fs_lg2 (a := y + m) (b := q) (by omega) (by omega)).mpr (by omega))))⟩
                · refine fw_iload h rfl rfl ?_
                  refine fw_i2l h rfl ?_
                  rw [nI_l hy]
                  refine fw_iload h rfl rfl ?_
                  refine fw_i2l h rfl ?_
                  rw [nI_l hm]
                  refine fw_ladd h rfl ?_
                  rw [lN_add]
                  refine fw_aload_n h rfl rfl ?_
                  refine fw_getR _ h rfl fk_g_X8_17 rfl rfl ?_
                  refine fw_iload_n h rfl rfl ?_
                  refine fn_iald h rfl rfl (by omega) rfl ?_
                  refine fw_i2l h rfl ?_
                  rw [eq, nI_l (by omega)]
                  refine fw_lcmp h rfl ?_
                  refine fw_if_le h rfl (fun c92 => ?_) (fun c92 => ?_)
                  · have hxp : x + m ≤ p := by
                      exact Nat.not_lt.mp (fun y => c74 ((fs_lg (a := x + m) (b := p) (by omega) (by omega)).mpr y))
                    have hyq : y + m ≤ q := by
                      have z := (fs_lg2 (a := y + m) (b := q) (by omega) (by omega)).mp c92
                      omega
                    refine fw_iconst h (nI 0) rfl (by decide) ?_
                    refine fw_istore h [_, _, _, _, _, _, _] rfl rfl rfl rfl ?_
                    refine fb_loop (fun i => fb_AW tX8_copy X 104 [some (.ref 46), some (.int (nI a)), some (.int (nI x)), some (.int (nI b)), some (.int (nI y)), some (.int (nI m)), some (.int (nI i))] [] (fp_w1 w (40 * a + x) i)) (m) ?_ (fun i hi ih => ?_) 0 (Nat.zero_le _)
                    · refine fw_iload h rfl rfl ?_
                      refine fw_iload h rfl rfl ?_
                      refine fw_icmp_ge h rfl (fun c108 => ?_) (fun c108 => False.elim (c108 (Int32.le_refl _)))
                      refine fw_iconst h (nI 0) rfl (by decide) ?_
                      refine fw_istore h [_, _, _, _, _, _, _] rfl rfl rfl rfl ?_
                      refine fb_loop (fun i => fb_AW tX8_copy X 141 [some (.ref 46), some (.int (nI a)), some (.int (nI x)), some (.int (nI b)), some (.int (nI y)), some (.int (nI m)), some (.int (nI i))] [] (fp_w2 (fp_w1 w (40 * a + x) m) (40 * b + y) i)) (m) ?_ (fun i hi ih => ?_) 0 (Nat.zero_le _)
                      · refine fw_iload h rfl rfl ?_
                        refine fw_iload h rfl rfl ?_
                        refine fw_icmp_ge h rfl (fun c145 => ?_) (fun c145 => False.elim (c145 (Int32.le_refl _)))
                        refine fw_iconst h (nI 1) rfl (by decide) ?_
                        exact fw_iret h rfl rfl ⟨_, rfl, h5 a b p q x y m ha hb rfl rfl hp40 hq40 ep eq rfl rfl rfl hxp hyq⟩
                      · refine fw_iload h rfl rfl ?_
                        refine fw_iload h rfl rfl ?_
                        refine fw_icmp_ge h rfl (fun c145 => False.elim (nI_ge hi (by omega) c145)) (fun c145 => ?_)
                        refine fw_aload_n h rfl rfl ?_
                        refine fw_getR _ h rfl fk_g_X8_20 rfl rfl ?_
                        refine fw_bipush h (nI 40) rfl (by decide) ?_
                        refine fw_iload_n h rfl rfl ?_
                        first | refine fn_imul h rfl ?_ | refine fw_imul h rfl ?_
                        refine fw_iload h rfl rfl ?_
                        first | refine fn_iadd h rfl ?_ | refine fw_iadd h rfl ?_
                        refine fw_iload h rfl rfl ?_
                        first | refine fn_iadd h rfl ?_ | refine fw_iadd h rfl ?_
                        refine fw_aload_n h rfl rfl ?_
                        refine fw_getR _ h rfl fk_g_X8_23 rfl rfl ?_
                        refine fw_iload h rfl rfl ?_
                        refine fn_ialdF ((fp_w1 w (40 * a + x) m).1 50) h rfl rfl (fp_w2_ne _ _ (by decide) _) (by omega) rfl ?_
                        refine fn_iast h rfl rfl (by omega) rfl ?_
                        first | refine fn_iinc h [_, _, _, _, _, _, _] rfl rfl rfl rfl rfl ?_ | refine fw_iinc h 1 [_, _, _, _, _, _, _] rfl (by decide) rfl rfl rfl rfl ?_
                        refine fw_goto h rfl ?_
                        exact ih
                    · refine fw_iload h rfl rfl ?_
                      refine fw_iload h rfl rfl ?_
                      refine fw_icmp_ge h rfl (fun c108 => False.elim (nI_ge hi (by omega) c108)) (fun c108 => ?_)
                      refine fw_aload_n h rfl rfl ?_
                      refine fw_getR _ h rfl fk_g_X8_23 rfl rfl ?_
                      refine fw_iload h rfl rfl ?_
                      refine fw_aload_n h rfl rfl ?_
                      refine fw_getR _ h rfl fk_g_X8_20 rfl rfl ?_
                      refine fw_bipush h (nI 40) rfl (by decide) ?_
                      refine fw_iload_n h rfl rfl ?_
                      first | refine fn_imul h rfl ?_ | refine fw_imul h rfl ?_
                      refine fw_iload_n h rfl rfl ?_
                      first | refine fn_iadd h rfl ?_ | refine fw_iadd h rfl ?_
                      refine fw_iload h rfl rfl ?_
                      first | refine fn_iadd h rfl ?_ | refine fw_iadd h rfl ?_
                      refine fn_ialdF (w.1 49) h rfl rfl (fp_w1_ne _ _ (by decide) _) (by omega) rfl ?_
                      refine fn_iast h rfl rfl (by omega) rfl ?_
                      first | refine fn_iinc h [_, _, _, _, _, _, _] rfl rfl rfl rfl rfl ?_ | refine fw_iinc h 1 [_, _, _, _, _, _, _] rfl (by decide) rfl rfl rfl rfl ?_
                      refine fw_goto h rfl ?_
                      exact ih
                  · refine fw_aload_n h rfl rfl ?_
                    refine fw_iconst h (nI 2) rfl (by decide) ?_
                    refine fw_v1I h rfl fk_v_X8_meets fk_l_X8_117 rfl rfl rfl rfl ?_
                    refine c_X8_meets (by decide) ?_
                    exact fw_iret h rfl rfl ⟨_, rfl, h4 a b p q m ha hb rfl rfl hp40 hq40 ep eq hm rfl (by
    rintro ⟨x2, y2, z1, z2, z3, z4⟩
    first
      | exact absurd c52 (by rw [z1]; exact nI_pos (by omega))
      | exact absurd c57 (by rw [z2]; exact nI_pos (by omega))
      | (have e1 := (nI_eq (by omega) (by omega)).mp z1
         have z := (fs_lg (a := x + m) (b := p) (by omega) (by omega)).mp c74
         omega)
      | (have e1 := (nI_eq (by omega) (by omega)).mp z2
         exact c92 ((fs_lg2 (a := y + m) (b := q) (by omega) (by omega)).mpr (by omega))))⟩
          · refine fw_aload_n h rfl rfl ?_
            refine fw_iconst h (nI 1) rfl (by decide) ?_
            refine fw_v1I h rfl fk_v_X8_meets fk_l_X8_117 rfl rfl rfl rfl ?_
            refine c_X8_meets (by decide) ?_
            exact fw_iret h rfl rfl ⟨_, rfl, h3 a b ha hb rfl rfl (nI_pos' hm) (by first | exact Or.inl c33 | exact Or.inr (Int32.not_le.mp c42))⟩
      · refine fw_aload_n h rfl rfl ?_
        refine fw_iconst h (nI 5) rfl (by decide) ?_
        refine fw_v1I h rfl fk_v_X8_meets fk_l_X8_117 rfl rfl rfl rfl ?_
        refine c_X8_meets (by decide) ?_
        exact fw_iret h rfl rfl ⟨_, rfl, h2 (And.intro c1a c1b) (And.intro c8a c8b) (Int32.not_le.mp c18)⟩
    · refine fw_if_ne h rfl (fun c => absurd c (by decide)) (fun _ => ?_)
      refine fw_iconst h (-1) rfl (by decide) ?_
      exact fw_iret h rfl rfl ⟨_, rfl, h1 (fun z => by first | exact c1 z.1 | exact c8 z.2)⟩
  · refine fw_if_eq h rfl (fun _ => ?_) (fun c => absurd c (by decide))
    refine fw_iconst h (-1) rfl (by decide) ?_
    exact fw_iret h rfl rfl ⟨_, rfl, h1 (fun z => by first | exact c1 z.1 | exact c8 z.2)⟩
def fo_it (f : Nat → Int32) : Nat → Int32 → Int32
  | 0, x => x
  | k + 1, x => if x = -9 then -9 else fo_it f k (f x.toNatClampNeg)
def fo_rk (f : Nat → Int32) (nt : Nat) (rk : Nat → Nat) : Prop := ∀ t u, t < nt → u < nt → f t = nI u → rk u < rk t
theorem fo_9 (f : Nat → Int32) : ∀ k, fo_it f k (-9) = -9
  | 0 => rfl
  | k + 1 => if_pos rfl
theorem fo_s {f : Nat → Int32} {u : Nat} (h : u < 2 ^ 31) (k : Nat) : fo_it f (k + 1) (nI u) = fo_it f k (f u) := by rw [fo_it, if_neg (nI_ne9 h), nI_clamp h]
theorem fo_ex {f : Nat → Int32} {u : Nat} {t : Int32} (h : u < 2 ^ 31) (hne : ¬ nI u = t) : (∃ k, fo_it f k (nI u) = t) ↔ ∃ k, fo_it f k (f u) = t := by
  constructor
  · rintro ⟨k, hk⟩
    cases k with
    | zero => exact absurd hk hne
    | succ k => exact ⟨k, by rw [← fo_s h]; exact hk⟩
  · rintro ⟨k, hk⟩
    exact ⟨k + 1, by rw [fo_s h]; exact hk⟩
theorem lp_on_0 {X : fb_Cx} {w : fb_Wd} {P : Int32 → fb_Wd → Prop} {o : Int32} {j nt : Nat} (h : fb_Ok tX8_on X (fb_kI P)) (hn : nt ≤ 20) (hj : j < nt) (hg : ¬ (∃ k, fo_it (mD w 4) k (-9) = nI j) → P (mD w 4 j) (fb_up w 55 j o)) : fb_AW tX8_on X 31 [some (.ref 46), some (.int (nI j)), some (.int o), some (.int (-9))] [] w := by
  refine fw_iload_n h rfl rfl ?_
  refine fw_bipush h (-9) rfl (by decide) ?_
  refine fw_icmp_eq h rfl (fun _ => ?_) (fun c => absurd c (by decide))
  refine fw_aload_n h rfl rfl ?_
  refine fw_getR _ h rfl fk_g_X8_38 rfl rfl ?_
  refine fw_iload_n h rfl rfl ?_
  refine fn_iald h rfl rfl (by omega) rfl ?_
  refine fw_istore_n h [_, _, _, _] rfl rfl rfl rfl ?_
  refine fw_aload_n h rfl rfl ?_
  refine fw_getR _ h rfl fk_g_X8_38 rfl rfl ?_
  refine fw_iload_n h rfl rfl ?_
  refine fw_iload_n h rfl rfl ?_
  refine fn_iast h rfl rfl (by omega) rfl ?_
  refine fw_iload_n h rfl rfl ?_
  exact fw_iret h rfl rfl ⟨_, rfl, hg (fun ⟨k, hk⟩ => by rw [fo_9] at hk; exact nI_ne9 (by omega) hk.symm)⟩
theorem lp_on {X : fb_Cx} {w : fb_Wd} {P : Int32 → fb_Wd → Prop} {o : Int32} {j nt : Nat} {rk : Nat → Nat} (h : fb_Ok tX8_on X (fb_kI P)) (hn : nt ≤ 20) (hj : j < nt) (hrk : fo_rk (mD w 4) nt rk) (h4 : ∀ t, t < nt → mD w 4 t = -9 ∨ ∃ u, u < nt ∧ mD w 4 t = nI u) : ∀ n v, v < nt → rk v = n → ((∃ k, fo_it (mD w 4) k (nI v) = nI j) → P (-4) w) → (¬ (∃ k, fo_it (mD w 4) k (nI v) = nI j) → P (mD w 4 j) (fb_up w 55 j o)) → fb_AW tX8_on X 31 [some (.ref 46), some (.int (nI j)), some (.int o), some (.int (nI v))] [] w := by
  intro n
  induction n using Nat.strongRecOn with
  | ind n IH =>
    intro v hv en hs hg
    subst en
    refine fw_iload_n h rfl rfl ?_
    refine fw_bipush h (-9) rfl (by decide) ?_
    refine fw_icmp_eq h rfl (fun c34 => False.elim (nI_ne9 (n := v) (by omega) c34)) (fun c34 => ?_)
    refine fw_iload_n h rfl rfl ?_
    refine fw_iload_n h rfl rfl ?_
    refine fw_icmp_ne h rfl (fun c39 => ?_) (fun c39 => ?_)
    · refine fw_aload_n h rfl rfl ?_
      refine fw_getR _ h rfl fk_g_X8_38 rfl rfl ?_
      refine fw_iload_n h rfl rfl ?_
      refine fn_iald h rfl rfl (by omega) rfl ?_
      have he := fo_ex (f := mD w 4) (t := nI j) (show v < 2 ^ 31 by omega) c39
      rcases h4 v hv with e | ⟨u, hu, e⟩
      · rw [show w.1 55 v = -9 from e]
        refine fw_istore_n h [_, _, _, _] rfl rfl rfl rfl ?_
        refine fw_goto h rfl ?_
        exact lp_on_0 h hn hj (fun z => hg (fun q => z (by have q2 := he.mp q; rw [e] at q2; exact q2)))
      · rw [show w.1 55 v = nI u from e]
        refine fw_istore_n h [_, _, _, _] rfl rfl rfl rfl ?_
        refine fw_goto h rfl ?_
        rw [e] at he
        exact IH (rk u) (hrk v u hv hu e) u hu rfl (fun q => hs (he.mpr q)) (fun q => hg (fun z => q (he.mp z)))
    · refine fw_bipush h (-4) rfl (by decide) ?_
      exact fw_iret h rfl rfl ⟨_, rfl, hs ⟨0, c39⟩⟩
theorem c_X8_on {l : Launch} {w : fb_Wd} {P : Int32 → fb_Wd → Prop} {nt nd nx ng : Nat} (hN : fd_N (mD w) nt nd nx ng) (hT : fd_T (mD w) nt) (hAA : ∀ d, d < nd → fd_A (mD w) nt d (fd_m (mD w) d)) {t o : Int32} {rk : Nat → Nat} (hrk : fo_rk (mD w 4) nt rk) (hb : ¬ ((∃ j, j < nt ∧ t = nI j) ∧ (o = -9 ∨ ∃ u, u < nt ∧ o = nI u ∧ ¬ o = t)) → P (-1) w) (hs : ∀ j, j < nt → t = nI j → (o = -9 ∨ ∃ u, u < nt ∧ o = nI u ∧ ¬ o = t) → (∃ k, fo_it (mD w 4) k o = nI j) → P (-4) w) (hg : ∀ j, j < nt → t = nI j → (o = -9 ∨ ∃ u, u < nt ∧ o = nI u ∧ ¬ o = t) → ¬ (∃ k, fo_it (mD w 4) k o = nI j) → P (mD w 4 j) (fb_up w 55 j o)) : fb_Can l tX8_on [.ref 46, .int t, .int o] w (fb_kI P) := by
  refine fb_intro 1 fk_t_X8_on (by decide) rfl (fun X hX h => ?_)
  subst hX
  change fb_AW tX8_on X 0 [some (.ref 46), some (.int t), some (.int o), none] [] w
  refine fw_aload_n h rfl rfl ?_
  refine fw_iload_n h rfl rfl ?_
  refine fw_v1I h rfl fk_v_X8_isThing fk_l_X8_130 rfl rfl rfl rfl ?_
  refine c_X8_isThing hN.1.1 hN.1.2 (fun j hj e => ?_) (fun c2 => ?_)
  · refine fw_if_eq h rfl (fun c => absurd c (by decide)) (fun _ => ?_)
    refine fw_iload_n h rfl rfl ?_
    refine fw_bipush h (-9) rfl (by decide) ?_
    refine fw_icmp_eq h rfl (fun c11 => ?_) (fun c11 => ?_)
    · refine fw_iload_n h rfl rfl ?_
      refine fw_istore_n h [_, _, _, _] rfl rfl rfl rfl ?_
      subst e
      have hnt := hN.1.2
      first
        | (subst c11
           exact lp_on_0 h hN.1.2 hj (fun q => hg j hj rfl (Or.inl rfl) q))
        | (subst eu
           exact lp_on h hN.1.2 hj hrk (fun t ht => (hT t ht).2.2.2.2) _ u hu rfl (fun q => hs j hj rfl (Or.inr ⟨u, hu, rfl, c24⟩) q) (fun q => hg j hj rfl (Or.inr ⟨u, hu, rfl, c24⟩) q))
    · refine fw_aload_n h rfl rfl ?_
      refine fw_iload_n h rfl rfl ?_
      refine fw_v1I h rfl fk_v_X8_isThing fk_l_X8_130 rfl rfl rfl rfl ?_
      refine c_X8_isThing hN.1.1 hN.1.2 (fun u hu eu => ?_) (fun c16 => ?_)
      · refine fw_if_eq h rfl (fun c => absurd c (by decide)) (fun _ => ?_)
        refine fw_iload_n h rfl rfl ?_
        refine fw_iload_n h rfl rfl ?_
        refine fw_icmp_ne h rfl (fun c24 => ?_) (fun c24 => ?_)
        · refine fw_iload_n h rfl rfl ?_
          refine fw_istore_n h [_, _, _, _] rfl rfl rfl rfl ?_
          subst e
          have hnt := hN.1.2
          first
            | (subst c11
               exact lp_on_0 h hN.1.2 hj (fun q => hg j hj rfl (Or.inl rfl) q))
            | (subst eu
               exact lp_on h hN.1.2 hj hrk (fun t ht => (hT t ht).2.2.2.2) _ u hu rfl (fun q => hs j hj rfl (Or.inr ⟨u, hu, rfl, c24⟩) q) (fun q => hg j hj rfl (Or.inr ⟨u, hu, rfl, c24⟩) q))
        · refine fw_iconst h (-1) rfl (by decide) ?_
          exact fw_iret h rfl rfl ⟨_, rfl, hb (fun z => by first | exact c2 z.1 | exact z.2.elim c11 (fun ⟨u2, q1, q2, q3⟩ => by first | exact c16 ⟨u2, q1, q2⟩ | exact q3 c24))⟩
      · refine fw_if_eq h rfl (fun _ => ?_) (fun c => absurd c (by decide))
        refine fw_iconst h (-1) rfl (by decide) ?_
        exact fw_iret h rfl rfl ⟨_, rfl, hb (fun z => by first | exact c2 z.1 | exact z.2.elim c11 (fun ⟨u2, q1, q2, q3⟩ => by first | exact c16 ⟨u2, q1, q2⟩ | exact q3 c24))⟩
  · refine fw_if_eq h rfl (fun _ => ?_) (fun c => absurd c (by decide))
    refine fw_iconst h (-1) rfl (by decide) ?_
    exact fw_iret h rfl rfl ⟨_, rfl, hb (fun z => by first | exact c2 z.1 | exact z.2.elim c11 (fun ⟨u2, q1, q2, q3⟩ => by first | exact c16 ⟨u2, q1, q2⟩ | exact q3 c24))⟩
theorem fx_nt {p : Prop} [Decidable p] (h : ¬ p) : (!decide p) = true := by rw [decide_eq_false h]; rfl
theorem fx_nf {p : Prop} [Decidable p] (h : p) : (!decide p) = false := by rw [decide_eq_true h]; rfl
def fs_ft (kd s : Int32) : Bool := if kd = nI 1 then decide (s = 0) else if kd = nI 2 then decide (s = nI 1) else !decide (s ≤ nI 1)
def fs_ma (D : Nat → Nat → Int32) (kd t : Int32) (d : Nat) : Nat → Bool
  | 0 => false
  | k + 1 => fs_ma D kd t d k || (fs_ft kd (D 9 (10 * d + k)) && decide (D 10 (10 * d + k) = t))
theorem fs_ma_1 {D : Nat → Nat → Int32} {kd t : Int32} {d k : Nat} (h : fs_ma D kd t d k = true) : fs_ma D kd t d (k + 1) = true := by rw [fs_ma, h]; rfl
theorem fs_ma_2 {D : Nat → Nat → Int32} {kd t : Int32} {d k : Nat} (h1 : fs_ft kd (D 9 (10 * d + k)) = true) (h2 : D 10 (10 * d + k) = t) : fs_ma D kd t d (k + 1) = true := by rw [fs_ma, h1, decide_eq_true h2]; simp
theorem fs_ma_3 {D : Nat → Nat → Int32} {kd t : Int32} {d k : Nat} (h : fs_ma D kd t d k = false) (h1 : fs_ft kd (D 9 (10 * d + k)) = false) : fs_ma D kd t d (k + 1) = false := by rw [fs_ma, h, h1]; rfl
theorem fs_ma_4 {D : Nat → Nat → Int32} {kd t : Int32} {d k : Nat} (h : fs_ma D kd t d k = false) (h1 : ¬ D 10 (10 * d + k) = t) : fs_ma D kd t d (k + 1) = false := by rw [fs_ma, h, decide_eq_false h1]; simp
theorem fs_ft_1 {kd s : Int32} (h : kd = nI 1) : fs_ft kd s = decide (s = 0) := if_pos h
theorem fs_ft_2 {kd s : Int32} (h1 : ¬ kd = nI 1) (h : kd = nI 2) : fs_ft kd s = decide (s = nI 1) := by unfold fs_ft; rw [if_neg h1, if_pos h]
theorem fs_ft_3 {kd s : Int32} (h1 : ¬ kd = nI 1) (h : ¬ kd = nI 2) : fs_ft kd s = !decide (s ≤ nI 1) := by unfold fs_ft; rw [if_neg h1, if_neg h]
theorem c_X8_mark {l : Launch} {w : fb_Wd} {P : Int32 → fb_Wd → Prop} {nt nd nx ng : Nat} (hN : fd_N (mD w) nt nd nx ng) (hT : fd_T (mD w) nt) (hAA : ∀ d, d < nd → fd_A (mD w) nt d (fd_m (mD w) d)) {t kd : Int32} (hb : ¬ ((∃ j, j < nt ∧ t = nI j) ∧ 1 ≤ kd ∧ kd ≤ 3) → P (-1) w) (hu : ∀ j, j < nt → t = nI j → 1 ≤ kd → kd ≤ 3 → ¬ (mD w 0 j = kd ∨ (kd = nI 1 ∧ mD w 0 j = nI 2)) → P (-3) (fb_up (fb_up w 46 0 (nI 3)) 47 3 (w.1 47 3 + 1))) (hg : ∀ j, j < nt → t = nI j → 1 ≤ kd → kd ≤ 3 → (mD w 0 j = kd ∨ (kd = nI 1 ∧ mD w 0 j = nI 2)) → P (nI (fp_cnt (fun d => fs_ma (mD w) kd (nI j) d (fd_m (mD w) d)) nd)) w) : fb_Can l tX8_mark [.ref 46, .int t, .int kd] w (fb_kI P) := by
  refine fb_intro 6 fk_t_X8_mark (by decide) rfl (fun X hX h => ?_)
  subst hX
  change fb_AW tX8_mark X 0 [some (.ref 46), some (.int t), some (.int kd), none, none, none, none, none, none] [] w
  refine fw_aload_n h rfl rfl ?_
  refine fw_iload_n h rfl rfl ?_
  refine fw_v1I h rfl fk_v_X8_isThing fk_l_X8_130 rfl rfl rfl rfl ?_
  refine c_X8_isThing hN.1.1 hN.1.2 (fun j hj e => ?_) (fun c2 => ?_)
  · refine fw_if_eq h rfl (fun c => absurd c (by decide)) (fun _ => ?_)
    refine fw_iload_n h rfl rfl ?_
    refine fw_iconst h (nI 1) rfl (by decide) ?_
    refine fw_iconst h (nI 3) rfl (by decide) ?_
    refine fw_s3I h rfl fk_s_X8_in fk_l_X8_109 rfl rfl ?_
    refine c_X8_in (fun c11a c11b => ?_) (fun c11 => ?_)
    · refine fw_if_ne h rfl (fun _ => ?_) (fun c => absurd c (by decide))
      subst e
      have hnt := hN.1.2
      have hnd := hN.2.1.2
      refine fw_aload_n h rfl rfl ?_
      refine fw_getR _ h rfl fk_g_X8_26 rfl rfl ?_
      refine fw_iload_n h rfl rfl ?_
      refine fn_ialdF (w.1 51) h rfl rfl (rfl) (by omega) rfl ?_
      refine fw_iload_n h rfl rfl ?_
      refine fw_icmp_eq h rfl (fun c26 => ?_) (fun c26 => ?_)
      · have hk : (mD w 0 j = kd ∨ (kd = nI 1 ∧ mD w 0 j = nI 2)) := by first | exact Or.inl c26 | exact Or.inr ⟨c31, c41⟩
        refine fw_iconst h (nI 0) rfl (by decide) ?_
        refine fw_istore_n h [_, _, _, _, _, _, _, _, _] rfl rfl rfl rfl ?_
        refine fw_iconst h (nI 0) rfl (by decide) ?_
        refine fw_istore h [_, _, _, _, _, _, _, _, _] rfl rfl rfl rfl ?_
        refine fb_loop (fun i => fb_AW tX8_mark X 55 [some (.ref 46), some (.int (nI j)), some (.int kd), some (.int (nI (fp_cnt (fun d => fs_ma (mD w) kd (nI j) d (fd_m (mD w) d)) i))), some (.int (nI i)), none, none, none, none] [] w) (nd) ?_ (fun i hi ih => ?_) 0 (Nat.zero_le _)
        · refine fw_iload h rfl rfl ?_
          refine fw_aload_n h rfl rfl ?_
          refine fw_getI h rfl fk_g_X8_150 rfl rfl ?_
          refine fw_icmp_ge h rfl (fun c61 => ?_) (fun c61 => False.elim (c61 (by rw [show w.1 46 14 = nI nd from hN.2.1.1]; exact Int32.le_refl _)))
          refine fw_iload_n h rfl rfl ?_
          exact fw_iret h rfl rfl ⟨_, rfl, hg j hj rfl c11a c11b hk⟩
        · refine fw_iload h rfl rfl ?_
          refine fw_aload_n h rfl rfl ?_
          refine fw_getI h rfl fk_g_X8_150 rfl rfl ?_
          refine fw_icmp_ge h rfl (fun c61 => False.elim (nI_ge hi (by omega) (by rw [← show w.1 46 14 = nI nd from hN.2.1.1]; exact c61))) (fun c61 => ?_)
          have hm : w.1 59 i = nI (fd_m (mD w) i) := (hAA i hi).1
          have hm10 := (hAA i hi).2.1
          refine fw_iconst h (nI 0) rfl (by decide) ?_
          refine fw_istore h [_, _, _, _, _, _, _, _, _] rfl rfl rfl rfl ?_
          refine fw_iconst h (nI 0) rfl (by decide) ?_
          refine fw_istore h [_, _, _, _, _, _, _, _, _] rfl rfl rfl rfl ?_
          refine (?_ : ∀ b, (b = nI 1 ∧ fs_ma (mD w) kd (nI j) i 0 = true ∨ b = nI 0 ∧ fs_ma (mD w) kd (nI j) i 0 = false) → fb_AW tX8_mark X 70 [some (.ref 46), some (.int (nI j)), some (.int kd), some (.int (nI (fp_cnt (fun d => fs_ma (mD w) kd (nI j) d (fd_m (mD w) d)) i))), some (.int (nI i)), some (.int b), some (.int (nI 0)), none, none] [] w) _ (Or.inr ⟨rfl, rfl⟩)
          refine fb_loop (fun k => ∀ b, (b = nI 1 ∧ fs_ma (mD w) kd (nI j) i k = true ∨ b = nI 0 ∧ fs_ma (mD w) kd (nI j) i k = false) → fb_AW tX8_mark X 70 [some (.ref 46), some (.int (nI j)), some (.int kd), some (.int (nI (fp_cnt (fun d => fs_ma (mD w) kd (nI j) d (fd_m (mD w) d)) i))), some (.int (nI i)), some (.int b), some (.int (nI k)), none, none] [] w) (fd_m (mD w) i) ?_ (fun k hk ihk => ?_) 0 (Nat.zero_le _)
          · intro b hb
            rcases hb with ⟨rfl, hb⟩ | ⟨rfl, hb⟩
            · refine fw_iload h rfl rfl ?_
              refine fw_aload_n h rfl rfl ?_
              refine fw_getR _ h rfl fk_g_X8_50 rfl rfl ?_
              refine fw_iload h rfl rfl ?_
              refine fn_iald h rfl rfl (by omega) rfl ?_
              refine fw_icmp_ge h rfl (fun c79 => ?_) (fun c79 => False.elim (c79 (by rw [hm]; exact Int32.le_refl _)))
              refine fw_iload_n h rfl rfl ?_
              refine fw_iload h rfl rfl ?_
              refine fw_if_eq h rfl (fun c => absurd c (by decide)) (fun _ => ?_)
              refine fw_iconst h (nI 1) rfl (by decide) ?_
              refine fw_goto h rfl ?_
              first | refine fn_iadd h rfl ?_ | refine fw_iadd h rfl ?_
              refine fw_istore_n h [_, _, _, _, _, _, _, _, _] rfl rfl rfl rfl ?_
              first | refine fn_iinc h [_, _, _, _, _, _, _, _, _] rfl rfl rfl rfl rfl ?_ | refine fw_iinc h 1 [_, _, _, _, _, _, _, _, _] rfl (by decide) rfl rfl rfl rfl ?_
              refine fw_goto h rfl ?_
              refine fw_sub (fb_pad_c (Or.inr rfl) (fb_pad_c (Or.inr rfl) (fb_pad_c (Or.inr rfl) (fb_pad_c (Or.inr rfl) (fb_pad_c (Or.inr rfl) (fb_pad_c (Or.inl rfl) (fb_pad_c (Or.inl rfl) (fb_pad_c (Or.inr rfl) (fb_pad_c (Or.inr rfl) (fb_pad_n)))))))))) ?_
              have ih2 := ih
              rw [show fp_cnt (fun d => fs_ma (mD w) kd (nI j) d (fd_m (mD w) d)) (i + 1) = fp_cnt (fun d => fs_ma (mD w) kd (nI j) d (fd_m (mD w) d)) i + 1 from fp_cnt_1 hb] at ih2
              exact ih2
            · refine fw_iload h rfl rfl ?_
              refine fw_aload_n h rfl rfl ?_
              refine fw_getR _ h rfl fk_g_X8_50 rfl rfl ?_
              refine fw_iload h rfl rfl ?_
              refine fn_iald h rfl rfl (by omega) rfl ?_
              refine fw_icmp_ge h rfl (fun c79 => ?_) (fun c79 => False.elim (c79 (by rw [hm]; exact Int32.le_refl _)))
              refine fw_iload_n h rfl rfl ?_
              refine fw_iload h rfl rfl ?_
              refine fw_if_eq h rfl (fun _ => ?_) (fun c => absurd c (by decide))
              refine fw_iconst h (nI 0) rfl (by decide) ?_
              first | refine fn_iadd h rfl ?_ | refine fw_iadd h rfl ?_
              refine fw_istore_n h [_, _, _, _, _, _, _, _, _] rfl rfl rfl rfl ?_
              first | refine fn_iinc h [_, _, _, _, _, _, _, _, _] rfl rfl rfl rfl rfl ?_ | refine fw_iinc h 1 [_, _, _, _, _, _, _, _, _] rfl (by decide) rfl rfl rfl rfl ?_
              refine fw_goto h rfl ?_
              refine fw_sub (fb_pad_c (Or.inr rfl) (fb_pad_c (Or.inr rfl) (fb_pad_c (Or.inr rfl) (fb_pad_c (Or.inr rfl) (fb_pad_c (Or.inr rfl) (fb_pad_c (Or.inl rfl) (fb_pad_c (Or.inl rfl) (fb_pad_c (Or.inr rfl) (fb_pad_c (Or.inr rfl) (fb_pad_n)))))))))) ?_
              have ih2 := ih
              rw [show fp_cnt (fun d => fs_ma (mD w) kd (nI j) d (fd_m (mD w) d)) (i + 1) = fp_cnt (fun d => fs_ma (mD w) kd (nI j) d (fd_m (mD w) d)) i + 0 from fp_cnt_0 hb] at ih2
              exact ih2
          · intro b hb
            rcases hb with ⟨rfl, hb⟩ | ⟨rfl, hb⟩
            · refine fw_iload h rfl rfl ?_
              refine fw_aload_n h rfl rfl ?_
              refine fw_getR _ h rfl fk_g_X8_50 rfl rfl ?_
              refine fw_iload h rfl rfl ?_
              refine fn_ialdF (w.1 59) h rfl rfl (rfl) (by omega) rfl ?_
              refine fw_icmp_ge h rfl (fun c79 => False.elim (by rw [hm] at c79; exact nI_ge hk (by omega) c79)) (fun c79 => ?_)
              refine fw_aload_n h rfl rfl ?_
              refine fw_getR _ h rfl fk_g_X8_53 rfl rfl ?_
              refine fw_bipush h (nI 10) rfl (by decide) ?_
              refine fw_iload h rfl rfl ?_
              first | refine fn_imul h rfl ?_ | refine fw_imul h rfl ?_
              refine fw_iload h rfl rfl ?_
              first | refine fn_iadd h rfl ?_ | refine fw_iadd h rfl ?_
              refine fn_ialdF (w.1 60) h rfl rfl (rfl) (by omega) rfl ?_
              refine fw_istore h [_, _, _, _, _, _, _, _, _] rfl rfl rfl rfl ?_
              refine fw_iload_n h rfl rfl ?_
              refine fw_iconst h (nI 1) rfl (by decide) ?_
              refine fw_icmp_ne h rfl (fun c99 => ?_) (fun c99 => ?_)
              · refine fw_iload_n h rfl rfl ?_
                refine fw_iconst h (nI 2) rfl (by decide) ?_
                refine fw_icmp_ne h rfl (fun c117 => ?_) (fun c117 => ?_)
                · refine fw_iload h rfl rfl ?_
                  refine fw_iconst h (nI 1) rfl (by decide) ?_
                  refine fw_icmp_le h rfl (fun c137 => ?_) (fun c137 => ?_)
                  · have hft := (fs_ft_3 c99 c117).trans (fx_nf c137)
                    refine fw_iconst h (nI 0) rfl (by decide) ?_
                    refine fw_istore h [_, _, _, _, _, _, _, _, _] rfl rfl rfl rfl ?_
                    refine fw_iload h rfl rfl ?_
                    refine fw_if_ne h rfl (fun _ => ?_) (fun c => absurd c (by decide))
                    skip
                    · refine fw_iconst h (nI 1) rfl (by decide) ?_
                      refine fw_goto h rfl ?_
                      refine fw_istore h [_, _, _, _, _, _, _, _, _] rfl rfl rfl rfl ?_
                      first | refine fn_iinc h [_, _, _, _, _, _, _, _, _] rfl rfl rfl rfl rfl ?_ | refine fw_iinc h 1 [_, _, _, _, _, _, _, _, _] rfl (by decide) rfl rfl rfl rfl ?_
                      refine fw_goto h rfl ?_
                      refine fw_sub (fb_pad_c (Or.inr rfl) (fb_pad_c (Or.inr rfl) (fb_pad_c (Or.inr rfl) (fb_pad_c (Or.inr rfl) (fb_pad_c (Or.inr rfl) (fb_pad_c (Or.inr rfl) (fb_pad_c (Or.inr rfl) (fb_pad_c (Or.inl rfl) (fb_pad_c (Or.inl rfl) (fb_pad_n)))))))))) (ihk _ (Or.inl ⟨rfl, by first | exact fs_ma_1 hb | exact fs_ma_2 hft c171⟩))
                  · have hft := (fs_ft_3 c99 c117).trans (fx_nt c137)
                    refine fw_iconst h (nI 1) rfl (by decide) ?_
                    refine fw_goto h rfl ?_
                    refine fw_istore h [_, _, _, _, _, _, _, _, _] rfl rfl rfl rfl ?_
                    refine fw_iload h rfl rfl ?_
                    refine fw_if_ne h rfl (fun _ => ?_) (fun c => absurd c (by decide))
                    skip
                    · refine fw_iconst h (nI 1) rfl (by decide) ?_
                      refine fw_goto h rfl ?_
                      refine fw_istore h [_, _, _, _, _, _, _, _, _] rfl rfl rfl rfl ?_
                      first | refine fn_iinc h [_, _, _, _, _, _, _, _, _] rfl rfl rfl rfl rfl ?_ | refine fw_iinc h 1 [_, _, _, _, _, _, _, _, _] rfl (by decide) rfl rfl rfl rfl ?_
                      refine fw_goto h rfl ?_
                      refine fw_sub (fb_pad_c (Or.inr rfl) (fb_pad_c (Or.inr rfl) (fb_pad_c (Or.inr rfl) (fb_pad_c (Or.inr rfl) (fb_pad_c (Or.inr rfl) (fb_pad_c (Or.inr rfl) (fb_pad_c (Or.inr rfl) (fb_pad_c (Or.inl rfl) (fb_pad_c (Or.inl rfl) (fb_pad_n)))))))))) (ihk _ (Or.inl ⟨rfl, by first | exact fs_ma_1 hb | exact fs_ma_2 hft c171⟩))
                · refine fw_iload h rfl rfl ?_
                  refine fw_iconst h (nI 1) rfl (by decide) ?_
                  refine fw_icmp_ne h rfl (fun c123 => ?_) (fun c123 => ?_)
                  · have hft := (fs_ft_2 c99 c117).trans (decide_eq_false c123)
                    refine fw_iconst h (nI 0) rfl (by decide) ?_
                    refine fw_goto h rfl ?_
                    refine fw_istore h [_, _, _, _, _, _, _, _, _] rfl rfl rfl rfl ?_
                    refine fw_iload h rfl rfl ?_
                    refine fw_if_ne h rfl (fun _ => ?_) (fun c => absurd c (by decide))
                    skip
                    · refine fw_iconst h (nI 1) rfl (by decide) ?_
                      refine fw_goto h rfl ?_
                      refine fw_istore h [_, _, _, _, _, _, _, _, _] rfl rfl rfl rfl ?_
                      first | refine fn_iinc h [_, _, _, _, _, _, _, _, _] rfl rfl rfl rfl rfl ?_ | refine fw_iinc h 1 [_, _, _, _, _, _, _, _, _] rfl (by decide) rfl rfl rfl rfl ?_
                      refine fw_goto h rfl ?_
                      refine fw_sub (fb_pad_c (Or.inr rfl) (fb_pad_c (Or.inr rfl) (fb_pad_c (Or.inr rfl) (fb_pad_c (Or.inr rfl) (fb_pad_c (Or.inr rfl) (fb_pad_c (Or.inr rfl) (fb_pad_c (Or.inr rfl) (fb_pad_c (Or.inl rfl) (fb_pad_c (Or.inl rfl) (fb_pad_n)))))))))) (ihk _ (Or.inl ⟨rfl, by first | exact fs_ma_1 hb | exact fs_ma_2 hft c171⟩))
                  · have hft := (fs_ft_2 c99 c117).trans (decide_eq_true c123)
                    refine fw_iconst h (nI 1) rfl (by decide) ?_
                    refine fw_goto h rfl ?_
                    refine fw_istore h [_, _, _, _, _, _, _, _, _] rfl rfl rfl rfl ?_
                    refine fw_iload h rfl rfl ?_
                    refine fw_if_ne h rfl (fun _ => ?_) (fun c => absurd c (by decide))
                    skip
                    · refine fw_iconst h (nI 1) rfl (by decide) ?_
                      refine fw_goto h rfl ?_
                      refine fw_istore h [_, _, _, _, _, _, _, _, _] rfl rfl rfl rfl ?_
                      first | refine fn_iinc h [_, _, _, _, _, _, _, _, _] rfl rfl rfl rfl rfl ?_ | refine fw_iinc h 1 [_, _, _, _, _, _, _, _, _] rfl (by decide) rfl rfl rfl rfl ?_
                      refine fw_goto h rfl ?_
                      refine fw_sub (fb_pad_c (Or.inr rfl) (fb_pad_c (Or.inr rfl) (fb_pad_c (Or.inr rfl) (fb_pad_c (Or.inr rfl) (fb_pad_c (Or.inr rfl) (fb_pad_c (Or.inr rfl) (fb_pad_c (Or.inr rfl) (fb_pad_c (Or.inl rfl) (fb_pad_c (Or.inl rfl) (fb_pad_n)))))))))) (ihk _ (Or.inl ⟨rfl, by first | exact fs_ma_1 hb | exact fs_ma_2 hft c171⟩))
              · refine fw_iload h rfl rfl ?_
                refine fw_if_ne h rfl (fun c104 => ?_) (fun c104 => ?_)
                · have hft := (fs_ft_1 c99).trans (decide_eq_false c104)
                  refine fw_iconst h (nI 0) rfl (by decide) ?_
                  refine fw_goto h rfl ?_
                  refine fw_istore h [_, _, _, _, _, _, _, _, _] rfl rfl rfl rfl ?_
                  refine fw_iload h rfl rfl ?_
                  refine fw_if_ne h rfl (fun _ => ?_) (fun c => absurd c (by decide))
                  skip
                  · refine fw_iconst h (nI 1) rfl (by decide) ?_
                    refine fw_goto h rfl ?_
                    refine fw_istore h [_, _, _, _, _, _, _, _, _] rfl rfl rfl rfl ?_
                    first | refine fn_iinc h [_, _, _, _, _, _, _, _, _] rfl rfl rfl rfl rfl ?_ | refine fw_iinc h 1 [_, _, _, _, _, _, _, _, _] rfl (by decide) rfl rfl rfl rfl ?_
                    refine fw_goto h rfl ?_
                    refine fw_sub (fb_pad_c (Or.inr rfl) (fb_pad_c (Or.inr rfl) (fb_pad_c (Or.inr rfl) (fb_pad_c (Or.inr rfl) (fb_pad_c (Or.inr rfl) (fb_pad_c (Or.inr rfl) (fb_pad_c (Or.inr rfl) (fb_pad_c (Or.inl rfl) (fb_pad_c (Or.inl rfl) (fb_pad_n)))))))))) (ihk _ (Or.inl ⟨rfl, by first | exact fs_ma_1 hb | exact fs_ma_2 hft c171⟩))
                · have hft := (fs_ft_1 c99).trans (decide_eq_true c104)
                  refine fw_iconst h (nI 1) rfl (by decide) ?_
                  refine fw_goto h rfl ?_
                  refine fw_istore h [_, _, _, _, _, _, _, _, _] rfl rfl rfl rfl ?_
                  refine fw_iload h rfl rfl ?_
                  refine fw_if_ne h rfl (fun _ => ?_) (fun c => absurd c (by decide))
                  skip
                  · refine fw_iconst h (nI 1) rfl (by decide) ?_
                    refine fw_goto h rfl ?_
                    refine fw_istore h [_, _, _, _, _, _, _, _, _] rfl rfl rfl rfl ?_
                    first | refine fn_iinc h [_, _, _, _, _, _, _, _, _] rfl rfl rfl rfl rfl ?_ | refine fw_iinc h 1 [_, _, _, _, _, _, _, _, _] rfl (by decide) rfl rfl rfl rfl ?_
                    refine fw_goto h rfl ?_
                    refine fw_sub (fb_pad_c (Or.inr rfl) (fb_pad_c (Or.inr rfl) (fb_pad_c (Or.inr rfl) (fb_pad_c (Or.inr rfl) (fb_pad_c (Or.inr rfl) (fb_pad_c (Or.inr rfl) (fb_pad_c (Or.inr rfl) (fb_pad_c (Or.inl rfl) (fb_pad_c (Or.inl rfl) (fb_pad_n)))))))))) (ihk _ (Or.inl ⟨rfl, by first | exact fs_ma_1 hb | exact fs_ma_2 hft c171⟩))
            · refine fw_iload h rfl rfl ?_
              refine fw_aload_n h rfl rfl ?_
              refine fw_getR _ h rfl fk_g_X8_50 rfl rfl ?_
              refine fw_iload h rfl rfl ?_
              refine fn_ialdF (w.1 59) h rfl rfl (rfl) (by omega) rfl ?_
              refine fw_icmp_ge h rfl (fun c79 => False.elim (by rw [hm] at c79; exact nI_ge hk (by omega) c79)) (fun c79 => ?_)
              refine fw_aload_n h rfl rfl ?_
              refine fw_getR _ h rfl fk_g_X8_53 rfl rfl ?_
              refine fw_bipush h (nI 10) rfl (by decide) ?_
              refine fw_iload h rfl rfl ?_
              first | refine fn_imul h rfl ?_ | refine fw_imul h rfl ?_
              refine fw_iload h rfl rfl ?_
              first | refine fn_iadd h rfl ?_ | refine fw_iadd h rfl ?_
              refine fn_ialdF (w.1 60) h rfl rfl (rfl) (by omega) rfl ?_
              refine fw_istore h [_, _, _, _, _, _, _, _, _] rfl rfl rfl rfl ?_
              refine fw_iload_n h rfl rfl ?_
              refine fw_iconst h (nI 1) rfl (by decide) ?_
              refine fw_icmp_ne h rfl (fun c99 => ?_) (fun c99 => ?_)
              · refine fw_iload_n h rfl rfl ?_
                refine fw_iconst h (nI 2) rfl (by decide) ?_
                refine fw_icmp_ne h rfl (fun c117 => ?_) (fun c117 => ?_)
                · refine fw_iload h rfl rfl ?_
                  refine fw_iconst h (nI 1) rfl (by decide) ?_
                  refine fw_icmp_le h rfl (fun c137 => ?_) (fun c137 => ?_)
                  · have hft := (fs_ft_3 c99 c117).trans (fx_nf c137)
                    refine fw_iconst h (nI 0) rfl (by decide) ?_
                    refine fw_istore h [_, _, _, _, _, _, _, _, _] rfl rfl rfl rfl ?_
                    refine fw_iload h rfl rfl ?_
                    refine fw_if_ne h rfl (fun c => absurd c (by decide)) (fun _ => ?_)
                    refine fw_iload h rfl rfl ?_
                    refine fw_if_eq h rfl (fun _ => ?_) (fun c => absurd c (by decide))
                    skip
                    · refine fw_iconst h (nI 0) rfl (by decide) ?_
                      refine fw_istore h [_, _, _, _, _, _, _, _, _] rfl rfl rfl rfl ?_
                      first | refine fn_iinc h [_, _, _, _, _, _, _, _, _] rfl rfl rfl rfl rfl ?_ | refine fw_iinc h 1 [_, _, _, _, _, _, _, _, _] rfl (by decide) rfl rfl rfl rfl ?_
                      refine fw_goto h rfl ?_
                      refine fw_sub (fb_pad_c (Or.inr rfl) (fb_pad_c (Or.inr rfl) (fb_pad_c (Or.inr rfl) (fb_pad_c (Or.inr rfl) (fb_pad_c (Or.inr rfl) (fb_pad_c (Or.inr rfl) (fb_pad_c (Or.inr rfl) (fb_pad_c (Or.inl rfl) (fb_pad_c (Or.inl rfl) (fb_pad_n)))))))))) (ihk _ (Or.inr ⟨rfl, by first | exact fs_ma_3 hb hft | exact fs_ma_4 hb c171⟩))
                  · have hft := (fs_ft_3 c99 c117).trans (fx_nt c137)
                    refine fw_iconst h (nI 1) rfl (by decide) ?_
                    refine fw_goto h rfl ?_
                    refine fw_istore h [_, _, _, _, _, _, _, _, _] rfl rfl rfl rfl ?_
                    refine fw_iload h rfl rfl ?_
                    refine fw_if_ne h rfl (fun c => absurd c (by decide)) (fun _ => ?_)
                    refine fw_iload h rfl rfl ?_
                    refine fw_if_eq h rfl (fun c => absurd c (by decide)) (fun _ => ?_)
                    refine fw_aload_n h rfl rfl ?_
                    refine fw_getR _ h rfl fk_g_X8_56 rfl rfl ?_
                    refine fw_bipush h (nI 10) rfl (by decide) ?_
                    refine fw_iload h rfl rfl ?_
                    first | refine fn_imul h rfl ?_ | refine fw_imul h rfl ?_
                    refine fw_iload h rfl rfl ?_
                    first | refine fn_iadd h rfl ?_ | refine fw_iadd h rfl ?_
                    refine fn_ialdF (w.1 61) h rfl rfl (rfl) (by omega) rfl ?_
                    refine fw_iload_n h rfl rfl ?_
                    refine fw_icmp_ne h rfl (fun c171 => ?_) (fun c171 => ?_)
                    · skip
                      · refine fw_iconst h (nI 0) rfl (by decide) ?_
                        refine fw_istore h [_, _, _, _, _, _, _, _, _] rfl rfl rfl rfl ?_
                        first | refine fn_iinc h [_, _, _, _, _, _, _, _, _] rfl rfl rfl rfl rfl ?_ | refine fw_iinc h 1 [_, _, _, _, _, _, _, _, _] rfl (by decide) rfl rfl rfl rfl ?_
                        refine fw_goto h rfl ?_
                        refine fw_sub (fb_pad_c (Or.inr rfl) (fb_pad_c (Or.inr rfl) (fb_pad_c (Or.inr rfl) (fb_pad_c (Or.inr rfl) (fb_pad_c (Or.inr rfl) (fb_pad_c (Or.inr rfl) (fb_pad_c (Or.inr rfl) (fb_pad_c (Or.inl rfl) (fb_pad_c (Or.inl rfl) (fb_pad_n)))))))))) (ihk _ (Or.inr ⟨rfl, by first | exact fs_ma_3 hb hft | exact fs_ma_4 hb c171⟩))
                    · skip
                      · refine fw_iconst h (nI 1) rfl (by decide) ?_
                        refine fw_goto h rfl ?_
                        refine fw_istore h [_, _, _, _, _, _, _, _, _] rfl rfl rfl rfl ?_
                        first | refine fn_iinc h [_, _, _, _, _, _, _, _, _] rfl rfl rfl rfl rfl ?_ | refine fw_iinc h 1 [_, _, _, _, _, _, _, _, _] rfl (by decide) rfl rfl rfl rfl ?_
                        refine fw_goto h rfl ?_
                        refine fw_sub (fb_pad_c (Or.inr rfl) (fb_pad_c (Or.inr rfl) (fb_pad_c (Or.inr rfl) (fb_pad_c (Or.inr rfl) (fb_pad_c (Or.inr rfl) (fb_pad_c (Or.inr rfl) (fb_pad_c (Or.inr rfl) (fb_pad_c (Or.inl rfl) (fb_pad_c (Or.inl rfl) (fb_pad_n)))))))))) (ihk _ (Or.inl ⟨rfl, by first | exact fs_ma_1 hb | exact fs_ma_2 hft c171⟩))
                · refine fw_iload h rfl rfl ?_
                  refine fw_iconst h (nI 1) rfl (by decide) ?_
                  refine fw_icmp_ne h rfl (fun c123 => ?_) (fun c123 => ?_)
                  · have hft := (fs_ft_2 c99 c117).trans (decide_eq_false c123)
                    refine fw_iconst h (nI 0) rfl (by decide) ?_
                    refine fw_goto h rfl ?_
                    refine fw_istore h [_, _, _, _, _, _, _, _, _] rfl rfl rfl rfl ?_
                    refine fw_iload h rfl rfl ?_
                    refine fw_if_ne h rfl (fun c => absurd c (by decide)) (fun _ => ?_)
                    refine fw_iload h rfl rfl ?_
                    refine fw_if_eq h rfl (fun _ => ?_) (fun c => absurd c (by decide))
                    skip
                    · refine fw_iconst h (nI 0) rfl (by decide) ?_
                      refine fw_istore h [_, _, _, _, _, _, _, _, _] rfl rfl rfl rfl ?_
                      first | refine fn_iinc h [_, _, _, _, _, _, _, _, _] rfl rfl rfl rfl rfl ?_ | refine fw_iinc h 1 [_, _, _, _, _, _, _, _, _] rfl (by decide) rfl rfl rfl rfl ?_
                      refine fw_goto h rfl ?_
                      refine fw_sub (fb_pad_c (Or.inr rfl) (fb_pad_c (Or.inr rfl) (fb_pad_c (Or.inr rfl) (fb_pad_c (Or.inr rfl) (fb_pad_c (Or.inr rfl) (fb_pad_c (Or.inr rfl) (fb_pad_c (Or.inr rfl) (fb_pad_c (Or.inl rfl) (fb_pad_c (Or.inl rfl) (fb_pad_n)))))))))) (ihk _ (Or.inr ⟨rfl, by first | exact fs_ma_3 hb hft | exact fs_ma_4 hb c171⟩))
                  · have hft := (fs_ft_2 c99 c117).trans (decide_eq_true c123)
                    refine fw_iconst h (nI 1) rfl (by decide) ?_
                    refine fw_goto h rfl ?_
                    refine fw_istore h [_, _, _, _, _, _, _, _, _] rfl rfl rfl rfl ?_
                    refine fw_iload h rfl rfl ?_
                    refine fw_if_ne h rfl (fun c => absurd c (by decide)) (fun _ => ?_)
                    refine fw_iload h rfl rfl ?_
                    refine fw_if_eq h rfl (fun c => absurd c (by decide)) (fun _ => ?_)
                    refine fw_aload_n h rfl rfl ?_
                    refine fw_getR _ h rfl fk_g_X8_56 rfl rfl ?_
                    refine fw_bipush h (nI 10) rfl (by decide) ?_
                    refine fw_iload h rfl rfl ?_
                    first | refine fn_imul h rfl ?_ | refine fw_imul h rfl ?_
                    refine fw_iload h rfl rfl ?_
                    first | refine fn_iadd h rfl ?_ | refine fw_iadd h rfl ?_
                    refine fn_ialdF (w.1 61) h rfl rfl (rfl) (by omega) rfl ?_
                    refine fw_iload_n h rfl rfl ?_
                    refine fw_icmp_ne h rfl (fun c171 => ?_) (fun c171 => ?_)
                    · skip
                      · refine fw_iconst h (nI 0) rfl (by decide) ?_
                        refine fw_istore h [_, _, _, _, _, _, _, _, _] rfl rfl rfl rfl ?_
                        first | refine fn_iinc h [_, _, _, _, _, _, _, _, _] rfl rfl rfl rfl rfl ?_ | refine fw_iinc h 1 [_, _, _, _, _, _, _, _, _] rfl (by decide) rfl rfl rfl rfl ?_
                        refine fw_goto h rfl ?_
                        refine fw_sub (fb_pad_c (Or.inr rfl) (fb_pad_c (Or.inr rfl) (fb_pad_c (Or.inr rfl) (fb_pad_c (Or.inr rfl) (fb_pad_c (Or.inr rfl) (fb_pad_c (Or.inr rfl) (fb_pad_c (Or.inr rfl) (fb_pad_c (Or.inl rfl) (fb_pad_c (Or.inl rfl) (fb_pad_n)))))))))) (ihk _ (Or.inr ⟨rfl, by first | exact fs_ma_3 hb hft | exact fs_ma_4 hb c171⟩))
                    · skip
                      · refine fw_iconst h (nI 1) rfl (by decide) ?_
                        refine fw_goto h rfl ?_
                        refine fw_istore h [_, _, _, _, _, _, _, _, _] rfl rfl rfl rfl ?_
                        first | refine fn_iinc h [_, _, _, _, _, _, _, _, _] rfl rfl rfl rfl rfl ?_ | refine fw_iinc h 1 [_, _, _, _, _, _, _, _, _] rfl (by decide) rfl rfl rfl rfl ?_
                        refine fw_goto h rfl ?_
                        refine fw_sub (fb_pad_c (Or.inr rfl) (fb_pad_c (Or.inr rfl) (fb_pad_c (Or.inr rfl) (fb_pad_c (Or.inr rfl) (fb_pad_c (Or.inr rfl) (fb_pad_c (Or.inr rfl) (fb_pad_c (Or.inr rfl) (fb_pad_c (Or.inl rfl) (fb_pad_c (Or.inl rfl) (fb_pad_n)))))))))) (ihk _ (Or.inl ⟨rfl, by first | exact fs_ma_1 hb | exact fs_ma_2 hft c171⟩))
              · refine fw_iload h rfl rfl ?_
                refine fw_if_ne h rfl (fun c104 => ?_) (fun c104 => ?_)
                · have hft := (fs_ft_1 c99).trans (decide_eq_false c104)
                  refine fw_iconst h (nI 0) rfl (by decide) ?_
                  refine fw_goto h rfl ?_
                  refine fw_istore h [_, _, _, _, _, _, _, _, _] rfl rfl rfl rfl ?_
                  refine fw_iload h rfl rfl ?_
                  refine fw_if_ne h rfl (fun c => absurd c (by decide)) (fun _ => ?_)
                  refine fw_iload h rfl rfl ?_
                  refine fw_if_eq h rfl (fun _ => ?_) (fun c => absurd c (by decide))
                  skip
                  · refine fw_iconst h (nI 0) rfl (by decide) ?_
                    refine fw_istore h [_, _, _, _, _, _, _, _, _] rfl rfl rfl rfl ?_
                    first | refine fn_iinc h [_, _, _, _, _, _, _, _, _] rfl rfl rfl rfl rfl ?_ | refine fw_iinc h 1 [_, _, _, _, _, _, _, _, _] rfl (by decide) rfl rfl rfl rfl ?_
                    refine fw_goto h rfl ?_
                    refine fw_sub (fb_pad_c (Or.inr rfl) (fb_pad_c (Or.inr rfl) (fb_pad_c (Or.inr rfl) (fb_pad_c (Or.inr rfl) (fb_pad_c (Or.inr rfl) (fb_pad_c (Or.inr rfl) (fb_pad_c (Or.inr rfl) (fb_pad_c (Or.inl rfl) (fb_pad_c (Or.inl rfl) (fb_pad_n)))))))))) (ihk _ (Or.inr ⟨rfl, by first | exact fs_ma_3 hb hft | exact fs_ma_4 hb c171⟩))
                · have hft := (fs_ft_1 c99).trans (decide_eq_true c104)
                  refine fw_iconst h (nI 1) rfl (by decide) ?_
                  refine fw_goto h rfl ?_
                  refine fw_istore h [_, _, _, _, _, _, _, _, _] rfl rfl rfl rfl ?_
                  refine fw_iload h rfl rfl ?_
                  refine fw_if_ne h rfl (fun c => absurd c (by decide)) (fun _ => ?_)
                  refine fw_iload h rfl rfl ?_
                  refine fw_if_eq h rfl (fun c => absurd c (by decide)) (fun _ => ?_)
                  refine fw_aload_n h rfl rfl ?_
                  refine fw_getR _ h rfl fk_g_X8_56 rfl rfl ?_
                  refine fw_bipush h (nI 10) rfl (by decide) ?_
                  refine fw_iload h rfl rfl ?_
                  first | refine fn_imul h rfl ?_ | refine fw_imul h rfl ?_
                  refine fw_iload h rfl rfl ?_
                  first | refine fn_iadd h rfl ?_ | refine fw_iadd h rfl ?_
                  refine fn_ialdF (w.1 61) h rfl rfl (rfl) (by omega) rfl ?_
                  refine fw_iload_n h rfl rfl ?_
                  refine fw_icmp_ne h rfl (fun c171 => ?_) (fun c171 => ?_)
                  · skip
                    · refine fw_iconst h (nI 0) rfl (by decide) ?_
                      refine fw_istore h [_, _, _, _, _, _, _, _, _] rfl rfl rfl rfl ?_
                      first | refine fn_iinc h [_, _, _, _, _, _, _, _, _] rfl rfl rfl rfl rfl ?_ | refine fw_iinc h 1 [_, _, _, _, _, _, _, _, _] rfl (by decide) rfl rfl rfl rfl ?_
                      refine fw_goto h rfl ?_
                      refine fw_sub (fb_pad_c (Or.inr rfl) (fb_pad_c (Or.inr rfl) (fb_pad_c (Or.inr rfl) (fb_pad_c (Or.inr rfl) (fb_pad_c (Or.inr rfl) (fb_pad_c (Or.inr rfl) (fb_pad_c (Or.inr rfl) (fb_pad_c (Or.inl rfl) (fb_pad_c (Or.inl rfl) (fb_pad_n)))))))))) (ihk _ (Or.inr ⟨rfl, by first | exact fs_ma_3 hb hft | exact fs_ma_4 hb c171⟩))
                  · skip
                    · refine fw_iconst h (nI 1) rfl (by decide) ?_
                      refine fw_goto h rfl ?_
                      refine fw_istore h [_, _, _, _, _, _, _, _, _] rfl rfl rfl rfl ?_
                      first | refine fn_iinc h [_, _, _, _, _, _, _, _, _] rfl rfl rfl rfl rfl ?_ | refine fw_iinc h 1 [_, _, _, _, _, _, _, _, _] rfl (by decide) rfl rfl rfl rfl ?_
                      refine fw_goto h rfl ?_
                      refine fw_sub (fb_pad_c (Or.inr rfl) (fb_pad_c (Or.inr rfl) (fb_pad_c (Or.inr rfl) (fb_pad_c (Or.inr rfl) (fb_pad_c (Or.inr rfl) (fb_pad_c (Or.inr rfl) (fb_pad_c (Or.inr rfl) (fb_pad_c (Or.inl rfl) (fb_pad_c (Or.inl rfl) (fb_pad_n)))))))))) (ihk _ (Or.inl ⟨rfl, by first | exact fs_ma_1 hb | exact fs_ma_2 hft c171⟩))
      · refine fw_iload_n h rfl rfl ?_
        refine fw_iconst h (nI 1) rfl (by decide) ?_
        refine fw_icmp_ne h rfl (fun c31 => ?_) (fun c31 => ?_)
        · refine fw_aload_n h rfl rfl ?_
          refine fw_iconst h (nI 3) rfl (by decide) ?_
          refine fw_v1I h rfl fk_v_X8_meets fk_l_X8_117 rfl rfl rfl rfl ?_
          refine c_X8_meets (by decide) ?_
          exact fw_iret h rfl rfl ⟨_, rfl, hu j hj rfl c11a c11b (fun z => z.elim c26 (fun y => by first | exact c31 y.1 | exact c41 y.2))⟩
        · refine fw_aload_n h rfl rfl ?_
          refine fw_getR _ h rfl fk_g_X8_26 rfl rfl ?_
          refine fw_iload_n h rfl rfl ?_
          refine fn_ialdF (w.1 51) h rfl rfl (rfl) (by omega) rfl ?_
          refine fw_iconst h (nI 2) rfl (by decide) ?_
          refine fw_icmp_eq h rfl (fun c41 => ?_) (fun c41 => ?_)
          · have hk : (mD w 0 j = kd ∨ (kd = nI 1 ∧ mD w 0 j = nI 2)) := by first | exact Or.inl c26 | exact Or.inr ⟨c31, c41⟩
            refine fw_iconst h (nI 0) rfl (by decide) ?_
            refine fw_istore_n h [_, _, _, _, _, _, _, _, _] rfl rfl rfl rfl ?_
            refine fw_iconst h (nI 0) rfl (by decide) ?_
            refine fw_istore h [_, _, _, _, _, _, _, _, _] rfl rfl rfl rfl ?_
            refine fb_loop (fun i => fb_AW tX8_mark X 55 [some (.ref 46), some (.int (nI j)), some (.int kd), some (.int (nI (fp_cnt (fun d => fs_ma (mD w) kd (nI j) d (fd_m (mD w) d)) i))), some (.int (nI i)), none, none, none, none] [] w) (nd) ?_ (fun i hi ih => ?_) 0 (Nat.zero_le _)
            · refine fw_iload h rfl rfl ?_
              refine fw_aload_n h rfl rfl ?_
              refine fw_getI h rfl fk_g_X8_150 rfl rfl ?_
              refine fw_icmp_ge h rfl (fun c61 => ?_) (fun c61 => False.elim (c61 (by rw [show w.1 46 14 = nI nd from hN.2.1.1]; exact Int32.le_refl _)))
              refine fw_iload_n h rfl rfl ?_
              exact fw_iret h rfl rfl ⟨_, rfl, hg j hj rfl c11a c11b hk⟩
            · refine fw_iload h rfl rfl ?_
              refine fw_aload_n h rfl rfl ?_
              refine fw_getI h rfl fk_g_X8_150 rfl rfl ?_
              refine fw_icmp_ge h rfl (fun c61 => False.elim (nI_ge hi (by omega) (by rw [← show w.1 46 14 = nI nd from hN.2.1.1]; exact c61))) (fun c61 => ?_)
              have hm : w.1 59 i = nI (fd_m (mD w) i) := (hAA i hi).1
              have hm10 := (hAA i hi).2.1
              refine fw_iconst h (nI 0) rfl (by decide) ?_
              refine fw_istore h [_, _, _, _, _, _, _, _, _] rfl rfl rfl rfl ?_
              refine fw_iconst h (nI 0) rfl (by decide) ?_
              refine fw_istore h [_, _, _, _, _, _, _, _, _] rfl rfl rfl rfl ?_
              refine (?_ : ∀ b, (b = nI 1 ∧ fs_ma (mD w) kd (nI j) i 0 = true ∨ b = nI 0 ∧ fs_ma (mD w) kd (nI j) i 0 = false) → fb_AW tX8_mark X 70 [some (.ref 46), some (.int (nI j)), some (.int kd), some (.int (nI (fp_cnt (fun d => fs_ma (mD w) kd (nI j) d (fd_m (mD w) d)) i))), some (.int (nI i)), some (.int b), some (.int (nI 0)), none, none] [] w) _ (Or.inr ⟨rfl, rfl⟩)
              refine fb_loop (fun k => ∀ b, (b = nI 1 ∧ fs_ma (mD w) kd (nI j) i k = true ∨ b = nI 0 ∧ fs_ma (mD w) kd (nI j) i k = false) → fb_AW tX8_mark X 70 [some (.ref 46), some (.int (nI j)), some (.int kd), some (.int (nI (fp_cnt (fun d => fs_ma (mD w) kd (nI j) d (fd_m (mD w) d)) i))), some (.int (nI i)), some (.int b), some (.int (nI k)), none, none] [] w) (fd_m (mD w) i) ?_ (fun k hk ihk => ?_) 0 (Nat.zero_le _)
              · intro b hb
                rcases hb with ⟨rfl, hb⟩ | ⟨rfl, hb⟩
                · refine fw_iload h rfl rfl ?_
                  refine fw_aload_n h rfl rfl ?_
                  refine fw_getR _ h rfl fk_g_X8_50 rfl rfl ?_
                  refine fw_iload h rfl rfl ?_
                  refine fn_iald h rfl rfl (by omega) rfl ?_
                  refine fw_icmp_ge h rfl (fun c79 => ?_) (fun c79 => False.elim (c79 (by rw [hm]; exact Int32.le_refl _)))
                  refine fw_iload_n h rfl rfl ?_
                  refine fw_iload h rfl rfl ?_
                  refine fw_if_eq h rfl (fun c => absurd c (by decide)) (fun _ => ?_)
                  refine fw_iconst h (nI 1) rfl (by decide) ?_
                  refine fw_goto h rfl ?_
                  first | refine fn_iadd h rfl ?_ | refine fw_iadd h rfl ?_
                  refine fw_istore_n h [_, _, _, _, _, _, _, _, _] rfl rfl rfl rfl ?_
                  first | refine fn_iinc h [_, _, _, _, _, _, _, _, _] rfl rfl rfl rfl rfl ?_ | refine fw_iinc h 1 [_, _, _, _, _, _, _, _, _] rfl (by decide) rfl rfl rfl rfl ?_
                  refine fw_goto h rfl ?_
                  refine fw_sub (fb_pad_c (Or.inr rfl) (fb_pad_c (Or.inr rfl) (fb_pad_c (Or.inr rfl) (fb_pad_c (Or.inr rfl) (fb_pad_c (Or.inr rfl) (fb_pad_c (Or.inl rfl) (fb_pad_c (Or.inl rfl) (fb_pad_c (Or.inr rfl) (fb_pad_c (Or.inr rfl) (fb_pad_n)))))))))) ?_
                  have ih2 := ih
                  rw [show fp_cnt (fun d => fs_ma (mD w) kd (nI j) d (fd_m (mD w) d)) (i + 1) = fp_cnt (fun d => fs_ma (mD w) kd (nI j) d (fd_m (mD w) d)) i + 1 from fp_cnt_1 hb] at ih2
                  exact ih2
                · refine fw_iload h rfl rfl ?_
                  refine fw_aload_n h rfl rfl ?_
                  refine fw_getR _ h rfl fk_g_X8_50 rfl rfl ?_
                  refine fw_iload h rfl rfl ?_
                  refine fn_iald h rfl rfl (by omega) rfl ?_
                  refine fw_icmp_ge h rfl (fun c79 => ?_) (fun c79 => False.elim (c79 (by rw [hm]; exact Int32.le_refl _)))
                  refine fw_iload_n h rfl rfl ?_
                  refine fw_iload h rfl rfl ?_
                  refine fw_if_eq h rfl (fun _ => ?_) (fun c => absurd c (by decide))
                  refine fw_iconst h (nI 0) rfl (by decide) ?_
                  first | refine fn_iadd h rfl ?_ | refine fw_iadd h rfl ?_
                  refine fw_istore_n h [_, _, _, _, _, _, _, _, _] rfl rfl rfl rfl ?_
                  first | refine fn_iinc h [_, _, _, _, _, _, _, _, _] rfl rfl rfl rfl rfl ?_ | refine fw_iinc h 1 [_, _, _, _, _, _, _, _, _] rfl (by decide) rfl rfl rfl rfl ?_
                  refine fw_goto h rfl ?_
                  refine fw_sub (fb_pad_c (Or.inr rfl) (fb_pad_c (Or.inr rfl) (fb_pad_c (Or.inr rfl) (fb_pad_c (Or.inr rfl) (fb_pad_c (Or.inr rfl) (fb_pad_c (Or.inl rfl) (fb_pad_c (Or.inl rfl) (fb_pad_c (Or.inr rfl) (fb_pad_c (Or.inr rfl) (fb_pad_n)))))))))) ?_
                  have ih2 := ih
                  rw [show fp_cnt (fun d => fs_ma (mD w) kd (nI j) d (fd_m (mD w) d)) (i + 1) = fp_cnt (fun d => fs_ma (mD w) kd (nI j) d (fd_m (mD w) d)) i + 0 from fp_cnt_0 hb] at ih2
                  exact ih2
              · intro b hb
                rcases hb with ⟨rfl, hb⟩ | ⟨rfl, hb⟩
                · refine fw_iload h rfl rfl ?_
                  refine fw_aload_n h rfl rfl ?_
                  refine fw_getR _ h rfl fk_g_X8_50 rfl rfl ?_
                  refine fw_iload h rfl rfl ?_
                  refine fn_ialdF (w.1 59) h rfl rfl (rfl) (by omega) rfl ?_
                  refine fw_icmp_ge h rfl (fun c79 => False.elim (by rw [hm] at c79; exact nI_ge hk (by omega) c79)) (fun c79 => ?_)
                  refine fw_aload_n h rfl rfl ?_
                  refine fw_getR _ h rfl fk_g_X8_53 rfl rfl ?_
                  refine fw_bipush h (nI 10) rfl (by decide) ?_
                  refine fw_iload h rfl rfl ?_
                  first | refine fn_imul h rfl ?_ | refine fw_imul h rfl ?_
                  refine fw_iload h rfl rfl ?_
                  first | refine fn_iadd h rfl ?_ | refine fw_iadd h rfl ?_
                  refine fn_ialdF (w.1 60) h rfl rfl (rfl) (by omega) rfl ?_
                  refine fw_istore h [_, _, _, _, _, _, _, _, _] rfl rfl rfl rfl ?_
                  refine fw_iload_n h rfl rfl ?_
                  refine fw_iconst h (nI 1) rfl (by decide) ?_
                  refine fw_icmp_ne h rfl (fun c99 => ?_) (fun c99 => ?_)
                  · refine fw_iload_n h rfl rfl ?_
                    refine fw_iconst h (nI 2) rfl (by decide) ?_
                    refine fw_icmp_ne h rfl (fun c117 => ?_) (fun c117 => ?_)
                    · refine fw_iload h rfl rfl ?_
                      refine fw_iconst h (nI 1) rfl (by decide) ?_
                      refine fw_icmp_le h rfl (fun c137 => ?_) (fun c137 => ?_)
                      · have hft := (fs_ft_3 c99 c117).trans (fx_nf c137)
                        refine fw_iconst h (nI 0) rfl (by decide) ?_
                        refine fw_istore h [_, _, _, _, _, _, _, _, _] rfl rfl rfl rfl ?_
                        refine fw_iload h rfl rfl ?_
                        refine fw_if_ne h rfl (fun _ => ?_) (fun c => absurd c (by decide))
                        skip
                        · refine fw_iconst h (nI 1) rfl (by decide) ?_
                          refine fw_goto h rfl ?_
                          refine fw_istore h [_, _, _, _, _, _, _, _, _] rfl rfl rfl rfl ?_
                          first | refine fn_iinc h [_, _, _, _, _, _, _, _, _] rfl rfl rfl rfl rfl ?_ | refine fw_iinc h 1 [_, _, _, _, _, _, _, _, _] rfl (by decide) rfl rfl rfl rfl ?_
                          refine fw_goto h rfl ?_
                          refine fw_sub (fb_pad_c (Or.inr rfl) (fb_pad_c (Or.inr rfl) (fb_pad_c (Or.inr rfl) (fb_pad_c (Or.inr rfl) (fb_pad_c (Or.inr rfl) (fb_pad_c (Or.inr rfl) (fb_pad_c (Or.inr rfl) (fb_pad_c (Or.inl rfl) (fb_pad_c (Or.inl rfl) (fb_pad_n)))))))))) (ihk _ (Or.inl ⟨rfl, by first | exact fs_ma_1 hb | exact fs_ma_2 hft c171⟩))
                      · have hft := (fs_ft_3 c99 c117).trans (fx_nt c137)
                        refine fw_iconst h (nI 1) rfl (by decide) ?_
                        refine fw_goto h rfl ?_
                        refine fw_istore h [_, _, _, _, _, _, _, _, _] rfl rfl rfl rfl ?_
                        refine fw_iload h rfl rfl ?_
                        refine fw_if_ne h rfl (fun _ => ?_) (fun c => absurd c (by decide))
                        skip
                        · refine fw_iconst h (nI 1) rfl (by decide) ?_
                          refine fw_goto h rfl ?_
                          refine fw_istore h [_, _, _, _, _, _, _, _, _] rfl rfl rfl rfl ?_
                          first | refine fn_iinc h [_, _, _, _, _, _, _, _, _] rfl rfl rfl rfl rfl ?_ | refine fw_iinc h 1 [_, _, _, _, _, _, _, _, _] rfl (by decide) rfl rfl rfl rfl ?_
                          refine fw_goto h rfl ?_
                          refine fw_sub (fb_pad_c (Or.inr rfl) (fb_pad_c (Or.inr rfl) (fb_pad_c (Or.inr rfl) (fb_pad_c (Or.inr rfl) (fb_pad_c (Or.inr rfl) (fb_pad_c (Or.inr rfl) (fb_pad_c (Or.inr rfl) (fb_pad_c (Or.inl rfl) (fb_pad_c (Or.inl rfl) (fb_pad_n)))))))))) (ihk _ (Or.inl ⟨rfl, by first | exact fs_ma_1 hb | exact fs_ma_2 hft c171⟩))
                    · refine fw_iload h rfl rfl ?_
                      refine fw_iconst h (nI 1) rfl (by decide) ?_
                      refine fw_icmp_ne h rfl (fun c123 => ?_) (fun c123 => ?_)
                      · have hft := (fs_ft_2 c99 c117).trans (decide_eq_false c123)
                        refine fw_iconst h (nI 0) rfl (by decide) ?_
                        refine fw_goto h rfl ?_
                        refine fw_istore h [_, _, _, _, _, _, _, _, _] rfl rfl rfl rfl ?_
                        refine fw_iload h rfl rfl ?_
                        refine fw_if_ne h rfl (fun _ => ?_) (fun c => absurd c (by decide))
                        skip
                        · refine fw_iconst h (nI 1) rfl (by decide) ?_
                          refine fw_goto h rfl ?_
                          refine fw_istore h [_, _, _, _, _, _, _, _, _] rfl rfl rfl rfl ?_
                          first | refine fn_iinc h [_, _, _, _, _, _, _, _, _] rfl rfl rfl rfl rfl ?_ | refine fw_iinc h 1 [_, _, _, _, _, _, _, _, _] rfl (by decide) rfl rfl rfl rfl ?_
                          refine fw_goto h rfl ?_
                          refine fw_sub (fb_pad_c (Or.inr rfl) (fb_pad_c (Or.inr rfl) (fb_pad_c (Or.inr rfl) (fb_pad_c (Or.inr rfl) (fb_pad_c (Or.inr rfl) (fb_pad_c (Or.inr rfl) (fb_pad_c (Or.inr rfl) (fb_pad_c (Or.inl rfl) (fb_pad_c (Or.inl rfl) (fb_pad_n)))))))))) (ihk _ (Or.inl ⟨rfl, by first | exact fs_ma_1 hb | exact fs_ma_2 hft c171⟩))
                      · have hft := (fs_ft_2 c99 c117).trans (decide_eq_true c123)
                        refine fw_iconst h (nI 1) rfl (by decide) ?_
                        refine fw_goto h rfl ?_
                        refine fw_istore h [_, _, _, _, _, _, _, _, _] rfl rfl rfl rfl ?_
                        refine fw_iload h rfl rfl ?_
                        refine fw_if_ne h rfl (fun _ => ?_) (fun c => absurd c (by decide))
                        skip
                        · refine fw_iconst h (nI 1) rfl (by decide) ?_
                          refine fw_goto h rfl ?_
                          refine fw_istore h [_, _, _, _, _, _, _, _, _] rfl rfl rfl rfl ?_
                          first | refine fn_iinc h [_, _, _, _, _, _, _, _, _] rfl rfl rfl rfl rfl ?_ | refine fw_iinc h 1 [_, _, _, _, _, _, _, _, _] rfl (by decide) rfl rfl rfl rfl ?_
                          refine fw_goto h rfl ?_
                          refine fw_sub (fb_pad_c (Or.inr rfl) (fb_pad_c (Or.inr rfl) (fb_pad_c (Or.inr rfl) (fb_pad_c (Or.inr rfl) (fb_pad_c (Or.inr rfl) (fb_pad_c (Or.inr rfl) (fb_pad_c (Or.inr rfl) (fb_pad_c (Or.inl rfl) (fb_pad_c (Or.inl rfl) (fb_pad_n)))))))))) (ihk _ (Or.inl ⟨rfl, by first | exact fs_ma_1 hb | exact fs_ma_2 hft c171⟩))
                  · refine fw_iload h rfl rfl ?_
                    refine fw_if_ne h rfl (fun c104 => ?_) (fun c104 => ?_)
                    · have hft := (fs_ft_1 c99).trans (decide_eq_false c104)
                      refine fw_iconst h (nI 0) rfl (by decide) ?_
                      refine fw_goto h rfl ?_
                      refine fw_istore h [_, _, _, _, _, _, _, _, _] rfl rfl rfl rfl ?_
                      refine fw_iload h rfl rfl ?_
                      refine fw_if_ne h rfl (fun _ => ?_) (fun c => absurd c (by decide))
                      skip
                      · refine fw_iconst h (nI 1) rfl (by decide) ?_
                        refine fw_goto h rfl ?_
                        refine fw_istore h [_, _, _, _, _, _, _, _, _] rfl rfl rfl rfl ?_
                        first | refine fn_iinc h [_, _, _, _, _, _, _, _, _] rfl rfl rfl rfl rfl ?_ | refine fw_iinc h 1 [_, _, _, _, _, _, _, _, _] rfl (by decide) rfl rfl rfl rfl ?_
                        refine fw_goto h rfl ?_
                        refine fw_sub (fb_pad_c (Or.inr rfl) (fb_pad_c (Or.inr rfl) (fb_pad_c (Or.inr rfl) (fb_pad_c (Or.inr rfl) (fb_pad_c (Or.inr rfl) (fb_pad_c (Or.inr rfl) (fb_pad_c (Or.inr rfl) (fb_pad_c (Or.inl rfl) (fb_pad_c (Or.inl rfl) (fb_pad_n)))))))))) (ihk _ (Or.inl ⟨rfl, by first | exact fs_ma_1 hb | exact fs_ma_2 hft c171⟩))
                    · have hft := (fs_ft_1 c99).trans (decide_eq_true c104)
                      refine fw_iconst h (nI 1) rfl (by decide) ?_
                      refine fw_goto h rfl ?_
                      refine fw_istore h [_, _, _, _, _, _, _, _, _] rfl rfl rfl rfl ?_
                      refine fw_iload h rfl rfl ?_
                      refine fw_if_ne h rfl (fun _ => ?_) (fun c => absurd c (by decide))
                      skip
                      · refine fw_iconst h (nI 1) rfl (by decide) ?_
                        refine fw_goto h rfl ?_
                        refine fw_istore h [_, _, _, _, _, _, _, _, _] rfl rfl rfl rfl ?_
                        first | refine fn_iinc h [_, _, _, _, _, _, _, _, _] rfl rfl rfl rfl rfl ?_ | refine fw_iinc h 1 [_, _, _, _, _, _, _, _, _] rfl (by decide) rfl rfl rfl rfl ?_
                        refine fw_goto h rfl ?_
                        refine fw_sub (fb_pad_c (Or.inr rfl) (fb_pad_c (Or.inr rfl) (fb_pad_c (Or.inr rfl) (fb_pad_c (Or.inr rfl) (fb_pad_c (Or.inr rfl) (fb_pad_c (Or.inr rfl) (fb_pad_c (Or.inr rfl) (fb_pad_c (Or.inl rfl) (fb_pad_c (Or.inl rfl) (fb_pad_n)))))))))) (ihk _ (Or.inl ⟨rfl, by first | exact fs_ma_1 hb | exact fs_ma_2 hft c171⟩))
                · refine fw_iload h rfl rfl ?_
                  refine fw_aload_n h rfl rfl ?_
                  refine fw_getR _ h rfl fk_g_X8_50 rfl rfl ?_
                  refine fw_iload h rfl rfl ?_
                  refine fn_ialdF (w.1 59) h rfl rfl (rfl) (by omega) rfl ?_
                  refine fw_icmp_ge h rfl (fun c79 => False.elim (by rw [hm] at c79; exact nI_ge hk (by omega) c79)) (fun c79 => ?_)
                  refine fw_aload_n h rfl rfl ?_
                  refine fw_getR _ h rfl fk_g_X8_53 rfl rfl ?_
                  refine fw_bipush h (nI 10) rfl (by decide) ?_
                  refine fw_iload h rfl rfl ?_
                  first | refine fn_imul h rfl ?_ | refine fw_imul h rfl ?_
                  refine fw_iload h rfl rfl ?_
                  first | refine fn_iadd h rfl ?_ | refine fw_iadd h rfl ?_
                  refine fn_ialdF (w.1 60) h rfl rfl (rfl) (by omega) rfl ?_
                  refine fw_istore h [_, _, _, _, _, _, _, _, _] rfl rfl rfl rfl ?_
                  refine fw_iload_n h rfl rfl ?_
                  refine fw_iconst h (nI 1) rfl (by decide) ?_
                  refine fw_icmp_ne h rfl (fun c99 => ?_) (fun c99 => ?_)
                  · refine fw_iload_n h rfl rfl ?_
                    refine fw_iconst h (nI 2) rfl (by decide) ?_
                    refine fw_icmp_ne h rfl (fun c117 => ?_) (fun c117 => ?_)
                    · refine fw_iload h rfl rfl ?_
                      refine fw_iconst h (nI 1) rfl (by decide) ?_
                      refine fw_icmp_le h rfl (fun c137 => ?_) (fun c137 => ?_)
                      · have hft := (fs_ft_3 c99 c117).trans (fx_nf c137)
                        refine fw_iconst h (nI 0) rfl (by decide) ?_
                        refine fw_istore h [_, _, _, _, _, _, _, _, _] rfl rfl rfl rfl ?_
                        refine fw_iload h rfl rfl ?_
                        refine fw_if_ne h rfl (fun c => absurd c (by decide)) (fun _ => ?_)
                        refine fw_iload h rfl rfl ?_
                        refine fw_if_eq h rfl (fun _ => ?_) (fun c => absurd c (by decide))
                        skip
                        · refine fw_iconst h (nI 0) rfl (by decide) ?_
                          refine fw_istore h [_, _, _, _, _, _, _, _, _] rfl rfl rfl rfl ?_
                          first | refine fn_iinc h [_, _, _, _, _, _, _, _, _] rfl rfl rfl rfl rfl ?_ | refine fw_iinc h 1 [_, _, _, _, _, _, _, _, _] rfl (by decide) rfl rfl rfl rfl ?_
                          refine fw_goto h rfl ?_
                          refine fw_sub (fb_pad_c (Or.inr rfl) (fb_pad_c (Or.inr rfl) (fb_pad_c (Or.inr rfl) (fb_pad_c (Or.inr rfl) (fb_pad_c (Or.inr rfl) (fb_pad_c (Or.inr rfl) (fb_pad_c (Or.inr rfl) (fb_pad_c (Or.inl rfl) (fb_pad_c (Or.inl rfl) (fb_pad_n)))))))))) (ihk _ (Or.inr ⟨rfl, by first | exact fs_ma_3 hb hft | exact fs_ma_4 hb c171⟩))
                      · have hft := (fs_ft_3 c99 c117).trans (fx_nt c137)
                        refine fw_iconst h (nI 1) rfl (by decide) ?_
                        refine fw_goto h rfl ?_
                        refine fw_istore h [_, _, _, _, _, _, _, _, _] rfl rfl rfl rfl ?_
                        refine fw_iload h rfl rfl ?_
                        refine fw_if_ne h rfl (fun c => absurd c (by decide)) (fun _ => ?_)
                        refine fw_iload h rfl rfl ?_
                        refine fw_if_eq h rfl (fun c => absurd c (by decide)) (fun _ => ?_)
                        refine fw_aload_n h rfl rfl ?_
                        refine fw_getR _ h rfl fk_g_X8_56 rfl rfl ?_
                        refine fw_bipush h (nI 10) rfl (by decide) ?_
                        refine fw_iload h rfl rfl ?_
                        first | refine fn_imul h rfl ?_ | refine fw_imul h rfl ?_
                        refine fw_iload h rfl rfl ?_
                        first | refine fn_iadd h rfl ?_ | refine fw_iadd h rfl ?_
                        refine fn_ialdF (w.1 61) h rfl rfl (rfl) (by omega) rfl ?_
                        refine fw_iload_n h rfl rfl ?_
                        refine fw_icmp_ne h rfl (fun c171 => ?_) (fun c171 => ?_)
                        · skip
                          · refine fw_iconst h (nI 0) rfl (by decide) ?_
                            refine fw_istore h [_, _, _, _, _, _, _, _, _] rfl rfl rfl rfl ?_
                            first | refine fn_iinc h [_, _, _, _, _, _, _, _, _] rfl rfl rfl rfl rfl ?_ | refine fw_iinc h 1 [_, _, _, _, _, _, _, _, _] rfl (by decide) rfl rfl rfl rfl ?_
                            refine fw_goto h rfl ?_
                            refine fw_sub (fb_pad_c (Or.inr rfl) (fb_pad_c (Or.inr rfl) (fb_pad_c (Or.inr rfl) (fb_pad_c (Or.inr rfl) (fb_pad_c (Or.inr rfl) (fb_pad_c (Or.inr rfl) (fb_pad_c (Or.inr rfl) (fb_pad_c (Or.inl rfl) (fb_pad_c (Or.inl rfl) (fb_pad_n)))))))))) (ihk _ (Or.inr ⟨rfl, by first | exact fs_ma_3 hb hft | exact fs_ma_4 hb c171⟩))
                        · skip
                          · refine fw_iconst h (nI 1) rfl (by decide) ?_
                            refine fw_goto h rfl ?_
                            refine fw_istore h [_, _, _, _, _, _, _, _, _] rfl rfl rfl rfl ?_
                            first | refine fn_iinc h [_, _, _, _, _, _, _, _, _] rfl rfl rfl rfl rfl ?_ | refine fw_iinc h 1 [_, _, _, _, _, _, _, _, _] rfl (by decide) rfl rfl rfl rfl ?_
                            refine fw_goto h rfl ?_
                            refine fw_sub (fb_pad_c (Or.inr rfl) (fb_pad_c (Or.inr rfl) (fb_pad_c (Or.inr rfl) (fb_pad_c (Or.inr rfl) (fb_pad_c (Or.inr rfl) (fb_pad_c (Or.inr rfl) (fb_pad_c (Or.inr rfl) (fb_pad_c (Or.inl rfl) (fb_pad_c (Or.inl rfl) (fb_pad_n)))))))))) (ihk _ (Or.inl ⟨rfl, by first | exact fs_ma_1 hb | exact fs_ma_2 hft c171⟩))
                    · refine fw_iload h rfl rfl ?_
                      refine fw_iconst h (nI 1) rfl (by decide) ?_
                      refine fw_icmp_ne h rfl (fun c123 => ?_) (fun c123 => ?_)
                      · have hft := (fs_ft_2 c99 c117).trans (decide_eq_false c123)
                        refine fw_iconst h (nI 0) rfl (by decide) ?_
                        refine fw_goto h rfl ?_
                        refine fw_istore h [_, _, _, _, _, _, _, _, _] rfl rfl rfl rfl ?_
                        refine fw_iload h rfl rfl ?_
                        refine fw_if_ne h rfl (fun c => absurd c (by decide)) (fun _ => ?_)
                        refine fw_iload h rfl rfl ?_
                        refine fw_if_eq h rfl (fun _ => ?_) (fun c => absurd c (by decide))
                        skip
                        · refine fw_iconst h (nI 0) rfl (by decide) ?_
                          refine fw_istore h [_, _, _, _, _, _, _, _, _] rfl rfl rfl rfl ?_
                          first | refine fn_iinc h [_, _, _, _, _, _, _, _, _] rfl rfl rfl rfl rfl ?_ | refine fw_iinc h 1 [_, _, _, _, _, _, _, _, _] rfl (by decide) rfl rfl rfl rfl ?_
                          refine fw_goto h rfl ?_
                          refine fw_sub (fb_pad_c (Or.inr rfl) (fb_pad_c (Or.inr rfl) (fb_pad_c (Or.inr rfl) (fb_pad_c (Or.inr rfl) (fb_pad_c (Or.inr rfl) (fb_pad_c (Or.inr rfl) (fb_pad_c (Or.inr rfl) (fb_pad_c (Or.inl rfl) (fb_pad_c (Or.inl rfl) (fb_pad_n)))))))))) (ihk _ (Or.inr ⟨rfl, by first | exact fs_ma_3 hb hft | exact fs_ma_4 hb c171⟩))
                      · have hft := (fs_ft_2 c99 c117).trans (decide_eq_true c123)
                        refine fw_iconst h (nI 1) rfl (by decide) ?_
                        refine fw_goto h rfl ?_
                        refine fw_istore h [_, _, _, _, _, _, _, _, _] rfl rfl rfl rfl ?_
                        refine fw_iload h rfl rfl ?_
                        refine fw_if_ne h rfl (fun c => absurd c (by decide)) (fun _ => ?_)
                        refine fw_iload h rfl rfl ?_
                        refine fw_if_eq h rfl (fun c => absurd c (by decide)) (fun _ => ?_)
                        refine fw_aload_n h rfl rfl ?_
                        refine fw_getR _ h rfl fk_g_X8_56 rfl rfl ?_
                        refine fw_bipush h (nI 10) rfl (by decide) ?_
                        refine fw_iload h rfl rfl ?_
                        first | refine fn_imul h rfl ?_ | refine fw_imul h rfl ?_
                        refine fw_iload h rfl rfl ?_
                        first | refine fn_iadd h rfl ?_ | refine fw_iadd h rfl ?_
                        refine fn_ialdF (w.1 61) h rfl rfl (rfl) (by omega) rfl ?_
                        refine fw_iload_n h rfl rfl ?_
                        refine fw_icmp_ne h rfl (fun c171 => ?_) (fun c171 => ?_)
                        · skip
                          · refine fw_iconst h (nI 0) rfl (by decide) ?_
                            refine fw_istore h [_, _, _, _, _, _, _, _, _] rfl rfl rfl rfl ?_
                            first | refine fn_iinc h [_, _, _, _, _, _, _, _, _] rfl rfl rfl rfl rfl ?_ | refine fw_iinc h 1 [_, _, _, _, _, _, _, _, _] rfl (by decide) rfl rfl rfl rfl ?_
                            refine fw_goto h rfl ?_
                            refine fw_sub (fb_pad_c (Or.inr rfl) (fb_pad_c (Or.inr rfl) (fb_pad_c (Or.inr rfl) (fb_pad_c (Or.inr rfl) (fb_pad_c (Or.inr rfl) (fb_pad_c (Or.inr rfl) (fb_pad_c (Or.inr rfl) (fb_pad_c (Or.inl rfl) (fb_pad_c (Or.inl rfl) (fb_pad_n)))))))))) (ihk _ (Or.inr ⟨rfl, by first | exact fs_ma_3 hb hft | exact fs_ma_4 hb c171⟩))
                        · skip
                          · refine fw_iconst h (nI 1) rfl (by decide) ?_
                            refine fw_goto h rfl ?_
                            refine fw_istore h [_, _, _, _, _, _, _, _, _] rfl rfl rfl rfl ?_
                            first | refine fn_iinc h [_, _, _, _, _, _, _, _, _] rfl rfl rfl rfl rfl ?_ | refine fw_iinc h 1 [_, _, _, _, _, _, _, _, _] rfl (by decide) rfl rfl rfl rfl ?_
                            refine fw_goto h rfl ?_
                            refine fw_sub (fb_pad_c (Or.inr rfl) (fb_pad_c (Or.inr rfl) (fb_pad_c (Or.inr rfl) (fb_pad_c (Or.inr rfl) (fb_pad_c (Or.inr rfl) (fb_pad_c (Or.inr rfl) (fb_pad_c (Or.inr rfl) (fb_pad_c (Or.inl rfl) (fb_pad_c (Or.inl rfl) (fb_pad_n)))))))))) (ihk _ (Or.inl ⟨rfl, by first | exact fs_ma_1 hb | exact fs_ma_2 hft c171⟩))
                  · refine fw_iload h rfl rfl ?_
                    refine fw_if_ne h rfl (fun c104 => ?_) (fun c104 => ?_)
                    · have hft := (fs_ft_1 c99).trans (decide_eq_false c104)
                      refine fw_iconst h (nI 0) rfl (by decide) ?_
                      refine fw_goto h rfl ?_
                      refine fw_istore h [_, _, _, _, _, _, _, _, _] rfl rfl rfl rfl ?_
                      refine fw_iload h rfl rfl ?_
                      refine fw_if_ne h rfl (fun c => absurd c (by decide)) (fun _ => ?_)
                      refine fw_iload h rfl rfl ?_
                      refine fw_if_eq h rfl (fun _ => ?_) (fun c => absurd c (by decide))
                      skip
                      · refine fw_iconst h (nI 0) rfl (by decide) ?_
                        refine fw_istore h [_, _, _, _, _, _, _, _, _] rfl rfl rfl rfl ?_
                        first | refine fn_iinc h [_, _, _, _, _, _, _, _, _] rfl rfl rfl rfl rfl ?_ | refine fw_iinc h 1 [_, _, _, _, _, _, _, _, _] rfl (by decide) rfl rfl rfl rfl ?_
                        refine fw_goto h rfl ?_
                        refine fw_sub (fb_pad_c (Or.inr rfl) (fb_pad_c (Or.inr rfl) (fb_pad_c (Or.inr rfl) (fb_pad_c (Or.inr rfl) (fb_pad_c (Or.inr rfl) (fb_pad_c (Or.inr rfl) (fb_pad_c (Or.inr rfl) (fb_pad_c (Or.inl rfl) (fb_pad_c (Or.inl rfl) (fb_pad_n)))))))))) (ihk _ (Or.inr ⟨rfl, by first | exact fs_ma_3 hb hft | exact fs_ma_4 hb c171⟩))
                    · have hft := (fs_ft_1 c99).trans (decide_eq_true c104)
                      refine fw_iconst h (nI 1) rfl (by decide) ?_
                      refine fw_goto h rfl ?_
                      refine fw_istore h [_, _, _, _, _, _, _, _, _] rfl rfl rfl rfl ?_
                      refine fw_iload h rfl rfl ?_
                      refine fw_if_ne h rfl (fun c => absurd c (by decide)) (fun _ => ?_)
                      refine fw_iload h rfl rfl ?_
                      refine fw_if_eq h rfl (fun c => absurd c (by decide)) (fun _ => ?_)
                      refine fw_aload_n h rfl rfl ?_
                      refine fw_getR _ h rfl fk_g_X8_56 rfl rfl ?_
                      refine fw_bipush h (nI 10) rfl (by decide) ?_
                      refine fw_iload h rfl rfl ?_
                      first | refine fn_imul h rfl ?_ | refine fw_imul h rfl ?_
                      refine fw_iload h rfl rfl ?_
                      first | refine fn_iadd h rfl ?_ | refine fw_iadd h rfl ?_
                      refine fn_ialdF (w.1 61) h rfl rfl (rfl) (by omega) rfl ?_
                      refine fw_iload_n h rfl rfl ?_
                      refine fw_icmp_ne h rfl (fun c171 => ?_) (fun c171 => ?_)
                      · skip
                        · refine fw_iconst h (nI 0) rfl (by decide) ?_
                          refine fw_istore h [_, _, _, _, _, _, _, _, _] rfl rfl rfl rfl ?_
                          first | refine fn_iinc h [_, _, _, _, _, _, _, _, _] rfl rfl rfl rfl rfl ?_ | refine fw_iinc h 1 [_, _, _, _, _, _, _, _, _] rfl (by decide) rfl rfl rfl rfl ?_
                          refine fw_goto h rfl ?_
                          refine fw_sub (fb_pad_c (Or.inr rfl) (fb_pad_c (Or.inr rfl) (fb_pad_c (Or.inr rfl) (fb_pad_c (Or.inr rfl) (fb_pad_c (Or.inr rfl) (fb_pad_c (Or.inr rfl) (fb_pad_c (Or.inr rfl) (fb_pad_c (Or.inl rfl) (fb_pad_c (Or.inl rfl) (fb_pad_n)))))))))) (ihk _ (Or.inr ⟨rfl, by first | exact fs_ma_3 hb hft | exact fs_ma_4 hb c171⟩))
                      · skip
                        · refine fw_iconst h (nI 1) rfl (by decide) ?_
                          refine fw_goto h rfl ?_
                          refine fw_istore h [_, _, _, _, _, _, _, _, _] rfl rfl rfl rfl ?_
                          first | refine fn_iinc h [_, _, _, _, _, _, _, _, _] rfl rfl rfl rfl rfl ?_ | refine fw_iinc h 1 [_, _, _, _, _, _, _, _, _] rfl (by decide) rfl rfl rfl rfl ?_
                          refine fw_goto h rfl ?_
                          refine fw_sub (fb_pad_c (Or.inr rfl) (fb_pad_c (Or.inr rfl) (fb_pad_c (Or.inr rfl) (fb_pad_c (Or.inr rfl) (fb_pad_c (Or.inr rfl) (fb_pad_c (Or.inr rfl) (fb_pad_c (Or.inr rfl) (fb_pad_c (Or.inl rfl) (fb_pad_c (Or.inl rfl) (fb_pad_n)))))))))) (ihk _ (Or.inl ⟨rfl, by first | exact fs_ma_1 hb | exact fs_ma_2 hft c171⟩))
          · refine fw_aload_n h rfl rfl ?_
            refine fw_iconst h (nI 3) rfl (by decide) ?_
            refine fw_v1I h rfl fk_v_X8_meets fk_l_X8_117 rfl rfl rfl rfl ?_
            refine c_X8_meets (by decide) ?_
            exact fw_iret h rfl rfl ⟨_, rfl, hu j hj rfl c11a c11b (fun z => z.elim c26 (fun y => by first | exact c31 y.1 | exact c41 y.2))⟩
    · refine fw_if_ne h rfl (fun c => absurd c (by decide)) (fun _ => ?_)
      refine fw_iconst h (-1) rfl (by decide) ?_
      exact fw_iret h rfl rfl ⟨_, rfl, hb (fun z => by first | exact c2 z.1 | exact c11 z.2)⟩
  · refine fw_if_eq h rfl (fun _ => ?_) (fun c => absurd c (by decide))
    refine fw_iconst h (-1) rfl (by decide) ?_
    exact fw_iret h rfl rfl ⟨_, rfl, hb (fun z => by first | exact c2 z.1 | exact c11 z.2)⟩
