def fp_new (s : Nat → Int32) (mk as : Int32) (a : Nat) : Nat → Bool
  | 0 => true
  | b + 1 => fp_new s mk as a b && !(decide (nI b &&& mk = as) && decide (s b = s a))
def fp_unl (s : Nat → Int32) (mk as : Int32) (n : Nat) : Nat := fp_cnt (fun a => decide (nI a &&& mk = as) && fp_new s mk as a a) n
theorem fp_new_f {s : Nat → Int32} {mk as : Int32} {a b : Nat} (h1 : nI b &&& mk = as) (h2 : s b = s a) : ∀ {n : Nat}, b < n → fp_new s mk as a n = false
  | 0, h => by omega
  | n + 1, h => by
    rw [fp_new]
    by_cases e : b = n
    · subst e
      rw [decide_eq_true h1, decide_eq_true h2]; simp
    · rw [fp_new_f h1 h2 (n := n) (by omega)]; rfl
theorem fp_new_t {s : Nat → Int32} {mk as : Int32} {a b : Nat} (h : fp_new s mk as a b = true) (h2 : ¬ (nI b &&& mk = as ∧ s b = s a)) : fp_new s mk as a (b + 1) = true := by
  rw [fp_new, h]
  by_cases e1 : nI b &&& mk = as
  · rw [decide_eq_false (fun e2 => h2 (And.intro e1 e2))]; simp
  · rw [decide_eq_false e1]; simp
theorem fp_unl_1 {s : Nat → Int32} {mk as : Int32} {a : Nat} (h1 : nI a &&& mk = as) (h2 : fp_new s mk as a a = true) : fp_unl s mk as (a + 1) = fp_unl s mk as a + 1 := by
  show fp_cnt _ a + (if (decide (nI a &&& mk = as) && fp_new s mk as a a) = true then 1 else 0) = _
  rw [decide_eq_true h1, h2]; rfl
theorem fp_unl_0 {s : Nat → Int32} {mk as : Int32} {a : Nat} (h : ¬ (nI a &&& mk = as) ∨ fp_new s mk as a a = false) : fp_unl s mk as (a + 1) = fp_unl s mk as a + 0 := by
  show fp_cnt _ a + (if (decide (nI a &&& mk = as) && fp_new s mk as a a) = true then 1 else 0) = _
  rw [if_neg (by rcases h with h | h <;> simp [h])]; rfl
theorem fp_cnt_1 {p : Nat → Bool} {n : Nat} (h : p n = true) : fp_cnt p (n + 1) = fp_cnt p n + 1 := by rw [fp_cnt, if_pos h]
theorem fp_cnt_0 {p : Nat → Bool} {n : Nat} (h : p n = false) : fp_cnt p (n + 1) = fp_cnt p n + 0 := by rw [fp_cnt, h]; rfl
theorem lp_unl_0 {X : fb_Cx} {w : fb_Wd} {P : Int32 → fb_Wd → Prop} {N i b : Nat} {mk as : Int32} (h : fb_Ok tX8_unlikeOf X (fb_kI P)) (ih : fb_AW tX8_unlikeOf X 6 [some (.ref 46), some (.int (nI N)), some (.int mk), some (.int as), some (.int (nI (fp_unl (w.1 68) mk as i + 0))), some (.int (nI (i + 1))), none, none] [] w) : fb_AW tX8_unlikeOf X 30 [some (.ref 46), some (.int (nI N)), some (.int mk), some (.int as), some (.int (nI (fp_unl (w.1 68) mk as i))), some (.int (nI i)), some (.int (nI 0)), some (.int (nI b))] [] w := by
  refine fw_iload h rfl rfl ?_
  refine fw_iload h rfl rfl ?_
  refine fw_icmp_ge h rfl (fun c34 => ?_) (fun c34 => ?_)
  · refine fw_iload h rfl rfl ?_
    refine fw_iload h rfl rfl ?_
    refine fw_if_eq h rfl (fun _ => ?_) (fun c => absurd c (by decide))
    refine fw_iconst h (nI 0) rfl (by decide) ?_
    first | refine fn_iadd h rfl ?_ | refine fw_iadd h rfl ?_
    refine fw_istore h [_, _, _, _, _, _, _, _] rfl rfl rfl rfl ?_
    first | refine fn_iinc h [_, _, _, _, _, _, _, _] rfl rfl rfl rfl rfl ?_ | refine fw_iinc h 1 [_, _, _, _, _, _, _, _] rfl (by decide) rfl rfl rfl rfl ?_
    refine fw_goto h rfl ?_
    exact fw_sub (fb_pad_c (Or.inr rfl) (fb_pad_c (Or.inr rfl) (fb_pad_c (Or.inr rfl) (fb_pad_c (Or.inr rfl) (fb_pad_c (Or.inr rfl) (fb_pad_c (Or.inr rfl) (fb_pad_c (Or.inl rfl) (fb_pad_c (Or.inl rfl) (fb_pad_n))))))))) ih
  · refine fw_iload h rfl rfl ?_
    refine fw_if_eq h rfl (fun _ => ?_) (fun c => absurd c (by decide))
    refine fw_iload h rfl rfl ?_
    refine fw_iload h rfl rfl ?_
    refine fw_if_eq h rfl (fun _ => ?_) (fun c => absurd c (by decide))
    refine fw_iconst h (nI 0) rfl (by decide) ?_
    first | refine fn_iadd h rfl ?_ | refine fw_iadd h rfl ?_
    refine fw_istore h [_, _, _, _, _, _, _, _] rfl rfl rfl rfl ?_
    first | refine fn_iinc h [_, _, _, _, _, _, _, _] rfl rfl rfl rfl rfl ?_ | refine fw_iinc h 1 [_, _, _, _, _, _, _, _] rfl (by decide) rfl rfl rfl rfl ?_
    refine fw_goto h rfl ?_
    exact fw_sub (fb_pad_c (Or.inr rfl) (fb_pad_c (Or.inr rfl) (fb_pad_c (Or.inr rfl) (fb_pad_c (Or.inr rfl) (fb_pad_c (Or.inr rfl) (fb_pad_c (Or.inr rfl) (fb_pad_c (Or.inl rfl) (fb_pad_c (Or.inl rfl) (fb_pad_n))))))))) ih
theorem lp_unl_1 {X : fb_Cx} {w : fb_Wd} {P : Int32 → fb_Wd → Prop} {N i : Nat} {mk as : Int32} (h : fb_Ok tX8_unlikeOf X (fb_kI P)) (hi : i < 32) (hm : nI i &&& mk = as) (ih : fb_AW tX8_unlikeOf X 6 [some (.ref 46), some (.int (nI N)), some (.int mk), some (.int as), some (.int (nI (fp_unl (w.1 68) mk as (i + 1)))), some (.int (nI (i + 1))), none, none] [] w) : fb_AW tX8_unlikeOf X 30 [some (.ref 46), some (.int (nI N)), some (.int mk), some (.int as), some (.int (nI (fp_unl (w.1 68) mk as i))), some (.int (nI i)), some (.int (nI 1)), some (.int (nI 0))] [] w := by
  refine (?_ : fp_new (w.1 68) mk as i 0 = true → fb_AW tX8_unlikeOf X 30 [some (.ref 46), some (.int (nI N)), some (.int mk), some (.int as), some (.int (nI (fp_unl (w.1 68) mk as i))), some (.int (nI i)), some (.int (nI 1)), some (.int (nI 0))] [] w) rfl
  refine fb_loop (fun b => fp_new (w.1 68) mk as i b = true → fb_AW tX8_unlikeOf X 30 [some (.ref 46), some (.int (nI N)), some (.int mk), some (.int as), some (.int (nI (fp_unl (w.1 68) mk as i))), some (.int (nI i)), some (.int (nI 1)), some (.int (nI b))] [] w) i ?_ ?_ 0 (Nat.zero_le _)
  · intro hnb
    refine fw_iload h rfl rfl ?_
    refine fw_iload h rfl rfl ?_
    refine fw_icmp_ge h rfl (fun c34 => ?_) (fun c34 => False.elim (c34 (Int32.le_refl _)))
    refine fw_iload h rfl rfl ?_
    refine fw_iload h rfl rfl ?_
    refine fw_if_eq h rfl (fun c => absurd c (by decide)) (fun _ => ?_)
    refine fw_iconst h (nI 1) rfl (by decide) ?_
    refine fw_goto h rfl ?_
    first | refine fn_iadd h rfl ?_ | refine fw_iadd h rfl ?_
    refine fw_istore h [_, _, _, _, _, _, _, _] rfl rfl rfl rfl ?_
    first | refine fn_iinc h [_, _, _, _, _, _, _, _] rfl rfl rfl rfl rfl ?_ | refine fw_iinc h 1 [_, _, _, _, _, _, _, _] rfl (by decide) rfl rfl rfl rfl ?_
    refine fw_goto h rfl ?_
    refine fw_sub (fb_pad_c (Or.inr rfl) (fb_pad_c (Or.inr rfl) (fb_pad_c (Or.inr rfl) (fb_pad_c (Or.inr rfl) (fb_pad_c (Or.inr rfl) (fb_pad_c (Or.inr rfl) (fb_pad_c (Or.inl rfl) (fb_pad_c (Or.inl rfl) (fb_pad_n))))))))) ?_
    rw [← fp_unl_1 hm hnb]
    exact ih
  · intro b hb ihb hnb
    refine fw_iload h rfl rfl ?_
    refine fw_iload h rfl rfl ?_
    refine fw_icmp_ge h rfl (fun c34 => False.elim (nI_ge hb (by omega) c34)) (fun c34 => ?_)
    refine fw_iload h rfl rfl ?_
    refine fw_if_eq h rfl (fun c => absurd c (by decide)) (fun _ => ?_)
    refine fw_iload h rfl rfl ?_
    refine fw_iload_n h rfl rfl ?_
    refine fw_iand h rfl ?_
    refine fw_iload_n h rfl rfl ?_
    refine fw_icmp_ne h rfl (fun c47 => ?_) (fun c47 => ?_)
    · skip
      · refine fw_iconst h (nI 1) rfl (by decide) ?_
        refine fw_goto h rfl ?_
        refine fw_istore h [_, _, _, _, _, _, _, _] rfl rfl rfl rfl ?_
        first | refine fn_iinc h [_, _, _, _, _, _, _, _] rfl rfl rfl rfl rfl ?_ | refine fw_iinc h 1 [_, _, _, _, _, _, _, _] rfl (by decide) rfl rfl rfl rfl ?_
        refine fw_goto h rfl ?_
        exact ihb (fp_new_t hnb (fun q => by first | exact c47 q.1 | exact c64 q.2))
    · refine fw_aload_n h rfl rfl ?_
      refine fw_getR _ h rfl fk_g_X8_78 rfl rfl ?_
      refine fw_iload h rfl rfl ?_
      refine fn_ialdF (w.1 68) h rfl rfl (rfl) (by omega) rfl ?_
      refine fw_aload_n h rfl rfl ?_
      refine fw_getR _ h rfl fk_g_X8_78 rfl rfl ?_
      refine fw_iload h rfl rfl ?_
      refine fn_ialdF (w.1 68) h rfl rfl (rfl) (by omega) rfl ?_
      refine fw_icmp_eq h rfl (fun c64 => ?_) (fun c64 => ?_)
      · skip
        · refine fw_iconst h (nI 0) rfl (by decide) ?_
          refine fw_istore h [_, _, _, _, _, _, _, _] rfl rfl rfl rfl ?_
          first | refine fn_iinc h [_, _, _, _, _, _, _, _] rfl rfl rfl rfl rfl ?_ | refine fw_iinc h 1 [_, _, _, _, _, _, _, _] rfl (by decide) rfl rfl rfl rfl ?_
          refine fw_goto h rfl ?_
          refine lp_unl_0 h ?_
          rw [← fp_unl_0 (Or.inr (fp_new_f c47 c64 hb))]
          exact ih
      · skip
        · refine fw_iconst h (nI 1) rfl (by decide) ?_
          refine fw_goto h rfl ?_
          refine fw_istore h [_, _, _, _, _, _, _, _] rfl rfl rfl rfl ?_
          first | refine fn_iinc h [_, _, _, _, _, _, _, _] rfl rfl rfl rfl rfl ?_ | refine fw_iinc h 1 [_, _, _, _, _, _, _, _] rfl (by decide) rfl rfl rfl rfl ?_
          refine fw_goto h rfl ?_
          exact ihb (fp_new_t hnb (fun q => by first | exact c47 q.1 | exact c64 q.2))
theorem c_X8_unlikeOf {l : Launch} {w : fb_Wd} {P : Int32 → fb_Wd → Prop} {N : Nat} {mk as : Int32} (hN : N ≤ 32) (hp : P (nI (fp_unl (w.1 68) mk as N)) w) : fb_Can l tX8_unlikeOf [.ref 46, .int (nI N), .int mk, .int as] w (fb_kI P) := by
  refine fb_intro 4 fk_t_X8_unlikeOf (by decide) rfl (fun X hX h => ?_)
  subst hX
  change fb_AW tX8_unlikeOf X 0 [some (.ref 46), some (.int (nI N)), some (.int mk), some (.int as), none, none, none, none] [] w
  refine fw_iconst h (nI 0) rfl (by decide) ?_
  refine fw_istore h [_, _, _, _, _, _, _, _] rfl rfl rfl rfl ?_
  refine fw_iconst h (nI 0) rfl (by decide) ?_
  refine fw_istore h [_, _, _, _, _, _, _, _] rfl rfl rfl rfl ?_
  refine fb_loop (fun i => fb_AW tX8_unlikeOf X 6 [some (.ref 46), some (.int (nI N)), some (.int mk), some (.int as), some (.int (nI (fp_unl (w.1 68) mk as i))), some (.int (nI i)), none, none] [] w) (N) ?_ (fun i hi ih => ?_) 0 (Nat.zero_le _)
  · refine fw_iload h rfl rfl ?_
    refine fw_iload_n h rfl rfl ?_
    refine fw_icmp_ge h rfl (fun c9 => ?_) (fun c9 => False.elim (c9 (Int32.le_refl _)))
    refine fw_iload h rfl rfl ?_
    exact fw_iret h rfl rfl ⟨_, rfl, hp⟩
  · refine fw_iload h rfl rfl ?_
    refine fw_iload_n h rfl rfl ?_
    refine fw_icmp_ge h rfl (fun c9 => False.elim (nI_ge hi (by omega) c9)) (fun c9 => ?_)
    refine fw_iload h rfl rfl ?_
    refine fw_iload_n h rfl rfl ?_
    refine fw_iand h rfl ?_
    refine fw_iload_n h rfl rfl ?_
    refine fw_icmp_ne h rfl (fun c17 => ?_) (fun c17 => ?_)
    · skip
      · refine fw_iconst h (nI 0) rfl (by decide) ?_
        refine fw_istore h [_, _, _, _, _, _, _, _] rfl rfl rfl rfl ?_
        refine fw_iconst h (nI 0) rfl (by decide) ?_
        refine fw_istore h [_, _, _, _, _, _, _, _] rfl rfl rfl rfl ?_
        refine lp_unl_0 h ?_
        rw [← fp_unl_0 (Or.inl c17)]
        exact ih
    · skip
      · refine fw_iconst h (nI 1) rfl (by decide) ?_
        refine fw_goto h rfl ?_
        refine fw_istore h [_, _, _, _, _, _, _, _] rfl rfl rfl rfl ?_
        refine fw_iconst h (nI 0) rfl (by decide) ?_
        refine fw_istore h [_, _, _, _, _, _, _, _] rfl rfl rfl rfl ?_
        exact lp_unl_1 h (by omega) c17 ih
theorem c_X8_waysOf {l : Launch} {w : fb_Wd} {P : Int32 → fb_Wd → Prop} {n : Nat} {k : Int32} (hn : n ≤ 12) (hp : P (nI (fp_cnt (fun s => decide (k ≤ fp_bits (nI s) 20)) (2 ^ n))) w) : fb_Can l tX8_waysOf [.ref 46, .int (nI n), .int k] w (fb_kI P) := by
  refine fb_intro 2 fk_t_X8_waysOf (by decide) rfl (fun X hX h => ?_)
  subst hX
  change fb_AW tX8_waysOf X 0 [some (.ref 46), some (.int (nI n)), some (.int k), none, none] [] w
  have h12 : 2 ^ n ≤ 2 ^ 12 := Nat.pow_le_pow_right (by decide) hn
  refine fw_iconst h (nI 0) rfl (by decide) ?_
  refine fw_istore_n h [_, _, _, _, _] rfl rfl rfl rfl ?_
  refine fw_iconst h (nI 0) rfl (by decide) ?_
  refine fw_istore h [_, _, _, _, _] rfl rfl rfl rfl ?_
  refine fb_loop (fun i => fb_AW tX8_waysOf X 5 [some (.ref 46), some (.int (nI n)), some (.int k), some (.int (nI (fp_cnt (fun s => decide (k ≤ fp_bits (nI s) 20)) i))), some (.int (nI i))] [] w) (2 ^ n) ?_ (fun i hi ih => ?_) 0 (Nat.zero_le _)
  · refine fw_iload h rfl rfl ?_
    refine fw_iconst h (nI 1) rfl (by decide) ?_
    refine fw_iload_n h rfl rfl ?_
    refine fw_ishl h rfl ?_
    refine fw_icmp_ge h rfl (fun c10 => ?_) (fun c10 => False.elim (c10 (by rw [fp_pow n (by omega)]; exact Int32.le_refl _)))
    refine fw_iload_n h rfl rfl ?_
    exact fw_iret h rfl rfl ⟨_, rfl, hp⟩
  · refine fw_iload h rfl rfl ?_
    refine fw_iconst h (nI 1) rfl (by decide) ?_
    refine fw_iload_n h rfl rfl ?_
    refine fw_ishl h rfl ?_
    refine fw_icmp_ge h rfl (fun c10 => False.elim (by rw [fp_pow n (by omega)] at c10; exact nI_ge hi (by omega) c10)) (fun c10 => ?_)
    refine fw_iload_n h rfl rfl ?_
    refine fw_iload h rfl rfl ?_
    refine fw_s1I h rfl fk_s_X8_bits fk_l_X8_220 rfl rfl ?_
    refine c_X8_bits ?_
    refine fw_iload_n h rfl rfl ?_
    refine fw_icmp_lt h rfl (fun c20 => ?_) (fun c20 => ?_)
    · refine fw_iconst h (nI 0) rfl (by decide) ?_
      first | refine fn_iadd h rfl ?_ | refine fw_iadd h rfl ?_
      refine fw_istore_n h [_, _, _, _, _] rfl rfl rfl rfl ?_
      first | refine fn_iinc h [_, _, _, _, _] rfl rfl rfl rfl rfl ?_ | refine fw_iinc h 1 [_, _, _, _, _] rfl (by decide) rfl rfl rfl rfl ?_
      refine fw_goto h rfl ?_
      first
        | (exact fw_cg (congrArg (fun z => [some (Value.ref 46), some (Value.int (nI n)), some (Value.int k), some (Value.int (nI z)), some (Value.int (nI (i + 1)))]) (fp_cnt_1 (decide_eq_true (Int32.not_lt.mp c20)))) ih)
        | (exact fw_cg (congrArg (fun z => [some (Value.ref 46), some (Value.int (nI n)), some (Value.int k), some (Value.int (nI z)), some (Value.int (nI (i + 1)))]) (fp_cnt_0 (decide_eq_false (Int32.not_le.mpr c20)))) ih)
    · refine fw_iconst h (nI 1) rfl (by decide) ?_
      refine fw_goto h rfl ?_
      first | refine fn_iadd h rfl ?_ | refine fw_iadd h rfl ?_
      refine fw_istore_n h [_, _, _, _, _] rfl rfl rfl rfl ?_
      first | refine fn_iinc h [_, _, _, _, _] rfl rfl rfl rfl rfl ?_ | refine fw_iinc h 1 [_, _, _, _, _] rfl (by decide) rfl rfl rfl rfl ?_
      refine fw_goto h rfl ?_
      first
        | (exact fw_cg (congrArg (fun z => [some (Value.ref 46), some (Value.int (nI n)), some (Value.int k), some (Value.int (nI z)), some (Value.int (nI (i + 1)))]) (fp_cnt_1 (decide_eq_true (Int32.not_lt.mp c20)))) ih)
        | (exact fw_cg (congrArg (fun z => [some (Value.ref 46), some (Value.int (nI n)), some (Value.int k), some (Value.int (nI z)), some (Value.int (nI (i + 1)))]) (fp_cnt_0 (decide_eq_false (Int32.not_le.mpr c20)))) ih)
