theorem lp_X8_isWithin_0 {X : fb_Cx} {w : fb_Wd} {P : Int32 → fb_Wd → Prop} {x : Int32} {u : Nat} (h : fb_Ok tX8_isWithin X (fb_kI P)) (hu : u < 20) (hf : P 0 w) : fb_AW tX8_isWithin X 2 [some (.ref 46), some (.int x), some (.int (nI u)), some (.int (-9))] [] w := by
  refine fw_iload_n h rfl rfl ?_
  refine fw_bipush h (-9) rfl (by decide) ?_
  refine fw_icmp_eq h rfl (fun c5 => ?_) (fun c5 => False.elim (c5 rfl))
  refine fw_iload_n h rfl rfl ?_
  refine fw_iload_n h rfl rfl ?_
  refine fw_icmp_ne h rfl (fun c25 => ?_) (fun c25 => False.elim (nI_ne9 (n := u) (by omega) c25.symm))
  refine fw_iconst h (nI 0) rfl (by decide) ?_
  exact fw_zret h rfl rfl (by first | exact Or.inl rfl | exact Or.inr rfl | assumption) ⟨_, rfl, hf⟩
theorem lp_X8_isWithin {X : fb_Cx} {w : fb_Wd} {P : Int32 → fb_Wd → Prop} {x : Int32} {u n : Nat} (h : fb_Ok tX8_isWithin X (fb_kI P)) (hn : n ≤ 20) (hwh : fp_wh n (w.1 54)) (hu : u < 20) : ∀ v, v < n → (fp_in (w.1 54) v u = true → P 1 w) → (fp_in (w.1 54) v u = false → P 0 w) → fb_AW tX8_isWithin X 2 [some (.ref 46), some (.int x), some (.int (nI u)), some (.int (nI v))] [] w := by
  intro v
  induction v using Nat.strongRecOn with
  | ind v IH =>
    intro hv ht hf
    refine fw_iload_n h rfl rfl ?_
    refine fw_bipush h (-9) rfl (by decide) ?_
    refine fw_icmp_eq h rfl (fun c5 => False.elim (nI_ne9 (n := v) (by omega) c5)) (fun c5 => ?_)
    refine fw_iload_n h rfl rfl ?_
    refine fw_iload_n h rfl rfl ?_
    refine fw_icmp_eq h rfl (fun c10 => ?_) (fun c10 => ?_)
    · refine fw_iload_n h rfl rfl ?_
      refine fw_iload_n h rfl rfl ?_
      refine fw_icmp_ne h rfl (fun c25 => ?_) (fun c25 => ?_)
      · refine fw_iconst h (nI 0) rfl (by decide) ?_
        exact fw_zret h rfl rfl (by first | exact Or.inl rfl | exact Or.inr rfl | assumption) ⟨_, rfl, False.elim (c25 c10)⟩
      · refine fw_iconst h (nI 1) rfl (by decide) ?_
        refine fw_goto h rfl ?_
        exact fw_zret h rfl rfl (by first | exact Or.inl rfl | exact Or.inr rfl | assumption) ⟨_, rfl, ht (by rw [(nI_eq (by omega) (by omega)).mp c25]; exact fp_in_t _ _)⟩
    · refine fw_aload_n h rfl rfl ?_
      refine fw_getR _ h rfl fk_g_X8_35 rfl rfl ?_
      refine fw_iload_n h rfl rfl ?_
      refine fn_iald h rfl rfl (by omega) rfl ?_
      rcases hwh v (by omega) with e | ⟨q, hq, e⟩
      · rw [e]
        refine fw_istore_n h [_, _, _, _] rfl rfl rfl rfl ?_
        refine fw_goto h rfl ?_
        exact lp_X8_isWithin_0 h hu (hf (fp_in_0 e (fun z => c10 (by rw [z]))))
      · rw [e]
        refine fw_istore_n h [_, _, _, _] rfl rfl rfl rfl ?_
        refine fw_goto h rfl ?_
        have e2 := fp_in_s (v := u) e hq (by omega) (fun z => c10 (by rw [z]))
        exact IH q hq (by omega) (fun z => ht (by rw [e2]; exact z)) (fun z => hf (by rw [e2]; exact z))
theorem c_X8_isWithin {l : Launch} {w : fb_Wd} {P : Int32 → fb_Wd → Prop} {t u n : Nat} (hn : n ≤ 20) (hwh : fp_wh n (w.1 54)) (htn : t < n) (hu : u < 20) (ht : fp_in (w.1 54) t u = true → P 1 w) (hf : fp_in (w.1 54) t u = false → P 0 w) : fb_Can l tX8_isWithin [.ref 46, .int (nI t), .int (nI u)] w (fb_kI P) := by
  refine fb_intro 1 fk_t_X8_isWithin (by decide) rfl (fun X hX h => ?_)
  subst hX
  change fb_AW tX8_isWithin X 0 [some (.ref 46), some (.int (nI t)), some (.int (nI u)), none] [] w
  refine fw_iload_n h rfl rfl ?_
  refine fw_istore_n h [_, _, _, _] rfl rfl rfl rfl ?_
  exact lp_X8_isWithin h hn hwh hu t htn ht hf
def fp_price (wh wo : Nat → Int32) (n t : Nat) : Int32 := fp_sum (fun k => if fp_in wh k t = true then wo k else 0) n
theorem c_X8_priceOf {l : Launch} {w : fb_Wd} {P : Int32 → fb_Wd → Prop} {t n : Nat} (hn : n ≤ 20) (hnt : w.1 46 8 = nI n) (hwh : fp_wh n (w.1 54)) (ht : t < 20) (hp : P (fp_price (w.1 54) (w.1 53) n t) w) : fb_Can l tX8_priceOf [.ref 46, .int (nI t)] w (fb_kI P) := by
  refine fb_intro 2 fk_t_X8_priceOf (by decide) rfl (fun X hX h => ?_)
  subst hX
  change fb_AW tX8_priceOf X 0 [some (.ref 46), some (.int (nI t)), none, none] [] w
  refine fw_iconst h (nI 0) rfl (by decide) ?_
  refine fw_istore_n h [_, _, _, _] rfl rfl rfl rfl ?_
  refine fw_iconst h (nI 0) rfl (by decide) ?_
  refine fw_istore_n h [_, _, _, _] rfl rfl rfl rfl ?_
  refine fb_loop (fun i => fb_AW tX8_priceOf X 4 [some (.ref 46), some (.int (nI t)), some (.int (fp_sum (fun k => if fp_in (w.1 54) k t = true then w.1 53 k else 0) i)), some (.int (nI i))] [] w) (n) ?_ (fun i hi ih => ?_) 0 (Nat.zero_le _)
  · refine fw_iload_n h rfl rfl ?_
    refine fw_aload_n h rfl rfl ?_
    refine fw_getI h rfl fk_g_X8_124 rfl rfl ?_
    refine fw_icmp_ge h rfl (fun c9 => ?_) (fun c9 => False.elim (c9 (by rw [hnt]; exact Int32.le_refl _)))
    refine fw_iload_n h rfl rfl ?_
    exact fw_iret h rfl rfl ⟨_, rfl, hp⟩
  · refine fw_iload_n h rfl rfl ?_
    refine fw_aload_n h rfl rfl ?_
    refine fw_getI h rfl fk_g_X8_124 rfl rfl ?_
    refine fw_icmp_ge h rfl (fun c9 => False.elim (by rw [hnt] at c9; exact nI_ge hi (by omega) c9)) (fun c9 => ?_)
    refine fw_iload_n h rfl rfl ?_
    refine fw_aload_n h rfl rfl ?_
    refine fw_iload_n h rfl rfl ?_
    refine fw_iload_n h rfl rfl ?_
    refine fw_v2I h rfl fk_v_X8_isWithin fk_l_X8_133 rfl rfl rfl rfl ?_
    refine c_X8_isWithin hn hwh (by omega) (by omega) (fun c16 => ?_) (fun c16 => ?_)
    · refine fw_if_eq h rfl (fun c => absurd c (by decide)) (fun _ => ?_)
      refine fw_aload_n h rfl rfl ?_
      refine fw_getR _ h rfl fk_g_X8_32 rfl rfl ?_
      refine fw_iload_n h rfl rfl ?_
      refine fn_iald h rfl rfl (by omega) rfl ?_
      refine fw_goto h rfl ?_
      first | refine fn_iadd h rfl ?_ | refine fw_iadd h rfl ?_
      refine fw_istore_n h [_, _, _, _] rfl rfl rfl rfl ?_
      first | refine fn_iinc h [_, _, _, _] rfl rfl rfl rfl rfl ?_ | refine fw_iinc h 1 [_, _, _, _] rfl (by decide) rfl rfl rfl rfl ?_
      refine fw_goto h rfl ?_
      exact fw_cg (by simp only [fp_sum, c16]; first | rfl | simp only [if_true, if_false, if_pos, reduceIte, Bool.false_eq_true]; first | done | rfl) ih
    · refine fw_if_eq h rfl (fun _ => ?_) (fun c => absurd c (by decide))
      refine fw_iconst h (nI 0) rfl (by decide) ?_
      first | refine fn_iadd h rfl ?_ | refine fw_iadd h rfl ?_
      refine fw_istore_n h [_, _, _, _] rfl rfl rfl rfl ?_
      first | refine fn_iinc h [_, _, _, _] rfl rfl rfl rfl rfl ?_ | refine fw_iinc h 1 [_, _, _, _] rfl (by decide) rfl rfl rfl rfl ?_
      refine fw_goto h rfl ?_
      exact fw_cg (by simp only [fp_sum, c16]; first | rfl | simp only [if_true, if_false, if_pos, reduceIte, Bool.false_eq_true]; first | done | rfl) ih
def fp_dbt (su : Nat → Int32) (d m : Nat) : Nat := fp_cnt (fun k => decide (su (10 * d + k) = 0)) m
theorem c_X8_doubts {l : Launch} {w : fb_Wd} {P : Int32 → fb_Wd → Prop} {d m : Nat} (hd : d < 12) (hm : w.1 59 d = nI m) (hm2 : m ≤ 10) (hp : P (nI (fp_dbt (w.1 63) d m)) w) : fb_Can l tX8_doubts [.ref 46, .int (nI d)] w (fb_kI P) := by
  refine fb_intro 2 fk_t_X8_doubts (by decide) rfl (fun X hX h => ?_)
  subst hX
  change fb_AW tX8_doubts X 0 [some (.ref 46), some (.int (nI d)), none, none] [] w
  refine fw_iconst h (nI 0) rfl (by decide) ?_
  refine fw_istore_n h [_, _, _, _] rfl rfl rfl rfl ?_
  refine fw_iconst h (nI 0) rfl (by decide) ?_
  refine fw_istore_n h [_, _, _, _] rfl rfl rfl rfl ?_
  refine fb_loop (fun i => fb_AW tX8_doubts X 4 [some (.ref 46), some (.int (nI d)), some (.int (nI (fp_dbt (w.1 63) d i))), some (.int (nI i))] [] w) (m) ?_ (fun i hi ih => ?_) 0 (Nat.zero_le _)
  · refine fw_iload_n h rfl rfl ?_
    refine fw_aload_n h rfl rfl ?_
    refine fw_getR _ h rfl fk_g_X8_50 rfl rfl ?_
    refine fw_iload_n h rfl rfl ?_
    refine fn_iald h rfl rfl (by omega) rfl ?_
    refine fw_icmp_ge h rfl (fun c11 => ?_) (fun c11 => False.elim (c11 (by rw [hm]; exact Int32.le_refl _)))
    refine fw_iload_n h rfl rfl ?_
    exact fw_iret h rfl rfl ⟨_, rfl, hp⟩
  · refine fw_iload_n h rfl rfl ?_
    refine fw_aload_n h rfl rfl ?_
    refine fw_getR _ h rfl fk_g_X8_50 rfl rfl ?_
    refine fw_iload_n h rfl rfl ?_
    refine fn_iald h rfl rfl (by omega) rfl ?_
    refine fw_icmp_ge h rfl (fun c11 => False.elim (by rw [hm] at c11; exact nI_ge hi (by omega) c11)) (fun c11 => ?_)
    refine fw_iload_n h rfl rfl ?_
    refine fw_aload_n h rfl rfl ?_
    refine fw_getR _ h rfl fk_g_X8_62 rfl rfl ?_
    refine fw_bipush h (nI 10) rfl (by decide) ?_
    refine fw_iload_n h rfl rfl ?_
    first | refine fn_imul h rfl ?_ | refine fw_imul h rfl ?_
    refine fw_iload_n h rfl rfl ?_
    first | refine fn_iadd h rfl ?_ | refine fw_iadd h rfl ?_
    refine fn_zald h rfl rfl (by omega) rfl ?_
    refine fw_if_eq h rfl (fun c26 => ?_) (fun c26 => ?_)
    · refine fw_iconst h (nI 1) rfl (by decide) ?_
      first | refine fn_iadd h rfl ?_ | refine fw_iadd h rfl ?_
      refine fw_istore_n h [_, _, _, _] rfl rfl rfl rfl ?_
      first | refine fn_iinc h [_, _, _, _] rfl rfl rfl rfl rfl ?_ | refine fw_iinc h 1 [_, _, _, _] rfl (by decide) rfl rfl rfl rfl ?_
      refine fw_goto h rfl ?_
      exact fw_cg (by simp [fp_dbt, fp_cnt, c26]) ih
    · refine fw_iconst h (nI 0) rfl (by decide) ?_
      refine fw_goto h rfl ?_
      first | refine fn_iadd h rfl ?_ | refine fw_iadd h rfl ?_
      refine fw_istore_n h [_, _, _, _] rfl rfl rfl rfl ?_
      first | refine fn_iinc h [_, _, _, _] rfl rfl rfl rfl rfl ?_ | refine fw_iinc h 1 [_, _, _, _] rfl (by decide) rfl rfl rfl rfl ?_
      refine fw_goto h rfl ?_
      exact fw_cg (by simp [fp_dbt, fp_cnt, c26]) ih
theorem fp_dbt_le (su : Nat → Int32) (d m : Nat) : fp_dbt su d m ≤ m := fp_cnt_le _ m
theorem c_X8_readings {l : Launch} {w : fb_Wd} {P : Int32 → fb_Wd → Prop} {d m : Nat} (hd : d < 12) (hm : w.1 59 d = nI m) (hm2 : m ≤ 10) (hp : P (nI (2 ^ fp_dbt (w.1 63) d m)) w) : fb_Can l tX8_readings [.ref 46, .int (nI d)] w (fb_kI P) := by
  refine fb_intro 0 fk_t_X8_readings (by decide) rfl (fun X hX h => ?_)
  subst hX
  change fb_AW tX8_readings X 0 [some (.ref 46), some (.int (nI d))] [] w
  refine fw_iconst h (nI 1) rfl (by decide) ?_
  refine fw_aload_n h rfl rfl ?_
  refine fw_iload_n h rfl rfl ?_
  refine fw_v1I h rfl fk_v_X8_doubts fk_l_X8_169 rfl rfl rfl rfl ?_
  refine c_X8_doubts hd hm hm2 ?_
  refine fw_ishl h rfl ?_
  exact fw_iret h rfl rfl ⟨_, rfl, by have := fp_dbt_le (w.1 63) d m; rw [fp_pow _ (by omega)]; exact hp⟩
def fp_put (w : fb_Wd) (d m : Nat) (s a b z : Int32) : fb_Wd := fb_up (fb_up (fb_up (fb_up (fb_up w 60 (10 * d + m) s) 61 (10 * d + m) a) 62 (10 * d + m) b) 63 (10 * d + m) z) 59 d (w.1 59 d + 1)
theorem c_X8_put {l : Launch} {w : fb_Wd} {P : fb_Wd → Prop} {d m : Nat} {s a b z : Int32} (hd : d < 12) (hm : w.1 59 d = nI m) (hm2 : m < 10) (hz : z = 0 ∨ z = 1) (hp : ∀ b2, (s = 1 → b2 = b) → (¬ s = 1 → b2 = -9) → P (fp_put w d m s a b2 z)) : fb_Can l tX8_put [.ref 46, .int (nI d), .int s, .int a, .int b, .int z] w (fb_kV P) := by
  refine fb_intro 1 fk_t_X8_put (by decide) rfl (fun X hX h => ?_)
  subst hX
  change fb_AW tX8_put X 0 [some (.ref 46), some (.int (nI d)), some (.int s), some (.int a), some (.int b), some (.int z), none] [] w
  refine fw_bipush h (nI 10) rfl (by decide) ?_
  refine fw_iload_n h rfl rfl ?_
  first | refine fn_imul h rfl ?_ | refine fw_imul h rfl ?_
  refine fw_aload_n h rfl rfl ?_
  refine fw_getR _ h rfl fk_g_X8_50 rfl rfl ?_
  refine fw_iload_n h rfl rfl ?_
  refine fn_iald h rfl rfl (by omega) rfl ?_
  rw [hm]
  first | refine fn_iadd h rfl ?_ | refine fw_iadd h rfl ?_
  refine fw_istore h [_, _, _, _, _, _, _] rfl rfl rfl rfl ?_
  refine fw_aload_n h rfl rfl ?_
  refine fw_getR _ h rfl fk_g_X8_53 rfl rfl ?_
  refine fw_iload h rfl rfl ?_
  refine fw_iload_n h rfl rfl ?_
  refine fn_iast h rfl rfl (by omega) rfl ?_
  refine fw_aload_n h rfl rfl ?_
  refine fw_getR _ h rfl fk_g_X8_56 rfl rfl ?_
  refine fw_iload h rfl rfl ?_
  refine fw_iload_n h rfl rfl ?_
  refine fn_iast h rfl rfl (by omega) rfl ?_
  refine fw_aload_n h rfl rfl ?_
  refine fw_getR _ h rfl fk_g_X8_59 rfl rfl ?_
  refine fw_iload h rfl rfl ?_
  refine fw_iload_n h rfl rfl ?_
  refine fw_iconst h (nI 1) rfl (by decide) ?_
  refine fw_icmp_ne h rfl (fun c37 => ?_) (fun c37 => ?_)
  · refine fw_bipush h (-9) rfl (by decide) ?_
    refine fn_iast h rfl rfl (by omega) rfl ?_
    refine fw_aload_n h rfl rfl ?_
    refine fw_getR _ h rfl fk_g_X8_62 rfl rfl ?_
    refine fw_iload h rfl rfl ?_
    refine fw_iload h rfl rfl ?_
    refine fn_zast h rfl rfl (by omega) rfl (by first | assumption | decide) ?_
    refine fw_aload_n h rfl rfl ?_
    refine fw_getR _ h rfl fk_g_X8_50 rfl rfl ?_
    refine fw_iload_n h rfl rfl ?_
    refine fw_dup2 h rfl rfl rfl ?_
    refine fn_iald h rfl rfl (hd) rfl ?_
    refine fw_iconst h (nI 1) rfl (by decide) ?_
    first | refine fn_iadd h rfl ?_ | refine fw_iadd h rfl ?_
    refine fn_iast h rfl rfl (hd) rfl ?_
    exact fw_vret h rfl rfl ⟨rfl, by first | exact hp b (fun _ => rfl) (fun q => absurd c37 q) | exact hp (-9) (fun q => absurd q c37) (fun _ => rfl)⟩
  · refine fw_iload h rfl rfl ?_
    refine fw_goto h rfl ?_
    refine fn_iast h rfl rfl (by omega) rfl ?_
    refine fw_aload_n h rfl rfl ?_
    refine fw_getR _ h rfl fk_g_X8_62 rfl rfl ?_
    refine fw_iload h rfl rfl ?_
    refine fw_iload h rfl rfl ?_
    refine fn_zast h rfl rfl (by omega) rfl (by first | assumption | decide) ?_
    refine fw_aload_n h rfl rfl ?_
    refine fw_getR _ h rfl fk_g_X8_50 rfl rfl ?_
    refine fw_iload_n h rfl rfl ?_
    refine fw_dup2 h rfl rfl rfl ?_
    refine fn_iald h rfl rfl (hd) rfl ?_
    refine fw_iconst h (nI 1) rfl (by decide) ?_
    first | refine fn_iadd h rfl ?_ | refine fw_iadd h rfl ?_
    refine fn_iast h rfl rfl (hd) rfl ?_
    exact fw_vret h rfl rfl ⟨rfl, by first | exact hp b (fun _ => rfl) (fun q => absurd c37 q) | exact hp (-9) (fun q => absurd q c37) (fun _ => rfl)⟩
def fp_setText (w : fb_Wd) (k : Nat) (r z f : Int32) : fb_Wd := fb_up (fb_up (fb_up w 65 k r) 66 k z) 67 k f
theorem c_X8_setText {l : Launch} {w : fb_Wd} {P : fb_Wd → Prop} {k : Nat} {r z f : Int32} (hk : k < 9) (hz : z = 0 ∨ z = 1) (hp : P (fp_setText w k r z f)) : fb_Can l tX8_setText [.ref 46, .int (nI k), .int r, .int z, .int f] w (fb_kV P) := by
  refine fb_intro 0 fk_t_X8_setText (by decide) rfl (fun X hX h => ?_)
  subst hX
  change fb_AW tX8_setText X 0 [some (.ref 46), some (.int (nI k)), some (.int r), some (.int z), some (.int f)] [] w
  refine fw_aload_n h rfl rfl ?_
  refine fw_getR _ h rfl fk_g_X8_69 rfl rfl ?_
  refine fw_iload_n h rfl rfl ?_
  refine fw_iload_n h rfl rfl ?_
  refine fn_iast h rfl rfl (by omega) rfl ?_
  refine fw_aload_n h rfl rfl ?_
  refine fw_getR _ h rfl fk_g_X8_72 rfl rfl ?_
  refine fw_iload_n h rfl rfl ?_
  refine fw_iload_n h rfl rfl ?_
  refine fn_zast h rfl rfl (by omega) rfl (by first | assumption | decide) ?_
  refine fw_aload_n h rfl rfl ?_
  refine fw_getR _ h rfl fk_g_X8_75 rfl rfl ?_
  refine fw_iload_n h rfl rfl ?_
  refine fw_iload h rfl rfl ?_
  refine fn_iast h rfl rfl (by omega) rfl ?_
  exact fw_vret h rfl rfl ⟨rfl, hp⟩
def fp_force (ty : Nat → Int32) (y : Int32) : Nat → Int32
  | 0 => -9
  | k + 1 => if ty k ≤ y ∧ (fp_force ty y k < 0 ∨ ty (fp_force ty y k).toNatClampNeg ≤ ty k) then nI k else fp_force ty y k
theorem fp_force_1 {ty : Nat → Int32} {y : Int32} {k : Nat} (h1 : ¬ y < ty k) (h2 : fp_force ty y k < 0) : fp_force ty y (k + 1) = nI k := if_pos ⟨Int32.not_lt.mp h1, Or.inl h2⟩
theorem fp_force_2 {ty : Nat → Int32} {y : Int32} {k : Nat} (h1 : ¬ y < ty k) (h2 : ¬ ty k < ty (fp_force ty y k).toNatClampNeg) : fp_force ty y (k + 1) = nI k := if_pos ⟨Int32.not_lt.mp h1, Or.inr (Int32.not_lt.mp h2)⟩
theorem fp_force_3 {ty : Nat → Int32} {y : Int32} {k : Nat} (h1 : ¬ fp_force ty y k < 0) (h2 : ty k < ty (fp_force ty y k).toNatClampNeg) : fp_force ty y (k + 1) = fp_force ty y k := if_neg (fun q => q.2.elim h1 (fun z => absurd h2 (Int32.not_lt.mpr z)))
theorem fp_force_4 {ty : Nat → Int32} {y : Int32} {k : Nat} (h1 : y < ty k) : fp_force ty y (k + 1) = fp_force ty y k := if_neg (fun q => absurd h1 (Int32.not_lt.mpr q.1))
theorem fp_force_in (ty : Nat → Int32) (y : Int32) : ∀ k, fp_force ty y k = -9 ∨ ∃ j, j < k ∧ fp_force ty y k = nI j
  | 0 => Or.inl rfl
  | k + 1 => by
    rw [fp_force]
    split
    · exact Or.inr ⟨k, Nat.lt_succ_self k, rfl⟩
    · rcases fp_force_in ty y k with h | ⟨j, hj, h⟩
      · exact Or.inl h
      · exact Or.inr ⟨j, by omega, h⟩
theorem fp_force_vp {ty : Nat → Int32} {y : Int32} {k n : Nat} (hk : k ≤ n) (hn : n < 2 ^ 31) (h : ¬ fp_force ty y k < 0) : vp_in (fp_force ty y k) n := by
  rcases fp_force_in ty y k with e | ⟨j, hj, e⟩
  · exact absurd (by rw [e]; decide) h
  · rw [e]
    exact vp_in_nI (by omega) hn
theorem c_X8_forceIn {l : Launch} {w : fb_Wd} {P : Int32 → fb_Wd → Prop} {y : Int32} {n : Nat} (hnx : w.1 46 27 = nI n) (hn : n ≤ 8) (hp : P (fp_force (w.1 64) y n) w) : fb_Can l tX8_forceIn [.ref 46, .int y] w (fb_kI P) := by
  refine fb_intro 2 fk_t_X8_forceIn (by decide) rfl (fun X hX h => ?_)
  subst hX
  change fb_AW tX8_forceIn X 0 [some (.ref 46), some (.int y), none, none] [] w
  refine fw_bipush h (-9) rfl (by decide) ?_
  refine fw_istore_n h [_, _, _, _] rfl rfl rfl rfl ?_
  refine fw_iconst h (nI 0) rfl (by decide) ?_
  refine fw_istore_n h [_, _, _, _] rfl rfl rfl rfl ?_
  refine fb_loop (fun i => fb_AW tX8_forceIn X 5 [some (.ref 46), some (.int y), some (.int (fp_force (w.1 64) y i)), some (.int (nI i))] [] w) (n) ?_ (fun i hi ih => ?_) 0 (Nat.zero_le _)
  · refine fw_iload_n h rfl rfl ?_
    refine fw_aload_n h rfl rfl ?_
    refine fw_getI h rfl fk_g_X8_226 rfl rfl ?_
    refine fw_icmp_ge h rfl (fun c10 => ?_) (fun c10 => False.elim (c10 (by rw [hnx]; exact Int32.le_refl _)))
    refine fw_iload_n h rfl rfl ?_
    exact fw_iret h rfl rfl ⟨_, rfl, hp⟩
  · refine fw_iload_n h rfl rfl ?_
    refine fw_aload_n h rfl rfl ?_
    refine fw_getI h rfl fk_g_X8_226 rfl rfl ?_
    refine fw_icmp_ge h rfl (fun c10 => False.elim (by rw [hnx] at c10; exact nI_ge hi (by omega) c10)) (fun c10 => ?_)
    refine fw_aload_n h rfl rfl ?_
    refine fw_getR _ h rfl fk_g_X8_66 rfl rfl ?_
    refine fw_iload_n h rfl rfl ?_
    refine fn_iald h rfl rfl (by omega) rfl ?_
    refine fw_iload_n h rfl rfl ?_
    refine fw_icmp_gt h rfl (fun c20 => ?_) (fun c20 => ?_)
    · refine fw_iload_n h rfl rfl ?_
      refine fw_istore_n h [_, _, _, _] rfl rfl rfl rfl ?_
      first | refine fn_iinc h [_, _, _, _] rfl rfl rfl rfl rfl ?_ | refine fw_iinc h 1 [_, _, _, _] rfl (by decide) rfl rfl rfl rfl ?_
      refine fw_goto h rfl ?_
      first
        | exact fw_cg (congrArg (fun z => [some (Value.ref 46), some (Value.int y), some (Value.int z), some (Value.int (nI (i + 1)))]) (fp_force_1 c20 c24)) ih
        | exact fw_cg (congrArg (fun z => [some (Value.ref 46), some (Value.int y), some (Value.int z), some (Value.int (nI (i + 1)))]) (fp_force_2 c20 c39)) ih
        | exact fw_cg (congrArg (fun z => [some (Value.ref 46), some (Value.int y), some (Value.int z), some (Value.int (nI (i + 1)))]) (fp_force_3 c24 c39)) ih
        | exact fw_cg (congrArg (fun z => [some (Value.ref 46), some (Value.int y), some (Value.int z), some (Value.int (nI (i + 1)))]) (fp_force_4 c20)) ih
    · refine fw_iload_n h rfl rfl ?_
      refine fw_if_lt h rfl (fun c24 => ?_) (fun c24 => ?_)
      · refine fw_iload_n h rfl rfl ?_
        refine fw_goto h rfl ?_
        refine fw_istore_n h [_, _, _, _] rfl rfl rfl rfl ?_
        first | refine fn_iinc h [_, _, _, _] rfl rfl rfl rfl rfl ?_ | refine fw_iinc h 1 [_, _, _, _] rfl (by decide) rfl rfl rfl rfl ?_
        refine fw_goto h rfl ?_
        first
          | exact fw_cg (congrArg (fun z => [some (Value.ref 46), some (Value.int y), some (Value.int z), some (Value.int (nI (i + 1)))]) (fp_force_1 c20 c24)) ih
          | exact fw_cg (congrArg (fun z => [some (Value.ref 46), some (Value.int y), some (Value.int z), some (Value.int (nI (i + 1)))]) (fp_force_2 c20 c39)) ih
          | exact fw_cg (congrArg (fun z => [some (Value.ref 46), some (Value.int y), some (Value.int z), some (Value.int (nI (i + 1)))]) (fp_force_3 c24 c39)) ih
          | exact fw_cg (congrArg (fun z => [some (Value.ref 46), some (Value.int y), some (Value.int z), some (Value.int (nI (i + 1)))]) (fp_force_4 c20)) ih
      · refine fw_aload_n h rfl rfl ?_
        refine fw_getR _ h rfl fk_g_X8_66 rfl rfl ?_
        refine fw_iload_n h rfl rfl ?_
        refine fn_iald h rfl rfl (by omega) rfl ?_
        refine fw_aload_n h rfl rfl ?_
        refine fw_getR _ h rfl fk_g_X8_66 rfl rfl ?_
        refine fw_iload_n h rfl rfl ?_
        refine fw_iald h rfl rfl (fp_force_vp (by omega) (by omega) c24) ?_
        refine fw_icmp_lt h rfl (fun c39 => ?_) (fun c39 => ?_)
        · refine fw_iload_n h rfl rfl ?_
          refine fw_istore_n h [_, _, _, _] rfl rfl rfl rfl ?_
          first | refine fn_iinc h [_, _, _, _] rfl rfl rfl rfl rfl ?_ | refine fw_iinc h 1 [_, _, _, _] rfl (by decide) rfl rfl rfl rfl ?_
          refine fw_goto h rfl ?_
          first
            | exact fw_cg (congrArg (fun z => [some (Value.ref 46), some (Value.int y), some (Value.int z), some (Value.int (nI (i + 1)))]) (fp_force_1 c20 c24)) ih
            | exact fw_cg (congrArg (fun z => [some (Value.ref 46), some (Value.int y), some (Value.int z), some (Value.int (nI (i + 1)))]) (fp_force_2 c20 c39)) ih
            | exact fw_cg (congrArg (fun z => [some (Value.ref 46), some (Value.int y), some (Value.int z), some (Value.int (nI (i + 1)))]) (fp_force_3 c24 c39)) ih
            | exact fw_cg (congrArg (fun z => [some (Value.ref 46), some (Value.int y), some (Value.int z), some (Value.int (nI (i + 1)))]) (fp_force_4 c20)) ih
        · refine fw_iload_n h rfl rfl ?_
          refine fw_goto h rfl ?_
          refine fw_istore_n h [_, _, _, _] rfl rfl rfl rfl ?_
          first | refine fn_iinc h [_, _, _, _] rfl rfl rfl rfl rfl ?_ | refine fw_iinc h 1 [_, _, _, _] rfl (by decide) rfl rfl rfl rfl ?_
          refine fw_goto h rfl ?_
          first
            | exact fw_cg (congrArg (fun z => [some (Value.ref 46), some (Value.int y), some (Value.int z), some (Value.int (nI (i + 1)))]) (fp_force_1 c20 c24)) ih
            | exact fw_cg (congrArg (fun z => [some (Value.ref 46), some (Value.int y), some (Value.int z), some (Value.int (nI (i + 1)))]) (fp_force_2 c20 c39)) ih
            | exact fw_cg (congrArg (fun z => [some (Value.ref 46), some (Value.int y), some (Value.int z), some (Value.int (nI (i + 1)))]) (fp_force_3 c24 c39)) ih
            | exact fw_cg (congrArg (fun z => [some (Value.ref 46), some (Value.int y), some (Value.int z), some (Value.int (nI (i + 1)))]) (fp_force_4 c20)) ih
def fp_fst (p : Nat → Bool) : Nat → Int32
  | 0 => -9
  | n + 1 => if fp_fst p n = -9 then (if p n = true then nI n else -9) else fp_fst p n
theorem fp_fst_none {p : Nat → Bool} : ∀ {n : Nat}, (∀ j, j < n → p j = false) → fp_fst p n = -9
  | 0, _ => rfl
  | n + 1, h => by rw [fp_fst, fp_fst_none (n := n) (fun j hj => h j (by omega)), if_pos rfl, h n (by omega)]; rfl
theorem fp_fst_some {p : Nat → Bool} {g : Nat} (hp : p g = true) (hb : ∀ j, j < g → p j = false) (hg : g < 2 ^ 31) : ∀ {n : Nat}, g < n → fp_fst p n = nI g
  | 0, h => by omega
  | n + 1, h => by
    rw [fp_fst]
    by_cases e : g = n
    · subst e
      rw [fp_fst_none hb, if_pos rfl, hp]; rfl
    · rw [fp_fst_some hp hb hg (n := n) (by omega), if_neg (nI_ne9 hg)]
def fp_gr (pl yr so gp gf gt gs : Nat → Int32) (d t g : Nat) : Bool := decide (gp g = pl d) && decide (gf g ≤ yr d) && decide (yr d ≤ gt g) && bt (gs g) (so t).toNatClampNeg
theorem c_X8_grantFor {l : Launch} {w : fb_Wd} {P : Int32 → fb_Wd → Prop} {d t n s : Nat} (hd : d < 12) (ht : t < 20) (hs : w.1 52 t = nI s) (hs2 : s < 10) (hng : w.1 46 38 = nI n) (hn : n ≤ 10) (hp : P (fp_fst (fp_gr (w.1 56) (w.1 57) (w.1 52) (w.1 70) (w.1 71) (w.1 72) (w.1 73) d t) n) w) : fb_Can l tX8_grantFor [.ref 46, .int (nI d), .int (nI t)] w (fb_kI P) := by
  refine fb_intro 1 fk_t_X8_grantFor (by decide) rfl (fun X hX h => ?_)
  subst hX
  change fb_AW tX8_grantFor X 0 [some (.ref 46), some (.int (nI d)), some (.int (nI t)), none] [] w
  refine fw_iconst h (nI 0) rfl (by decide) ?_
  refine fw_istore_n h [_, _, _, _] rfl rfl rfl rfl ?_
  refine (?_ : (∀ j, j < 0 → fp_gr (w.1 56) (w.1 57) (w.1 52) (w.1 70) (w.1 71) (w.1 72) (w.1 73) d t j = false) → _) (fun j hj => by omega)
  refine fb_loop (fun i => (∀ j, j < i → fp_gr (w.1 56) (w.1 57) (w.1 52) (w.1 70) (w.1 71) (w.1 72) (w.1 73) d t j = false) → fb_AW tX8_grantFor X 2 [some (.ref 46), some (.int (nI d)), some (.int (nI t)), some (.int (nI i))] [] w) (n) ?_ (fun i hi ih => ?_) 0 (Nat.zero_le _)
  · intro hb
    refine fw_iload_n h rfl rfl ?_
    refine fw_aload_n h rfl rfl ?_
    refine fw_getI h rfl fk_g_X8_284 rfl rfl ?_
    refine fw_icmp_ge h rfl (fun c7 => ?_) (fun c7 => False.elim (c7 (by rw [hng]; exact Int32.le_refl _)))
    refine fw_iload_n h rfl rfl ?_
    refine fw_aload_n h rfl rfl ?_
    refine fw_getI h rfl fk_g_X8_284 rfl rfl ?_
    refine fw_icmp_ge h rfl (fun c78 => ?_) (fun c78 => False.elim (c78 (by rw [hng]; exact Int32.le_refl _)))
    refine fw_bipush h (-9) rfl (by decide) ?_
    exact fw_iret h rfl rfl ⟨_, rfl, by rw [fp_fst_none hb] at hp; exact hp⟩
  · intro hb
    refine fw_iload_n h rfl rfl ?_
    refine fw_aload_n h rfl rfl ?_
    refine fw_getI h rfl fk_g_X8_284 rfl rfl ?_
    refine fw_icmp_ge h rfl (fun c7 => False.elim (by rw [hng] at c7; exact nI_ge hi (by omega) c7)) (fun c7 => ?_)
    refine fw_aload_n h rfl rfl ?_
    refine fw_getR _ h rfl fk_g_X8_84 rfl rfl ?_
    refine fw_iload_n h rfl rfl ?_
    refine fn_iald h rfl rfl (by omega) rfl ?_
    refine fw_aload_n h rfl rfl ?_
    refine fw_getR _ h rfl fk_g_X8_41 rfl rfl ?_
    refine fw_iload_n h rfl rfl ?_
    refine fn_iald h rfl rfl (by omega) rfl ?_
    refine fw_icmp_ne h rfl (fun c22 => ?_) (fun c22 => ?_)
    · first | refine fn_iinc h [_, _, _, _] rfl rfl rfl rfl rfl ?_ | refine fw_iinc h 1 [_, _, _, _] rfl (by decide) rfl rfl rfl rfl ?_
      refine fw_goto h rfl ?_
      refine ih (fun j hj => ?_)
      rcases Nat.lt_succ_iff_lt_or_eq.mp hj with q | q
      · exact hb j q
      · subst q
        first
          | (unfold fp_gr; rw [decide_eq_false c22]; rfl)
          | (unfold fp_gr; by_cases z1 : w.1 71 j ≤ w.1 57 d
             · rw [decide_eq_false (fun z2 => c43 ⟨z1, z2⟩)]; simp
             · rw [decide_eq_false z1]; simp)
          | (unfold fp_gr; rw [hs, nI_clamp (by omega)]; rw [hs] at c61; rw [(fp_hasn (by omega)).mp c61]; simp)
    · refine fw_aload_n h rfl rfl ?_
      refine fw_getR _ h rfl fk_g_X8_44 rfl rfl ?_
      refine fw_iload_n h rfl rfl ?_
      refine fn_iald h rfl rfl (by omega) rfl ?_
      refine fw_aload_n h rfl rfl ?_
      refine fw_getR _ h rfl fk_g_X8_87 rfl rfl ?_
      refine fw_iload_n h rfl rfl ?_
      refine fn_iald h rfl rfl (by omega) rfl ?_
      refine fw_aload_n h rfl rfl ?_
      refine fw_getR _ h rfl fk_g_X8_90 rfl rfl ?_
      refine fw_iload_n h rfl rfl ?_
      refine fn_iald h rfl rfl (by omega) rfl ?_
      refine fw_s3I h rfl fk_s_X8_in fk_l_X8_109 rfl rfl ?_
      refine c_X8_in (fun c43a c43b => ?_) (fun c43 => ?_)
      · refine fw_if_eq h rfl (fun c => absurd c (by decide)) (fun _ => ?_)
        refine fw_aload_n h rfl rfl ?_
        refine fw_getR _ h rfl fk_g_X8_93 rfl rfl ?_
        refine fw_iload_n h rfl rfl ?_
        refine fn_iald h rfl rfl (by omega) rfl ?_
        refine fw_aload_n h rfl rfl ?_
        refine fw_getR _ h rfl fk_g_X8_29 rfl rfl ?_
        refine fw_iload_n h rfl rfl ?_
        refine fn_iald h rfl rfl (by omega) rfl ?_
        refine fw_s2I h rfl fk_s_X8_has fk_l_X8_185 rfl rfl ?_
        refine c_X8_has (fun c61 => ?_) (fun c61 => ?_)
        · refine fw_if_ne h rfl (fun _ => ?_) (fun c => absurd c (by decide))
          refine fw_iload_n h rfl rfl ?_
          refine fw_aload_n h rfl rfl ?_
          refine fw_getI h rfl fk_g_X8_284 rfl rfl ?_
          refine fw_icmp_ge h rfl (fun c78 => False.elim (by rw [hng] at c78; exact nI_ge hi (by omega) c78)) (fun c78 => ?_)
          refine fw_iload_n h rfl rfl ?_
          refine fw_goto h rfl ?_
          exact fw_iret h rfl rfl ⟨_, rfl, by rw [fp_fst_some (g := i) (by unfold fp_gr; rw [hs] at c61; rw [hs, nI_clamp (by omega), decide_eq_true c22, decide_eq_true c43a, decide_eq_true c43b, (fp_has (by omega)).mp c61]; rfl) hb (by omega) hi] at hp; exact hp⟩
        · refine fw_if_ne h rfl (fun c => absurd c (by decide)) (fun _ => ?_)
          first | refine fn_iinc h [_, _, _, _] rfl rfl rfl rfl rfl ?_ | refine fw_iinc h 1 [_, _, _, _] rfl (by decide) rfl rfl rfl rfl ?_
          refine fw_goto h rfl ?_
          refine ih (fun j hj => ?_)
          rcases Nat.lt_succ_iff_lt_or_eq.mp hj with q | q
          · exact hb j q
          · subst q
            first
              | (unfold fp_gr; rw [decide_eq_false c22]; rfl)
              | (unfold fp_gr; by_cases z1 : w.1 71 j ≤ w.1 57 d
                 · rw [decide_eq_false (fun z2 => c43 ⟨z1, z2⟩)]; simp
                 · rw [decide_eq_false z1]; simp)
              | (unfold fp_gr; rw [hs, nI_clamp (by omega)]; rw [hs] at c61; rw [(fp_hasn (by omega)).mp c61]; simp)
      · refine fw_if_eq h rfl (fun _ => ?_) (fun c => absurd c (by decide))
        first | refine fn_iinc h [_, _, _, _] rfl rfl rfl rfl rfl ?_ | refine fw_iinc h 1 [_, _, _, _] rfl (by decide) rfl rfl rfl rfl ?_
        refine fw_goto h rfl ?_
        refine ih (fun j hj => ?_)
        rcases Nat.lt_succ_iff_lt_or_eq.mp hj with q | q
        · exact hb j q
        · subst q
          first
            | (unfold fp_gr; rw [decide_eq_false c22]; rfl)
            | (unfold fp_gr; by_cases z1 : w.1 71 j ≤ w.1 57 d
               · rw [decide_eq_false (fun z2 => c43 ⟨z1, z2⟩)]; simp
               · rw [decide_eq_false z1]; simp)
            | (unfold fp_gr; rw [hs, nI_clamp (by omega)]; rw [hs] at c61; rw [(fp_hasn (by omega)).mp c61]; simp)
