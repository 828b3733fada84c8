theorem fx_shr0 {s : Int32} {i : Nat} (hi : i < 32) (h : s >>> (nI i &&& 31) = 0) : ∀ k, i ≤ k → bt s k = false := by
  intro k hk
  rcases Nat.lt_or_ge k 32 with q | q
  · have h1 := congrArg (fun z => bt z (k - i)) h
    simp only [b_0] at h1
    rw [b_sshr i hi s (by omega), if_pos (by omega), show i + (k - i) = k by omega] at h1
    exact h1
  · exact b_big q
theorem fp_orF_st {g : Nat → Int32} {i : Nat} : ∀ {n : Nat}, i ≤ n → (∀ k, i ≤ k → k < n → g k = nI 0) → fp_orF g n = fp_orF g i
  | 0, h, _ => by rw [show i = 0 by omega]
  | n + 1, h, hz => by
    by_cases e : i = n + 1
    · rw [e]
    · rw [fp_orF_0 (hz n (by omega) (by omega)), fp_orF_st (n := n) (by omega) (fun k h1 h2 => hz k h1 (by omega))]
theorem fp_mk_st {f : Nat → Bool} {i : Nat} : ∀ {n : Nat}, i ≤ n → (∀ k, i ≤ k → k < n → f k = false) → fp_mk f n = fp_mk f i
  | 0, h, _ => by rw [show i = 0 by omega]
  | n + 1, h, hz => by
    by_cases e : i = n + 1
    · rw [e]
    · rw [← fp_mk_0 (hz n (by omega) (by omega)), fq_inv_or0, fp_mk_st (n := n) (by omega) (fun k h1 h2 => hz k h1 (by omega))]
theorem fp_sum_st {g : Nat → Int32} {i : Nat} : ∀ {n : Nat}, i ≤ n → (∀ k, i ≤ k → k < n → g k = nI 0) → fp_sum g n = fp_sum g i
  | 0, h, _ => by rw [show i = 0 by omega]
  | n + 1, h, hz => by
    by_cases e : i = n + 1
    · rw [e]
    · rw [fp_sum_z (hz n (by omega) (by omega)), fp_sum_st (n := n) (by omega) (fun k h1 h2 => hz k h1 (by omega))]
theorem fp_mk_s1 {f : Nat → Bool} {n : Nat} (h : f n = true) : fp_mk f (n + 1) = fp_mk f n ||| nI 1 <<< (nI n &&& 31) := (fp_mk_1 h).symm
theorem fp_mk_s0 {f : Nat → Bool} {n : Nat} (h : f n = false) : fp_mk f (n + 1) = fp_mk f n := by rw [← fp_mk_0 h, fq_inv_or0]
def fx_os (f : Nat → Int32) (so : Int32) (n : Nat) : Int32 := fp_mk (fun t => bt so (f t).toNatClampNeg) n
def fx_to (f : Nat → Int32) (s : Int32) (n : Nat) : Int32 := fp_orF (fun t => if bt s t = true then fx_bo (f t) else nI 0) n
def fx_wp (f : Nat → Int32) (s : Int32) (n : Nat) : Int32 := fp_mk (fun t => bt s t && decide (f t &&& s = 0)) n
def fx_pv (f : Nat → Int32) (s : Int32) (n : Nat) : Int32 := fp_sum (fun t => if bt s t = true then f t else nI 0) n
theorem fx_ifb {b : Bool} {x : Int32} (h : b = false) : (if b = true then x else nI 0) = nI 0 := by rw [h]; rfl
theorem c_X6_has {l : Launch} {w : fb_Wd} {P : Int32 → fb_Wd → Prop} {a : Int32} {n : Nat} (hn : w.1 2 12 = nI n) (hn2 : n ≤ 20) (ht : ∀ j, j < n → a = nI j → P 1 w) (hf : ¬ (∃ j, j < n ∧ a = nI j) → P 0 w) : fb_Can l tX6_has [.ref 2, .int a] w (fb_kI P) := by
  refine fb_intro 0 fk_t_X6_has (by decide) rfl (fun X hX h => ?_)
  subst hX
  change fb_AW tX6_has X 0 [some (.ref 2), some (.int a)] [] w
  refine fw_iload_n h rfl rfl ?_
  refine fw_aload_n h rfl rfl ?_
  refine fw_getI h rfl fk_g_X6_49 rfl rfl ?_
  rw [hn]
  refine fw_s2I h rfl fk_s_X7_isBelow fk_l_X6_52 rfl rfl ?_
  refine c_X7_isBelow (by omega) (fun j hj e => ?_) (fun c5 => ?_)
  · exact fw_zret h rfl rfl (by first | exact Or.inl rfl | exact Or.inr rfl | assumption) ⟨_, rfl, ht j hj e⟩
  · exact fw_zret h rfl rfl (by first | exact Or.inl rfl | exact Or.inr rfl | assumption) ⟨_, rfl, hf c5⟩
theorem c_X6_isA {l : Launch} {w : fb_Wd} {P : Int32 → fb_Wd → Prop} {t : Nat} {kd k0 : Int32} (ht20 : t < 20) (hk : w.1 12 t = k0) (ht : (k0 = kd ∨ (kd = nI 1 ∧ k0 = nI 2)) → P 1 w) (hf : ¬ (k0 = kd ∨ (kd = nI 1 ∧ k0 = nI 2)) → P 0 w) : fb_Can l tX6_isA [.ref 2, .int (nI t), .int kd] w (fb_kI P) := by
  refine fb_intro 0 fk_t_X6_isA (by decide) rfl (fun X hX h => ?_)
  subst hX
  change fb_AW tX6_isA X 0 [some (.ref 2), some (.int (nI t)), some (.int kd)] [] w
  refine fw_aload_n h rfl rfl ?_
  refine fw_getR _ h rfl fk_g_X6_9 rfl rfl ?_
  refine fw_iload_n h rfl rfl ?_
  refine fn_iald h rfl rfl (by omega) rfl ?_
  rw [hk]
  refine fw_iload_n h rfl rfl ?_
  refine fw_icmp_eq h rfl (fun c7 => ?_) (fun c7 => ?_)
  · refine fw_iconst h (nI 1) rfl (by decide) ?_
    refine fw_goto h rfl ?_
    exact fw_zret h rfl rfl (by first | exact Or.inl rfl | exact Or.inr rfl | assumption) ⟨_, rfl, ht (by first | exact Or.inl c7 | exact Or.inr ⟨c12, c22⟩)⟩
  · refine fw_iload_n h rfl rfl ?_
    refine fw_iconst h (nI 1) rfl (by decide) ?_
    refine fw_icmp_ne h rfl (fun c12 => ?_) (fun c12 => ?_)
    · refine fw_iconst h (nI 0) rfl (by decide) ?_
      exact fw_zret h rfl rfl (by first | exact Or.inl rfl | exact Or.inr rfl | assumption) ⟨_, rfl, hf (fun q => q.elim c7 (fun z => by first | exact c12 z.1 | exact c22 z.2))⟩
    · refine fw_aload_n h rfl rfl ?_
      refine fw_getR _ h rfl fk_g_X6_9 rfl rfl ?_
      refine fw_iload_n h rfl rfl ?_
      refine fn_iald h rfl rfl (by omega) rfl ?_
      rw [hk]
      refine fw_iconst h (nI 2) rfl (by decide) ?_
      refine fw_icmp_ne h rfl (fun c22 => ?_) (fun c22 => ?_)
      · refine fw_iconst h (nI 0) rfl (by decide) ?_
        exact fw_zret h rfl rfl (by first | exact Or.inl rfl | exact Or.inr rfl | assumption) ⟨_, rfl, hf (fun q => q.elim c7 (fun z => by first | exact c12 z.1 | exact c22 z.2))⟩
      · refine fw_iconst h (nI 1) rfl (by decide) ?_
        refine fw_goto h rfl ?_
        exact fw_zret h rfl rfl (by first | exact Or.inl rfl | exact Or.inr rfl | assumption) ⟨_, rfl, ht (by first | exact Or.inl c7 | exact Or.inr ⟨c12, c22⟩)⟩
theorem c_X6_fact_0 {l : Launch} {w : fb_Wd} {P : Int32 → fb_Wd → Prop} {t n : Nat} (hn : n ≤ 20) (ht : t < n) (htop : w.1 17 t = nI (fp_top (w.1 15) t)) (hpr : w.1 19 t = fp_price (w.1 15) (w.1 14) n t) (hp : P (fs_tt (xD w) n t 0) w) : fb_Can l tX6_fact [.ref 2, .int (nI t), .int (nI 0)] w (fb_kI P) := by
  refine fb_intro 0 fk_t_X6_fact (by decide) rfl (fun X hX h => ?_)
  subst hX
  change fb_AW tX6_fact X 0 [some (.ref 2), some (.int (nI t)), some (.int (nI 0))] [] w
  refine fw_iload_n h rfl rfl ?_
  refine fw_swI h (t := 40) rfl (by decide) ?_
  refine fw_aload_n h rfl rfl ?_
  refine fw_getR _ h rfl fk_g_X6_9 rfl rfl ?_
  refine fw_iload_n h rfl rfl ?_
  refine fn_iald h rfl rfl (by omega) rfl ?_
  exact fw_iret h rfl rfl ⟨_, rfl, hp⟩
theorem c_X6_fact_1 {l : Launch} {w : fb_Wd} {P : Int32 → fb_Wd → Prop} {t n : Nat} (hn : n ≤ 20) (ht : t < n) (htop : w.1 17 t = nI (fp_top (w.1 15) t)) (hpr : w.1 19 t = fp_price (w.1 15) (w.1 14) n t) (hp : P (fs_tt (xD w) n t 1) w) : fb_Can l tX6_fact [.ref 2, .int (nI t), .int (nI 1)] w (fb_kI P) := by
  refine fb_intro 0 fk_t_X6_fact (by decide) rfl (fun X hX h => ?_)
  subst hX
  change fb_AW tX6_fact X 0 [some (.ref 2), some (.int (nI t)), some (.int (nI 1))] [] w
  refine fw_iload_n h rfl rfl ?_
  refine fw_swI h (t := 47) rfl (by decide) ?_
  refine fw_aload_n h rfl rfl ?_
  refine fw_getR _ h rfl fk_g_X6_15 rfl rfl ?_
  refine fw_iload_n h rfl rfl ?_
  refine fn_iald h rfl rfl (by omega) rfl ?_
  exact fw_iret h rfl rfl ⟨_, rfl, hp⟩
theorem c_X6_fact_2 {l : Launch} {w : fb_Wd} {P : Int32 → fb_Wd → Prop} {t n : Nat} (hn : n ≤ 20) (ht : t < n) (htop : w.1 17 t = nI (fp_top (w.1 15) t)) (hpr : w.1 19 t = fp_price (w.1 15) (w.1 14) n t) (hp : P (fs_tt (xD w) n t 2) w) : fb_Can l tX6_fact [.ref 2, .int (nI t), .int (nI 2)] w (fb_kI P) := by
  refine fb_intro 0 fk_t_X6_fact (by decide) rfl (fun X hX h => ?_)
  subst hX
  change fb_AW tX6_fact X 0 [some (.ref 2), some (.int (nI t)), some (.int (nI 2))] [] w
  refine fw_iload_n h rfl rfl ?_
  refine fw_swI h (t := 54) rfl (by decide) ?_
  refine fw_aload_n h rfl rfl ?_
  refine fw_getR _ h rfl fk_g_X6_18 rfl rfl ?_
  refine fw_iload_n h rfl rfl ?_
  refine fn_iald h rfl rfl (by omega) rfl ?_
  exact fw_iret h rfl rfl ⟨_, rfl, hp⟩
theorem c_X6_fact_3 {l : Launch} {w : fb_Wd} {P : Int32 → fb_Wd → Prop} {t n : Nat} (hn : n ≤ 20) (ht : t < n) (htop : w.1 17 t = nI (fp_top (w.1 15) t)) (hpr : w.1 19 t = fp_price (w.1 15) (w.1 14) n t) (hp : P (fs_tt (xD w) n t 3) w) : fb_Can l tX6_fact [.ref 2, .int (nI t), .int (nI 3)] w (fb_kI P) := by
  refine fb_intro 0 fk_t_X6_fact (by decide) rfl (fun X hX h => ?_)
  subst hX
  change fb_AW tX6_fact X 0 [some (.ref 2), some (.int (nI t)), some (.int (nI 3))] [] w
  refine fw_iload_n h rfl rfl ?_
  refine fw_swI h (t := 61) rfl (by decide) ?_
  refine fw_aload_n h rfl rfl ?_
  refine fw_getR _ h rfl fk_g_X6_21 rfl rfl ?_
  refine fw_iload_n h rfl rfl ?_
  refine fn_iald h rfl rfl (by omega) rfl ?_
  exact fw_iret h rfl rfl ⟨_, rfl, hp⟩
theorem c_X6_fact_4 {l : Launch} {w : fb_Wd} {P : Int32 → fb_Wd → Prop} {t n : Nat} (hn : n ≤ 20) (ht : t < n) (htop : w.1 17 t = nI (fp_top (w.1 15) t)) (hpr : w.1 19 t = fp_price (w.1 15) (w.1 14) n t) (hp : P (fs_tt (xD w) n t 4) w) : fb_Can l tX6_fact [.ref 2, .int (nI t), .int (nI 4)] w (fb_kI P) := by
  refine fb_intro 0 fk_t_X6_fact (by decide) rfl (fun X hX h => ?_)
  subst hX
  change fb_AW tX6_fact X 0 [some (.ref 2), some (.int (nI t)), some (.int (nI 4))] [] w
  refine fw_iload_n h rfl rfl ?_
  refine fw_swI h (t := 68) rfl (by decide) ?_
  refine fw_aload_n h rfl rfl ?_
  refine fw_getR _ h rfl fk_g_X6_27 rfl rfl ?_
  refine fw_iload_n h rfl rfl ?_
  refine fn_iald h rfl rfl (by omega) rfl ?_
  exact fw_iret h rfl rfl ⟨_, rfl, by rw [htop]; exact hp⟩
theorem c_X6_fact_5 {l : Launch} {w : fb_Wd} {P : Int32 → fb_Wd → Prop} {t n : Nat} (hn : n ≤ 20) (ht : t < n) (htop : w.1 17 t = nI (fp_top (w.1 15) t)) (hpr : w.1 19 t = fp_price (w.1 15) (w.1 14) n t) (hp : P (fs_tt (xD w) n t 5) w) : fb_Can l tX6_fact [.ref 2, .int (nI t), .int (nI 5)] w (fb_kI P) := by
  refine fb_intro 0 fk_t_X6_fact (by decide) rfl (fun X hX h => ?_)
  subst hX
  change fb_AW tX6_fact X 0 [some (.ref 2), some (.int (nI t)), some (.int (nI 5))] [] w
  refine fw_iload_n h rfl rfl ?_
  refine fw_swI h (t := 75) rfl (by decide) ?_
  refine fw_aload_n h rfl rfl ?_
  refine fw_getR _ h rfl fk_g_X6_33 rfl rfl ?_
  refine fw_iload_n h rfl rfl ?_
  refine fn_iald h rfl rfl (by omega) rfl ?_
  exact fw_iret h rfl rfl ⟨_, rfl, by rw [hpr]; exact hp⟩
theorem c_X6_fact_6 {l : Launch} {w : fb_Wd} {P : Int32 → fb_Wd → Prop} {t n : Nat} (hn : n ≤ 20) (ht : t < n) (htop : w.1 17 t = nI (fp_top (w.1 15) t)) (hpr : w.1 19 t = fp_price (w.1 15) (w.1 14) n t) (hp : P (fs_tt (xD w) n t 6) w) : fb_Can l tX6_fact [.ref 2, .int (nI t), .int (nI 6)] w (fb_kI P) := by
  refine fb_intro 0 fk_t_X6_fact (by decide) rfl (fun X hX h => ?_)
  subst hX
  change fb_AW tX6_fact X 0 [some (.ref 2), some (.int (nI t)), some (.int (nI 6))] [] w
  refine fw_iload_n h rfl rfl ?_
  refine fw_swO h rfl (by decide) ?_
  refine fw_aload_n h rfl rfl ?_
  refine fw_getR _ h rfl fk_g_X6_24 rfl rfl ?_
  refine fw_iload_n h rfl rfl ?_
  refine fn_iald h rfl rfl (by omega) rfl ?_
  exact fw_iret h rfl rfl ⟨_, rfl, hp⟩
theorem c_X6_fact {l : Launch} {w : fb_Wd} {P : Int32 → fb_Wd → Prop} {t n : Nat} (hn : n ≤ 20) (ht : t < n) (htop : w.1 17 t = nI (fp_top (w.1 15) t)) (hpr : w.1 19 t = fp_price (w.1 15) (w.1 14) n t) {q : Nat} (hq : q ≤ 6) (hp : P (fs_tt (xD w) n t q) w) : fb_Can l tX6_fact [.ref 2, .int (nI t), .int (nI q)] w (fb_kI P) := by
  rcases (show q = 0 ∨ q = 1 ∨ q = 2 ∨ q = 3 ∨ q = 4 ∨ q = 5 ∨ q = 6 by omega) with rfl | rfl | rfl | rfl | rfl | rfl | rfl
  · exact c_X6_fact_0 hn ht htop hpr hp
  · exact c_X6_fact_1 hn ht htop hpr hp
  · exact c_X6_fact_2 hn ht htop hpr hp
  · exact c_X6_fact_3 hn ht htop hpr hp
  · exact c_X6_fact_4 hn ht htop hpr hp
  · exact c_X6_fact_5 hn ht htop hpr hp
  · exact c_X6_fact_6 hn ht htop hpr hp
theorem c_X6_ofSorts {l : Launch} {w : fb_Wd} {P : Int32 → fb_Wd → Prop} {s : Int32} {n : Nat} (hn : w.1 2 12 = nI n) (hn2 : n ≤ 20) (hs : ∀ t, t < n → ∃ q, q < 10 ∧ w.1 13 t = nI q) (hp : P (fx_os (w.1 13) s n) w) : fb_Can l tX6_ofSorts [.ref 2, .int s] w (fb_kI P) := by
  refine fb_intro 2 fk_t_X6_ofSorts (by decide) rfl (fun X hX h => ?_)
  subst hX
  change fb_AW tX6_ofSorts X 0 [some (.ref 2), some (.int s), none, none] [] w
  refine fw_iconst h (nI 0) rfl (by decide) ?_
  refine fw_istore_n h [_, _, _, _] rfl rfl rfl rfl ?_
  refine fw_iconst h (nI 0) rfl (by decide) ?_
  refine fw_istore_n h [_, _, _, _] rfl rfl rfl rfl ?_
  refine fb_loop (fun i => fb_AW tX6_ofSorts X 4 [some (.ref 2), some (.int s), some (.int (fx_os (w.1 13) s i)), some (.int (nI i))] [] w) (n) ?_ (fun i hi ih => ?_) 0 (Nat.zero_le _)
  · refine fw_iload_n h rfl rfl ?_
    refine fw_aload_n h rfl rfl ?_
    refine fw_getI h rfl fk_g_X6_49 rfl rfl ?_
    refine fw_icmp_ge h rfl (fun c9 => ?_) (fun c9 => False.elim (c9 (by rw [hn]; exact Int32.le_refl _)))
    refine fw_iload_n h rfl rfl ?_
    exact fw_iret h rfl rfl ⟨_, rfl, hp⟩
  · refine fw_iload_n h rfl rfl ?_
    refine fw_aload_n h rfl rfl ?_
    refine fw_getI h rfl fk_g_X6_49 rfl rfl ?_
    refine fw_icmp_ge h rfl (fun c9 => False.elim (by rw [hn] at c9; exact nI_ge hi (by omega) c9)) (fun c9 => ?_)
    obtain ⟨q, hq, eq⟩ := hs i hi
    refine fw_iload_n h rfl rfl ?_
    refine fw_aload_n h rfl rfl ?_
    refine fw_getR _ h rfl fk_g_X6_15 rfl rfl ?_
    refine fw_iload_n h rfl rfl ?_
    refine fn_iald h rfl rfl (by omega) rfl ?_
    refine fw_s2I h rfl fk_s_X7_isIn fk_l_X6_67 rfl rfl ?_
    refine c_X7_isIn eq (by omega) (fun c19 => ?_) (fun c19 => ?_)
    all_goals rw [show q = (w.1 13 i).toNatClampNeg by rw [eq, nI_clamp (by omega)]] at c19
    · refine fw_if_eq h rfl (fun c => absurd c (by decide)) (fun _ => ?_)
      skip
      · refine fw_iload_n h rfl rfl ?_
        refine fw_iload_n h rfl rfl ?_
        refine fw_s1I h rfl fk_s_X7_bitOf fk_l_X6_56 rfl rfl ?_
        refine c_X7_bitOfN (by omega) ?_
        refine fw_ior h rfl ?_
        refine fw_istore_n h [_, _, _, _] rfl rfl rfl rfl ?_
        first | refine fn_iinc h [_, _, _, _] rfl rfl rfl rfl rfl ?_ | refine fw_iinc h 1 [_, _, _, _] rfl (by decide) rfl rfl rfl rfl ?_
        refine fw_goto h rfl ?_
        have en : fx_os (w.1 13) s (i + 1) = fx_os (w.1 13) s i ||| nI 1 <<< (nI i &&& 31) := fp_mk_s1 c19
        rw [en] at ih
        exact ih
    · refine fw_if_eq h rfl (fun _ => ?_) (fun c => absurd c (by decide))
      first | refine fn_iinc h [_, _, _, _] rfl rfl rfl rfl rfl ?_ | refine fw_iinc h 1 [_, _, _, _] rfl (by decide) rfl rfl rfl rfl ?_
      refine fw_goto h rfl ?_
      have en : fx_os (w.1 13) s (i + 1) = fx_os (w.1 13) s i := fp_mk_s0 c19
      rw [en] at ih
      exact ih
theorem c_X6_topsOf {l : Launch} {w : fb_Wd} {P : Int32 → fb_Wd → Prop} {s : Int32} {n : Nat} (hn : w.1 2 12 = nI n) (hn2 : n ≤ 20) (hp : P (fx_to (w.1 17) s n) w) : fb_Can l tX6_topsOf [.ref 2, .int s] w (fb_kI P) := by
  refine fb_intro 2 fk_t_X6_topsOf (by decide) rfl (fun X hX h => ?_)
  subst hX
  change fb_AW tX6_topsOf X 0 [some (.ref 2), some (.int s), none, none] [] w
  refine fw_iconst h (nI 0) rfl (by decide) ?_
  refine fw_istore_n h [_, _, _, _] rfl rfl rfl rfl ?_
  refine fw_iconst h (nI 0) rfl (by decide) ?_
  refine fw_istore_n h [_, _, _, _] rfl rfl rfl rfl ?_
  refine fb_loop (fun i => fb_AW tX6_topsOf X 4 [some (.ref 2), some (.int s), some (.int (fx_to (w.1 17) s i)), some (.int (nI i))] [] w) (n) ?_ (fun i hi ih => ?_) 0 (Nat.zero_le _)
  · refine fw_iload_n h rfl rfl ?_
    refine fw_aload_n h rfl rfl ?_
    refine fw_getI h rfl fk_g_X6_49 rfl rfl ?_
    refine fw_icmp_ge h rfl (fun c9 => ?_) (fun c9 => False.elim (c9 (by rw [hn]; exact Int32.le_refl _)))
    refine fw_iload_n h rfl rfl ?_
    exact fw_iret h rfl rfl ⟨_, rfl, hp⟩
  · refine fw_iload_n h rfl rfl ?_
    refine fw_aload_n h rfl rfl ?_
    refine fw_getI h rfl fk_g_X6_49 rfl rfl ?_
    refine fw_icmp_ge h rfl (fun c9 => False.elim (by rw [hn] at c9; exact nI_ge hi (by omega) c9)) (fun c9 => ?_)
    refine fw_iload_n h rfl rfl ?_
    refine fw_iload_n h rfl rfl ?_
    refine fw_ishr h rfl ?_
    refine fw_if_eq h rfl (fun c15 => ?_) (fun c15 => ?_)
    · refine fw_iload_n h rfl rfl ?_
      exact fw_iret h rfl rfl ⟨_, rfl, by rw [show fx_to (w.1 17) s n = fx_to (w.1 17) s i from fp_orF_st (by omega) (fun k h1 _ => fx_ifb (fx_shr0 (by omega) c15 k h1))] at hp; exact hp⟩
    · refine fw_iload_n h rfl rfl ?_
      refine fw_iload_n h rfl rfl ?_
      refine fw_s2I h rfl fk_s_X7_isIn fk_l_X6_67 rfl rfl ?_
      refine c_X7_isIn rfl (by omega) (fun c20 => ?_) (fun c20 => ?_)
      · refine fw_if_eq h rfl (fun c => absurd c (by decide)) (fun _ => ?_)
        skip
        · refine fw_iload_n h rfl rfl ?_
          refine fw_aload_n h rfl rfl ?_
          refine fw_getR _ h rfl fk_g_X6_27 rfl rfl ?_
          refine fw_iload_n h rfl rfl ?_
          refine fn_iald h rfl rfl (by omega) rfl ?_
          refine fw_s1I h rfl fk_s_X7_bitOf fk_l_X6_56 rfl rfl ?_
          refine c_X7_bitOf ?_
          refine fw_ior h rfl ?_
          refine fw_istore_n h [_, _, _, _] rfl rfl rfl rfl ?_
          first | refine fn_iinc h [_, _, _, _] rfl rfl rfl rfl rfl ?_ | refine fw_iinc h 1 [_, _, _, _] rfl (by decide) rfl rfl rfl rfl ?_
          refine fw_goto h rfl ?_
          have en : fx_to (w.1 17) s (i + 1) = fx_to (w.1 17) s i ||| fx_bo (w.1 17 i) := fp_orF_1 (if_pos c20)
          rw [en] at ih
          exact ih
      · refine fw_if_eq h rfl (fun _ => ?_) (fun c => absurd c (by decide))
        first | refine fn_iinc h [_, _, _, _] rfl rfl rfl rfl rfl ?_ | refine fw_iinc h 1 [_, _, _, _] rfl (by decide) rfl rfl rfl rfl ?_
        refine fw_goto h rfl ?_
        have en : fx_to (w.1 17) s (i + 1) = fx_to (w.1 17) s i := fp_orF_0 (fx_ifb c20)
        rw [en] at ih
        exact ih
theorem c_X6_priceOf {l : Launch} {w : fb_Wd} {P : Int32 → fb_Wd → Prop} {s : Int32} {n : Nat} (hn : w.1 2 12 = nI n) (hn2 : n ≤ 20) (hp : P (fx_pv (w.1 19) s n) w) : fb_Can l tX6_priceOf [.ref 2, .int s] w (fb_kI P) := by
  refine fb_intro 2 fk_t_X6_priceOf (by decide) rfl (fun X hX h => ?_)
  subst hX
  change fb_AW tX6_priceOf X 0 [some (.ref 2), some (.int s), none, none] [] w
  refine fw_iconst h (nI 0) rfl (by decide) ?_
  refine fw_istore_n h [_, _, _, _] rfl rfl rfl rfl ?_
  refine fw_iconst h (nI 0) rfl (by decide) ?_
  refine fw_istore_n h [_, _, _, _] rfl rfl rfl rfl ?_
  refine fb_loop (fun i => fb_AW tX6_priceOf X 4 [some (.ref 2), some (.int s), some (.int (fx_pv (w.1 19) s i)), some (.int (nI i))] [] w) (n) ?_ (fun i hi ih => ?_) 0 (Nat.zero_le _)
  · refine fw_iload_n h rfl rfl ?_
    refine fw_aload_n h rfl rfl ?_
    refine fw_getI h rfl fk_g_X6_49 rfl rfl ?_
    refine fw_icmp_ge h rfl (fun c9 => ?_) (fun c9 => False.elim (c9 (by rw [hn]; exact Int32.le_refl _)))
    refine fw_iload_n h rfl rfl ?_
    exact fw_iret h rfl rfl ⟨_, rfl, hp⟩
  · refine fw_iload_n h rfl rfl ?_
    refine fw_aload_n h rfl rfl ?_
    refine fw_getI h rfl fk_g_X6_49 rfl rfl ?_
    refine fw_icmp_ge h rfl (fun c9 => False.elim (by rw [hn] at c9; exact nI_ge hi (by omega) c9)) (fun c9 => ?_)
    refine fw_iload_n h rfl rfl ?_
    refine fw_iload_n h rfl rfl ?_
    refine fw_ishr h rfl ?_
    refine fw_if_eq h rfl (fun c15 => ?_) (fun c15 => ?_)
    · refine fw_iload_n h rfl rfl ?_
      exact fw_iret h rfl rfl ⟨_, rfl, by rw [show fx_pv (w.1 19) s n = fx_pv (w.1 19) s i from fp_sum_st (by omega) (fun k h1 _ => fx_ifb (fx_shr0 (by omega) c15 k h1))] at hp; exact hp⟩
    · refine fw_iload_n h rfl rfl ?_
      refine fw_iload_n h rfl rfl ?_
      refine fw_s2I h rfl fk_s_X7_isIn fk_l_X6_67 rfl rfl ?_
      refine c_X7_isIn rfl (by omega) (fun c20 => ?_) (fun c20 => ?_)
      · refine fw_if_eq h rfl (fun c => absurd c (by decide)) (fun _ => ?_)
        skip
        · refine fw_iload_n h rfl rfl ?_
          refine fw_aload_n h rfl rfl ?_
          refine fw_getR _ h rfl fk_g_X6_33 rfl rfl ?_
          refine fw_iload_n h rfl rfl ?_
          refine fn_iald h rfl rfl (by omega) rfl ?_
          first | refine fn_iadd h rfl ?_ | refine fw_iadd h rfl ?_
          refine fw_istore_n h [_, _, _, _] rfl rfl rfl rfl ?_
          first | refine fn_iinc h [_, _, _, _] rfl rfl rfl rfl rfl ?_ | refine fw_iinc h 1 [_, _, _, _] rfl (by decide) rfl rfl rfl rfl ?_
          refine fw_goto h rfl ?_
          have en : fx_pv (w.1 19) s (i + 1) = fx_pv (w.1 19) s i + w.1 19 i := fp_sum_s (if_pos c20)
          rw [en] at ih
          exact ih
      · refine fw_if_eq h rfl (fun _ => ?_) (fun c => absurd c (by decide))
        first | refine fn_iinc h [_, _, _, _] rfl rfl rfl rfl rfl ?_ | refine fw_iinc h 1 [_, _, _, _] rfl (by decide) rfl rfl rfl rfl ?_
        refine fw_goto h rfl ?_
        have en : fx_pv (w.1 19) s (i + 1) = fx_pv (w.1 19) s i := fp_sum_z (fx_ifb c20)
        rw [en] at ih
        exact ih
theorem fx_ba {b : Bool} {p : Prop} [Decidable p] (h : b = true) (hp : p) : (b && decide p) = true := by rw [h, decide_eq_true hp]; rfl
theorem fx_bb {b c : Bool} (h : b = false) : (b && c) = false := by rw [h]; rfl
theorem fx_bc {b : Bool} {p : Prop} [Decidable p] (hp : ¬ p) : (b && decide p) = false := by rw [decide_eq_false hp]; simp
theorem c_X6_withoutPartsOf {l : Launch} {w : fb_Wd} {P : Int32 → fb_Wd → Prop} {s : Int32} {n : Nat} (hn : w.1 2 12 = nI n) (hn2 : n ≤ 20) (hp : P (fx_wp (w.1 18) s n) w) : fb_Can l tX6_withoutPartsOf [.ref 2, .int s] w (fb_kI P) := by
  refine fb_intro 2 fk_t_X6_withoutPartsOf (by decide) rfl (fun X hX h => ?_)
  subst hX
  change fb_AW tX6_withoutPartsOf X 0 [some (.ref 2), some (.int s), none, none] [] w
  refine fw_iconst h (nI 0) rfl (by decide) ?_
  refine fw_istore_n h [_, _, _, _] rfl rfl rfl rfl ?_
  refine fw_iconst h (nI 0) rfl (by decide) ?_
  refine fw_istore_n h [_, _, _, _] rfl rfl rfl rfl ?_
  refine fb_loop (fun i => fb_AW tX6_withoutPartsOf X 4 [some (.ref 2), some (.int s), some (.int (fx_wp (w.1 18) s i)), some (.int (nI i))] [] w) (n) ?_ (fun i hi ih => ?_) 0 (Nat.zero_le _)
  · refine fw_iload_n h rfl rfl ?_
    refine fw_aload_n h rfl rfl ?_
    refine fw_getI h rfl fk_g_X6_49 rfl rfl ?_
    refine fw_icmp_ge h rfl (fun c9 => ?_) (fun c9 => False.elim (c9 (by rw [hn]; exact Int32.le_refl _)))
    refine fw_iload_n h rfl rfl ?_
    exact fw_iret h rfl rfl ⟨_, rfl, hp⟩
  · refine fw_iload_n h rfl rfl ?_
    refine fw_aload_n h rfl rfl ?_
    refine fw_getI h rfl fk_g_X6_49 rfl rfl ?_
    refine fw_icmp_ge h rfl (fun c9 => False.elim (by rw [hn] at c9; exact nI_ge hi (by omega) c9)) (fun c9 => ?_)
    refine fw_iload_n h rfl rfl ?_
    refine fw_iload_n h rfl rfl ?_
    refine fw_ishr h rfl ?_
    refine fw_if_eq h rfl (fun c15 => ?_) (fun c15 => ?_)
    · refine fw_iload_n h rfl rfl ?_
      exact fw_iret h rfl rfl ⟨_, rfl, by rw [show fx_wp (w.1 18) s n = fx_wp (w.1 18) s i from fp_mk_st (by omega) (fun k h1 _ => fx_bb (fx_shr0 (by omega) c15 k h1))] at hp; exact hp⟩
    · refine fw_iload_n h rfl rfl ?_
      refine fw_iload_n h rfl rfl ?_
      refine fw_s2I h rfl fk_s_X7_isIn fk_l_X6_67 rfl rfl ?_
      refine c_X7_isIn rfl (by omega) (fun c20 => ?_) (fun c20 => ?_)
      · refine fw_if_eq h rfl (fun c => absurd c (by decide)) (fun _ => ?_)
        refine fw_aload_n h rfl rfl ?_
        refine fw_getR _ h rfl fk_g_X6_30 rfl rfl ?_
        refine fw_iload_n h rfl rfl ?_
        refine fn_iald h rfl rfl (by omega) rfl ?_
        refine fw_iload_n h rfl rfl ?_
        refine fw_iand h rfl ?_
        refine fw_if_ne h rfl (fun c34 => ?_) (fun c34 => ?_)
        · first | refine fn_iinc h [_, _, _, _] rfl rfl rfl rfl rfl ?_ | refine fw_iinc h 1 [_, _, _, _] rfl (by decide) rfl rfl rfl rfl ?_
          refine fw_goto h rfl ?_
          have en : fx_wp (w.1 18) s (i + 1) = fx_wp (w.1 18) s i := fp_mk_s0 (by first | exact fx_bb c20 | exact fx_bc c34)
          rw [en] at ih
          exact ih
        · skip
          · refine fw_iload_n h rfl rfl ?_
            refine fw_iload_n h rfl rfl ?_
            refine fw_s1I h rfl fk_s_X7_bitOf fk_l_X6_56 rfl rfl ?_
            refine c_X7_bitOfN (by omega) ?_
            refine fw_ior h rfl ?_
            refine fw_istore_n h [_, _, _, _] rfl rfl rfl rfl ?_
            first | refine fn_iinc h [_, _, _, _] rfl rfl rfl rfl rfl ?_ | refine fw_iinc h 1 [_, _, _, _] rfl (by decide) rfl rfl rfl rfl ?_
            refine fw_goto h rfl ?_
            have en : fx_wp (w.1 18) s (i + 1) = fx_wp (w.1 18) s i ||| nI 1 <<< (nI i &&& 31) := fp_mk_s1 (fx_ba c20 c34)
            rw [en] at ih
            exact ih
      · refine fw_if_eq h rfl (fun _ => ?_) (fun c => absurd c (by decide))
        first | refine fn_iinc h [_, _, _, _] rfl rfl rfl rfl rfl ?_ | refine fw_iinc h 1 [_, _, _, _] rfl (by decide) rfl rfl rfl rfl ?_
        refine fw_goto h rfl ?_
        have en : fx_wp (w.1 18) s (i + 1) = fx_wp (w.1 18) s i := fp_mk_s0 (by first | exact fx_bb c20 | exact fx_bc c34)
        rw [en] at ih
        exact ih
theorem c_X6_borneBy {l : Launch} {w : fb_Wd} {P : Int32 → fb_Wd → Prop} {t : Nat} (ht : t < 20) (hp : P (w.1 20 t ||| w.1 21 t) w) : fb_Can l tX6_borneBy [.ref 2, .int (nI t)] w (fb_kI P) := by
  refine fb_intro 0 fk_t_X6_borneBy (by decide) rfl (fun X hX h => ?_)
  subst hX
  change fb_AW tX6_borneBy X 0 [some (.ref 2), some (.int (nI t))] [] w
  refine fw_aload_n h rfl rfl ?_
  refine fw_getR _ h rfl fk_g_X6_36 rfl rfl ?_
  refine fw_iload_n h rfl rfl ?_
  refine fn_iald h rfl rfl (by omega) rfl ?_
  refine fw_aload_n h rfl rfl ?_
  refine fw_getR _ h rfl fk_g_X6_39 rfl rfl ?_
  refine fw_iload_n h rfl rfl ?_
  refine fn_iald h rfl rfl (by omega) rfl ?_
  refine fw_ior h rfl ?_
  exact fw_iret h rfl rfl ⟨_, rfl, hp⟩
theorem c_X6_bearersOf {l : Launch} {w : fb_Wd} {P : Int32 → fb_Wd → Prop} {t : Nat} (ht : t < 20) (hp : P (fx_bo (w.1 15 t) ||| fx_bo (w.1 16 t)) w) : fb_Can l tX6_bearersOf [.ref 2, .int (nI t)] w (fb_kI P) := by
  refine fb_intro 0 fk_t_X6_bearersOf (by decide) rfl (fun X hX h => ?_)
  subst hX
  change fb_AW tX6_bearersOf X 0 [some (.ref 2), some (.int (nI t))] [] w
  refine fw_aload_n h rfl rfl ?_
  refine fw_getR _ h rfl fk_g_X6_21 rfl rfl ?_
  refine fw_iload_n h rfl rfl ?_
  refine fn_iald h rfl rfl (by omega) rfl ?_
  refine fw_s1I h rfl fk_s_X7_bitOf fk_l_X6_56 rfl rfl ?_
  refine c_X7_bitOf ?_
  refine fw_aload_n h rfl rfl ?_
  refine fw_getR _ h rfl fk_g_X6_24 rfl rfl ?_
  refine fw_iload_n h rfl rfl ?_
  refine fn_iald h rfl rfl (by omega) rfl ?_
  refine fw_s1I h rfl fk_s_X7_bitOf fk_l_X6_56 rfl rfl ?_
  refine c_X7_bitOf ?_
  refine fw_ior h rfl ?_
  exact fw_iret h rfl rfl ⟨_, rfl, hp⟩
theorem c_X6_mixInto {l : Launch} {w : fb_Wd} {P : Int64 → fb_Wd → Prop} {n : Nat} {h0 : Int64} (hn : w.1 2 12 = nI n) (hn2 : n ≤ 20) (hd : ∀ t, t < n → w.1 17 t = nI (fp_top (w.1 15) t) ∧ w.1 19 t = fp_price (w.1 15) (w.1 14) n t) (hp : P (fs_it (fs_e2 (xD w) n) h0 n) w) : fb_Can l tX6_mixInto [.ref 2, .long h0] w (fb_kL P) := by
  refine fb_intro 4 fk_t_X6_mixInto (by decide) rfl (fun X hX h => ?_)
  subst hX
  change fb_AW tX6_mixInto X 0 [some (.ref 2), some (.long h0), none, none, none, none, none] [] w
  refine fw_lload_n h rfl rfl ?_
  refine fw_lstore_n h [_, _, _, _, _, _, _] rfl rfl rfl rfl ?_
  refine fw_iconst h (nI 0) rfl (by decide) ?_
  refine fw_istore h [_, _, _, _, _, _, _] rfl rfl rfl rfl ?_
  refine fb_loop (fun i => fb_AW tX6_mixInto X 5 [some (.ref 2), some (.long h0), none, some (.long (fs_it (fs_e2 (xD w) n) h0 i)), none, some (.int (nI i)), none] [] w) (n) ?_ (fun i hi ih => ?_) 0 (Nat.zero_le _)
  · refine fw_iload h rfl rfl ?_
    refine fw_aload_n h rfl rfl ?_
    refine fw_getI h rfl fk_g_X6_49 rfl rfl ?_
    refine fw_icmp_ge h rfl (fun c11 => ?_) (fun c11 => False.elim (c11 (by rw [hn]; exact Int32.le_refl _)))
    refine fw_lload_n h rfl rfl ?_
    exact fw_lret h rfl rfl ⟨_, rfl, hp⟩
  · refine fw_iload h rfl rfl ?_
    refine fw_aload_n h rfl rfl ?_
    refine fw_getI h rfl fk_g_X6_49 rfl rfl ?_
    refine fw_icmp_ge h rfl (fun c11 => False.elim (by rw [hn] at c11; exact nI_ge hi (by omega) c11)) (fun c11 => ?_)
    refine fw_iconst h (nI 0) rfl (by decide) ?_
    refine fw_istore h [_, _, _, _, _, _, _] rfl rfl rfl rfl ?_
    refine fb_loop (fun b => fb_AW tX6_mixInto X 17 [some (.ref 2), some (.long h0), none, some (.long (fs_mxF (fs_it (fs_e2 (xD w) n) h0 i) (fs_tt (xD w) n i) b)), none, some (.int (nI i)), some (.int (nI b))] [] w) 7 ?_ (fun b hb ihb => ?_) 0 (Nat.zero_le _)
    · change fb_AW tX6_mixInto X 17 [some (.ref 2), some (.long h0), none, some (.long (fs_mxF (fs_it (fs_e2 (xD w) n) h0 i) (fs_tt (xD w) n i) 7)), none, some (.int (nI i)), some (.int (nI 7))] [] w
      refine fw_iload h rfl rfl ?_
      refine fw_bipush h (nI 6) rfl (by decide) ?_
      refine fw_icmp_gt h rfl (fun c21 => ?_) (fun c21 => False.elim (c21 (by decide)))
      first | refine fn_iinc h [_, _, _, _, _, _, _] rfl rfl rfl rfl rfl ?_ | refine fw_iinc h 1 [_, _, _, _, _, _, _] rfl (by decide) rfl rfl rfl rfl ?_
      refine fw_goto h rfl ?_
      refine fw_sub (fb_pad_c (Or.inr rfl) (fb_pad_c (Or.inr rfl) (fb_pad_c (Or.inr rfl) (fb_pad_c (Or.inr rfl) (fb_pad_c (Or.inr rfl) (fb_pad_c (Or.inr rfl) (fb_pad_c (Or.inl rfl) (fb_pad_n)))))))) ?_
      exact ih
    · refine fw_iload h rfl rfl ?_
      refine fw_bipush h (nI 6) rfl (by decide) ?_
      refine fw_icmp_gt h rfl (fun c21 => False.elim (absurd c21 (nI_nlt (by omega) (by decide)))) (fun c21 => ?_)
      refine fw_lload_n h rfl rfl ?_
      refine fw_aload_n h rfl rfl ?_
      refine fw_iload h rfl rfl ?_
      refine fw_iload h rfl rfl ?_
      refine fw_v2I h rfl fk_v_X6_fact fk_l_X6_70 rfl rfl rfl rfl ?_
      refine c_X6_fact hn2 hi (hd i hi).1 (hd i hi).2 (by omega) ?_
      refine fw_i2l h rfl ?_
      refine fw_s2L h rfl fk_s_X7_mixed fk_l_X6_74 rfl rfl ?_
      refine c_X7_mixed ?_
      refine fw_lstore_n h [_, _, _, _, _, _, _] rfl rfl rfl rfl ?_
      first | refine fn_iinc h [_, _, _, _, _, _, _] rfl rfl rfl rfl rfl ?_ | refine fw_iinc h 1 [_, _, _, _, _, _, _] rfl (by decide) rfl rfl rfl rfl ?_
      refine fw_goto h rfl ?_
      exact ihb
def fo_rb (f : Nat → Int32) (nt : Nat) (rk : Nat → Nat) : Prop := fo_rk f nt rk ∧ ∀ t, t < nt → rk t < nt
theorem fp_cnt_tt : ∀ n, fp_cnt (fun _ => true) n = n
  | 0 => rfl
  | n + 1 => by rw [fp_cnt, fp_cnt_tt n]; rfl
theorem fo_bd {f : Nat → Int32} {nt : Nat} {rk : Nat → Nat} (h : fo_rk f nt rk) : ∃ rk2, fo_rb f nt rk2 := by
  refine ⟨fun t => fp_cnt (fun u => decide (rk u < rk t)) nt, fun t u ht hu e => ?_, fun t ht => ?_⟩
  · have h1 := h t u ht hu e
    exact fp_cnt_lt (k := u) (fun i _ hi => decide_eq_true (by have := of_decide_eq_true hi; omega)) hu (decide_eq_false (by omega)) (decide_eq_true h1)
  · have h2 := fp_cnt_lt (p := fun u => decide (rk u < rk t)) (q := fun _ => true) (n := nt) (k := t) (fun _ _ _ => rfl) ht (decide_eq_false (by omega)) rfl
    rw [fp_cnt_tt] at h2
    exact h2
theorem lp_lb_0 {X : fb_Cx} {w : fb_Wd} {P : Int32 → fb_Wd → Prop} {o : Int32} {j i nt : Nat} (h : fb_Ok tX6_liesBeneath X (fb_kI P)) (hn : nt ≤ 20) (hj : j < nt) (hf : ¬ (∃ k, fo_it (w.1 16) k (-9) = nI j) → P 0 w) : fb_AW tX6_liesBeneath X 5 [some (.ref 2), some (.int (nI j)), some (.int o), some (.int (-9)), some (.int (nI i))] [] w := by
  refine fw_iload h rfl rfl ?_
  refine fw_aload_n h rfl rfl ?_
  refine fw_getI h rfl fk_g_X6_49 rfl rfl ?_
  refine fw_icmp_ge h rfl (fun c11 => ?_) (fun c11 => ?_)
  · refine fw_iconst h (nI 0) rfl (by decide) ?_
    exact fw_zret h rfl rfl (by first | exact Or.inl rfl | exact Or.inr rfl | assumption) ⟨_, rfl, hf (fun ⟨k, hk⟩ => by rw [fo_9] at hk; exact nI_ne9 (by omega) hk.symm)⟩
  · refine fw_iload_n h rfl rfl ?_
    refine fw_bipush h (-9) rfl (by decide) ?_
    refine fw_icmp_eq h rfl (fun _ => ?_) (fun c => absurd c (by decide))
    refine fw_iconst h (nI 0) rfl (by decide) ?_
    exact fw_zret h rfl rfl (by first | exact Or.inl rfl | exact Or.inr rfl | assumption) ⟨_, rfl, hf (fun ⟨k, hk⟩ => by rw [fo_9] at hk; exact nI_ne9 (by omega) hk.symm)⟩
theorem lp_lb {X : fb_Cx} {w : fb_Wd} {P : Int32 → fb_Wd → Prop} {o : Int32} {j nt : Nat} {rk : Nat → Nat} (h : fb_Ok tX6_liesBeneath X (fb_kI P)) (hn : nt ≤ 20) (hc : w.1 2 12 = nI nt) (hj : j < nt) (hrk : fo_rb (w.1 16) nt rk) (h4 : ∀ t, t < nt → w.1 16 t = -9 ∨ ∃ u, u < nt ∧ w.1 16 t = nI u) : ∀ n v i, v < nt → rk v = n → rk v + i < nt → ((∃ k, fo_it (w.1 16) k (nI v) = nI j) → P 1 w) → (¬ (∃ k, fo_it (w.1 16) k (nI v) = nI j) → P 0 w) → fb_AW tX6_liesBeneath X 5 [some (.ref 2), some (.int (nI j)), some (.int o), some (.int (nI v)), some (.int (nI i))] [] w := by
  intro n
  induction n using Nat.strongRecOn with
  | ind n IH =>
    intro v i hv en hri ht hf
    subst en
    refine fw_iload h rfl rfl ?_
    refine fw_aload_n h rfl rfl ?_
    refine fw_getI h rfl fk_g_X6_49 rfl rfl ?_
    refine fw_icmp_ge h rfl (fun c11 => False.elim (by rw [hc] at c11; exact nI_ge (a := i) (b := nt) (by omega) (by omega) c11)) (fun c11 => ?_)
    refine fw_iload_n h rfl rfl ?_
    refine fw_bipush h (-9) rfl (by decide) ?_
    refine fw_icmp_eq h rfl (fun c17 => False.elim (nI_ne9 (n := v) (by omega) c17)) (fun c17 => ?_)
    refine fw_iload_n h rfl rfl ?_
    refine fw_iload_n h rfl rfl ?_
    refine fw_icmp_ne h rfl (fun c22 => ?_) (fun c22 => ?_)
    · refine fw_aload_n h rfl rfl ?_
      refine fw_getR _ h rfl fk_g_X6_24 rfl rfl ?_
      refine fw_iload_n h rfl rfl ?_
      refine fn_iald h rfl rfl (by omega) rfl ?_
      have he := fo_ex (f := w.1 16) (t := nI j) (show v < 2 ^ 31 by omega) c22
      rcases h4 v hv with e | ⟨u, hu, e⟩
      · rw [e]
        refine fw_istore_n h [_, _, _, _, _] rfl rfl rfl rfl ?_
        first | refine fn_iinc h [_, _, _, _, _] rfl rfl rfl rfl rfl ?_ | refine fw_iinc h 1 [_, _, _, _, _] rfl (by decide) rfl rfl rfl rfl ?_
        refine fw_goto h rfl ?_
        exact lp_lb_0 h hn hj (fun z => hf (fun q => z (by have q2 := he.mp q; rw [e] at q2; exact q2)))
      · rw [e]
        refine fw_istore_n h [_, _, _, _, _] rfl rfl rfl rfl ?_
        first | refine fn_iinc h [_, _, _, _, _] rfl rfl rfl rfl rfl ?_ | refine fw_iinc h 1 [_, _, _, _, _] rfl (by decide) rfl rfl rfl rfl ?_
        refine fw_goto h rfl ?_
        rw [e] at he
        have hlt := hrk.1 v u hv hu e
        exact IH (rk u) hlt u (i + 1) hu rfl (by omega) (fun q => ht (he.mpr q)) (fun q => hf (fun z => q (he.mp z)))
    · refine fw_iconst h (nI 1) rfl (by decide) ?_
      exact fw_zret h rfl rfl (by first | exact Or.inl rfl | exact Or.inr rfl | assumption) ⟨_, rfl, ht ⟨0, c22⟩⟩
theorem c_X6_liesBeneath {l : Launch} {w : fb_Wd} {P : Int32 → fb_Wd → Prop} {o : Int32} {j nt : Nat} {rk : Nat → Nat} (hn : nt ≤ 20) (hc : w.1 2 12 = nI nt) (hj : j < nt) (hrk : fo_rb (w.1 16) nt rk) (h4 : ∀ t, t < nt → w.1 16 t = -9 ∨ ∃ u, u < nt ∧ w.1 16 t = nI u) (ho : o = -9 ∨ ∃ u, u < nt ∧ o = nI u) (ht : (∃ k, fo_it (w.1 16) k o = nI j) → P 1 w) (hf : ¬ (∃ k, fo_it (w.1 16) k o = nI j) → P 0 w) : fb_Can l tX6_liesBeneath [.ref 2, .int (nI j), .int o] w (fb_kI P) := by
  refine fb_intro 2 fk_t_X6_liesBeneath (by decide) rfl (fun X hX h => ?_)
  subst hX
  change fb_AW tX6_liesBeneath X 0 [some (.ref 2), some (.int (nI j)), some (.int o), none, none] [] w
  refine fw_iload_n h rfl rfl ?_
  refine fw_istore_n h [_, _, _, _, _] rfl rfl rfl rfl ?_
  refine fw_iconst h (nI 0) rfl (by decide) ?_
  refine fw_istore h [_, _, _, _, _] rfl rfl rfl rfl ?_
  rcases ho with rfl | ⟨u, hu, rfl⟩
  · exact lp_lb_0 h hn hj hf
  · exact lp_lb h hn hc hj hrk h4 _ u 0 hu rfl (by have := hrk.2 u hu; omega) ht hf
def fx_l1 (w : fb_Wd) (t : Nat) : fb_Wd := if w.1 16 t = -9 then w else fb_up w 21 (w.1 16 t).toNatClampNeg (w.1 21 (w.1 16 t).toNatClampNeg &&& ((nI 1 <<< (nI t &&& 31)) ^^^ -1))
def fx_l2 (w : fb_Wd) (t : Nat) (o : Int32) : fb_Wd := if o = -9 then w else fb_up w 21 o.toNatClampNeg (w.1 21 o.toNatClampNeg ||| nI 1 <<< (nI t &&& 31))
def fx_lo (w : fb_Wd) (t : Nat) (o : Int32) : fb_Wd := fb_up (fx_l2 (fx_l1 w t) t o) 16 t o
theorem fx_l1_16 (w : fb_Wd) (t : Nat) {c : Nat} (h : ¬ c = 21) : (fx_l1 w t).1 c = w.1 c := by
  unfold fx_l1
  split
  · rfl
  · exact fb_up_ne _ _ _ h
theorem fx_l1_0 {w : fb_Wd} {t : Nat} (h : w.1 16 t = -9) : fx_l1 w t = w := if_pos h
theorem fx_l1_1 {w : fb_Wd} {t u : Nat} (h : w.1 16 t = nI u) (hu : u < 2 ^ 31) : fx_l1 w t = fb_up w 21 u (w.1 21 u &&& ((nI 1 <<< (nI t &&& 31)) ^^^ -1)) := by
  unfold fx_l1
  rw [h, if_neg (nI_ne9 hu), nI_clamp hu]
theorem fx_l2_0 {w : fb_Wd} {t : Nat} : fx_l2 w t (-9) = w := if_pos rfl
theorem fx_l2_1 {w : fb_Wd} {t u : Nat} (hu : u < 2 ^ 31) : fx_l2 w t (nI u) = fb_up w 21 u (w.1 21 u ||| nI 1 <<< (nI t &&& 31)) := by
  unfold fx_l2
  rw [if_neg (nI_ne9 hu), nI_clamp hu]
theorem c_X6_layOn {l : Launch} {w : fb_Wd} {P : fb_Wd → Prop} {t : Nat} {o : Int32} (ht : t < 20) (hon : w.1 16 t = -9 ∨ ∃ u, u < 20 ∧ w.1 16 t = nI u) (ho : o = -9 ∨ ∃ u, u < 20 ∧ o = nI u) (hp : P (fx_lo w t o)) : fb_Can l tX6_layOn [.ref 2, .int (nI t), .int o] w (fb_kV P) := by
  refine fb_intro 0 fk_t_X6_layOn (by decide) rfl (fun X hX h => ?_)
  subst hX
  change fb_AW tX6_layOn X 0 [some (.ref 2), some (.int (nI t)), some (.int o)] [] w
  rcases hon with e1 | ⟨u, hu, e1⟩
  all_goals rcases ho with rfl | ⟨v, hv, rfl⟩
  · refine fw_aload_n h rfl rfl ?_
    refine fw_getR _ h rfl fk_g_X6_24 rfl rfl ?_
    refine fw_iload_n h rfl rfl ?_
    refine fn_iald h rfl rfl (by omega) rfl ?_
    rw [e1]
    refine fw_bipush h (-9) rfl (by decide) ?_
    refine fw_icmp_eq h rfl (fun c8 => ?_) (fun c8 => False.elim (c8 rfl))
    refine fw_iload_n h rfl rfl ?_
    refine fw_bipush h (-9) rfl (by decide) ?_
    refine fw_icmp_eq h rfl (fun c34 => ?_) (fun c34 => False.elim (c34 rfl))
    refine fw_aload_n h rfl rfl ?_
    refine fw_getR _ h rfl fk_g_X6_24 rfl rfl ?_
    refine fw_iload_n h rfl rfl ?_
    refine fw_iload_n h rfl rfl ?_
    refine fn_iast h rfl rfl (by omega) rfl ?_
    exact fw_vret h rfl rfl ⟨rfl, by unfold fx_lo at hp; rw [fx_l1_0 e1, fx_l2_0] at hp; exact hp⟩
  · refine fw_aload_n h rfl rfl ?_
    refine fw_getR _ h rfl fk_g_X6_24 rfl rfl ?_
    refine fw_iload_n h rfl rfl ?_
    refine fn_iald h rfl rfl (by omega) rfl ?_
    rw [e1]
    refine fw_bipush h (-9) rfl (by decide) ?_
    refine fw_icmp_eq h rfl (fun c8 => ?_) (fun c8 => False.elim (c8 rfl))
    refine fw_iload_n h rfl rfl ?_
    refine fw_bipush h (-9) rfl (by decide) ?_
    refine fw_icmp_eq h rfl (fun c34 => False.elim (nI_ne9 (n := v) (by omega) c34)) (fun c34 => ?_)
    refine fw_aload_n h rfl rfl ?_
    refine fw_getR _ h rfl fk_g_X6_39 rfl rfl ?_
    refine fw_iload_n h rfl rfl ?_
    refine fw_dup2 h rfl rfl rfl ?_
    refine fn_iald h rfl rfl (by omega) rfl ?_
    refine fw_iload_n h rfl rfl ?_
    refine fw_s1I h rfl fk_s_X7_bitOf fk_l_X6_56 rfl rfl ?_
    refine c_X7_bitOfN (by omega) ?_
    refine fw_ior h rfl ?_
    refine fn_iast h rfl rfl (by omega) rfl ?_
    refine fw_aload_n h rfl rfl ?_
    refine fw_getR _ h rfl fk_g_X6_24 rfl rfl ?_
    refine fw_iload_n h rfl rfl ?_
    refine fw_iload_n h rfl rfl ?_
    refine fn_iast h rfl rfl (by omega) rfl ?_
    exact fw_vret h rfl rfl ⟨rfl, by unfold fx_lo at hp; rw [fx_l1_0 e1, fx_l2_1 (by omega)] at hp; exact hp⟩
  · refine fw_aload_n h rfl rfl ?_
    refine fw_getR _ h rfl fk_g_X6_24 rfl rfl ?_
    refine fw_iload_n h rfl rfl ?_
    refine fn_iald h rfl rfl (by omega) rfl ?_
    rw [e1]
    refine fw_bipush h (-9) rfl (by decide) ?_
    refine fw_icmp_eq h rfl (fun c8 => False.elim (nI_ne9 (n := u) (by omega) c8)) (fun c8 => ?_)
    refine fw_aload_n h rfl rfl ?_
    refine fw_getR _ h rfl fk_g_X6_39 rfl rfl ?_
    refine fw_aload_n h rfl rfl ?_
    refine fw_getR _ h rfl fk_g_X6_24 rfl rfl ?_
    refine fw_iload_n h rfl rfl ?_
    refine fn_iald h rfl rfl (by omega) rfl ?_
    rw [e1]
    refine fw_dup2 h rfl rfl rfl ?_
    refine fn_iald h rfl rfl (by omega) rfl ?_
    refine fw_iload_n h rfl rfl ?_
    refine fw_s1I h rfl fk_s_X7_bitOf fk_l_X6_56 rfl rfl ?_
    refine c_X7_bitOfN (by omega) ?_
    refine fw_iconst h (-1) rfl (by decide) ?_
    refine fw_ixor h rfl ?_
    refine fw_iand h rfl ?_
    refine fn_iast h rfl rfl (by omega) rfl ?_
    refine fw_iload_n h rfl rfl ?_
    refine fw_bipush h (-9) rfl (by decide) ?_
    refine fw_icmp_eq h rfl (fun c34 => ?_) (fun c34 => False.elim (c34 rfl))
    refine fw_aload_n h rfl rfl ?_
    refine fw_getR _ h rfl fk_g_X6_24 rfl rfl ?_
    refine fw_iload_n h rfl rfl ?_
    refine fw_iload_n h rfl rfl ?_
    refine fn_iast h rfl rfl (by omega) rfl ?_
    exact fw_vret h rfl rfl ⟨rfl, by unfold fx_lo at hp; rw [fx_l1_1 e1 (by omega), fx_l2_0] at hp; exact hp⟩
  · refine fw_aload_n h rfl rfl ?_
    refine fw_getR _ h rfl fk_g_X6_24 rfl rfl ?_
    refine fw_iload_n h rfl rfl ?_
    refine fn_iald h rfl rfl (by omega) rfl ?_
    rw [e1]
    refine fw_bipush h (-9) rfl (by decide) ?_
    refine fw_icmp_eq h rfl (fun c8 => False.elim (nI_ne9 (n := u) (by omega) c8)) (fun c8 => ?_)
    refine fw_aload_n h rfl rfl ?_
    refine fw_getR _ h rfl fk_g_X6_39 rfl rfl ?_
    refine fw_aload_n h rfl rfl ?_
    refine fw_getR _ h rfl fk_g_X6_24 rfl rfl ?_
    refine fw_iload_n h rfl rfl ?_
    refine fn_iald h rfl rfl (by omega) rfl ?_
    rw [e1]
    refine fw_dup2 h rfl rfl rfl ?_
    refine fn_iald h rfl rfl (by omega) rfl ?_
    refine fw_iload_n h rfl rfl ?_
    refine fw_s1I h rfl fk_s_X7_bitOf fk_l_X6_56 rfl rfl ?_
    refine c_X7_bitOfN (by omega) ?_
    refine fw_iconst h (-1) rfl (by decide) ?_
    refine fw_ixor h rfl ?_
    refine fw_iand h rfl ?_
    refine fn_iast h rfl rfl (by omega) rfl ?_
    refine fw_iload_n h rfl rfl ?_
    refine fw_bipush h (-9) rfl (by decide) ?_
    refine fw_icmp_eq h rfl (fun c34 => False.elim (nI_ne9 (n := v) (by omega) c34)) (fun c34 => ?_)
    refine fw_aload_n h rfl rfl ?_
    refine fw_getR _ h rfl fk_g_X6_39 rfl rfl ?_
    refine fw_iload_n h rfl rfl ?_
    refine fw_dup2 h rfl rfl rfl ?_
    refine fn_iald h rfl rfl (by omega) rfl ?_
    refine fw_iload_n h rfl rfl ?_
    refine fw_s1I h rfl fk_s_X7_bitOf fk_l_X6_56 rfl rfl ?_
    refine c_X7_bitOfN (by omega) ?_
    refine fw_ior h rfl ?_
    refine fn_iast h rfl rfl (by omega) rfl ?_
    refine fw_aload_n h rfl rfl ?_
    refine fw_getR _ h rfl fk_g_X6_24 rfl rfl ?_
    refine fw_iload_n h rfl rfl ?_
    refine fw_iload_n h rfl rfl ?_
    refine fn_iast h rfl rfl (by omega) rfl ?_
    exact fw_vret h rfl rfl ⟨rfl, by unfold fx_lo at hp; rw [fx_l1_1 e1 (by omega), fx_l2_1 (by omega)] at hp; exact hp⟩
def fx_cp (w : fb_Wd) (m x : Int32) : Nat → fb_Wd
  | 0 => w
  | u + 1 => if bt m u = true then fb_up (fx_cp w m x u) 19 u ((fx_cp w m x u).1 19 u + x) else fx_cp w m x u
def fx_cw (w : fb_Wd) (t : Nat) (v : Int32) : fb_Wd := fx_cp (fb_up (fb_up w 14 t v) 19 t (w.1 19 t + (v - w.1 14 t))) (w.1 18 t) (v - w.1 14 t) t
theorem fx_cp_ne (w : fb_Wd) (m x : Int32) {c : Nat} (h : ¬ c = 19) : ∀ u, (fx_cp w m x u).1 c = w.1 c
  | 0 => rfl
  | u + 1 => by
    rw [fx_cp]
    split
    · rw [fb_up_ne _ _ _ h, fx_cp_ne w m x h u]
    · exact fx_cp_ne w m x h u
theorem fx_cp_2 (w : fb_Wd) (m x : Int32) : ∀ u, (fx_cp w m x u).2 = w.2
  | 0 => rfl
  | u + 1 => by
    rw [fx_cp]
    split
    · exact fx_cp_2 w m x u
    · exact fx_cp_2 w m x u
theorem fx_cp_19 (w : fb_Wd) (m x : Int32) : ∀ n u, (fx_cp w m x n).1 19 u = if u < n ∧ bt m u = true then w.1 19 u + x else w.1 19 u
  | 0, u => by rw [fx_cp, if_neg (by omega)]
  | n + 1, u => by
    rw [fx_cp]
    by_cases h : bt m n = true
    · rw [if_pos h, fb_up_eq]
      by_cases e : u = n
      · subst e
        rw [pk_us, fx_cp_19 w m x u u, if_neg (by omega), if_pos ⟨by omega, h⟩]
      · rw [pk_un e, fx_cp_19 w m x n u]
        by_cases h2 : u < n ∧ bt m u = true
        · rw [if_pos h2, if_pos ⟨by omega, h2.2⟩]
        · rw [if_neg h2, if_neg (fun z => h2 ⟨by omega, z.2⟩)]
    · rw [if_neg h, fx_cp_19 w m x n u]
      by_cases h2 : u < n ∧ bt m u = true
      · rw [if_pos h2, if_pos ⟨by omega, h2.2⟩]
      · rw [if_neg h2, if_neg (fun z => h2 ⟨by
          have : u ≠ n := fun y => h (by rw [← y]; exact z.2)
          omega, z.2⟩)]
theorem fb_up_nk (w : fb_Wd) {c k j : Nat} (x : Int32) (h : ¬ j = k) : (fb_up w c k x).1 c j = w.1 c j := by simp [fb_up, h]
theorem fx_cw_ne (w : fb_Wd) (t : Nat) (v : Int32) {c : Nat} (h : ¬ c = 19 ∧ ¬ c = 14) : (fx_cw w t v).1 c = w.1 c := by
  unfold fx_cw
  rw [fx_cp_ne _ _ _ h.1, fb_up_ne _ _ _ h.1, fb_up_ne _ _ _ h.2]
theorem fx_cp_1 {w : fb_Wd} {m x : Int32} {u : Nat} (h : bt m u = true) : fx_cp w m x (u + 1) = fb_up (fx_cp w m x u) 19 u ((fx_cp w m x u).1 19 u + x) := by rw [fx_cp, if_pos h]
theorem fx_cp_0 {w : fb_Wd} {m x : Int32} {u : Nat} (h : bt m u = false) : fx_cp w m x (u + 1) = fx_cp w m x u := by rw [fx_cp, h]; rfl
theorem c_X6_changeWorth {l : Launch} {w : fb_Wd} {P : fb_Wd → Prop} {t : Nat} {v : Int32} (ht : t < 20) (hp : P (fx_cw w t v)) : fb_Can l tX6_changeWorth [.ref 2, .int (nI t), .int v] w (fb_kV P) := by
  refine fb_intro 2 fk_t_X6_changeWorth (by decide) rfl (fun X hX h => ?_)
  subst hX
  change fb_AW tX6_changeWorth X 0 [some (.ref 2), some (.int (nI t)), some (.int v), none, none] [] w
  refine fw_iload_n h rfl rfl ?_
  refine fw_aload_n h rfl rfl ?_
  refine fw_getR _ h rfl fk_g_X6_18 rfl rfl ?_
  refine fw_iload_n h rfl rfl ?_
  refine fn_iald h rfl rfl (by omega) rfl ?_
  refine fw_isub h rfl ?_
  refine fw_istore_n h [_, _, _, _, _] rfl rfl rfl rfl ?_
  refine fw_aload_n h rfl rfl ?_
  refine fw_getR _ h rfl fk_g_X6_18 rfl rfl ?_
  refine fw_iload_n h rfl rfl ?_
  refine fw_iload_n h rfl rfl ?_
  refine fn_iast h rfl rfl (by omega) rfl ?_
  refine fw_aload_n h rfl rfl ?_
  refine fw_getR _ h rfl fk_g_X6_33 rfl rfl ?_
  refine fw_iload_n h rfl rfl ?_
  refine fw_dup2 h rfl rfl rfl ?_
  refine fn_iald h rfl rfl (by omega) rfl ?_
  refine fw_iload_n h rfl rfl ?_
  first | refine fn_iadd h rfl ?_ | refine fw_iadd h rfl ?_
  refine fn_iast h rfl rfl (by omega) rfl ?_
  refine fw_iconst h (nI 0) rfl (by decide) ?_
  refine fw_istore h [_, _, _, _, _] rfl rfl rfl rfl ?_
  refine fb_loop (fun i => fb_AW tX6_changeWorth X 29 [some (.ref 2), some (.int (nI t)), some (.int v), some (.int (v - w.1 14 t)), some (.int (nI i))] [] (fx_cp (fb_up (fb_up w 14 t v) 19 t (w.1 19 t + (v - w.1 14 t))) (w.1 18 t) (v - w.1 14 t) i)) (t) ?_ (fun i hi ih => ?_) 0 (Nat.zero_le _)
  · refine fw_iload h rfl rfl ?_
    refine fw_iload_n h rfl rfl ?_
    refine fw_icmp_ge h rfl (fun c32 => ?_) (fun c32 => False.elim (c32 (Int32.le_refl _)))
    exact fw_vret h rfl rfl ⟨rfl, hp⟩
  · refine fw_iload h rfl rfl ?_
    refine fw_iload_n h rfl rfl ?_
    refine fw_icmp_ge h rfl (fun c32 => False.elim (nI_ge hi (by omega) c32)) (fun c32 => ?_)
    refine fw_aload_n h rfl rfl ?_
    refine fw_getR _ h rfl fk_g_X6_30 rfl rfl ?_
    refine fw_iload_n h rfl rfl ?_
    refine fn_ialdF (w.1 18) h rfl rfl (fx_cp_ne _ _ _ (by decide) _) (by omega) rfl ?_
    refine fw_iload h rfl rfl ?_
    refine fw_s2I h rfl fk_s_X7_isIn fk_l_X6_67 rfl rfl ?_
    refine c_X7_isIn rfl (by omega) (fun c43 => ?_) (fun c43 => ?_)
    · refine fw_if_eq h rfl (fun c => absurd c (by decide)) (fun _ => ?_)
      skip
      · refine fw_aload_n h rfl rfl ?_
        refine fw_getR _ h rfl fk_g_X6_33 rfl rfl ?_
        refine fw_iload h rfl rfl ?_
        refine fw_dup2 h rfl rfl rfl ?_
        refine fn_ialdF ((fx_cp (fb_up (fb_up w 14 t v) 19 t (w.1 19 t + (v - w.1 14 t))) (w.1 18 t) (v - w.1 14 t) i).1 19) h rfl rfl (rfl) (by omega) rfl ?_
        refine fw_iload_n h rfl rfl ?_
        first | refine fn_iadd h rfl ?_ | refine fw_iadd h rfl ?_
        refine fn_iast h rfl rfl (by omega) rfl ?_
        first | refine fn_iinc h [_, _, _, _, _] rfl rfl rfl rfl rfl ?_ | refine fw_iinc h 1 [_, _, _, _, _] rfl (by decide) rfl rfl rfl rfl ?_
        refine fw_goto h rfl ?_
        rw [fx_cp_1 c43] at ih
        exact ih
    · refine fw_if_eq h rfl (fun _ => ?_) (fun c => absurd c (by decide))
      first | refine fn_iinc h [_, _, _, _, _] rfl rfl rfl rfl rfl ?_ | refine fw_iinc h 1 [_, _, _, _, _] rfl (by decide) rfl rfl rfl rfl ?_
      refine fw_goto h rfl ?_
      rw [fx_cp_0 c43] at ih
      exact ih
theorem c_X6_add {l : Launch} {w : fb_Wd} {P : Int32 → fb_Wd → Prop} {k s v u : Int32} {n : Nat} (hn : w.1 2 12 = nI n) (hn2 : n < 20) (hu : u = -9 ∨ ∃ q, q < n ∧ u = nI q) (hp : ∀ tp wm p x be sd, (u = -9 → tp = nI n ∧ wm = nI 0 ∧ p = 0 ∧ x = w.1 20 0) → (∀ q, q < n → u = nI q → tp = w.1 17 q ∧ wm = w.1 18 q ||| nI 1 <<< (nI q &&& 31) ∧ p = q ∧ x = w.1 20 q ||| nI 1 <<< (nI n &&& 31)) → ((k = 1 ∨ k = 2) → be = w.1 2 10 ||| nI 1 <<< (nI n &&& 31)) → (¬ (k = 1 ∨ k = 2) → be = w.1 2 10) → (k = 3 → sd = w.1 2 11 ||| nI 1 <<< (nI n &&& 31)) → (¬ k = 3 → sd = w.1 2 11) → P (nI n) (fb_up (fb_up (fx_cw (fb_up (fb_up (fb_up (fb_up (fb_up (fb_up (fb_up (fb_up w 2 12 (nI (n + 1))) 12 n k) 13 n s) 15 n u) 16 n (-9)) 17 n tp) 18 n wm) 20 p x) n v) 2 10 be) 2 11 sd)) : fb_Can l tX6_add [.ref 2, .int k, .int s, .int v, .int u] w (fb_kI P) := by
  refine fb_intro 1 fk_t_X6_add (by decide) rfl (fun X hX h => ?_)
  subst hX
  change fb_AW tX6_add X 0 [some (.ref 2), some (.int k), some (.int s), some (.int v), some (.int u), none] [] w
  rcases hu with rfl | ⟨q, hq, rfl⟩
  · refine fw_aload_n h rfl rfl ?_
    refine fw_getIv (nI n) h rfl fk_g_X6_49 rfl rfl (hn) ?_
    refine fw_istore h [_, _, _, _, _, _] rfl rfl rfl rfl ?_
    refine fw_aload_n h rfl rfl ?_
    refine fw_dup h rfl rfl ?_
    refine fw_getIv (nI n) h rfl fk_g_X6_49 rfl rfl (hn) ?_
    refine fw_iconst h (nI 1) rfl (by decide) ?_
    first | refine fn_iadd h rfl ?_ | refine fw_iadd h rfl ?_
    refine fw_putI h rfl fk_p_X6_49 rfl rfl ?_
    refine fw_aload_n h rfl rfl ?_
    refine fw_getR _ h rfl fk_g_X6_9 rfl rfl ?_
    refine fw_iload h rfl rfl ?_
    refine fw_iload_n h rfl rfl ?_
    refine fn_iast h rfl rfl (by omega) rfl ?_
    refine fw_aload_n h rfl rfl ?_
    refine fw_getR _ h rfl fk_g_X6_15 rfl rfl ?_
    refine fw_iload h rfl rfl ?_
    refine fw_iload_n h rfl rfl ?_
    refine fn_iast h rfl rfl (by omega) rfl ?_
    refine fw_aload_n h rfl rfl ?_
    refine fw_getR _ h rfl fk_g_X6_21 rfl rfl ?_
    refine fw_iload h rfl rfl ?_
    refine fw_iload h rfl rfl ?_
    refine fn_iast h rfl rfl (by omega) rfl ?_
    refine fw_aload_n h rfl rfl ?_
    refine fw_getR _ h rfl fk_g_X6_24 rfl rfl ?_
    refine fw_iload h rfl rfl ?_
    refine fw_bipush h (-9) rfl (by decide) ?_
    refine fn_iast h rfl rfl (by omega) rfl ?_
    refine fw_aload_n h rfl rfl ?_
    refine fw_getR _ h rfl fk_g_X6_27 rfl rfl ?_
    refine fw_iload h rfl rfl ?_
    refine fw_iload h rfl rfl ?_
    refine fw_bipush h (-9) rfl (by decide) ?_
    refine fw_icmp_ne h rfl (fun c60 => False.elim (c60 rfl)) (fun c60 => ?_)
    refine fw_iload h rfl rfl ?_
    refine fw_goto h rfl ?_
    refine fn_iast h rfl rfl (by omega) rfl ?_
    refine fw_aload_n h rfl rfl ?_
    refine fw_getR _ h rfl fk_g_X6_30 rfl rfl ?_
    refine fw_iload h rfl rfl ?_
    refine fw_iload h rfl rfl ?_
    refine fw_bipush h (-9) rfl (by decide) ?_
    refine fw_icmp_ne h rfl (fun c86 => False.elim (c86 rfl)) (fun c86 => ?_)
    refine fw_iconst h (nI 0) rfl (by decide) ?_
    refine fw_goto h rfl ?_
    refine fn_iast h rfl rfl (by omega) rfl ?_
    refine fw_iload h rfl rfl ?_
    refine fw_bipush h (-9) rfl (by decide) ?_
    refine fw_icmp_eq h rfl (fun c111 => ?_) (fun c111 => False.elim (c111 rfl))
    refine fw_cw rfl (fb_up_self _ 20 0) ?_
    · refine fw_aload_n h rfl rfl ?_
      refine fw_iload h rfl rfl ?_
      refine fw_iload_n h rfl rfl ?_
      refine fw_v2V h rfl fk_v_X6_changeWorth fk_l_X6_60 rfl rfl rfl rfl ?_
      refine c_X6_changeWorth (by omega) ?_
      refine fw_aload_n h rfl rfl ?_
      refine fw_iload h rfl rfl ?_
      refine fw_iconst h (nI 1) rfl (by decide) ?_
      refine fw_v2I h rfl fk_v_X6_isA fk_l_X6_64 rfl rfl rfl rfl ?_
      refine c_X6_isA (k0 := k) (by omega) (by rw [fx_cw_ne _ _ _ (by decide)]; simp [fb_up]) (fun c140 => ?_) (fun c140 => ?_)
      · refine fw_if_eq h rfl (fun c => absurd c (by decide)) (fun _ => ?_)
        have hbe : k = 1 ∨ k = 2 := c140.elim Or.inl (fun z => Or.inr z.2)
        · refine fw_aload_n h rfl rfl ?_
          refine fw_dup h rfl rfl ?_
          refine fw_getIv (w.1 2 10) h rfl fk_g_X6_42 rfl rfl (congrFun (fx_cw_ne _ _ _ (by decide)) 10) ?_
          refine fw_iload h rfl rfl ?_
          refine fw_s1I h rfl fk_s_X7_bitOf fk_l_X6_56 rfl rfl ?_
          refine c_X7_bitOfN (by omega) ?_
          refine fw_ior h rfl ?_
          refine fw_putI h rfl fk_p_X6_42 rfl rfl ?_
          refine fw_aload_n h rfl rfl ?_
          refine fw_iload h rfl rfl ?_
          refine fw_iconst h (nI 3) rfl (by decide) ?_
          refine fw_v2I h rfl fk_v_X6_isA fk_l_X6_64 rfl rfl rfl rfl ?_
          refine c_X6_isA (k0 := k) (by omega) (by rw [fb_up_ne _ _ _ (by decide), fx_cw_ne _ _ _ (by decide)]; simp [fb_up]) (fun c164 => ?_) (fun c164 => ?_)
          · refine fw_if_eq h rfl (fun c => absurd c (by decide)) (fun _ => ?_)
            have hsd : k = 3 := c164.elim id (fun z => absurd z.1 (by decide))
            · refine fw_aload_n h rfl rfl ?_
              refine fw_dup h rfl rfl ?_
              refine fw_getIv (w.1 2 11) h rfl fk_g_X6_46 rfl rfl ((fb_up_nk _ _ (by decide)).trans (congrFun (fx_cw_ne _ _ _ (by decide)) 11)) ?_
              refine fw_iload h rfl rfl ?_
              refine fw_s1I h rfl fk_s_X7_bitOf fk_l_X6_56 rfl rfl ?_
              refine c_X7_bitOfN (by omega) ?_
              refine fw_ior h rfl ?_
              refine fw_putI h rfl fk_p_X6_46 rfl rfl ?_
              refine fw_iload h rfl rfl ?_
              exact fw_iret h rfl rfl ⟨_, rfl, hp _ _ _ _ _ _ (fun _ => ⟨rfl, rfl, rfl, rfl⟩) (fun q hq z => absurd z.symm (nI_ne9 (by omega))) (fun _ => rfl) (fun z => absurd hbe z) (fun _ => rfl) (fun z => absurd hsd z)⟩
          · refine fw_if_eq h rfl (fun _ => ?_) (fun c => absurd c (by decide))
            have hsd : ¬ k = 3 := fun z => c164 (Or.inl z)
            refine fw_cw rfl (fb_up_self _ 2 11) ?_
            · refine fw_iload h rfl rfl ?_
              exact fw_iret h rfl rfl ⟨_, rfl, hp _ _ _ _ _ _ (fun _ => ⟨rfl, rfl, rfl, rfl⟩) (fun q hq z => absurd z.symm (nI_ne9 (by omega))) (fun _ => rfl) (fun z => absurd hbe z) (fun z => absurd z hsd) (fun _ => (fb_up_nk _ _ (by decide)).trans (congrFun (fx_cw_ne _ _ _ (by decide)) 11))⟩
      · refine fw_if_eq h rfl (fun _ => ?_) (fun c => absurd c (by decide))
        have hbe : ¬ (k = 1 ∨ k = 2) := fun z => c140 (z.elim Or.inl (fun y => Or.inr ⟨rfl, y⟩))
        refine fw_cw rfl (fb_up_self _ 2 10) ?_
        · refine fw_aload_n h rfl rfl ?_
          refine fw_iload h rfl rfl ?_
          refine fw_iconst h (nI 3) rfl (by decide) ?_
          refine fw_v2I h rfl fk_v_X6_isA fk_l_X6_64 rfl rfl rfl rfl ?_
          refine c_X6_isA (k0 := k) (by omega) (by rw [fb_up_ne _ _ _ (by decide), fx_cw_ne _ _ _ (by decide)]; simp [fb_up]) (fun c164 => ?_) (fun c164 => ?_)
          · refine fw_if_eq h rfl (fun c => absurd c (by decide)) (fun _ => ?_)
            have hsd : k = 3 := c164.elim id (fun z => absurd z.1 (by decide))
            · refine fw_aload_n h rfl rfl ?_
              refine fw_dup h rfl rfl ?_
              refine fw_getIv (w.1 2 11) h rfl fk_g_X6_46 rfl rfl ((fb_up_nk _ _ (by decide)).trans (congrFun (fx_cw_ne _ _ _ (by decide)) 11)) ?_
              refine fw_iload h rfl rfl ?_
              refine fw_s1I h rfl fk_s_X7_bitOf fk_l_X6_56 rfl rfl ?_
              refine c_X7_bitOfN (by omega) ?_
              refine fw_ior h rfl ?_
              refine fw_putI h rfl fk_p_X6_46 rfl rfl ?_
              refine fw_iload h rfl rfl ?_
              exact fw_iret h rfl rfl ⟨_, rfl, hp _ _ _ _ _ _ (fun _ => ⟨rfl, rfl, rfl, rfl⟩) (fun q hq z => absurd z.symm (nI_ne9 (by omega))) (fun z => absurd z hbe) (fun _ => congrFun (fx_cw_ne _ _ _ (by decide)) 10) (fun _ => rfl) (fun z => absurd hsd z)⟩
          · refine fw_if_eq h rfl (fun _ => ?_) (fun c => absurd c (by decide))
            have hsd : ¬ k = 3 := fun z => c164 (Or.inl z)
            refine fw_cw rfl (fb_up_self _ 2 11) ?_
            · refine fw_iload h rfl rfl ?_
              exact fw_iret h rfl rfl ⟨_, rfl, hp _ _ _ _ _ _ (fun _ => ⟨rfl, rfl, rfl, rfl⟩) (fun q hq z => absurd z.symm (nI_ne9 (by omega))) (fun z => absurd z hbe) (fun _ => congrFun (fx_cw_ne _ _ _ (by decide)) 10) (fun z => absurd z hsd) (fun _ => (fb_up_nk _ _ (by decide)).trans (congrFun (fx_cw_ne _ _ _ (by decide)) 11))⟩
  · refine fw_aload_n h rfl rfl ?_
    refine fw_getIv (nI n) h rfl fk_g_X6_49 rfl rfl (hn) ?_
    refine fw_istore h [_, _, _, _, _, _] rfl rfl rfl rfl ?_
    refine fw_aload_n h rfl rfl ?_
    refine fw_dup h rfl rfl ?_
    refine fw_getIv (nI n) h rfl fk_g_X6_49 rfl rfl (hn) ?_
    refine fw_iconst h (nI 1) rfl (by decide) ?_
    first | refine fn_iadd h rfl ?_ | refine fw_iadd h rfl ?_
    refine fw_putI h rfl fk_p_X6_49 rfl rfl ?_
    refine fw_aload_n h rfl rfl ?_
    refine fw_getR _ h rfl fk_g_X6_9 rfl rfl ?_
    refine fw_iload h rfl rfl ?_
    refine fw_iload_n h rfl rfl ?_
    refine fn_iast h rfl rfl (by omega) rfl ?_
    refine fw_aload_n h rfl rfl ?_
    refine fw_getR _ h rfl fk_g_X6_15 rfl rfl ?_
    refine fw_iload h rfl rfl ?_
    refine fw_iload_n h rfl rfl ?_
    refine fn_iast h rfl rfl (by omega) rfl ?_
    refine fw_aload_n h rfl rfl ?_
    refine fw_getR _ h rfl fk_g_X6_21 rfl rfl ?_
    refine fw_iload h rfl rfl ?_
    refine fw_iload h rfl rfl ?_
    refine fn_iast h rfl rfl (by omega) rfl ?_
    refine fw_aload_n h rfl rfl ?_
    refine fw_getR _ h rfl fk_g_X6_24 rfl rfl ?_
    refine fw_iload h rfl rfl ?_
    refine fw_bipush h (-9) rfl (by decide) ?_
    refine fn_iast h rfl rfl (by omega) rfl ?_
    refine fw_aload_n h rfl rfl ?_
    refine fw_getR _ h rfl fk_g_X6_27 rfl rfl ?_
    refine fw_iload h rfl rfl ?_
    refine fw_iload h rfl rfl ?_
    refine fw_bipush h (-9) rfl (by decide) ?_
    refine fw_icmp_ne h rfl (fun c60 => ?_) (fun c60 => False.elim (nI_ne9 (n := q) (by omega) c60))
    refine fw_aload_n h rfl rfl ?_
    refine fw_getR _ h rfl fk_g_X6_27 rfl rfl ?_
    refine fw_iload h rfl rfl ?_
    refine fn_ialdF (w.1 17) h rfl rfl (rfl) (by omega) rfl ?_
    refine fn_iast h rfl rfl (by omega) rfl ?_
    refine fw_aload_n h rfl rfl ?_
    refine fw_getR _ h rfl fk_g_X6_30 rfl rfl ?_
    refine fw_iload h rfl rfl ?_
    refine fw_iload h rfl rfl ?_
    refine fw_bipush h (-9) rfl (by decide) ?_
    refine fw_icmp_ne h rfl (fun c86 => ?_) (fun c86 => False.elim (nI_ne9 (n := q) (by omega) c86))
    refine fw_aload_n h rfl rfl ?_
    refine fw_getR _ h rfl fk_g_X6_30 rfl rfl ?_
    refine fw_iload h rfl rfl ?_
    refine fn_ialdF (w.1 18) h rfl rfl (rfl) (by omega) rfl ?_
    refine fw_iload h rfl rfl ?_
    refine fw_s1I h rfl fk_s_X7_bitOf fk_l_X6_56 rfl rfl ?_
    refine c_X7_bitOfN (by omega) ?_
    refine fw_ior h rfl ?_
    refine fn_iast h rfl rfl (by omega) rfl ?_
    refine fw_iload h rfl rfl ?_
    refine fw_bipush h (-9) rfl (by decide) ?_
    refine fw_icmp_eq h rfl (fun c111 => False.elim (nI_ne9 (n := q) (by omega) c111)) (fun c111 => ?_)
    refine fw_aload_n h rfl rfl ?_
    refine fw_getR _ h rfl fk_g_X6_36 rfl rfl ?_
    refine fw_iload h rfl rfl ?_
    refine fw_dup2 h rfl rfl rfl ?_
    refine fn_ialdF (w.1 20) h rfl rfl (rfl) (by omega) rfl ?_
    refine fw_iload h rfl rfl ?_
    refine fw_s1I h rfl fk_s_X7_bitOf fk_l_X6_56 rfl rfl ?_
    refine c_X7_bitOfN (by omega) ?_
    refine fw_ior h rfl ?_
    refine fn_iast h rfl rfl (by omega) rfl ?_
    refine fw_aload_n h rfl rfl ?_
    refine fw_iload h rfl rfl ?_
    refine fw_iload_n h rfl rfl ?_
    refine fw_v2V h rfl fk_v_X6_changeWorth fk_l_X6_60 rfl rfl rfl rfl ?_
    refine c_X6_changeWorth (by omega) ?_
    refine fw_aload_n h rfl rfl ?_
    refine fw_iload h rfl rfl ?_
    refine fw_iconst h (nI 1) rfl (by decide) ?_
    refine fw_v2I h rfl fk_v_X6_isA fk_l_X6_64 rfl rfl rfl rfl ?_
    refine c_X6_isA (k0 := k) (by omega) (by rw [fx_cw_ne _ _ _ (by decide)]; simp [fb_up]) (fun c140 => ?_) (fun c140 => ?_)
    · refine fw_if_eq h rfl (fun c => absurd c (by decide)) (fun _ => ?_)
      have hbe : k = 1 ∨ k = 2 := c140.elim Or.inl (fun z => Or.inr z.2)
      · refine fw_aload_n h rfl rfl ?_
        refine fw_dup h rfl rfl ?_
        refine fw_getIv (w.1 2 10) h rfl fk_g_X6_42 rfl rfl (congrFun (fx_cw_ne _ _ _ (by decide)) 10) ?_
        refine fw_iload h rfl rfl ?_
        refine fw_s1I h rfl fk_s_X7_bitOf fk_l_X6_56 rfl rfl ?_
        refine c_X7_bitOfN (by omega) ?_
        refine fw_ior h rfl ?_
        refine fw_putI h rfl fk_p_X6_42 rfl rfl ?_
        refine fw_aload_n h rfl rfl ?_
        refine fw_iload h rfl rfl ?_
        refine fw_iconst h (nI 3) rfl (by decide) ?_
        refine fw_v2I h rfl fk_v_X6_isA fk_l_X6_64 rfl rfl rfl rfl ?_
        refine c_X6_isA (k0 := k) (by omega) (by rw [fb_up_ne _ _ _ (by decide), fx_cw_ne _ _ _ (by decide)]; simp [fb_up]) (fun c164 => ?_) (fun c164 => ?_)
        · refine fw_if_eq h rfl (fun c => absurd c (by decide)) (fun _ => ?_)
          have hsd : k = 3 := c164.elim id (fun z => absurd z.1 (by decide))
          · refine fw_aload_n h rfl rfl ?_
            refine fw_dup h rfl rfl ?_
            refine fw_getIv (w.1 2 11) h rfl fk_g_X6_46 rfl rfl ((fb_up_nk _ _ (by decide)).trans (congrFun (fx_cw_ne _ _ _ (by decide)) 11)) ?_
            refine fw_iload h rfl rfl ?_
            refine fw_s1I h rfl fk_s_X7_bitOf fk_l_X6_56 rfl rfl ?_
            refine c_X7_bitOfN (by omega) ?_
            refine fw_ior h rfl ?_
            refine fw_putI h rfl fk_p_X6_46 rfl rfl ?_
            refine fw_iload h rfl rfl ?_
            exact fw_iret h rfl rfl ⟨_, rfl, hp _ _ _ _ _ _ (fun z => absurd z (nI_ne9 (by omega))) (fun q2 hq2 z => by have e2 := (nI_eq (by omega) (by omega)).mp z; subst e2; exact ⟨rfl, rfl, rfl, rfl⟩) (fun _ => rfl) (fun z => absurd hbe z) (fun _ => rfl) (fun z => absurd hsd z)⟩
        · refine fw_if_eq h rfl (fun _ => ?_) (fun c => absurd c (by decide))
          have hsd : ¬ k = 3 := fun z => c164 (Or.inl z)
          refine fw_cw rfl (fb_up_self _ 2 11) ?_
          · refine fw_iload h rfl rfl ?_
            exact fw_iret h rfl rfl ⟨_, rfl, hp _ _ _ _ _ _ (fun z => absurd z (nI_ne9 (by omega))) (fun q2 hq2 z => by have e2 := (nI_eq (by omega) (by omega)).mp z; subst e2; exact ⟨rfl, rfl, rfl, rfl⟩) (fun _ => rfl) (fun z => absurd hbe z) (fun z => absurd z hsd) (fun _ => (fb_up_nk _ _ (by decide)).trans (congrFun (fx_cw_ne _ _ _ (by decide)) 11))⟩
    · refine fw_if_eq h rfl (fun _ => ?_) (fun c => absurd c (by decide))
      have hbe : ¬ (k = 1 ∨ k = 2) := fun z => c140 (z.elim Or.inl (fun y => Or.inr ⟨rfl, y⟩))
      refine fw_cw rfl (fb_up_self _ 2 10) ?_
      · refine fw_aload_n h rfl rfl ?_
        refine fw_iload h rfl rfl ?_
        refine fw_iconst h (nI 3) rfl (by decide) ?_
        refine fw_v2I h rfl fk_v_X6_isA fk_l_X6_64 rfl rfl rfl rfl ?_
        refine c_X6_isA (k0 := k) (by omega) (by rw [fb_up_ne _ _ _ (by decide), fx_cw_ne _ _ _ (by decide)]; simp [fb_up]) (fun c164 => ?_) (fun c164 => ?_)
        · refine fw_if_eq h rfl (fun c => absurd c (by decide)) (fun _ => ?_)
          have hsd : k = 3 := c164.elim id (fun z => absurd z.1 (by decide))
          · refine fw_aload_n h rfl rfl ?_
            refine fw_dup h rfl rfl ?_
            refine fw_getIv (w.1 2 11) h rfl fk_g_X6_46 rfl rfl ((fb_up_nk _ _ (by decide)).trans (congrFun (fx_cw_ne _ _ _ (by decide)) 11)) ?_
            refine fw_iload h rfl rfl ?_
            refine fw_s1I h rfl fk_s_X7_bitOf fk_l_X6_56 rfl rfl ?_
            refine c_X7_bitOfN (by omega) ?_
            refine fw_ior h rfl ?_
            refine fw_putI h rfl fk_p_X6_46 rfl rfl ?_
            refine fw_iload h rfl rfl ?_
            exact fw_iret h rfl rfl ⟨_, rfl, hp _ _ _ _ _ _ (fun z => absurd z (nI_ne9 (by omega))) (fun q2 hq2 z => by have e2 := (nI_eq (by omega) (by omega)).mp z; subst e2; exact ⟨rfl, rfl, rfl, rfl⟩) (fun z => absurd z hbe) (fun _ => congrFun (fx_cw_ne _ _ _ (by decide)) 10) (fun _ => rfl) (fun z => absurd hsd z)⟩
        · refine fw_if_eq h rfl (fun _ => ?_) (fun c => absurd c (by decide))
          have hsd : ¬ k = 3 := fun z => c164 (Or.inl z)
          refine fw_cw rfl (fb_up_self _ 2 11) ?_
          · refine fw_iload h rfl rfl ?_
            exact fw_iret h rfl rfl ⟨_, rfl, hp _ _ _ _ _ _ (fun z => absurd z (nI_ne9 (by omega))) (fun q2 hq2 z => by have e2 := (nI_eq (by omega) (by omega)).mp z; subst e2; exact ⟨rfl, rfl, rfl, rfl⟩) (fun z => absurd z hbe) (fun _ => congrFun (fx_cw_ne _ _ _ (by decide)) 10) (fun z => absurd z hsd) (fun _ => (fb_up_nk _ _ (by decide)).trans (congrFun (fx_cw_ne _ _ _ (by decide)) 11))⟩
