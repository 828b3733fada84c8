theorem fw_cg {T : fb_T} {X : fb_Cx} {pc : Nat} {L L' : List (Option Value)} {S : List Value} {w : fb_Wd} (e : L' = L) (k : fb_AW T X pc L' S w) : fb_AW T X pc L S w := e ▸ k
theorem fw_cw {T : fb_T} {X : fb_Cx} {pc : Nat} {L L' : List (Option Value)} {S : List Value} {w w' : fb_Wd} (e : L' = L) (ew : w' = w) (k : fb_AW T X pc L' S w') : fb_AW T X pc L S w := by subst e; subst ew; exact k
theorem nI_ofle {x : Int32} {n : Nat} (h0 : 0 ≤ x) (h1 : x ≤ nI n) (hn : n < 2 ^ 31) : ∃ j : Nat, j ≤ n ∧ x = nI j := nI_of2 (M := nI n) (nI_toInt hn) (Int32.not_lt.mpr h0) h1
theorem c_X8_in {l : Launch} {w : fb_Wd} {P : Int32 → fb_Wd → Prop} {a b c : Int32} (ht : b ≤ a → a ≤ c → P 1 w) (hf : ¬ (b ≤ a ∧ a ≤ c) → P 0 w) : fb_Can l tX8_in [.int a, .int b, .int c] w (fb_kI P) := by
  refine fb_intro 0 fk_t_X8_in (by decide) rfl (fun X hX h => ?_)
  subst hX
  change fb_AW tX8_in X 0 [some (.int a), some (.int b), some (.int c)] [] w
  refine fw_iload_n h rfl rfl ?_
  refine fw_iload_n h rfl rfl ?_
  refine fw_icmp_lt h rfl (fun c2 => ?_) (fun c2 => ?_)
  · refine fw_iconst h (nI 0) rfl (by decide) ?_
    exact fw_zret h rfl rfl (by first | exact Or.inl rfl | exact Or.inr rfl | assumption) ⟨_, rfl, hf (fun q => by first | exact absurd c2 (Int32.not_lt.mpr q.1) | exact absurd c7 (Int32.not_lt.mpr q.2))⟩
  · refine fw_iload_n h rfl rfl ?_
    refine fw_iload_n h rfl rfl ?_
    refine fw_icmp_gt h rfl (fun c7 => ?_) (fun c7 => ?_)
    · refine fw_iconst h (nI 0) rfl (by decide) ?_
      exact fw_zret h rfl rfl (by first | exact Or.inl rfl | exact Or.inr rfl | assumption) ⟨_, rfl, hf (fun q => by first | exact absurd c2 (Int32.not_lt.mpr q.1) | exact absurd c7 (Int32.not_lt.mpr q.2))⟩
    · refine fw_iconst h (nI 1) rfl (by decide) ?_
      refine fw_goto h rfl ?_
      exact fw_zret h rfl rfl (by first | exact Or.inl rfl | exact Or.inr rfl | assumption) ⟨_, rfl, ht (Int32.not_lt.mp c2) (Int32.not_lt.mp c7)⟩
theorem c_X8_has {l : Launch} {w : fb_Wd} {P : Int32 → fb_Wd → Prop} {s k : Int32} (ht : (s >>> (k &&& 31)) &&& 1 = 1 → P 1 w) (hf : ¬ (s >>> (k &&& 31)) &&& 1 = 1 → P 0 w) : fb_Can l tX8_has [.int s, .int k] w (fb_kI P) := by
  refine fb_intro 0 fk_t_X8_has (by decide) rfl (fun X hX h => ?_)
  subst hX
  change fb_AW tX8_has X 0 [some (.int s), some (.int k)] [] w
  refine fw_iload_n h rfl rfl ?_
  refine fw_iload_n h rfl rfl ?_
  refine fw_ishr h rfl ?_
  refine fw_iconst h (nI 1) rfl (by decide) ?_
  refine fw_iand h rfl ?_
  refine fw_iconst h (nI 1) rfl (by decide) ?_
  refine fw_icmp_ne h rfl (fun c6 => ?_) (fun c6 => ?_)
  · refine fw_iconst h (nI 0) rfl (by decide) ?_
    exact fw_zret h rfl rfl (by first | exact Or.inl rfl | exact Or.inr rfl | assumption) ⟨_, rfl, hf c6⟩
  · refine fw_iconst h (nI 1) rfl (by decide) ?_
    refine fw_goto h rfl ?_
    exact fw_zret h rfl rfl (by first | exact Or.inl rfl | exact Or.inr rfl | assumption) ⟨_, rfl, ht c6⟩
theorem c_X8_meets {l : Launch} {w : fb_Wd} {P : Int32 → fb_Wd → Prop} {f : Nat} (hf : f < 6) (hp : P (-3) (fb_up (fb_up w 46 0 (nI f)) 47 f (w.1 47 f + 1))) : fb_Can l tX8_meets [.ref 46, .int (nI f)] w (fb_kI P) := by
  refine fb_intro 0 fk_t_X8_meets (by decide) rfl (fun X hX h => ?_)
  subst hX
  change fb_AW tX8_meets X 0 [some (.ref 46), some (.int (nI f))] [] w
  refine fw_aload_n h rfl rfl ?_
  refine fw_iload_n h rfl rfl ?_
  refine fw_putI h rfl fk_p_X8_99 rfl rfl ?_
  refine fw_aload_n h rfl rfl ?_
  refine fw_getR _ h rfl fk_g_X8_7 rfl rfl ?_
  refine fw_iload_n h rfl rfl ?_
  refine fw_dup2 h rfl rfl rfl ?_
  refine fn_iald h rfl rfl (by omega) rfl ?_
  refine fw_iconst h (nI 1) rfl (by decide) ?_
  first | refine fn_iadd h rfl ?_ | refine fw_iadd h rfl ?_
  refine fn_iast h rfl rfl (by omega) rfl ?_
  refine fw_bipush h (-3) rfl (by decide) ?_
  exact fw_iret h rfl rfl ⟨_, rfl, hp⟩
theorem c_X8_ask {l : Launch} {w : fb_Wd} {P : Int32 → fb_Wd → Prop} {v x : Int32} (hp : P x (fb_up w 46 2 v)) : fb_Can l tX8_ask [.ref 46, .int v, .int x] w (fb_kI P) := by
  refine fb_intro 0 fk_t_X8_ask (by decide) rfl (fun X hX h => ?_)
  subst hX
  change fb_AW tX8_ask X 0 [some (.ref 46), some (.int v), some (.int x)] [] w
  refine fw_aload_n h rfl rfl ?_
  refine fw_iload_n h rfl rfl ?_
  refine fw_putI h rfl fk_p_X8_103 rfl rfl ?_
  refine fw_iload_n h rfl rfl ?_
  exact fw_iret h rfl rfl ⟨_, rfl, hp⟩
theorem c_X8_isRow {l : Launch} {w : fb_Wd} {P : Int32 → fb_Wd → Prop} {a : Int32} (ht : 0 ≤ a → a ≤ 5 → P 1 w) (hf : ¬ (0 ≤ a ∧ a ≤ 5) → P 0 w) : fb_Can l tX8_isRow [.int a] w (fb_kI P) := by
  refine fb_intro 0 fk_t_X8_isRow (by decide) rfl (fun X hX h => ?_)
  subst hX
  change fb_AW tX8_isRow X 0 [some (.int a)] [] w
  refine fw_iload_n h rfl rfl ?_
  refine fw_iconst h (nI 0) rfl (by decide) ?_
  refine fw_iconst h (nI 5) rfl (by decide) ?_
  refine fw_s3I h rfl fk_s_X8_in fk_l_X8_109 rfl rfl ?_
  refine c_X8_in (fun c3a c3b => ?_) (fun c3 => ?_)
  · exact fw_zret h rfl rfl (by first | exact Or.inl rfl | exact Or.inr rfl | assumption) ⟨_, rfl, by first | exact ht (by assumption) (by assumption) | exact hf (by assumption)⟩
  · exact fw_zret h rfl rfl (by first | exact Or.inl rfl | exact Or.inr rfl | assumption) ⟨_, rfl, by first | exact ht (by assumption) (by assumption) | exact hf (by assumption)⟩
theorem c_X8_isSort {l : Launch} {w : fb_Wd} {P : Int32 → fb_Wd → Prop} {a : Int32} (ht : 0 ≤ a → a ≤ 9 → P 1 w) (hf : ¬ (0 ≤ a ∧ a ≤ 9) → P 0 w) : fb_Can l tX8_isSort [.int a] w (fb_kI P) := by
  refine fb_intro 0 fk_t_X8_isSort (by decide) rfl (fun X hX h => ?_)
  subst hX
  change fb_AW tX8_isSort X 0 [some (.int a)] [] w
  refine fw_iload_n h rfl rfl ?_
  refine fw_iconst h (nI 0) rfl (by decide) ?_
  refine fw_bipush h (nI 9) rfl (by decide) ?_
  refine fw_s3I h rfl fk_s_X8_in fk_l_X8_109 rfl rfl ?_
  refine c_X8_in (fun c4a c4b => ?_) (fun c4 => ?_)
  · exact fw_zret h rfl rfl (by first | exact Or.inl rfl | exact Or.inr rfl | assumption) ⟨_, rfl, by first | exact ht (by assumption) (by assumption) | exact hf (by assumption)⟩
  · exact fw_zret h rfl rfl (by first | exact Or.inl rfl | exact Or.inr rfl | assumption) ⟨_, rfl, by first | exact ht (by assumption) (by assumption) | exact hf (by assumption)⟩
theorem c_X8_isPlace {l : Launch} {w : fb_Wd} {P : Int32 → fb_Wd → Prop} {a : Int32} (ht : 0 ≤ a → a ≤ 7 → P 1 w) (hf : ¬ (0 ≤ a ∧ a ≤ 7) → P 0 w) : fb_Can l tX8_isPlace [.int a] w (fb_kI P) := by
  refine fb_intro 0 fk_t_X8_isPlace (by decide) rfl (fun X hX h => ?_)
  subst hX
  change fb_AW tX8_isPlace X 0 [some (.int a)] [] w
  refine fw_iload_n h rfl rfl ?_
  refine fw_iconst h (nI 0) rfl (by decide) ?_
  refine fw_bipush h (nI 7) rfl (by decide) ?_
  refine fw_s3I h rfl fk_s_X8_in fk_l_X8_109 rfl rfl ?_
  refine c_X8_in (fun c4a c4b => ?_) (fun c4 => ?_)
  · exact fw_zret h rfl rfl (by first | exact Or.inl rfl | exact Or.inr rfl | assumption) ⟨_, rfl, by first | exact ht (by assumption) (by assumption) | exact hf (by assumption)⟩
  · exact fw_zret h rfl rfl (by first | exact Or.inl rfl | exact Or.inr rfl | assumption) ⟨_, rfl, by first | exact ht (by assumption) (by assumption) | exact hf (by assumption)⟩
theorem c_X8_isYear {l : Launch} {w : fb_Wd} {P : Int32 → fb_Wd → Prop} {a : Int32} (ht : 1000 ≤ a → a ≤ 1900 → P 1 w) (hf : ¬ (1000 ≤ a ∧ a ≤ 1900) → P 0 w) : fb_Can l tX8_isYear [.int a] w (fb_kI P) := by
  refine fb_intro 0 fk_t_X8_isYear (by decide) rfl (fun X hX h => ?_)
  subst hX
  change fb_AW tX8_isYear X 0 [some (.int a)] [] w
  refine fw_iload_n h rfl rfl ?_
  refine fw_sipush h (nI 1000) rfl (by decide) ?_
  refine fw_sipush h (nI 1900) rfl (by decide) ?_
  refine fw_s3I h rfl fk_s_X8_in fk_l_X8_109 rfl rfl ?_
  refine c_X8_in (fun c7a c7b => ?_) (fun c7 => ?_)
  · exact fw_zret h rfl rfl (by first | exact Or.inl rfl | exact Or.inr rfl | assumption) ⟨_, rfl, by first | exact ht (by assumption) (by assumption) | exact hf (by assumption)⟩
  · exact fw_zret h rfl rfl (by first | exact Or.inl rfl | exact Or.inr rfl | assumption) ⟨_, rfl, by first | exact ht (by assumption) (by assumption) | exact hf (by assumption)⟩
def fp_bits (s : Int32) : Nat → Int32
  | 0 => 0
  | n + 1 => fp_bits s n + ((s >>> (nI n &&& 31)) &&& 1)
theorem c_X8_bits {l : Launch} {w : fb_Wd} {P : Int32 → fb_Wd → Prop} {s : Int32} (hp : P (fp_bits s 20) w) : fb_Can l tX8_bits [.int s] w (fb_kI P) := by
  refine fb_intro 2 fk_t_X8_bits (by decide) rfl (fun X hX h => ?_)
  subst hX
  change fb_AW tX8_bits X 0 [some (.int s), none, none] [] w
  refine fw_iconst h (nI 0) rfl (by decide) ?_
  refine fw_istore_n h [_, _, _] rfl rfl rfl rfl ?_
  refine fw_iconst h (nI 0) rfl (by decide) ?_
  refine fw_istore_n h [_, _, _] rfl rfl rfl rfl ?_
  refine fb_loop (fun i => fb_AW tX8_bits X 4 [some (.int s), some (.int (fp_bits s i)), some (.int (nI i))] [] w) (20) ?_ (fun i hi ih => ?_) 0 (Nat.zero_le _)
  · refine fw_iload_n h rfl rfl ?_
    refine fw_bipush h (nI 20) rfl (by decide) ?_
    refine fw_icmp_ge h rfl (fun c7 => ?_) (fun c7 => False.elim (c7 (by decide)))
    refine fw_iload_n h rfl rfl ?_
    exact fw_iret h rfl rfl ⟨_, rfl, hp⟩
  · refine fw_iload_n h rfl rfl ?_
    refine fw_bipush h (nI 20) rfl (by decide) ?_
    refine fw_icmp_ge h rfl (fun c7 => False.elim (nI_ge hi (by decide) c7)) (fun c7 => ?_)
    refine fw_iload_n h rfl rfl ?_
    refine fw_iload_n h rfl rfl ?_
    refine fw_iload_n h rfl rfl ?_
    refine fw_ishr h rfl ?_
    refine fw_iconst h (nI 1) rfl (by decide) ?_
    refine fw_iand h rfl ?_
    first | refine fn_iadd h rfl ?_ | refine fw_iadd h rfl ?_
    refine fw_istore_n h [_, _, _] rfl rfl rfl rfl ?_
    first | refine fn_iinc h [_, _, _] rfl rfl rfl rfl rfl ?_ | refine fw_iinc h 1 [_, _, _] rfl (by decide) rfl rfl rfl rfl ?_
    refine fw_goto h rfl ?_
    exact ih
theorem fp_below {a : Int32} {n : Nat} (hn : n < 2 ^ 30) : (0 ≤ a ∧ a ≤ nI n - 1) ↔ ∃ j, j < n ∧ a = nI j := by
  constructor
  · rintro ⟨h0, h1⟩
    cases n with
    | zero =>
      rw [nI_0] at h1
      exact absurd (Int32.le_trans h0 h1) (by decide)
    | succ n =>
      rw [nI_pred] at h1
      obtain ⟨j, hj, e⟩ := nI_ofle h0 h1 (by omega)
      exact ⟨j, by omega, e⟩
  · rintro ⟨j, hj, rfl⟩
    refine ⟨nI_pos' (by omega), ?_⟩
    obtain ⟨m, rfl⟩ : ∃ m, n = m + 1 := ⟨n - 1, by omega⟩
    rw [nI_pred]
    exact nI_le (by omega) (by omega)
theorem e_X8_isThing {l : Launch} {w : fb_Wd} {P : Int32 → fb_Wd → Prop} {a : Int32} (ht : 0 ≤ a → a ≤ w.1 46 8 - 1 → P 1 w) (hf : ¬ (0 ≤ a ∧ a ≤ w.1 46 8 - 1) → P 0 w) : fb_Can l tX8_isThing [.ref 46, .int a] w (fb_kI P) := by
  refine fb_intro 0 fk_t_X8_isThing (by decide) rfl (fun X hX h => ?_)
  subst hX
  change fb_AW tX8_isThing X 0 [some (.ref 46), some (.int a)] [] w
  refine fw_iload_n h rfl rfl ?_
  refine fw_iconst h (nI 0) rfl (by decide) ?_
  refine fw_aload_n h rfl rfl ?_
  refine fw_getI h rfl fk_g_X8_124 rfl rfl ?_
  refine fw_iconst h (nI 1) rfl (by decide) ?_
  refine fw_isub h rfl ?_
  refine fw_s3I h rfl fk_s_X8_in fk_l_X8_109 rfl rfl ?_
  refine c_X8_in (fun c8a c8b => ?_) (fun c8 => ?_)
  · exact fw_zret h rfl rfl (by first | exact Or.inl rfl | exact Or.inr rfl | assumption) ⟨_, rfl, by first | exact ht (by assumption) (by assumption) | exact hf (by assumption)⟩
  · exact fw_zret h rfl rfl (by first | exact Or.inl rfl | exact Or.inr rfl | assumption) ⟨_, rfl, by first | exact ht (by assumption) (by assumption) | exact hf (by assumption)⟩
theorem c_X8_isThing {l : Launch} {w : fb_Wd} {P : Int32 → fb_Wd → Prop} {a : Int32} {n : Nat} (hn : w.1 46 8 = nI n) (hn2 : n ≤ 20) (ht : ∀ j, j < n → a = nI j → P 1 w) (hf : ¬ (∃ j, j < n ∧ a = nI j) → P 0 w) : fb_Can l tX8_isThing [.ref 46, .int a] w (fb_kI P) := by
  refine e_X8_isThing (fun q1 q2 => ?_) (fun q => hf ?_)
  · rw [hn] at q2
    obtain ⟨j, hj, e⟩ := (fp_below (by omega)).mp ⟨q1, q2⟩
    exact ht j hj e
  · rw [hn] at q
    exact fun z => q ((fp_below (by omega)).mpr z)
theorem e_X8_isDeath {l : Launch} {w : fb_Wd} {P : Int32 → fb_Wd → Prop} {a : Int32} (ht : 0 ≤ a → a ≤ w.1 46 14 - 1 → P 1 w) (hf : ¬ (0 ≤ a ∧ a ≤ w.1 46 14 - 1) → P 0 w) : fb_Can l tX8_isDeath [.ref 46, .int a] w (fb_kI P) := by
  refine fb_intro 0 fk_t_X8_isDeath (by decide) rfl (fun X hX h => ?_)
  subst hX
  change fb_AW tX8_isDeath X 0 [some (.ref 46), some (.int a)] [] w
  refine fw_iload_n h rfl rfl ?_
  refine fw_iconst h (nI 0) rfl (by decide) ?_
  refine fw_aload_n h rfl rfl ?_
  refine fw_getI h rfl fk_g_X8_150 rfl rfl ?_
  refine fw_iconst h (nI 1) rfl (by decide) ?_
  refine fw_isub h rfl ?_
  refine fw_s3I h rfl fk_s_X8_in fk_l_X8_109 rfl rfl ?_
  refine c_X8_in (fun c8a c8b => ?_) (fun c8 => ?_)
  · exact fw_zret h rfl rfl (by first | exact Or.inl rfl | exact Or.inr rfl | assumption) ⟨_, rfl, by first | exact ht (by assumption) (by assumption) | exact hf (by assumption)⟩
  · exact fw_zret h rfl rfl (by first | exact Or.inl rfl | exact Or.inr rfl | assumption) ⟨_, rfl, by first | exact ht (by assumption) (by assumption) | exact hf (by assumption)⟩
theorem c_X8_isDeath {l : Launch} {w : fb_Wd} {P : Int32 → fb_Wd → Prop} {a : Int32} {n : Nat} (hn : w.1 46 14 = nI n) (hn2 : n ≤ 20) (ht : ∀ j, j < n → a = nI j → P 1 w) (hf : ¬ (∃ j, j < n ∧ a = nI j) → P 0 w) : fb_Can l tX8_isDeath [.ref 46, .int a] w (fb_kI P) := by
  refine e_X8_isDeath (fun q1 q2 => ?_) (fun q => hf ?_)
  · rw [hn] at q2
    obtain ⟨j, hj, e⟩ := (fp_below (by omega)).mp ⟨q1, q2⟩
    exact ht j hj e
  · rw [hn] at q
    exact fun z => q ((fp_below (by omega)).mpr z)
theorem c_X8_areYears {l : Launch} {w : fb_Wd} {P : Int32 → fb_Wd → Prop} {a b : Int32} (ht : 1000 ≤ a → a ≤ 1900 → a ≤ b → b ≤ 1900 → P 1 w) (hf : ¬ (1000 ≤ a ∧ a ≤ 1900 ∧ a ≤ b ∧ b ≤ 1900) → P 0 w) : fb_Can l tX8_areYears [.int a, .int b] w (fb_kI P) := by
  refine fb_intro 0 fk_t_X8_areYears (by decide) rfl (fun X hX h => ?_)
  subst hX
  change fb_AW tX8_areYears X 0 [some (.int a), some (.int b)] [] w
  refine fw_iload_n h rfl rfl ?_
  refine fw_s1I h rfl fk_s_X8_isYear fk_l_X8_153 rfl rfl ?_
  refine c_X8_isYear (fun c1a c1b => ?_) (fun c1 => ?_)
  · refine fw_if_eq h rfl (fun c => absurd c (by decide)) (fun _ => ?_)
    refine fw_iload_n h rfl rfl ?_
    refine fw_iload_n h rfl rfl ?_
    refine fw_sipush h (nI 1900) rfl (by decide) ?_
    refine fw_s3I h rfl fk_s_X8_in fk_l_X8_109 rfl rfl ?_
    refine c_X8_in (fun c12a c12b => ?_) (fun c12 => ?_)
    · refine fw_if_eq h rfl (fun c => absurd c (by decide)) (fun _ => ?_)
      refine fw_iconst h (nI 1) rfl (by decide) ?_
      refine fw_goto h rfl ?_
      exact fw_zret h rfl rfl (by first | exact Or.inl rfl | exact Or.inr rfl | assumption) ⟨_, rfl, ht c1a c1b c12a c12b⟩
    · refine fw_if_eq h rfl (fun _ => ?_) (fun c => absurd c (by decide))
      refine fw_iconst h (nI 0) rfl (by decide) ?_
      exact fw_zret h rfl rfl (by first | exact Or.inl rfl | exact Or.inr rfl | assumption) ⟨_, rfl, hf (fun q => by first | exact c1 ⟨q.1, q.2.1⟩ | exact c12 ⟨q.2.2.1, q.2.2.2⟩)⟩
  · refine fw_if_eq h rfl (fun _ => ?_) (fun c => absurd c (by decide))
    refine fw_iconst h (nI 0) rfl (by decide) ?_
    exact fw_zret h rfl rfl (by first | exact Or.inl rfl | exact Or.inr rfl | assumption) ⟨_, rfl, hf (fun q => by first | exact c1 ⟨q.1, q.2.1⟩ | exact c12 ⟨q.2.2.1, q.2.2.2⟩)⟩
theorem c_X8_isTold {l : Launch} {w : fb_Wd} {P : Int32 → fb_Wd → Prop} {a : Int32} (ht : (a = -9 ∨ 0 ≤ a ∧ a ≤ 100000) → P 1 w) (hf : ¬ (a = -9 ∨ 0 ≤ a ∧ a ≤ 100000) → P 0 w) : fb_Can l tX8_isTold [.int a] w (fb_kI P) := by
  refine fb_intro 0 fk_t_X8_isTold (by decide) rfl (fun X hX h => ?_)
  subst hX
  change fb_AW tX8_isTold X 0 [some (.int a)] [] w
  refine fw_iload_n h rfl rfl ?_
  refine fw_bipush h (-9) rfl (by decide) ?_
  refine fw_icmp_eq h rfl (fun c3 => ?_) (fun c3 => ?_)
  · refine fw_iconst h (nI 1) rfl (by decide) ?_
    refine fw_goto h rfl ?_
    exact fw_zret h rfl rfl (by first | exact Or.inl rfl | exact Or.inr rfl | assumption) ⟨_, rfl, by first | exact ht (Or.inl c3) | exact ht (Or.inr ⟨c10a, c10b⟩)⟩
  · refine fw_iload_n h rfl rfl ?_
    refine fw_iconst h (nI 0) rfl (by decide) ?_
    refine fw_ldc h 100000 rfl (fb_mT 1079 (by decide +kernel) (by decide +kernel)) ?_
    refine fw_s3I h rfl fk_s_X8_in fk_l_X8_109 rfl rfl ?_
    refine c_X8_in (fun c10a c10b => ?_) (fun c10 => ?_)
    · refine fw_if_eq h rfl (fun c => absurd c (by decide)) (fun _ => ?_)
      refine fw_iconst h (nI 1) rfl (by decide) ?_
      refine fw_goto h rfl ?_
      exact fw_zret h rfl rfl (by first | exact Or.inl rfl | exact Or.inr rfl | assumption) ⟨_, rfl, by first | exact ht (Or.inl c3) | exact ht (Or.inr ⟨c10a, c10b⟩)⟩
    · refine fw_if_eq h rfl (fun _ => ?_) (fun c => absurd c (by decide))
      refine fw_iconst h (nI 0) rfl (by decide) ?_
      exact fw_zret h rfl rfl (by first | exact Or.inl rfl | exact Or.inr rfl | assumption) ⟨_, rfl, hf (fun q => q.elim c3 c10)⟩
theorem c_X8_isRule {l : Launch} {w : fb_Wd} {P : Int32 → fb_Wd → Prop} {a b : Int32} (ht : 0 ≤ a → a ≤ 3 → 0 ≤ b → b ≤ 1023 → P 1 w) (hf : ¬ (0 ≤ a ∧ a ≤ 3 ∧ 0 ≤ b ∧ b ≤ 1023) → P 0 w) : fb_Can l tX8_isRule [.int a, .int b] w (fb_kI P) := by
  refine fb_intro 0 fk_t_X8_isRule (by decide) rfl (fun X hX h => ?_)
  subst hX
  change fb_AW tX8_isRule X 0 [some (.int a), some (.int b)] [] w
  refine fw_iload_n h rfl rfl ?_
  refine fw_iconst h (nI 0) rfl (by decide) ?_
  refine fw_iconst h (nI 3) rfl (by decide) ?_
  refine fw_s3I h rfl fk_s_X8_in fk_l_X8_109 rfl rfl ?_
  refine c_X8_in (fun c3a c3b => ?_) (fun c3 => ?_)
  · refine fw_if_eq h rfl (fun c => absurd c (by decide)) (fun _ => ?_)
    refine fw_iload_n h rfl rfl ?_
    refine fw_iconst h (nI 0) rfl (by decide) ?_
    refine fw_sipush h (nI 1023) rfl (by decide) ?_
    refine fw_s3I h rfl fk_s_X8_in fk_l_X8_109 rfl rfl ?_
    refine c_X8_in (fun c14a c14b => ?_) (fun c14 => ?_)
    · refine fw_if_eq h rfl (fun c => absurd c (by decide)) (fun _ => ?_)
      refine fw_iconst h (nI 1) rfl (by decide) ?_
      refine fw_goto h rfl ?_
      exact fw_zret h rfl rfl (by first | exact Or.inl rfl | exact Or.inr rfl | assumption) ⟨_, rfl, ht c3a c3b c14a c14b⟩
    · refine fw_if_eq h rfl (fun _ => ?_) (fun c => absurd c (by decide))
      refine fw_iconst h (nI 0) rfl (by decide) ?_
      exact fw_zret h rfl rfl (by first | exact Or.inl rfl | exact Or.inr rfl | assumption) ⟨_, rfl, hf (fun q => by first | exact c3 ⟨q.1, q.2.1⟩ | exact c14 ⟨q.2.2.1, q.2.2.2⟩)⟩
  · refine fw_if_eq h rfl (fun _ => ?_) (fun c => absurd c (by decide))
    refine fw_iconst h (nI 0) rfl (by decide) ?_
    exact fw_zret h rfl rfl (by first | exact Or.inl rfl | exact Or.inr rfl | assumption) ⟨_, rfl, hf (fun q => by first | exact c3 ⟨q.1, q.2.1⟩ | exact c14 ⟨q.2.2.1, q.2.2.2⟩)⟩
def fp_act (n : Nat) (s a b : Int32) : Prop := (0 ≤ s ∧ s ≤ 3) ∧ (∃ j, j < n ∧ a = nI j) ∧ (s = 1 → (∃ j, j < n ∧ b = nI j) ∧ a ≠ b)
theorem c_X8_mayBe {l : Launch} {w : fb_Wd} {P : Int32 → fb_Wd → Prop} {s a b : Int32} {nt : Nat} (hnt : w.1 46 8 = nI nt) (hn2 : nt ≤ 20) (ht : fp_act nt s a b → P 1 w) (hf : ¬ fp_act nt s a b → P 0 w) : fb_Can l tX8_mayBe [.ref 46, .int s, .int a, .int b] w (fb_kI P) := by
  refine fb_intro 0 fk_t_X8_mayBe (by decide) rfl (fun X hX h => ?_)
  subst hX
  change fb_AW tX8_mayBe X 0 [some (.ref 46), some (.int s), some (.int a), some (.int b)] [] w
  refine fw_iload_n h rfl rfl ?_
  refine fw_iconst h (nI 0) rfl (by decide) ?_
  refine fw_iconst h (nI 3) rfl (by decide) ?_
  refine fw_s3I h rfl fk_s_X8_in fk_l_X8_109 rfl rfl ?_
  refine c_X8_in (fun c3a c3b => ?_) (fun c3 => ?_)
  · refine fw_if_eq h rfl (fun c => absurd c (by decide)) (fun _ => ?_)
    refine fw_aload_n h rfl rfl ?_
    refine fw_iload_n h rfl rfl ?_
    refine fw_v1I h rfl fk_v_X8_isThing fk_l_X8_130 rfl rfl rfl rfl ?_
    refine c_X8_isThing hnt (by omega) (fun j11 hj11 e11 => ?_) (fun c11 => ?_)
    · refine fw_if_eq h rfl (fun c => absurd c (by decide)) (fun _ => ?_)
      refine fw_iload_n h rfl rfl ?_
      refine fw_iconst h (nI 1) rfl (by decide) ?_
      refine fw_icmp_ne h rfl (fun c19 => ?_) (fun c19 => ?_)
      · refine fw_iconst h (nI 1) rfl (by decide) ?_
        refine fw_goto h rfl ?_
        exact fw_zret h rfl rfl (by first | exact Or.inl rfl | exact Or.inr rfl | assumption) ⟨_, rfl, ht ⟨⟨c3a, c3b⟩, ⟨_, hj11, e11⟩, fun z => by first | exact absurd z c19 | exact ⟨⟨_, hj24, e24⟩, c32⟩⟩⟩
      · refine fw_aload_n h rfl rfl ?_
        refine fw_iload_n h rfl rfl ?_
        refine fw_v1I h rfl fk_v_X8_isThing fk_l_X8_130 rfl rfl rfl rfl ?_
        refine c_X8_isThing hnt (by omega) (fun j24 hj24 e24 => ?_) (fun c24 => ?_)
        · refine fw_if_eq h rfl (fun c => absurd c (by decide)) (fun _ => ?_)
          refine fw_iload_n h rfl rfl ?_
          refine fw_iload_n h rfl rfl ?_
          refine fw_icmp_eq h rfl (fun c32 => ?_) (fun c32 => ?_)
          · refine fw_iconst h (nI 0) rfl (by decide) ?_
            exact fw_zret h rfl rfl (by first | exact Or.inl rfl | exact Or.inr rfl | assumption) ⟨_, rfl, hf (fun q => by first | exact c3 q.1 | exact c11 q.2.1 | exact c24 (q.2.2 c19).1 | exact (q.2.2 c19).2 c32)⟩
          · refine fw_iconst h (nI 1) rfl (by decide) ?_
            refine fw_goto h rfl ?_
            exact fw_zret h rfl rfl (by first | exact Or.inl rfl | exact Or.inr rfl | assumption) ⟨_, rfl, ht ⟨⟨c3a, c3b⟩, ⟨_, hj11, e11⟩, fun z => by first | exact absurd z c19 | exact ⟨⟨_, hj24, e24⟩, c32⟩⟩⟩
        · refine fw_if_eq h rfl (fun _ => ?_) (fun c => absurd c (by decide))
          refine fw_iconst h (nI 0) rfl (by decide) ?_
          exact fw_zret h rfl rfl (by first | exact Or.inl rfl | exact Or.inr rfl | assumption) ⟨_, rfl, hf (fun q => by first | exact c3 q.1 | exact c11 q.2.1 | exact c24 (q.2.2 c19).1 | exact (q.2.2 c19).2 c32)⟩
    · refine fw_if_eq h rfl (fun _ => ?_) (fun c => absurd c (by decide))
      refine fw_iconst h (nI 0) rfl (by decide) ?_
      exact fw_zret h rfl rfl (by first | exact Or.inl rfl | exact Or.inr rfl | assumption) ⟨_, rfl, hf (fun q => by first | exact c3 q.1 | exact c11 q.2.1 | exact c24 (q.2.2 c19).1 | exact (q.2.2 c19).2 c32)⟩
  · refine fw_if_eq h rfl (fun _ => ?_) (fun c => absurd c (by decide))
    refine fw_iconst h (nI 0) rfl (by decide) ?_
    exact fw_zret h rfl rfl (by first | exact Or.inl rfl | exact Or.inr rfl | assumption) ⟨_, rfl, hf (fun q => by first | exact c3 q.1 | exact c11 q.2.1 | exact c24 (q.2.2 c19).1 | exact (q.2.2 c19).2 c32)⟩
theorem c_X8_isBeast {l : Launch} {w : fb_Wd} {P : Int32 → fb_Wd → Prop} {t : Nat} (h20 : t < 20) (ht : (w.1 51 t = 1 ∨ w.1 51 t = 2) → P 1 w) (hf : ¬ (w.1 51 t = 1 ∨ w.1 51 t = 2) → P 0 w) : fb_Can l tX8_isBeast [.ref 46, .int (nI t)] w (fb_kI P) := by
  refine fb_intro 0 fk_t_X8_isBeast (by decide) rfl (fun X hX h => ?_)
  subst hX
  change fb_AW tX8_isBeast X 0 [some (.ref 46), some (.int (nI t))] [] w
  refine fw_aload_n h rfl rfl ?_
  refine fw_getR _ h rfl fk_g_X8_26 rfl rfl ?_
  refine fw_iload_n h rfl rfl ?_
  refine fn_iald h rfl rfl (by omega) rfl ?_
  refine fw_iconst h (nI 1) rfl (by decide) ?_
  refine fw_icmp_eq h rfl (fun c7 => ?_) (fun c7 => ?_)
  · refine fw_iconst h (nI 1) rfl (by decide) ?_
    refine fw_goto h rfl ?_
    exact fw_zret h rfl rfl (by first | exact Or.inl rfl | exact Or.inr rfl | assumption) ⟨_, rfl, by first | exact ht (Or.inl c7) | exact ht (Or.inr c17)⟩
  · refine fw_aload_n h rfl rfl ?_
    refine fw_getR _ h rfl fk_g_X8_26 rfl rfl ?_
    refine fw_iload_n h rfl rfl ?_
    refine fn_iald h rfl rfl (by omega) rfl ?_
    refine fw_iconst h (nI 2) rfl (by decide) ?_
    refine fw_icmp_ne h rfl (fun c17 => ?_) (fun c17 => ?_)
    · refine fw_iconst h (nI 0) rfl (by decide) ?_
      exact fw_zret h rfl rfl (by first | exact Or.inl rfl | exact Or.inr rfl | assumption) ⟨_, rfl, hf (fun q => q.elim c7 c17)⟩
    · refine fw_iconst h (nI 1) rfl (by decide) ?_
      refine fw_goto h rfl ?_
      exact fw_zret h rfl rfl (by first | exact Or.inl rfl | exact Or.inr rfl | assumption) ⟨_, rfl, by first | exact ht (Or.inl c7) | exact ht (Or.inr c17)⟩
theorem c_X8_mayMove {l : Launch} {w : fb_Wd} {P : Int32 → fb_Wd → Prop} {t : Nat} (h20 : t < 20) (ht : ¬ w.1 51 t = 3 → P 1 w) (hf : w.1 51 t = 3 → P 0 w) : fb_Can l tX8_mayMove [.ref 46, .int (nI t)] w (fb_kI P) := by
  refine fb_intro 0 fk_t_X8_mayMove (by decide) rfl (fun X hX h => ?_)
  subst hX
  change fb_AW tX8_mayMove X 0 [some (.ref 46), some (.int (nI t))] [] w
  refine fw_aload_n h rfl rfl ?_
  refine fw_getR _ h rfl fk_g_X8_26 rfl rfl ?_
  refine fw_iload_n h rfl rfl ?_
  refine fn_iald h rfl rfl (by omega) rfl ?_
  refine fw_iconst h (nI 3) rfl (by decide) ?_
  refine fw_icmp_eq h rfl (fun c7 => ?_) (fun c7 => ?_)
  · refine fw_iconst h (nI 0) rfl (by decide) ?_
    exact fw_zret h rfl rfl (by first | exact Or.inl rfl | exact Or.inr rfl | assumption) ⟨_, rfl, hf c7⟩
  · refine fw_iconst h (nI 1) rfl (by decide) ?_
    refine fw_goto h rfl ?_
    exact fw_zret h rfl rfl (by first | exact Or.inl rfl | exact Or.inr rfl | assumption) ⟨_, rfl, ht c7⟩
theorem c_X8_so {l : Launch} {w : fb_Wd} {P : Int32 → fb_Wd → Prop} {k : Int32} (ht : (w.1 46 23 >>> (k &&& 31)) &&& 1 = 1 → P 1 w) (hf : ¬ (w.1 46 23 >>> (k &&& 31)) &&& 1 = 1 → P 0 w) : fb_Can l tX8_so [.ref 46, .int k] w (fb_kI P) := by
  refine fb_intro 0 fk_t_X8_so (by decide) rfl (fun X hX h => ?_)
  subst hX
  change fb_AW tX8_so X 0 [some (.ref 46), some (.int k)] [] w
  refine fw_aload_n h rfl rfl ?_
  refine fw_getI h rfl fk_g_X8_182 rfl rfl ?_
  refine fw_iload_n h rfl rfl ?_
  refine fw_s2I h rfl fk_s_X8_has fk_l_X8_185 rfl rfl ?_
  refine c_X8_has (fun c5 => ?_) (fun c5 => ?_)
  · exact fw_zret h rfl rfl (by first | exact Or.inl rfl | exact Or.inr rfl | assumption) ⟨_, rfl, by first | exact ht (by assumption) | exact hf (by assumption)⟩
  · exact fw_zret h rfl rfl (by first | exact Or.inl rfl | exact Or.inr rfl | assumption) ⟨_, rfl, by first | exact ht (by assumption) | exact hf (by assumption)⟩
def fp_wh (n : Nat) (f : Nat → Int32) : Prop := ∀ t, t < n → f t = -9 ∨ ∃ u, u < t ∧ f t = nI u
def fp_top (f : Nat → Int32) (t : Nat) : Nat := if h : f t ≠ -9 ∧ (f t).toNatClampNeg < t then fp_top f (f t).toNatClampNeg else t
termination_by t
decreasing_by exact h.2
def fp_in (f : Nat → Int32) (t u : Nat) : Bool := if t = u then true else if h : f t ≠ -9 ∧ (f t).toNatClampNeg < t then fp_in f (f t).toNatClampNeg u else false
termination_by t
decreasing_by exact h.2
theorem fp_top_0 {f : Nat → Int32} {t : Nat} (h : f t = -9) : fp_top f t = t := by rw [fp_top, dif_neg (fun q => q.1 h)]
theorem nI_ne9 {n : Nat} (h : n < 2 ^ 31) : ¬ nI n = -9 := fun q => nI_pos h (by rw [q]; decide)
theorem fp_top_s {f : Nat → Int32} {t u : Nat} (h : f t = nI u) (hu : u < t) (ht : t < 2 ^ 31) : fp_top f t = fp_top f u := by
  rw [fp_top, dif_pos ⟨by rw [h]; exact nI_ne9 (by omega), by rw [h, nI_clamp (by omega)]; exact hu⟩, h, nI_clamp (by omega)]
theorem fp_in_t (f : Nat → Int32) (t : Nat) : fp_in f t t = true := by rw [fp_in, if_pos rfl]
theorem fp_in_0 {f : Nat → Int32} {t u : Nat} (h : f t = -9) (e : t ≠ u) : fp_in f t u = false := by rw [fp_in, if_neg e, dif_neg (fun q => q.1 h)]
theorem fp_in_s {f : Nat → Int32} {t u v : Nat} (h : f t = nI u) (hu : u < t) (ht : t < 2 ^ 31) (e : t ≠ v) : fp_in f t v = fp_in f u v := by
  rw [fp_in, if_neg e, dif_pos ⟨by rw [h]; exact nI_ne9 (by omega), by rw [h, nI_clamp (by omega)]; exact hu⟩, h, nI_clamp (by omega)]
theorem lp_X8_topOf {X : fb_Cx} {w : fb_Wd} {P : Int32 → fb_Wd → Prop} {x : Int32} {n : Nat} (h : fb_Ok tX8_topOf X (fb_kI P)) (hn : n ≤ 20) (hwh : fp_wh n (w.1 54)) : ∀ v, v < n → P (nI (fp_top (w.1 54) v)) w → fb_AW tX8_topOf X 2 [some (.ref 46), some (.int x), some (.int (nI v))] [] w := by
  intro v
  induction v using Nat.strongRecOn with
  | ind v IH =>
    intro hv hp
    refine fw_aload_n h rfl rfl ?_
    refine fw_getR _ h rfl fk_g_X8_35 rfl rfl ?_
    refine fw_iload_n h rfl rfl ?_
    refine fn_iald h rfl rfl (by omega) rfl ?_
    refine fw_bipush h (-9) rfl (by decide) ?_
    refine fw_icmp_eq h rfl (fun c10 => ?_) (fun c10 => ?_)
    · refine fw_iload_n h rfl rfl ?_
      exact fw_iret h rfl rfl ⟨_, rfl, by rw [fp_top_0 c10] at hp; exact hp⟩
    · obtain e | ⟨u, hu, e⟩ := hwh v (by omega)
      · exact absurd e c10
      refine fw_aload_n h rfl rfl ?_
      refine fw_getR _ h rfl fk_g_X8_35 rfl rfl ?_
      refine fw_iload_n h rfl rfl ?_
      refine fn_iald h rfl rfl (by omega) rfl ?_
      rw [e]
      refine fw_istore_n h [_, _, _] rfl rfl rfl rfl ?_
      refine fw_goto h rfl ?_
      exact IH u (by omega) (by omega) (by rw [← fp_top_s e hu (by omega)]; exact hp)
theorem c_X8_topOf {l : Launch} {w : fb_Wd} {P : Int32 → fb_Wd → Prop} {t n : Nat} (hn : n ≤ 20) (hwh : fp_wh n (w.1 54)) (ht : t < n) (hp : P (nI (fp_top (w.1 54) t)) w) : fb_Can l tX8_topOf [.ref 46, .int (nI t)] w (fb_kI P) := by
  refine fb_intro 1 fk_t_X8_topOf (by decide) rfl (fun X hX h => ?_)
  subst hX
  change fb_AW tX8_topOf X 0 [some (.ref 46), some (.int (nI t)), none] [] w
  refine fw_iload_n h rfl rfl ?_
  refine fw_istore_n h [_, _, _] rfl rfl rfl rfl ?_
  exact lp_X8_topOf h hn hwh t ht hp
