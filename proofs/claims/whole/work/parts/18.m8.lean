def sM (p : List Nat) (w w' : fb_Wd) : Prop := (∀ c, c ≠ 46 → w'.1 c = w.1 c) ∧ (∀ k, k ∉ p → w'.1 46 k = w.1 46 k) ∧ w'.2 = w.2
theorem sM.rf (p : List Nat) (w : fb_Wd) : sM p w w := ⟨fun _ _ => rfl, fun _ _ => rfl, rfl⟩
theorem sM.tr {p : List Nat} {a b c : fb_Wd} (h1 : sM p a b) (h2 : sM p b c) : sM p a c := ⟨fun q hq => (h2.1 q hq).trans (h1.1 q hq), fun k hk => (h2.2.1 k hk).trans (h1.2.1 k hk), h2.2.2.trans h1.2.2⟩
theorem sM.mono {p q : List Nat} {a b : fb_Wd} (h : sM p a b) (hs : ∀ k, k ∈ p → k ∈ q) : sM q a b := ⟨h.1, fun k hk => h.2.1 k (fun z => hk (hs k z)), h.2.2⟩
theorem sM.up {p : List Nat} {a b : fb_Wd} (h : sM p a b) (k : Nat) (x : Int32) (hk : k ∈ p) : sM p a (fb_up b 46 k x) := by
  refine ⟨fun c hc => ?_, fun j hj => ?_, h.2.2⟩
  · rw [← h.1 c hc]
    funext b2
    simp [fb_up, hc]
  · rw [← h.2.1 j hj]
    have : ¬ j = k := fun z => hj (z ▸ hk)
    simp [fb_up, this]
theorem sM.mD {p : List Nat} {a b : fb_Wd} (h : sM p a b) (h8 : 8 ∉ p ∧ 14 ∉ p ∧ 27 ∉ p ∧ 38 ∉ p) : mD b = mD a := by
  have hc := h.1
  have hk := h.2.1
  funext i
  match i with
  | 0 | 1 | 2 | 3 | 4 | 5 | 6 | 7 | 8 | 9 | 10 | 11 | 12 | 17 | 18 | 19 | 20 | 21 | 22 => exact hc _ (by decide)
  | 13 | 14 | 15 | 16 => exact congrArg fd_c8 (hc _ (by decide))
  | 23 =>
    show fd_s4 _ _ _ _ = fd_s4 _ _ _ _
    rw [hk 8 h8.1, hk 14 h8.2.1, hk 27 h8.2.2.1, hk 38 h8.2.2.2]
  | i + 24 => rfl
theorem sM_m4 (w : fb_Wd) (a b c e : Int32) : sM [23, 24, 25, 26] w (fb_m4 w a b c e) := ((((sM.rf _ w).up 23 a (by decide)).up 24 b (by decide)).up 25 c (by decide)).up 26 e (by decide)
theorem c_X8_forfeitR {l : Launch} {w : fb_Wd} {P : Int32 → fb_Wd → Prop} {rd tx : Int32} {d nt nd nx ng m : Nat} (hN : fd_N (mD w) nt nd nx ng) (hT : fd_T (mD w) nt) (hA : fd_A (mD w) nt d m) (hd : d < 12) (htx : tx = -9 ∨ ∃ x, x < 9 ∧ tx = nI x) (hp : ∀ w', sM [23, 24, 25, 26] w w' → P (fs_fx (mD w) (w.1 65) (w.1 66) (w.1 67) nt d m rd tx) w') : fb_Can l tX8_forfeitOf [.ref 46, .int (nI d), .int rd, .int tx] w (fb_kI P) := c_X8_forfeitOf hN hT hA hd htx (fun a b c e => hp _ (sM_m4 w a b c e))
def fs_val (D : Nat → Nat → Int32) (nt : Nat) (s : Int32) : Int32 := fp_sum (fun t => if bt s t = true then fp_price (D 3) (D 2) nt t else 0) nt
theorem c_X8_valueOf {l : Launch} {w : fb_Wd} {P : Int32 → fb_Wd → Prop} {s : Int32} {n : Nat} (hn : n ≤ 20) (hnt : w.1 46 8 = nI n) (hwh : fp_wh n (w.1 54)) (hp : P (fs_val (mD w) n s) w) : fb_Can l tX8_valueOf [.ref 46, .int s] w (fb_kI P) := by
  refine fb_intro 2 fk_t_X8_valueOf (by decide) rfl (fun X hX h => ?_)
  subst hX
  change fb_AW tX8_valueOf X 0 [some (.ref 46), some (.int s), none, none] [] w
  refine fw_iconst h (nI 0) rfl (by decide) ?_
  refine fw_istore_n h [_, _, _, _] rfl rfl rfl rfl ?_
  refine fw_iconst h (nI 0) rfl (by decide) ?_
  refine fw_istore_n h [_, _, _, _] rfl rfl rfl rfl ?_
  refine fb_loop (fun i => fb_AW tX8_valueOf X 4 [some (.ref 46), some (.int s), some (.int (fp_sum (fun t => if bt s t = true then fp_price (w.1 54) (w.1 53) n t else 0) i)), some (.int (nI i))] [] w) (n) ?_ (fun i hi ih => ?_) 0 (Nat.zero_le _)
  · refine fw_iload_n h rfl rfl ?_
    refine fw_aload_n h rfl rfl ?_
    refine fw_getI h rfl fk_g_X8_124 rfl rfl ?_
    refine fw_icmp_ge h rfl (fun c9 => ?_) (fun c9 => False.elim (c9 (by rw [hnt]; exact Int32.le_refl _)))
    refine fw_iload_n h rfl rfl ?_
    exact fw_iret h rfl rfl ⟨_, rfl, hp⟩
  · refine fw_iload_n h rfl rfl ?_
    refine fw_aload_n h rfl rfl ?_
    refine fw_getI h rfl fk_g_X8_124 rfl rfl ?_
    refine fw_icmp_ge h rfl (fun c9 => False.elim (by rw [hnt] at c9; exact nI_ge hi (by omega) c9)) (fun c9 => ?_)
    refine fw_iload_n h rfl rfl ?_
    refine fw_iload_n h rfl rfl ?_
    refine fw_iload_n h rfl rfl ?_
    refine fw_s2I h rfl fk_s_X8_has fk_l_X8_185 rfl rfl ?_
    refine c_X8_hasN rfl (by omega) (fun c15 => ?_) (fun c15 => ?_)
    · refine fw_if_eq h rfl (fun c => absurd c (by decide)) (fun _ => ?_)
      refine fw_aload_n h rfl rfl ?_
      refine fw_iload_n h rfl rfl ?_
      refine fw_v1I h rfl fk_v_X8_priceOf fk_l_X8_140 rfl rfl rfl rfl ?_
      refine c_X8_priceOf hn hnt hwh (by omega) ?_
      refine fw_goto h rfl ?_
      first | refine fn_iadd h rfl ?_ | refine fw_iadd h rfl ?_
      refine fw_istore_n h [_, _, _, _] rfl rfl rfl rfl ?_
      first | refine fn_iinc h [_, _, _, _] rfl rfl rfl rfl rfl ?_ | refine fw_iinc h 1 [_, _, _, _] rfl (by decide) rfl rfl rfl rfl ?_
      refine fw_goto h rfl ?_
      exact fw_cg (by simp only [fp_sum, c15]; first | rfl | simp only [if_true, if_false, if_pos, reduceIte, Bool.false_eq_true]; first | done | rfl) ih
    · refine fw_if_eq h rfl (fun _ => ?_) (fun c => absurd c (by decide))
      refine fw_iconst h (nI 0) rfl (by decide) ?_
      first | refine fn_iadd h rfl ?_ | refine fw_iadd h rfl ?_
      refine fw_istore_n h [_, _, _, _] rfl rfl rfl rfl ?_
      first | refine fn_iinc h [_, _, _, _] rfl rfl rfl rfl rfl ?_ | refine fw_iinc h 1 [_, _, _, _] rfl (by decide) rfl rfl rfl rfl ?_
      refine fw_goto h rfl ?_
      exact fw_cg (by simp only [fp_sum, c15]; first | rfl | simp only [if_true, if_false, if_pos, reduceIte, Bool.false_eq_true]; first | done | rfl) ih
def fp_mn (v : Nat → Int32) : Nat → Nat
  | 0 => 0
  | n + 1 => if v n < v (fp_mn v n) then n else fp_mn v n
theorem fp_mn_1 {v : Nat → Int32} {n : Nat} (h : v n < v (fp_mn v n)) : fp_mn v (n + 1) = n := if_pos h
theorem fp_mn_0 {v : Nat → Int32} {n : Nat} (h : v (fp_mn v n) ≤ v n) : fp_mn v (n + 1) = fp_mn v n := if_neg (Int32.not_lt.mpr h)
theorem fp_mn_b {v : Nat → Int32} : fp_mn v (0 + 1) = 0 := by rw [fp_mn, fp_mn, ite_self]
theorem fp_mn_lt {v : Nat → Int32} : ∀ {n : Nat}, 0 < n → fp_mn v n < n
  | 1, _ => by rw [fp_mn_b]; omega
  | n + 2, _ => by
    have := fp_mn_lt (v := v) (n := n + 1) (by omega)
    rw [fp_mn]
    split <;> omega
noncomputable def fs_sx (D : Nat → Nat → Int32) (tr ts tf : Nat → Int32) (nt d m : Nat) (tx : Int32) (r : Nat) : Int32 := fs_fx D tr ts tf nt d m (nI r) tx
noncomputable def fs_vx (D : Nat → Nat → Int32) (tr ts tf : Nat → Int32) (nt d m : Nat) (tx : Int32) (r : Nat) : Int32 := fs_val D nt (fs_sx D tr ts tf nt d m tx r)
def sD (w w' : fb_Wd) : Prop := sM [23, 24, 25, 26, 32, 33, 34] w w'
def sD_I (s v : Nat → Int32) (i : Nat) (w' : fb_Wd) : Prop := (i = 0 ∧ w'.1 46 32 = -9) ∨ (0 < i ∧ w'.1 46 32 = nI (fp_mn v i) ∧ w'.1 46 33 = s (fp_mn v i) ∧ w'.1 46 34 = v (fp_mn v i))
theorem c_X8_layDue {l : Launch} {w : fb_Wd} {P : fb_Wd → Prop} {tx : Int32} {d nt nd nx ng m : Nat} (hN : fd_N (mD w) nt nd nx ng) (hT : fd_T (mD w) nt) (hA : fd_A (mD w) nt d m) (hd : d < 12) (htx : tx = -9 ∨ ∃ x, x < 9 ∧ tx = nI x) (hp : ∀ w', sD w w' → w'.1 46 32 = nI (fp_mn (fs_vx (mD w) (w.1 65) (w.1 66) (w.1 67) nt d m tx) (2 ^ fp_dbt (w.1 63) d m)) → w'.1 46 33 = fs_sx (mD w) (w.1 65) (w.1 66) (w.1 67) nt d m tx (fp_mn (fs_vx (mD w) (w.1 65) (w.1 66) (w.1 67) nt d m tx) (2 ^ fp_dbt (w.1 63) d m)) → w'.1 46 34 = fs_vx (mD w) (w.1 65) (w.1 66) (w.1 67) nt d m tx (fp_mn (fs_vx (mD w) (w.1 65) (w.1 66) (w.1 67) nt d m tx) (2 ^ fp_dbt (w.1 63) d m)) → P w') : fb_Can l tX8_layDue [.ref 46, .int (nI d), .int tx] w (fb_kV P) := by
  refine fb_intro 3 fk_t_X8_layDue (by decide) rfl (fun X hX h => ?_)
  subst hX
  change fb_AW tX8_layDue X 0 [some (.ref 46), some (.int (nI d)), some (.int tx), none, none, none] [] w
  have h5 : fp_dbt (w.1 63) d m ≤ 5 := hA.2.2.2
  have h32 : 2 ^ fp_dbt (w.1 63) d m ≤ 2 ^ 5 := Nat.pow_le_pow_right (by decide) h5
  refine fw_aload_n h rfl rfl ?_
  refine fw_bipush h (-9) rfl (by decide) ?_
  refine fw_putI h rfl fk_p_X8_243 rfl rfl ?_
  refine fw_iconst h (nI 0) rfl (by decide) ?_
  refine fw_istore_n h [_, _, _, _, _, _] rfl rfl rfl rfl ?_
  refine (?_ : ∀ w1, sD w w1 → sD_I (fs_sx (mD w) (w.1 65) (w.1 66) (w.1 67) nt d m tx) (fs_vx (mD w) (w.1 65) (w.1 66) (w.1 67) nt d m tx) 0 w1 → fb_AW tX8_layDue X 8 [some (.ref 46), some (.int (nI d)), some (.int tx), some (.int (nI 0)), none, none] [] w1) _ ((sM.rf _ w).up 32 _ (by decide)) (Or.inl ⟨rfl, rfl⟩)
  refine fb_loop (fun i => ∀ w1, sD w w1 → sD_I (fs_sx (mD w) (w.1 65) (w.1 66) (w.1 67) nt d m tx) (fs_vx (mD w) (w.1 65) (w.1 66) (w.1 67) nt d m tx) i w1 → fb_AW tX8_layDue X 8 [some (.ref 46), some (.int (nI d)), some (.int tx), some (.int (nI i)), none, none] [] w1) (2 ^ fp_dbt (w.1 63) d m) ?_ (fun i hi ih => ?_) 0 (Nat.zero_le _)
  · intro w1 hs hI
    have eD : mD w1 = mD w := sM.mD hs (by decide)
    have hN1 : fd_N (mD w1) nt nd nx ng := by rw [eD]; exact hN
    have hT1 : fd_T (mD w1) nt := by rw [eD]; exact hT
    have hA1 : fd_A (mD w1) nt d m := by rw [eD]; exact hA
    have hk : fp_dbt (w1.1 63) d m = fp_dbt (w.1 63) d m := by rw [hs.1 63 (by decide)]
    refine fw_iload_n h rfl rfl ?_
    refine fw_aload_n h rfl rfl ?_
    refine fw_iload_n h rfl rfl ?_
    refine fw_v1I h rfl fk_v_X8_readings fk_l_X8_176 rfl rfl rfl rfl ?_
    refine c_X8_readings hd hA1.1 hA1.2.1 ?_
    refine fw_icmp_ge h rfl (fun c14 => ?_) (fun c14 => False.elim (c14 (by rw [hk]; exact Int32.le_refl _)))
    exact fw_vret h rfl rfl ⟨rfl, by
    rcases hI with ⟨z, -⟩ | ⟨-, h32, h33, h34⟩
    · have := Nat.two_pow_pos (fp_dbt (w.1 63) d m); omega
    · exact hp w1 hs h32 h33 h34⟩
  · intro w1 hs hI
    have eD : mD w1 = mD w := sM.mD hs (by decide)
    have hN1 : fd_N (mD w1) nt nd nx ng := by rw [eD]; exact hN
    have hT1 : fd_T (mD w1) nt := by rw [eD]; exact hT
    have hA1 : fd_A (mD w1) nt d m := by rw [eD]; exact hA
    have hk : fp_dbt (w1.1 63) d m = fp_dbt (w.1 63) d m := by rw [hs.1 63 (by decide)]
    refine fw_iload_n h rfl rfl ?_
    refine fw_aload_n h rfl rfl ?_
    refine fw_iload_n h rfl rfl ?_
    refine fw_v1I h rfl fk_v_X8_readings fk_l_X8_176 rfl rfl rfl rfl ?_
    refine c_X8_readings hd hA1.1 hA1.2.1 ?_
    refine fw_icmp_ge h rfl (fun c14 => False.elim (by rw [hk] at c14; exact nI_ge hi (by omega) c14)) (fun c14 => ?_)
    have hml := fp_mn_lt (v := fs_vx (mD w) (w.1 65) (w.1 66) (w.1 67) nt d m tx) (n := i)
    refine fw_aload_n h rfl rfl ?_
    refine fw_iload_n h rfl rfl ?_
    refine fw_iload_n h rfl rfl ?_
    refine fw_iload_n h rfl rfl ?_
    refine fw_v3I h rfl fk_v_X8_forfeitOf fk_l_X8_236 rfl rfl rfl rfl ?_
    refine c_X8_forfeitR hN1 hT1 hA1 hd htx (fun w2 hs2 => ?_)
    have hs20 := hs2
    have hs2 := hs.tr (hs2.mono (by decide))
    have eD2 : mD w2 = mD w := sM.mD hs2 (by decide)
    have hN2 : fd_N (mD w2) nt nd nx ng := by rw [eD2]; exact hN
    have hT2 : fd_T (mD w2) nt := by rw [eD2]; exact hT
    rw [eD, hs.1 65 (by decide), hs.1 66 (by decide), hs.1 67 (by decide)]
    change fb_AW _ _ _ _ (.int (fs_sx (mD w) (w.1 65) (w.1 66) (w.1 67) nt d m tx i) :: _) _
    refine fw_istore h [_, _, _, _, _, _] rfl rfl rfl rfl ?_
    refine fw_aload_n h rfl rfl ?_
    refine fw_iload h rfl rfl ?_
    refine fw_v1I h rfl fk_v_X8_valueOf fk_l_X8_240 rfl rfl rfl rfl ?_
    refine c_X8_valueOf hN2.1.2 hN2.1.1 (fd_wh hT2) ?_
    rw [eD2]
    change fb_AW _ _ _ _ (.int (fs_vx (mD w) (w.1 65) (w.1 66) (w.1 67) nt d m tx i) :: _) _
    refine fw_istore h [_, _, _, _, _, _] rfl rfl rfl rfl ?_
    have hk32 : w2.1 46 32 = w1.1 46 32 := hs20.2.1 32 (by decide)
    have hk33 : w2.1 46 33 = w1.1 46 33 := hs20.2.1 33 (by decide)
    have hk34 : w2.1 46 34 = w1.1 46 34 := hs20.2.1 34 (by decide)
    refine fw_aload_n h rfl rfl ?_
    refine fw_getI h rfl fk_g_X8_243 rfl rfl ?_
    refine fw_if_lt h rfl (fun c38 => ?_) (fun c38 => ?_)
    · skip
      · refine fw_aload_n h rfl rfl ?_
        refine fw_iload_n h rfl rfl ?_
        refine fw_putI h rfl fk_p_X8_243 rfl rfl ?_
        refine fw_aload_n h rfl rfl ?_
        refine fw_iload h rfl rfl ?_
        refine fw_putI h rfl fk_p_X8_249 rfl rfl ?_
        refine fw_aload_n h rfl rfl ?_
        refine fw_iload h rfl rfl ?_
        refine fw_putI h rfl fk_p_X8_246 rfl rfl ?_
        first | refine fn_iinc h [_, _, _, _, _, _] rfl rfl rfl rfl rfl ?_ | refine fw_iinc h 1 [_, _, _, _, _, _] rfl (by decide) rfl rfl rfl rfl ?_
        refine fw_goto h rfl ?_
        refine fw_sub (fb_pad_c (Or.inr rfl) (fb_pad_c (Or.inr rfl) (fb_pad_c (Or.inr rfl) (fb_pad_c (Or.inr rfl) (fb_pad_c (Or.inl rfl) (fb_pad_c (Or.inl rfl) (fb_pad_n))))))) (ih _ (((hs2.up 32 _ (by decide)).up 33 _ (by decide)).up 34 _ (by decide)) (Or.inr ⟨Nat.succ_pos i, ?_⟩))
        have em : fp_mn (fs_vx (mD w) (w.1 65) (w.1 66) (w.1 67) nt d m tx) (i + 1) = i := by
          rcases hI with ⟨rfl, -⟩ | ⟨hi0, h32, -, h34⟩
          · exact fp_mn_b
          · first
              | exact fp_mn_1 (by rw [← h34, ← hk34]; exact Int32.not_le.mp c47)
              | exact absurd (show nI (fp_mn (fs_vx (mD w) (w.1 65) (w.1 66) (w.1 67) nt d m tx) i) < 0 by rw [← h32, ← hk32]; exact c38) (nI_pos (by have := hml hi0; omega))
        rw [em]
        exact ⟨rfl, rfl, rfl⟩
    · refine fw_iload h rfl rfl ?_
      refine fw_aload_n h rfl rfl ?_
      refine fw_getI h rfl fk_g_X8_246 rfl rfl ?_
      refine fw_icmp_ge h rfl (fun c47 => ?_) (fun c47 => ?_)
      · first | refine fn_iinc h [_, _, _, _, _, _] rfl rfl rfl rfl rfl ?_ | refine fw_iinc h 1 [_, _, _, _, _, _] rfl (by decide) rfl rfl rfl rfl ?_
        refine fw_goto h rfl ?_
        rcases hI with ⟨rfl, h32⟩ | ⟨hi0, h32, h33, h34⟩
        · exact absurd (show w2.1 46 32 < 0 by rw [hk32, h32]; decide) c38
        · refine fw_sub (fb_pad_c (Or.inr rfl) (fb_pad_c (Or.inr rfl) (fb_pad_c (Or.inr rfl) (fb_pad_c (Or.inr rfl) (fb_pad_c (Or.inl rfl) (fb_pad_c (Or.inl rfl) (fb_pad_n))))))) (ih w2 hs2 (Or.inr ⟨Nat.succ_pos i, ?_⟩))
          have em : fp_mn (fs_vx (mD w) (w.1 65) (w.1 66) (w.1 67) nt d m tx) (i + 1) = fp_mn (fs_vx (mD w) (w.1 65) (w.1 66) (w.1 67) nt d m tx) i := fp_mn_0 (by rw [← h34, ← hk34]; exact c47)
          rw [em]
          exact ⟨hk32.trans h32, hk33.trans h33, hk34.trans h34⟩
      · skip
        · refine fw_aload_n h rfl rfl ?_
          refine fw_iload_n h rfl rfl ?_
          refine fw_putI h rfl fk_p_X8_243 rfl rfl ?_
          refine fw_aload_n h rfl rfl ?_
          refine fw_iload h rfl rfl ?_
          refine fw_putI h rfl fk_p_X8_249 rfl rfl ?_
          refine fw_aload_n h rfl rfl ?_
          refine fw_iload h rfl rfl ?_
          refine fw_putI h rfl fk_p_X8_246 rfl rfl ?_
          first | refine fn_iinc h [_, _, _, _, _, _] rfl rfl rfl rfl rfl ?_ | refine fw_iinc h 1 [_, _, _, _, _, _] rfl (by decide) rfl rfl rfl rfl ?_
          refine fw_goto h rfl ?_
          refine fw_sub (fb_pad_c (Or.inr rfl) (fb_pad_c (Or.inr rfl) (fb_pad_c (Or.inr rfl) (fb_pad_c (Or.inr rfl) (fb_pad_c (Or.inl rfl) (fb_pad_c (Or.inl rfl) (fb_pad_n))))))) (ih _ (((hs2.up 32 _ (by decide)).up 33 _ (by decide)).up 34 _ (by decide)) (Or.inr ⟨Nat.succ_pos i, ?_⟩))
          have em : fp_mn (fs_vx (mD w) (w.1 65) (w.1 66) (w.1 67) nt d m tx) (i + 1) = i := by
            rcases hI with ⟨rfl, -⟩ | ⟨hi0, h32, -, h34⟩
            · exact fp_mn_b
            · first
                | exact fp_mn_1 (by rw [← h34, ← hk34]; exact Int32.not_le.mp c47)
                | exact absurd (show nI (fp_mn (fs_vx (mD w) (w.1 65) (w.1 66) (w.1 67) nt d m tx) i) < 0 by rw [← h32, ← hk32]; exact c38) (nI_pos (by have := hml hi0; omega))
          rw [em]
          exact ⟨rfl, rfl, rfl⟩
