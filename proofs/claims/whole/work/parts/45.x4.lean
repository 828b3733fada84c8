theorem fw_copy {T : fb_T} {X : fb_Cx} {post : Option Value → fb_Wd → Prop} {pc nx : Nat} {tg : List Nat} {L : List (Option Value)} {S : List Value} {w : fb_Wd} (h : fb_Ok T X post) {idx c n sp dp k0 : Nat} (hd : T.2.1 pc = some (.invokestatic idx, 3, nx, tg)) (hL : Cond.methodLink T.1.cls idx arraycopyName ∈ fb_gT) (hnat : Cond.native arraycopyName ∈ fb_gT) (hstat : Cond.static arraycopyName ∈ fb_gT) (hini : Cond.initialized "java/lang/System" ∈ fb_gT) (hc : fb_S[c]? = some (.inl (false, n))) (hn : Nat.ble n 1000 = true) (h4 : sp + k0 ≤ n) (h5 : dp + k0 ≤ n) (hr : Nat.ble 1 T.2.2.2.2.2 = true) (hs : S = []) (k : fb_AW T X nx L S (fb_ua w c (va_cpy (w.1 c) (w.1 c) sp dp k0))) : fb_AW T X pc L (.int (nI k0) :: .int (nI dp) :: .ref c :: .int (nI sp) :: .ref c :: S) w := by
  intro ls H locs hl hP hS
  obtain ⟨hdg, rfl, -⟩ := h.2.2.2.2.2.2 _ _ _ _ _ hd
  have h2 := Nat.le_of_ble_eq_true hn
  have h3 := Nat.le_of_ble_eq_true hr
  have hR := h.2.2.2.1
  subst hs
  have eW : nativeFrameWords "java/lang/System" "arraycopy" 5 ≤ 20 := by decide +kernel
  have hF : 1 ≤ X.1.2.2.2.1.frames := by rw [hR]; exact h3
  have hLo : ((([] : List Value).map (fb_rv X.2.2.2.2.2.2)).map fun v => v.category).sum + (nativeFrameWords "java/lang/System" "arraycopy" 5 + 11) ≤ X.1.2.2.2.1.locals := by
    rw [hR]
    show 0 + (nativeFrameWords "java/lang/System" "arraycopy" 5 + 11) ≤ 40 * T.2.2.2.2.2
    omega
  refine va_copyi h.1.1 h.1.2.1 (h.1.2.2.1.trans hl.1.symm) h.1.2.2.2.1 (h.1.2.2.2.2 _ hL) (h.1.2.2.2.2 _ hnat) (h.1.2.2.2.2 _ hstat) (h.1.2.2.2.2 _ hini) h.2.2.2.2.1.1 hP (fb_D h.2.2.2.2.1 w) hS c c 0 0 (fb_get hc) (fb_get hc) rfl rfl rfl (nI_pos (n := sp) (by omega)) (nI_pos (n := dp) (by omega)) (nI_pos (n := k0) (by omega)) (by rw [nI_clamp (by omega), nI_clamp (by omega)]; exact h4) (by rw [nI_clamp (by omega), nI_clamp (by omega)]; exact h5) (fun _ _ => rfl) hF hLo hdg (fun H1 locs1 hP1 _ hS1 => ?_)
  rw [nI_clamp (by omega), nI_clamp (by omega), nI_clamp (by omega)] at hP1
  have e := fb_setA (E := X.2.2.2) (w := w) (va_cpy (w.1 c) (w.1 c) sp dp k0) hc
  exact k ls H1 locs1 hl (e ▸ hP1) hS1
theorem c_X3_isMissing {l : Launch} {w : fb_Wd} {P : Int32 → fb_Wd → Prop} {r : Nat} (hr : r < 6) (ht : w.1 10 r = -1 → P 1 w) (hf : ¬ w.1 10 r = -1 → P 0 w) : fb_Can l tX3_isMissing [.ref 1, .int (nI r)] w (fb_kI P) := by
  refine fb_intro 0 fk_t_X3_isMissing (by decide) rfl (fun X hX h => ?_)
  subst hX
  change fb_AW tX3_isMissing X 0 [some (.ref 1), some (.int (nI r))] [] w
  refine fw_aload_n h rfl rfl ?_
  refine fw_getR _ h rfl fk_g_X3_9 rfl rfl ?_
  refine fw_iload_n h rfl rfl ?_
  refine fn_iald h rfl rfl (by omega) rfl ?_
  refine fw_iconst h (-1) rfl (by decide) ?_
  refine fw_icmp_ne h rfl (fun c7 => ?_) (fun c7 => ?_)
  · refine fw_iconst h (nI 0) rfl (by decide) ?_
    exact fw_zret h rfl rfl (by first | exact Or.inl rfl | exact Or.inr rfl | assumption) ⟨_, rfl, hf c7⟩
  · refine fw_iconst h (nI 1) rfl (by decide) ?_
    refine fw_goto h rfl ?_
    exact fw_zret h rfl rfl (by first | exact Or.inl rfl | exact Or.inr rfl | assumption) ⟨_, rfl, ht c7⟩
theorem fx_rch {p m x : Nat} (hp : p ≤ 40) (hm : m < 2 ^ 31) (hx : x < 2 ^ 31) : nI x ≤ nI p - nI m ↔ x + m ≤ p := by
  rw [Int32.le_iff_toInt_le, Int32.toInt_sub, nI_toInt hx, nI_toInt (by omega), nI_toInt hm, Int.bmod_eq_of_le (by omega) (by omega)]
  omega
theorem c_X3_reaches {l : Launch} {w : fb_Wd} {P : Int32 → fb_Wd → Prop} {r p m : Nat} {i : Int32} (hr : r < 6) (hp : w.1 10 r = nI p) (hp2 : p ≤ 40) (hm : m < 2 ^ 31) (ht : ∀ x, i = nI x → x + m ≤ p → P 1 w) (hf : ¬ (∃ x, i = nI x ∧ x + m ≤ p) → P 0 w) : fb_Can l tX3_reaches [.ref 1, .int (nI r), .int i, .int (nI m)] w (fb_kI P) := by
  refine fb_intro 0 fk_t_X3_reaches (by decide) rfl (fun X hX h => ?_)
  subst hX
  change fb_AW tX3_reaches X 0 [some (.ref 1), some (.int (nI r)), some (.int i), some (.int (nI m))] [] w
  refine fw_iload_n h rfl rfl ?_
  refine fw_if_lt h rfl (fun c1 => ?_) (fun c1 => ?_)
  · refine fw_iconst h (nI 0) rfl (by decide) ?_
    exact fw_zret h rfl rfl (by first | exact Or.inl rfl | exact Or.inr rfl | assumption) ⟨_, rfl, hf (by first | (rintro ⟨y, ey, hy⟩; exact absurd c1 (by rw [ey]; exact nI_pos (by omega))) | (rintro ⟨y, ey, hy⟩; have e2 := (nI_eq (by omega) (by omega)).mp ey; subst e2; exact absurd c13 (Int32.not_lt.mpr ((fx_rch hp2 hm hx).mpr hy))))⟩
  · obtain ⟨x, hx, ex⟩ := nI_of c1
    subst ex
    refine fw_iload_n h rfl rfl ?_
    refine fw_aload_n h rfl rfl ?_
    refine fw_getR _ h rfl fk_g_X3_9 rfl rfl ?_
    refine fw_iload_n h rfl rfl ?_
    refine fn_iald h rfl rfl (by omega) rfl ?_
    rw [hp]
    refine fw_iload_n h rfl rfl ?_
    refine fw_isub h rfl ?_
    refine fw_icmp_gt h rfl (fun c13 => ?_) (fun c13 => ?_)
    · refine fw_iconst h (nI 0) rfl (by decide) ?_
      exact fw_zret h rfl rfl (by first | exact Or.inl rfl | exact Or.inr rfl | assumption) ⟨_, rfl, hf (by first | (rintro ⟨y, ey, hy⟩; exact absurd c1 (by rw [ey]; exact nI_pos (by omega))) | (rintro ⟨y, ey, hy⟩; have e2 := (nI_eq (by omega) (by omega)).mp ey; subst e2; exact absurd c13 (Int32.not_lt.mpr ((fx_rch hp2 hm hx).mpr hy))))⟩
    · refine fw_iconst h (nI 1) rfl (by decide) ?_
      refine fw_goto h rfl ?_
      exact fw_zret h rfl rfl (by first | exact Or.inl rfl | exact Or.inr rfl | assumption) ⟨_, rfl, ht x rfl ((fx_rch hp2 hm hx).mp (Int32.not_lt.mp c13))⟩
theorem c_X3_at {l : Launch} {w : fb_Wd} {P : Int32 → fb_Wd → Prop} {r i : Nat} (hr : r < 6) (hi : i < 40) (hp : P (w.1 11 (40 * r + i)) w) : fb_Can l tX3_at [.ref 1, .int (nI r), .int (nI i)] w (fb_kI P) := by
  refine fb_intro 0 fk_t_X3_at (by decide) rfl (fun X hX h => ?_)
  subst hX
  change fb_AW tX3_at X 0 [some (.ref 1), some (.int (nI r)), some (.int (nI i))] [] w
  refine fw_aload_n h rfl rfl ?_
  refine fw_getR _ h rfl fk_g_X3_15 rfl rfl ?_
  refine fw_iload_n h rfl rfl ?_
  refine fw_bipush h (nI 40) rfl (by decide) ?_
  refine fn_imulc h rfl ?_
  refine fw_iload_n h rfl rfl ?_
  first | refine fn_iadd h rfl ?_ | refine fw_iadd h rfl ?_
  refine fn_iald h rfl rfl (by omega) rfl ?_
  exact fw_iret h rfl rfl ⟨_, rfl, hp⟩
theorem c_X3_put {l : Launch} {w : fb_Wd} {P : fb_Wd → Prop} {r i : Nat} {v : Int32} (hr : r < 6) (hi : i < 40) (hp : P (fb_up w 11 (40 * r + i) v)) : fb_Can l tX3_put [.ref 1, .int (nI r), .int (nI i), .int v] w (fb_kV P) := by
  refine fb_intro 0 fk_t_X3_put (by decide) rfl (fun X hX h => ?_)
  subst hX
  change fb_AW tX3_put X 0 [some (.ref 1), some (.int (nI r)), some (.int (nI i)), some (.int v)] [] w
  refine fw_aload_n h rfl rfl ?_
  refine fw_getR _ h rfl fk_g_X3_15 rfl rfl ?_
  refine fw_iload_n h rfl rfl ?_
  refine fw_bipush h (nI 40) rfl (by decide) ?_
  refine fn_imulc h rfl ?_
  refine fw_iload_n h rfl rfl ?_
  first | refine fn_iadd h rfl ?_ | refine fw_iadd h rfl ?_
  refine fw_iload_n h rfl rfl ?_
  refine fn_iast h rfl rfl (by omega) rfl ?_
  exact fw_vret h rfl rfl ⟨rfl, hp⟩
theorem c_X3_make {l : Launch} {w : fb_Wd} {P : fb_Wd → Prop} {r n : Nat} (hr : r < 6) (hn : n ≤ 40) (hp : P (fp_zr (fb_up w 10 r (nI n)) 11 (40 * r) n)) : fb_Can l tX3_make [.ref 1, .int (nI r), .int (nI n)] w (fb_kV P) := by
  refine fb_intro 1 fk_t_X3_make (by decide) rfl (fun X hX h => ?_)
  subst hX
  change fb_AW tX3_make X 0 [some (.ref 1), some (.int (nI r)), some (.int (nI n)), none] [] w
  refine fw_aload_n h rfl rfl ?_
  refine fw_getR _ h rfl fk_g_X3_9 rfl rfl ?_
  refine fw_iload_n h rfl rfl ?_
  refine fw_iload_n h rfl rfl ?_
  refine fn_iast h rfl rfl (by omega) rfl ?_
  refine fw_iconst h (nI 0) rfl (by decide) ?_
  refine fw_istore_n h [_, _, _, _] rfl rfl rfl rfl ?_
  refine fb_loop (fun i => fb_AW tX3_make X 9 [some (.ref 1), some (.int (nI r)), some (.int (nI n)), some (.int (nI i))] [] (fp_zr (fb_up w 10 r (nI n)) 11 (40 * r) i)) (n) ?_ (fun i hi ih => ?_) 0 (Nat.zero_le _)
  · refine fw_iload_n h rfl rfl ?_
    refine fw_iload_n h rfl rfl ?_
    refine fw_icmp_ge h rfl (fun c11 => ?_) (fun c11 => False.elim (c11 (Int32.le_refl _)))
    exact fw_vret h rfl rfl ⟨rfl, hp⟩
  · refine fw_iload_n h rfl rfl ?_
    refine fw_iload_n h rfl rfl ?_
    refine fw_icmp_ge h rfl (fun c11 => False.elim (nI_ge hi (by omega) c11)) (fun c11 => ?_)
    refine fw_aload_n h rfl rfl ?_
    refine fw_iload_n h rfl rfl ?_
    refine fw_iload_n h rfl rfl ?_
    refine fw_iconst h (nI 0) rfl (by decide) ?_
    refine fw_v3V h rfl fk_v_X3_put fk_l_X3_18 rfl rfl rfl rfl ?_
    refine c_X3_put hr (by omega) ?_
    first | refine fn_iinc h [_, _, _, _] rfl rfl rfl rfl rfl ?_ | refine fw_iinc h 1 [_, _, _, _] rfl (by decide) rfl rfl rfl rfl ?_
    refine fw_goto h rfl ?_
    exact ih
theorem c_X3_drop {l : Launch} {w : fb_Wd} {P : fb_Wd → Prop} {r : Nat} (hr : r < 6) (hp : P (fb_up w 10 r (-1))) : fb_Can l tX3_drop [.ref 1, .int (nI r)] w (fb_kV P) := by
  refine fb_intro 0 fk_t_X3_drop (by decide) rfl (fun X hX h => ?_)
  subst hX
  change fb_AW tX3_drop X 0 [some (.ref 1), some (.int (nI r))] [] w
  refine fw_aload_n h rfl rfl ?_
  refine fw_getR _ h rfl fk_g_X3_9 rfl rfl ?_
  refine fw_iload_n h rfl rfl ?_
  refine fw_iconst h (-1) rfl (by decide) ?_
  refine fn_iast h rfl rfl (by omega) rfl ?_
  exact fw_vret h rfl rfl ⟨rfl, hp⟩
theorem c_X3_carry {l : Launch} {w : fb_Wd} {P : fb_Wd → Prop} {r i to j n : Nat} (hr : r < 6) (ht : to < 6) (h1 : i + n ≤ 40) (h2 : j + n ≤ 40) (hp : P (fb_ua w 11 (va_cpy (w.1 11) (w.1 11) (40 * r + i) (40 * to + j) n))) : fb_Can l tX3_carry [.ref 1, .int (nI r), .int (nI i), .int (nI to), .int (nI j), .int (nI n)] w (fb_kV P) := by
  refine fb_intro 0 fk_t_X3_carry (by decide) rfl (fun X hX h => ?_)
  subst hX
  change fb_AW tX3_carry X 0 [some (.ref 1), some (.int (nI r)), some (.int (nI i)), some (.int (nI to)), some (.int (nI j)), some (.int (nI n))] [] w
  refine fw_aload_n h rfl rfl ?_
  refine fw_getR _ h rfl fk_g_X3_15 rfl rfl ?_
  refine fw_iload_n h rfl rfl ?_
  refine fw_bipush h (nI 40) rfl (by decide) ?_
  refine fn_imulc h rfl ?_
  refine fw_iload_n h rfl rfl ?_
  first | refine fn_iadd h rfl ?_ | refine fw_iadd h rfl ?_
  refine fw_aload_n h rfl rfl ?_
  refine fw_getR _ h rfl fk_g_X3_15 rfl rfl ?_
  refine fw_iload_n h rfl rfl ?_
  refine fw_bipush h (nI 40) rfl (by decide) ?_
  refine fn_imulc h rfl ?_
  refine fw_iload h rfl rfl ?_
  first | refine fn_iadd h rfl ?_ | refine fw_iadd h rfl ?_
  refine fw_iload h rfl rfl ?_
  refine fw_copy h rfl (fb_mT 339 (by decide +kernel) (by decide +kernel)) (fb_mT 341 (by decide +kernel) (by decide +kernel)) (fb_mT 340 (by decide +kernel) (by decide +kernel)) (fb_mT 10 (by decide +kernel) (by decide +kernel)) rfl rfl (by omega) (by omega) rfl rfl ?_
  exact fw_vret h rfl rfl ⟨rfl, hp⟩
theorem c_X3_there {l : Launch} {w : fb_Wd} {P : Int32 → fb_Wd → Prop} (hp : P (nI (fp_cnt (fun r => !decide (w.1 10 r = -1)) 6)) w) : fb_Can l tX3_there [.ref 1] w (fb_kI P) := by
  refine fb_intro 2 fk_t_X3_there (by decide) rfl (fun X hX h => ?_)
  subst hX
  change fb_AW tX3_there X 0 [some (.ref 1), none, none] [] w
  refine fw_iconst h (nI 0) rfl (by decide) ?_
  refine fw_istore_n h [_, _, _] rfl rfl rfl rfl ?_
  refine fw_iconst h (nI 0) rfl (by decide) ?_
  refine fw_istore_n h [_, _, _] rfl rfl rfl rfl ?_
  refine fb_loop (fun i => fb_AW tX3_there X 4 [some (.ref 1), some (.int (nI (fp_cnt (fun r => !decide (w.1 10 r = -1)) i))), some (.int (nI i))] [] w) (6) ?_ (fun i hi ih => ?_) 0 (Nat.zero_le _)
  · refine fw_iload_n h rfl rfl ?_
    refine fw_bipush h (nI 6) rfl (by decide) ?_
    refine fw_icmp_ge h rfl (fun c7 => ?_) (fun c7 => False.elim (c7 (by decide)))
    refine fw_iload_n h rfl rfl ?_
    exact fw_iret h rfl rfl ⟨_, rfl, hp⟩
  · refine fw_iload_n h rfl rfl ?_
    refine fw_bipush h (nI 6) rfl (by decide) ?_
    refine fw_icmp_ge h rfl (fun c7 => False.elim (nI_ge hi (by decide) c7)) (fun c7 => ?_)
    refine fw_aload_n h rfl rfl ?_
    refine fw_iload_n h rfl rfl ?_
    refine fw_v1I h rfl fk_v_X3_isMissing fk_l_X3_28 rfl rfl rfl rfl ?_
    refine c_X3_isMissing hi (fun c12 => ?_) (fun c12 => ?_)
    · refine fw_if_ne h rfl (fun _ => ?_) (fun c => absurd c (by decide))
      first | refine fn_iinc h [_, _, _] rfl rfl rfl rfl rfl ?_ | refine fw_iinc h 1 [_, _, _] rfl (by decide) rfl rfl rfl rfl ?_
      refine fw_goto h rfl ?_
      have en : fp_cnt (fun r => !decide (w.1 10 r = -1)) (i + 1) = fp_cnt (fun r => !decide (w.1 10 r = -1)) i + 0 := fp_cnt_0 (fx_nf c12)
      rw [en] at ih
      exact ih
    · refine fw_if_ne h rfl (fun c => absurd c (by decide)) (fun _ => ?_)
      skip
      · first | refine fn_iinc h [_, _, _] rfl rfl rfl rfl rfl ?_ | refine fw_iinc h 1 [_, _, _] rfl (by decide) rfl rfl rfl rfl ?_
        first | refine fn_iinc h [_, _, _] rfl rfl rfl rfl rfl ?_ | refine fw_iinc h 1 [_, _, _] rfl (by decide) rfl rfl rfl rfl ?_
        refine fw_goto h rfl ?_
        have en : fp_cnt (fun r => !decide (w.1 10 r = -1)) (i + 1) = fp_cnt (fun r => !decide (w.1 10 r = -1)) i + 1 := fp_cnt_1 (fx_nt c12)
        rw [en] at ih
        exact ih
theorem c_X3_mixInto {l : Launch} {w : fb_Wd} {P : Int64 → fb_Wd → Prop} {h0 : Int64} (hsz : ∀ r, r < 6 → w.1 10 r = -1 ∨ ∃ n, n ≤ 40 ∧ w.1 10 r = nI n) (hp : P (fs_it (fs_e6 (w.1 10) (w.1 11)) h0 6) w) : fb_Can l tX3_mixInto [.ref 1, .long h0] w (fb_kL P) := by
  refine fb_intro 4 fk_t_X3_mixInto (by decide) rfl (fun X hX h => ?_)
  subst hX
  change fb_AW tX3_mixInto X 0 [some (.ref 1), some (.long h0), none, none, none, none, none] [] w
  refine fw_lload_n h rfl rfl ?_
  refine fw_lstore_n h [_, _, _, _, _, _, _] rfl rfl rfl rfl ?_
  refine fw_iconst h (nI 0) rfl (by decide) ?_
  refine fw_istore h [_, _, _, _, _, _, _] rfl rfl rfl rfl ?_
  refine fb_loop (fun i => fb_AW tX3_mixInto X 5 [some (.ref 1), some (.long h0), none, some (.long (fs_it (fs_e6 (w.1 10) (w.1 11)) h0 i)), none, some (.int (nI i)), none] [] w) (6) ?_ (fun i hi ih => ?_) 0 (Nat.zero_le _)
  · refine fw_iload h rfl rfl ?_
    refine fw_bipush h (nI 6) rfl (by decide) ?_
    refine fw_icmp_ge h rfl (fun c9 => ?_) (fun c9 => False.elim (c9 (by decide)))
    refine fw_lload_n h rfl rfl ?_
    exact fw_lret h rfl rfl ⟨_, rfl, hp⟩
  · refine fw_iload h rfl rfl ?_
    refine fw_bipush h (nI 6) rfl (by decide) ?_
    refine fw_icmp_ge h rfl (fun c9 => False.elim (nI_ge hi (by decide) c9)) (fun c9 => ?_)
    refine fw_lload_n h rfl rfl ?_
    refine fw_aload_n h rfl rfl ?_
    refine fw_getR _ h rfl fk_g_X3_9 rfl rfl ?_
    refine fw_iload h rfl rfl ?_
    refine fn_iald h rfl rfl (by omega) rfl ?_
    refine fw_i2l h rfl ?_
    refine fw_s2L h rfl fk_s_X7_mixed fk_l_X3_32 rfl rfl ?_
    refine c_X7_mixed ?_
    refine fw_lstore_n h [_, _, _, _, _, _, _] rfl rfl rfl rfl ?_
    refine fw_iconst h (nI 0) rfl (by decide) ?_
    refine fw_istore h [_, _, _, _, _, _, _] rfl rfl rfl rfl ?_
    rcases hsz i hi with hs2 | ⟨n2, hn2, hs2⟩
    · refine fw_iload h rfl rfl ?_
      refine fw_aload_n h rfl rfl ?_
      refine fw_getR _ h rfl fk_g_X3_9 rfl rfl ?_
      refine fw_iload h rfl rfl ?_
      refine fn_iald h rfl rfl (by omega) rfl ?_
      refine fw_icmp_ge h rfl (fun c37 => ?_) (fun c37 => False.elim (c37 (by rw [hs2]; decide)))
      first | refine fn_iinc h [_, _, _, _, _, _, _] rfl rfl rfl rfl rfl ?_ | refine fw_iinc h 1 [_, _, _, _, _, _, _] rfl (by decide) rfl rfl rfl rfl ?_
      refine fw_goto h rfl ?_
      refine fw_sub (fb_pad_c (Or.inr rfl) (fb_pad_c (Or.inr rfl) (fb_pad_c (Or.inr rfl) (fb_pad_c (Or.inr rfl) (fb_pad_c (Or.inr rfl) (fb_pad_c (Or.inr rfl) (fb_pad_c (Or.inl rfl) (fb_pad_n)))))))) ?_
      have ih2 := ih
      rw [fs_it, fs_e6, show (w.1 10 i).toNatClampNeg = 0 by rw [hs2]; decide] at ih2
      exact ih2
    · refine fb_loop (fun b => fb_AW tX3_mixInto X 28 [some (.ref 1), some (.long h0), none, some (.long (fs_mxF (fs_mix (fs_it (fs_e6 (w.1 10) (w.1 11)) h0 i) (w.1 10 i)) (fun k => w.1 11 (40 * i + k)) b)), none, some (.int (nI i)), some (.int (nI b))] [] w) n2 ?_ (fun b hb ihb => ?_) 0 (Nat.zero_le _)
      · change fb_AW tX3_mixInto X 28 [some (.ref 1), some (.long h0), none, some (.long (fs_mxF (fs_mix (fs_it (fs_e6 (w.1 10) (w.1 11)) h0 i) (w.1 10 i)) (fun k => w.1 11 (40 * i + k)) n2)), none, some (.int (nI i)), some (.int (nI n2))] [] w
        refine fw_iload h rfl rfl ?_
        refine fw_aload_n h rfl rfl ?_
        refine fw_getR _ h rfl fk_g_X3_9 rfl rfl ?_
        refine fw_iload h rfl rfl ?_
        refine fn_iald h rfl rfl (by omega) rfl ?_
        refine fw_icmp_ge h rfl (fun c37 => ?_) (fun c37 => False.elim (c37 (by rw [hs2]; exact Int32.le_refl _)))
        first | refine fn_iinc h [_, _, _, _, _, _, _] rfl rfl rfl rfl rfl ?_ | refine fw_iinc h 1 [_, _, _, _, _, _, _] rfl (by decide) rfl rfl rfl rfl ?_
        refine fw_goto h rfl ?_
        refine fw_sub (fb_pad_c (Or.inr rfl) (fb_pad_c (Or.inr rfl) (fb_pad_c (Or.inr rfl) (fb_pad_c (Or.inr rfl) (fb_pad_c (Or.inr rfl) (fb_pad_c (Or.inr rfl) (fb_pad_c (Or.inl rfl) (fb_pad_n)))))))) ?_
        have ih2 := ih
        rw [fs_it, fs_e6, show (w.1 10 i).toNatClampNeg = n2 by rw [hs2]; exact nI_clamp (by omega)] at ih2
        exact ih2
      · refine fw_iload h rfl rfl ?_
        refine fw_aload_n h rfl rfl ?_
        refine fw_getR _ h rfl fk_g_X3_9 rfl rfl ?_
        refine fw_iload h rfl rfl ?_
        refine fn_iald h rfl rfl (by omega) rfl ?_
        refine fw_icmp_ge h rfl (fun c37 => False.elim (by rw [hs2] at c37; exact nI_ge hb (by omega) c37)) (fun c37 => ?_)
        refine fw_lload_n h rfl rfl ?_
        refine fw_aload_n h rfl rfl ?_
        refine fw_iload h rfl rfl ?_
        refine fw_iload h rfl rfl ?_
        refine fw_v2I h rfl fk_v_X3_at fk_l_X3_36 rfl rfl rfl rfl ?_
        refine c_X3_at hi (by omega) ?_
        refine fw_i2l h rfl ?_
        refine fw_s2L h rfl fk_s_X7_mixed fk_l_X3_32 rfl rfl ?_
        refine c_X7_mixed ?_
        refine fw_lstore_n h [_, _, _, _, _, _, _] rfl rfl rfl rfl ?_
        first | refine fn_iinc h [_, _, _, _, _, _, _] rfl rfl rfl rfl rfl ?_ | refine fw_iinc h 1 [_, _, _, _, _, _, _] rfl (by decide) rfl rfl rfl rfl ?_
        refine fw_goto h rfl ?_
        exact ihb
theorem c_X5_has {l : Launch} {w : fb_Wd} {P : Int32 → fb_Wd → Prop} {a : Int32} {n : Nat} (hn : w.1 4 4 = nI n) (hn2 : n ≤ 8) (ht : ∀ j, j < n → a = nI j → P 1 w) (hf : ¬ (∃ j, j < n ∧ a = nI j) → P 0 w) : fb_Can l tX5_has [.ref 4, .int a] w (fb_kI P) := by
  refine fb_intro 0 fk_t_X5_has (by decide) rfl (fun X hX h => ?_)
  subst hX
  change fb_AW tX5_has X 0 [some (.ref 4), some (.int a)] [] w
  refine fw_iload_n h rfl rfl ?_
  refine fw_aload_n h rfl rfl ?_
  refine fw_getI h rfl fk_g_X5_25 rfl rfl ?_
  rw [hn]
  refine fw_s2I h rfl fk_s_X7_isBelow fk_l_X5_29 rfl rfl ?_
  refine c_X7_isBelow (by omega) (fun j hj e => ?_) (fun c5 => ?_)
  · exact fw_zret h rfl rfl (by first | exact Or.inl rfl | exact Or.inr rfl | assumption) ⟨_, rfl, ht j hj e⟩
  · exact fw_zret h rfl rfl (by first | exact Or.inl rfl | exact Or.inr rfl | assumption) ⟨_, rfl, hf c5⟩
theorem c_X5_add {l : Launch} {w : fb_Wd} {P : Int32 → fb_Wd → Prop} {y r z f : Int32} {n : Nat} (hn : w.1 4 4 = nI n) (hn2 : n < 8) (hz : z = 0 ∨ z = 1) (hp : P (nI n) (fb_up (fb_up (fb_up (fb_up (fb_up w 4 4 (nI (n + 1))) 31 n y) 32 n r) 33 n z) 34 n f)) : fb_Can l tX5_add [.ref 4, .int y, .int r, .int z, .int f] w (fb_kI P) := by
  refine fb_intro 1 fk_t_X5_add (by decide) rfl (fun X hX h => ?_)
  subst hX
  change fb_AW tX5_add X 0 [some (.ref 4), some (.int y), some (.int r), some (.int z), some (.int f), none] [] w
  refine fw_aload_n h rfl rfl ?_
  refine fw_getIv (nI n) h rfl fk_g_X5_25 rfl rfl (hn) ?_
  refine fw_istore h [_, _, _, _, _, _] rfl rfl rfl rfl ?_
  refine fw_aload_n h rfl rfl ?_
  refine fw_dup h rfl rfl ?_
  refine fw_getIv (nI n) h rfl fk_g_X5_25 rfl rfl (hn) ?_
  refine fw_iconst h (nI 1) rfl (by decide) ?_
  first | refine fn_iadd h rfl ?_ | refine fw_iadd h rfl ?_
  refine fw_putI h rfl fk_p_X5_25 rfl rfl ?_
  refine fw_aload_n h rfl rfl ?_
  refine fw_getR _ h rfl fk_g_X5_9 rfl rfl ?_
  refine fw_iload h rfl rfl ?_
  refine fw_iload_n h rfl rfl ?_
  refine fn_iast h rfl rfl (by omega) rfl ?_
  refine fw_aload_n h rfl rfl ?_
  refine fw_getR _ h rfl fk_g_X5_15 rfl rfl ?_
  refine fw_iload h rfl rfl ?_
  refine fw_iload_n h rfl rfl ?_
  refine fn_iast h rfl rfl (by omega) rfl ?_
  refine fw_aload_n h rfl rfl ?_
  refine fw_getR _ h rfl fk_g_X5_18 rfl rfl ?_
  refine fw_iload h rfl rfl ?_
  refine fw_iload_n h rfl rfl ?_
  refine fn_zast h rfl rfl (by omega) rfl (by first | assumption | decide) ?_
  refine fw_aload_n h rfl rfl ?_
  refine fw_getR _ h rfl fk_g_X5_22 rfl rfl ?_
  refine fw_iload h rfl rfl ?_
  refine fw_iload h rfl rfl ?_
  refine fn_iast h rfl rfl (by omega) rfl ?_
  refine fw_iload h rfl rfl ?_
  exact fw_iret h rfl rfl ⟨_, rfl, hp⟩
theorem c_X5_latestBy {l : Launch} {w : fb_Wd} {P : Int32 → fb_Wd → Prop} {y : Int32} {n : Nat} (hn : w.1 4 4 = nI n) (hn2 : n ≤ 8) (hp : P (fp_force (w.1 31) y n) w) : fb_Can l tX5_latestBy [.ref 4, .int y] w (fb_kI P) := by
  refine fb_intro 2 fk_t_X5_latestBy (by decide) rfl (fun X hX h => ?_)
  subst hX
  change fb_AW tX5_latestBy X 0 [some (.ref 4), some (.int y), none, none] [] w
  refine fw_bipush h (-9) rfl (by decide) ?_
  refine fw_istore_n h [_, _, _, _] rfl rfl rfl rfl ?_
  refine fw_iconst h (nI 0) rfl (by decide) ?_
  refine fw_istore_n h [_, _, _, _] rfl rfl rfl rfl ?_
  refine fb_loop (fun i => fb_AW tX5_latestBy X 5 [some (.ref 4), some (.int y), some (.int (fp_force (w.1 31) y i)), some (.int (nI i))] [] w) (n) ?_ (fun i hi ih => ?_) 0 (Nat.zero_le _)
  · refine fw_iload_n h rfl rfl ?_
    refine fw_aload_n h rfl rfl ?_
    refine fw_getI h rfl fk_g_X5_25 rfl rfl ?_
    refine fw_icmp_ge h rfl (fun c10 => ?_) (fun c10 => False.elim (c10 (by rw [hn]; exact Int32.le_refl _)))
    refine fw_iload_n h rfl rfl ?_
    exact fw_iret h rfl rfl ⟨_, rfl, hp⟩
  · refine fw_iload_n h rfl rfl ?_
    refine fw_aload_n h rfl rfl ?_
    refine fw_getI h rfl fk_g_X5_25 rfl rfl ?_
    refine fw_icmp_ge h rfl (fun c10 => False.elim (by rw [hn] at c10; exact nI_ge hi (by omega) c10)) (fun c10 => ?_)
    refine fw_aload_n h rfl rfl ?_
    refine fw_getR _ h rfl fk_g_X5_9 rfl rfl ?_
    refine fw_iload_n h rfl rfl ?_
    refine fn_iald h rfl rfl (by omega) rfl ?_
    refine fw_iload_n h rfl rfl ?_
    refine fw_icmp_le h rfl (fun c20 => ?_) (fun c20 => ?_)
    · refine fw_iload_n h rfl rfl ?_
      refine fw_bipush h (-9) rfl (by decide) ?_
      refine fw_icmp_eq h rfl (fun c29 => ?_) (fun c29 => ?_)
      · skip
        · refine fw_iload_n h rfl rfl ?_
          refine fw_istore_n h [_, _, _, _] rfl rfl rfl rfl ?_
          first | refine fn_iinc h [_, _, _, _] rfl rfl rfl rfl rfl ?_ | refine fw_iinc h 1 [_, _, _, _] rfl (by decide) rfl rfl rfl rfl ?_
          refine fw_goto h rfl ?_
          have en : fp_force (w.1 31) y (i + 1) = nI i := by first | exact fp_force_1 (Int32.not_lt.mpr c20) (by rw [c29]; decide) | exact fp_force_2 (Int32.not_lt.mpr c20) c44
          rw [en] at ih
          exact ih
      · have hnn : ¬ fp_force (w.1 31) y i < 0 := by
          rcases fp_force_in (w.1 31) y i with z | ⟨q, hq, z⟩
          · exact absurd z c29
          · rw [z]; exact nI_pos (by omega)
        refine fw_aload_n h rfl rfl ?_
        refine fw_getR _ h rfl fk_g_X5_9 rfl rfl ?_
        refine fw_iload_n h rfl rfl ?_
        refine fn_iald h rfl rfl (by omega) rfl ?_
        refine fw_aload_n h rfl rfl ?_
        refine fw_getR _ h rfl fk_g_X5_9 rfl rfl ?_
        refine fw_iload_n h rfl rfl ?_
        refine fw_iald h rfl rfl (fp_force_vp (by omega) (by omega) hnn) ?_
        refine fw_icmp_lt h rfl (fun c44 => ?_) (fun c44 => ?_)
        · first | refine fn_iinc h [_, _, _, _] rfl rfl rfl rfl rfl ?_ | refine fw_iinc h 1 [_, _, _, _] rfl (by decide) rfl rfl rfl rfl ?_
          refine fw_goto h rfl ?_
          rw [fp_force_3 hnn c44] at ih
          exact ih
        · skip
          · refine fw_iload_n h rfl rfl ?_
            refine fw_istore_n h [_, _, _, _] rfl rfl rfl rfl ?_
            first | refine fn_iinc h [_, _, _, _] rfl rfl rfl rfl rfl ?_ | refine fw_iinc h 1 [_, _, _, _] rfl (by decide) rfl rfl rfl rfl ?_
            refine fw_goto h rfl ?_
            have en : fp_force (w.1 31) y (i + 1) = nI i := by first | exact fp_force_1 (Int32.not_lt.mpr c20) (by rw [c29]; decide) | exact fp_force_2 (Int32.not_lt.mpr c20) c44
            rw [en] at ih
            exact ih
    · skip
      · refine fw_goto h rfl ?_
        first | refine fn_iinc h [_, _, _, _] rfl rfl rfl rfl rfl ?_ | refine fw_iinc h 1 [_, _, _, _] rfl (by decide) rfl rfl rfl rfl ?_
        refine fw_goto h rfl ?_
        rw [fp_force_4 (Int32.not_le.mp c20)] at ih
        exact ih
theorem c_X5_mixInto {l : Launch} {w : fb_Wd} {P : Int64 → fb_Wd → Prop} {n : Nat} {h0 : Int64} (hn : w.1 4 4 = nI n) (hn2 : n ≤ 8) (hp : P (fs_it (fs_e4 (xD w)) h0 n) w) : fb_Can l tX5_mixInto [.ref 4, .long h0] w (fb_kL P) := by
  refine fb_intro 3 fk_t_X5_mixInto (by decide) rfl (fun X hX h => ?_)
  subst hX
  change fb_AW tX5_mixInto X 0 [some (.ref 4), some (.long h0), none, none, none, none] [] w
  refine fw_lload_n h rfl rfl ?_
  refine fw_lstore_n h [_, _, _, _, _, _] rfl rfl rfl rfl ?_
  refine fw_iconst h (nI 0) rfl (by decide) ?_
  refine fw_istore h [_, _, _, _, _, _] rfl rfl rfl rfl ?_
  refine fb_loop (fun i => fb_AW tX5_mixInto X 5 [some (.ref 4), some (.long h0), none, some (.long (fs_it (fs_e4 (xD w)) h0 i)), none, some (.int (nI i))] [] w) (n) ?_ (fun i hi ih => ?_) 0 (Nat.zero_le _)
  · refine fw_iload h rfl rfl ?_
    refine fw_aload_n h rfl rfl ?_
    refine fw_getI h rfl fk_g_X5_25 rfl rfl ?_
    refine fw_icmp_ge h rfl (fun c11 => ?_) (fun c11 => False.elim (c11 (by rw [hn]; exact Int32.le_refl _)))
    refine fw_lload_n h rfl rfl ?_
    exact fw_lret h rfl rfl ⟨_, rfl, hp⟩
  · refine fw_iload h rfl rfl ?_
    refine fw_aload_n h rfl rfl ?_
    refine fw_getI h rfl fk_g_X5_25 rfl rfl ?_
    refine fw_icmp_ge h rfl (fun c11 => False.elim (by rw [hn] at c11; exact nI_ge hi (by omega) c11)) (fun c11 => ?_)
    have e15 : xD w 15 i = w.1 33 i := if_pos (show i < 8 by omega)
    have e13 : xD w 13 i = w.1 31 i := if_pos (show i < 8 by omega)
    have e14 : xD w 14 i = w.1 32 i := if_pos (show i < 8 by omega)
    have e16 : xD w 16 i = w.1 34 i := if_pos (show i < 8 by omega)
    refine fw_lload_n h rfl rfl ?_
    refine fw_aload_n h rfl rfl ?_
    refine fw_getR _ h rfl fk_g_X5_9 rfl rfl ?_
    refine fw_iload h rfl rfl ?_
    refine fn_iald h rfl rfl (by omega) rfl ?_
    refine fw_i2l h rfl ?_
    refine fw_s2L h rfl fk_s_X7_mixed fk_l_X5_33 rfl rfl ?_
    refine c_X7_mixed ?_
    refine fw_aload_n h rfl rfl ?_
    refine fw_getR _ h rfl fk_g_X5_15 rfl rfl ?_
    refine fw_iload h rfl rfl ?_
    refine fn_iald h rfl rfl (by omega) rfl ?_
    refine fw_i2l h rfl ?_
    refine fw_s2L h rfl fk_s_X7_mixed fk_l_X5_33 rfl rfl ?_
    refine c_X7_mixed ?_
    refine fw_lstore_n h [_, _, _, _, _, _] rfl rfl rfl rfl ?_
    refine fw_lload_n h rfl rfl ?_
    refine fw_aload_n h rfl rfl ?_
    refine fw_getR _ h rfl fk_g_X5_18 rfl rfl ?_
    refine fw_iload h rfl rfl ?_
    refine fn_zald h rfl rfl (by omega) rfl ?_
    refine fw_if_eq h rfl (fun c46 => ?_) (fun c46 => ?_)
    · have en : (if w.1 33 i = 0 then nI 0 else nI 1) = nI 0 := if_pos c46
      refine fw_lconst h 0 rfl (by decide) ?_
      refine fw_s2L h rfl fk_s_X7_mixed fk_l_X5_33 rfl rfl ?_
      refine c_X7_mixed ?_
      refine fw_aload_n h rfl rfl ?_
      refine fw_getR _ h rfl fk_g_X5_22 rfl rfl ?_
      refine fw_iload h rfl rfl ?_
      refine fn_iald h rfl rfl (by omega) rfl ?_
      refine fw_i2l h rfl ?_
      refine fw_s2L h rfl fk_s_X7_mixed fk_l_X5_33 rfl rfl ?_
      refine c_X7_mixed ?_
      refine fw_lstore_n h [_, _, _, _, _, _] rfl rfl rfl rfl ?_
      first | refine fn_iinc h [_, _, _, _, _, _] rfl rfl rfl rfl rfl ?_ | refine fw_iinc h 1 [_, _, _, _, _, _] rfl (by decide) rfl rfl rfl rfl ?_
      refine fw_goto h rfl ?_
      rw [fs_it, fs_e4, e13, e14, e15, e16, en] at ih
      exact ih
    · have en : (if w.1 33 i = 0 then nI 0 else nI 1) = nI 1 := if_neg c46
      refine fw_lconst h 1 rfl (by decide) ?_
      refine fw_goto h rfl ?_
      refine fw_s2L h rfl fk_s_X7_mixed fk_l_X5_33 rfl rfl ?_
      refine c_X7_mixed ?_
      refine fw_aload_n h rfl rfl ?_
      refine fw_getR _ h rfl fk_g_X5_22 rfl rfl ?_
      refine fw_iload h rfl rfl ?_
      refine fn_iald h rfl rfl (by omega) rfl ?_
      refine fw_i2l h rfl ?_
      refine fw_s2L h rfl fk_s_X7_mixed fk_l_X5_33 rfl rfl ?_
      refine c_X7_mixed ?_
      refine fw_lstore_n h [_, _, _, _, _, _] rfl rfl rfl rfl ?_
      first | refine fn_iinc h [_, _, _, _, _, _] rfl rfl rfl rfl rfl ?_ | refine fw_iinc h 1 [_, _, _, _, _, _] rfl (by decide) rfl rfl rfl rfl ?_
      refine fw_goto h rfl ?_
      rw [fs_it, fs_e4, e13, e14, e15, e16, en] at ih
      exact ih
theorem c_X1_add {l : Launch} {w : fb_Wd} {P : fb_Wd → Prop} {a b c d e f : Int32} {n : Nat} (hn : w.1 5 6 = nI n) (hn2 : n < 10) (hp : P (fb_up (fb_up (fb_up (fb_up (fb_up (fb_up (fb_up w 5 6 (nI (n + 1))) 35 n a) 36 n b) 37 n c) 38 n d) 39 n e) 40 n f)) : fb_Can l tX1_add [.ref 5, .int a, .int b, .int c, .int d, .int e, .int f] w (fb_kV P) := by
  refine fb_intro 1 fk_t_X1_add (by decide) rfl (fun X hX h => ?_)
  subst hX
  change fb_AW tX1_add X 0 [some (.ref 5), some (.int a), some (.int b), some (.int c), some (.int d), some (.int e), some (.int f), none] [] w
  refine fw_aload_n h rfl rfl ?_
  refine fw_getIv (nI n) h rfl fk_g_X1_30 rfl rfl (hn) ?_
  refine fw_istore h [_, _, _, _, _, _, _, _] rfl rfl rfl rfl ?_
  refine fw_aload_n h rfl rfl ?_
  refine fw_dup h rfl rfl ?_
  refine fw_getIv (nI n) h rfl fk_g_X1_30 rfl rfl (hn) ?_
  refine fw_iconst h (nI 1) rfl (by decide) ?_
  first | refine fn_iadd h rfl ?_ | refine fw_iadd h rfl ?_
  refine fw_putI h rfl fk_p_X1_30 rfl rfl ?_
  refine fw_aload_n h rfl rfl ?_
  refine fw_getR _ h rfl fk_g_X1_9 rfl rfl ?_
  refine fw_iload h rfl rfl ?_
  refine fw_iload_n h rfl rfl ?_
  refine fn_iast h rfl rfl (by omega) rfl ?_
  refine fw_aload_n h rfl rfl ?_
  refine fw_getR _ h rfl fk_g_X1_15 rfl rfl ?_
  refine fw_iload h rfl rfl ?_
  refine fw_iload_n h rfl rfl ?_
  refine fn_iast h rfl rfl (by omega) rfl ?_
  refine fw_aload_n h rfl rfl ?_
  refine fw_getR _ h rfl fk_g_X1_18 rfl rfl ?_
  refine fw_iload h rfl rfl ?_
  refine fw_iload_n h rfl rfl ?_
  refine fn_iast h rfl rfl (by omega) rfl ?_
  refine fw_aload_n h rfl rfl ?_
  refine fw_getR _ h rfl fk_g_X1_21 rfl rfl ?_
  refine fw_iload h rfl rfl ?_
  refine fw_iload h rfl rfl ?_
  refine fn_iast h rfl rfl (by omega) rfl ?_
  refine fw_aload_n h rfl rfl ?_
  refine fw_getR _ h rfl fk_g_X1_24 rfl rfl ?_
  refine fw_iload h rfl rfl ?_
  refine fw_iload h rfl rfl ?_
  refine fn_iast h rfl rfl (by omega) rfl ?_
  refine fw_aload_n h rfl rfl ?_
  refine fw_getR _ h rfl fk_g_X1_27 rfl rfl ?_
  refine fw_iload h rfl rfl ?_
  refine fw_iload h rfl rfl ?_
  refine fn_iast h rfl rfl (by omega) rfl ?_
  exact fw_vret h rfl rfl ⟨rfl, hp⟩
def fx_gr (pl y : Int32) (s : Nat) (gp gf gt gs : Nat → Int32) (g : Nat) : Bool := decide (gp g = pl) && decide (gf g ≤ y) && decide (y ≤ gt g) && bt (gs g) s
theorem fx_gr_t {pl y : Int32} {s : Nat} {gp gf gt gs : Nat → Int32} {g : Nat} (h1 : gp g = pl) (h2 : gf g ≤ y) (h3 : y ≤ gt g) (h4 : bt (gs g) s = true) : fx_gr pl y s gp gf gt gs g = true := by unfold fx_gr; rw [decide_eq_true h1, decide_eq_true h2, decide_eq_true h3, h4]; rfl
theorem fx_gr_1 {pl y : Int32} {s : Nat} {gp gf gt gs : Nat → Int32} {g : Nat} (h1 : ¬ gp g = pl) : fx_gr pl y s gp gf gt gs g = false := by unfold fx_gr; rw [decide_eq_false h1]; rfl
theorem fx_gr_2 {pl y : Int32} {s : Nat} {gp gf gt gs : Nat → Int32} {g : Nat} (h1 : ¬ (gf g ≤ y ∧ y ≤ gt g)) : fx_gr pl y s gp gf gt gs g = false := by
  unfold fx_gr
  by_cases h2 : gf g ≤ y
  · rw [decide_eq_false (fun z => h1 ⟨h2, z⟩)]; simp
  · rw [decide_eq_false h2]; simp
theorem fx_gr_3 {pl y : Int32} {s : Nat} {gp gf gt gs : Nat → Int32} {g : Nat} (h4 : bt (gs g) s = false) : fx_gr pl y s gp gf gt gs g = false := by unfold fx_gr; rw [h4]; simp
theorem c_X1_firstFor {l : Launch} {w : fb_Wd} {P : Int32 → fb_Wd → Prop} {pl y : Int32} {s n : Nat} (hs : s < 32) (hn : w.1 5 6 = nI n) (hn2 : n ≤ 10) (hp : P (fp_fst (fx_gr pl y s (w.1 36) (w.1 37) (w.1 38) (w.1 39)) n) w) : fb_Can l tX1_firstFor [.ref 5, .int pl, .int y, .int (nI s)] w (fb_kI P) := by
  refine fb_intro 1 fk_t_X1_firstFor (by decide) rfl (fun X hX h => ?_)
  subst hX
  change fb_AW tX1_firstFor X 0 [some (.ref 5), some (.int pl), some (.int y), some (.int (nI s)), none] [] w
  refine fw_iconst h (nI 0) rfl (by decide) ?_
  refine fw_istore h [_, _, _, _, _] rfl rfl rfl rfl ?_
  refine (?_ : (∀ j, j < 0 → fx_gr pl y s (w.1 36) (w.1 37) (w.1 38) (w.1 39) j = false) → fb_AW tX1_firstFor X 3 [some (.ref 5), some (.int pl), some (.int y), some (.int (nI s)), some (.int (nI 0))] [] w) (fun j hj => by omega)
  refine fb_loop (fun i => (∀ j, j < i → fx_gr pl y s (w.1 36) (w.1 37) (w.1 38) (w.1 39) j = false) → fb_AW tX1_firstFor X 3 [some (.ref 5), some (.int pl), some (.int y), some (.int (nI s)), some (.int (nI i))] [] w) (n) ?_ (fun i hi ih => ?_) 0 (Nat.zero_le _)
  · intro hno
    refine fw_iload h rfl rfl ?_
    refine fw_aload_n h rfl rfl ?_
    refine fw_getI h rfl fk_g_X1_30 rfl rfl ?_
    refine fw_icmp_ge h rfl (fun c9 => ?_) (fun c9 => False.elim (c9 (by rw [hn]; exact Int32.le_refl _)))
    refine fw_bipush h (-9) rfl (by decide) ?_
    exact fw_iret h rfl rfl ⟨_, rfl, by rw [fp_fst_none hno] at hp; exact hp⟩
  · intro hno
    refine fw_iload h rfl rfl ?_
    refine fw_aload_n h rfl rfl ?_
    refine fw_getI h rfl fk_g_X1_30 rfl rfl ?_
    refine fw_icmp_ge h rfl (fun c9 => False.elim (by rw [hn] at c9; exact nI_ge hi (by omega) c9)) (fun c9 => ?_)
    refine fw_aload_n h rfl rfl ?_
    refine fw_getR _ h rfl fk_g_X1_15 rfl rfl ?_
    refine fw_iload h rfl rfl ?_
    refine fn_iald h rfl rfl (by omega) rfl ?_
    refine fw_iload_n h rfl rfl ?_
    refine fw_icmp_ne h rfl (fun c20 => ?_) (fun c20 => ?_)
    · first | refine fn_iinc h [_, _, _, _, _] rfl rfl rfl rfl rfl ?_ | refine fw_iinc h 1 [_, _, _, _, _] rfl (by decide) rfl rfl rfl rfl ?_
      refine fw_goto h rfl ?_
      refine ih (fun j hj => ?_)
      by_cases e : j = i
      · subst e
        first
          | exact fx_gr_1 c20
          | exact fx_gr_2 c38
          | exact fx_gr_3 c52
      · exact hno j (by omega)
    · refine fw_iload_n h rfl rfl ?_
      refine fw_aload_n h rfl rfl ?_
      refine fw_getR _ h rfl fk_g_X1_18 rfl rfl ?_
      refine fw_iload h rfl rfl ?_
      refine fn_iald h rfl rfl (by omega) rfl ?_
      refine fw_aload_n h rfl rfl ?_
      refine fw_getR _ h rfl fk_g_X1_21 rfl rfl ?_
      refine fw_iload h rfl rfl ?_
      refine fn_iald h rfl rfl (by omega) rfl ?_
      refine fw_s3I h rfl fk_s_X7_isBetween fk_l_X1_34 rfl rfl ?_
      refine c_X7_isBetween (fun c38a c38b => ?_) (fun c38 => ?_)
      · refine fw_if_eq h rfl (fun c => absurd c (by decide)) (fun _ => ?_)
        refine fw_aload_n h rfl rfl ?_
        refine fw_getR _ h rfl fk_g_X1_24 rfl rfl ?_
        refine fw_iload h rfl rfl ?_
        refine fn_iald h rfl rfl (by omega) rfl ?_
        refine fw_iload_n h rfl rfl ?_
        refine fw_s2I h rfl fk_s_X7_isIn fk_l_X1_38 rfl rfl ?_
        refine c_X7_isIn rfl (by omega) (fun c52 => ?_) (fun c52 => ?_)
        · refine fw_if_eq h rfl (fun c => absurd c (by decide)) (fun _ => ?_)
          refine fw_iload h rfl rfl ?_
          exact fw_iret h rfl rfl ⟨_, rfl, by rw [fp_fst_some (fx_gr_t c20 c38a c38b c52) hno (by omega) hi] at hp; exact hp⟩
        · refine fw_if_eq h rfl (fun _ => ?_) (fun c => absurd c (by decide))
          first | refine fn_iinc h [_, _, _, _, _] rfl rfl rfl rfl rfl ?_ | refine fw_iinc h 1 [_, _, _, _, _] rfl (by decide) rfl rfl rfl rfl ?_
          refine fw_goto h rfl ?_
          refine ih (fun j hj => ?_)
          by_cases e : j = i
          · subst e
            first
              | exact fx_gr_1 c20
              | exact fx_gr_2 c38
              | exact fx_gr_3 c52
          · exact hno j (by omega)
      · refine fw_if_eq h rfl (fun _ => ?_) (fun c => absurd c (by decide))
        first | refine fn_iinc h [_, _, _, _, _] rfl rfl rfl rfl rfl ?_ | refine fw_iinc h 1 [_, _, _, _, _] rfl (by decide) rfl rfl rfl rfl ?_
        refine fw_goto h rfl ?_
        refine ih (fun j hj => ?_)
        by_cases e : j = i
        · subst e
          first
            | exact fx_gr_1 c20
            | exact fx_gr_2 c38
            | exact fx_gr_3 c52
        · exact hno j (by omega)
theorem c_X1_mixInto {l : Launch} {w : fb_Wd} {P : Int64 → fb_Wd → Prop} {n : Nat} {h0 : Int64} (hn : w.1 5 6 = nI n) (hn2 : n ≤ 10) (hp : P (fs_it (fs_e5 (xD w)) h0 n) w) : fb_Can l tX1_mixInto [.ref 5, .long h0] w (fb_kL P) := by
  refine fb_intro 3 fk_t_X1_mixInto (by decide) rfl (fun X hX h => ?_)
  subst hX
  change fb_AW tX1_mixInto X 0 [some (.ref 5), some (.long h0), none, none, none, none] [] w
  refine fw_lload_n h rfl rfl ?_
  refine fw_lstore_n h [_, _, _, _, _, _] rfl rfl rfl rfl ?_
  refine fw_iconst h (nI 0) rfl (by decide) ?_
  refine fw_istore h [_, _, _, _, _, _] rfl rfl rfl rfl ?_
  refine fb_loop (fun i => fb_AW tX1_mixInto X 5 [some (.ref 5), some (.long h0), none, some (.long (fs_it (fs_e5 (xD w)) h0 i)), none, some (.int (nI i))] [] w) (n) ?_ (fun i hi ih => ?_) 0 (Nat.zero_le _)
  · refine fw_iload h rfl rfl ?_
    refine fw_aload_n h rfl rfl ?_
    refine fw_getI h rfl fk_g_X1_30 rfl rfl ?_
    refine fw_icmp_ge h rfl (fun c11 => ?_) (fun c11 => False.elim (c11 (by rw [hn]; exact Int32.le_refl _)))
    refine fw_lload_n h rfl rfl ?_
    exact fw_lret h rfl rfl ⟨_, rfl, hp⟩
  · refine fw_iload h rfl rfl ?_
    refine fw_aload_n h rfl rfl ?_
    refine fw_getI h rfl fk_g_X1_30 rfl rfl ?_
    refine fw_icmp_ge h rfl (fun c11 => False.elim (by rw [hn] at c11; exact nI_ge hi (by omega) c11)) (fun c11 => ?_)
    refine fw_lload_n h rfl rfl ?_
    refine fw_aload_n h rfl rfl ?_
    refine fw_getR _ h rfl fk_g_X1_9 rfl rfl ?_
    refine fw_iload h rfl rfl ?_
    refine fn_iald h rfl rfl (by omega) rfl ?_
    refine fw_i2l h rfl ?_
    refine fw_s2L h rfl fk_s_X7_mixed fk_l_X1_42 rfl rfl ?_
    refine c_X7_mixed ?_
    refine fw_aload_n h rfl rfl ?_
    refine fw_getR _ h rfl fk_g_X1_15 rfl rfl ?_
    refine fw_iload h rfl rfl ?_
    refine fn_iald h rfl rfl (by omega) rfl ?_
    refine fw_i2l h rfl ?_
    refine fw_s2L h rfl fk_s_X7_mixed fk_l_X1_42 rfl rfl ?_
    refine c_X7_mixed ?_
    refine fw_lstore_n h [_, _, _, _, _, _] rfl rfl rfl rfl ?_
    refine fw_lload_n h rfl rfl ?_
    refine fw_aload_n h rfl rfl ?_
    refine fw_getR _ h rfl fk_g_X1_18 rfl rfl ?_
    refine fw_iload h rfl rfl ?_
    refine fn_iald h rfl rfl (by omega) rfl ?_
    refine fw_i2l h rfl ?_
    refine fw_s2L h rfl fk_s_X7_mixed fk_l_X1_42 rfl rfl ?_
    refine c_X7_mixed ?_
    refine fw_aload_n h rfl rfl ?_
    refine fw_getR _ h rfl fk_g_X1_21 rfl rfl ?_
    refine fw_iload h rfl rfl ?_
    refine fn_iald h rfl rfl (by omega) rfl ?_
    refine fw_i2l h rfl ?_
    refine fw_s2L h rfl fk_s_X7_mixed fk_l_X1_42 rfl rfl ?_
    refine c_X7_mixed ?_
    refine fw_lstore_n h [_, _, _, _, _, _] rfl rfl rfl rfl ?_
    refine fw_lload_n h rfl rfl ?_
    refine fw_aload_n h rfl rfl ?_
    refine fw_getR _ h rfl fk_g_X1_24 rfl rfl ?_
    refine fw_iload h rfl rfl ?_
    refine fn_iald h rfl rfl (by omega) rfl ?_
    refine fw_i2l h rfl ?_
    refine fw_s2L h rfl fk_s_X7_mixed fk_l_X1_42 rfl rfl ?_
    refine c_X7_mixed ?_
    refine fw_aload_n h rfl rfl ?_
    refine fw_getR _ h rfl fk_g_X1_27 rfl rfl ?_
    refine fw_iload h rfl rfl ?_
    refine fn_iald h rfl rfl (by omega) rfl ?_
    refine fw_i2l h rfl ?_
    refine fw_s2L h rfl fk_s_X7_mixed fk_l_X1_42 rfl rfl ?_
    refine c_X7_mixed ?_
    refine fw_lstore_n h [_, _, _, _, _, _] rfl rfl rfl rfl ?_
    first | refine fn_iinc h [_, _, _, _, _, _] rfl rfl rfl rfl rfl ?_ | refine fw_iinc h 1 [_, _, _, _, _, _] rfl (by decide) rfl rfl rfl rfl ?_
    refine fw_goto h rfl ?_
    exact ih
