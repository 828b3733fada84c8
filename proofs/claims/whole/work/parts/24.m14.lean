def sW (p : List Nat) (w w' : fb_Wd) : Prop := (∀ c, c ≠ 46 → c ≠ 68 → w'.1 c = w.1 c) ∧ (∀ k, k ∉ p → w'.1 46 k = w.1 46 k) ∧ w'.2 = w.2
theorem sW.rf (p : List Nat) (w : fb_Wd) : sW p w w := ⟨fun _ _ _ => rfl, fun _ _ => rfl, rfl⟩
theorem sW.tr {p : List Nat} {a b c : fb_Wd} (h1 : sW p a b) (h2 : sW p b c) : sW p a c := ⟨fun q hq hq2 => (h2.1 q hq hq2).trans (h1.1 q hq hq2), fun k hk => (h2.2.1 k hk).trans (h1.2.1 k hk), h2.2.2.trans h1.2.2⟩
theorem sM.toW {p : List Nat} {a b : fb_Wd} (h : sM p a b) : sW p a b := ⟨fun c hc _ => h.1 c hc, h.2.1, h.2.2⟩
theorem sW.up68 {p : List Nat} {a b : fb_Wd} (h : sW p a b) (k : Nat) (x : Int32) : sW p a (fb_up b 68 k x) := by
  refine ⟨fun c hc h68 => ?_, fun j hj => ?_, h.2.2⟩
  · rw [← h.1 c hc h68]
    funext b2
    simp [fb_up, h68]
  · rw [← h.2.1 j hj]
    simp [fb_up]
theorem sW.mD {p : List Nat} {a b : fb_Wd} (h : sW p a b) (h8 : 8 ∉ p ∧ 14 ∉ p ∧ 27 ∉ p ∧ 38 ∉ p) : mD b = mD a := by
  have hc := h.1
  have hk := h.2.1
  funext i
  match i with
  | 0 | 1 | 2 | 3 | 4 | 5 | 6 | 7 | 8 | 9 | 10 | 11 | 12 | 17 | 18 | 19 | 20 | 21 | 22 => exact hc _ (by decide) (by decide)
  | 13 | 14 | 15 | 16 => exact congrArg fd_c8 (hc _ (by decide) (by decide))
  | 23 =>
    show fd_s4 _ _ _ _ = fd_s4 _ _ _ _
    rw [hk 8 h8.1, hk 14 h8.2.1, hk 27 h8.2.2.1, hk 38 h8.2.2.2]
  | i + 24 => rfl
theorem c_X8_laySets {l : Launch} {w : fb_Wd} {P : fb_Wd → Prop} {d nt nd nx ng m : Nat} (hN : fd_N (mD w) nt nd nx ng) (hT : fd_T (mD w) nt) (hA : fd_A (mD w) nt d m) (hd : d < 12) (hp : ∀ w', sW [23, 24, 25, 26] w w' → (∀ r, r < 2 ^ fp_dbt (w.1 63) d m → w'.1 68 r = fs_sn (mD w) nt nx d m r) → P w') : fb_Can l tX8_laySets [.ref 46, .int (nI d)] w (fb_kV P) := by
  refine fb_intro 2 fk_t_X8_laySets (by decide) rfl (fun X hX h => ?_)
  subst hX
  change fb_AW tX8_laySets X 0 [some (.ref 46), some (.int (nI d)), none, none] [] w
  have h5 : fp_dbt (w.1 63) d m ≤ 5 := hA.2.2.2
  have h32 : 2 ^ fp_dbt (w.1 63) d m ≤ 2 ^ 5 := Nat.pow_le_pow_right (by decide) h5
  refine fw_aload_n h rfl rfl ?_
  refine fw_aload_n h rfl rfl ?_
  refine fw_getR _ h rfl fk_g_X8_44 rfl rfl ?_
  refine fw_iload_n h rfl rfl ?_
  refine fn_ialdF (w.1 57) h rfl rfl (rfl) (by omega) rfl ?_
  refine fw_v1I h rfl fk_v_X8_forceIn fk_l_X8_233 rfl rfl rfl rfl ?_
  refine c_X8_forceIn hN.2.2.1.1 hN.2.2.1.2 ?_
  rw [fs_tn_m hN.2.2.1.2]
  refine fw_istore_n h [_, _, _, _] rfl rfl rfl rfl ?_
  refine fw_iconst h (nI 0) rfl (by decide) ?_
  refine fw_istore_n h [_, _, _, _] rfl rfl rfl rfl ?_
  refine (?_ : ∀ w1, sW [23, 24, 25, 26] w w1 → (∀ r, r < 0 → w1.1 68 r = fs_sn (mD w) nt nx d m r) → fb_AW tX8_laySets X 13 [some (.ref 46), some (.int (nI d)), some (.int (fs_tn (mD w) nx d)), some (.int (nI 0))] [] w1) w (sW.rf _ w) (fun r hr => by omega)
  refine fb_loop (fun i => ∀ w1, sW [23, 24, 25, 26] w w1 → (∀ r, r < i → w1.1 68 r = fs_sn (mD w) nt nx d m r) → fb_AW tX8_laySets X 13 [some (.ref 46), some (.int (nI d)), some (.int (fs_tn (mD w) nx d)), some (.int (nI i))] [] w1) (2 ^ fp_dbt (w.1 63) d m) ?_ (fun i hi ih => ?_) 0 (Nat.zero_le _)
  · intro w1 hs hI
    have eD : mD w1 = mD w := sW.mD hs (by decide)
    have hN1 : fd_N (mD w1) nt nd nx ng := by rw [eD]; exact hN
    have hT1 : fd_T (mD w1) nt := by rw [eD]; exact hT
    have hA1 : fd_A (mD w1) nt d m := by rw [eD]; exact hA
    have hk : fp_dbt (w1.1 63) d m = fp_dbt (w.1 63) d m := by rw [hs.1 63 (by decide) (by decide)]
    refine fw_iload_n h rfl rfl ?_
    refine fw_aload_n h rfl rfl ?_
    refine fw_iload_n h rfl rfl ?_
    refine fw_v1I h rfl fk_v_X8_readings fk_l_X8_176 rfl rfl rfl rfl ?_
    refine c_X8_readings hd hA1.1 hA1.2.1 ?_
    refine fw_icmp_ge h rfl (fun c19 => ?_) (fun c19 => False.elim (c19 (by rw [hk]; exact Int32.le_refl _)))
    exact fw_vret h rfl rfl ⟨rfl, hp w1 hs hI⟩
  · intro w1 hs hI
    have eD : mD w1 = mD w := sW.mD hs (by decide)
    have hN1 : fd_N (mD w1) nt nd nx ng := by rw [eD]; exact hN
    have hT1 : fd_T (mD w1) nt := by rw [eD]; exact hT
    have hA1 : fd_A (mD w1) nt d m := by rw [eD]; exact hA
    have hk : fp_dbt (w1.1 63) d m = fp_dbt (w.1 63) d m := by rw [hs.1 63 (by decide) (by decide)]
    refine fw_iload_n h rfl rfl ?_
    refine fw_aload_n h rfl rfl ?_
    refine fw_iload_n h rfl rfl ?_
    refine fw_v1I h rfl fk_v_X8_readings fk_l_X8_176 rfl rfl rfl rfl ?_
    refine c_X8_readings hd hA1.1 hA1.2.1 ?_
    refine fw_icmp_ge h rfl (fun c19 => False.elim (by rw [hk] at c19; exact nI_ge hi (by omega) c19)) (fun c19 => ?_)
    refine fw_aload_n h rfl rfl ?_
    refine fw_getR _ h rfl fk_g_X8_78 rfl rfl ?_
    refine fw_iload_n h rfl rfl ?_
    refine fw_aload_n h rfl rfl ?_
    refine fw_iload_n h rfl rfl ?_
    refine fw_iload_n h rfl rfl ?_
    refine fw_iload_n h rfl rfl ?_
    refine fw_v3I h rfl fk_v_X8_forfeitOf fk_l_X8_236 rfl rfl rfl rfl ?_
    refine c_X8_forfeitR hN1 hT1 hA1 hd ((fs_tn_in _ _ _).imp id (fun ⟨j, hj, e⟩ => ⟨j, by have := hN.2.2.1.2; omega, e⟩)) (fun w2 hs2 => ?_)
    rw [eD, hs.1 65 (by decide) (by decide), hs.1 66 (by decide) (by decide), hs.1 67 (by decide) (by decide)]
    rw [show fs_fx (mD w) (w.1 65) (w.1 66) (w.1 67) nt d m (nI i) (fs_tn (mD w) nx d) = fs_sn (mD w) nt nx d m i from congrFun (fs_sn_m hN.2.2.1.2) i]
    refine fn_iast h rfl rfl (by omega) rfl ?_
    first | refine fn_iinc h [_, _, _, _] rfl rfl rfl rfl rfl ?_ | refine fw_iinc h 1 [_, _, _, _] rfl (by decide) rfl rfl rfl rfl ?_
    refine fw_goto h rfl ?_
    refine ih _ ((hs.tr hs2.toW).up68 i _) (fun r hr => ?_)
    by_cases e : r = i
    · subst e
      show (if r = r then _ else _) = _
      rw [if_pos rfl]
    · show (if r = i then _ else w2.1 68 r) = _
      rw [if_neg e, hs2.1 68 (by decide)]
      exact hI r (by omega)
def fs_ct (D : Nat → Nat → Int32) (nd : Nat) (rn : Nat) : Nat → Int32
  | 0 => D 23 0
  | 1 => D 23 1
  | 2 => fp_sum (D 8) nd
  | 3 => D 23 2
  | 4 => D 23 3
  | _ => nI rn
def fm_rn (w : fb_Wd) : Nat := fp_cnt (fun r => !decide (w.1 48 r < 0)) 6
theorem c_X8_counts_0 {l : Launch} {w : fb_Wd} {P : Int32 → fb_Wd → Prop} {nd : Nat} (hnd : w.1 46 14 = nI nd) (hn : nd ≤ 12) (hp : P (fs_ct (mD w) nd (fm_rn w) 0) w) : fb_Can l tX8_counts [.ref 46, .int (nI 0)] w (fb_kI P) := by
  refine fb_intro 2 fk_t_X8_counts (by decide) rfl (fun X hX h => ?_)
  subst hX
  change fb_AW tX8_counts X 0 [some (.ref 46), some (.int (nI 0)), none, none] [] w
  refine fw_iconst h (nI 0) rfl (by decide) ?_
  refine fw_istore_n h [_, _, _, _] rfl rfl rfl rfl ?_
  refine fw_iload_n h rfl rfl ?_
  refine fw_swI h (t := 36) rfl (by decide) ?_
  refine fw_aload_n h rfl rfl ?_
  refine fw_getI h rfl fk_g_X8_124 rfl rfl ?_
  exact fw_iret h rfl rfl ⟨_, rfl, hp⟩
theorem c_X8_counts_1 {l : Launch} {w : fb_Wd} {P : Int32 → fb_Wd → Prop} {nd : Nat} (hnd : w.1 46 14 = nI nd) (hn : nd ≤ 12) (hp : P (fs_ct (mD w) nd (fm_rn w) 1) w) : fb_Can l tX8_counts [.ref 46, .int (nI 1)] w (fb_kI P) := by
  refine fb_intro 2 fk_t_X8_counts (by decide) rfl (fun X hX h => ?_)
  subst hX
  change fb_AW tX8_counts X 0 [some (.ref 46), some (.int (nI 1)), none, none] [] w
  refine fw_iconst h (nI 0) rfl (by decide) ?_
  refine fw_istore_n h [_, _, _, _] rfl rfl rfl rfl ?_
  refine fw_iload_n h rfl rfl ?_
  refine fw_swI h (t := 41) rfl (by decide) ?_
  refine fw_aload_n h rfl rfl ?_
  refine fw_getI h rfl fk_g_X8_150 rfl rfl ?_
  exact fw_iret h rfl rfl ⟨_, rfl, hp⟩
theorem c_X8_counts_2 {l : Launch} {w : fb_Wd} {P : Int32 → fb_Wd → Prop} {nd : Nat} (hnd : w.1 46 14 = nI nd) (hn : nd ≤ 12) (hp : P (fs_ct (mD w) nd (fm_rn w) 2) w) : fb_Can l tX8_counts [.ref 46, .int (nI 2)] w (fb_kI P) := by
  refine fb_intro 2 fk_t_X8_counts (by decide) rfl (fun X hX h => ?_)
  subst hX
  change fb_AW tX8_counts X 0 [some (.ref 46), some (.int (nI 2)), none, none] [] w
  refine fw_iconst h (nI 0) rfl (by decide) ?_
  refine fw_istore_n h [_, _, _, _] rfl rfl rfl rfl ?_
  refine fw_iload_n h rfl rfl ?_
  refine fw_swI h (t := 46) rfl (by decide) ?_
  refine fw_iconst h (nI 0) rfl (by decide) ?_
  refine fw_istore_n h [_, _, _, _] rfl rfl rfl rfl ?_
  refine fb_loop (fun i => fb_AW tX8_counts X 48 [some (.ref 46), some (.int (nI 2)), some (.int (fp_sum (w.1 59) i)), some (.int (nI i))] [] w) (nd) ?_ (fun i hi ih => ?_) 0 (Nat.zero_le _)
  · refine fw_iload_n h rfl rfl ?_
    refine fw_aload_n h rfl rfl ?_
    refine fw_getI h rfl fk_g_X8_150 rfl rfl ?_
    refine fw_icmp_ge h rfl (fun c53 => ?_) (fun c53 => False.elim (c53 (by rw [hnd]; exact Int32.le_refl _)))
    refine fw_iload_n h rfl rfl ?_
    exact fw_iret h rfl rfl ⟨_, rfl, hp⟩
  · refine fw_iload_n h rfl rfl ?_
    refine fw_aload_n h rfl rfl ?_
    refine fw_getI h rfl fk_g_X8_150 rfl rfl ?_
    refine fw_icmp_ge h rfl (fun c53 => False.elim (by rw [hnd] at c53; exact nI_ge hi (by omega) c53)) (fun c53 => ?_)
    refine fw_iload_n h rfl rfl ?_
    refine fw_aload_n h rfl rfl ?_
    refine fw_getR _ h rfl fk_g_X8_50 rfl rfl ?_
    refine fw_iload_n h rfl rfl ?_
    refine fn_iald h rfl rfl (by omega) rfl ?_
    first | refine fn_iadd h rfl ?_ | refine fw_iadd h rfl ?_
    refine fw_istore_n h [_, _, _, _] rfl rfl rfl rfl ?_
    first | refine fn_iinc h [_, _, _, _] rfl rfl rfl rfl rfl ?_ | refine fw_iinc h 1 [_, _, _, _] rfl (by decide) rfl rfl rfl rfl ?_
    refine fw_goto h rfl ?_
    exact ih
theorem c_X8_counts_3 {l : Launch} {w : fb_Wd} {P : Int32 → fb_Wd → Prop} {nd : Nat} (hnd : w.1 46 14 = nI nd) (hn : nd ≤ 12) (hp : P (fs_ct (mD w) nd (fm_rn w) 3) w) : fb_Can l tX8_counts [.ref 46, .int (nI 3)] w (fb_kI P) := by
  refine fb_intro 2 fk_t_X8_counts (by decide) rfl (fun X hX h => ?_)
  subst hX
  change fb_AW tX8_counts X 0 [some (.ref 46), some (.int (nI 3)), none, none] [] w
  refine fw_iconst h (nI 0) rfl (by decide) ?_
  refine fw_istore_n h [_, _, _, _] rfl rfl rfl rfl ?_
  refine fw_iload_n h rfl rfl ?_
  refine fw_swI h (t := 73) rfl (by decide) ?_
  refine fw_aload_n h rfl rfl ?_
  refine fw_getI h rfl fk_g_X8_226 rfl rfl ?_
  exact fw_iret h rfl rfl ⟨_, rfl, hp⟩
theorem c_X8_counts_4 {l : Launch} {w : fb_Wd} {P : Int32 → fb_Wd → Prop} {nd : Nat} (hnd : w.1 46 14 = nI nd) (hn : nd ≤ 12) (hp : P (fs_ct (mD w) nd (fm_rn w) 4) w) : fb_Can l tX8_counts [.ref 46, .int (nI 4)] w (fb_kI P) := by
  refine fb_intro 2 fk_t_X8_counts (by decide) rfl (fun X hX h => ?_)
  subst hX
  change fb_AW tX8_counts X 0 [some (.ref 46), some (.int (nI 4)), none, none] [] w
  refine fw_iconst h (nI 0) rfl (by decide) ?_
  refine fw_istore_n h [_, _, _, _] rfl rfl rfl rfl ?_
  refine fw_iload_n h rfl rfl ?_
  refine fw_swI h (t := 78) rfl (by decide) ?_
  refine fw_aload_n h rfl rfl ?_
  refine fw_getI h rfl fk_g_X8_284 rfl rfl ?_
  exact fw_iret h rfl rfl ⟨_, rfl, hp⟩
theorem c_X8_counts_5 {l : Launch} {w : fb_Wd} {P : Int32 → fb_Wd → Prop} {nd : Nat} (hnd : w.1 46 14 = nI nd) (hn : nd ≤ 12) (hp : P (fs_ct (mD w) nd (fm_rn w) 5) w) : fb_Can l tX8_counts [.ref 46, .int (nI 5)] w (fb_kI P) := by
  refine fb_intro 2 fk_t_X8_counts (by decide) rfl (fun X hX h => ?_)
  subst hX
  change fb_AW tX8_counts X 0 [some (.ref 46), some (.int (nI 5)), none, none] [] w
  refine fw_iconst h (nI 0) rfl (by decide) ?_
  refine fw_istore_n h [_, _, _, _] rfl rfl rfl rfl ?_
  refine fw_iload_n h rfl rfl ?_
  refine fw_swO h rfl (by decide) ?_
  refine fw_iconst h (nI 0) rfl (by decide) ?_
  refine fw_istore_n h [_, _, _, _] rfl rfl rfl rfl ?_
  refine fb_loop (fun i => fb_AW tX8_counts X 85 [some (.ref 46), some (.int (nI 5)), some (.int (nI (fp_cnt (fun r => !decide (w.1 48 r < 0)) i))), some (.int (nI i))] [] w) (6) ?_ (fun i hi ih => ?_) 0 (Nat.zero_le _)
  · refine fw_iload_n h rfl rfl ?_
    refine fw_bipush h (nI 6) rfl (by decide) ?_
    refine fw_icmp_ge h rfl (fun c88 => ?_) (fun c88 => False.elim (c88 (by decide)))
    refine fw_iload_n h rfl rfl ?_
    exact fw_iret h rfl rfl ⟨_, rfl, hp⟩
  · refine fw_iload_n h rfl rfl ?_
    refine fw_bipush h (nI 6) rfl (by decide) ?_
    refine fw_icmp_ge h rfl (fun c88 => False.elim (nI_ge hi (by decide) c88)) (fun c88 => ?_)
    refine fw_iload_n h rfl rfl ?_
    refine fw_aload_n h rfl rfl ?_
    refine fw_getR _ h rfl fk_g_X8_17 rfl rfl ?_
    refine fw_iload_n h rfl rfl ?_
    refine fn_iald h rfl rfl (by omega) rfl ?_
    refine fw_if_lt h rfl (fun c98 => ?_) (fun c98 => ?_)
    · have en := fp_cnt_0 (p := fun r => !decide (w.1 48 r < 0)) (n := i) (by simp only [decide_eq_true c98, Bool.not_true])
      refine fw_iconst h (nI 0) rfl (by decide) ?_
      first | refine fn_iadd h rfl ?_ | refine fw_iadd h rfl ?_
      refine fw_istore_n h [_, _, _, _] rfl rfl rfl rfl ?_
      first | refine fn_iinc h [_, _, _, _] rfl rfl rfl rfl rfl ?_ | refine fw_iinc h 1 [_, _, _, _] rfl (by decide) rfl rfl rfl rfl ?_
      refine fw_goto h rfl ?_
      rw [en] at ih
      exact ih
    · have en := fp_cnt_1 (p := fun r => !decide (w.1 48 r < 0)) (n := i) (by simp only [decide_eq_false c98, Bool.not_false])
      refine fw_iconst h (nI 1) rfl (by decide) ?_
      refine fw_goto h rfl ?_
      first | refine fn_iadd h rfl ?_ | refine fw_iadd h rfl ?_
      refine fw_istore_n h [_, _, _, _] rfl rfl rfl rfl ?_
      first | refine fn_iinc h [_, _, _, _] rfl rfl rfl rfl rfl ?_ | refine fw_iinc h 1 [_, _, _, _] rfl (by decide) rfl rfl rfl rfl ?_
      refine fw_goto h rfl ?_
      rw [en] at ih
      exact ih
theorem c_X8_counts {l : Launch} {w : fb_Wd} {P : Int32 → fb_Wd → Prop} {nd : Nat} (hnd : w.1 46 14 = nI nd) (hn : nd ≤ 12) {q : Nat} (hq : q ≤ 5) (hp : P (fs_ct (mD w) nd (fm_rn w) q) w) : fb_Can l tX8_counts [.ref 46, .int (nI q)] w (fb_kI P) := by
  rcases (show q = 0 ∨ q = 1 ∨ q = 2 ∨ q = 3 ∨ q = 4 ∨ q = 5 by omega) with rfl | rfl | rfl | rfl | rfl | rfl
  · exact c_X8_counts_0 hnd hn hp
  · exact c_X8_counts_1 hnd hn hp
  · exact c_X8_counts_2 hnd hn hp
  · exact c_X8_counts_3 hnd hn hp
  · exact c_X8_counts_4 hnd hn hp
  · exact c_X8_counts_5 hnd hn hp
