def fr_Z (w : fb_Wd) : Prop := ∀ r, r < 6 → (w.1 10 r = -1 ∧ w.1 48 r = -9) ∨ ∃ n, n ≤ 40 ∧ w.1 10 r = nI n ∧ w.1 48 r = nI n ∧ ∀ k, k < n → w.1 49 (40 * r + k) = w.1 11 (40 * r + k)
def fR1 (w : fb_Wd) (nt nd nx ng : Nat) (rk : Nat → Nat) : Prop := XI w nt nd nx ng ∧ fd_X (xD w) nx ∧ fd_G (xD w) ng ∧ mD w = xD w ∧ fr_Z w ∧ fo_rk (xD w 4) nt rk ∧ (w.1 46 2 = w.1 0 10 ∧ w.1 46 0 = w.1 0 9 ∧ w.1 47 = w.1 9) ∧ (w.2 46 3 = w.2 0 11 ∧ w.2 46 4 = w.2 0 12)
def fR (w : fb_Wd) : Prop := ∃ nt nd nx ng rk, fR1 w nt nd nx ng rk
theorem fR1.R {w : fb_Wd} {nt nd nx ng : Nat} {rk : Nat → Nat} (h : fR1 w nt nd nx ng rk) : fR w := ⟨nt, nd, nx, ng, rk, h⟩
theorem mD_c {w w1 : fb_Wd} (h : ∀ c, 46 ≤ c → w1.1 c = w.1 c) : mD w1 = mD w := by
  funext i
  match i with
  | 0 | 1 | 2 | 3 | 4 | 5 | 6 | 7 | 8 | 9 | 10 | 11 | 12 | 17 | 18 | 19 | 20 | 21 | 22 => exact h _ (by decide)
  | 13 | 14 | 15 | 16 => exact congrArg fd_c8 (h _ (by decide))
  | 23 =>
    show fd_s4 _ _ _ _ = fd_s4 _ _ _ _
    rw [h 46 (by decide)]
  | i + 24 => rfl
theorem xD_c {w w1 : fb_Wd} (h : ∀ c, 2 ≤ c → c ≤ 40 → (c ≠ 6 ∧ c ≠ 7 ∧ c ≠ 8 ∧ c ≠ 9) → w1.1 c = w.1 c) : xD w1 = xD w := by
  funext i
  match i with
  | 0 | 1 | 2 | 3 | 4 | 5 | 6 | 7 | 8 | 9 | 10 | 11 | 12 | 17 | 18 | 19 | 20 | 21 | 22 => exact h _ (by decide) (by decide) (by decide)
  | 13 | 14 | 15 | 16 => exact congrArg fd_c8 (h _ (by decide) (by decide) (by decide))
  | 23 =>
    show fd_s4 _ _ _ _ = fd_s4 _ _ _ _
    rw [h 2 (by decide) (by decide) (by decide), h 3 (by decide) (by decide) (by decide), h 4 (by decide) (by decide) (by decide), h 5 (by decide) (by decide) (by decide)]
  | i + 24 => rfl
theorem fR1.m {w w1 : fb_Wd} {nt nd nx ng : Nat} {rk : Nat → Nat} (h : fR1 w nt nd nx ng rk) (hc : ∀ c, 46 ≤ c → w1.1 c = w.1 c) : mD w1 = xD w ∧ fd_N (mD w1) nt nd nx ng ∧ fd_T (mD w1) nt ∧ ∀ d, d < nd → fd_A (mD w1) nt d (fd_m (mD w1) d) := by
  have e : mD w1 = xD w := (mD_c hc).trans h.2.2.2.1
  refine ⟨e, ?_⟩
  rw [e]
  exact ⟨h.1.1, h.1.2.1, h.1.2.2.1⟩
theorem XI_c {w w1 : fb_Wd} {nt nd nx ng : Nat} (hc : ∀ c, c < 41 → (c ≠ 0 ∧ c ≠ 6 ∧ c ≠ 7 ∧ c ≠ 8 ∧ c ≠ 9) → w1.1 c = w.1 c) (hX : XI w nt nd nx ng) : XI w1 nt nd nx ng := by
  unfold XI xT xC at hX ⊢
  rw [xD_c (w := w) (w1 := w1) (fun c h1 h2 h3 => hc c (by omega) (by omega)), hc 17 (by decide) (by decide), hc 15 (by decide) (by decide), hc 18 (by decide) (by decide), hc 19 (by decide) (by decide), hc 14 (by decide) (by decide), hc 20 (by decide) (by decide), hc 21 (by decide) (by decide), hc 16 (by decide) (by decide), hc 2 (by decide) (by decide), hc 12 (by decide) (by decide), hc 25 (by decide) (by decide), hc 26 (by decide) (by decide), hc 30 (by decide) (by decide)]
  exact hX
theorem fR_end {w w2 : fb_Wd} {nt nd nx ng : Nat} {rk : Nat → Nat} (h : fR1 w nt nd nx ng rk) (hc : ∀ c, c < 41 → (c ≠ 0 ∧ c ≠ 6 ∧ c ≠ 7 ∧ c ≠ 8 ∧ c ≠ 9) → w2.1 c = w.1 c) (hm : mD w2 = mD w) (h48 : w2.1 48 = w.1 48) (h49 : w2.1 49 = w.1 49) (ht : w2.1 46 2 = w2.1 0 10 ∧ w2.1 46 0 = w2.1 0 9 ∧ w2.1 47 = w2.1 9) (hl : w2.2 46 3 = w2.2 0 11 ∧ w2.2 46 4 = w2.2 0 12) : fR w2 := by
  have eD : xD w2 = xD w := xD_c (fun c h1 h2 h3 => hc c (by omega) (by omega))
  refine ⟨nt, nd, nx, ng, rk, XI_c hc h.1, by rw [eD]; exact h.2.1, by rw [eD]; exact h.2.2.1, by rw [hm, eD]; exact h.2.2.2.1, ?_, by rw [eD]; exact h.2.2.2.2.2.1, ht, hl⟩
  unfold fr_Z
  rw [h48, h49, hc 10 (by decide) (by decide), hc 11 (by decide) (by decide)]
  exact h.2.2.2.2.1
theorem xSL.c46 {p : List Nat} {w w1 : fb_Wd} (h : xSL p w w1) (hp : ∀ k ∈ p, k < 46) : ∀ c, 46 ≤ c → w1.1 c = w.1 c := fun c hc => h.1 c (fun z => by have := hp c z; omega)
theorem c46_up {w w1 : fb_Wd} (h : ∀ c, 46 ≤ c → w1.1 c = w.1 c) {a : Nat} (k : Nat) (x : Int32) (ha : a < 46) : ∀ c, 46 ≤ c → (fb_up w1 a k x).1 c = w.1 c := fun c hc => (fb_up_ne w1 k x (by omega)).trans (h c hc)
theorem fR_q {w w1 w2 : fb_Wd} {nt nd nx ng : Nat} {rk : Nat → Nat} (h : fR1 w nt nd nx ng rk) (hs : xSL [6, 7, 8, 41, 42, 43, 44, 45] w w1) (hx : sX w1 w2) : fR w2 := by
  have e0 : w1.1 0 = w.1 0 := hs.1 0 (by decide)
  have e46 : w1.1 46 = w.1 46 := hs.1 46 (by decide)
  have f0 : w2.1 0 = w.1 0 := (hx.2.1 0 (by decide)).trans e0
  refine fR_end h (fun c h1 h2 => (hx.2.1 c (by omega)).trans (hs.1 c (fun z => by simp at z; omega))) (hx.1.trans (mD_c (hs.c46 (by decide)))) ((hx.2.1 48 (by decide)).trans (hs.1 48 (by decide))) ((hx.2.1 49 (by decide)).trans (hs.1 49 (by decide))) ⟨?_, ?_, ?_⟩ ⟨?_, ?_⟩
  · rw [hx.2.2.1.2, f0, e46]; exact h.2.2.2.2.2.2.1.1
  · rw [hx.2.2.1.1, f0, e46]; exact h.2.2.2.2.2.2.1.2.1
  · rw [hx.2.1 47 (by decide), hs.1 47 (by decide), hx.2.1 9 (by decide), hs.1 9 (by decide)]; exact h.2.2.2.2.2.2.1.2.2
  · rw [hx.2.2.2 46 3 (by decide), hx.2.2.2 0 11 (by decide), hs.2]; exact h.2.2.2.2.2.2.2.1
  · rw [hx.2.2.2 46 4 (by decide), hx.2.2.2 0 12 (by decide), hs.2]; exact h.2.2.2.2.2.2.2.2
theorem fR_ask {w w1 w2 : fb_Wd} {nt nd nx ng : Nat} {rk : Nat → Nat} {v v2 : Int32} (h : fR1 w nt nd nx ng rk) (hs : xSL [6, 7, 8, 41, 42, 43, 44, 45] w w1) (hx : sX (fb_up w1 0 10 v) w2) (e : v2 = v) : fR (fb_up w2 46 2 v2) := by
  subst e
  have hcc : ∀ c, ¬ c = 46 → (fb_up w2 46 2 v2).1 c = w2.1 c := fun c hc => fb_up_ne _ _ _ hc
  have hc0 : ∀ c, ¬ c = 0 → (fb_up w1 0 10 v2).1 c = w1.1 c := fun c hc => fb_up_ne _ _ _ hc
  refine fR_end h (fun c h1 h2 => (hcc c (by omega)).trans ((hx.2.1 c (by omega)).trans ((hc0 c (by omega)).trans (hs.1 c (fun z => by simp at z; omega))))) ((mD_up0 w2 2 v2 (by decide)).trans (hx.1.trans (mD_c (c46_up (hs.c46 (by decide)) 10 v2 (by decide))))) ((hcc 48 (by decide)).trans ((hx.2.1 48 (by decide)).trans ((hc0 48 (by decide)).trans (hs.1 48 (by decide))))) ((hcc 49 (by decide)).trans ((hx.2.1 49 (by decide)).trans ((hc0 49 (by decide)).trans (hs.1 49 (by decide))))) ⟨?_, ?_, ?_⟩ ⟨?_, ?_⟩
  · rw [hcc 0 (by decide), hx.2.1 0 (by decide)]; simp [fb_up]
  · rw [hcc 0 (by decide), hx.2.1 0 (by decide), fb_up_nk w2 v2 (show ¬ 0 = 2 by decide), hx.2.2.1.1, hc0 46 (by decide), hs.1 46 (by decide), fb_up_nk w1 v2 (show ¬ 9 = 10 by decide), hs.1 0 (by decide)]
    exact h.2.2.2.2.2.2.1.2.1
  · rw [hcc 47 (by decide), hcc 9 (by decide), hx.2.1 47 (by decide), hc0 47 (by decide), hs.1 47 (by decide), hx.2.1 9 (by decide), hc0 9 (by decide), hs.1 9 (by decide)]; exact h.2.2.2.2.2.2.1.2.2
  · show w2.2 46 3 = w2.2 0 11
    rw [hx.2.2.2 46 3 (by decide), hx.2.2.2 0 11 (by decide)]
    show w1.2 46 3 = w1.2 0 11
    rw [hs.2]; exact h.2.2.2.2.2.2.2.1
  · show w2.2 46 4 = w2.2 0 12
    rw [hx.2.2.2 46 4 (by decide), hx.2.2.2 0 12 (by decide)]
    show w1.2 46 4 = w1.2 0 12
    rw [hs.2]; exact h.2.2.2.2.2.2.2.2
theorem fR_met {w w1 w2 : fb_Wd} {nt nd nx ng : Nat} {rk : Nat → Nat} {k : Nat} (h : fR1 w nt nd nx ng rk) (hs : xSL [6, 7, 8, 41, 42, 43, 44, 45] w w1) (hx : sX (fb_up (fb_up w1 0 9 (nI k)) 9 k (w1.1 9 k + 1)) w2) : fR (fb_up (fb_up w2 46 0 (nI k)) 47 k (w2.1 47 k + 1)) := by
  have hcc : ∀ c, ¬ c = 46 → ¬ c = 47 → (fb_up (fb_up w2 46 0 (nI k)) 47 k (w2.1 47 k + 1)).1 c = w2.1 c := fun c h1 h2 => (fb_up_ne _ _ _ h2).trans (fb_up_ne _ _ _ h1)
  have hc0 : ∀ c, ¬ c = 0 → ¬ c = 9 → (fb_up (fb_up w1 0 9 (nI k)) 9 k (w1.1 9 k + 1)).1 c = w1.1 c := fun c h1 h2 => (fb_up_ne _ _ _ h2).trans (fb_up_ne _ _ _ h1)
  have e47 : w2.1 47 = w.1 9 := by rw [hx.2.1 47 (by decide), hc0 47 (by decide) (by decide), hs.1 47 (by decide)]; exact h.2.2.2.2.2.2.1.2.2
  have e9 : w1.1 9 = w.1 9 := hs.1 9 (by decide)
  refine fR_end h (fun c h1 h2 => (hcc c (by omega) (by omega)).trans ((hx.2.1 c (by omega)).trans ((hc0 c (by omega) (by omega)).trans (hs.1 c (fun z => by simp at z; omega))))) ((mD_up47 _ _ _).trans ((mD_up0 w2 0 (nI k) (by decide)).trans (hx.1.trans (mD_c (c46_up (c46_up (hs.c46 (by decide)) 9 _ (by decide)) k _ (by decide)))))) ((hcc 48 (by decide) (by decide)).trans ((hx.2.1 48 (by decide)).trans ((hc0 48 (by decide) (by decide)).trans (hs.1 48 (by decide))))) ((hcc 49 (by decide) (by decide)).trans ((hx.2.1 49 (by decide)).trans ((hc0 49 (by decide) (by decide)).trans (hs.1 49 (by decide))))) ⟨?_, ?_, ?_⟩ ⟨?_, ?_⟩
  · rw [hcc 0 (by decide) (by decide), hx.2.1 0 (by decide), fb_up_ne (fb_up w1 0 9 (nI k)) k _ (show ¬ 0 = 9 by decide), fb_up_nk w1 _ (show ¬ 10 = 9 by decide), hs.1 0 (by decide), fb_up_ne (fb_up w2 46 0 (nI k)) k _ (show ¬ 46 = 47 by decide), fb_up_nk w2 _ (show ¬ 2 = 0 by decide), hx.2.2.1.2, hc0 46 (by decide) (by decide), hs.1 46 (by decide)]
    exact h.2.2.2.2.2.2.1.1
  · rw [hcc 0 (by decide) (by decide), hx.2.1 0 (by decide)]
    simp [fb_up]
  · rw [hcc 9 (by decide) (by decide), hx.2.1 9 (by decide), fb_up_eq, fb_up_eq, fb_up_ne w2 0 _ (show ¬ 47 = 46 by decide), e47, fb_up_ne w1 9 _ (show ¬ 9 = 0 by decide), e9]
  · show w2.2 46 3 = w2.2 0 11
    rw [hx.2.2.2 46 3 (by decide), hx.2.2.2 0 11 (by decide)]
    show w1.2 46 3 = w1.2 0 11
    rw [hs.2]; exact h.2.2.2.2.2.2.2.1
  · show w2.2 46 4 = w2.2 0 12
    rw [hx.2.2.2 46 4 (by decide), hx.2.2.2 0 12 (by decide)]
    show w1.2 46 4 = w1.2 0 12
    rw [hs.2]; exact h.2.2.2.2.2.2.2.2
theorem fx_rg {n : Nat} {x : Int32} (hn : n < 2 ^ 30) : (∃ q, q < n + 1 ∧ x = nI q) ↔ (0 ≤ x ∧ x ≤ nI n) := by
  constructor
  · rintro ⟨q, hq, rfl⟩
    exact ⟨nI_pos' (by omega), nI_le (by omega) (by omega)⟩
  · rintro ⟨h1, h2⟩
    obtain ⟨j, hj, e⟩ := nI_ofle h1 h2 (by omega)
    exact ⟨j, by omega, e⟩
theorem fx_inj {a b : Nat} {x : Int32} (h1 : x = nI a) (h2 : x = nI b) (ha : a < 2 ^ 31) (hb : b < 2 ^ 31) : b = a := ((nI_eq hb ha).mp (h2.symm.trans h1))
def fPair (l : Launch) (T1 T2 : fb_T) (av : List Value) (w : fb_Wd) : Prop := fb_Can l T1 (.ref 0 :: av) w (fb_kI (fun x w1 => fb_Can l T2 (.ref 46 :: av) w1 (fb_kI (fun y w2 => x = y ∧ fR w2))))
def fPairL (l : Launch) (T1 T2 : fb_T) (av : List Value) (w : fb_Wd) : Prop := fb_Can l T1 (.ref 0 :: av) w (fb_kL (fun x w1 => fb_Can l T2 (.ref 46 :: av) w1 (fb_kL (fun y w2 => x = y ∧ fR w2))))
theorem xS0 (w : fb_Wd) : xSL [6, 7, 8, 41, 42, 43, 44, 45] w w := xSL.rf _ w
theorem c0 (w : fb_Wd) : ∀ c, 46 ≤ c → w.1 c = w.1 c := fun _ _ => rfl
theorem c_X8_meanS {l : Launch} {w : fb_Wd} {P : Int32 → fb_Wd → Prop} {nt nd nx ng : Nat} (hN : fd_N (mD w) nt nd nx ng) (hT : fd_T (mD w) nt) (hAA : ∀ d, d < nd → fd_A (mD w) nt d (fd_m (mD w) d)) {so : Int32} (hb : ¬ (0 ≤ so ∧ so ≤ 9) → P (-1) w) (h0 : (0 ≤ so ∧ so ≤ 9) → fp_cnt (fun t => decide (mD w 1 t = so)) nt = 0 → P (-3) (fb_up (fb_up w 46 0 (nI 4)) 47 4 (w.1 47 4 + 1))) (hg : (0 ≤ so ∧ so ≤ 9) → ¬ fp_cnt (fun t => decide (mD w 1 t = so)) nt = 0 → P 1 (fb_up w 46 2 (fp_sum (fun t => if mD w 1 t = so then mD w 2 t else nI 0) nt / nI (fp_cnt (fun t => decide (mD w 1 t = so)) nt)))) : fb_Can l tX8_mean [.ref 46, .int so] w (fb_kI P) := by
  refine fb_intro 3 fk_t_X8_mean (by decide) rfl (fun X hX h => ?_)
  subst hX
  change fb_AW tX8_mean X 0 [some (.ref 46), some (.int so), none, none, none] [] w
  refine fw_iload_n h rfl rfl ?_
  refine fw_s1I h rfl fk_s_X8_isSort fk_l_X8_127 rfl rfl ?_
  refine c_X8_isSort (fun c1a c1b => ?_) (fun c1 => ?_)
  · refine fw_if_ne h rfl (fun _ => ?_) (fun c => absurd c (by decide))
    have hnt := hN.1.2
    have hcl := fp_cnt_le (fun t => decide (mD w 1 t = so)) nt
    refine fw_iconst h (nI 0) rfl (by decide) ?_
    refine fw_istore_n h [_, _, _, _, _] rfl rfl rfl rfl ?_
    refine fw_iconst h (nI 0) rfl (by decide) ?_
    refine fw_istore_n h [_, _, _, _, _] rfl rfl rfl rfl ?_
    refine fw_iconst h (nI 0) rfl (by decide) ?_
    refine fw_istore h [_, _, _, _, _] rfl rfl rfl rfl ?_
    refine fb_loop (fun i => fb_AW tX8_mean X 16 [some (.ref 46), some (.int so), some (.int (nI (fp_cnt (fun t => decide (mD w 1 t = so)) i))), some (.int (fp_sum (fun t => if mD w 1 t = so then mD w 2 t else nI 0) i)), some (.int (nI i))] [] w) (nt) ?_ (fun i hi ih => ?_) 0 (Nat.zero_le _)
    · refine fw_iload h rfl rfl ?_
      refine fw_aload_n h rfl rfl ?_
      refine fw_getI h rfl fk_g_X8_124 rfl rfl ?_
      refine fw_icmp_ge h rfl (fun c22 => ?_) (fun c22 => False.elim (c22 (by rw [show w.1 46 8 = nI nt from hN.1.1]; exact Int32.le_refl _)))
      refine fw_iload_n h rfl rfl ?_
      refine fw_if_ne h rfl (fun c76 => ?_) (fun c76 => ?_)
      · refine fw_aload_n h rfl rfl ?_
        refine fw_iload_n h rfl rfl ?_
        refine fw_iload_n h rfl rfl ?_
        refine fw_idiv h rfl (c76) ?_
        refine fw_iconst h (nI 1) rfl (by decide) ?_
        refine fw_v2I h rfl fk_v_X8_ask fk_l_X8_147 rfl rfl rfl rfl ?_
        refine c_X8_ask ?_
        exact fw_iret h rfl rfl ⟨_, rfl, hg ⟨c1a, c1b⟩ (fun z => c76 (by rw [z]; rfl))⟩
      · refine fw_aload_n h rfl rfl ?_
        refine fw_iconst h (nI 4) rfl (by decide) ?_
        refine fw_v1I h rfl fk_v_X8_meets fk_l_X8_117 rfl rfl rfl rfl ?_
        refine c_X8_meets (by decide) ?_
        refine fw_goto h rfl ?_
        exact fw_iret h rfl rfl ⟨_, rfl, h0 ⟨c1a, c1b⟩ ((nI_eq (b := 0) (by omega) (by decide)).mp c76)⟩
    · refine fw_iload h rfl rfl ?_
      refine fw_aload_n h rfl rfl ?_
      refine fw_getIv (w.1 46 8) h rfl fk_g_X8_124 rfl rfl (rfl) ?_
      refine fw_icmp_ge h rfl (fun c22 => False.elim (nI_ge hi (by omega) (by rw [← show w.1 46 8 = nI nt from hN.1.1]; exact c22))) (fun c22 => ?_)
      refine fw_iload_n h rfl rfl ?_
      refine fw_aload_n h rfl rfl ?_
      refine fw_getR _ h rfl fk_g_X8_29 rfl rfl ?_
      refine fw_iload h rfl rfl ?_
      refine fn_ialdF (w.1 52) h rfl rfl (rfl) (by omega) rfl ?_
      refine fw_iload_n h rfl rfl ?_
      refine fw_icmp_ne h rfl (fun c34 => ?_) (fun c34 => ?_)
      · have en : fp_cnt (fun t => decide (mD w 1 t = so)) (i + 1) = fp_cnt (fun t => decide (mD w 1 t = so)) i + 0 := fp_cnt_0 (decide_eq_false c34)
        refine fw_iconst h (nI 0) rfl (by decide) ?_
        first | refine fn_iadd h rfl ?_ | refine fw_iadd h rfl ?_
        refine fw_istore_n h [_, _, _, _, _] rfl rfl rfl rfl ?_
        refine fw_iload_n h rfl rfl ?_
        refine fw_aload_n h rfl rfl ?_
        refine fw_getR _ h rfl fk_g_X8_29 rfl rfl ?_
        refine fw_iload h rfl rfl ?_
        refine fn_ialdF (w.1 52) h rfl rfl (rfl) (by omega) rfl ?_
        refine fw_iload_n h rfl rfl ?_
        refine fw_icmp_ne h rfl (fun c53 => ?_) (fun c53 => ?_)
        · have es : fp_sum (fun t => if mD w 1 t = so then mD w 2 t else nI 0) (i + 1) = fp_sum (fun t => if mD w 1 t = so then mD w 2 t else nI 0) i + nI 0 := fp_sum_s (if_neg c53)
          refine fw_iconst h (nI 0) rfl (by decide) ?_
          first | refine fn_iadd h rfl ?_ | refine fw_iadd h rfl ?_
          refine fw_istore_n h [_, _, _, _, _] rfl rfl rfl rfl ?_
          first | refine fn_iinc h [_, _, _, _, _] rfl rfl rfl rfl rfl ?_ | refine fw_iinc h 1 [_, _, _, _, _] rfl (by decide) rfl rfl rfl rfl ?_
          refine fw_goto h rfl ?_
          rw [en, es] at ih
          exact ih
        · have es : fp_sum (fun t => if mD w 1 t = so then mD w 2 t else nI 0) (i + 1) = fp_sum (fun t => if mD w 1 t = so then mD w 2 t else nI 0) i + w.1 53 i := fp_sum_s (if_pos c53)
          refine fw_aload_n h rfl rfl ?_
          refine fw_getR _ h rfl fk_g_X8_32 rfl rfl ?_
          refine fw_iload h rfl rfl ?_
          refine fn_ialdF (w.1 53) h rfl rfl (rfl) (by omega) rfl ?_
          refine fw_goto h rfl ?_
          first | refine fn_iadd h rfl ?_ | refine fw_iadd h rfl ?_
          refine fw_istore_n h [_, _, _, _, _] rfl rfl rfl rfl ?_
          first | refine fn_iinc h [_, _, _, _, _] rfl rfl rfl rfl rfl ?_ | refine fw_iinc h 1 [_, _, _, _, _] rfl (by decide) rfl rfl rfl rfl ?_
          refine fw_goto h rfl ?_
          rw [en, es] at ih
          exact ih
      · have en : fp_cnt (fun t => decide (mD w 1 t = so)) (i + 1) = fp_cnt (fun t => decide (mD w 1 t = so)) i + 1 := fp_cnt_1 (decide_eq_true c34)
        refine fw_iconst h (nI 1) rfl (by decide) ?_
        refine fw_goto h rfl ?_
        first | refine fn_iadd h rfl ?_ | refine fw_iadd h rfl ?_
        refine fw_istore_n h [_, _, _, _, _] rfl rfl rfl rfl ?_
        refine fw_iload_n h rfl rfl ?_
        refine fw_aload_n h rfl rfl ?_
        refine fw_getR _ h rfl fk_g_X8_29 rfl rfl ?_
        refine fw_iload h rfl rfl ?_
        refine fn_ialdF (w.1 52) h rfl rfl (rfl) (by omega) rfl ?_
        refine fw_iload_n h rfl rfl ?_
        refine fw_icmp_ne h rfl (fun c53 => ?_) (fun c53 => ?_)
        · have es : fp_sum (fun t => if mD w 1 t = so then mD w 2 t else nI 0) (i + 1) = fp_sum (fun t => if mD w 1 t = so then mD w 2 t else nI 0) i + nI 0 := fp_sum_s (if_neg c53)
          refine fw_iconst h (nI 0) rfl (by decide) ?_
          first | refine fn_iadd h rfl ?_ | refine fw_iadd h rfl ?_
          refine fw_istore_n h [_, _, _, _, _] rfl rfl rfl rfl ?_
          first | refine fn_iinc h [_, _, _, _, _] rfl rfl rfl rfl rfl ?_ | refine fw_iinc h 1 [_, _, _, _, _] rfl (by decide) rfl rfl rfl rfl ?_
          refine fw_goto h rfl ?_
          rw [en, es] at ih
          exact ih
        · have es : fp_sum (fun t => if mD w 1 t = so then mD w 2 t else nI 0) (i + 1) = fp_sum (fun t => if mD w 1 t = so then mD w 2 t else nI 0) i + w.1 53 i := fp_sum_s (if_pos c53)
          refine fw_aload_n h rfl rfl ?_
          refine fw_getR _ h rfl fk_g_X8_32 rfl rfl ?_
          refine fw_iload h rfl rfl ?_
          refine fn_ialdF (w.1 53) h rfl rfl (rfl) (by omega) rfl ?_
          refine fw_goto h rfl ?_
          first | refine fn_iadd h rfl ?_ | refine fw_iadd h rfl ?_
          refine fw_istore_n h [_, _, _, _, _] rfl rfl rfl rfl ?_
          first | refine fn_iinc h [_, _, _, _, _] rfl rfl rfl rfl rfl ?_ | refine fw_iinc h 1 [_, _, _, _, _] rfl (by decide) rfl rfl rfl rfl ?_
          refine fw_goto h rfl ?_
          rw [en, es] at ih
          exact ih
  · refine fw_if_ne h rfl (fun c => absurd c (by decide)) (fun _ => ?_)
    refine fw_iconst h (-1) rfl (by decide) ?_
    exact fw_iret h rfl rfl ⟨_, rfl, hb c1⟩
theorem r_told {l : Launch} {w : fb_Wd} (h : fR w) {t q : Int32} : fPair l tX7_told tX8_told [.int t, .int q] w := by
  obtain ⟨nt, nd, nx, ng, rk, h⟩ := h
  have hX := h.1
  have hx := h.2.1
  have hnt := hX.1.1.2
  have hnd := hX.1.2.1.2
  have hnx := hX.1.2.2.1.2
  have hng := hX.1.2.2.2.2
  refine c_X7_told hX (fun hb => ?_) (fun j k hj ej hk ek => ?_)
  · have m := h.m (c0 w)
    refine c_X8_told m.2.1 m.2.2.1 m.2.2.2 (fun _ => ⟨rfl, h.R⟩) (fun j k hj ej hk ek => absurd ⟨⟨j, hj, ej⟩, (fx_rg (n := 6) (by decide)).mp ⟨k, by omega, ek⟩⟩ hb)
  · have m := fun v => h.m (c46_up (a := 0) (xSL.c46 (xS0 w) (by decide)) 10 v (by decide))
    refine c_X8_told (m _).2.1 (m _).2.2.1 (m _).2.2.2 (fun hb => absurd ⟨⟨j, hj, ej⟩, (fx_rg (n := 6) (by decide)).mp ⟨k, by omega, ek⟩⟩ hb) (fun j2 k2 hj2 ej2 hk2 ek2 => ?_)
    obtain rfl := fx_inj ej ej2 (by omega) (by omega)
    obtain rfl := fx_inj ek ek2 (by omega) (by omega)
    exact ⟨rfl, fR_ask h (xS0 w) (sX.rf _) (by rw [(m _).1])⟩
theorem r_deathTold {l : Launch} {w : fb_Wd} (h : fR w) {d q : Int32} : fPair l tX7_deathTold tX8_deathTold [.int d, .int q] w := by
  obtain ⟨nt, nd, nx, ng, rk, h⟩ := h
  have hX := h.1
  have hx := h.2.1
  have hnt := hX.1.1.2
  have hnd := hX.1.2.1.2
  have hnx := hX.1.2.2.1.2
  have hng := hX.1.2.2.2.2
  refine c_X7_deathTold hX (fun hb => ?_) (fun j k hj ej hk ek => ?_)
  · have m := h.m (c0 w)
    refine c_X8_deathTold m.2.1 m.2.2.1 m.2.2.2 (fun _ => ⟨rfl, h.R⟩) (fun j k hj ej hk ek => absurd ⟨⟨j, hj, ej⟩, (fx_rg (n := 5) (by decide)).mp ⟨k, by omega, ek⟩⟩ hb)
  · have m := fun v => h.m (c46_up (a := 0) (xSL.c46 (xS0 w) (by decide)) 10 v (by decide))
    refine c_X8_deathTold (m _).2.1 (m _).2.2.1 (m _).2.2.2 (fun hb => absurd ⟨⟨j, hj, ej⟩, (fx_rg (n := 5) (by decide)).mp ⟨k, by omega, ek⟩⟩ hb) (fun j2 k2 hj2 ej2 hk2 ek2 => ?_)
    obtain rfl := fx_inj ej ej2 (by omega) (by omega)
    obtain rfl := fx_inj ek ek2 (by omega) (by omega)
    exact ⟨rfl, fR_ask h (xS0 w) (sX.rf _) (by rw [(m _).1])⟩
theorem r_moving {l : Launch} {w : fb_Wd} (h : fR w) {d r : Int32} : fPair l tX7_moving tX8_moving [.int d, .int r] w := by
  obtain ⟨nt, nd, nx, ng, rk, h⟩ := h
  have hX := h.1
  have hx := h.2.1
  have hnt := hX.1.1.2
  have hnd := hX.1.2.1.2
  have hnx := hX.1.2.2.1.2
  have hng := hX.1.2.2.2.2
  refine c_X7_moving hX (fun hb => ?_) (fun j k hj ej hk ek w1 hs => ?_)
  · have m := h.m (c0 w)
    refine c_X8_moving m.2.1 m.2.2.1 m.2.2.2 (fun _ => ⟨rfl, h.R⟩) (fun j k hj ej hk ek _ _ _ _ => absurd ⟨j, k, hj, ej, by rw [m.1] at hk; exact hk, ek⟩ hb)
  · have hs : xSL [6, 7, 8, 41, 42, 43, 44, 45] w w1 := hs.mono (by decide)
    have hp5 : 2 ^ fp_dbt (xD w 12) j (fd_m (xD w) j) ≤ 2 ^ 5 := Nat.pow_le_pow_right (by decide) (hX.kq j hj).2
    have m := fun v => h.m (c46_up (a := 0) (xSL.c46 hs (by decide)) 10 v (by decide))
    refine c_X8_moving (m _).2.1 (m _).2.2.1 (m _).2.2.2 (fun hb => absurd ⟨j, k, hj, ej, by rw [(m _).1]; exact hk, ek⟩ hb) (fun j2 k2 hj2 ej2 hk2 ek2 _ _ _ _ => ?_)
    rw [(m _).1] at hk2
    obtain rfl := fx_inj ej ej2 (by omega) (by omega)
    obtain rfl := fx_inj ek ek2 (by omega) (by omega)
    exact ⟨by rw [(m _).1], fR_ask h hs (sM.toX (sM_m4 _ _ _ _ _) (by decide)) (by rw [(m _).1])⟩
theorem r_blame {l : Launch} {w : fb_Wd} (h : fR w) {d r : Int32} : fPair l tX7_blame tX8_blame [.int d, .int r] w := by
  obtain ⟨nt, nd, nx, ng, rk, h⟩ := h
  have hX := h.1
  have hx := h.2.1
  have hnt := hX.1.1.2
  have hnd := hX.1.2.1.2
  have hnx := hX.1.2.2.1.2
  have hng := hX.1.2.2.2.2
  refine c_X7_blame hX (fun hb => ?_) (fun j k hj ej hk ek w1 hs => ?_)
  · have m := h.m (c0 w)
    refine c_X8_blame m.2.1 m.2.2.1 m.2.2.2 (fun _ => ⟨rfl, h.R⟩) (fun j k hj ej hk ek _ _ _ _ => absurd ⟨j, k, hj, ej, by rw [m.1] at hk; exact hk, ek⟩ hb)
  · have hs : xSL [6, 7, 8, 41, 42, 43, 44, 45] w w1 := hs.mono (by decide)
    have hp5 : 2 ^ fp_dbt (xD w 12) j (fd_m (xD w) j) ≤ 2 ^ 5 := Nat.pow_le_pow_right (by decide) (hX.kq j hj).2
    have m := fun v => h.m (c46_up (a := 0) (xSL.c46 hs (by decide)) 10 v (by decide))
    refine c_X8_blame (m _).2.1 (m _).2.2.1 (m _).2.2.2 (fun hb => absurd ⟨j, k, hj, ej, by rw [(m _).1]; exact hk, ek⟩ hb) (fun j2 k2 hj2 ej2 hk2 ek2 _ _ _ _ => ?_)
    rw [(m _).1] at hk2
    obtain rfl := fx_inj ej ej2 (by omega) (by omega)
    obtain rfl := fx_inj ek ek2 (by omega) (by omega)
    exact ⟨by rw [(m _).1], fR_ask h hs (sM.toX (sM_m4 _ _ _ _ _) (by decide)) (by rw [(m _).1])⟩
theorem r_inForce {l : Launch} {w : fb_Wd} (h : fR w) {y : Int32} : fPair l tX7_inForce tX8_inForce [.int y] w := by
  obtain ⟨nt, nd, nx, ng, rk, h⟩ := h
  have hX := h.1
  have hx := h.2.1
  have hnt := hX.1.1.2
  have hnd := hX.1.2.1.2
  have hnx := hX.1.2.2.1.2
  have hng := hX.1.2.2.2.2
  refine c_X7_inForce hX (fun hb => ?_) (fun h1 h2 => ?_)
  · have m := h.m (c0 w)
    exact c_X8_inForce m.2.1.2.2.1.1 m.2.1.2.2.1.2 (fun _ => ⟨rfl, h.R⟩) (fun h1 h2 => absurd ⟨h1, h2⟩ hb)
  · have m := h.m (c0 w)
    refine c_X8_inForce m.2.1.2.2.1.1 m.2.1.2.2.1.2 (fun hb => absurd ⟨h1, h2⟩ hb) (fun _ _ => ⟨by rw [m.1], h.R⟩)
theorem r_forfeit {l : Launch} {w : fb_Wd} (h : fR w) {d r tx : Int32} : fPair l tX7_forfeit tX8_forfeit [.int d, .int r, .int tx] w := by
  obtain ⟨nt, nd, nx, ng, rk, h⟩ := h
  have hX := h.1
  have hx := h.2.1
  have hnt := hX.1.1.2
  have hnd := hX.1.2.1.2
  have hnx := hX.1.2.2.1.2
  have hng := hX.1.2.2.2.2
  refine c_X7_forfeit hX hx (fun hb => ?_) (fun j k x hj ej hk ek hx8 ex w1 hs => ?_)
  · have m := h.m (c0 w)
    refine c_X8_forfeit m.2.1 m.2.2.1 m.2.2.2 (fun _ => ⟨rfl, h.R⟩) (fun j k x hj ej hk ek hx8 ex _ _ => absurd ⟨⟨j, k, hj, ej, by rw [m.1] at hk; exact hk, ek⟩, x, hx8, ex⟩ hb)
  · have hs : xSL [6, 7, 8, 41, 42, 43, 44, 45] w w1 := hs.mono (by decide)
    have hp5 : 2 ^ fp_dbt (xD w 12) j (fd_m (xD w) j) ≤ 2 ^ 5 := Nat.pow_le_pow_right (by decide) (hX.kq j hj).2
    have m := fun v => h.m (c46_up (a := 0) (xSL.c46 hs (by decide)) 10 v (by decide))
    refine c_X8_forfeit (m _).2.1 (m _).2.2.1 (m _).2.2.2 (fun hb => absurd ⟨⟨j, k, hj, ej, by rw [(m _).1]; exact hk, ek⟩, x, hx8, ex⟩ hb) (fun j2 k2 x2 hj2 ej2 hk2 ek2 hx2 ex2 w2 hs2 => ?_)
    rw [(m _).1] at hk2
    obtain rfl := fx_inj ej ej2 (by omega) (by omega)
    obtain rfl := fx_inj ek ek2 (by omega) (by omega)
    obtain rfl := fx_inj ex ex2 (by omega) (by omega)
    exact ⟨by rw [(m _).1], fR_ask h hs (sM.toX hs2 (by decide)) (by rw [(m _).1])⟩
theorem r_value {l : Launch} {w : fb_Wd} (h : fR w) {d r : Int32} : fPair l tX7_value tX8_value [.int d, .int r] w := by
  obtain ⟨nt, nd, nx, ng, rk, h⟩ := h
  have hX := h.1
  have hx := h.2.1
  have hnt := hX.1.1.2
  have hnd := hX.1.2.1.2
  have hnx := hX.1.2.2.1.2
  have hng := hX.1.2.2.2.2
  refine c_X7_value hX hx (fun hb => ?_) (fun j k hj ej hk ek w1 hr => ?_)
  · have m := h.m (c0 w)
    refine c_X8_value m.2.1 m.2.2.1 m.2.2.2 (fun _ => ⟨rfl, h.R⟩) (fun j k hj ej hk ek _ _ => absurd ⟨j, k, hj, ej, by rw [m.1] at hk; exact hk, ek⟩ hb)
  · have hs : xSL [6, 7, 8, 41, 42, 43, 44, 45] w w1 := hr.1.mono (by decide)
    have hp5 : 2 ^ fp_dbt (xD w 12) j (fd_m (xD w) j) ≤ 2 ^ 5 := Nat.pow_le_pow_right (by decide) (hX.kq j hj).2
    have m := fun v => h.m (c46_up (a := 0) (xSL.c46 hs (by decide)) 10 v (by decide))
    refine c_X8_value (m _).2.1 (m _).2.2.1 (m _).2.2.2 (fun hb => absurd ⟨j, k, hj, ej, by rw [(m _).1]; exact hk, ek⟩ hb) (fun j2 k2 hj2 ej2 hk2 ek2 w2 hs2 => ?_)
    rw [(m _).1] at hk2
    obtain rfl := fx_inj ej ej2 (by omega) (by omega)
    obtain rfl := fx_inj ek ek2 (by omega) (by omega)
    exact ⟨by rw [(m _).1], fR_ask h hs (sM.toX hs2 (by decide)) (by rw [(m _).1])⟩
theorem r_due {l : Launch} {w : fb_Wd} (h : fR w) {d : Int32} : fPair l tX7_due tX8_due [.int d] w := by
  obtain ⟨nt, nd, nx, ng, rk, h⟩ := h
  have hX := h.1
  have hx := h.2.1
  have hnt := hX.1.1.2
  have hnd := hX.1.2.1.2
  have hnx := hX.1.2.2.1.2
  have hng := hX.1.2.2.2.2
  refine c_X7_due hX hx (fun hb => ?_) (fun j hj ej w1 hr => ?_)
  · have m := h.m (c0 w)
    exact c_X8_due m.2.1 m.2.2.1 m.2.2.2 (fun _ => ⟨rfl, h.R⟩) (fun j hj ej _ _ => absurd ⟨j, hj, ej⟩ hb)
  · have hs : xSL [6, 7, 8, 41, 42, 43, 44, 45] w w1 := hr.1.mono (by decide)
    have m := fun v => h.m (c46_up (a := 0) (xSL.c46 hs (by decide)) 10 v (by decide))
    refine c_X8_due (m _).2.1 (m _).2.2.1 (m _).2.2.2 (fun hb => absurd ⟨j, hj, ej⟩ hb) (fun j2 hj2 ej2 w2 hs2 => ?_)
    obtain rfl := fx_inj ej ej2 (by omega) (by omega)
    exact ⟨by rw [(m _).1], fR_ask h hs (sM.toX hs2 (by decide)) (by rw [(m _).1])⟩
theorem r_sure {l : Launch} {w : fb_Wd} (h : fR w) {d mb : Int32} : fPair l tX7_sure tX8_sure [.int d, .int mb] w := by
  obtain ⟨nt, nd, nx, ng, rk, h⟩ := h
  have hX := h.1
  have hx := h.2.1
  have hnt := hX.1.1.2
  have hnd := hX.1.2.1.2
  have hnx := hX.1.2.2.1.2
  have hng := hX.1.2.2.2.2
  refine c_X7_sure hX hx (fun hb => ?_) (fun j hj ej w1 hr => ?_)
  · have m := h.m (c0 w)
    exact c_X8_sure m.2.1 m.2.2.1 m.2.2.2 (fun _ => ⟨rfl, h.R⟩) (fun j hj ej _ _ => absurd ⟨j, hj, ej⟩ hb)
  · have hs : xSL [6, 7, 8, 41, 42, 43, 44, 45] w w1 := hr.1.mono (by decide)
    refine ⟨fun hmb => ?_, fun hmb => ?_⟩
    all_goals
      have m := fun v => h.m (c46_up (a := 0) (xSL.c46 hs (by decide)) 10 v (by decide))
      refine c_X8_sure (m _).2.1 (m _).2.2.1 (m _).2.2.2 (fun hb => absurd ⟨j, hj, ej⟩ hb) (fun j2 hj2 ej2 w2 hs2 => ?_)
      obtain rfl := fx_inj ej ej2 (by omega) (by omega)
      refine ⟨fun z => ?_, fun z => ?_⟩
      all_goals first
        | exact absurd hmb z
        | exact absurd z hmb
        | exact ⟨by rw [(m _).1], fR_ask h hs (sM.toX hs2 (by decide)) (by rw [(m _).1])⟩
theorem r_unlike {l : Launch} {w : fb_Wd} (h : fR w) {d : Int32} : fPair l tX7_unlike tX8_unlike [.int d] w := by
  obtain ⟨nt, nd, nx, ng, rk, h⟩ := h
  have hX := h.1
  have hx := h.2.1
  have hnt := hX.1.1.2
  have hnd := hX.1.2.1.2
  have hnx := hX.1.2.2.1.2
  have hng := hX.1.2.2.2.2
  refine c_X7_unlike hX hx (fun hb => ?_) (fun j hj ej w1 hr => ?_)
  · have m := h.m (c0 w)
    exact c_X8_unlike m.2.1 m.2.2.1 m.2.2.2 (fun _ => ⟨rfl, h.R⟩) (fun j hj ej _ _ => absurd ⟨j, hj, ej⟩ hb)
  · have hs : xSL [6, 7, 8, 41, 42, 43, 44, 45] w w1 := hr.1.mono (by decide)
    have m := h.m (xSL.c46 hs (by decide))
    refine c_X8_unlike m.2.1 m.2.2.1 m.2.2.2 (fun hb => absurd ⟨j, hj, ej⟩ hb) (fun j2 hj2 ej2 w2 hs2 => ?_)
    obtain rfl := fx_inj ej ej2 (by omega) (by omega)
    exact ⟨by rw [m.1], fR_q h hs (sW.toX hs2 (by decide))⟩
theorem r_settle {l : Launch} {w : fb_Wd} (h : fR w) {d : Int32} : fPair l tX7_settle tX8_settle [.int d] w := by
  obtain ⟨nt, nd, nx, ng, rk, h⟩ := h
  have hX := h.1
  have hx := h.2.1
  have hnt := hX.1.1.2
  have hnd := hX.1.2.1.2
  have hnx := hX.1.2.2.1.2
  have hng := hX.1.2.2.2.2
  refine c_X7_settle hX hx (fun hb => ?_) (fun j hj ej h0 => ?_) (fun j hj ej h0 w1 hr => ?_)
  · have m := h.m (c0 w)
    exact c_X8_settle m.2.1 m.2.2.1 m.2.2.2 (fun _ => ⟨rfl, h.R⟩) (fun j hj ej _ _ _ => absurd ⟨j, hj, ej⟩ hb) (fun j hj ej _ _ _ => absurd ⟨j, hj, ej⟩ hb)
  · have m := h.m (c0 w)
    refine c_X8_settle m.2.1 m.2.2.1 m.2.2.2 (fun hb => absurd ⟨j, hj, ej⟩ hb) (fun j2 hj2 ej2 _ w2 hs2 => ⟨rfl, fR_q h (xS0 w) (sW.toX hs2 (by decide))⟩) (fun j2 hj2 ej2 hp2 w2 hs2 => ?_)
    obtain rfl := fx_inj ej ej2 (by omega) (by omega)
    rw [m.1] at hp2
    omega
  · have hs : xSL [6, 7, 8, 41, 42, 43, 44, 45] w w1 := hr.1.mono (by decide)
    have m := fun v => h.m (c46_up (a := 0) (xSL.c46 hs (by decide)) 10 v (by decide))
    refine c_X8_settle (m _).2.1 (m _).2.2.1 (m _).2.2.2 (fun hb => absurd ⟨j, hj, ej⟩ hb) (fun j2 hj2 ej2 hp2 w2 hs2 => ?_) (fun j2 hj2 ej2 hp2 w2 hs2 => ?_)
    · obtain rfl := fx_inj ej ej2 (by omega) (by omega)
      rw [(m _).1] at hp2
      omega
    · obtain rfl := fx_inj ej ej2 (by omega) (by omega)
      exact ⟨by rw [(m _).1], fR_ask h hs (sW.toX hs2 (by decide)) (by rw [(m _).1])⟩
theorem r_mark {l : Launch} {w : fb_Wd} (h : fR w) {t kd : Int32} : fPair l tX7_mark tX8_mark [.int t, .int kd] w := by
  obtain ⟨nt, nd, nx, ng, rk, h⟩ := h
  have hX := h.1
  have hx := h.2.1
  have hnt := hX.1.1.2
  have hnd := hX.1.2.1.2
  have hnx := hX.1.2.2.1.2
  have hng := hX.1.2.2.2.2
  refine c_X7_mark hX (fun hb => ?_) (fun j hj ej h1 h2 hk => ?_) (fun j hj ej h1 h2 hk => ?_)
  · have m := h.m (c0 w)
    exact c_X8_mark m.2.1 m.2.2.1 m.2.2.2 (fun _ => ⟨rfl, h.R⟩) (fun j hj ej h1 h2 _ => absurd ⟨⟨j, hj, ej⟩, h1, h2⟩ hb) (fun j hj ej h1 h2 _ => absurd ⟨⟨j, hj, ej⟩, h1, h2⟩ hb)
  · have m := fun v1 v => h.m (c46_up (a := 9) (c46_up (a := 0) (xSL.c46 (xS0 w) (by decide)) 9 v1 (by decide)) 3 v (by decide))
    refine c_X8_mark (m _ _).2.1 (m _ _).2.2.1 (m _ _).2.2.2 (fun hb => absurd ⟨⟨j, hj, ej⟩, h1, h2⟩ hb) (fun j2 hj2 ej2 _ _ _ => ⟨rfl, fR_met h (xS0 w) (sX.rf _)⟩) (fun j2 hj2 ej2 _ _ hk2 => ?_)
    obtain rfl := fx_inj ej ej2 (by omega) (by omega)
    rw [(m _ _).1] at hk2
    exact absurd hk2 hk
  · have m := h.m (c0 w)
    refine c_X8_mark m.2.1 m.2.2.1 m.2.2.2 (fun hb => absurd ⟨⟨j, hj, ej⟩, h1, h2⟩ hb) (fun j2 hj2 ej2 _ _ hk2 => ?_) (fun j2 hj2 ej2 _ _ hk2 => ?_)
    · obtain rfl := fx_inj ej ej2 (by omega) (by omega)
      rw [m.1] at hk2
      exact absurd hk hk2
    · obtain rfl := fx_inj ej ej2 (by omega) (by omega)
      exact ⟨by rw [m.1], h.R⟩
theorem r_mean {l : Launch} {w : fb_Wd} (h : fR w) {so : Int32} : fPair l tX7_mean tX8_mean [.int so] w := by
  obtain ⟨nt, nd, nx, ng, rk, h⟩ := h
  have hX := h.1
  have hx := h.2.1
  have hnt := hX.1.1.2
  have hnd := hX.1.2.1.2
  have hnx := hX.1.2.2.1.2
  have hng := hX.1.2.2.2.2
  have hiff : (∃ q, q < 10 ∧ so = nI q) ↔ (0 ≤ so ∧ so ≤ 9) := fx_rg (n := 9) (by decide)
  refine c_X7_mean hX (fun hb => ?_) (fun hs h0 => ?_) (fun hs h0 => ?_)
  · have m := h.m (c0 w)
    exact c_X8_meanS m.2.1 m.2.2.1 m.2.2.2 (fun _ => ⟨rfl, h.R⟩) (fun hz _ => absurd (hiff.mpr hz) hb) (fun hz _ => absurd (hiff.mpr hz) hb)
  · have m := fun v1 v => h.m (c46_up (a := 9) (c46_up (a := 0) (xSL.c46 (xS0 w) (by decide)) 9 v1 (by decide)) 4 v (by decide))
    refine c_X8_meanS (m _ _).2.1 (m _ _).2.2.1 (m _ _).2.2.2 (fun hb => absurd (hiff.mp hs) hb) (fun _ _ => ⟨rfl, fR_met h (xS0 w) (sX.rf _)⟩) (fun _ hz => ?_)
    rw [(m _ _).1] at hz
    exact absurd h0 hz
  · have m := fun v => h.m (c46_up (a := 0) (xSL.c46 (xS0 w) (by decide)) 10 v (by decide))
    refine c_X8_meanS (m _).2.1 (m _).2.2.1 (m _).2.2.2 (fun hb => absurd (hiff.mp hs) hb) (fun _ hz => ?_) (fun _ hz => ⟨rfl, fR_ask h (xS0 w) (sX.rf _) (by rw [(m _).1])⟩)
    rw [(m _).1] at hz
    exact absurd hz h0
theorem r_shortfall {l : Launch} {w : fb_Wd} (h : fR w) {fr to : Int32} : fPair l tX7_shortfall tX8_shortfall [.int fr, .int to] w := by
  obtain ⟨nt, nd, nx, ng, rk, h⟩ := h
  have hX := h.1
  have hx := h.2.1
  have hnt := hX.1.1.2
  have hnd := hX.1.2.1.2
  have hnx := hX.1.2.2.1.2
  have hng := hX.1.2.2.2.2
  refine c_X7_shortfall hX hx (fun hb => ?_) (fun h1 h2 h3 h4 w1 hs => ?_)
  · have m := h.m (c0 w)
    exact c_X8_shortfall m.2.1 m.2.2.1 m.2.2.2 (fun _ => ⟨rfl, h.R⟩) (fun h1 h2 h3 h4 _ _ => absurd ⟨h1, h2, h3, h4⟩ hb)
  · have m := fun v => h.m (c46_up (a := 0) (xSL.c46 hs (by decide)) 10 v (by decide))
    refine c_X8_shortfall (m _).2.1 (m _).2.2.1 (m _).2.2.2 (fun hb => absurd ⟨h1, h2, h3, h4⟩ hb) (fun _ _ _ _ w2 hs2 => ?_)
    exact ⟨by rw [(m _).1], fR_ask h hs (sM.toX hs2 (by decide)) (by rw [(m _).1])⟩
theorem r_worstPlace {l : Launch} {w : fb_Wd} (h : fR w) {fr to : Int32} : fPair l tX7_worstPlace tX8_worstPlace [.int fr, .int to] w := by
  obtain ⟨nt, nd, nx, ng, rk, h⟩ := h
  have hX := h.1
  have hx := h.2.1
  have hnt := hX.1.1.2
  have hnd := hX.1.2.1.2
  have hnx := hX.1.2.2.1.2
  have hng := hX.1.2.2.2.2
  refine c_X7_worstPlace hX hx (fun hb => ?_) (fun h1 h2 h3 h4 w1 hs => ?_)
  · have m := h.m (c0 w)
    exact c_X8_worstPlace m.2.1 m.2.2.1 m.2.2.2 (fun _ => ⟨rfl, h.R⟩) (fun h1 h2 h3 h4 _ _ => absurd ⟨h1, h2, h3, h4⟩ hb)
  · have m := h.m (xSL.c46 hs (by decide))
    refine c_X8_worstPlace m.2.1 m.2.2.1 m.2.2.2 (fun hb => absurd ⟨h1, h2, h3, h4⟩ hb) (fun _ _ _ _ w2 hs2 => ?_)
    exact ⟨by rw [m.1], fR_q h hs (sM.toX hs2 (by decide))⟩
theorem r_taker {l : Launch} {w : fb_Wd} (h : fR w) {d t : Int32} : fPair l tX7_taker tX8_taker [.int d, .int t] w := by
  obtain ⟨nt, nd, nx, ng, rk, h⟩ := h
  have hX := h.1
  have hx := h.2.1
  have hnt := hX.1.1.2
  have hnd := hX.1.2.1.2
  have hnx := hX.1.2.2.1.2
  have hng := hX.1.2.2.2.2
  refine c_X7_taker hX hx h.2.2.1 (fun hb => ?_) (fun j u hj ej hu eu hbt w1 hs => ?_) (fun j u hj ej hu eu hbt hg w1 hs => ?_) (fun j u g hj ej hu eu hbt hg eg w1 hs => ?_)
  · have m := h.m (c0 w)
    exact c_X8_taker m.2.1 m.2.2.1 m.2.2.2 (fun _ => ⟨rfl, h.R⟩) (fun j u hj ej hu eu _ _ _ => absurd ⟨⟨j, hj, ej⟩, u, hu, eu⟩ hb) (fun j u hj ej hu eu _ _ _ _ => absurd ⟨⟨j, hj, ej⟩, u, hu, eu⟩ hb) (fun j u _ hj ej hu eu _ _ _ _ _ => absurd ⟨⟨j, hj, ej⟩, u, hu, eu⟩ hb)
  · have m := h.m (xSL.c46 hs (by decide))
    refine c_X8_taker m.2.1 m.2.2.1 m.2.2.2 (fun hb => absurd ⟨⟨j, hj, ej⟩, u, hu, eu⟩ hb) (fun _ _ _ _ _ _ _ w2 hs2 => ⟨rfl, fR_q h hs (sM.toX hs2 (by decide))⟩) (fun j2 u2 hj2 ej2 hu2 eu2 hbt2 _ _ _ => ?_) (fun j2 u2 _ hj2 ej2 hu2 eu2 hbt2 _ _ _ _ => ?_)
    all_goals
      obtain rfl := fx_inj ej ej2 (by omega) (by omega)
      obtain rfl := fx_inj eu eu2 (by omega) (by omega)
      rw [m.1, hbt] at hbt2
      cases hbt2
  · have m := fun v => h.m (c46_up (a := 0) (xSL.c46 hs (by decide)) 10 v (by decide))
    refine c_X8_taker (m _).2.1 (m _).2.2.1 (m _).2.2.2 (fun hb => absurd ⟨⟨j, hj, ej⟩, u, hu, eu⟩ hb) (fun j2 u2 hj2 ej2 hu2 eu2 hbt2 _ _ => ?_) (fun j2 u2 hj2 ej2 hu2 eu2 hbt2 _ w2 hs2 => ?_) (fun j2 u2 g2 hj2 ej2 hu2 eu2 hbt2 hg2 eg2 _ _ => ?_)
    all_goals
      obtain rfl := fx_inj ej ej2 (by omega) (by omega)
      obtain rfl := fx_inj eu eu2 (by omega) (by omega)
    · rw [(m _).1, hbt] at hbt2
      cases hbt2
    · exact ⟨rfl, fR_ask h hs (sM.toX hs2 (by decide)) (by rw [(m _).1])⟩
    · rw [(m _).1] at eg2
      rw [eg2] at hg
      exact absurd hg (nI_pos (by omega))
  · have m := fun v => h.m (c46_up (a := 0) (xSL.c46 hs (by decide)) 10 v (by decide))
    refine c_X8_taker (m _).2.1 (m _).2.2.1 (m _).2.2.2 (fun hb => absurd ⟨⟨j, hj, ej⟩, u, hu, eu⟩ hb) (fun j2 u2 hj2 ej2 hu2 eu2 hbt2 _ _ => ?_) (fun j2 u2 hj2 ej2 hu2 eu2 hbt2 hg2 w2 hs2 => ?_) (fun j2 u2 g2 hj2 ej2 hu2 eu2 hbt2 hg2 eg2 w2 hs2 => ?_)
    all_goals
      obtain rfl := fx_inj ej ej2 (by omega) (by omega)
      obtain rfl := fx_inj eu eu2 (by omega) (by omega)
    · rw [(m _).1, hbt] at hbt2
      cases hbt2
    · rw [(m _).1, eg] at hg2
      exact absurd hg2 (nI_pos (by omega))
    · rw [(m _).1] at eg2
      obtain rfl := fx_inj eg eg2 (by omega) (by omega)
      exact ⟨by rw [(m _).1], fR_ask h hs (sM.toX hs2 (by decide)) (by rw [(m _).1])⟩
theorem r_takes {l : Launch} {w : fb_Wd} (h : fR w) {lo fr to : Int32} : fPair l tX7_takes tX8_takes [.int lo, .int fr, .int to] w := by
  obtain ⟨nt, nd, nx, ng, rk, h⟩ := h
  have hX := h.1
  have hx := h.2.1
  have hnt := hX.1.1.2
  have hnd := hX.1.2.1.2
  have hnx := hX.1.2.2.1.2
  have hng := hX.1.2.2.2.2
  have hiff : (∃ q, q < 8 ∧ lo = nI q) ↔ (0 ≤ lo ∧ lo ≤ 7) := fx_rg (n := 7) (by decide)
  refine c_X7_takes hX hx (fun hb => ?_) (fun h1 h2 w1 hs => ?_)
  · have m := h.m (c0 w)
    exact c_X8_takes m.2.1 m.2.2.1 m.2.2.2 (fun _ => ⟨rfl, h.R⟩) (fun h1 h2 _ _ => absurd ⟨h1.imp hiff.mpr id, h2⟩ hb)
  · have m := fun v => h.m (c46_up (a := 0) (xSL.c46 hs (by decide)) 10 v (by decide))
    refine c_X8_takes (m _).2.1 (m _).2.2.1 (m _).2.2.2 (fun hb => absurd ⟨h1.imp hiff.mp id, h2⟩ hb) (fun _ _ w2 hs2 => ?_)
    exact ⟨by rw [(m _).1], fR_ask h hs (sM.toX hs2 (by decide)) (by rw [(m _).1])⟩
