theorem XI_c2 {w w1 : fb_Wd} {nt nd nx ng : Nat} (hc : ∀ c, 2 ≤ c → c < 41 → (c ≠ 6 ∧ c ≠ 7 ∧ c ≠ 8 ∧ c ≠ 9 ∧ c ≠ 10 ∧ c ≠ 11) → w1.1 c = w.1 c) (hX : XI w nt nd nx ng) : XI w1 nt nd nx ng ∧ xD w1 = xD w := by
  have eD : xD w1 = xD w := by
    funext i
    match i with
    | 0 | 1 | 2 | 3 | 4 | 5 | 6 | 7 | 8 | 9 | 10 | 11 | 12 | 17 | 18 | 19 | 20 | 21 | 22 => exact hc _ (by decide) (by decide) (by decide)
    | 13 | 14 | 15 | 16 => exact congrArg fd_c8 (hc _ (by decide) (by decide) (by decide))
    | 23 =>
      show fd_s4 _ _ _ _ = fd_s4 _ _ _ _
      rw [hc 2 (by decide) (by decide) (by decide), hc 3 (by decide) (by decide) (by decide), hc 4 (by decide) (by decide) (by decide), hc 5 (by decide) (by decide) (by decide)]
    | i + 24 => rfl
  refine ⟨?_, eD⟩
  unfold XI xT xC at hX ⊢
  rw [eD, hc 17 (by decide) (by decide) (by decide), hc 15 (by decide) (by decide) (by decide), hc 18 (by decide) (by decide) (by decide), hc 19 (by decide) (by decide) (by decide), hc 14 (by decide) (by decide) (by decide), hc 20 (by decide) (by decide) (by decide), hc 21 (by decide) (by decide) (by decide), hc 16 (by decide) (by decide) (by decide), hc 2 (by decide) (by decide) (by decide), hc 12 (by decide) (by decide) (by decide), hc 25 (by decide) (by decide) (by decide), hc 26 (by decide) (by decide) (by decide), hc 30 (by decide) (by decide) (by decide)]
  exact hX
theorem mD_c2 {w w1 : fb_Wd} (h : ∀ c, 51 ≤ c → w1.1 c = w.1 c) (h8 : ∀ k, k ≠ 0 ∧ k ≠ 2 → w1.1 46 k = w.1 46 k) : mD w1 = mD w := by
  funext i
  match i with
  | 0 | 1 | 2 | 3 | 4 | 5 | 6 | 7 | 8 | 9 | 10 | 11 | 12 | 17 | 18 | 19 | 20 | 21 | 22 => exact h _ (by decide)
  | 13 | 14 | 15 | 16 => exact congrArg fd_c8 (h _ (by decide))
  | 23 =>
    show fd_s4 _ _ _ _ = fd_s4 _ _ _ _
    rw [h8 8 (by decide), h8 14 (by decide), h8 27 (by decide), h8 38 (by decide)]
  | i + 24 => rfl
theorem fR_end2 {w w2 : fb_Wd} {nt nd nx ng : Nat} {rk : Nat → Nat} (h : fR1 w nt nd nx ng rk) (hc : ∀ c, 2 ≤ c → c < 41 → (c ≠ 6 ∧ c ≠ 7 ∧ c ≠ 8 ∧ c ≠ 9 ∧ c ≠ 10 ∧ c ≠ 11) → w2.1 c = w.1 c) (hm : mD w2 = mD w) (hz : fr_Z w2) (ht : w2.1 46 2 = w2.1 0 10 ∧ w2.1 46 0 = w2.1 0 9 ∧ w2.1 47 = w2.1 9) (hl : w2.2 46 3 = w2.2 0 11 ∧ w2.2 46 4 = w2.2 0 12) : fR w2 := by
  obtain ⟨hX, eD⟩ := XI_c2 hc h.1
  exact ⟨nt, nd, nx, ng, rk, hX, by rw [eD]; exact h.2.1, by rw [eD]; exact h.2.2.1, by rw [hm, eD]; exact h.2.2.2.1, hz, by rw [eD]; exact h.2.2.2.2.2.1, ht, hl⟩
theorem fR_rows {w w2 : fb_Wd} {nt nd nx ng : Nat} {rk : Nat → Nat} (h : fR1 w nt nd nx ng rk) (hc : ∀ c, ¬ c = 10 → ¬ c = 11 → ¬ c = 48 → ¬ c = 49 → ¬ c = 50 → w2.1 c = w.1 c) (h2 : w2.2 = w.2) (hz : fr_Z w2) : fR w2 := by
  refine fR_end2 h (fun c h1 h2 h3 => hc c (by omega) (by omega) (by omega) (by omega) (by omega)) (mD_c2 (fun c hc2 => hc c (by omega) (by omega) (by omega) (by omega) (by omega)) (fun k _ => by rw [hc 46 (by decide) (by decide) (by decide) (by decide) (by decide)])) hz ?_ ?_
  · rw [hc 46 (by decide) (by decide) (by decide) (by decide) (by decide), hc 0 (by decide) (by decide) (by decide) (by decide) (by decide), hc 47 (by decide) (by decide) (by decide) (by decide) (by decide), hc 9 (by decide) (by decide) (by decide) (by decide) (by decide)]
    exact h.2.2.2.2.2.2.1
  · rw [h2]; exact h.2.2.2.2.2.2.2
theorem fp_zr_ne (w : fb_Wd) (c b : Nat) {c2 : Nat} (h : ¬ c2 = c) : ∀ n, (fp_zr w c b n).1 c2 = w.1 c2
  | 0 => rfl
  | n + 1 => by rw [fp_zr, fb_up_ne _ _ _ h, fp_zr_ne w c b h n]
theorem fp_zr_2 (w : fb_Wd) (c b : Nat) : ∀ n, (fp_zr w c b n).2 = w.2
  | 0 => rfl
  | n + 1 => fp_zr_2 w c b n
theorem fp_zr_at (w : fb_Wd) (c b : Nat) : ∀ n j, (fp_zr w c b n).1 c j = if b ≤ j ∧ j < b + n then nI 0 else w.1 c j
  | 0, j => by rw [fp_zr, if_neg (by omega)]
  | n + 1, j => by
    rw [fp_zr, fb_up_eq]
    by_cases e : j = b + n
    · subst e
      rw [pk_us, if_pos ⟨by omega, by omega⟩]
    · rw [pk_un e, fp_zr_at w c b n j]
      by_cases h : b ≤ j ∧ j < b + n
      · rw [if_pos h, if_pos ⟨h.1, by omega⟩]
      · rw [if_neg h, if_neg (by omega)]
theorem fr_row {w : fb_Wd} (h : fr_Z w) {a m : Nat} (ha : a < 6) (hm : m ≤ 40) : fr_Z (fp_zr (fb_up (fp_zr (fb_up w 10 a (nI m)) 11 (40 * a) m) 48 a (nI m)) 49 (40 * a) 40) := by
  have e10 : (fp_zr (fb_up (fp_zr (fb_up w 10 a (nI m)) 11 (40 * a) m) 48 a (nI m)) 49 (40 * a) 40).1 10 = upd (w.1 10) a (nI m) := by rw [fp_zr_ne _ _ _ (by decide), fb_up_ne _ _ _ (by decide), fp_zr_ne _ _ _ (by decide), fb_up_eq]
  have e48 : (fp_zr (fb_up (fp_zr (fb_up w 10 a (nI m)) 11 (40 * a) m) 48 a (nI m)) 49 (40 * a) 40).1 48 = upd (w.1 48) a (nI m) := by rw [fp_zr_ne _ _ _ (by decide), fb_up_eq, fp_zr_ne _ _ _ (by decide), fb_up_ne _ _ _ (by decide)]
  have e11 : ∀ j, (fp_zr (fb_up (fp_zr (fb_up w 10 a (nI m)) 11 (40 * a) m) 48 a (nI m)) 49 (40 * a) 40).1 11 j = if 40 * a ≤ j ∧ j < 40 * a + m then nI 0 else w.1 11 j := fun j => by rw [fp_zr_ne _ _ _ (by decide), fb_up_ne _ _ _ (by decide), fp_zr_at, fb_up_ne _ _ _ (by decide)]
  have e49 : ∀ j, (fp_zr (fb_up (fp_zr (fb_up w 10 a (nI m)) 11 (40 * a) m) 48 a (nI m)) 49 (40 * a) 40).1 49 j = if 40 * a ≤ j ∧ j < 40 * a + 40 then nI 0 else w.1 49 j := fun j => by rw [fp_zr_at, fb_up_ne _ _ _ (by decide), fp_zr_ne _ _ _ (by decide), fb_up_ne _ _ _ (by decide)]
  intro r hr
  rw [e10, e48]
  by_cases e : r = a
  · subst e
    refine Or.inr ⟨m, hm, pk_us, pk_us, fun k hk => ?_⟩
    rw [e49, e11, if_pos ⟨by omega, by omega⟩, if_pos ⟨by omega, by omega⟩]
  · rw [pk_un e, pk_un e]
    rcases h r hr with z | ⟨n, hn, z1, z2, z3⟩
    · exact Or.inl z
    · refine Or.inr ⟨n, hn, z1, z2, fun k hk => ?_⟩
      rw [e49, e11, if_neg (by omega), if_neg (by omega)]
      exact z3 k hk
theorem fr_tear {w : fb_Wd} (h : fr_Z w) {a : Nat} : fr_Z (fb_up (fb_up w 10 a (-1)) 48 a (-9)) := by
  intro r hr
  rw [fb_up_ne _ (c := 48) (c2 := 10) _ _ (by decide), fb_up_eq, fb_up_eq, fb_up_ne _ (c := 10) (c2 := 48) _ _ (by decide), fb_up_ne _ (c := 48) (c2 := 49) _ _ (by decide), fb_up_ne _ (c := 10) (c2 := 49) _ _ (by decide), fb_up_ne _ (c := 48) (c2 := 11) _ _ (by decide), fb_up_ne _ (c := 10) (c2 := 11) _ _ (by decide)]
  by_cases e : r = a
  · subst e; exact Or.inl ⟨pk_us, pk_us⟩
  · rw [pk_un e, pk_un e]
    exact h r hr
theorem fr_m {w w1 : fb_Wd} (h : fr_Z w) (hc : ∀ c, c = 10 ∨ c = 11 ∨ c = 48 ∨ c = 49 → w1.1 c = w.1 c) : fr_Z w1 := by
  unfold fr_Z
  rw [hc 10 (by decide), hc 11 (by decide), hc 48 (by decide), hc 49 (by decide)]
  exact h
theorem fr_neg {w : fb_Wd} (h : fr_Z w) {r : Nat} (hr : r < 6) : w.1 48 r < 0 ↔ w.1 10 r = -1 := by
  rcases h r hr with ⟨e1, e2⟩ | ⟨n, hn, e1, e2, -⟩
  · rw [e1, e2]; exact ⟨fun _ => rfl, fun _ => by decide⟩
  · rw [e1, e2]
    exact ⟨fun z => absurd z (nI_pos (by omega)), fun z => absurd (show nI n < 0 by rw [z]; decide) (nI_pos (by omega))⟩
theorem fr_eq {w : fb_Wd} (h : fr_Z w) {r p : Nat} (hr : r < 6) (hp : p ≤ 40) (e : w.1 10 r = nI p) : w.1 48 r = nI p ∧ ∀ k, k < p → w.1 49 (40 * r + k) = w.1 11 (40 * r + k) := by
  rcases h r hr with ⟨e1, e2⟩ | ⟨n, hn, e1, e2, e3⟩
  · rw [e1] at e
    exact absurd (show nI p < 0 by rw [← e]; decide) (nI_pos (by omega))
  · have : n = p := (nI_eq (by omega) (by omega)).mp (e1.symm.trans e)
    subst this
    exact ⟨e2, e3⟩
theorem r_row {l : Launch} {w : fb_Wd} (h : fR w) {r n : Int32} : fPair l tX7_row tX8_row [.int r, .int n] w := by
  obtain ⟨nt, nd, nx, ng, rk, h⟩ := h
  have hX := h.1
  have hx := h.2.1
  have hnt := hX.1.1.2
  have hnd := hX.1.2.1.2
  have hnx := hX.1.2.2.1.2
  have hng := hX.1.2.2.2.2
  have hiff : (∃ a, a < 6 ∧ r = nI a) ↔ (0 ≤ r ∧ r ≤ 5) := fx_rg (n := 5) (by decide)
  refine c_X7_row (fun hb => ?_) (fun p1 p2 => ?_) (fun a m ha ea hm em => ?_)
  · exact c_X8_row (fun _ => ⟨rfl, h.R⟩) (fun h1 h2 h3 => absurd ⟨hiff.mpr ⟨h1, h2⟩, Int32.le_trans (Int32.le_of_lt h3) (by decide)⟩ hb) (fun j hj ej h1 h2 => absurd ⟨⟨j, hj, ej⟩, h2⟩ hb)
  · refine c_X8_row (fun hb => absurd ⟨hiff.mp p1, Int32.le_trans (Int32.le_of_lt p2) (by decide)⟩ hb) (fun _ _ _ => ⟨rfl, fR_met h (xS0 w) (sX.rf _)⟩) (fun _ _ _ h1 _ => absurd p2 (Int32.not_lt.mpr h1))
  · subst em
    refine c_X8_row (fun hb => absurd ⟨hiff.mp ⟨a, ha, ea⟩, nI_le hm (by decide)⟩ hb) (fun _ _ h3 => absurd h3 (nI_pos (by omega))) (fun j hj ej _ _ => ?_)
    obtain rfl := fx_inj ea ej (by omega) (by omega)
    refine ⟨rfl, fR_rows h (fun c h1 h2 h3 h4 h5 => ?_) ?_ (fr_row h.2.2.2.2.1 ha hm)⟩
    · rw [fp_zr_ne _ _ _ h4, fb_up_ne _ _ _ h3, fp_zr_ne _ _ _ h2, fb_up_ne _ _ _ h1]
    · rw [fp_zr_2]
      show (fp_zr _ 11 _ _).2 = _
      rw [fp_zr_2]
      rfl
theorem r_tear {l : Launch} {w : fb_Wd} (h : fR w) {r : Int32} : fPair l tX7_tear tX8_tear [.int r] w := by
  obtain ⟨nt, nd, nx, ng, rk, h⟩ := h
  have hX := h.1
  have hx := h.2.1
  have hnt := hX.1.1.2
  have hnd := hX.1.2.1.2
  have hnx := hX.1.2.2.1.2
  have hng := hX.1.2.2.2.2
  have hiff : (∃ a, a < 6 ∧ r = nI a) ↔ (0 ≤ r ∧ r ≤ 5) := fx_rg (n := 5) (by decide)
  have hz := h.2.2.2.2.1
  refine c_X7_tear (fun hb => ?_) (fun a ha ea hm => ?_) (fun a ha ea hm => ?_)
  · exact c_X8_tear (fun _ => ⟨rfl, h.R⟩) (fun j hj ej _ => absurd ⟨j, hj, ej⟩ hb) (fun j hj ej _ => absurd ⟨j, hj, ej⟩ hb)
  · have hz1 : fr_Z (fb_up (fb_up w 0 9 (nI 1)) 9 1 (w.1 9 1 + 1)) := fr_m hz (fun c hc => by rw [fb_up_ne _ _ _ (by omega), fb_up_ne _ _ _ (by omega)])
    refine c_X8_tear (fun hb => absurd (hiff.mp ⟨a, ha, ea⟩) hb) (fun _ _ _ _ => ⟨rfl, fR_met h (xS0 w) (sX.rf _)⟩) (fun j hj ej hn => ?_)
    obtain rfl := fx_inj ea ej (by omega) (by omega)
    exact absurd ((fr_neg hz1 hj).mpr (by rw [fb_up_ne _ _ _ (by decide), fb_up_ne _ _ _ (by decide)]; exact hm)) hn
  · have e48 : (fb_up w 10 a (-1)).1 48 = w.1 48 := fb_up_ne _ _ _ (by decide)
    refine c_X8_tear (fun hb => absurd (hiff.mp ⟨a, ha, ea⟩) hb) (fun j hj ej hn => ?_) (fun j hj ej hn => ?_)
    · obtain rfl := fx_inj ea ej (by omega) (by omega)
      rw [e48] at hn
      exact absurd ((fr_neg hz hj).mp hn) hm
    · obtain rfl := fx_inj ea ej (by omega) (by omega)
      exact ⟨rfl, fR_rows h (fun c h1 h2 h3 h4 h5 => by rw [fb_up_ne _ _ _ h3, fb_up_ne _ _ _ h1]) rfl (fr_tear hz)⟩
theorem fr_lay {w : fb_Wd} (h : fr_Z w) {a p x : Nat} {v o o2 : Int32} (ha : a < 6) (hp : p ≤ 40) (e : w.1 10 a = nI p) (hx : x < p) : fr_Z (fb_up (fb_up (fb_up (fb_up w 11 (40 * a + x) v) 0 10 o) 46 2 o2) 49 (40 * a + x) v) := by
  have e11 : (fb_up (fb_up (fb_up (fb_up w 11 (40 * a + x) v) 0 10 o) 46 2 o2) 49 (40 * a + x) v).1 11 = upd (w.1 11) (40 * a + x) v := by rw [fb_up_ne _ _ _ (by decide), fb_up_ne _ _ _ (by decide), fb_up_ne _ _ _ (by decide), fb_up_eq]
  have e49 : (fb_up (fb_up (fb_up (fb_up w 11 (40 * a + x) v) 0 10 o) 46 2 o2) 49 (40 * a + x) v).1 49 = upd (w.1 49) (40 * a + x) v := by rw [fb_up_eq, fb_up_ne _ _ _ (by decide), fb_up_ne _ _ _ (by decide), fb_up_ne _ _ _ (by decide)]
  have e10 : (fb_up (fb_up (fb_up (fb_up w 11 (40 * a + x) v) 0 10 o) 46 2 o2) 49 (40 * a + x) v).1 10 = w.1 10 := by rw [fb_up_ne _ _ _ (by decide), fb_up_ne _ _ _ (by decide), fb_up_ne _ _ _ (by decide), fb_up_ne _ _ _ (by decide)]
  have e48 : (fb_up (fb_up (fb_up (fb_up w 11 (40 * a + x) v) 0 10 o) 46 2 o2) 49 (40 * a + x) v).1 48 = w.1 48 := by rw [fb_up_ne _ _ _ (by decide), fb_up_ne _ _ _ (by decide), fb_up_ne _ _ _ (by decide), fb_up_ne _ _ _ (by decide)]
  intro r hr
  rw [e10, e48, e11, e49]
  refine (h r hr).imp id (fun ⟨n, hn, z1, z2, z3⟩ => ⟨n, hn, z1, z2, fun k hk => ?_⟩)
  by_cases e : 40 * r + k = 40 * a + x
  · rw [e, pk_us, pk_us]
  · rw [pk_un e, pk_un e]; exact z3 k hk
theorem fr_copy {w : fb_Wd} (h : fr_Z w) {a b p q x y m : Nat} (ha : a < 6) (hb : b < 6) (hp : p ≤ 40) (hq : q ≤ 40) (ea : w.1 10 a = nI p) (eb : w.1 10 b = nI q) (hx : x + m ≤ p) (hy : y + m ≤ q) : fr_Z (fp_w2 (fp_w1 (fb_ua w 11 (va_cpy (w.1 11) (w.1 11) (40 * a + x) (40 * b + y) m)) (40 * a + x) m) (40 * b + y) m) := by
  have eua : ∀ c, ¬ c = 11 → (fb_ua w 11 (va_cpy (w.1 11) (w.1 11) (40 * a + x) (40 * b + y) m)).1 c = w.1 c := fun c hc => by
    funext k
    simp [fb_ua, hc]
  have e11 : (fp_w2 (fp_w1 (fb_ua w 11 (va_cpy (w.1 11) (w.1 11) (40 * a + x) (40 * b + y) m)) (40 * a + x) m) (40 * b + y) m).1 11 = va_cpy (w.1 11) (w.1 11) (40 * a + x) (40 * b + y) m := by
    rw [fp_w2_ne _ _ (by decide), fp_w1_ne _ _ (by decide)]
    funext k
    simp [fb_ua]
  have e10 : (fp_w2 (fp_w1 (fb_ua w 11 (va_cpy (w.1 11) (w.1 11) (40 * a + x) (40 * b + y) m)) (40 * a + x) m) (40 * b + y) m).1 10 = w.1 10 := by rw [fp_w2_ne _ _ (by decide), fp_w1_ne _ _ (by decide), eua 10 (by decide)]
  have e48 : (fp_w2 (fp_w1 (fb_ua w 11 (va_cpy (w.1 11) (w.1 11) (40 * a + x) (40 * b + y) m)) (40 * a + x) m) (40 * b + y) m).1 48 = w.1 48 := by rw [fp_w2_ne _ _ (by decide), fp_w1_ne _ _ (by decide), eua 48 (by decide)]
  have fa := (fr_eq h ha hp ea).2
  intro r hr
  rw [e10, e48, e11]
  refine (h r hr).imp id (fun ⟨n, hn, z1, z2, z3⟩ => ⟨n, hn, z1, z2, fun k hk => ?_⟩)
  rw [fp_w2_at, fp_w1_ne _ _ (show ¬ 49 = 50 by decide), eua 49 (by decide)]
  by_cases hc : 40 * b + y ≤ 40 * r + k ∧ 40 * r + k < 40 * b + y + m
  · rw [if_pos hc, fp_w1_at _ _ _ _ (by omega), eua 49 (by decide), pk_cpy_in hc.1 hc.2, show 40 * a + x + (40 * r + k - (40 * b + y)) = 40 * a + (x + (40 * r + k - (40 * b + y))) by omega]
    exact fa _ (by omega)
  · rw [if_neg hc, pk_cpy_out (by omega)]
    exact z3 k hk
theorem r_lay {l : Launch} {w : fb_Wd} (h : fR w) {r i v : Int32} : fPair l tX7_lay tX8_lay [.int r, .int i, .int v] w := by
  obtain ⟨nt, nd, nx, ng, rk, h⟩ := h
  have hX := h.1
  have hx := h.2.1
  have hnt := hX.1.1.2
  have hnd := hX.1.2.1.2
  have hnx := hX.1.2.2.1.2
  have hng := hX.1.2.2.2.2
  have hiff : (∃ a, a < 6 ∧ r = nI a) ↔ (0 ≤ r ∧ r ≤ 5) := fx_rg (n := 5) (by decide)
  have hz := h.2.2.2.2.1
  refine c_X7_lay (fr_xz hz) (fun hb => ?_) (fun a ha ea hm => ?_) (fun a p ha ea hp ep hn => ?_) (fun a p x ha ea hp ep ei hx => ?_)
  · exact c_X8_lay (fr_sz hz) (fun _ => ⟨rfl, h.R⟩) (fun j hj ej _ => absurd ⟨j, hj, ej⟩ hb) (fun j _ hj ej _ _ _ => absurd ⟨j, hj, ej⟩ hb) (fun j _ _ hj ej _ _ _ _ => absurd ⟨j, hj, ej⟩ hb)
  · have hz1 : fr_Z (fb_up (fb_up w 0 9 (nI 1)) 9 1 (w.1 9 1 + 1)) := fr_m hz (fun c hc => by rw [fb_up_ne _ _ _ (by omega), fb_up_ne _ _ _ (by omega)])
    have hn1 := (fr_neg hz1 ha).mpr (by rw [fb_up_ne _ _ _ (by decide), fb_up_ne _ _ _ (by decide)]; exact hm)
    refine c_X8_lay (fr_sz hz1) (fun hb => absurd (hiff.mp ⟨a, ha, ea⟩) hb) (fun _ _ _ _ => ⟨rfl, fR_met h (xS0 w) (sX.rf _)⟩) (fun j n hj ej hn en _ => ?_) (fun j n k hj ej hn en _ _ => ?_)
    all_goals
      obtain rfl := fx_inj ea ej (by omega) (by omega)
      rw [en] at hn1
      exact absurd hn1 (nI_pos (by omega))
  · have hz1 : fr_Z (fb_up (fb_up w 0 9 (nI 2)) 9 2 (w.1 9 2 + 1)) := fr_m hz (fun c hc => by rw [fb_up_ne _ _ _ (by omega), fb_up_ne _ _ _ (by omega)])
    have e48 := (fr_eq hz1 ha hp (by rw [fb_up_ne _ _ _ (by decide), fb_up_ne _ _ _ (by decide)]; exact ep)).1
    refine c_X8_lay (fr_sz hz1) (fun hb => absurd (hiff.mp ⟨a, ha, ea⟩) hb) (fun j hj ej hneg => ?_) (fun _ _ _ _ _ _ _ => ⟨rfl, fR_met h (xS0 w) (sX.rf _)⟩) (fun j n k hj ej hn2 en hk ek => ?_)
    · obtain rfl := fx_inj ea ej (by omega) (by omega)
      rw [e48] at hneg
      exact absurd hneg (nI_pos (by omega))
    · obtain rfl := fx_inj ea ej (by omega) (by omega)
      obtain rfl := fx_inj e48 en (by omega) (by omega)
      exact absurd ⟨k, ek, by omega⟩ hn
  · have hz1 : fr_Z (fb_up w 0 10 0) := fr_m hz (fun c hc => by rw [fb_up_ne _ _ _ (by omega)])
    have e48 := (fr_eq hz ha hp ep).1
    have e49 := (fr_eq hz ha hp ep).2 x (by omega)
    have c48 : (fb_up (fb_up w 11 (40 * a + x) v) 0 10 (w.1 11 (40 * a + x))).1 48 = w.1 48 := by rw [fb_up_ne _ _ _ (by decide), fb_up_ne _ _ _ (by decide)]
    have c49 : (fb_up (fb_up w 11 (40 * a + x) v) 0 10 (w.1 11 (40 * a + x))).1 49 = w.1 49 := by rw [fb_up_ne _ _ _ (by decide), fb_up_ne _ _ _ (by decide)]
    have hsz : fm_sz (fb_up (fb_up w 11 (40 * a + x) v) 0 10 (w.1 11 (40 * a + x))) := by
      unfold fm_sz
      rw [c48]
      exact fr_sz hz
    refine c_X8_lay hsz (fun hb => absurd (hiff.mp ⟨a, ha, ea⟩) hb) (fun j hj ej hneg => ?_) (fun j n hj ej hn2 en hno => ?_) (fun j n k hj ej hn2 en hk ek => ?_)
    all_goals obtain rfl := fx_inj ea ej (by omega) (by omega)
    · rw [c48, e48] at hneg
      exact absurd hneg (nI_pos (by omega))
    · rw [c48] at en
      obtain rfl := fx_inj e48 en (by omega) (by omega)
      exact absurd ⟨x, by omega, ei⟩ hno
    · rw [c48] at en
      obtain rfl := fx_inj e48 en (by omega) (by omega)
      obtain rfl := fx_inj ei ek (by omega) (by omega)
      refine ⟨rfl, ?_⟩
      rw [c49]
      refine fR_end2 h (fun c h1 h2 h3 => by rw [fb_up_ne _ _ _ (by omega), fb_up_ne _ _ _ (by omega), fb_up_ne _ _ _ (by omega), fb_up_ne _ _ _ (by omega)]) (mD_c2 (fun c hc => by rw [fb_up_ne _ _ _ (by omega), fb_up_ne _ _ _ (by omega), fb_up_ne _ _ _ (by omega), fb_up_ne _ _ _ (by omega)]) (fun q hq => by rw [fb_up_ne _ (c := 49) (c2 := 46) _ _ (by decide), fb_up_nk _ _ hq.2, fb_up_ne _ _ _ (by decide), fb_up_ne _ _ _ (by decide)])) (fr_lay hz ha hp ep (by omega)) ⟨?_, ?_, ?_⟩ h.2.2.2.2.2.2.2
      · simp [fb_up]; exact e49
      · simp [fb_up]; exact h.2.2.2.2.2.2.1.2.1
      · rw [fb_up_ne _ (c := 49) (c2 := 47) _ _ (by decide), fb_up_ne _ (c := 46) (c2 := 47) _ _ (by decide), fb_up_ne _ (c := 0) (c2 := 47) _ _ (by decide), fb_up_ne _ (c := 11) (c2 := 47) _ _ (by decide), fb_up_ne _ (c := 49) (c2 := 9) _ _ (by decide), fb_up_ne _ (c := 46) (c2 := 9) _ _ (by decide), fb_up_ne _ (c := 0) (c2 := 9) _ _ (by decide), fb_up_ne _ (c := 11) (c2 := 9) _ _ (by decide)]
        exact h.2.2.2.2.2.2.1.2.2
theorem r_copy {l : Launch} {w : fb_Wd} (h : fR w) {r i to j n : Int32} : fPair l tX7_copy tX8_copy [.int r, .int i, .int to, .int j, .int n] w := by
  obtain ⟨nt, nd, nx, ng, rk, h⟩ := h
  have hX := h.1
  have hx := h.2.1
  have hnt := hX.1.1.2
  have hnd := hX.1.2.1.2
  have hnx := hX.1.2.2.1.2
  have hng := hX.1.2.2.2.2
  have hiff : (∃ a, a < 6 ∧ r = nI a) ↔ (0 ≤ r ∧ r ≤ 5) := fx_rg (n := 5) (by decide)
  have hiff2 : (∃ a, a < 6 ∧ to = nI a) ↔ (0 ≤ to ∧ to ≤ 5) := fx_rg (n := 5) (by decide)
  have hz := h.2.2.2.2.1
  refine c_X7_copy (fr_xz hz) (fun hb => ?_) (fun p1 p2 hneg => ?_) (fun a b ha hb ea eb hn0 hm => ?_) (fun a b p q m ha hb ea eb hp hq ep eq hm em hno => ?_) (fun a b p q x y m ha hb ea eb hp hq ep eq ei ej em hx hy => ?_)
  · exact c_X8_copy (fr_sz hz) (fun _ => ⟨rfl, h.R⟩) (fun p1 p2 _ => absurd ⟨hiff.mpr p1, hiff2.mpr p2⟩ hb) (fun a b ha hb2 ea eb _ _ => absurd ⟨⟨a, ha, ea⟩, b, hb2, eb⟩ hb) (fun a b _ _ _ ha hb2 ea eb _ _ _ _ _ _ _ => absurd ⟨⟨a, ha, ea⟩, b, hb2, eb⟩ hb) (fun a b _ _ _ _ _ ha hb2 ea eb _ _ _ _ _ _ _ _ _ => absurd ⟨⟨a, ha, ea⟩, b, hb2, eb⟩ hb)
  · have hz1 : fr_Z (fb_up (fb_up w 0 9 (nI 5)) 9 5 (w.1 9 5 + 1)) := fr_m hz (fun c hc => by rw [fb_up_ne _ _ _ (by omega), fb_up_ne _ _ _ (by omega)])
    have g10 : (fb_up (fb_up w 0 9 (nI 5)) 9 5 (w.1 9 5 + 1)).1 10 = w.1 10 := by rw [fb_up_ne _ _ _ (by decide), fb_up_ne _ _ _ (by decide)]
    exact c_X8_copy (fr_sz hz1) (fun hb => absurd ⟨hiff.mp p1, hiff2.mp p2⟩ hb) (fun _ _ _ => ⟨rfl, fR_met h (xS0 w) (sX.rf _)⟩) (fun _ _ _ _ _ _ h0 _ => absurd hneg (Int32.not_lt.mpr h0)) (fun _ _ _ _ m _ _ _ _ _ _ _ _ hm em _ => absurd hneg (by rw [em]; exact nI_pos hm)) (fun _ _ p _ _ _ m _ _ _ _ hp _ _ _ _ _ em hx _ => absurd hneg (by rw [em]; exact nI_pos (by omega)))
  · have hz1 : fr_Z (fb_up (fb_up w 0 9 (nI 1)) 9 1 (w.1 9 1 + 1)) := fr_m hz (fun c hc => by rw [fb_up_ne _ _ _ (by omega), fb_up_ne _ _ _ (by omega)])
    have g10 : (fb_up (fb_up w 0 9 (nI 1)) 9 1 (w.1 9 1 + 1)).1 10 = w.1 10 := by rw [fb_up_ne _ _ _ (by decide), fb_up_ne _ _ _ (by decide)]
    refine c_X8_copy (fr_sz hz1) (fun hb2 => absurd ⟨hiff.mp ⟨a, ha, ea⟩, hiff2.mp ⟨b, hb, eb⟩⟩ hb2) (fun _ _ h3 => absurd h3 (Int32.not_lt.mpr hn0)) (fun _ _ _ _ _ _ _ _ => ⟨rfl, fR_met h (xS0 w) (sX.rf _)⟩) (fun a2 b2 p2 q2 m2 ha2 hb2 ea2 eb2 hp2 hq2 ep2 eq2 _ _ _ => ?_) (fun a2 b2 p2 q2 _ _ _ ha2 hb2 ea2 eb2 hp2 hq2 ep2 eq2 _ _ _ _ _ => ?_)
    all_goals
      obtain rfl := fx_inj ea ea2 (by omega) (by omega)
      obtain rfl := fx_inj eb eb2 (by omega) (by omega)
      rcases hm with hm | hm
      · have z := (fr_neg hz1 ha2).mpr (by rw [g10]; exact hm)
        rw [ep2] at z
        exact absurd z (nI_pos (by omega))
      · have z := (fr_neg hz1 hb2).mpr (by rw [g10]; exact hm)
        rw [eq2] at z
        exact absurd z (nI_pos (by omega))
  · have hz1 : fr_Z (fb_up (fb_up w 0 9 (nI 2)) 9 2 (w.1 9 2 + 1)) := fr_m hz (fun c hc => by rw [fb_up_ne _ _ _ (by omega), fb_up_ne _ _ _ (by omega)])
    have g10 : (fb_up (fb_up w 0 9 (nI 2)) 9 2 (w.1 9 2 + 1)).1 10 = w.1 10 := by rw [fb_up_ne _ _ _ (by decide), fb_up_ne _ _ _ (by decide)]
    have e1 := (fr_eq hz1 ha hp (by rw [g10]; exact ep)).1
    have e2 := (fr_eq hz1 hb hq (by rw [g10]; exact eq)).1
    refine c_X8_copy (fr_sz hz1) (fun hb2 => absurd ⟨hiff.mp ⟨a, ha, ea⟩, hiff2.mp ⟨b, hb, eb⟩⟩ hb2) (fun _ _ h3 => absurd h3 (by rw [em]; exact nI_pos hm)) (fun a2 b2 ha2 hb2 ea2 eb2 _ hm2 => ?_) (fun _ _ _ _ _ _ _ _ _ _ _ _ _ _ _ _ => ⟨rfl, fR_met h (xS0 w) (sX.rf _)⟩) (fun a2 b2 p2 q2 x2 y2 m2 ha2 hb2 ea2 eb2 hp2 hq2 ep2 eq2 ei2 ej2 em2 hx2 hy2 => ?_)
    all_goals
      obtain rfl := fx_inj ea ea2 (by omega) (by omega)
      obtain rfl := fx_inj eb eb2 (by omega) (by omega)
    · rw [e1, e2] at hm2
      exact absurd hm2 (fun z => z.elim (nI_pos (by omega)) (nI_pos (by omega)))
    · obtain rfl := fx_inj e1 ep2 (by omega) (by omega)
      obtain rfl := fx_inj e2 eq2 (by omega) (by omega)
      obtain rfl := fx_inj em em2 (by omega) (by omega)
      exact absurd ⟨x2, y2, ei2, ej2, hx2, hy2⟩ hno
  · have eua : ∀ c, ¬ c = 11 → (fb_ua w 11 (va_cpy (w.1 11) (w.1 11) (40 * a + x) (40 * b + y) m)).1 c = w.1 c := fun c hc => by
      funext k
      simp [fb_ua, hc]
    have hsz : fm_sz (fb_ua w 11 (va_cpy (w.1 11) (w.1 11) (40 * a + x) (40 * b + y) m)) := by
      unfold fm_sz
      rw [eua 48 (by decide)]
      exact fr_sz hz
    have e1 := (fr_eq hz ha hp ep).1
    have e2 := (fr_eq hz hb hq eq).1
    refine c_X8_copy hsz (fun hb2 => absurd ⟨hiff.mp ⟨a, ha, ea⟩, hiff2.mp ⟨b, hb, eb⟩⟩ hb2) (fun _ _ h3 => absurd h3 (by rw [em]; exact nI_pos (by omega))) (fun a2 b2 ha2 hb2 ea2 eb2 _ hm2 => ?_) (fun a2 b2 p2 q2 m2 ha2 hb2 ea2 eb2 hp2 hq2 ep2 eq2 hm2 em2 hno => ?_) (fun a2 b2 p2 q2 x2 y2 m2 ha2 hb2 ea2 eb2 hp2 hq2 ep2 eq2 ei2 ej2 em2 hx2 hy2 => ?_)
    all_goals
      obtain rfl := fx_inj ea ea2 (by omega) (by omega)
      obtain rfl := fx_inj eb eb2 (by omega) (by omega)
    · rw [eua 48 (by decide), e1, e2] at hm2
      exact absurd hm2 (fun z => z.elim (nI_pos (by omega)) (nI_pos (by omega)))
    · rw [eua 48 (by decide)] at ep2 eq2
      obtain rfl := fx_inj e1 ep2 (by omega) (by omega)
      obtain rfl := fx_inj e2 eq2 (by omega) (by omega)
      obtain rfl := fx_inj em em2 (by omega) (by omega)
      exact absurd ⟨x, y, ei, ej, hx, hy⟩ hno
    · rw [eua 48 (by decide)] at ep2 eq2
      obtain rfl := fx_inj e1 ep2 (by omega) (by omega)
      obtain rfl := fx_inj e2 eq2 (by omega) (by omega)
      obtain rfl := fx_inj em em2 (by omega) (by omega)
      obtain rfl := fx_inj ei ei2 (by omega) (by omega)
      obtain rfl := fx_inj ej ej2 (by omega) (by omega)
      refine ⟨rfl, fR_rows h (fun c h1 h2 h3 h4 h5 => ?_) ?_ (fr_copy hz ha hb hp hq ep eq hx hy)⟩
      · rw [fp_w2_ne _ _ h4, fp_w1_ne _ _ h5, eua c h2]
      · rw [fp_w2_2, fp_w1_2]; rfl
