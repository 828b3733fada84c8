theorem fx_ap_r (w : fb_Wd) (d m : Nat) (s a b z : Int32) : (fx_ap w d m s a b z).1 27 = upd (w.1 27) (10 * d + m) s ∧ (fx_ap w d m s a b z).1 28 = upd (w.1 28) (10 * d + m) a ∧ (fx_ap w d m s a b z).1 29 = upd (w.1 29) (10 * d + m) b ∧ (fx_ap w d m s a b z).1 30 = upd (w.1 30) (10 * d + m) z ∧ (fx_ap w d m s a b z).1 25 = upd (w.1 25) d (w.1 25 d + 1) ∧ (fx_ap w d m s a b z).1 26 = (if z = 0 then upd (w.1 26) d (w.1 26 d + 1) else w.1 26) ∧ (fx_ap w d m s a b z).2 = w.2 := by
  unfold fx_ap
  by_cases hz : z = 0
  · rw [if_pos hz, if_pos hz]
    refine ⟨rfl, rfl, rfl, rfl, rfl, rfl, rfl⟩
  · rw [if_neg hz, if_neg hz]
    refine ⟨rfl, rfl, rfl, rfl, rfl, rfl, rfl⟩
theorem fp_dbt_cg {f g : Nat → Int32} {d m : Nat} (h : ∀ k, k < m → f (10 * d + k) = g (10 * d + k)) : fp_dbt f d m = fp_dbt g d m := fp_cnt_cg (fun k hk => by rw [h k hk])
theorem xT_c {w w2 : fb_Wd} {nt : Nat} (hc : ∀ c, c = 2 ∨ (12 ≤ c ∧ c ≤ 21) → w2.1 c = w.1 c) (h : xT w nt) : xT w2 nt := by
  unfold xT
  rw [hc 17 (by decide), hc 15 (by decide), hc 18 (by decide), hc 19 (by decide), hc 14 (by decide), hc 20 (by decide), hc 21 (by decide), hc 16 (by decide), hc 2 (by decide), hc 12 (by decide)]
  exact h
theorem XI_app {w : fb_Wd} {nt nd nx ng j m s a : Nat} {b z : Int32} (h : XI w nt nd nx ng) (hj : j < nd) (hm : fd_m (xD w) j = m) (hm10 : m < 10) (hs : s ≤ 3) (ha : a < nt) (hb1 : s = 1 → ∃ b', b' < nt ∧ b' ≠ a ∧ b = nI b') (hb2 : s ≠ 1 → b = -9) (hz : z = 0 ∨ z = 1) (hdb : z = 0 → fp_dbt (xD w 12) j m < 5) : XI (fx_ap w j m (nI s) (nI a) b z) nt nd nx ng ∧ fd_m (xD (fx_ap w j m (nI s) (nI a) b z)) j = m + 1 ∧ fp_dbt (xD (fx_ap w j m (nI s) (nI a) b z) 12) j (m + 1) = fp_dbt (xD w 12) j m + (if z = 0 then 1 else 0) := by
  obtain ⟨e27, e28, e29, e30, e25, e26, -⟩ := fx_ap_r w j m (nI s) (nI a) b z
  have hcc : ∀ c, c < 25 ∨ 30 < c → (fx_ap w j m (nI s) (nI a) b z).1 c = w.1 c := fun c hc => fx_ap_ne w j m _ _ _ _ hc
  generalize fx_ap w j m (nI s) (nI a) b z = w2 at *
  obtain ⟨hN, hT, hA, hxT, hxC⟩ := h
  have hnd := hN.2.1.2
  have hnt := hN.1.2
  have h25 : w.1 25 j = nI m := by rw [← hm]; exact (hxC.1 j (by omega)).1
  have e25j : w2.1 25 j = nI (m + 1) := by rw [e25, pk_us, h25, nI_1]
  have e25n : ∀ d, ¬ d = j → w2.1 25 d = w.1 25 d := fun d hd => by rw [e25, pk_un hd]
  have hmj : fd_m (xD w2) j = m + 1 := by show (w2.1 25 j).toNatClampNeg = m + 1; rw [e25j]; exact nI_clamp (by omega)
  have hmn : ∀ d, ¬ d = j → fd_m (xD w2) d = fd_m (xD w) d := fun d hd => by show (w2.1 25 d).toNatClampNeg = (w.1 25 d).toNatClampNeg; rw [e25n d hd]
  have hne : ∀ d k, k < 10 → ¬ (d = j ∧ k = m) → ¬ (10 * d + k = 10 * j + m) := fun d k hk hn e => by
    have : d = j := by omega
    subst this
    exact hn ⟨rfl, by omega⟩
  have hr : ∀ d k, k < 10 → ¬ (d = j ∧ k = m) → w2.1 27 (10 * d + k) = w.1 27 (10 * d + k) ∧ w2.1 28 (10 * d + k) = w.1 28 (10 * d + k) ∧ w2.1 29 (10 * d + k) = w.1 29 (10 * d + k) ∧ w2.1 30 (10 * d + k) = w.1 30 (10 * d + k) := fun d k hk hn => by
    have z := hne d k hk hn
    rw [e27, e28, e29, e30, pk_un z, pk_un z, pk_un z, pk_un z]
    exact ⟨rfl, rfl, rfl, rfl⟩
  have hdn : ∀ d q, q ≤ 10 → ¬ (d = j ∧ m < q) → fp_dbt (w2.1 30) d q = fp_dbt (w.1 30) d q := fun d q hq hn => fp_dbt_cg (fun k hk => (hr d k (by omega) (fun z => hn ⟨z.1, by omega⟩)).2.2.2)
  have hdj : fp_dbt (w2.1 30) j (m + 1) = fp_dbt (w.1 30) j m + (if z = 0 then 1 else 0) := by
    have e1 : w2.1 30 (10 * j + m) = z := by rw [e30, pk_us]
    by_cases hz0 : z = 0
    · rw [fp_dbt_1 (by rw [e1]; exact hz0), hdn j m (by omega) (by omega), if_pos hz0]
    · rw [fp_dbt_0 (by rw [e1]; exact hz0), hdn j m (by omega) (by omega), if_neg hz0]
  have e23 : xD w2 23 = xD w 23 := by
    show fd_s4 _ _ _ _ = fd_s4 _ _ _ _
    rw [hcc 2 (by decide), hcc 3 (by decide), hcc 4 (by decide), hcc 5 (by decide)]
  refine ⟨⟨?_, ?_, fun d hd => ?_, xT_c (fun c hc => hcc c (by omega)) hxT, fun d hd => ?_, fun d h1 h2 => ?_⟩, hmj, hdj⟩
  · unfold fd_N; rw [e23]; exact hN
  · intro t ht
    have z := hT t ht
    have c12 := hcc 12 (by decide)
    have c13 := hcc 13 (by decide)
    have c14 := hcc 14 (by decide)
    have c15 := hcc 15 (by decide)
    have c16 := hcc 16 (by decide)
    show (∃ k, k ≤ 3 ∧ w2.1 12 t = nI k) ∧ (∃ s, s < 10 ∧ w2.1 13 t = nI s) ∧ (∃ v, v ≤ 10000 ∧ w2.1 14 t = nI v) ∧ (w2.1 15 t = -9 ∨ ∃ u, u < t ∧ w2.1 15 t = nI u) ∧ (w2.1 16 t = -9 ∨ ∃ u, u < nt ∧ w2.1 16 t = nI u)
    rw [c12, c13, c14, c15, c16]
    exact z
  · have zA := hA d hd
    by_cases e : d = j
    · subst e
      rw [hmj]
      rw [hm] at zA
      refine ⟨e25j, by omega, fun k hk => ?_, ?_⟩
      · by_cases ek : k = m
        · subst ek
          show ∃ s a, s ≤ 3 ∧ w2.1 27 (10 * d + k) = nI s ∧ a < nt ∧ w2.1 28 (10 * d + k) = nI a ∧ (s = 1 → ∃ b, b < nt ∧ b ≠ a ∧ w2.1 29 (10 * d + k) = nI b) ∧ (s ≠ 1 → w2.1 29 (10 * d + k) = -9) ∧ (w2.1 30 (10 * d + k) = 0 ∨ w2.1 30 (10 * d + k) = 1)
          rw [e27, e28, e29, e30, pk_us, pk_us, pk_us, pk_us]
          exact ⟨s, a, hs, rfl, ha, rfl, hb1, hb2, hz⟩
        · obtain ⟨q1, q2, q3, q4⟩ := hr d k (by omega) (by omega)
          have y := zA.2.2.1 k (by omega)
          show ∃ s a, s ≤ 3 ∧ w2.1 27 (10 * d + k) = nI s ∧ a < nt ∧ w2.1 28 (10 * d + k) = nI a ∧ (s = 1 → ∃ b, b < nt ∧ b ≠ a ∧ w2.1 29 (10 * d + k) = nI b) ∧ (s ≠ 1 → w2.1 29 (10 * d + k) = -9) ∧ (w2.1 30 (10 * d + k) = 0 ∨ w2.1 30 (10 * d + k) = 1)
          rw [q1, q2, q3, q4]
          exact y
      · show fp_dbt (w2.1 30) d (m + 1) ≤ 5
        rw [hdj]
        have z4 : fp_dbt (w.1 30) d m ≤ 5 := zA.2.2.2
        split
        · rename_i hz0
          have y : fp_dbt (w.1 30) d m < 5 := hdb hz0
          omega
        · omega
    · rw [hmn d e]
      refine ⟨?_, zA.2.1, fun k hk => ?_, ?_⟩
      · show w2.1 25 d = _
        rw [e25n d e]; exact zA.1
      · have hk10 := zA.2.1
        obtain ⟨q1, q2, q3, q4⟩ := hr d k (by omega) (by omega)
        have y := zA.2.2.1 k hk
        show ∃ s a, s ≤ 3 ∧ w2.1 27 (10 * d + k) = nI s ∧ a < nt ∧ w2.1 28 (10 * d + k) = nI a ∧ (s = 1 → ∃ b, b < nt ∧ b ≠ a ∧ w2.1 29 (10 * d + k) = nI b) ∧ (s ≠ 1 → w2.1 29 (10 * d + k) = -9) ∧ (w2.1 30 (10 * d + k) = 0 ∨ w2.1 30 (10 * d + k) = 1)
        rw [q1, q2, q3, q4]
        exact y
      · show fp_dbt (w2.1 30) d _ ≤ 5
        rw [hdn d _ zA.2.1 (by omega)]
        exact zA.2.2.2
  · by_cases e : d = j
    · subst e
      rw [hmj, hdj, e26]
      refine ⟨e25j, ?_⟩
      have h26 : w.1 26 d = nI (fp_dbt (w.1 30) d m) := by rw [← hm]; exact (hxC.1 d hd).2
      by_cases hz0 : z = 0
      · rw [if_pos hz0, if_pos hz0, pk_us, h26, nI_1]
      · rw [if_neg hz0, if_neg hz0]; exact h26
    · rw [hmn d e, e25n d e]
      have z1 := hxC.1 d hd
      refine ⟨z1.1, ?_⟩
      have hm10' : fd_m (xD w) d ≤ 10 := by
        by_cases hdn2 : d < nd
        · exact (hA d hdn2).2.1
        · rw [hxC.2 d (by omega) hd]; decide
      rw [hdn d _ hm10' (by omega), e26]
      by_cases hz0 : z = 0
      · rw [if_pos hz0, pk_un e]; exact z1.2
      · rw [if_neg hz0]; exact z1.2
  · rw [hmn d (by omega)]
    exact hxC.2 d h1 h2
theorem XI_drop {w : fb_Wd} {nt nd nx ng j : Nat} (h : XI w nt nd nx ng) (hj : j < nd) : XI (fb_up (fb_up w 25 j (nI 0)) 26 j (nI 0)) nt nd nx ng ∧ fd_m (xD (fb_up (fb_up w 25 j (nI 0)) 26 j (nI 0))) j = 0 := by
  have hcc : ∀ c, ¬ c = 25 → ¬ c = 26 → (fb_up (fb_up w 25 j (nI 0)) 26 j (nI 0)).1 c = w.1 c := fun c h1 h2 => (fb_up_ne _ _ _ h2).trans (fb_up_ne _ _ _ h1)
  have e25 : (fb_up (fb_up w 25 j (nI 0)) 26 j (nI 0)).1 25 = upd (w.1 25) j (nI 0) := rfl
  have e26 : (fb_up (fb_up w 25 j (nI 0)) 26 j (nI 0)).1 26 = upd (w.1 26) j (nI 0) := rfl
  generalize fb_up (fb_up w 25 j (nI 0)) 26 j (nI 0) = w2 at *
  obtain ⟨hN, hT, hA, hxT, hxC⟩ := h
  have hnd := hN.2.1.2
  have hmj : fd_m (xD w2) j = 0 := by show (w2.1 25 j).toNatClampNeg = 0; rw [e25, pk_us]; decide
  have hmn : ∀ d, ¬ d = j → fd_m (xD w2) d = fd_m (xD w) d := fun d hd => by show (w2.1 25 d).toNatClampNeg = (w.1 25 d).toNatClampNeg; rw [e25, pk_un hd]
  have e23 : xD w2 23 = xD w 23 := by
    show fd_s4 _ _ _ _ = fd_s4 _ _ _ _
    rw [hcc 2 (by decide) (by decide), hcc 3 (by decide) (by decide), hcc 4 (by decide) (by decide), hcc 5 (by decide) (by decide)]
  refine ⟨⟨?_, ?_, fun d hd => ?_, xT_c (fun c hc => hcc c (by omega) (by omega)) hxT, fun d hd => ?_, fun d h1 h2 => ?_⟩, hmj⟩
  · unfold fd_N; rw [e23]; exact hN
  · intro t ht
    have z := hT t ht
    show (∃ k, k ≤ 3 ∧ w2.1 12 t = nI k) ∧ (∃ s, s < 10 ∧ w2.1 13 t = nI s) ∧ (∃ v, v ≤ 10000 ∧ w2.1 14 t = nI v) ∧ (w2.1 15 t = -9 ∨ ∃ u, u < t ∧ w2.1 15 t = nI u) ∧ (w2.1 16 t = -9 ∨ ∃ u, u < nt ∧ w2.1 16 t = nI u)
    rw [hcc 12 (by decide) (by decide), hcc 13 (by decide) (by decide), hcc 14 (by decide) (by decide), hcc 15 (by decide) (by decide), hcc 16 (by decide) (by decide)]
    exact z
  · by_cases e : d = j
    · subst e
      rw [hmj]
      exact ⟨by show w2.1 25 d = _; rw [e25, pk_us], by decide, fun k hk => by omega, Nat.zero_le _⟩
    · rw [hmn d e]
      have z := hA d hd
      refine ⟨by show w2.1 25 d = _; rw [e25, pk_un e]; exact z.1, z.2.1, ?_, ?_⟩
      · intro k hk
        show ∃ s a, s ≤ 3 ∧ w2.1 27 (10 * d + k) = nI s ∧ a < nt ∧ w2.1 28 (10 * d + k) = nI a ∧ (s = 1 → ∃ b, b < nt ∧ b ≠ a ∧ w2.1 29 (10 * d + k) = nI b) ∧ (s ≠ 1 → w2.1 29 (10 * d + k) = -9) ∧ (w2.1 30 (10 * d + k) = 0 ∨ w2.1 30 (10 * d + k) = 1)
        rw [hcc 27 (by decide) (by decide), hcc 28 (by decide) (by decide), hcc 29 (by decide) (by decide), hcc 30 (by decide) (by decide)]
        exact z.2.2.1 k hk
      · show fp_dbt (w2.1 30) d _ ≤ 5
        rw [hcc 30 (by decide) (by decide)]
        exact z.2.2.2
  · rw [hcc 30 (by decide) (by decide)]
    by_cases e : d = j
    · subst e
      rw [hmj, e25, e26, pk_us, pk_us]
      exact ⟨rfl, rfl⟩
    · rw [hmn d e, e25, e26, pk_un e, pk_un e]
      exact hxC.1 d hd
  · rw [hmn d (by omega)]
    exact hxC.2 d h1 h2
def fA5 (w w2 : fb_Wd) : Prop := w2.1 59 = w.1 25 ∧ w2.1 60 = w.1 27 ∧ w2.1 61 = w.1 28 ∧ w2.1 62 = w.1 29 ∧ w2.1 63 = w.1 30
theorem fA5_app {w w2 : fb_Wd} (h : fA5 w w2) (d m : Nat) (s a b z : Int32) : fA5 (fx_ap w d m s a b z) (fp_put w2 d m s a b z) := by
  obtain ⟨e27, e28, e29, e30, e25, -, -⟩ := fx_ap_r w d m s a b z
  obtain ⟨h1, h2, h3, h4, h5⟩ := h
  refine ⟨?_, ?_, ?_, ?_, ?_⟩
  · rw [e25]
    show upd (w2.1 59) d (w2.1 59 d + 1) = _
    rw [h1]
  · rw [e27]
    show upd (w2.1 60) _ s = _
    rw [h2]
  · rw [e28]
    show upd (w2.1 61) _ a = _
    rw [h3]
  · rw [e29]
    show upd (w2.1 62) _ b = _
    rw [h4]
  · rw [e30]
    show upd (w2.1 63) _ z = _
    rw [h5]
theorem fR_acts {w w2 : fb_Wd} {nt nd nx ng : Nat} {rk : Nat → Nat} (h : fR1 w nt nd nx ng rk) (hc : ∀ c, (c < 25 ∨ 30 < c) → (c < 59 ∨ 63 < c) → w2.1 c = w.1 c) (hl : w2.2 = w.2) (hX : XI w2 nt nd nx ng) (h5 : fA5 w2 w2) : fR w2 := by
  have hm := h.2.2.2.1
  refine ⟨nt, nd, nx, ng, rk, hX, ?_, ?_, ?_, ?_, ?_, ?_, ?_⟩
  · have z := h.2.1
    have e : xD w2 14 = xD w 14 := congrArg fd_c8 (hc 32 (by decide) (by decide))
    unfold fd_X; rw [e]; exact z
  · have e : xD w2 17 = xD w 17 := hc 35 (by decide) (by decide)
    unfold fd_G; rw [e]; exact h.2.2.1
  · funext i
    have z := congrFun hm i
    match i with
    | 0 => show w2.1 51 = w2.1 12; rw [hc 51 (by decide) (by decide), hc 12 (by decide) (by decide)]; exact z
    | 1 => show w2.1 52 = w2.1 13; rw [hc 52 (by decide) (by decide), hc 13 (by decide) (by decide)]; exact z
    | 2 => show w2.1 53 = w2.1 14; rw [hc 53 (by decide) (by decide), hc 14 (by decide) (by decide)]; exact z
    | 3 => show w2.1 54 = w2.1 15; rw [hc 54 (by decide) (by decide), hc 15 (by decide) (by decide)]; exact z
    | 4 => show w2.1 55 = w2.1 16; rw [hc 55 (by decide) (by decide), hc 16 (by decide) (by decide)]; exact z
    | 5 => show w2.1 56 = w2.1 22; rw [hc 56 (by decide) (by decide), hc 22 (by decide) (by decide)]; exact z
    | 6 => show w2.1 57 = w2.1 23; rw [hc 57 (by decide) (by decide), hc 23 (by decide) (by decide)]; exact z
    | 7 => show w2.1 58 = w2.1 24; rw [hc 58 (by decide) (by decide), hc 24 (by decide) (by decide)]; exact z
    | 8 => exact h5.1
    | 9 => exact h5.2.1
    | 10 => exact h5.2.2.1
    | 11 => exact h5.2.2.2.1
    | 12 => exact h5.2.2.2.2
    | 13 => show fd_c8 (w2.1 64) = fd_c8 (w2.1 31); rw [hc 64 (by decide) (by decide), hc 31 (by decide) (by decide)]; exact z
    | 14 => show fd_c8 (w2.1 65) = fd_c8 (w2.1 32); rw [hc 65 (by decide) (by decide), hc 32 (by decide) (by decide)]; exact z
    | 15 => show fd_c8 (w2.1 66) = fd_c8 (w2.1 33); rw [hc 66 (by decide) (by decide), hc 33 (by decide) (by decide)]; exact z
    | 16 => show fd_c8 (w2.1 67) = fd_c8 (w2.1 34); rw [hc 67 (by decide) (by decide), hc 34 (by decide) (by decide)]; exact z
    | 17 => show w2.1 69 = w2.1 35; rw [hc 69 (by decide) (by decide), hc 35 (by decide) (by decide)]; exact z
    | 18 => show w2.1 70 = w2.1 36; rw [hc 70 (by decide) (by decide), hc 36 (by decide) (by decide)]; exact z
    | 19 => show w2.1 71 = w2.1 37; rw [hc 71 (by decide) (by decide), hc 37 (by decide) (by decide)]; exact z
    | 20 => show w2.1 72 = w2.1 38; rw [hc 72 (by decide) (by decide), hc 38 (by decide) (by decide)]; exact z
    | 21 => show w2.1 73 = w2.1 39; rw [hc 73 (by decide) (by decide), hc 39 (by decide) (by decide)]; exact z
    | 22 => show w2.1 74 = w2.1 40; rw [hc 74 (by decide) (by decide), hc 40 (by decide) (by decide)]; exact z
    | 23 =>
      show fd_s4 (w2.1 46 8) (w2.1 46 14) (w2.1 46 27) (w2.1 46 38) = fd_s4 (w2.1 2 12) (w2.1 3 9) (w2.1 4 4) (w2.1 5 6)
      rw [hc 46 (by decide) (by decide), hc 2 (by decide) (by decide), hc 3 (by decide) (by decide), hc 4 (by decide) (by decide), hc 5 (by decide) (by decide)]; exact z
    | i + 24 => rfl
  · exact fr_m h.2.2.2.2.1 (fun c hh => hc c (by omega) (by omega))
  · have e : xD w2 4 = xD w 4 := hc 16 (by decide) (by decide)
    rw [e]; exact h.2.2.2.2.2.1
  · rw [hc 46 (by decide) (by decide), hc 0 (by decide) (by decide), hc 47 (by decide) (by decide), hc 9 (by decide) (by decide)]; exact h.2.2.2.2.2.2.1
  · rw [hl]; exact h.2.2.2.2.2.2.2
theorem XI_m {w w2 : fb_Wd} {nt nd nx ng : Nat} (hc : ∀ c, c < 46 → w2.1 c = w.1 c) (h : XI w nt nd nx ng) : XI w2 nt nd nx ng := XI_c (fun c h1 _ => hc c (by omega)) h
theorem fA5_0 {w : fb_Wd} (hm : mD w = xD w) : fA5 w w := ⟨congrFun hm 8, congrFun hm 9, congrFun hm 10, congrFun hm 11, congrFun hm 12⟩
theorem r_act {l : Launch} {w : fb_Wd} (h : fR w) {d s a b z : Int32} (hz : z = 0 ∨ z = 1) : fPair l tX7_act tX8_act [.int d, .int s, .int a, .int b, .int z] w := by
  obtain ⟨nt, nd, nx, ng, rk, h⟩ := h
  have hX := h.1
  have hx := h.2.1
  have hnt := hX.1.1.2
  have hnd := hX.1.2.1.2
  have hnx := hX.1.2.2.1.2
  have hng := hX.1.2.2.2.2
  refine c_X7_act hX hz (fun hb => ?_) (fun j hj ej ha hf => ?_) (fun j hj ej ha hf hlt b2 hb1 hb2 => ?_)
  · have m := h.m (c0 w)
    exact c_X8_act m.2.1 m.2.2.1 m.2.2.2 hz (fun _ => ⟨rfl, h.R⟩) (fun j hj ej ha _ => absurd ⟨⟨j, hj, ej⟩, ha⟩ hb) (fun j hj ej ha _ _ _ _ _ => absurd ⟨⟨j, hj, ej⟩, ha⟩ hb)
  · have m := h.m (c0 w)
    refine c_X8_act m.2.1 m.2.2.1 m.2.2.2 hz (fun hb => absurd ⟨⟨j, hj, ej⟩, ha⟩ hb) (fun _ _ _ _ _ => ⟨rfl, h.R⟩) (fun j2 hj2 ej2 _ hf2 _ _ _ _ => ?_)
    obtain rfl := fx_inj ej ej2 (by omega) (by omega)
    rw [m.1] at hf2
    exact absurd hf hf2
  · have m := h.m (w1 := fx_ap w j (fd_m (xD w) j) s a b2 z) (fun c hc => fx_ap_ne _ _ _ _ _ _ _ (by omega))
    refine c_X8_act m.2.1 m.2.2.1 m.2.2.2 hz (fun hb => absurd ⟨⟨j, hj, ej⟩, ha⟩ hb) (fun j2 hj2 ej2 _ hf2 => ?_) (fun j2 hj2 ej2 _ _ _ b3 hb3 hb4 => ?_)
    · obtain rfl := fx_inj ej ej2 (by omega) (by omega)
      rw [m.1] at hf2
      exact absurd hf2 hf
    · obtain rfl := fx_inj ej ej2 (by omega) (by omega)
      have e3 : b3 = b2 := by
        by_cases e : s = 1
        · rw [hb1 e, hb3 e]
        · rw [hb2 e, hb4 e]
      subst e3
      rw [m.1]
      obtain ⟨s', hs', rfl⟩ := nI_ofle (n := 3) ha.1.1 ha.1.2 (by decide)
      obtain ⟨a', ha', rfl⟩ := ha.2.1
      have hXa := XI_app (b := b3) (z := z) hX hj rfl hlt hs' ha' (fun e => by
        subst e
        obtain ⟨⟨q, hq, rfl⟩, hne⟩ := ha.2.2 rfl
        exact ⟨q, hq, fun y => hne (by rw [y]), hb1 rfl⟩) (fun e => hb2 (fun y => e ((nI_eq (by omega) (by decide)).mp y))) hz (fun hz0 => by
        have h5 := (hX.kq j2 hj2).2
        rcases Nat.lt_or_ge (fp_dbt (xD w 12) j2 (fd_m (xD w) j2)) 5 with y | y
        · exact y
        · exact absurd (Or.inr ⟨hz0, by omega⟩) hf)
      refine ⟨rfl, fR_acts h (fun c h1 h2 => (fp_put_ne _ _ _ _ _ _ _ h2).trans (fx_ap_ne _ _ _ _ _ _ _ h1)) (fx_ap_r w j2 _ _ _ _ _).2.2.2.2.2.2 (XI_m (fun c hc => fp_put_ne _ _ _ _ _ _ _ (by omega)) hXa.1) ?_⟩
      have z5 := fA5_app (w := w) (w2 := fx_ap w j2 (fd_m (xD w) j2) (nI s') (nI a') b3 z) (by
        have y := fA5_0 h.2.2.2.1
        unfold fA5 at y ⊢
        rw [fx_ap_ne _ _ _ _ _ _ _ (by decide), fx_ap_ne _ _ _ _ _ _ _ (by decide), fx_ap_ne _ _ _ _ _ _ _ (by decide), fx_ap_ne _ _ _ _ _ _ _ (by decide), fx_ap_ne _ _ _ _ _ _ _ (by decide)]
        exact y) j2 (fd_m (xD w) j2) (nI s') (nI a') b3 z
      unfold fA5 at z5 ⊢
      rw [fp_put_ne _ _ _ _ _ _ _ (c := 25) (by decide), fp_put_ne _ _ _ _ _ _ _ (c := 27) (by decide), fp_put_ne _ _ _ _ _ _ _ (c := 28) (by decide), fp_put_ne _ _ _ _ _ _ _ (c := 29) (by decide), fp_put_ne _ _ _ _ _ _ _ (c := 30) (by decide)]
      exact z5
theorem fx_pw_2 (w : fb_Wd) (d : Nat) (f : Nat → Int32) (b : Nat) : ∀ k, (fx_pw w d f b k).2 = w.2
  | 0 => rfl
  | k + 1 => by rw [fx_pw, (fx_ap_r _ _ _ _ _ _ _).2.2.2.2.2.2, fx_pw_2 w d f b k]
theorem fp_pw_2 (w : fb_Wd) (d : Nat) (f : Nat → Int32) (b : Nat) : ∀ k, (fp_pw w d f b k).2 = w.2
  | 0 => rfl
  | k + 1 => by
    rw [fp_pw]
    show (fp_pw w d f b k).2 = w.2
    exact fp_pw_2 w d f b k
theorem XI_pw {w : fb_Wd} {nt nd nx ng j b n : Nat} {f : Nat → Int32} (h : XI w nt nd nx ng) (hj : j < nd) (hn : n ≤ 10) (hok : fa_ok nt f b n) (hz : fa_z f b n ≤ 5) : ∀ k, k ≤ n → XI (fx_pw w j f b k) nt nd nx ng ∧ fd_m (xD (fx_pw w j f b k)) j = k ∧ fp_dbt (xD (fx_pw w j f b k) 12) j k = fa_z f b k
  | 0, _ => ⟨(XI_drop h hj).1, (XI_drop h hj).2, rfl⟩
  | k + 1, hk => by
    obtain ⟨hX, hm, hd⟩ := XI_pw h hj hn hok hz k (by omega)
    have h1 := hok k (by omega)
    obtain ⟨s', hs', es⟩ := nI_ofle (n := 3) h1.1.1.1 h1.1.1.2 (by decide)
    obtain ⟨a', ha', ea⟩ := h1.1.2.1
    have hmono : ∀ q, k + 1 + q = n → fa_z f b (k + 1) ≤ fa_z f b n := by
      intro q
      induction q generalizing n with
      | zero => intro e; rw [← e]; exact Nat.le_refl _
      | succ q ih =>
        intro e
        have e2 : n = (k + 1 + q) + 1 := by omega
        subst e2
        have i1 := ih (n := k + 1 + q) (by omega) (fun i hi => hok i (by omega)) (Nat.le_trans (by show fp_cnt _ _ ≤ fp_cnt _ (_ + 1); rw [fp_cnt]; exact Nat.le_add_right _ _) hz) (by omega) rfl
        exact Nat.le_trans i1 (by show fp_cnt _ _ ≤ fp_cnt _ (_ + 1); rw [fp_cnt]; exact Nat.le_add_right _ _)
    have hzk : fa_z f b (k + 1) = fa_z f b k + (if f (b + 4 * k + 3) = 0 then 1 else 0) := by
      show fp_cnt _ (k + 1) = _
      rw [fp_cnt]
      by_cases e : f (b + 4 * k + 3) = 0
      · rw [if_pos e, decide_eq_true e]; rfl
      · rw [if_neg e, decide_eq_false e]; rfl
    have hsz : fa_s f b k = 0 ↔ f (b + 4 * k + 3) = 0 := by
      obtain ⟨q, hq, eq⟩ := nI_ofle (n := 1) h1.2.1 h1.2.2 (by decide)
      unfold fa_s
      rw [eq]
      rcases (show q = 0 ∨ q = 1 by omega) with rfl | rfl
      · decide
      · decide
    have hzz : fa_s f b k = 0 ∨ fa_s f b k = 1 := by
      unfold fa_s
      split
      · exact Or.inr rfl
      · exact Or.inl rfl
    have hle := hmono (n - (k + 1)) (by omega)
    have happ := XI_app (b := fa_b f b k) (z := fa_s f b k) hX hj hm (by omega) hs' ha' (fun e => by
      subst e
      obtain ⟨⟨q, hq, eq⟩, hne⟩ := h1.1.2.2 es
      refine ⟨q, hq, fun y => hne (by rw [ea, eq, y]), ?_⟩
      unfold fa_b
      exact (if_pos es).trans eq) (fun e => by
      unfold fa_b
      exact if_neg (fun y => e ((nI_eq (by omega) (by decide)).mp (es.symm.trans y)))) hzz (fun hz0 => by
      rw [hd]
      rw [hzk, if_pos (hsz.mp hz0)] at hle
      omega)
    rw [fx_pw, es, ea]
    refine ⟨happ.1, happ.2.1, ?_⟩
    rw [happ.2.2, hd, hzk]
    by_cases e : f (b + 4 * k + 3) = 0
    · rw [if_pos e, if_pos (hsz.mpr e)]
    · rw [if_neg e, if_neg (fun y => e (hsz.mp y))]
theorem fA5_pw {w w2 : fb_Wd} {j b n : Nat} {f g : Nat → Int32} (h : fA5 w w2) (hfg : ∀ i, i < 4 * n → g (b + i) = f (b + i)) : ∀ k, k ≤ n → fA5 (fx_pw w j f b k) (fp_pw w2 j g b k)
  | 0, _ => by
    obtain ⟨h1, h2, h3, h4, h5⟩ := h
    refine ⟨?_, h2, h3, h4, h5⟩
    show upd (w2.1 59) j (nI 0) = upd (w.1 25) j (nI 0)
    rw [h1]
  | k + 1, hk => by
    have ih := fA5_pw (j := j) h hfg k (by omega)
    have e0 : g (b + 4 * k) = f (b + 4 * k) := hfg (4 * k) (by omega)
    have e1 : g (b + 4 * k + 1) = f (b + 4 * k + 1) := hfg (4 * k + 1) (by omega)
    have e2 : g (b + 4 * k + 2) = f (b + 4 * k + 2) := hfg (4 * k + 2) (by omega)
    have e3 : g (b + 4 * k + 3) = f (b + 4 * k + 3) := hfg (4 * k + 3) (by omega)
    have eb : fa_b g b k = fa_b f b k := by unfold fa_b; rw [e0, e2]
    have es : fa_s g b k = fa_s f b k := by unfold fa_s; rw [e3]
    rw [fx_pw, fp_pw, e0, e1, eb, es]
    exact fA5_app ih j k _ _ _ _
theorem fa_cg {nt b n : Nat} {f g : Nat → Int32} (hfg : ∀ i, i < 4 * n → g (b + i) = f (b + i)) : (fa_ok nt g b n ↔ fa_ok nt f b n) ∧ fa_z g b n = fa_z f b n := by
  have e : ∀ k, k < n → g (b + 4 * k) = f (b + 4 * k) ∧ g (b + 4 * k + 1) = f (b + 4 * k + 1) ∧ g (b + 4 * k + 2) = f (b + 4 * k + 2) ∧ g (b + 4 * k + 3) = f (b + 4 * k + 3) := fun k hk => ⟨hfg (4 * k) (by omega), hfg (4 * k + 1) (by omega), hfg (4 * k + 2) (by omega), hfg (4 * k + 3) (by omega)⟩
  refine ⟨⟨fun h k hk => ?_, fun h k hk => ?_⟩, fp_cnt_cg (fun k hk => by rw [(e k hk).2.2.2])⟩
  · have z := h k hk
    unfold fa_1 at z ⊢
    rw [(e k hk).1, (e k hk).2.1, (e k hk).2.2.1, (e k hk).2.2.2] at z
    exact z
  · have z := h k hk
    unfold fa_1 at z ⊢
    rw [(e k hk).1, (e k hk).2.1, (e k hk).2.2.1, (e k hk).2.2.2]
    exact z
theorem r_acts {l : Launch} {w : fb_Wd} (h : fR w) {d r : Int32} : fPair l tX7_acts tX8_acts [.int d, .int r] w := by
  obtain ⟨nt, nd, nx, ng, rk, h⟩ := h
  have hX := h.1
  have hx := h.2.1
  have hnt := hX.1.1.2
  have hnd := hX.1.2.1.2
  have hnx := hX.1.2.2.1.2
  have hng := hX.1.2.2.2.2
  have hiff : (∃ a, a < 6 ∧ r = nI a) ↔ (0 ≤ r ∧ r ≤ 5) := fx_rg (n := 5) (by decide)
  have hz := h.2.2.2.2.1
  refine c_X7_acts hX (fr_xz hz) (fun hb => ?_) (fun j a hj ej ha ea hm => ?_) (fun j a p hj ej ha ea hp ep h4 => ?_) (fun j a p hj ej ha ea hp ep h4 hno => ?_) (fun j a p hj ej ha ea hp ep h4 hok hz5 => ?_)
  · have m := h.m (c0 w)
    exact c_X8_acts m.2.1 m.2.2.1 m.2.2.2 (fr_sz hz) (fun _ => ⟨rfl, h.R⟩) (fun j a hj ej ha ea _ => absurd ⟨⟨j, hj, ej⟩, a, ha, ea⟩ hb) (fun j a _ hj ej ha ea _ _ _ => absurd ⟨⟨j, hj, ej⟩, a, ha, ea⟩ hb) (fun j a _ hj ej ha ea _ _ _ _ => absurd ⟨⟨j, hj, ej⟩, a, ha, ea⟩ hb) (fun j a _ hj ej ha ea _ _ _ _ _ => absurd ⟨⟨j, hj, ej⟩, a, ha, ea⟩ hb)
  · have m := fun v1 v => h.m (c46_up (a := 9) (c46_up (a := 0) (xSL.c46 (xS0 w) (by decide)) 9 v1 (by decide)) 1 v (by decide))
    have hz1 : fr_Z (fb_up (fb_up w 0 9 (nI 1)) 9 1 (w.1 9 1 + 1)) := fr_m hz (fun c hc => by rw [fb_up_ne _ _ _ (by omega), fb_up_ne _ _ _ (by omega)])
    have g10 : (fb_up (fb_up w 0 9 (nI 1)) 9 1 (w.1 9 1 + 1)).1 10 = w.1 10 := by rw [fb_up_ne _ _ _ (by decide), fb_up_ne _ _ _ (by decide)]
    have hn1 := (fr_neg hz1 ha).mpr (by rw [g10]; exact hm)
    refine c_X8_acts (m _ _).2.1 (m _ _).2.2.1 (m _ _).2.2.2 (fr_sz hz1) (fun hb => absurd ⟨⟨j, hj, ej⟩, hiff.mp ⟨a, ha, ea⟩⟩ hb) (fun _ _ _ _ _ _ _ => ⟨rfl, fR_met h (xS0 w) (sX.rf _)⟩) (fun j2 a2 p2 hj2 ej2 ha2 ea2 hp2 ep2 _ => ?_) (fun j2 a2 p2 hj2 ej2 ha2 ea2 hp2 ep2 _ _ => ?_) (fun j2 a2 p2 hj2 ej2 ha2 ea2 hp2 ep2 _ _ _ => ?_)
    all_goals
      obtain rfl := fx_inj ea ea2 (by omega) (by omega)
      rw [ep2] at hn1
      exact absurd hn1 (nI_pos (by omega))
  · have m := fun v1 v => h.m (c46_up (a := 9) (c46_up (a := 0) (xSL.c46 (xS0 w) (by decide)) 9 v1 (by decide)) 5 v (by decide))
    have hz1 : fr_Z (fb_up (fb_up w 0 9 (nI 5)) 9 5 (w.1 9 5 + 1)) := fr_m hz (fun c hc => by rw [fb_up_ne _ _ _ (by omega), fb_up_ne _ _ _ (by omega)])
    have g10 : (fb_up (fb_up w 0 9 (nI 5)) 9 5 (w.1 9 5 + 1)).1 10 = w.1 10 := by rw [fb_up_ne _ _ _ (by decide), fb_up_ne _ _ _ (by decide)]
    have e48 := (fr_eq hz1 ha hp (by rw [g10]; exact ep)).1
    refine c_X8_acts (m _ _).2.1 (m _ _).2.2.1 (m _ _).2.2.2 (fr_sz hz1) (fun hb => absurd ⟨⟨j, hj, ej⟩, hiff.mp ⟨a, ha, ea⟩⟩ hb) (fun j2 a2 hj2 ej2 ha2 ea2 hneg => ?_) (fun _ _ _ _ _ _ _ _ _ _ => ⟨rfl, fR_met h (xS0 w) (sX.rf _)⟩) (fun j2 a2 p2 hj2 ej2 ha2 ea2 hp2 ep2 h42 _ => ?_) (fun j2 a2 p2 hj2 ej2 ha2 ea2 hp2 ep2 h42 _ _ => ?_)
    all_goals obtain rfl := fx_inj ea ea2 (by omega) (by omega)
    · rw [e48] at hneg
      exact absurd hneg (nI_pos (by omega))
    all_goals
      obtain rfl := fx_inj e48 ep2 (by omega) (by omega)
      exact absurd h42 h4
  · have m := fun v1 v => h.m (c46_up (a := 9) (c46_up (a := 0) (xSL.c46 (xS0 w) (by decide)) 9 v1 (by decide)) 3 v (by decide))
    have hz1 : fr_Z (fb_up (fb_up w 0 9 (nI 3)) 9 3 (w.1 9 3 + 1)) := fr_m hz (fun c hc => by rw [fb_up_ne _ _ _ (by omega), fb_up_ne _ _ _ (by omega)])
    have g10 : (fb_up (fb_up w 0 9 (nI 3)) 9 3 (w.1 9 3 + 1)).1 10 = w.1 10 := by rw [fb_up_ne _ _ _ (by decide), fb_up_ne _ _ _ (by decide)]
    have e48 := (fr_eq hz1 ha hp (by rw [g10]; exact ep)).1
    have e49 := (fr_eq hz1 ha hp (by rw [g10]; exact ep)).2
    have g11 : (fb_up (fb_up w 0 9 (nI 3)) 9 3 (w.1 9 3 + 1)).1 11 = w.1 11 := by rw [fb_up_ne _ _ _ (by decide), fb_up_ne _ _ _ (by decide)]
    rw [g11] at e49
    have hcg := fa_cg (nt := nt) (b := 40 * a) (n := p / 4) (f := w.1 11) (g := (fb_up (fb_up w 0 9 (nI 3)) 9 3 (w.1 9 3 + 1)).1 49) (fun i hi => e49 i (by omega))
    refine c_X8_acts (m _ _).2.1 (m _ _).2.2.1 (m _ _).2.2.2 (fr_sz hz1) (fun hb => absurd ⟨⟨j, hj, ej⟩, hiff.mp ⟨a, ha, ea⟩⟩ hb) (fun j2 a2 hj2 ej2 ha2 ea2 hneg => ?_) (fun j2 a2 p2 hj2 ej2 ha2 ea2 hp2 ep2 h42 => ?_) (fun _ _ _ _ _ _ _ _ _ _ _ => ⟨rfl, fR_met h (xS0 w) (sX.rf _)⟩) (fun j2 a2 p2 hj2 ej2 ha2 ea2 hp2 ep2 h42 hok2 hz2 => ?_)
    all_goals obtain rfl := fx_inj ea ea2 (by omega) (by omega)
    · rw [e48] at hneg
      exact absurd hneg (nI_pos (by omega))
    · obtain rfl := fx_inj e48 ep2 (by omega) (by omega)
      exact absurd h4 h42
    · obtain rfl := fx_inj e48 ep2 (by omega) (by omega)
      exact absurd ⟨hcg.1.mp hok2, by rw [← hcg.2]; exact hz2⟩ hno
  · have hpn := fun c hc => fx_pw_ne w j (w.1 11) (40 * a) (c := c) hc (p / 4)
    have m := h.m (w1 := fx_pw w j (w.1 11) (40 * a) (p / 4)) (fun c hc => hpn c (by omega))
    have hsz : fm_sz (fx_pw w j (w.1 11) (40 * a) (p / 4)) := by
      unfold fm_sz
      rw [hpn 48 (by decide)]
      exact fr_sz hz
    have e48 := (fr_eq hz ha hp ep).1
    have e49 := (fr_eq hz ha hp ep).2
    have hcg := fa_cg (nt := nt) (b := 40 * a) (n := p / 4) (f := w.1 11) (g := (fx_pw w j (w.1 11) (40 * a) (p / 4)).1 49) (fun i hi => by rw [hpn 49 (by decide)]; exact e49 i (by omega))
    refine c_X8_acts m.2.1 m.2.2.1 m.2.2.2 hsz (fun hb => absurd ⟨⟨j, hj, ej⟩, hiff.mp ⟨a, ha, ea⟩⟩ hb) (fun j2 a2 hj2 ej2 ha2 ea2 hneg => ?_) (fun j2 a2 p2 hj2 ej2 ha2 ea2 hp2 ep2 h42 => ?_) (fun j2 a2 p2 hj2 ej2 ha2 ea2 hp2 ep2 h42 hno => ?_) (fun j2 a2 p2 hj2 ej2 ha2 ea2 hp2 ep2 h42 hok2 hz2 => ?_)
    all_goals obtain rfl := fx_inj ea ea2 (by omega) (by omega)
    · rw [hpn 48 (by decide), e48] at hneg
      exact absurd hneg (nI_pos (by omega))
    all_goals
      rw [hpn 48 (by decide)] at ep2
      obtain rfl := fx_inj e48 ep2 (by omega) (by omega)
    · exact absurd h4 h42
    · exact absurd ⟨hcg.1.mpr hok, by rw [hcg.2]; exact hz5⟩ hno
    · obtain rfl := fx_inj ej ej2 (by omega) (by omega)
      have hXp := (XI_pw hX hj (by omega) hok hz5 (p2 / 4) (Nat.le_refl _)).1
      refine ⟨rfl, fR_acts h (fun c h1 h2 => (fp_pw_ne _ _ _ _ h2 _).trans (hpn c h1)) ((fp_pw_2 _ _ _ _ _).trans (fx_pw_2 _ _ _ _ _)) (XI_m (fun c hc => fp_pw_ne _ _ _ _ (by omega) _) hXp) ?_⟩
      have z5 := fA5_pw (w := w) (w2 := fx_pw w j2 (w.1 11) (40 * a2) (p2 / 4)) (j := j2) (b := 40 * a2) (n := p2 / 4) (f := w.1 11) (g := (fx_pw w j2 (w.1 11) (40 * a2) (p2 / 4)).1 49) (by
        have y := fA5_0 h.2.2.2.1
        unfold fA5 at y ⊢
        rw [hpn 59 (by decide), hpn 60 (by decide), hpn 61 (by decide), hpn 62 (by decide), hpn 63 (by decide)]
        exact y) (fun i hi => by rw [hpn 49 (by decide)]; exact e49 i (by omega)) (p2 / 4) (Nat.le_refl _)
      unfold fA5 at z5 ⊢
      rw [fp_pw_ne _ _ _ _ (c := 25) (by decide), fp_pw_ne _ _ _ _ (c := 27) (by decide), fp_pw_ne _ _ _ _ (c := 28) (by decide), fp_pw_ne _ _ _ _ (c := 29) (by decide), fp_pw_ne _ _ _ _ (c := 30) (by decide)]
      exact z5
