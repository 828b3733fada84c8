theorem fR_sh {w w1 w2 : fb_Wd} {nt nd nx ng : Nat} {rk : Nat → Nat} {a b a2 b2 : Int64} (h : fR1 w nt nd nx ng rk) (hs : xSL [6, 7, 8, 41, 42, 43, 44, 45] w w1) (hx : sX (fb_ul (fb_ul w1 0 11 a) 0 12 b) w2) (ea : a2 = a) (eb : b2 = b) : fR (fb_ul (fb_ul w2 46 3 a2) 46 4 b2) := by
  subst ea; subst eb
  have f0 : w2.1 0 = w.1 0 := (hx.2.1 0 (by decide)).trans (hs.1 0 (by decide))
  have e46 : w1.1 46 = w.1 46 := hs.1 46 (by decide)
  refine fR_end h (fun c h1 h2 => (hx.2.1 c (by omega)).trans (hs.1 c (fun z => by simp at z; omega))) ((mD_ul _ _ _ _).trans ((mD_ul _ _ _ _).trans (hx.1.trans (mD_c (hs.c46 (by decide)))))) ((hx.2.1 48 (by decide)).trans (hs.1 48 (by decide))) ((hx.2.1 49 (by decide)).trans (hs.1 49 (by decide))) ⟨?_, ?_, ?_⟩ ⟨?_, ?_⟩
  · show w2.1 46 2 = w2.1 0 10
    rw [hx.2.2.1.2, f0]
    show w1.1 46 2 = _
    rw [e46]; exact h.2.2.2.2.2.2.1.1
  · show w2.1 46 0 = w2.1 0 9
    rw [hx.2.2.1.1, f0]
    show w1.1 46 0 = _
    rw [e46]; exact h.2.2.2.2.2.2.1.2.1
  · show w2.1 47 = w2.1 9
    rw [hx.2.1 47 (by decide), hx.2.1 9 (by decide)]
    show w1.1 47 = w1.1 9
    rw [hs.1 47 (by decide), hs.1 9 (by decide)]; exact h.2.2.2.2.2.2.1.2.2
  · have z := hx.2.2.2 0 11 (by decide)
    simp [fb_ul] at z ⊢
    exact z.symm
  · have z := hx.2.2.2 0 12 (by decide)
    simp [fb_ul] at z ⊢
    exact z.symm
theorem r_habit {l : Launch} {w : fb_Wd} (h : fR w) {pl fr to : Int32} : fPair l tX7_habit tX8_habit [.int pl, .int fr, .int to] w := by
  obtain ⟨nt, nd, nx, ng, rk, h⟩ := h
  have hX := h.1
  have hx := h.2.1
  have hnt := hX.1.1.2
  have hnd := hX.1.2.1.2
  have hnx := hX.1.2.2.1.2
  have hng := hX.1.2.2.2.2
  have hiff : (∃ q, q < 8 ∧ pl = nI q) ↔ (0 ≤ pl ∧ pl ≤ 7) := fx_rg (n := 7) (by decide)
  refine c_X7_habit hX hx (fun hb => ?_) (fun p1 p2 hz w1 hs => ?_) (fun p1 p2 hz h20 w1 hs => ?_) (fun p1 p2 hz h20 w1 hs => ?_)
  · have m := h.m (c0 w)
    exact c_X8_habit m.2.1 m.2.2.1 m.2.2.2 (fun _ => ⟨rfl, h.R⟩) (fun p1 p2 _ _ _ => absurd ⟨hiff.mpr p1, p2⟩ hb) (fun p1 p2 _ _ _ _ => absurd ⟨hiff.mpr p1, p2⟩ hb) (fun p1 p2 _ _ _ _ => absurd ⟨hiff.mpr p1, p2⟩ hb)
  · have m := fun v1 v => h.m (c46_up (a := 9) (c46_up (a := 0) (xSL.c46 hs (by decide)) 9 v1 (by decide)) 4 v (by decide))
    refine c_X8_habit (m _ _).2.1 (m _ _).2.2.1 (m _ _).2.2.2 (fun hb => absurd ⟨hiff.mp p1, p2⟩ hb) (fun _ _ _ w2 hs2 => ⟨rfl, fR_met h hs (sM.toX hs2 (by decide))⟩) (fun _ _ hz2 _ w2 hs2 => ?_) (fun _ _ hz2 _ w2 hs2 => ?_)
    all_goals
      rw [(m _ _).1] at hz2
      omega
  · have m := fun v1 v => h.m (w1 := fb_ul (fb_ul w1 0 11 v1) 0 12 v) (show ∀ c, 46 ≤ c → w1.1 c = w.1 c from xSL.c46 hs (by decide))
    refine c_X8_habit (m _ _).2.1 (m _ _).2.2.1 (m _ _).2.2.2 (fun hb => absurd ⟨hiff.mp p1, p2⟩ hb) (fun _ _ hz2 w2 hs2 => ?_) (fun _ _ hz2 _ w2 hs2 => ?_) (fun _ _ hz2 h22 w2 hs2 => ?_)
    · rw [(m _ _).1] at hz2
      omega
    · exact ⟨rfl, fR_sh h hs (sM.toX hs2 (by decide)) (by rw [(m _ _).1]) (by rw [(m _ _).1])⟩
    · rw [(m _ _).1] at h22
      exact absurd h20 h22
  · have m := fun v1 v => h.m (w1 := fb_ul (fb_ul w1 0 11 v1) 0 12 v) (show ∀ c, 46 ≤ c → w1.1 c = w.1 c from xSL.c46 hs (by decide))
    refine c_X8_habit (m _ _).2.1 (m _ _).2.2.1 (m _ _).2.2.2 (fun hb => absurd ⟨hiff.mp p1, p2⟩ hb) (fun _ _ hz2 w2 hs2 => ?_) (fun _ _ hz2 h22 w2 hs2 => ?_) (fun _ _ hz2 h22 w2 hs2 => ?_)
    · rw [(m _ _).1] at hz2
      omega
    · rw [(m _ _).1] at h22
      exact absurd h22 h20
    · exact ⟨rfl, fR_sh h hs (sM.toX hs2 (by decide)) (by rw [(m _ _).1]) (by rw [(m _ _).1])⟩
theorem r_otherwise {l : Launch} {w : fb_Wd} (h : fR w) {r z f : Int32} (hz : z = 0 ∨ z = 1) : fPair l tX7_otherwise tX8_otherwise [.int r, .int z, .int f] w := by
  obtain ⟨nt, nd, nx, ng, rk, h⟩ := h
  have hX := h.1
  have hx := h.2.1
  have hnt := hX.1.1.2
  have hnd := hX.1.2.1.2
  have hnx := hX.1.2.2.1.2
  have hng := hX.1.2.2.2.2
  refine c_X7_otherwise hX hx (fun hb => ?_) (fun q hq eq h1 h2 h3 h4 w1 hs => ?_)
  · have m := h.m (c0 w)
    exact c_X8_otherwise m.2.1 m.2.2.1 m.2.2.2 hz (fun _ => ⟨rfl, h.R⟩) (fun h1 h2 h3 h4 _ _ => absurd ⟨h1, h2, h3, h4⟩ hb)
  · subst eq
    have m := fun v => h.m (c46_up (a := 0) (xSL.c46 hs (by decide)) 10 v (by decide))
    refine c_X8_otherwise (m _).2.1 (m _).2.2.1 (m _).2.2.2 hz (fun hb => absurd ⟨h1, h2, h3, h4⟩ hb) (fun _ _ _ _ w2 hs2 => ?_)
    exact ⟨by rw [(m _).1], fR_ask h hs ((sX_text8 _ _ _ _).tr (sM.toX hs2 (by decide))) (by rw [(m _).1])⟩
theorem r_freed {l : Launch} {w : fb_Wd} (h : fR w) {r z f : Int32} (hz : z = 0 ∨ z = 1) : fPair l tX7_freed tX8_freed [.int r, .int z, .int f] w := by
  obtain ⟨nt, nd, nx, ng, rk, h⟩ := h
  have hX := h.1
  have hx := h.2.1
  have hnt := hX.1.1.2
  have hnd := hX.1.2.1.2
  have hnx := hX.1.2.2.1.2
  have hng := hX.1.2.2.2.2
  refine c_X7_freed hX hx (fun hb => ?_) (fun q hq eq h1 h2 h3 h4 w1 hs => ?_)
  · have m := h.m (c0 w)
    exact c_X8_freed m.2.1 m.2.2.1 m.2.2.2 hz (fun _ => ⟨rfl, h.R⟩) (fun h1 h2 h3 h4 _ _ => absurd ⟨h1, h2, h3, h4⟩ hb)
  · subst eq
    have m := fun v => h.m (c46_up (a := 0) (xSL.c46 hs (by decide)) 10 v (by decide))
    refine c_X8_freed (m _).2.1 (m _).2.2.1 (m _).2.2.2 hz (fun hb => absurd ⟨h1, h2, h3, h4⟩ hb) (fun _ _ _ _ w2 hs2 => ?_)
    exact ⟨by rw [(m _).1], fR_ask h hs ((sX_text8 _ _ _ _).tr (sM.toX hs2 (by decide))) (by rw [(m _).1])⟩
theorem r_shift {l : Launch} {w : fb_Wd} (h : fR w) {r z f so : Int32} (hz : z = 0 ∨ z = 1) : fPair l tX7_shift tX8_shift [.int r, .int z, .int f, .int so] w := by
  obtain ⟨nt, nd, nx, ng, rk, h⟩ := h
  have hX := h.1
  have hx := h.2.1
  have hnt := hX.1.1.2
  have hnd := hX.1.2.1.2
  have hnx := hX.1.2.2.1.2
  have hng := hX.1.2.2.2.2
  refine c_X7_shift hX hx (fun hb => ?_) (fun q hq eq h1 h2 h3 h4 h5 h6 w1 hs => ?_)
  · have m := h.m (c0 w)
    exact c_X8_shift m.2.1 m.2.2.1 m.2.2.2 hz (fun _ => ⟨rfl, h.R⟩) (fun h1 h2 _ _ => absurd ⟨h1, h2⟩ hb)
  · subst eq
    have m := fun v => h.m (c46_up (a := 0) (xSL.c46 hs (by decide)) 10 v (by decide))
    refine c_X8_shift (m _).2.1 (m _).2.2.1 (m _).2.2.2 hz (fun hb => absurd ⟨⟨h1, h2, h3, h4⟩, h5, h6⟩ hb) (fun _ _ w2 hs2 => ?_)
    exact ⟨rfl, fR_ask h hs ((sX_text8 _ _ _ _).tr (sM.toX hs2 (by decide))) (by rw [(m _).1])⟩
theorem fp_mk_iff {f g : Nat → Bool} {n : Nat} (hn : n ≤ 32) : fp_mk f n = fp_mk g n ↔ ∀ d, d < n → f d = g d := by
  constructor
  · intro h d hd
    have z : bt (fp_mk f n) d = bt (fp_mk g n) d := congrArg (fun x => bt x d) h
    rw [fp_mk_bt f n hn d (by omega), fp_mk_bt g n hn d (by omega), decide_eq_true hd, Bool.true_and, Bool.true_and] at z
    exact z
  · exact fp_mk_cg
theorem fs_al_iff {D : Nat → Nat → Int32} {so s : Int32} : ∀ {n : Nat}, fs_al D so s n = true ↔ ¬ s = 0 ∧ ∀ t, t < n → bt s t = true → D 1 t = so
  | 0 => by rw [fs_al]; simp
  | n + 1 => by
    rw [fs_al, Bool.and_eq_true, fs_al_iff (n := n), Bool.or_eq_true, Bool.not_eq_true', decide_eq_true_eq]
    constructor
    · rintro ⟨⟨h1, h2⟩, h3⟩
      refine ⟨h1, fun t ht hb => ?_⟩
      by_cases e : t = n
      · subst e
        rcases h3 with h3 | h3
        · rw [h3] at hb; cases hb
        · exact h3
      · exact h2 t (by omega) hb
    · rintro ⟨h1, h2⟩
      refine ⟨⟨h1, fun t ht hb => h2 t (by omega) hb⟩, ?_⟩
      cases hb : bt s n with
      | false => exact Or.inl rfl
      | true => exact Or.inr (h2 n (by omega) hb)
theorem fx_kp_iff {D : Nat → Nat → Int32} {nt s : Nat} {S : Int32} (hD : fd_T D nt) (hn : nt ≤ 20) (hs : s < 10) (hl : fp_lt nt S) : (S &&& (fx_os (D 1) (nI 1 <<< (nI s &&& 31)) nt ^^^ -1) = 0) ↔ ∀ t, t < nt → bt S t = true → D 1 t = nI s := by
  constructor
  · intro h t ht hb
    have z := congrArg (fun x => bt x t) h
    simp only [b_0] at z
    rw [b_and, hb, b_not (by omega), fx_os_bt (by omega) (by omega), decide_eq_true ht, Bool.true_and, Bool.true_and] at z
    obtain ⟨k, hk, ek⟩ := (hD t ht).2.1
    rw [ek, nI_clamp (by omega), fx_1s s hs k hk] at z
    rw [ek]
    by_cases e : k = s
    · rw [e]
    · rw [decide_eq_false e] at z; cases z
  · intro h
    apply b_ext
    intro t ht
    rw [b_0, b_and, b_not ht, fx_os_bt (by omega) ht]
    cases hb : bt S t with
    | false => rfl
    | true =>
      have htn := fp_lt_bt hl hb
      rw [decide_eq_true htn, h t htn hb, nI_clamp (by omega), fx_1s s hs s hs]
      simp
theorem fx_ft_iff {D : Nat → Nat → Int32} {nt nx s d c : Nat} {fr : Int32} (hD : fd_T D nt) (hn : nt ≤ 20) (hs : s < 10) : fx_ft D nt nx (nI s) fr d c = true ↔ (fs_fr D nt nx (nI (c / 4)) (nI (c / 2 % 2)) (fl_f (nI s) fr c) d = fs_wt D nt nx (nI s) d ∧ fs_ot D nt nx (nI (c / 4)) (nI (c / 2 % 2)) (fl_f (nI s) fr c) d = fs_wt D nt nx (nI s) d) := by
  have hl : fp_lt nt (fs_ds D nt nx d) := fs_sn_lt hn _
  have hk := fx_kp_iff (S := fs_ds D nt nx d) hD hn hs hl
  unfold fx_ft fx_kp fs_fr fs_ot fs_wt
  rw [decide_eq_true_eq]
  generalize fs_cs D nt d (nI (c / 4)) (nI (c / 2 % 2)) (fl_f (nI s) fr c) = C
  generalize fs_ds D nt nx d = S at *
  have ha := fs_al_iff (D := D) (so := nI s) (s := S) (n := nt)
  by_cases h0 : S = 0
  · have hw : fs_al D (nI s) S nt = false := by
      cases hc : fs_al D (nI s) S nt with
      | false => rfl
      | true => exact absurd h0 (ha.mp hc).1
    rw [hw, if_pos (hk.mpr (fun t _ hb => by rw [h0, b_0] at hb; cases hb)), nI_0, decide_eq_false_iff_not, decide_eq_false_iff_not, h0]
    constructor
    · intro e
      exact ⟨fun z => z.1 rfl, fun z => z e⟩
    · rintro ⟨-, z⟩
      exact Decidable.not_not.mp z
  · by_cases h1 : ∀ t, t < nt → bt S t = true → D 1 t = nI s
    · rw [ha.mpr ⟨h0, h1⟩, if_pos (hk.mpr h1), nI_0, decide_eq_true_eq, decide_eq_true_eq]
      constructor
      · intro e
        exact ⟨⟨h0, e⟩, fun z => h0 (z.symm.trans e)⟩
      · exact fun z => z.1.2
    · have hw : fs_al D (nI s) S nt = false := by
        cases hc : fs_al D (nI s) S nt with
        | false => rfl
        | true => exact absurd (ha.mp hc).2 h1
      rw [hw, if_neg (fun z => h1 (hk.mp z)), decide_eq_false_iff_not, decide_eq_false_iff_not]
      constructor
      · intro e
        exact ⟨fun z => h0 (e.symm.trans z.2), fun z => z e⟩
      · rintro ⟨-, z⟩
        exact Decidable.not_not.mp z
theorem fl_iff {D : Nat → Nat → Int32} {nt nd nx s c : Nat} {fr : Int32} (hD : fd_T D nt) (hn : nt ≤ 20) (hnd : nd ≤ 12) (hs : s < 10) : fl_a (fx_ft D nt nx (nI s) fr) nd c = true ↔ fl_ok D nt nd nx (nI s) fr (fp_mk (fs_wt D nt nx (nI s)) nd) c := by
  rw [fl_a_iff]
  unfold fl_ok
  rw [fp_mk_iff (by omega), fp_mk_iff (by omega)]
  constructor
  · intro h
    exact ⟨fun d hd => ((fx_ft_iff hD hn hs).mp (h d hd)).1, fun d hd => ((fx_ft_iff hD hn hs).mp (h d hd)).2⟩
  · rintro ⟨h1, h2⟩ d hd
    exact (fx_ft_iff hD hn hs).mpr ⟨h1 d hd, h2 d hd⟩
theorem fl_iffn {D : Nat → Nat → Int32} {nt nd nx s c : Nat} {fr : Int32} (hD : fd_T D nt) (hn : nt ≤ 20) (hnd : nd ≤ 12) (hs : s < 10) : fl_a (fx_ft D nt nx (nI s) fr) nd c = false ↔ ¬ fl_ok D nt nd nx (nI s) fr (fp_mk (fs_wt D nt nx (nI s)) nd) c := by
  rw [← fl_iff hD hn hnd hs]
  cases fl_a (fx_ft D nt nx (nI s) fr) nd c <;> simp
theorem r_leastChange {l : Launch} {w : fb_Wd} (h : fR w) {so fr : Int32} : fPair l tX7_leastChange tX8_leastChange [.int so, .int fr] w := by
  obtain ⟨nt, nd, nx, ng, rk, h⟩ := h
  have hX := h.1
  have hx := h.2.1
  have hnt := hX.1.1.2
  have hnd := hX.1.2.1.2
  have hnx := hX.1.2.2.1.2
  have hng := hX.1.2.2.2.2
  have hiff : (∃ q, q < 10 ∧ so = nI q) ↔ (0 ≤ so ∧ so ≤ 9) := fx_rg (n := 9) (by decide)
  refine c_X7_leastChange hX hx (fun hb => ?_) (fun p1 p2 hno w1 hs => ?_) (fun s hs10 es p2 c hc hno hok w1 hs => ?_)
  · have m := h.m (c0 w)
    exact c_X8_leastChange m.2.1 m.2.2.1 m.2.2.2 (fun _ => ⟨rfl, h.R⟩) (fun p1 p2 _ _ _ => absurd ⟨hiff.mpr p1, p2⟩ hb) (fun p1 p2 _ _ _ _ _ _ => absurd ⟨hiff.mpr p1, p2⟩ hb)
  · obtain ⟨s, hs10, rfl⟩ := p1
    have m := h.m (xSL.c46 hs (by decide))
    refine c_X8_leastChange m.2.1 m.2.2.1 m.2.2.2 (fun hb => absurd ⟨hiff.mp ⟨s, hs10, rfl⟩, p2⟩ hb) (fun _ _ _ w2 hs2 => ⟨rfl, fR_q h hs hs2⟩) (fun _ _ k hk _ hok _ _ => ?_)
    rw [m.1] at hok
    exact absurd hok ((fl_iffn hX.2.1 hnt hnd hs10).mp (hno k hk))
  · subst es
    have m := h.m (xSL.c46 hs (by decide))
    refine c_X8_leastChange m.2.1 m.2.2.1 m.2.2.2 (fun hb => absurd ⟨hiff.mp ⟨s, hs10, rfl⟩, p2⟩ hb) (fun _ _ hno2 _ _ => ?_) (fun _ _ k hk hno2 hok2 w2 hs2 => ?_)
    · have z := hno2 c hc
      rw [m.1] at z
      exact absurd ((fl_iff hX.2.1 hnt hnd hs10).mp hok) z
    · have e : k = c := by
        rcases Nat.lt_trichotomy k c with z | z | z
        · rw [m.1] at hok2
          exact absurd hok2 ((fl_iffn hX.2.1 hnt hnd hs10).mp (hno k z))
        · exact z
        · have y := hno2 c z
          rw [m.1] at y
          exact absurd ((fl_iff hX.2.1 hnt hnd hs10).mp hok) y
      subst e
      exact ⟨rfl, fR_q h hs hs2⟩
theorem fr_rn {w : fb_Wd} (h : fr_Z w) : fm_rn w = fp_cnt (fun r => !decide (w.1 10 r = -1)) 6 := by
  unfold fm_rn
  refine fp_cnt_cg (fun r hr => ?_)
  rcases h r hr with ⟨e1, e2⟩ | ⟨n, hn, e1, e2, -⟩
  · rw [e1, e2]; decide
  · rw [e1, e2, decide_eq_false (nI_pos (by omega)), decide_eq_false (show ¬ nI n = -1 from fun z => nI_pos (n := n) (by omega) (by rw [z]; decide))]
theorem fr_sz {w : fb_Wd} (h : fr_Z w) : fm_sz w := fun r hr => (h r hr).imp (fun z => z.2) (fun ⟨n, hn, _, e2, _⟩ => ⟨n, hn, e2⟩)
theorem fr_xz {w : fb_Wd} (h : fr_Z w) : xZ w := fun r hr => (h r hr).imp (fun z => z.1) (fun ⟨n, hn, e1, _, _⟩ => ⟨n, hn, e1⟩)
theorem fs_mxF_cg {h0 : Int64} {g g' : Nat → Int32} : ∀ {n : Nat}, (∀ i, i < n → g i = g' i) → fs_mxF h0 g n = fs_mxF h0 g' n
  | 0, _ => rfl
  | n + 1, h => by rw [fs_mxF, fs_mxF, fs_mxF_cg (n := n) (fun i hi => h i (by omega)), h n (by omega)]
theorem fs_it_cg {F G : Nat → Int64 → Int64} {h0 : Int64} : ∀ {n : Nat}, (∀ i, i < n → ∀ h, F i h = G i h) → fs_it F h0 n = fs_it G h0 n
  | 0, _ => rfl
  | n + 1, h => by rw [fs_it, fs_it, fs_it_cg (n := n) (fun i hi => h i (by omega)), h n (by omega)]
theorem fr_e6 {w : fb_Wd} (h : fr_Z w) (h0 : Int64) : fs_it (fs_e6 (fm_zs w) (w.1 49)) h0 6 = fs_it (fs_e6 (w.1 10) (w.1 11)) h0 6 := fs_it_cg (fun r hr hh => by
  unfold fs_e6
  rcases h r hr with ⟨e1, e2⟩ | ⟨n, hn, e1, e2, e3⟩
  · have ez : fm_zs w r = -1 := if_pos (by rw [e2]; decide)
    rw [ez, e1]
    exact fs_mxF_cg (fun i hi => by rw [show ((-1 : Int32)).toNatClampNeg = 0 by decide] at hi; omega)
  · have ez : fm_zs w r = nI n := (if_neg (by rw [e2]; exact nI_pos (by omega))).trans e2
    rw [ez, e1, nI_clamp (by omega)]
    exact fs_mxF_cg (fun i hi => e3 i hi))
theorem r_count {l : Launch} {w : fb_Wd} (h : fR w) {q : Int32} : fPair l tX7_count tX8_count [.int q] w := by
  obtain ⟨nt, nd, nx, ng, rk, h⟩ := h
  have hX := h.1
  have hx := h.2.1
  have hnt := hX.1.1.2
  have hnd := hX.1.2.1.2
  have hnx := hX.1.2.2.1.2
  have hng := hX.1.2.2.2.2
  have er := fr_rn h.2.2.2.2.1
  refine c_X7_count hX (fun hb => ?_) (fun k hk ek => ?_)
  · have m := h.m (c0 w)
    exact c_X8_count m.2.1 m.2.2.1 m.2.2.2 (fun _ => ⟨rfl, h.R⟩) (fun k hk ek => absurd ((fx_rg (n := 5) (by decide)).mp ⟨k, by omega, ek⟩) hb)
  · have m := h.m (c0 w)
    refine c_X8_count m.2.1 m.2.2.1 m.2.2.2 (fun hb => absurd ((fx_rg (n := 5) (by decide)).mp ⟨k, by omega, ek⟩) hb) (fun k2 hk2 ek2 => ?_)
    obtain rfl := fx_inj ek ek2 (by omega) (by omega)
    exact ⟨by rw [m.1, er], h.R⟩
theorem r_digest {l : Launch} {w : fb_Wd} (h : fR w) : fPairL l tX7_digest tX8_digest [] w := by
  obtain ⟨nt, nd, nx, ng, rk, h⟩ := h
  have hX := h.1
  have hx := h.2.1
  have hnt := hX.1.1.2
  have hnd := hX.1.2.1.2
  have hnx := hX.1.2.2.1.2
  have hng := hX.1.2.2.2.2
  have er := fr_rn h.2.2.2.2.1
  refine c_X7_digest hX (fr_xz h.2.2.2.2.1) ?_
  have m := h.m (c0 w)
  refine c_X8_digest m.2.1 m.2.2.1 m.2.2.2 (fr_sz h.2.2.2.2.1) ⟨?_, fR_q h (xS0 w) (sX_ul w _)⟩
  unfold fs_dg
  rw [fr_e6 h.2.2.2.2.1, er, m.1]
theorem c_X8_askedS {l : Launch} {w : fb_Wd} {P : Int32 → fb_Wd → Prop} (hp : P (w.1 46 2) w) : fb_Can l tX8_asked [.ref 46] w (fb_kI P) := by
  refine fb_intro 0 fk_t_X8_asked (by decide) rfl (fun X hX h => ?_)
  subst hX
  change fb_AW tX8_asked X 0 [some (.ref 46)] [] w
  refine fw_aload_n h rfl rfl ?_
  refine fw_getI h rfl fk_g_X8_103 rfl rfl ?_
  exact fw_iret h rfl rfl ⟨_, rfl, hp⟩
theorem c_X8_findingS {l : Launch} {w : fb_Wd} {P : Int32 → fb_Wd → Prop} (hp : P (w.1 46 0) w) : fb_Can l tX8_finding [.ref 46] w (fb_kI P) := by
  refine fb_intro 0 fk_t_X8_finding (by decide) rfl (fun X hX h => ?_)
  subst hX
  change fb_AW tX8_finding X 0 [some (.ref 46)] [] w
  refine fw_aload_n h rfl rfl ?_
  refine fw_getI h rfl fk_g_X8_99 rfl rfl ?_
  exact fw_iret h rfl rfl ⟨_, rfl, hp⟩
theorem c_X8_upperS {l : Launch} {w : fb_Wd} {P : Int64 → fb_Wd → Prop} (hp : P (w.2 46 3) w) : fb_Can l tX8_upper [.ref 46] w (fb_kL P) := by
  refine fb_intro 0 fk_t_X8_upper (by decide) rfl (fun X hX h => ?_)
  subst hX
  change fb_AW tX8_upper X 0 [some (.ref 46)] [] w
  refine fw_aload_n h rfl rfl ?_
  refine fw_getL h rfl fk_g_X8_106 rfl rfl ?_
  exact fw_lret h rfl rfl ⟨_, rfl, hp⟩
theorem c_X8_lowerS {l : Launch} {w : fb_Wd} {P : Int64 → fb_Wd → Prop} (hp : P (w.2 46 4) w) : fb_Can l tX8_lower [.ref 46] w (fb_kL P) := by
  refine fb_intro 0 fk_t_X8_lower (by decide) rfl (fun X hX h => ?_)
  subst hX
  change fb_AW tX8_lower X 0 [some (.ref 46)] [] w
  refine fw_aload_n h rfl rfl ?_
  refine fw_getL h rfl fk_g_X8_13 rfl rfl ?_
  exact fw_lret h rfl rfl ⟨_, rfl, hp⟩
theorem c_X8_findingsS {l : Launch} {w : fb_Wd} {P : Int32 → fb_Wd → Prop} {f : Int32} (hb : ¬ (1 ≤ f ∧ f ≤ 5) → P (-1) w) (hp : 1 ≤ f → f ≤ 5 → P (w.1 47 f.toNatClampNeg) w) : fb_Can l tX8_findings [.ref 46, .int f] w (fb_kI P) := by
  refine fb_intro 0 fk_t_X8_findings (by decide) rfl (fun X hX h => ?_)
  subst hX
  change fb_AW tX8_findings X 0 [some (.ref 46), some (.int f)] [] w
  refine fw_iload_n h rfl rfl ?_
  refine fw_iconst h (nI 1) rfl (by decide) ?_
  refine fw_iconst h (nI 5) rfl (by decide) ?_
  refine fw_s3I h rfl fk_s_X8_in fk_l_X8_109 rfl rfl ?_
  refine c_X8_in (fun c3a c3b => ?_) (fun c3 => ?_)
  · refine fw_if_eq h rfl (fun c => absurd c (by decide)) (fun _ => ?_)
    obtain ⟨j, hj, e⟩ := nI_ofle (n := 5) (Int32.le_trans (by decide) c3a) c3b (by decide)
    subst e
    refine fw_aload_n h rfl rfl ?_
    refine fw_getR _ h rfl fk_g_X8_7 rfl rfl ?_
    refine fw_iload_n h rfl rfl ?_
    refine fn_iald h rfl rfl (by omega) rfl ?_
    refine fw_goto h rfl ?_
    exact fw_iret h rfl rfl ⟨_, rfl, by first | exact hb c3 | (have z := hp c3a c3b; rw [nI_clamp (by omega)] at z; exact z)⟩
  · refine fw_if_eq h rfl (fun _ => ?_) (fun c => absurd c (by decide))
    refine fw_iconst h (-1) rfl (by decide) ?_
    exact fw_iret h rfl rfl ⟨_, rfl, by first | exact hb c3 | (have z := hp c3a c3b; rw [nI_clamp (by omega)] at z; exact z)⟩
theorem r_asked {l : Launch} {w : fb_Wd} (h : fR w) : fPair l tX7_asked tX8_asked [] w := by
  obtain ⟨nt, nd, nx, ng, rk, h⟩ := h
  have hX := h.1
  have hx := h.2.1
  have hnt := hX.1.1.2
  have hnd := hX.1.2.1.2
  have hnx := hX.1.2.2.1.2
  have hng := hX.1.2.2.2.2
  exact c_X7_asked (c_X8_askedS ⟨h.2.2.2.2.2.2.1.1.symm, h.R⟩)
theorem r_finding {l : Launch} {w : fb_Wd} (h : fR w) : fPair l tX7_finding tX8_finding [] w := by
  obtain ⟨nt, nd, nx, ng, rk, h⟩ := h
  have hX := h.1
  have hx := h.2.1
  have hnt := hX.1.1.2
  have hnd := hX.1.2.1.2
  have hnx := hX.1.2.2.1.2
  have hng := hX.1.2.2.2.2
  exact c_X7_finding (c_X8_findingS ⟨h.2.2.2.2.2.2.1.2.1.symm, h.R⟩)
theorem r_upper {l : Launch} {w : fb_Wd} (h : fR w) : fPairL l tX7_upper tX8_upper [] w := by
  obtain ⟨nt, nd, nx, ng, rk, h⟩ := h
  have hX := h.1
  have hx := h.2.1
  have hnt := hX.1.1.2
  have hnd := hX.1.2.1.2
  have hnx := hX.1.2.2.1.2
  have hng := hX.1.2.2.2.2
  exact c_X7_upper (c_X8_upperS ⟨h.2.2.2.2.2.2.2.1.symm, h.R⟩)
theorem r_lower {l : Launch} {w : fb_Wd} (h : fR w) : fPairL l tX7_lower tX8_lower [] w := by
  obtain ⟨nt, nd, nx, ng, rk, h⟩ := h
  have hX := h.1
  have hx := h.2.1
  have hnt := hX.1.1.2
  have hnd := hX.1.2.1.2
  have hnx := hX.1.2.2.1.2
  have hng := hX.1.2.2.2.2
  exact c_X7_lower (c_X8_lowerS ⟨h.2.2.2.2.2.2.2.2.symm, h.R⟩)
theorem r_findings {l : Launch} {w : fb_Wd} (h : fR w) {f : Int32} : fPair l tX7_findings tX8_findings [.int f] w := by
  obtain ⟨nt, nd, nx, ng, rk, h⟩ := h
  have hX := h.1
  have hx := h.2.1
  have hnt := hX.1.1.2
  have hnd := hX.1.2.1.2
  have hnx := hX.1.2.2.1.2
  have hng := hX.1.2.2.2.2
  refine c_X7_findings (fun hb => ?_) (fun h1 h2 => ?_)
  · exact c_X8_findingsS (fun _ => ⟨rfl, h.R⟩) (fun h1 h2 => absurd ⟨h1, h2⟩ hb)
  · exact c_X8_findingsS (fun hb => absurd ⟨h1, h2⟩ hb) (fun _ _ => ⟨by rw [h.2.2.2.2.2.2.1.2.2], h.R⟩)
