theorem fx_l1_bt {w : fb_Wd} {nt j : Nat} (hn : nt ≤ 20) (hj : j < nt) (h21 : ∀ t, t < 20 → ∀ u, u < 32 → bt (w.1 21 t) u = decide (u < nt ∧ w.1 16 u = nI t)) (h16 : w.1 16 j = -9 ∨ ∃ u, u < nt ∧ w.1 16 j = nI u) : ∀ t, t < 20 → ∀ u, u < 32 → bt ((fx_l1 w j).1 21 t) u = (decide (u < nt ∧ w.1 16 u = nI t) && !decide (u = j)) := by
  intro t ht u hu
  rcases h16 with e | ⟨v, hv, e⟩
  · rw [fx_l1_0 e, h21 t ht u hu]
    by_cases eu : u = j
    · subst eu
      rw [decide_eq_false (fun z => nI_ne9 (n := t) (by omega) (z.2.symm.trans e))]; rfl
    · rw [decide_eq_false eu]; simp
  · rw [fx_l1_1 e (by omega), fb_up_eq]
    by_cases et : t = v
    · subst et
      rw [pk_us, b_and, b_not hu, h21 t ht u hu, fp_b1 j (by omega) u hu]
    · rw [pk_un et, h21 t ht u hu]
      by_cases eu : u = j
      · subst eu
        rw [decide_eq_false (fun z => et ((nI_eq (by omega) (by omega)).mp (z.2.symm.trans e)))]; rfl
      · rw [decide_eq_false eu]; simp
theorem fx_lo_bt {w : fb_Wd} {nt j : Nat} {o : Int32} (hn : nt ≤ 20) (hj : j < nt) (h21 : ∀ t, t < 20 → ∀ u, u < 32 → bt (w.1 21 t) u = decide (u < nt ∧ w.1 16 u = nI t)) (h16 : w.1 16 j = -9 ∨ ∃ u, u < nt ∧ w.1 16 j = nI u) (ho : o = -9 ∨ ∃ u, u < nt ∧ o = nI u) : ∀ t, t < 20 → ∀ u, u < 32 → bt ((fx_lo w j o).1 21 t) u = decide (u < nt ∧ upd (w.1 16) j o u = nI t) := by
  intro t ht u hu
  have h1 := fx_l1_bt hn hj h21 h16 t ht u hu
  unfold fx_lo
  rw [fb_up_ne _ _ _ (by decide)]
  have hl : ∀ x : Int32, decide (u < nt ∧ upd (w.1 16) j x u = nI t) = ((decide (u < nt ∧ w.1 16 u = nI t) && !decide (u = j)) || decide (u = j ∧ x = nI t)) := fun x => by
    by_cases eu : u = j
    · subst eu
      rw [pk_us]
      simp [hj]
    · rw [pk_un eu]
      simp [eu]
  rw [hl o]
  rcases ho with rfl | ⟨v, hv, rfl⟩
  · rw [fx_l2_0, h1, decide_eq_false (fun z : u = j ∧ (-9 : Int32) = nI t => nI_ne9 (n := t) (by omega) z.2.symm), Bool.or_false]
  · rw [fx_l2_1 (by omega), fb_up_eq]
    by_cases et : t = v
    · subst et
      rw [pk_us, b_or, h1, fp_b1 j (by omega) u hu]
      congr 1
      exact decide_eq_decide.mpr ⟨fun z => ⟨z, rfl⟩, fun z => z.1⟩
    · rw [pk_un et, h1, decide_eq_false (fun z : u = j ∧ nI v = nI t => et ((nI_eq (by omega) (by omega)).mp z.2).symm), Bool.or_false]
theorem fx_lo_ne (w : fb_Wd) (j : Nat) (o : Int32) {c : Nat} (h1 : ¬ c = 16) (h2 : ¬ c = 21) : (fx_lo w j o).1 c = w.1 c := by
  unfold fx_lo fx_l2
  rw [fb_up_ne _ _ _ h1]
  split
  · exact fx_l1_16 w j h2
  · rw [fb_up_ne _ _ _ h2]; exact fx_l1_16 w j h2
theorem fx_lo_16 (w : fb_Wd) (j : Nat) (o : Int32) : (fx_lo w j o).1 16 = upd (w.1 16) j o := by
  unfold fx_lo fx_l2
  rw [fb_up_eq]
  split
  · rw [fx_l1_16 w j (by decide)]
  · rw [fb_up_ne _ _ _ (by decide), fx_l1_16 w j (by decide)]
theorem fx_lo_2 (w : fb_Wd) (j : Nat) (o : Int32) : (fx_lo w j o).2 = w.2 := by
  unfold fx_lo fx_l2 fx_l1
  show (if o = -9 then _ else _ : fb_Wd).2 = w.2
  split <;> split <;> rfl
theorem fo_new {f : Nat → Int32} {nt j : Nat} {o : Int32} {rk : Nat → Nat} (h : fo_rk f nt rk) (hn : nt ≤ 20) (hj : j < nt) (ho : o = -9 ∨ ∃ u, u < nt ∧ o = nI u) (hno : ¬ ∃ k, fo_it f k o = nI j) : ∃ rk2, fo_rk (upd f j o) nt rk2 := by
  refine ⟨fun v => rk v + (@ite _ (∃ k, fo_it f k (nI v) = nI j) (Classical.propDecidable _) (rk o.toNatClampNeg + 1) 0), fun t u ht hu e => ?_⟩
  have hcl : ∀ v, (¬ (∃ k, fo_it f k (nI v) = nI j)) → (@ite _ (∃ k, fo_it f k (nI v) = nI j) (Classical.propDecidable _) (rk o.toNatClampNeg + 1) 0) = 0 := fun v hv => by rw [if_neg hv]
  have hct : ∀ v, (∃ k, fo_it f k (nI v) = nI j) → (@ite _ (∃ k, fo_it f k (nI v) = nI j) (Classical.propDecidable _) (rk o.toNatClampNeg + 1) 0) = rk o.toNatClampNeg + 1 := fun v hv => by rw [if_pos hv]
  by_cases et : t = j
  · subst et
    rw [pk_us] at e
    have hju : (∃ k, fo_it f k (nI t) = nI t) := ⟨0, rfl⟩
    show rk u + _ < rk t + _
    rw [hct t hju, hcl u (by rw [← e]; exact hno), e, nI_clamp (by omega)]
    omega
  · rw [pk_un et] at e
    have h1 := h t u ht hu e
    show rk u + _ < rk t + _
    by_cases hu2 : ∃ k, fo_it f k (nI u) = nI j
    · have ht2 : ∃ k, fo_it f k (nI t) = nI j := by
        obtain ⟨k, hk⟩ := hu2
        exact ⟨k + 1, by rw [fo_s (by omega), e]; exact hk⟩
      rw [hct u hu2, hct t ht2]
      omega
    · rw [hcl u hu2]
      exact Nat.lt_of_lt_of_le h1 (Nat.le_add_right _ _)
theorem fR_on {w : fb_Wd} {nt nd nx ng j : Nat} {rk : Nat → Nat} {o : Int32} (h : fR1 w nt nd nx ng rk) (hj : j < nt) (ho : o = -9 ∨ ∃ u, u < nt ∧ o = nI u) (hno : ¬ ∃ k, fo_it (xD w 4) k o = nI j) : fR (fb_up (fx_lo w j o) 55 j o) := by
  have hn := h.1.1.1.2
  have hlob := fx_lo_bt hn hj h.1.2.2.2.1.2.2.2.2.2.1 ((h.1.2.1 j hj).2.2.2.2) ho
  have hcc : ∀ c, ¬ c = 16 → ¬ c = 21 → ¬ c = 55 → (fb_up (fx_lo w j o) 55 j o).1 c = w.1 c := fun c h1 h2 h3 => (fb_up_ne _ _ _ h3).trans (fx_lo_ne w j o h1 h2)
  have e16 : (fb_up (fx_lo w j o) 55 j o).1 16 = upd (w.1 16) j o := (fb_up_ne _ _ _ (by decide)).trans (fx_lo_16 w j o)
  have e21 : (fb_up (fx_lo w j o) 55 j o).1 21 = (fx_lo w j o).1 21 := fb_up_ne _ _ _ (by decide)
  have e55 : (fb_up (fx_lo w j o) 55 j o).1 55 = upd (w.1 55) j o := by rw [fb_up_eq, fx_lo_ne w j o (by decide) (by decide)]
  have hw2 : (fb_up (fx_lo w j o) 55 j o).2 = w.2 := fx_lo_2 w j o
  obtain ⟨rk2, hrk2⟩ := fo_new h.2.2.2.2.2.1 hn hj ho hno
  generalize fb_up (fx_lo w j o) 55 j o = w2 at *
  have exi : ∀ i, ¬ i = 4 → xD w2 i = xD w i := by
    intro i hi
    match i with
    | 0 | 1 | 2 | 3 | 5 | 6 | 7 | 8 | 9 | 10 | 11 | 12 | 17 | 18 | 19 | 20 | 21 | 22 => exact hcc _ (by decide) (by decide) (by decide)
    | 13 | 14 | 15 | 16 => exact congrArg fd_c8 (hcc _ (by decide) (by decide) (by decide))
    | 4 => exact absurd rfl hi
    | 23 =>
      show fd_s4 _ _ _ _ = fd_s4 _ _ _ _
      rw [hcc 2 (by decide) (by decide) (by decide), hcc 3 (by decide) (by decide) (by decide), hcc 4 (by decide) (by decide) (by decide), hcc 5 (by decide) (by decide) (by decide)]
    | i + 24 => rfl
  have ex4 : xD w2 4 = upd (w.1 16) j o := e16
  have emi : ∀ i, ¬ i = 4 → mD w2 i = mD w i := by
    intro i hi
    match i with
    | 0 | 1 | 2 | 3 | 5 | 6 | 7 | 8 | 9 | 10 | 11 | 12 | 17 | 18 | 19 | 20 | 21 | 22 => exact hcc _ (by decide) (by decide) (by decide)
    | 13 | 14 | 15 | 16 => exact congrArg fd_c8 (hcc _ (by decide) (by decide) (by decide))
    | 4 => exact absurd rfl hi
    | 23 =>
      show fd_s4 _ _ _ _ = fd_s4 _ _ _ _
      rw [hcc 46 (by decide) (by decide) (by decide)]
    | i + 24 => rfl
  have hm := h.2.2.2.1
  obtain ⟨⟨hN, hT, hA, hxT, hxC⟩, h2, h3, -, h5, h6, h7, h8⟩ := h
  have emd : ∀ d, fd_m (xD w2) d = fd_m (xD w) d := fun d => by unfold fd_m; rw [exi 8 (by decide)]
  refine ⟨nt, nd, nx, ng, rk2, ⟨?_, ?_, ?_, ?_, ?_⟩, ?_, ?_, ?_, ?_, ?_, ?_, ?_⟩
  · unfold fd_N; rw [exi 23 (by decide)]; exact hN
  · intro t ht
    rw [exi 0 (by decide), exi 1 (by decide), exi 2 (by decide), exi 3 (by decide), ex4]
    refine ⟨(hT t ht).1, (hT t ht).2.1, (hT t ht).2.2.1, (hT t ht).2.2.2.1, ?_⟩
    by_cases e : t = j
    · rw [e, pk_us]; exact ho
    · rw [pk_un e]; exact (hT t ht).2.2.2.2
  · intro d hd
    have z := hA d hd
    unfold fd_A at z ⊢
    rw [emd, exi 8 (by decide), exi 9 (by decide), exi 10 (by decide), exi 11 (by decide), exi 12 (by decide)]
    exact z
  · unfold xT
    rw [hcc 17 (by decide) (by decide) (by decide), hcc 15 (by decide) (by decide) (by decide), hcc 18 (by decide) (by decide) (by decide), hcc 19 (by decide) (by decide) (by decide), hcc 14 (by decide) (by decide) (by decide), hcc 20 (by decide) (by decide) (by decide), e21, e16, hcc 2 (by decide) (by decide) (by decide), hcc 12 (by decide) (by decide) (by decide)]
    exact ⟨hxT.1, hxT.2.1, hxT.2.2.1, hxT.2.2.2.1, hxT.2.2.2.2.1, hlob, hxT.2.2.2.2.2.2⟩
  · unfold xC
    rw [hcc 25 (by decide) (by decide) (by decide), hcc 26 (by decide) (by decide) (by decide), hcc 30 (by decide) (by decide) (by decide)]
    exact ⟨fun d hd => by rw [emd]; exact hxC.1 d hd, fun d h1 h2 => by rw [emd]; exact hxC.2 d h1 h2⟩
  · unfold fd_X; rw [exi 14 (by decide)]; exact h2
  · unfold fd_G; rw [exi 17 (by decide)]; exact h3
  · funext i
    by_cases e : i = 4
    · subst e
      show w2.1 55 = w2.1 16
      rw [e55, e16]
      exact upd_cg (congrFun hm 4)
    · rw [emi i e, exi i e]; exact congrFun hm i
  · exact fr_m h5 (fun c hc => hcc c (by omega) (by omega) (by omega))
  · rw [ex4]; exact hrk2
  · rw [hcc 46 (by decide) (by decide) (by decide), hcc 0 (by decide) (by decide) (by decide), hcc 47 (by decide) (by decide) (by decide), hcc 9 (by decide) (by decide) (by decide)]; exact h7
  · rw [hw2]; exact h8
theorem r_on {l : Launch} {w : fb_Wd} (h : fR w) {t o : Int32} : fPair l tX7_on tX8_on [.int t, .int o] w := by
  obtain ⟨nt, nd, nx, ng, rk, h⟩ := h
  have hX := h.1
  have hx := h.2.1
  have hnt := hX.1.1.2
  have hnd := hX.1.2.1.2
  have hnx := hX.1.2.2.1.2
  have hng := hX.1.2.2.2.2
  obtain ⟨rkb, hrkb⟩ := fo_bd h.2.2.2.2.2.1
  have hcond : ((∃ j, j < nt ∧ t = nI j) ∧ ¬ t = o ∧ (o = -9 ∨ ∃ u, u < nt ∧ o = nI u)) ↔ ((∃ j, j < nt ∧ t = nI j) ∧ (o = -9 ∨ ∃ u, u < nt ∧ o = nI u ∧ ¬ o = t)) := by
    constructor
    · rintro ⟨z1, z2, z3⟩
      exact ⟨z1, z3.imp id (fun ⟨u, hu, eu⟩ => ⟨u, hu, eu, fun y => z2 y.symm⟩)⟩
    · rintro ⟨⟨j, hj, ej⟩, z3⟩
      refine ⟨⟨j, hj, ej⟩, fun y => ?_, z3.imp id (fun ⟨u, hu, eu, _⟩ => ⟨u, hu, eu⟩)⟩
      rcases z3 with z3 | ⟨u, hu, eu, z4⟩
      · exact nI_ne9 (n := j) (by omega) (ej.symm.trans (y.trans z3))
      · exact z4 y.symm
  refine c_X7_on hX hrkb (fun hb => ?_) (fun j hj ej hne ho hs => ?_) (fun j hj ej hne ho hs => ?_)
  · have m := h.m (c0 w)
    exact c_X8_on m.2.1 m.2.2.1 m.2.2.2 (by rw [m.1]; exact h.2.2.2.2.2.1) (fun _ => ⟨rfl, h.R⟩) (fun j hj ej ho _ => absurd (hcond.mpr ⟨⟨j, hj, ej⟩, ho⟩) hb) (fun j hj ej ho _ => absurd (hcond.mpr ⟨⟨j, hj, ej⟩, ho⟩) hb)
  · have m := h.m (c0 w)
    refine c_X8_on m.2.1 m.2.2.1 m.2.2.2 (by rw [m.1]; exact h.2.2.2.2.2.1) (fun hb => absurd (hcond.mp ⟨⟨j, hj, ej⟩, hne, ho⟩) hb) (fun _ _ _ _ _ => ⟨rfl, h.R⟩) (fun j2 hj2 ej2 _ hs2 => ?_)
    obtain rfl := fx_inj ej ej2 (by omega) (by omega)
    rw [m.1] at hs2
    exact absurd hs hs2
  · have m := h.m (w1 := fx_lo w j o) (fun c hc => fx_lo_ne w j o (by omega) (by omega))
    refine c_X8_on m.2.1 m.2.2.1 m.2.2.2 (by rw [m.1]; exact h.2.2.2.2.2.1) (fun hb => absurd (hcond.mp ⟨⟨j, hj, ej⟩, hne, ho⟩) hb) (fun j2 hj2 ej2 _ hs2 => ?_) (fun j2 hj2 ej2 _ hs2 => ?_)
    · obtain rfl := fx_inj ej ej2 (by omega) (by omega)
      rw [m.1] at hs2
      exact absurd hs2 hs
    · obtain rfl := fx_inj ej ej2 (by omega) (by omega)
      exact ⟨by rw [m.1], fR_on h hj ho hs⟩
theorem fp_top_cg {f g : Nat → Int32} : ∀ t, (∀ i, i ≤ t → f i = g i) → fp_top f t = fp_top g t := by
  intro t
  induction t using Nat.strongRecOn with
  | ind t ih =>
    intro h
    have e := h t (Nat.le_refl _)
    rw [fp_top.eq_1 f t, fp_top.eq_1 g t]
    by_cases hc : f t ≠ -9 ∧ (f t).toNatClampNeg < t
    · rw [dif_pos hc, dif_pos (by rw [← e]; exact hc)]
      rw [ih _ hc.2 (fun i hi => h i (by have := hc.2; omega))]
      simp only [e]
    · rw [dif_neg hc, dif_neg (by rw [← e]; exact hc)]
theorem fp_in_cg {f g : Nat → Int32} {u : Nat} : ∀ t, (∀ i, i ≤ t → f i = g i) → fp_in f t u = fp_in g t u := by
  intro t
  induction t using Nat.strongRecOn with
  | ind t ih =>
    intro h
    have e := h t (Nat.le_refl _)
    rw [fp_in.eq_1 f t u, fp_in.eq_1 g t u]
    by_cases eu : t = u
    · rw [if_pos eu, if_pos eu]
    · rw [if_neg eu, if_neg eu]
      by_cases hc : f t ≠ -9 ∧ (f t).toNatClampNeg < t
      · rw [dif_pos hc, dif_pos (by rw [← e]; exact hc)]
        rw [ih _ hc.2 (fun i hi => h i (by have := hc.2; omega))]
        simp only [e]
      · rw [dif_neg hc, dif_neg (by rw [← e]; exact hc)]
theorem fR_thing {w : fb_Wd} {nt nd nx ng kk ss vv p : Nat} {rk : Nat → Nat} {u tp wm x be sd : Int32} (h : fR1 w nt nd nx ng rk) (hlt : nt < 20) (hk : kk ≤ 3) (hs : ss < 10) (hv : vv ≤ 10000) (hu : u = -9 ∨ ∃ q, q < nt ∧ u = nI q) (z1 : u = -9 → tp = nI nt ∧ wm = nI 0 ∧ p = 0 ∧ x = w.1 20 0) (z2 : ∀ q, q < nt → u = nI q → tp = w.1 17 q ∧ wm = w.1 18 q ||| nI 1 <<< (nI q &&& 31) ∧ p = q ∧ x = w.1 20 q ||| nI 1 <<< (nI nt &&& 31)) (z3 : (nI kk = 1 ∨ nI kk = 2) → be = w.1 2 10 ||| nI 1 <<< (nI nt &&& 31)) (z4 : ¬ (nI kk = 1 ∨ nI kk = 2) → be = w.1 2 10) (z5 : nI kk = 3 → sd = w.1 2 11 ||| nI 1 <<< (nI nt &&& 31)) (z6 : ¬ nI kk = 3 → sd = w.1 2 11) : fR1 (fb_up (fb_up (fb_up (fb_up (fb_up (fb_up (fx_ad w nt (nI kk) (nI ss) (nI vv) u tp wm p x be sd) 51 nt (nI kk)) 52 nt (nI ss)) 53 nt (nI vv)) 54 nt u) 55 nt (-9)) 46 8 (nI (nt + 1))) (nt + 1) nd nx ng rk := by
  have hxT := h.1.2.2.2.1
  have hT := h.1.2.1
  have hN := h.1.1
  have hm := h.2.2.2.1
  obtain ⟨W0, hW0⟩ : ∃ W0, W0 = (fb_up (fb_up (fb_up (fb_up (fb_up (fb_up (fb_up (fb_up w 2 12 (nI (nt + 1))) 12 nt (nI kk)) 13 nt (nI ss)) 15 nt u) 16 nt (-9)) 17 nt tp) 18 nt wm) 20 p x) := ⟨_, rfl⟩
  have f14 : W0.1 14 = w.1 14 := by rw [hW0]; rfl
  have f19 : W0.1 19 = w.1 19 := by rw [hW0]; rfl
  have f18 : W0.1 18 nt = wm := by rw [hW0]; rw [fb_up_ne _ _ _ (by decide), fb_up_eq, pk_us]
  have b14 : w.1 14 nt = 0 := (hxT.2.2.2.1 nt (Nat.le_refl _) hlt).2
  have b19 : w.1 19 nt = 0 := (hxT.2.2.2.1 nt (Nat.le_refl _) hlt).1
  have hcw : ∀ c, (¬ c = 19 ∧ ¬ c = 14) → (fx_cw W0 nt (nI vv)).1 c = W0.1 c := fun c hc => fx_cw_ne W0 nt (nI vv) hc
  obtain ⟨w2, hw2⟩ : ∃ w2, w2 = fb_up (fb_up (fb_up (fb_up (fb_up (fb_up (fx_ad w nt (nI kk) (nI ss) (nI vv) u tp wm p x be sd) 51 nt (nI kk)) 52 nt (nI ss)) 53 nt (nI vv)) 54 nt u) 55 nt (-9)) 46 8 (nI (nt + 1)) := ⟨_, rfl⟩
  rw [← hw2]
  have had : fx_ad w nt (nI kk) (nI ss) (nI vv) u tp wm p x be sd = fb_up (fb_up (fx_cw W0 nt (nI vv)) 2 10 be) 2 11 sd := by rw [hW0]; rfl
  rw [had] at hw2
  have hup : ∀ c, (c < 46 ∨ (46 < c ∧ c < 51) ∨ 55 < c) → ¬ c = 2 → w2.1 c = (fx_cw W0 nt (nI vv)).1 c := fun c hc h2 => by
    rw [hw2, fb_up_ne _ _ _ (by omega), fb_up_ne _ _ _ (by omega), fb_up_ne _ _ _ (by omega), fb_up_ne _ _ _ (by omega), fb_up_ne _ _ _ (by omega), fb_up_ne _ _ _ (by omega), fb_up_ne _ _ _ (by omega), fb_up_ne _ _ _ (by omega)]
  have hW : ∀ c, ¬ c = 2 → ¬ c = 12 → ¬ c = 13 → ¬ c = 15 → ¬ c = 16 → ¬ c = 17 → ¬ c = 18 → ¬ c = 20 → W0.1 c = w.1 c := fun c a1 a2 a3 a4 a5 a6 a7 a8 => by
    rw [hW0, fb_up_ne _ _ _ a8, fb_up_ne _ _ _ a7, fb_up_ne _ _ _ a6, fb_up_ne _ _ _ a5, fb_up_ne _ _ _ a4, fb_up_ne _ _ _ a3, fb_up_ne _ _ _ a2, fb_up_ne _ _ _ a1]
  have hcc : ∀ c, (c < 46 ∨ (46 < c ∧ c < 51) ∨ 55 < c) → ¬ c = 2 → (c < 12 ∨ 20 < c) → w2.1 c = w.1 c := fun c a1 a2 a3 => by
    rw [hup c a1 a2, hcw c (by omega), hW c (by omega) (by omega) (by omega) (by omega) (by omega) (by omega) (by omega) (by omega)]
  have e12 : w2.1 12 = upd (w.1 12) nt (nI kk) := by rw [hup 12 (by decide) (by decide), hcw 12 (by decide), hW0]; rfl
  have e13 : w2.1 13 = upd (w.1 13) nt (nI ss) := by rw [hup 13 (by decide) (by decide), hcw 13 (by decide), hW0]; rfl
  have e15 : w2.1 15 = upd (w.1 15) nt u := by rw [hup 15 (by decide) (by decide), hcw 15 (by decide), hW0]; rfl
  have e16 : w2.1 16 = upd (w.1 16) nt (-9) := by rw [hup 16 (by decide) (by decide), hcw 16 (by decide), hW0]; rfl
  have e17 : w2.1 17 = upd (w.1 17) nt tp := by rw [hup 17 (by decide) (by decide), hcw 17 (by decide), hW0]; rfl
  have e18 : w2.1 18 = upd (w.1 18) nt wm := by rw [hup 18 (by decide) (by decide), hcw 18 (by decide), hW0]; rfl
  have e20 : w2.1 20 = upd (w.1 20) p x := by rw [hup 20 (by decide) (by decide), hcw 20 (by decide), hW0]; rfl
  have e14 : w2.1 14 = upd (w.1 14) nt (nI vv) := by rw [hup 14 (by decide) (by decide), fx_cw_14, f14]
  have e19 : ∀ t, w2.1 19 t = if t = nt then nI vv else if t < nt ∧ bt wm t = true then w.1 19 t + nI vv else w.1 19 t := fun t => by
    rw [hup 19 (by decide) (by decide), fx_cw_19, f14, f19, f18, b14, b19, Int32.sub_zero, Int32.zero_add]
  have e2 : w2.1 2 10 = be ∧ w2.1 2 11 = sd ∧ w2.1 2 12 = nI (nt + 1) := by
    have c2 : (fx_cw W0 nt (nI vv)).1 2 = W0.1 2 := hcw 2 (by decide)
    have q12 : W0.1 2 12 = nI (nt + 1) := by rw [hW0]; rfl
    rw [hw2]
    refine ⟨?_, ?_, ?_⟩
    · show (fb_up (fb_up (fx_cw W0 nt (nI vv)) 2 10 be) 2 11 sd).1 2 10 = be
      simp [fb_up]
    · show (fb_up (fb_up (fx_cw W0 nt (nI vv)) 2 10 be) 2 11 sd).1 2 11 = sd
      simp [fb_up]
    · show (fb_up (fb_up (fx_cw W0 nt (nI vv)) 2 10 be) 2 11 sd).1 2 12 = _
      rw [fb_up_nk _ _ (by decide), fb_up_nk _ _ (by decide), c2, q12]
  have m51 : w2.1 51 = upd (w.1 51) nt (nI kk) := by rw [hw2]; show upd ((fx_cw W0 nt (nI vv)).1 51) _ _ = _; rw [hcw 51 (by decide), hW0]; rfl
  have m52 : w2.1 52 = upd (w.1 52) nt (nI ss) := by rw [hw2]; show upd ((fx_cw W0 nt (nI vv)).1 52) _ _ = _; rw [hcw 52 (by decide), hW0]; rfl
  have m53 : w2.1 53 = upd (w.1 53) nt (nI vv) := by rw [hw2]; show upd ((fx_cw W0 nt (nI vv)).1 53) _ _ = _; rw [hcw 53 (by decide), hW0]; rfl
  have m54 : w2.1 54 = upd (w.1 54) nt u := by rw [hw2]; show upd ((fx_cw W0 nt (nI vv)).1 54) _ _ = _; rw [hcw 54 (by decide), hW0]; rfl
  have m55 : w2.1 55 = upd (w.1 55) nt (-9) := by rw [hw2]; show upd ((fx_cw W0 nt (nI vv)).1 55) _ _ = _; rw [hcw 55 (by decide), hW0]; rfl
  have m46 : ∀ k, ¬ k = 8 → w2.1 46 k = w.1 46 k := fun k hk8 => by
    rw [hw2, fb_up_nk _ _ hk8]
    show (fx_cw W0 nt (nI vv)).1 46 k = _
    rw [hcw 46 (by decide), hW0]; rfl
  have m468 : w2.1 46 8 = nI (nt + 1) := by rw [hw2]; simp [fb_up]
  have hl2 : w2.2 = w.2 := by
    rw [hw2]
    show (fx_cw W0 nt (nI vv)).2 = w.2
    rw [fx_cw_2, hW0]; rfl
  clear hw2 had hup hcw
  have hmd : ∀ d, fd_m (xD w2) d = fd_m (xD w) d := fun d => by show (w2.1 25 d).toNatClampNeg = (w.1 25 d).toNatClampNeg; rw [hcc 25 (by decide) (by decide) (by decide)]
  have hwh : ∀ t, t < nt → ∀ i, i ≤ t → upd (w.1 15) nt u i = w.1 15 i := fun t ht i hi => pk_un (by omega)
  have htop : ∀ t, t < nt → fp_top (upd (w.1 15) nt u) t = fp_top (w.1 15) t := fun t ht => fp_top_cg t (hwh t ht)
  have hin : ∀ t v, t < nt → fp_in (upd (w.1 15) nt u) t v = fp_in (w.1 15) t v := fun t v ht => fp_in_cg t (hwh t ht)
  have hinn : ∀ v, v < 32 → bt wm v = (decide (¬ v = nt) && fp_in (upd (w.1 15) nt u) nt v) := by
    intro v hv32
    by_cases ev : v = nt
    · subst ev
      rw [decide_eq_false (fun z => z rfl), Bool.false_and]
      rcases hu with hu | ⟨q, hq, hu⟩
      · rw [(z1 hu).2.1, nI_0, b_0]
      · rw [(z2 q hq hu).2.1, b_or, hxT.2.1 q hq v hv32, fp_b1 q (by omega) v hv32, decide_eq_false (show ¬ v = q by omega), Bool.or_false]
        cases hf : fp_in (w.1 15) q v with
        | false => simp
        | true =>
          have := fp_in_le q v hf
          omega
    · rw [decide_eq_true ev, Bool.true_and]
      rcases hu with hu | ⟨q, hq, hu⟩
      · rw [(z1 hu).2.1, nI_0, b_0, fp_in_0 (by rw [pk_us]; exact hu) (fun z => ev z.symm)]
      · rw [(z2 q hq hu).2.1, b_or, hxT.2.1 q hq v hv32, fp_b1 q (by omega) v hv32, fp_in_s (u := q) (by rw [pk_us]; exact hu) hq (by omega) (fun z => ev z.symm), hin q v hq]
        by_cases evq : v = q
        · subst evq
          rw [fp_in_t, decide_eq_true (show v = v from rfl)]; simp
        · rw [decide_eq_true evq, decide_eq_false evq]; simp
  have hbit : ∀ v, v < 32 → ∀ (P Q : Nat → Prop) [∀ i, Decidable (P i)] [∀ i, Decidable (Q i)], (∀ i, i < nt → (P i ↔ Q i)) → True := fun _ _ _ _ _ _ _ => trivial
  refine ⟨⟨⟨⟨?_, by omega⟩, ?_, ?_, ?_⟩, ?_, ?_, ?_, ?_⟩, ?_, ?_, ?_, ?_, ?_, ?_, ?_⟩
  · exact e2.2.2
  · refine ⟨?_, hN.2.1.2⟩
    show w2.1 3 9 = _
    rw [hcc 3 (by decide) (by decide) (by decide)]; exact hN.2.1.1
  · refine ⟨?_, hN.2.2.1.2⟩
    show w2.1 4 4 = _
    rw [hcc 4 (by decide) (by decide) (by decide)]; exact hN.2.2.1.1
  · refine ⟨?_, hN.2.2.2.2⟩
    show w2.1 5 6 = _
    rw [hcc 5 (by decide) (by decide) (by decide)]; exact hN.2.2.2.1
  · intro t ht
    show (∃ k, k ≤ 3 ∧ w2.1 12 t = nI k) ∧ (∃ s, s < 10 ∧ w2.1 13 t = nI s) ∧ (∃ v, v ≤ 10000 ∧ w2.1 14 t = nI v) ∧ (w2.1 15 t = -9 ∨ ∃ u, u < t ∧ w2.1 15 t = nI u) ∧ (w2.1 16 t = -9 ∨ ∃ u, u < nt + 1 ∧ w2.1 16 t = nI u)
    rw [e12, e13, e14, e15, e16]
    by_cases e : t = nt
    · subst e
      rw [pk_us, pk_us, pk_us, pk_us, pk_us]
      exact ⟨⟨kk, hk, rfl⟩, ⟨ss, hs, rfl⟩, ⟨vv, hv, rfl⟩, hu, Or.inl rfl⟩
    · rw [pk_un e, pk_un e, pk_un e, pk_un e, pk_un e]
      have z := hT t (by omega)
      exact ⟨z.1, z.2.1, z.2.2.1, z.2.2.2.1, z.2.2.2.2.imp id (fun ⟨q, hq, eq⟩ => ⟨q, by omega, eq⟩)⟩
  · intro d hd
    have z := h.1.2.2.1 d hd
    rw [hmd]
    refine ⟨?_, z.2.1, fun k hk2 => ?_, ?_⟩
    · show w2.1 25 d = _
      rw [hcc 25 (by decide) (by decide) (by decide)]; exact z.1
    · show ∃ s a, s ≤ 3 ∧ w2.1 27 (10 * d + k) = nI s ∧ a < nt + 1 ∧ w2.1 28 (10 * d + k) = nI a ∧ (s = 1 → ∃ b, b < nt + 1 ∧ b ≠ a ∧ w2.1 29 (10 * d + k) = nI b) ∧ (s ≠ 1 → w2.1 29 (10 * d + k) = -9) ∧ (w2.1 30 (10 * d + k) = 0 ∨ w2.1 30 (10 * d + k) = 1)
      rw [hcc 27 (by decide) (by decide) (by decide), hcc 28 (by decide) (by decide) (by decide), hcc 29 (by decide) (by decide) (by decide), hcc 30 (by decide) (by decide) (by decide)]
      obtain ⟨s, a, y1, y2, y3, y4, y5, y6, y7⟩ := z.2.2.1 k hk2
      exact ⟨s, a, y1, y2, by omega, y4, fun e => by
        obtain ⟨b, hb, y⟩ := y5 e
        exact ⟨b, by omega, y⟩, y6, y7⟩
    · show fp_dbt (w2.1 30) d _ ≤ 5
      rw [hcc 30 (by decide) (by decide) (by decide)]; exact z.2.2.2
  · unfold xT
    rw [e17, e15, e18, e14, e20, e16, e12, e2.1, e2.2.1, hcc 21 (by decide) (by decide) (by decide)]
    refine ⟨fun t ht => ?_, fun t ht v hv32 => ?_, fun t ht => ?_, fun t h1 h2 => ?_, fun t ht v hv32 => ?_, fun t ht v hv32 => ?_, fun v hv32 => ?_, fun v hv32 => ?_⟩
    · by_cases e : t = nt
      · subst e
        rw [pk_us]
        rcases hu with hu | ⟨q, hq, hu⟩
        · rw [(z1 hu).1, fp_top_0 (by rw [pk_us]; exact hu)]
        · rw [(z2 q hq hu).1, fp_top_s (u := q) (by rw [pk_us]; exact hu) hq (by omega), htop q hq]
          exact hxT.1 q hq
      · rw [pk_un e, htop t (by omega)]; exact hxT.1 t (by omega)
    · by_cases e : t = nt
      · subst e
        rw [pk_us]; exact hinn v hv32
      · rw [pk_un e, hin t v (by omega)]; exact hxT.2.1 t (by omega) v hv32
    · rw [e19]
      have hsum : fp_price (upd (w.1 15) nt u) (upd (w.1 14) nt (nI vv)) (nt + 1) t = fp_sum (fun k => if fp_in (w.1 15) k t = true then w.1 14 k else 0) nt + (if fp_in (upd (w.1 15) nt u) nt t = true then nI vv else 0) := by
        show fp_sum _ (nt + 1) = _
        rw [fp_sum]
        congr 1
        · exact fp_sum_cg (fun i hi => by rw [hin i t hi, pk_un (show i ≠ nt by omega)])
        · rw [pk_us]
      rw [hsum]
      by_cases e : t = nt
      · subst e
        rw [if_pos rfl, fp_in_t, if_pos rfl]
        have h0 : fp_sum (fun k => if fp_in (w.1 15) k t = true then w.1 14 k else 0) t = 0 := by
          have : fp_sum (fun k => if fp_in (w.1 15) k t = true then w.1 14 k else 0) t = fp_sum (fun _ => 0) t := fp_sum_cg (fun i hi => by
            cases hf : fp_in (w.1 15) i t with
            | false => rfl
            | true =>
              have := fp_in_le i t hf
              omega)
          rw [this]
          clear this
          have hz : ∀ n, fp_sum (fun _ => (0 : Int32)) n = 0 := fun n => by
            induction n with
            | zero => rfl
            | succ n ih => rw [fp_sum, ih]; rfl
          exact hz t
        rw [h0, Int32.zero_add]
      · rw [if_neg e]
        have hb := hinn t (by omega)
        rw [decide_eq_true e, Bool.true_and] at hb
        have hp := hxT.2.2.1 t (by omega)
        rw [← hb]
        by_cases hbw : bt wm t = true
        · rw [if_pos ⟨by omega, hbw⟩, if_pos hbw, hp]; rfl
        · rw [if_neg (fun z => hbw z.2), if_neg hbw, Int32.add_zero, hp]; rfl
    · rw [e19, if_neg (by omega), if_neg (by omega), pk_un (show t ≠ nt by omega)]
      exact hxT.2.2.2.1 t (by omega) h2
    · have hold := hxT.2.2.2.2.1 t ht v hv32
      rcases hu with hu | ⟨q, hq, hu⟩
      · have e0 := z1 hu
        have ex : upd (w.1 20) p x t = w.1 20 t := by
          rw [e0.2.2.1, e0.2.2.2]
          by_cases et : t = 0
          · rw [et, pk_us]
          · rw [pk_un et]
        rw [ex, hold]
        refine decide_eq_decide.mpr ?_
        by_cases ev : v = nt
        · subst ev
          rw [pk_us, hu]
          exact ⟨fun z => by omega, fun z => absurd z.2.symm (nI_ne9 (by omega))⟩
        · rw [pk_un ev]
          exact ⟨fun z => ⟨by omega, z.2⟩, fun z => ⟨by omega, z.2⟩⟩
      · have e0 := z2 q hq hu
        rw [e0.2.2.1, e0.2.2.2]
        by_cases et : t = q
        · subst et
          rw [pk_us, b_or, hold, fp_b1 nt (by omega) v hv32]
          by_cases ev : v = nt
          · subst ev
            rw [pk_us, hu]; simp
          · rw [pk_un ev, decide_eq_false ev, Bool.or_false]
            exact decide_eq_decide.mpr ⟨fun z => ⟨by omega, z.2⟩, fun z => ⟨by omega, z.2⟩⟩
        · rw [pk_un et, hold]
          refine decide_eq_decide.mpr ?_
          by_cases ev : v = nt
          · subst ev
            rw [pk_us, hu]
            exact ⟨fun z => by omega, fun z => absurd ((nI_eq (by omega) (by omega)).mp z.2).symm et⟩
          · rw [pk_un ev]
            exact ⟨fun z => ⟨by omega, z.2⟩, fun z => ⟨by omega, z.2⟩⟩
    · rw [hxT.2.2.2.2.2.1 t ht v hv32]
      refine decide_eq_decide.mpr ?_
      by_cases ev : v = nt
      · subst ev
        rw [pk_us]
        exact ⟨fun z => by omega, fun z => absurd z.2.symm (nI_ne9 (by omega))⟩
      · rw [pk_un ev]
        exact ⟨fun z => ⟨by omega, z.2⟩, fun z => ⟨by omega, z.2⟩⟩
    · have hold := hxT.2.2.2.2.2.2.1 v hv32
      by_cases hc : nI kk = 1 ∨ nI kk = 2
      · rw [z3 hc, b_or, hold, fp_b1 nt (by omega) v hv32]
        by_cases ev : v = nt
        · subst ev
          rw [pk_us]; simp [hc]
        · rw [pk_un ev, decide_eq_false ev, Bool.or_false]
          exact decide_eq_decide.mpr ⟨fun z => ⟨by omega, z.2⟩, fun z => ⟨by omega, z.2⟩⟩
      · rw [z4 hc, hold]
        refine decide_eq_decide.mpr ?_
        by_cases ev : v = nt
        · subst ev
          rw [pk_us]
          exact ⟨fun z => by omega, fun z => absurd z.2 hc⟩
        · rw [pk_un ev]
          exact ⟨fun z => ⟨by omega, z.2⟩, fun z => ⟨by omega, z.2⟩⟩
    · have hold := hxT.2.2.2.2.2.2.2 v hv32
      by_cases hc : nI kk = 3
      · rw [z5 hc, b_or, hold, fp_b1 nt (by omega) v hv32]
        by_cases ev : v = nt
        · subst ev
          rw [pk_us]; simp [hc]
        · rw [pk_un ev, decide_eq_false ev, Bool.or_false]
          exact decide_eq_decide.mpr ⟨fun z => ⟨by omega, z.2⟩, fun z => ⟨by omega, z.2⟩⟩
      · rw [z6 hc, hold]
        refine decide_eq_decide.mpr ?_
        by_cases ev : v = nt
        · subst ev
          rw [pk_us]
          exact ⟨fun z => by omega, fun z => absurd z.2 hc⟩
        · rw [pk_un ev]
          exact ⟨fun z => ⟨by omega, z.2⟩, fun z => ⟨by omega, z.2⟩⟩
  · unfold xC
    rw [hcc 25 (by decide) (by decide) (by decide), hcc 26 (by decide) (by decide) (by decide), hcc 30 (by decide) (by decide) (by decide)]
    exact ⟨fun d hd => by rw [hmd]; exact h.1.2.2.2.2.1 d hd, fun d h1 h2 => by rw [hmd]; exact h.1.2.2.2.2.2 d h1 h2⟩
  · have e : xD w2 14 = xD w 14 := congrArg fd_c8 (hcc 32 (by decide) (by decide) (by decide))
    unfold fd_X; rw [e]; exact h.2.1
  · have e : xD w2 17 = xD w 17 := hcc 35 (by decide) (by decide) (by decide)
    unfold fd_G; rw [e]; exact h.2.2.1
  · funext i
    have z := congrFun hm i
    match i with
    | 0 => show w2.1 51 = w2.1 12; rw [m51, e12]; exact upd_cg z
    | 1 => show w2.1 52 = w2.1 13; rw [m52, e13]; exact upd_cg z
    | 2 => show w2.1 53 = w2.1 14; rw [m53, e14]; exact upd_cg z
    | 3 => show w2.1 54 = w2.1 15; rw [m54, e15]; exact upd_cg z
    | 4 => show w2.1 55 = w2.1 16; rw [m55, e16]; exact upd_cg z
    | 5 => show w2.1 56 = w2.1 22; rw [hcc 56 (by decide) (by decide) (by decide), hcc 22 (by decide) (by decide) (by decide)]; exact z
    | 6 => show w2.1 57 = w2.1 23; rw [hcc 57 (by decide) (by decide) (by decide), hcc 23 (by decide) (by decide) (by decide)]; exact z
    | 7 => show w2.1 58 = w2.1 24; rw [hcc 58 (by decide) (by decide) (by decide), hcc 24 (by decide) (by decide) (by decide)]; exact z
    | 8 => show w2.1 59 = w2.1 25; rw [hcc 59 (by decide) (by decide) (by decide), hcc 25 (by decide) (by decide) (by decide)]; exact z
    | 9 => show w2.1 60 = w2.1 27; rw [hcc 60 (by decide) (by decide) (by decide), hcc 27 (by decide) (by decide) (by decide)]; exact z
    | 10 => show w2.1 61 = w2.1 28; rw [hcc 61 (by decide) (by decide) (by decide), hcc 28 (by decide) (by decide) (by decide)]; exact z
    | 11 => show w2.1 62 = w2.1 29; rw [hcc 62 (by decide) (by decide) (by decide), hcc 29 (by decide) (by decide) (by decide)]; exact z
    | 12 => show w2.1 63 = w2.1 30; rw [hcc 63 (by decide) (by decide) (by decide), hcc 30 (by decide) (by decide) (by decide)]; exact z
    | 17 => show w2.1 69 = w2.1 35; rw [hcc 69 (by decide) (by decide) (by decide), hcc 35 (by decide) (by decide) (by decide)]; exact z
    | 18 => show w2.1 70 = w2.1 36; rw [hcc 70 (by decide) (by decide) (by decide), hcc 36 (by decide) (by decide) (by decide)]; exact z
    | 19 => show w2.1 71 = w2.1 37; rw [hcc 71 (by decide) (by decide) (by decide), hcc 37 (by decide) (by decide) (by decide)]; exact z
    | 20 => show w2.1 72 = w2.1 38; rw [hcc 72 (by decide) (by decide) (by decide), hcc 38 (by decide) (by decide) (by decide)]; exact z
    | 21 => show w2.1 73 = w2.1 39; rw [hcc 73 (by decide) (by decide) (by decide), hcc 39 (by decide) (by decide) (by decide)]; exact z
    | 22 => show w2.1 74 = w2.1 40; rw [hcc 74 (by decide) (by decide) (by decide), hcc 40 (by decide) (by decide) (by decide)]; exact z
    | 13 => show fd_c8 (w2.1 64) = fd_c8 (w2.1 31); rw [hcc 64 (by decide) (by decide) (by decide), hcc 31 (by decide) (by decide) (by decide)]; exact z
    | 14 => show fd_c8 (w2.1 65) = fd_c8 (w2.1 32); rw [hcc 65 (by decide) (by decide) (by decide), hcc 32 (by decide) (by decide) (by decide)]; exact z
    | 15 => show fd_c8 (w2.1 66) = fd_c8 (w2.1 33); rw [hcc 66 (by decide) (by decide) (by decide), hcc 33 (by decide) (by decide) (by decide)]; exact z
    | 16 => show fd_c8 (w2.1 67) = fd_c8 (w2.1 34); rw [hcc 67 (by decide) (by decide) (by decide), hcc 34 (by decide) (by decide) (by decide)]; exact z
    | 23 =>
      have zz1 := congrFun z 1
      have zz2 := congrFun z 2
      have zz3 := congrFun z 3
      show fd_s4 (w2.1 46 8) (w2.1 46 14) (w2.1 46 27) (w2.1 46 38) = fd_s4 (w2.1 2 12) (w2.1 3 9) (w2.1 4 4) (w2.1 5 6)
      rw [m468, m46 14 (by decide), m46 27 (by decide), m46 38 (by decide), e2.2.2, hcc 3 (by decide) (by decide) (by decide), hcc 4 (by decide) (by decide) (by decide), hcc 5 (by decide) (by decide) (by decide), show w.1 46 14 = w.1 3 9 from zz1, show w.1 46 27 = w.1 4 4 from zz2, show w.1 46 38 = w.1 5 6 from zz3]
    | i + 24 => rfl
  · exact fr_m h.2.2.2.2.1 (fun c hc => hcc c (by omega) (by omega) (by omega))
  · intro t v ht hv2 e
    have e' : upd (w.1 16) nt (-9) t = nI v := by rw [← e16]; exact e
    by_cases et : t = nt
    · rw [et, pk_us] at e'
      exact absurd e'.symm (nI_ne9 (by omega))
    · rw [pk_un et] at e'
      have htn : t < nt := by omega
      rcases (hT t htn).2.2.2.2 with y | ⟨q, hq, y⟩
      · rw [show w.1 16 t = -9 from y] at e'
        exact absurd e'.symm (nI_ne9 (by omega))
      · have : v = q := (nI_eq (by omega) (by omega)).mp (e'.symm.trans y)
        exact h.2.2.2.2.2.1 t v htn (by omega) e'
  · rw [m46 2 (by decide), m46 0 (by decide), hcc 0 (by decide) (by decide) (by decide), hcc 47 (by decide) (by decide) (by decide), hcc 9 (by decide) (by decide) (by decide)]; exact h.2.2.2.2.2.2.1
  · rw [hl2]; exact h.2.2.2.2.2.2.2
theorem r_thing {l : Launch} {w : fb_Wd} (h : fR w) {k s v u : Int32} : fPair l tX7_thing tX8_thing [.int k, .int s, .int v, .int u] w := by
  obtain ⟨nt, nd, nx, ng, rk, h⟩ := h
  have hX := h.1
  have hx := h.2.1
  have hnt := hX.1.1.2
  have hnd := hX.1.2.1.2
  have hnx := hX.1.2.2.1.2
  have hng := hX.1.2.2.2.2
  have hi1 : (∃ q, q < 10 ∧ s = nI q) ↔ (0 ≤ s ∧ s ≤ 9) := fx_rg (n := 9) (by decide)
  refine c_X7_thing hX (fun hb => ?_) (fun hn hc => ?_) (fun hn hc tp wm p x be sd z1 z2 z3 z4 z5 z6 => ?_)
  · have m := h.m (c0 w)
    exact c_X8_thing m.2.1 m.2.2.1 m.2.2.2 (fun _ => ⟨rfl, h.R⟩) (fun _ hc => absurd ⟨hc.1, hi1.mpr hc.2.1, hc.2.2⟩ hb) (fun _ hc => absurd ⟨hc.1, hi1.mpr hc.2.1, hc.2.2⟩ hb)
  · have m := h.m (c0 w)
    exact c_X8_thing m.2.1 m.2.2.1 m.2.2.2 (fun hb => absurd ⟨hc.1, hi1.mp hc.2.1, hc.2.2⟩ hb) (fun _ _ => ⟨rfl, h.R⟩) (fun hn2 _ => absurd hn2 (by omega))
  · have m := h.m (w1 := fx_ad w nt k s v u tp wm p x be sd) (fun c hc => by
      unfold fx_ad
      rw [fb_up_ne _ _ _ (by omega), fb_up_ne _ _ _ (by omega), fx_cw_ne _ _ _ (by omega), fb_up_ne _ _ _ (by omega), fb_up_ne _ _ _ (by omega), fb_up_ne _ _ _ (by omega), fb_up_ne _ _ _ (by omega), fb_up_ne _ _ _ (by omega), fb_up_ne _ _ _ (by omega), fb_up_ne _ _ _ (by omega), fb_up_ne _ _ _ (by omega)])
    refine c_X8_thing m.2.1 m.2.2.1 m.2.2.2 (fun hb => absurd ⟨hc.1, hi1.mp hc.2.1, hc.2.2⟩ hb) (fun hn2 _ => absurd hn (by omega)) (fun _ _ => ?_)
    obtain ⟨⟨k1, k2⟩, ⟨ss, hs, rfl⟩, ⟨v1, v2⟩, hu⟩ := hc
    obtain ⟨kk, hk, rfl⟩ := nI_ofle (n := 3) k1 k2 (by decide)
    obtain ⟨vv, hv, rfl⟩ := nI_ofle (n := 10000) v1 v2 (by decide)
    exact ⟨rfl, (fR_thing h hn hk hs hv hu z1 z2 z3 z4 z5 z6).R⟩
