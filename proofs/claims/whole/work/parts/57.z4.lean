theorem upd_cg {f g : Nat → Int32} {k : Nat} {x : Int32} (h : f = g) : upd f k x = upd g k x := by rw [h]
theorem fd_c8_u {f g : Nat → Int32} {k : Nat} {x : Int32} (h : fd_c8 f = fd_c8 g) : fd_c8 (upd f k x) = fd_c8 (upd g k x) := by
  funext i
  have hi := congrFun h i
  unfold fd_c8 at hi ⊢
  by_cases e : i < 8
  · rw [if_pos e, if_pos e] at hi
    rw [if_pos e, if_pos e]
    by_cases e2 : i = k
    · rw [e2, pk_us, pk_us]
    · rw [pk_un e2, pk_un e2]; exact hi
  · rw [if_neg e, if_neg e]
theorem fR_jury {w : fb_Wd} {nt nd nx ng j : Nat} {rk : Nat → Nat} {v : Int32} (h : fR1 w nt nd nx ng rk) : fR1 (fb_up (fb_up w 24 j v) 58 j v) nt nd nx ng rk := by
  obtain ⟨hX, h2, h3, hm, h5, h6, h7, h8⟩ := h
  refine ⟨hX, h2, h3, ?_, h5, h6, h7, h8⟩
  funext i
  match i with
  | 0 => exact congrFun hm 0
  | 1 => exact congrFun hm 1
  | 2 => exact congrFun hm 2
  | 3 => exact congrFun hm 3
  | 4 => exact congrFun hm 4
  | 5 => exact congrFun hm 5
  | 6 => exact congrFun hm 6
  | 8 => exact congrFun hm 8
  | 9 => exact congrFun hm 9
  | 10 => exact congrFun hm 10
  | 11 => exact congrFun hm 11
  | 12 => exact congrFun hm 12
  | 13 => exact congrFun hm 13
  | 14 => exact congrFun hm 14
  | 15 => exact congrFun hm 15
  | 16 => exact congrFun hm 16
  | 17 => exact congrFun hm 17
  | 18 => exact congrFun hm 18
  | 19 => exact congrFun hm 19
  | 20 => exact congrFun hm 20
  | 21 => exact congrFun hm 21
  | 22 => exact congrFun hm 22
  | 23 => exact congrFun hm 23
  | 7 => exact upd_cg (congrFun hm 7)
  | i + 24 => rfl
theorem fR_text {w : fb_Wd} {nt nd nx ng q : Nat} {rk : Nat → Nat} {y z f : Int32} (h : fR1 w nt nd nx ng rk) (hn : nx < 8) (hq : q ≤ 3) : fR1 (fb_up (fb_up (fp_setText (fb_up (fb_up (fb_up (fb_up (fb_up w 4 4 (nI (nx + 1))) 31 nx y) 32 nx (nI q)) 33 nx z) 34 nx f) nx (nI q) z f) 64 nx y) 46 27 (nI (nx + 1))) nt nd (nx + 1) ng rk := by
  obtain ⟨⟨hN, hT, hA, hxT, hxC⟩, h2, h3, hm, h5, h6, h7, h8⟩ := h
  refine ⟨⟨⟨hN.1, hN.2.1, ⟨rfl, by omega⟩, hN.2.2.2⟩, hT, hA, hxT, hxC⟩, fun x hx => ?_, h3, ?_, h5, h6, h7, h8⟩
  · show ∃ q2, q2 ≤ 3 ∧ fd_c8 (upd (w.1 32) nx (nI q)) x = nI q2
    have e8 : fd_c8 (upd (w.1 32) nx (nI q)) x = upd (w.1 32) nx (nI q) x := if_pos (by omega)
    rw [e8]
    by_cases e : x = nx
    · rw [e, pk_us]; exact ⟨q, hq, rfl⟩
    · rw [pk_un e]
      obtain ⟨q2, hq2, eq2⟩ := h2 x (by omega)
      have e82 : xD w 14 x = w.1 32 x := if_pos (by omega)
      rw [e82] at eq2
      exact ⟨q2, hq2, eq2⟩
  · funext i
    match i with
    | 0 => exact congrFun hm 0
    | 1 => exact congrFun hm 1
    | 2 => exact congrFun hm 2
    | 3 => exact congrFun hm 3
    | 4 => exact congrFun hm 4
    | 5 => exact congrFun hm 5
    | 6 => exact congrFun hm 6
    | 7 => exact congrFun hm 7
    | 8 => exact congrFun hm 8
    | 9 => exact congrFun hm 9
    | 10 => exact congrFun hm 10
    | 11 => exact congrFun hm 11
    | 12 => exact congrFun hm 12
    | 17 => exact congrFun hm 17
    | 18 => exact congrFun hm 18
    | 19 => exact congrFun hm 19
    | 20 => exact congrFun hm 20
    | 21 => exact congrFun hm 21
    | 22 => exact congrFun hm 22
    | 13 => exact fd_c8_u (f := w.1 64) (g := w.1 31) (congrFun hm 13)
    | 14 => exact fd_c8_u (f := w.1 65) (g := w.1 32) (congrFun hm 14)
    | 15 => exact fd_c8_u (f := w.1 66) (g := w.1 33) (congrFun hm 15)
    | 16 => exact fd_c8_u (f := w.1 67) (g := w.1 34) (congrFun hm 16)
    | 23 => 
      have z := congrFun hm 23
      have z0 := congrFun z 0
      have z1 := congrFun z 1
      have z3 := congrFun z 3
      show fd_s4 (w.1 46 8) (w.1 46 14) (nI (nx + 1)) (w.1 46 38) = fd_s4 (w.1 2 12) (w.1 3 9) (nI (nx + 1)) (w.1 5 6)
      rw [show w.1 46 8 = w.1 2 12 from z0, show w.1 46 14 = w.1 3 9 from z1, show w.1 46 38 = w.1 5 6 from z3]
    | i + 24 => rfl
theorem fR_grant {w : fb_Wd} {nt nd nx ng q : Nat} {rk : Nat → Nat} {p a b s t : Int32} (h : fR1 w nt nd nx ng rk) (hn : ng < 10) (hq : q < 8) : fR1 (fb_up (fb_up (fb_up (fb_up (fb_up (fb_up (fb_up (fb_up (fb_up (fb_up (fb_up (fb_up (fb_up (fb_up w 5 6 (nI (ng + 1))) 35 ng (nI q)) 36 ng p) 37 ng a) 38 ng b) 39 ng s) 40 ng t) 69 ng (nI q)) 70 ng p) 71 ng a) 72 ng b) 73 ng s) 74 ng t) 46 38 (nI (ng + 1))) nt nd nx (ng + 1) rk := by
  obtain ⟨⟨hN, hT, hA, hxT, hxC⟩, h2, h3, hm, h5, h6, h7, h8⟩ := h
  refine ⟨⟨⟨hN.1, hN.2.1, hN.2.2.1, ⟨rfl, by omega⟩⟩, hT, hA, hxT, hxC⟩, h2, fun g hg => ?_, ?_, h5, h6, h7, h8⟩
  · show ∃ q2, q2 < 8 ∧ upd (w.1 35) ng (nI q) g = nI q2
    by_cases e : g = ng
    · rw [e, pk_us]; exact ⟨q, hq, rfl⟩
    · rw [pk_un e]; exact h3 g (by omega)
  · funext i
    match i with
    | 0 => exact congrFun hm 0
    | 1 => exact congrFun hm 1
    | 2 => exact congrFun hm 2
    | 3 => exact congrFun hm 3
    | 4 => exact congrFun hm 4
    | 5 => exact congrFun hm 5
    | 6 => exact congrFun hm 6
    | 7 => exact congrFun hm 7
    | 8 => exact congrFun hm 8
    | 9 => exact congrFun hm 9
    | 10 => exact congrFun hm 10
    | 11 => exact congrFun hm 11
    | 12 => exact congrFun hm 12
    | 13 => exact congrFun hm 13
    | 14 => exact congrFun hm 14
    | 15 => exact congrFun hm 15
    | 16 => exact congrFun hm 16
    | 17 => exact upd_cg (congrFun hm 17)
    | 18 => exact upd_cg (congrFun hm 18)
    | 19 => exact upd_cg (congrFun hm 19)
    | 20 => exact upd_cg (congrFun hm 20)
    | 21 => exact upd_cg (congrFun hm 21)
    | 22 => exact upd_cg (congrFun hm 22)
    | 23 => 
      have z := congrFun hm 23
      have z0 := congrFun z 0
      have z1 := congrFun z 1
      have z2 := congrFun z 2
      show fd_s4 (w.1 46 8) (w.1 46 14) (w.1 46 27) (nI (ng + 1)) = fd_s4 (w.1 2 12) (w.1 3 9) (w.1 4 4) (nI (ng + 1))
      rw [show w.1 46 8 = w.1 2 12 from z0, show w.1 46 14 = w.1 3 9 from z1, show w.1 46 27 = w.1 4 4 from z2]
    | i + 24 => rfl
theorem fR_death {w : fb_Wd} {nt nd nx ng : Nat} {rk : Nat → Nat} {p y t : Int32} (h : fR1 w nt nd nx ng rk) (hn : nd < 12) : fR1 (fb_up (fb_up (fb_up (fb_up (fb_up (fb_up (fb_up (fb_up (fb_up w 3 9 (nI (nd + 1))) 22 nd p) 23 nd y) 24 nd t) 56 nd p) 57 nd y) 58 nd t) 59 nd (nI 0)) 46 14 (nI (nd + 1))) nt (nd + 1) nx ng rk := by
  obtain ⟨⟨hN, hT, hA, hxT, hxC⟩, h2, h3, hm, h5, h6, h7, h8⟩ := h
  have h0 : w.1 25 nd = nI 0 := by rw [(hxC.1 nd hn).1, hxC.2 nd (Nat.le_refl _) hn]
  refine ⟨⟨⟨hN.1, ⟨rfl, by omega⟩, hN.2.2⟩, hT, fun d hd => ?_, hxT, ⟨hxC.1, fun d h1 h2 => hxC.2 d (by omega) h2⟩⟩, h2, h3, ?_, h5, h6, h7, h8⟩
  · by_cases e : d = nd
    · subst e
      have hmz : fd_m (xD w) d = 0 := hxC.2 d (Nat.le_refl _) hn
      show fd_A (xD w) nt d (fd_m (xD w) d)
      rw [hmz]
      exact ⟨h0, by decide, fun k hk => by omega, Nat.zero_le _⟩
    · exact hA d (by omega)
  · funext i
    match i with
    | 0 => exact congrFun hm 0
    | 1 => exact congrFun hm 1
    | 2 => exact congrFun hm 2
    | 3 => exact congrFun hm 3
    | 4 => exact congrFun hm 4
    | 9 => exact congrFun hm 9
    | 10 => exact congrFun hm 10
    | 11 => exact congrFun hm 11
    | 12 => exact congrFun hm 12
    | 13 => exact congrFun hm 13
    | 14 => exact congrFun hm 14
    | 15 => exact congrFun hm 15
    | 16 => exact congrFun hm 16
    | 17 => exact congrFun hm 17
    | 18 => exact congrFun hm 18
    | 19 => exact congrFun hm 19
    | 20 => exact congrFun hm 20
    | 21 => exact congrFun hm 21
    | 22 => exact congrFun hm 22
    | 5 => exact upd_cg (congrFun hm 5)
    | 6 => exact upd_cg (congrFun hm 6)
    | 7 => exact upd_cg (congrFun hm 7)
    | 8 => 
      have e8 : w.1 59 = w.1 25 := congrFun hm 8
      show upd (w.1 59) nd (nI 0) = w.1 25
      rw [e8]
      funext k
      by_cases e : k = nd
      · rw [e, pk_us, h0]
      · rw [pk_un e]
    | 23 => 
      have z := congrFun hm 23
      have z0 := congrFun z 0
      have z2 := congrFun z 2
      have z3 := congrFun z 3
      show fd_s4 (w.1 46 8) (nI (nd + 1)) (w.1 46 27) (w.1 46 38) = fd_s4 (w.1 2 12) (nI (nd + 1)) (w.1 4 4) (w.1 5 6)
      rw [show w.1 46 8 = w.1 2 12 from z0, show w.1 46 27 = w.1 4 4 from z2, show w.1 46 38 = w.1 5 6 from z3]
    | i + 24 => rfl
theorem r_jury {l : Launch} {w : fb_Wd} (h : fR w) {d v : Int32} : fPair l tX7_jury tX8_jury [.int d, .int v] w := by
  obtain ⟨nt, nd, nx, ng, rk, h⟩ := h
  have hX := h.1
  have hx := h.2.1
  have hnt := hX.1.1.2
  have hnd := hX.1.2.1.2
  have hnx := hX.1.2.2.1.2
  have hng := hX.1.2.2.2.2
  refine c_X7_jury hX (fun hb => ?_) (fun j hj ej hv => ?_)
  · have m := h.m (c0 w)
    exact c_X8_jury m.2.1 m.2.2.1 m.2.2.2 (fun _ => ⟨rfl, h.R⟩) (fun j hj ej hv => absurd ⟨⟨j, hj, ej⟩, hv⟩ hb)
  · have m := h.m (c46_up (a := 24) (c0 w) j v (by decide))
    refine c_X8_jury m.2.1 m.2.2.1 m.2.2.2 (fun hb => absurd ⟨⟨j, hj, ej⟩, hv⟩ hb) (fun j2 hj2 ej2 _ => ?_)
    obtain rfl := fx_inj ej ej2 (by omega) (by omega)
    exact ⟨by rw [m.1], (fR_jury h).R⟩
theorem r_text {l : Launch} {w : fb_Wd} (h : fR w) {y r z f : Int32} (hz : z = 0 ∨ z = 1) : fPair l tX7_text tX8_text [.int y, .int r, .int z, .int f] w := by
  obtain ⟨nt, nd, nx, ng, rk, h⟩ := h
  have hX := h.1
  have hx := h.2.1
  have hnt := hX.1.1.2
  have hnd := hX.1.2.1.2
  have hnx := hX.1.2.2.1.2
  have hng := hX.1.2.2.2.2
  refine c_X7_text hX hz (fun hb => ?_) (fun hn hc => ?_) (fun hn hc => ?_)
  · have m := h.m (c0 w)
    exact c_X8_text m.2.1 m.2.2.1 m.2.2.2 hz (fun _ => ⟨rfl, h.R⟩) (fun _ h1 h2 h3 h4 h5 h6 => absurd ⟨⟨h1, h2⟩, h3, h4, h5, h6⟩ hb) (fun _ h1 h2 h3 h4 h5 h6 => absurd ⟨⟨h1, h2⟩, h3, h4, h5, h6⟩ hb)
  · have m := h.m (c0 w)
    exact c_X8_text m.2.1 m.2.2.1 m.2.2.2 hz (fun hb => absurd hc hb) (fun _ _ _ _ _ _ _ => ⟨rfl, h.R⟩) (fun hn2 _ _ _ _ _ _ => absurd hn2 (by omega))
  · have m := h.m (c46_up (a := 34) (c46_up (a := 33) (c46_up (a := 32) (c46_up (a := 31) (c46_up (a := 4) (c0 w) 4 (nI (nx + 1)) (by decide)) nx y (by decide)) nx r (by decide)) nx z (by decide)) nx f (by decide))
    refine c_X8_text m.2.1 m.2.2.1 m.2.2.2 hz (fun hb => absurd hc hb) (fun hn2 _ _ _ _ _ _ => absurd hn (by omega)) (fun _ _ _ _ _ _ _ => ?_)
    obtain ⟨q, hq, rfl⟩ := nI_ofle (n := 3) hc.2.1 hc.2.2.1 (by decide)
    exact ⟨rfl, (fR_text h hn hq).R⟩
theorem r_grant {l : Launch} {w : fb_Wd} (h : fR w) {lo p a b s q12 : Int32} : fPair l tX7_grant tX8_grant [.int lo, .int p, .int a, .int b, .int s, .int q12] w := by
  obtain ⟨nt, nd, nx, ng, rk, h⟩ := h
  have hX := h.1
  have hx := h.2.1
  have hnt := hX.1.1.2
  have hnd := hX.1.2.1.2
  have hnx := hX.1.2.2.1.2
  have hng := hX.1.2.2.2.2
  have hi1 : (∃ q, q < 8 ∧ lo = nI q) ↔ (0 ≤ lo ∧ lo ≤ 7) := fx_rg (n := 7) (by decide)
  have hi2 : (∃ q, q < 8 ∧ p = nI q) ↔ (0 ≤ p ∧ p ≤ 7) := fx_rg (n := 7) (by decide)
  refine c_X7_grant hX (fun hb => ?_) (fun hn hc => ?_) (fun hn hc => ?_)
  · have m := h.m (c0 w)
    exact c_X8_grant m.2.1 m.2.2.1 m.2.2.2 (fun _ => ⟨rfl, h.R⟩) (fun _ hc => absurd ⟨hi1.mpr hc.1, hi2.mpr hc.2.1, hc.2.2⟩ hb) (fun _ hc => absurd ⟨hi1.mpr hc.1, hi2.mpr hc.2.1, hc.2.2⟩ hb)
  · have m := h.m (c0 w)
    exact c_X8_grant m.2.1 m.2.2.1 m.2.2.2 (fun hb => absurd ⟨hi1.mp hc.1, hi2.mp hc.2.1, hc.2.2⟩ hb) (fun _ _ => ⟨rfl, h.R⟩) (fun hn2 _ => absurd hn2 (by omega))
  · have m := h.m (c46_up (a := 40) (c46_up (a := 39) (c46_up (a := 38) (c46_up (a := 37) (c46_up (a := 36) (c46_up (a := 35) (c46_up (a := 5) (c0 w) 6 (nI (ng + 1)) (by decide)) ng lo (by decide)) ng p (by decide)) ng a (by decide)) ng b (by decide)) ng s (by decide)) ng q12 (by decide))
    refine c_X8_grant m.2.1 m.2.2.1 m.2.2.2 (fun hb => absurd ⟨hi1.mp hc.1, hi2.mp hc.2.1, hc.2.2⟩ hb) (fun hn2 _ => absurd hn (by omega)) (fun _ _ => ?_)
    obtain ⟨⟨q, hq, rfl⟩, -⟩ := hc
    exact ⟨rfl, (fR_grant h hn hq).R⟩
theorem r_death {l : Launch} {w : fb_Wd} (h : fR w) {p y t : Int32} : fPair l tX7_death tX8_death [.int p, .int y, .int t] w := by
  obtain ⟨nt, nd, nx, ng, rk, h⟩ := h
  have hX := h.1
  have hx := h.2.1
  have hnt := hX.1.1.2
  have hnd := hX.1.2.1.2
  have hnx := hX.1.2.2.1.2
  have hng := hX.1.2.2.2.2
  have hi2 : (∃ q, q < 8 ∧ p = nI q) ↔ (0 ≤ p ∧ p ≤ 7) := fx_rg (n := 7) (by decide)
  refine c_X7_death hX (fun hb => ?_) (fun hn hc => ?_) (fun hn hc => ?_)
  · have m := h.m (c0 w)
    exact c_X8_death m.2.1 m.2.2.1 m.2.2.2 (fun _ => ⟨rfl, h.R⟩) (fun _ h1 h2 h3 h4 h5 => absurd ⟨hi2.mpr ⟨h1, h2⟩, ⟨h3, h4⟩, h5⟩ hb) (fun _ h1 h2 h3 h4 h5 => absurd ⟨hi2.mpr ⟨h1, h2⟩, ⟨h3, h4⟩, h5⟩ hb)
  · have m := h.m (c0 w)
    exact c_X8_death m.2.1 m.2.2.1 m.2.2.2 (fun hb => absurd ⟨hi2.mp hc.1, hc.2⟩ hb) (fun _ _ _ _ _ _ => ⟨rfl, h.R⟩) (fun hn2 _ _ _ _ _ => absurd hn2 (by omega))
  · have m := h.m (c46_up (a := 24) (c46_up (a := 23) (c46_up (a := 22) (c46_up (a := 3) (c0 w) 9 (nI (nd + 1)) (by decide)) nd p (by decide)) nd y (by decide)) nd t (by decide))
    refine c_X8_death m.2.1 m.2.2.1 m.2.2.2 (fun hb => absurd ⟨hi2.mp hc.1, hc.2⟩ hb) (fun hn2 _ _ _ _ _ => absurd hn (by omega)) (fun _ _ _ _ _ _ => ?_)
    exact ⟨rfl, (fR_death h hn).R⟩
theorem fp_sum_ud {c : Nat → Bool} {f : Nat → Int32} {j : Nat} {v : Int32} : ∀ {n : Nat}, j < n → fp_sum (fun k => if c k = true then upd f j v k else 0) n = fp_sum (fun k => if c k = true then f k else 0) n + (if c j = true then v - f j else 0)
  | 0, h => by omega
  | n + 1, h => by
    rw [fp_sum, fp_sum]
    by_cases e : j = n
    · subst e
      have h2 : fp_sum (fun k => if c k = true then upd f j v k else 0) j = fp_sum (fun k => if c k = true then f k else 0) j := fp_sum_cg (fun i hi => by rw [pk_un (show i ≠ j by omega)])
      rw [h2, pk_us]
      by_cases hc : c j = true
      · rw [if_pos hc, if_pos hc, if_pos hc, Int32.add_assoc, Int32.sub_eq_add_neg, Int32.add_comm (f j), Int32.add_assoc, Int32.add_left_neg, Int32.add_zero]
      · rw [if_neg hc, if_neg hc, if_neg hc, Int32.add_zero, Int32.add_zero]
    · rw [fp_sum_ud (n := n) (by omega), pk_un (show n ≠ j by omega), Int32.add_assoc, Int32.add_assoc, Int32.add_comm (if c n = true then f n else 0)]
theorem fx_cw_14 (w : fb_Wd) (t : Nat) (v : Int32) : (fx_cw w t v).1 14 = upd (w.1 14) t v := by
  unfold fx_cw
  rw [fx_cp_ne _ _ _ (by decide), fb_up_ne _ _ _ (by decide), fb_up_eq]
theorem fx_cw_2 (w : fb_Wd) (t : Nat) (v : Int32) : (fx_cw w t v).2 = w.2 := by
  unfold fx_cw
  rw [fx_cp_2]; rfl
theorem fx_cw_19 (w : fb_Wd) (t : Nat) (v : Int32) (u : Nat) : (fx_cw w t v).1 19 u = if u = t then w.1 19 t + (v - w.1 14 t) else if u < t ∧ bt (w.1 18 t) u = true then w.1 19 u + (v - w.1 14 t) else w.1 19 u := by
  unfold fx_cw
  rw [fx_cp_19, fb_up_eq, fb_up_ne _ _ _ (by decide)]
  by_cases e : u = t
  · rw [if_neg (by omega), if_pos e, e, pk_us]
  · rw [pk_un e, if_neg e]
theorem fx_price_w {w : fb_Wd} {nt j t : Nat} {v : Int32} (hT : xT w nt) (hn : nt ≤ 20) (hj : j < nt) (ht : t < nt) : (fx_cw w j v).1 19 t = fp_price (w.1 15) (upd (w.1 14) j v) nt t := by
  have e := fp_sum_ud (c := fun k => fp_in (w.1 15) k t) (f := w.1 14) (j := j) (v := v) hj
  have e2 : fp_price (w.1 15) (upd (w.1 14) j v) nt t = fp_price (w.1 15) (w.1 14) nt t + (if fp_in (w.1 15) j t = true then v - w.1 14 j else 0) := e
  rw [e2, fx_cw_19, ← hT.2.2.1 t ht]
  by_cases e1 : t = j
  · subst e1
    rw [if_pos rfl, if_pos (fp_in_t _ _)]
  · rw [if_neg e1]
    have hb := hT.2.1 j hj t (by omega)
    rw [decide_eq_true e1, Bool.true_and] at hb
    by_cases h1 : fp_in (w.1 15) j t = true
    · have hle := fp_in_le j t h1
      rw [if_pos ⟨by omega, by rw [hb]; exact h1⟩, if_pos h1]
    · rw [if_neg (fun z => h1 (by rw [← hb]; exact z.2)), if_neg h1, Int32.add_zero]
theorem fR_worth {w : fb_Wd} {nt nd nx ng j q : Nat} {rk : Nat → Nat} (h : fR1 w nt nd nx ng rk) (hj : j < nt) (hq : q ≤ 10000) : fR1 (fb_up (fx_cw w j (nI q)) 53 j (nI q)) nt nd nx ng rk := by
  have hcc : ∀ c, (¬ c = 19 ∧ ¬ c = 14) → ¬ c = 53 → (fb_up (fx_cw w j (nI q)) 53 j (nI q)).1 c = w.1 c := fun c h1 h2 => (fb_up_ne _ _ _ h2).trans (fx_cw_ne w j (nI q) h1)
  have e14 : (fb_up (fx_cw w j (nI q)) 53 j (nI q)).1 14 = upd (w.1 14) j (nI q) := (fb_up_ne _ _ _ (by decide)).trans (fx_cw_14 w j (nI q))
  have e19 : (fb_up (fx_cw w j (nI q)) 53 j (nI q)).1 19 = (fx_cw w j (nI q)).1 19 := fb_up_ne _ _ _ (by decide)
  have e53 : (fb_up (fx_cw w j (nI q)) 53 j (nI q)).1 53 = upd (w.1 53) j (nI q) := by rw [fb_up_eq, fx_cw_ne _ _ _ (by decide)]
  have hw2 : (fb_up (fx_cw w j (nI q)) 53 j (nI q)).2 = w.2 := fx_cw_2 w j (nI q)
  generalize hW : fb_up (fx_cw w j (nI q)) 53 j (nI q) = w2 at *
  have hn := h.1.1.1.2
  have exi : ∀ i, ¬ i = 2 → xD w2 i = xD w i := by
    intro i hi
    match i with
    | 0 | 1 | 3 | 4 | 5 | 6 | 7 | 8 | 9 | 10 | 11 | 12 | 17 | 18 | 19 | 20 | 21 | 22 => exact hcc _ (by decide) (by decide)
    | 13 | 14 | 15 | 16 => exact congrArg fd_c8 (hcc _ (by decide) (by decide))
    | 2 => exact absurd rfl hi
    | 23 =>
      show fd_s4 _ _ _ _ = fd_s4 _ _ _ _
      rw [hcc 2 (by decide) (by decide), hcc 3 (by decide) (by decide), hcc 4 (by decide) (by decide), hcc 5 (by decide) (by decide)]
    | i + 24 => rfl
  have ex2 : xD w2 2 = upd (w.1 14) j (nI q) := e14
  have emi : ∀ i, ¬ i = 2 → mD w2 i = mD w i := by
    intro i hi
    match i with
    | 0 | 1 | 3 | 4 | 5 | 6 | 7 | 8 | 9 | 10 | 11 | 12 | 17 | 18 | 19 | 20 | 21 | 22 => exact hcc _ (by decide) (by decide)
    | 13 | 14 | 15 | 16 => exact congrArg fd_c8 (hcc _ (by decide) (by decide))
    | 2 => exact absurd rfl hi
    | 23 =>
      show fd_s4 _ _ _ _ = fd_s4 _ _ _ _
      rw [hcc 46 (by decide) (by decide)]
    | i + 24 => rfl
  have hm := h.2.2.2.1
  obtain ⟨⟨hN, hT, hA, hxT, hxC⟩, h2, h3, -, h5, h6, h7, h8⟩ := h
  have emd : ∀ d, fd_m (xD w2) d = fd_m (xD w) d := fun d => by unfold fd_m; rw [exi 8 (by decide)]
  refine ⟨⟨?_, ?_, ?_, ?_, ?_⟩, ?_, ?_, ?_, ?_, ?_, ?_, ?_⟩
  · unfold fd_N; rw [exi 23 (by decide)]; exact hN
  · intro t ht
    rw [exi 0 (by decide), exi 1 (by decide), exi 3 (by decide), exi 4 (by decide), ex2]
    refine ⟨(hT t ht).1, (hT t ht).2.1, ?_, (hT t ht).2.2.2⟩
    by_cases e : t = j
    · rw [e, pk_us]; exact ⟨q, hq, rfl⟩
    · rw [pk_un e]; exact (hT t ht).2.2.1
  · intro d hd
    have z := hA d hd
    unfold fd_A at z ⊢
    rw [emd, exi 8 (by decide), exi 9 (by decide), exi 10 (by decide), exi 11 (by decide), exi 12 (by decide)]
    exact z
  · unfold xT
    rw [hcc 17 (by decide) (by decide), hcc 15 (by decide) (by decide), hcc 18 (by decide) (by decide), e19, e14, hcc 20 (by decide) (by decide), hcc 21 (by decide) (by decide), hcc 16 (by decide) (by decide), hcc 2 (by decide) (by decide), hcc 12 (by decide) (by decide)]
    refine ⟨hxT.1, hxT.2.1, fun t ht => fx_price_w hxT hn hj ht, fun t h1 h2 => ?_, hxT.2.2.2.2⟩
    have z := hxT.2.2.2.1 t h1 h2
    rw [fx_cw_19, if_neg (by omega), if_neg (by omega), pk_un (show t ≠ j by omega)]
    exact z
  · unfold xC
    rw [hcc 25 (by decide) (by decide), hcc 26 (by decide) (by decide), hcc 30 (by decide) (by decide)]
    exact ⟨fun d hd => by rw [emd]; exact hxC.1 d hd, fun d h1 h2 => by rw [emd]; exact hxC.2 d h1 h2⟩
  · unfold fd_X; rw [exi 14 (by decide)]; exact h2
  · unfold fd_G; rw [exi 17 (by decide)]; exact h3
  · funext i
    by_cases e : i = 2
    · subst e
      show w2.1 53 = w2.1 14
      rw [e53, e14]
      exact upd_cg (congrFun hm 2)
    · rw [emi i e, exi i e]; exact congrFun hm i
  · unfold fr_Z; rw [hcc 10 (by decide) (by decide), hcc 11 (by decide) (by decide), hcc 48 (by decide) (by decide), hcc 49 (by decide) (by decide)]; exact h5
  · rw [exi 4 (by decide)]; exact h6
  · rw [hcc 46 (by decide) (by decide), hcc 0 (by decide) (by decide), hcc 47 (by decide) (by decide), hcc 9 (by decide) (by decide)]; exact h7
  · rw [hw2]; exact h8
theorem r_worth {l : Launch} {w : fb_Wd} (h : fR w) {t v : Int32} : fPair l tX7_worth tX8_worth [.int t, .int v] w := by
  obtain ⟨nt, nd, nx, ng, rk, h⟩ := h
  have hX := h.1
  have hx := h.2.1
  have hnt := hX.1.1.2
  have hnd := hX.1.2.1.2
  have hnx := hX.1.2.2.1.2
  have hng := hX.1.2.2.2.2
  refine c_X7_worth hX (fun hb => ?_) (fun j hj ej h1 h2 => ?_)
  · have m := h.m (c0 w)
    exact c_X8_worth m.2.1 m.2.2.1 m.2.2.2 (fun _ => ⟨rfl, h.R⟩) (fun j hj ej h1 h2 => absurd ⟨⟨j, hj, ej⟩, h1, h2⟩ hb)
  · have m := h.m (w1 := fx_cw w j v) (fun c hc => fx_cw_ne w j v (by omega))
    refine c_X8_worth m.2.1 m.2.2.1 m.2.2.2 (fun hb => absurd ⟨⟨j, hj, ej⟩, h1, h2⟩ hb) (fun j2 hj2 ej2 _ _ => ?_)
    obtain rfl := fx_inj ej ej2 (by omega) (by omega)
    obtain ⟨q, hq, rfl⟩ := nI_ofle (n := 10000) h1 h2 (by decide)
    exact ⟨by rw [m.1], (fR_worth h hj hq).R⟩
