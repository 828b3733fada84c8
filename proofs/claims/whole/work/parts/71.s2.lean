set_option maxHeartbeats 4000000 in
set_option maxRecDepth 100000 in
theorem whole_start {p : Program} {e : Env} {s : State} {m : MethodId} {below : List Frame} {meth : Method} {c : Code} (l : Launch) {b L : Nat} {xs : Nat → Int32} (hL : L ≤ 3584) (C0 : lw_At p s m meth c b L xs) : W p l e room_1 s m #[Value.ref b] below meth c s.heap [] 0 0 (lw_Z below #[Value.ref b] s) (entryFrame m ([Value.ref b] : List Value).toArray 4) := by
  obtain ⟨hx, hb, hr, hml, hown0, hts9, hX, hbl, hlocks, hgv⟩ := id C0
  have hown : s.vm.findClass RL = some m.cls := hown0
  have hts : ∀ w ∈ fb_gT, w.before #[Value.ref b] s = true := fun w hw => hts9 w (List.mem_filter.mp hw).1
  have hN : ∀ w ∈ fb_nT, va_Nw w s := by
    intro w hw
    have h1 := hts9 w (List.mem_filter.mp hw).1
    have h2 := (List.mem_filter.mp hw).2
    cases w <;> first | exact va_Nw.of rfl h1 | cases h2
  have hA : ∀ q : Nat, s.heap.size ≤ q → (fun q : Nat => s.heap.size ≤ q) q := fun _ h => h
  obtain ⟨c0, iS0, hKn0⟩ := u_known (C := RX0) (T := TX0) (N := 10) (n := 10) hts fk_in0 (hts (.instantiable RX0 10) (fb_mT 90 (by decide +kernel) (by decide +kernel)))
  obtain ⟨c1, iS1, hKn1⟩ := u_known (C := RX1) (T := TX1) (N := 7) (n := 7) hts fk_in1 (hts (.instantiable RX1 7) (fb_mT 160 (by decide +kernel) (by decide +kernel)))
  obtain ⟨c2, iS2, hKn2⟩ := u_known (C := RX2) (T := TX2) (N := 6) (n := 6) hts fk_in2 (hts (.instantiable RX2 6) (fb_mT 191 (by decide +kernel) (by decide +kernel)))
  obtain ⟨c3, iS3, hKn3⟩ := u_known (C := RX3) (T := TX3) (N := 2) (n := 2) hts fk_in3 (hts (.instantiable RX3 2) (fb_mT 22 (by decide +kernel) (by decide +kernel)))
  obtain ⟨c4, iS4, hKn4⟩ := u_known (C := RX4) (T := TX4) (N := 5) (n := 5) hts fk_in4 (hts (.instantiable RX4 5) (fb_mT 219 (by decide +kernel) (by decide +kernel)))
  obtain ⟨c5, iS5, hKn5⟩ := u_known (C := RX5) (T := TX5) (N := 5) (n := 5) hts fk_in5 (hts (.instantiable RX5 5) (fb_mT 134 (by decide +kernel) (by decide +kernel)))
  obtain ⟨c6, iS6, hKn6⟩ := u_known (C := RX6) (T := TX6) (N := 13) (n := 13) hts fk_in6 (hts (.instantiable RX6 13) (fb_mT 37 (by decide +kernel) (by decide +kernel)))
  obtain ⟨c7, iS7, hKn7⟩ := u_known (C := RX7) (T := TX7) (N := 13) (n := 13) hts fk_in7 (hts (.instantiable RX7 13) (fb_mT 14 (by decide +kernel) (by decide +kernel)))
  obtain ⟨c8, iS8, hKn8⟩ := u_known (C := RX8) (T := TX8) (N := 48) (n := 48) hts fk_in8 (hts (.instantiable RX8 48) (fb_mT 835 (by decide +kernel) (by decide +kernel)))
  obtain ⟨dC, dI, hKc⟩ : ∃ (dC : Nat → ClassId) (dI : Nat → Nat → Nat), ∀ (k : Nat) (q : vw_C), fb_C[k]? = some q → u_Kn s q.1 q.2.1 q.2.2 (dC k) (dI k) := by
    refine ⟨fun k => match k with | 0 => c0 | 1 => c1 | 2 => c2 | 3 => c3 | 4 => c4 | 5 => c5 | 6 => c6 | 7 => c7 | _ => c8, fun k => match k with | 0 => iS0 | 1 => iS1 | 2 => iS2 | 3 => iS3 | 4 => iS4 | 5 => iS5 | 6 => iS6 | 7 => iS7 | _ => iS8, ?_⟩
    intro k q hq
    match k, hq with
    | 0, hq => cases hq; exact hKn0
    | 1, hq => cases hq; exact hKn1
    | 2, hq => cases hq; exact hKn2
    | 3, hq => cases hq; exact hKn3
    | 4, hq => cases hq; exact hKn4
    | 5, hq => cases hq; exact hKn5
    | 6, hq => cases hq; exact hKn6
    | 7, hq => cases hq; exact hKn7
    | 8, hq => cases hq; exact hKn8
    | k + 9, hq => simp [fb_C] at hq
  obtain ⟨cI, kI, pI, fI1, fI2, fI3⟩ := Cond.arrayClass_spec (hts (.arrayClass .int) (fb_mT 35 (by decide +kernel) (by decide +kernel)))
  obtain ⟨cZ, kZ, pZ, fZ1, fZ2, fZ3⟩ := Cond.arrayClass_spec (hts (.arrayClass .boolean) (fb_mT 132 (by decide +kernel) (by decide +kernel)))
  have hK : va_K (dC, dI) fb_C [(cI, .int), (cZ, .boolean)] s := by
    refine ⟨hKc, fun k q hq => ?_⟩
    match k, hq with
    | 0, hq => cases hq; exact ⟨fun n z => ⟨fun k h => (by cases h), kI, fI2, pI, fI3⟩, fI1⟩
    | 1, hq => cases hq; exact ⟨fun n z => ⟨fun k h => (by cases h), kZ, fZ2, pZ, fZ3⟩, fZ1⟩
    | k + 2, hq => simp at hq
  have hKB : fi_B (dC, dI) cI cZ s := ⟨hK, hN⟩
  have hS : va_S (fun q : Nat => s.heap.size ≤ q) s.heap s.heap [] := va_S.rf
  have hP : va_P (dC, dI) fb_C [] s.heap := fun k q h => by simp at h
  have hD : va_D (fun q : Nat => s.heap.size ≤ q) [] := ⟨fun i j p q h => by simp at h, fun k q h => by simp at h⟩
  have hl := lv_entry ([.ref b]) (n := 4) (Nat.le_of_ble_eq_true rfl)
  rw [lg_entry_eq]
  generalize (lg_sl ([.ref b]) ++ List.replicate (4 - (lg_sl ([.ref b])).length) Slot.unset).toArray = ls at hl ⊢
  have hl : lv_has ls 4 [(0, .ref b)] := hl
  refine va_new (ci := 7) (fs := [.null, .null, .null, .null, .null, .null, .null, .null, .null, .int 0, .int 0, .long 0, .long 0]) (C := RX7) (T := TX7) (N := 13) hx hb hts fk_in7 tyX7 tyX7_ok hown (hts _ (fb_mT 13 (by decide +kernel) (by decide +kernel))) (hts _ (fb_mT 14 (by decide +kernel) (by decide +kernel))) (hts _ (fb_mT 1 (by decide +kernel) (by decide +kernel))) hK hP hD hS hA rfl (by decide +kernel) (Nat.le_of_ble_eq_true rfl) (Nat.le_of_ble_eq_true rfl) (show decode code 0 = .ok (.new 7, 3) by decide +kernel) (fun hq H hP hD hS => ?_)
  have hP : va_P (dC, dI) fb_C [(hq, .inr (7, [.null, .null, .null, .null, .null, .null, .null, .null, .null, .int 0, .int 0, .long 0, .long 0]))] H := hP
  have hD : va_D (fun q : Nat => s.heap.size ≤ q) [(hq, .inr (7, [.null, .null, .null, .null, .null, .null, .null, .null, .null, .int 0, .int 0, .long 0, .long 0]))] := hD
  refine W.widen (k := 1) (n := 13) (Nat.le_of_ble_eq_true rfl) (Nat.le_of_ble_eq_true rfl) ?_
  refine lv_dup hx hb (show decode code 3 = .ok (.dup, 1) by decide +kernel) rfl ?_
  have hPc := hP.sub (ws' := [(hq, .inr (7, [.null, .null, .null, .null, .null, .null, .null, .null, .null, .int 0, .int 0, .long 0, .long 0]))]) [0] rfl
  have hFc := va_free (wc := [(hq, .inr (7, [.null, .null, .null, .null, .null, .null, .null, .null, .null, .int 0, .int 0, .long 0, .long 0]))]) hD hS hA [0] rfl
  refine va_callv (va_runI (As := []) (rest := [.ref hq]) ⟨hx, hb, hml, hown, hts⟩ (c_X7_init l (dC, dI) cI cZ hq H.size) (cwI 0 hts (fb_goodIn (fb_mT 17 (by decide +kernel) (by decide +kernel))) rfl rfl rfl (hts _ (fb_mT 1 (by decide +kernel) (by decide +kernel))) (hts _ (fb_mT 15 (by decide +kernel) (by decide +kernel))) (hts _ (fb_mT 16 (by decide +kernel) (by decide +kernel))) rfl (by decide +kernel) ⟨Nat.le_of_ble_eq_true rfl, Nat.le_of_ble_eq_true rfl⟩) ⟨fi_blind (dC, dI) cI cZ _ _ _, fun U hU hW => ⟨rfl, by rw [hU], by rw [hU]; exact hPc, hKB.warm hW⟩⟩ rfl rfl hl.1 rfl (lv_room (Nat.le_of_ble_eq_true rfl)) (show decode code 4 = .ok (.invokespecial 9, 3) by decide +kernel) ⟨Nat.le_of_ble_eq_true rfl, Nat.le_of_ble_eq_true rfl⟩) hS (fun q _ h => hFc q h) hFc (fun u t H1 locs ht hvm hw hB hz1 hk1 hS => ?_)
  obtain ⟨hP1, hD1⟩ := hB
  rw [ht] at hP1
  obtain ⟨hP, hD⟩ := va_join (wr := []) (w1 := kX7_init cI cZ hq u) hP hD [0] [] rfl rfl (by decide) (by decide) hk1 hFc hP1 hD1
  generalize H1 = H at hP hS ⊢
  have hP : va_P (dC, dI) fb_C (kX7_init cI cZ hq u) H := hP
  have hD : va_D (fun q : Nat => s.heap.size ≤ q) (kX7_init cI cZ hq u) := hD
  refine W.widen (k := 46) (n := 1310) (Nat.le_of_ble_eq_true rfl) (Nat.le_of_ble_eq_true rfl) ?_
  refine lv_astore_n (lv' := [(1, .ref hq), (0, .ref b)]) hx hb (show decode code 7 = .ok (.astore_n 1, 1) by decide +kernel) rfl hl (by decide) rfl (fun ls hl => ?_)
  refine va_new (ci := 8) (fs := [.int 0, .null, .int 0, .long 0, .long 0, .null, .null, .null, .int 0, .null, .null, .null, .null, .null, .int 0, .null, .null, .null, .null, .null, .null, .null, .null, .int 0, .int 0, .int 0, .int 0, .int 0, .null, .null, .null, .null, .int 0, .int 0, .int 0, .null, .int 0, .int 0, .int 0, .null, .null, .null, .null, .null, .null, .int 0, .int 0, .long 0]) (C := RX8) (T := TX8) (N := 48) hx hb hts fk_in8 tyX8 tyX8_ok hown (hts _ (fb_mT 834 (by decide +kernel) (by decide +kernel))) (hts _ (fb_mT 835 (by decide +kernel) (by decide +kernel))) (hts _ (fb_mT 9 (by decide +kernel) (by decide +kernel))) hK hP hD hS hA rfl (by decide +kernel) (Nat.le_of_ble_eq_true rfl) (Nat.le_of_ble_eq_true rfl) (show decode code 8 = .ok (.new 10, 3) by decide +kernel) (fun hm H hP hD hS => ?_)
  have hP : va_P (dC, dI) fb_C (kX7_init cI cZ hq u ++ [(hm, .inr (8, [.int 0, .null, .int 0, .long 0, .long 0, .null, .null, .null, .int 0, .null, .null, .null, .null, .null, .int 0, .null, .null, .null, .null, .null, .null, .null, .null, .int 0, .int 0, .int 0, .int 0, .int 0, .null, .null, .null, .null, .int 0, .int 0, .int 0, .null, .int 0, .int 0, .int 0, .null, .null, .null, .null, .null, .null, .int 0, .int 0, .long 0]))]) H := hP
  have hD : va_D (fun q : Nat => s.heap.size ≤ q) (kX7_init cI cZ hq u ++ [(hm, .inr (8, [.int 0, .null, .int 0, .long 0, .long 0, .null, .null, .null, .int 0, .null, .null, .null, .null, .null, .int 0, .null, .null, .null, .null, .null, .null, .null, .null, .int 0, .int 0, .int 0, .int 0, .int 0, .null, .null, .null, .null, .int 0, .int 0, .int 0, .null, .int 0, .int 0, .int 0, .null, .null, .null, .null, .null, .null, .int 0, .int 0, .long 0]))]) := hD
  refine W.widen (k := 47) (n := 1358) (Nat.le_of_ble_eq_true rfl) (Nat.le_of_ble_eq_true rfl) ?_
  refine lv_dup hx hb (show decode code 11 = .ok (.dup, 1) by decide +kernel) rfl ?_
  have hPc := hP.sub (ws' := [(hm, .inr (8, [.int 0, .null, .int 0, .long 0, .long 0, .null, .null, .null, .int 0, .null, .null, .null, .null, .null, .int 0, .null, .null, .null, .null, .null, .null, .null, .null, .int 0, .int 0, .int 0, .int 0, .int 0, .null, .null, .null, .null, .int 0, .int 0, .int 0, .null, .int 0, .int 0, .int 0, .null, .null, .null, .null, .null, .null, .int 0, .int 0, .long 0]))]) [46] rfl
  have hFc := va_free (wc := [(hm, .inr (8, [.int 0, .null, .int 0, .long 0, .long 0, .null, .null, .null, .int 0, .null, .null, .null, .null, .null, .int 0, .null, .null, .null, .null, .null, .null, .null, .null, .int 0, .int 0, .int 0, .int 0, .int 0, .null, .null, .null, .null, .int 0, .int 0, .int 0, .null, .int 0, .int 0, .int 0, .null, .null, .null, .null, .null, .null, .int 0, .int 0, .long 0]))]) hD hS hA [46] rfl
  refine va_callv (va_runI (As := []) (rest := [.ref hm]) ⟨hx, hb, hml, hown, hts⟩ (c_X8_init l (dC, dI) cI cZ hm H.size) (cwI 0 hts (fb_goodIn (fb_mT 838 (by decide +kernel) (by decide +kernel))) rfl rfl rfl (hts _ (fb_mT 9 (by decide +kernel) (by decide +kernel))) (hts _ (fb_mT 836 (by decide +kernel) (by decide +kernel))) (hts _ (fb_mT 837 (by decide +kernel) (by decide +kernel))) rfl (by decide +kernel) ⟨Nat.le_of_ble_eq_true rfl, Nat.le_of_ble_eq_true rfl⟩) ⟨fi_blind (dC, dI) cI cZ _ _ _, fun U hU hW => ⟨rfl, by rw [hU], by rw [hU]; exact hPc, hKB.warm hW⟩⟩ rfl rfl hl.1 rfl (lv_room (Nat.le_of_ble_eq_true rfl)) (show decode code 12 = .ok (.invokespecial 12, 3) by decide +kernel) ⟨Nat.le_of_ble_eq_true rfl, Nat.le_of_ble_eq_true rfl⟩) hS (fun q _ h => hFc q h) hFc (fun v t H1 locs ht hvm hw hB hz1 hk1 hS => ?_)
  obtain ⟨hP1, hD1⟩ := hB
  rw [ht] at hP1
  obtain ⟨hP, hD⟩ := va_join (wr := kX7_init cI cZ hq u) (w1 := kX8_init cI cZ hm v) hP hD [46] [0, 1, 2, 3, 4, 5, 6, 7, 8, 9, 10, 11, 12, 13, 14, 15, 16, 17, 18, 19, 20, 21, 22, 23, 24, 25, 26, 27, 28, 29, 30, 31, 32, 33, 34, 35, 36, 37, 38, 39, 40, 41, 42, 43, 44, 45] rfl rfl (by decide) (by decide) hk1 hFc hP1 hD1
  generalize H1 = H at hP hS ⊢
  have hP : va_P (dC, dI) fb_C (kX7_init cI cZ hq u ++ kX8_init cI cZ hm v) H := hP
  have hD : va_D (fun q : Nat => s.heap.size ≤ q) (kX7_init cI cZ hq u ++ kX8_init cI cZ hm v) := hD
  refine W.widen (k := 75) (n := 2406) (Nat.le_of_ble_eq_true rfl) (Nat.le_of_ble_eq_true rfl) ?_
  refine lv_astore_n (lv' := [(2, .ref hm), (1, .ref hq), (0, .ref b)]) hx hb (show decode code 15 = .ok (.astore_n 2, 1) by decide +kernel) rfl hl (by decide) rfl (fun ls hl => ?_)
  refine lv_iconst (v := nI 0) hx hb (show decode code 16 = .ok (.iconst 0, 1) by decide +kernel) (by decide) ?_
  refine lv_istore_n (lv' := [(3, .int (nI 0)), (2, .ref hm), (1, .ref hq), (0, .ref b)]) hx hb (show decode code 17 = .ok (.istore_n 3, 1) by decide +kernel) rfl hl (by decide) rfl (fun ls hl => ?_)
  rw [← fi_cells_eq (dC, dI)] at hP hD
  have hE := fi_Env hKB hD
  have hOk : fl_Ok ((p, l, e, s), (m, below, meth, c), (b, L, xs), ((dC, dI), cI, cZ, fi_ad hq hm u v)) := ⟨hx, hb, hr, hml, hown, hts, hX, hbl, hlocks, hE.1, hE.2, hL⟩
  exact fl_loop hOk (L + 1) 0 fi_w0 fi_R (Nat.zero_le L) (by show L < 0 + (L + 1); omega) ls H locs hl hP hS
