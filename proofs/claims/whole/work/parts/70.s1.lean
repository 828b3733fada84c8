def fi_w0 : fb_Wd := (fun c => bif Nat.beq c 10 then fi_s (-1) else bif Nat.beq c 48 then fi_s (-9) else fun _ => 0, fun c j => bif Nat.beq c 0 && Nat.beq j 12 then 1 else bif Nat.beq c 46 && Nat.beq j 4 then 1 else 0)
theorem fi_bt (u : Nat) : bt 0 u = false := by
  unfold bt
  simp
theorem fi_m (d : Nat) : fd_m (xD fi_w0) d = 0 := rfl
theorem fi_mx : mD fi_w0 = xD fi_w0 := by
  funext i
  match i with
  | 0 | 1 | 2 | 3 | 4 | 5 | 6 | 7 | 8 | 9 | 10 | 11 | 12 | 13 | 14 | 15 | 16 | 17 | 18 | 19 | 20 | 21 | 22 | 23 => rfl
  | i + 24 => rfl
theorem fi_xT : xT fi_w0 0 := by
  refine ⟨fun t ht => absurd ht (Nat.not_lt_zero t), fun t ht => absurd ht (Nat.not_lt_zero t), fun t ht => absurd ht (Nat.not_lt_zero t), fun t _ _ => ⟨rfl, rfl⟩, fun t _ u _ => (fi_bt u).trans ?_, fun t _ u _ => (fi_bt u).trans ?_, fun u _ => (fi_bt u).trans ?_, fun u _ => (fi_bt u).trans ?_⟩ <;> simp
theorem fi_xC : xC fi_w0 0 := by
  refine ⟨fun d _ => ?_, fun d _ _ => fi_m d⟩
  rw [fi_m d]
  exact ⟨nI_0.symm, nI_0.symm⟩
theorem fi_N : fd_N (xD fi_w0) 0 0 0 0 := ⟨⟨nI_0.symm, Nat.zero_le _⟩, ⟨nI_0.symm, Nat.zero_le _⟩, ⟨nI_0.symm, Nat.zero_le _⟩, ⟨nI_0.symm, Nat.zero_le _⟩⟩
theorem fi_Z : fr_Z fi_w0 := by
  intro r hr
  refine Or.inl ?_
  rcases (show r = 0 ∨ r = 1 ∨ r = 2 ∨ r = 3 ∨ r = 4 ∨ r = 5 by omega) with rfl | rfl | rfl | rfl | rfl | rfl <;> decide +kernel
theorem fi_R : fR fi_w0 := ⟨0, 0, 0, 0, fun _ => 0, ⟨fi_N, fun t ht => absurd ht (Nat.not_lt_zero t), fun d hd => absurd hd (Nat.not_lt_zero d), fi_xT, fi_xC⟩, fun x hx => absurd hx (Nat.not_lt_zero x), fun g hg => absurd hg (Nat.not_lt_zero g), fi_mx, fi_Z, fun t u ht => absurd ht (Nat.not_lt_zero t), ⟨rfl, rfl, rfl⟩, ⟨rfl, rfl⟩⟩
def fi_ad (hb hm : Nat) (u v : Nat → Nat) (c : Nat) : Nat := [hb, u 1, u 2, u 3, u 4, u 5, u 6, u 7, u 8, u 9, u 10, u 11, u 12, u 13, u 14, u 15, u 16, u 17, u 18, u 19, u 20, u 21, u 22, u 23, u 24, u 25, u 26, u 27, u 28, u 29, u 30, u 31, u 32, u 33, u 34, u 35, u 36, u 37, u 38, u 39, u 40, u 41, u 42, u 43, u 44, u 45, hm, v 1, v 2, v 3, v 4, v 5, v 6, v 7, v 8, v 9, v 10, v 11, v 12, v 13, v 14, v 15, v 16, v 17, v 18, v 19, v 20, v 21, v 22, v 23, v 24, v 25, v 26, v 27, v 28].getD c 0
def fi_mi {α β : Type} (f : Nat → α → β) : Nat → List α → List β
  | _, [] => []
  | i, a :: l => f i a :: fi_mi f (i + 1) l
theorem fi_mi_get {α β : Type} (f : Nat → α → β) : ∀ (l : List α) (i k : Nat), (fi_mi f i l)[k]? = l[k]?.map (f (i + k))
  | [], i, k => by simp [fi_mi]
  | a :: l, i, 0 => by simp [fi_mi]
  | a :: l, i, k + 1 => by
    rw [fi_mi, List.getElem?_cons_succ, List.getElem?_cons_succ, fi_mi_get f l (i + 1) k, show i + 1 + k = i + (k + 1) by omega]
theorem fi_mi_eq {α β : Type} (f : Nat → α → β) (l : List α) : l.mapIdx f = fi_mi f 0 l := by
  apply List.ext_getElem?
  intro k
  rw [List.getElem?_mapIdx, fi_mi_get, Nat.zero_add]
def fi_ent (E : fb_En) (w : fb_Wd) (c : Nat) : fb_Sh → va_E
  | .inl (z, n) => .inl ((if z = true then E.2.2.1 else E.2.1), n, .inl (w.1 c))
  | .inr (ci, ks) => .inr (ci, fi_mi (fun j k => fb_slt E.2.2.2 w c j k) 0 ks)
theorem fi_ent_eq (E : fb_En) (w : fb_Wd) (c : Nat) : ∀ sh : fb_Sh, fb_ent E w c sh = fi_ent E w c sh
  | .inl (_, _) => rfl
  | .inr (ci, ks) => congrArg (fun l => (Sum.inr (ci, l) : va_E)) (fi_mi_eq (fun j k => fb_slt E.2.2.2 w c j k) ks)
theorem fi_cells_mi (E : fb_En) (w : fb_Wd) : fb_cells E w = fi_mi (fun c sh => (E.2.2.2 c, fi_ent E w c sh)) 0 fb_S := by
  unfold fb_cells
  rw [fi_mi_eq]
  exact congrArg (fun f => fi_mi f 0 fb_S) (by funext c sh; rw [fi_ent_eq])
set_option maxRecDepth 100000 in
set_option maxHeartbeats 4000000 in
theorem fi_cells_eq (D : va_G) (cI cZ : ClassId) (hb hm : Nat) (u v : Nat → Nat) : fb_cells (D, cI, cZ, fi_ad hb hm u v) fi_w0 = kX7_init cI cZ hb u ++ kX8_init cI cZ hm v := by
  rw [fi_cells_mi]
  rfl
theorem fi_Env {D : va_G} {cI cZ : ClassId} {ad : Nat → Nat} {s : State} {A : Nat → Prop} (hKB : fi_B D cI cZ s) (hD : va_D A (fb_cells (D, cI, cZ, ad) fi_w0)) : fb_Env (D, cI, cZ, ad) s ∧ ∀ c, c < 75 → A (ad c) := by
  have hg : ∀ c, c < 75 → ∃ e, (fb_cells (D, cI, cZ, ad) fi_w0)[c]? = some (ad c, e) := by
    intro c hc
    have h1 : c < fb_S.length := by rw [fb_S_len]; exact hc
    exact ⟨_, fb_get (E := (D, cI, cZ, ad)) (List.getElem?_eq_getElem h1)⟩
  refine ⟨⟨hKB.1, fun i j hi hj e => ?_, hKB.2⟩, fun c hc => ?_⟩
  · obtain ⟨e1, h1⟩ := hg i hi
    obtain ⟨e2, h2⟩ := hg j hj
    exact hD.1 i j _ _ h1 h2 e
  · obtain ⟨e1, h1⟩ := hg c hc
    exact hD.2 c _ h1
