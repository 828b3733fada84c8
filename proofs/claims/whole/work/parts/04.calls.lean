theorem fb_gT_good {w : Cond} (h : w ∈ fb_gT) : (w.onTables && w.keeps) = true ∨ ∃ ty, w = .arrayClass ty := good_of_word (List.mem_filter.mp h).2
theorem fb_goodIn {c : Cond} (hc : c ∈ fb_gT) : GoodIn fb_gT (c :: fb_gT) := by
  intro w hw
  rcases List.mem_cons.mp hw with rfl | h
  · exact ⟨hc, fb_gT_good hc⟩
  · exact ⟨h, fb_gT_good h⟩
def fb_LM (T2 : fb_T) (n : Nat) : Prop := Cond.code T2.1 T2.2.2.1 T2.2.2.2.1 T2.2.2.2.2.1 ∈ fb_gT ∧ Cond.initialized T2.1.cls ∈ fb_gT ∧ (T2.1.cls ≠ "java/lang/invoke/MethodHandle" ∧ T2.1.cls ≠ "java/lang/invoke/VarHandle" ∧ (parseMethodDescriptor T2.1.desc).map (fun d => d.parameters.length) = some n)
def fb_LL (own : String) (idx : Nat) (y : MethodName) : Prop := Cond.methodLink own idx y ∈ fb_gT ∨ ∃ host, Cond.methodLinkNest own idx y host ∈ fb_nT
def fb_LV (T2 : fb_T) (n : Nat) : Prop := fb_LM T2 n ∧ Cond.instanceMethod T2.1 ∈ fb_gT ∧ Cond.selects T2.1.cls T2.1 T2.1 ∈ fb_gT
def fb_LS (T2 : fb_T) (n : Nat) : Prop := fb_LM T2 n ∧ Cond.static T2.1 ∈ fb_gT
section FC
variable {p : Program} {l : Launch} {e : Env} {R : Room} {s : State} {m : MethodId} {args : Array Value} {below : List Frame} {meth : Method} {c : Code} {H : Heap} {locs : List Loc} {cells slots : Nat} {Q : State → Prop}
variable {pc nL idx n : Nat} {ls : Array Slot} {rest st0 : List Value} {a : Array Value} {A0 : Nat → Prop} {H0 : Heap} {E : fb_En} {post : Option Value → fb_Wd → Prop} {cc : ByteArray} {own : String} {T2 : fb_T} {w : fb_Wd}
theorem fb_goon (hr : va_Run p l e R s m args below meth c H locs cells slots 0 0 (F0 m pc ls st0) rest (fb_Q E post a) (fb_Adr E)) (hS : va_S A0 H0 H locs) (hA : ∀ q, fb_Adr E q → A0 q)
    (kk : ∀ (r : Option Value) (w' : fb_Wd) (H1 : Heap) (locs1 : List Loc), post r w' → va_P E.1 fb_C (fb_cells E w') H1 → va_S A0 H0 H1 locs1 → W p l e R s m args below meth c H1 locs1 cells slots Q (F0 m (pc + 3) ls ((r.map (fb_rv E.2.2.2)).toList ++ rest))) : W p l e R s m args below meth c H locs cells slots Q (F0 m pc ls st0) := by
  intro T hT X
  obtain ⟨v, st₀, t, T', L, h0, X', hL, e1, e2, ⟨⟨r, w', hv, hp, hb⟩, hz, hk⟩, st⟩ := hr T hT X
  have hv' : v = r.map (fb_rv E.2.2.2) := Outcome.returned.inj hv
  subst hv'
  rw [h0] at hz hk
  obtain ⟨t2, a1, b1⟩ := kk r w' T'.heap (locs ++ L) hp (by rw [e1]; exact hb)
    ⟨Nat.le_trans hS.1 (by rw [e1]; exact hz), fun q h1 h2 => by rw [e1, hk q (Nat.lt_of_lt_of_le h1 hS.1) (fun z => h2 (hA q z))]; exact hS.2.1 q h1 h2, fun q hq => by
      rcases List.mem_append.mp hq with h | h
      · exact hS.2.2 q h
      · exact hA _ (hL q h)⟩ T' rfl X'
  exact ⟨t2, st t2 a1, b1⟩
theorem fb_blind (E : fb_En) (av : List Value) (w : fb_Wd) : FrameBlind (va_Pc av (fun U => va_P E.1 fb_C (fb_cells E w) U.heap ∧ fb_Env E U)) := by
  intro a U g mk h
  exact ⟨h.1, h.2.1, h.2.2.calling g mk a⟩
theorem fb_callV {q ci N : Nat} {ks : List Nat} {Tb : u_T} {As : List Value} (S : CallFix p m c cc nL s args fb_gT own) (hE : fb_Env E s) (hC : fb_Can l T2 (.ref q :: As) w post) (hM : fb_LV T2 n) (hL : fb_LL own idx T2.1) (hn : As.length = n) (hq : fb_S[q]? = some (.inr (ci, ks))) (hcl : fb_C[ci]? = some (T2.1.cls, Tb, N))
    (hR : (fb_rm T2.2.2.2.2.2).frames + 1 ≤ R.frames ∧ 8 + (T2.2.2.2.1 + 11) + (fb_rm T2.2.2.2.2.2).locals ≤ R.locals) (hP : va_P E.1 fb_C (fb_cells E w) H) (hS : va_S A0 H0 H locs) (hA : ∀ q, fb_Adr E q → A0 q) (hsz : ls.size = nL) (hW : (rest.map fun v => v.category).sum ≤ 8) (hdg : decode cc pc = .ok (.invokevirtual idx, 3)) (hf : cells ≤ R.cells ∧ slots ≤ R.slots) (hst : st0 = (As.map (fb_rv E.2.2.2)).reverse ++ .ref (E.2.2.2 q) :: rest)
    (kk : ∀ (r : Option Value) (w' : fb_Wd) (H1 : Heap) (locs1 : List Loc), post r w' → va_P E.1 fb_C (fb_cells E w') H1 → va_S A0 H0 H1 locs1 → W p l e R s m args below meth c H1 locs1 cells slots Q (F0 m (pc + 3) ls ((r.map (fb_rv E.2.2.2)).toList ++ rest))) : W p l e R s m args below meth c H locs cells slots Q (F0 m pc ls st0) := by
  obtain ⟨⟨hcode, hini, hd⟩, hin, hsel⟩ := hM
  have hts := S.2.2.2.2
  have hp : PreV s H T2.1.cls (E.2.2.2 q) (va_Pc ((Value.ref q :: As).map (fb_rv E.2.2.2)) (fun U => va_P E.1 fb_C (fb_cells E w) U.heap ∧ fb_Env E U)) (As.map (fb_rv E.2.2.2)) :=
    ⟨fb_blind E _ w, va_recv hE.1 hP hcl (fb_get hq), fun U hU hW => ⟨rfl, by rw [hU]; exact hP, hE.warm hW⟩⟩
  refine fb_goon (rest := rest) (a := (Value.ref (E.2.2.2 q) :: As.map (fb_rv E.2.2.2)).toArray) ?_ hS hA kk
  rcases hL with hl | ⟨host, hl⟩
  · exact va_runV S (hC E) ⟨callB_of n hts (fb_goodIn hcode) rfl rfl rfl (hts _ hini) (hts _ hl) hd hR, hts _ hin, hts _ hsel⟩ hp rfl (by rw [List.length_map]; exact hn) hsz hst (lv_room hW) hdg hf
  · exact va_runVN S (hC E) ⟨va_cnB n hts (fb_goodIn hcode) rfl rfl rfl (hE.2.2 _ hl) (hts _ hini) hd hR, hts _ hin, hts _ hsel⟩ hp rfl (by rw [List.length_map]; exact hn) hsz hst (lv_room hW) hdg hf
theorem fb_callS {As : List Value} (S : CallFix p m c cc nL s args fb_gT own) (hE : fb_Env E s) (hC : fb_Can l T2 As w post) (hM : fb_LS T2 n) (hL : fb_LL own idx T2.1) (hn : As.length = n)
    (hR : (fb_rm T2.2.2.2.2.2).frames + 1 ≤ R.frames ∧ 8 + (T2.2.2.2.1 + 11) + (fb_rm T2.2.2.2.2.2).locals ≤ R.locals) (hP : va_P E.1 fb_C (fb_cells E w) H) (hS : va_S A0 H0 H locs) (hA : ∀ q, fb_Adr E q → A0 q) (hsz : ls.size = nL) (hW : (rest.map fun v => v.category).sum ≤ 8) (hdg : decode cc pc = .ok (.invokestatic idx, 3)) (hf : cells ≤ R.cells ∧ slots ≤ R.slots) (hst : st0 = (As.map (fb_rv E.2.2.2)).reverse ++ rest)
    (kk : ∀ (r : Option Value) (w' : fb_Wd) (H1 : Heap) (locs1 : List Loc), post r w' → va_P E.1 fb_C (fb_cells E w') H1 → va_S A0 H0 H1 locs1 → W p l e R s m args below meth c H1 locs1 cells slots Q (F0 m (pc + 3) ls ((r.map (fb_rv E.2.2.2)).toList ++ rest))) : W p l e R s m args below meth c H locs cells slots Q (F0 m pc ls st0) := by
  obtain ⟨⟨hcode, hini, hd⟩, hstt⟩ := hM
  have hts := S.2.2.2.2
  have hp : PreS s H (va_Pc (As.map (fb_rv E.2.2.2)) (fun U => va_P E.1 fb_C (fb_cells E w) U.heap ∧ fb_Env E U)) (As.map (fb_rv E.2.2.2)) :=
    ⟨fb_blind E _ w, fun U hU hW => ⟨rfl, by rw [hU]; exact hP, hE.warm hW⟩⟩
  refine fb_goon (rest := rest) (a := (As.map (fb_rv E.2.2.2)).toArray) ?_ hS hA kk
  rcases hL with hl | ⟨host, hl⟩
  · exact va_runS S (hC E) ⟨callB_of n hts (fb_goodIn hcode) rfl rfl rfl (hts _ hini) (hts _ hl) hd hR, hts _ hstt⟩ hp rfl (by rw [List.length_map]; exact hn) hsz hst (lv_room hW) hdg hf
  · exact va_runSN S (hC E) ⟨va_cnB n hts (fb_goodIn hcode) rfl rfl rfl (hE.2.2 _ hl) (hts _ hini) hd hR, hts _ hstt, trivial⟩ hp rfl (by rw [List.length_map]; exact hn) hsz hst (lv_room hW) hdg hf
end FC
section FD
variable {T T2 : fb_T} {X : fb_Cx} {post : Option Value → fb_Wd → Prop} {pc nx idx : Nat} {tg : List Nat} {L : List (Option Value)} {S S0 : List Value} {w : fb_Wd}
def fb_rk (T2 T : fb_T) : Bool := Nat.ble (T2.2.2.2.2.2 + 1) T.2.2.2.2.2 && Nat.ble T2.2.2.2.1 21
theorem fb_rk_of (h : fb_rk T2 T = true) : (fb_rm T2.2.2.2.2.2).frames + 1 ≤ (fb_rm T.2.2.2.2.2).frames ∧ 8 + (T2.2.2.2.1 + 11) + (fb_rm T2.2.2.2.2.2).locals ≤ (fb_rm T.2.2.2.2.2).locals := by
  simp only [fb_rk, Bool.and_eq_true] at h
  have h1 := Nat.le_of_ble_eq_true h.1
  have h2 := Nat.le_of_ble_eq_true h.2
  simp only [fb_rm]
  omega
def fb_ct (S : List Value) : Nat := (S.map fun v => v.category).sum
theorem fb_ct_rv (ad : Nat → Nat) (S : List Value) : ((S.map (fb_rv ad)).map fun v => v.category).sum = fb_ct S := by
  unfold fb_ct
  rw [List.map_map]
  congr 1
  apply List.map_congr_left
  intro v _
  exact fb_rv_cat ad v
theorem fw_callV {q ci N n : Nat} {ks : List Nat} {Tb : u_T} {As : List Value} (h : fb_Ok T X post) (hd : T.2.1 pc = some (.invokevirtual idx, 3, nx, tg)) (hM : fb_LV T2 n) (hL : fb_LL T.1.cls idx T2.1) (hn : As.length = n) (hq : fb_S[q]? = some (.inr (ci, ks))) (hcl : fb_C[ci]? = some (T2.1.cls, Tb, N)) (hk : fb_rk T2 T = true) (hc : Nat.ble (fb_ct S) 8 = true) (hst : S0 = As.reverse ++ .ref q :: S)
    (hC : fb_Can X.1.2.1 T2 (.ref q :: As) w (fun r w' => fb_AW T X nx L (r.toList ++ S) w')) : fb_AW T X pc L S0 w := by
  intro ls H locs hl hP hS
  obtain ⟨hdg, rfl, -⟩ := h.2.2.2.2.2.2 _ _ _ _ _ hd
  refine fb_callV h.1 h.2.2.2.2.1 hC hM hL hn hq hcl (by rw [h.2.2.2.1]; exact fb_rk_of hk) hP hS (fun _ z => z) hl.1 (rest := S.map (fb_rv X.2.2.2.2.2.2)) (by rw [fb_ct_rv]; exact Nat.le_of_ble_eq_true hc) hdg ⟨Nat.zero_le _, Nat.zero_le _⟩ (by rw [hst, List.map_append, List.map_reverse]; rfl) ?_
  intro r w' H1 locs1 hp hP1 hS1
  have e : (r.map (fb_rv X.2.2.2.2.2.2)).toList ++ S.map (fb_rv X.2.2.2.2.2.2) = (r.toList ++ S).map (fb_rv X.2.2.2.2.2.2) := by cases r <;> rfl
  rw [e]
  exact hp ls H1 locs1 hl hP1 hS1
theorem fw_callS {n : Nat} {As : List Value} (h : fb_Ok T X post) (hd : T.2.1 pc = some (.invokestatic idx, 3, nx, tg)) (hM : fb_LS T2 n) (hL : fb_LL T.1.cls idx T2.1) (hn : As.length = n) (hk : fb_rk T2 T = true) (hc : Nat.ble (fb_ct S) 8 = true) (hst : S0 = As.reverse ++ S)
    (hC : fb_Can X.1.2.1 T2 As w (fun r w' => fb_AW T X nx L (r.toList ++ S) w')) : fb_AW T X pc L S0 w := by
  intro ls H locs hl hP hS
  obtain ⟨hdg, rfl, -⟩ := h.2.2.2.2.2.2 _ _ _ _ _ hd
  refine fb_callS h.1 h.2.2.2.2.1 hC hM hL hn (by rw [h.2.2.2.1]; exact fb_rk_of hk) hP hS (fun _ z => z) hl.1 (rest := S.map (fb_rv X.2.2.2.2.2.2)) (by rw [fb_ct_rv]; exact Nat.le_of_ble_eq_true hc) hdg ⟨Nat.zero_le _, Nat.zero_le _⟩ (by rw [hst, List.map_append, List.map_reverse]) ?_
  intro r w' H1 locs1 hp hP1 hS1
  have e : (r.map (fb_rv X.2.2.2.2.2.2)).toList ++ S.map (fb_rv X.2.2.2.2.2.2) = (r.toList ++ S).map (fb_rv X.2.2.2.2.2.2) := by cases r <;> rfl
  rw [e]
  exact hp ls H1 locs1 hl hP1 hS1
theorem fw_v0 {q ci N : Nat} {ks : List Nat} {Tb : u_T} (h : fb_Ok T X post) (hd : T.2.1 pc = some (.invokevirtual idx, 3, nx, tg)) (hM : fb_LV T2 0) (hL : fb_LL T.1.cls idx T2.1) (hq : fb_S[q]? = some (.inr (ci, ks))) (hcl : fb_C[ci]? = some (T2.1.cls, Tb, N)) (hk : fb_rk T2 T = true) (hc : Nat.ble (fb_ct S) 8 = true) (hC : fb_Can X.1.2.1 T2 [.ref q] w (fun r w' => fb_AW T X nx L (r.toList ++ S) w')) : fb_AW T X pc L (.ref q :: S) w := fw_callV (As := []) h hd hM hL rfl hq hcl hk hc rfl hC
theorem fw_v1 {q ci N : Nat} {ks : List Nat} {Tb : u_T} {a1 : Value} (h : fb_Ok T X post) (hd : T.2.1 pc = some (.invokevirtual idx, 3, nx, tg)) (hM : fb_LV T2 1) (hL : fb_LL T.1.cls idx T2.1) (hq : fb_S[q]? = some (.inr (ci, ks))) (hcl : fb_C[ci]? = some (T2.1.cls, Tb, N)) (hk : fb_rk T2 T = true) (hc : Nat.ble (fb_ct S) 8 = true) (hC : fb_Can X.1.2.1 T2 [.ref q, a1] w (fun r w' => fb_AW T X nx L (r.toList ++ S) w')) : fb_AW T X pc L (a1 :: .ref q :: S) w := fw_callV (As := [a1]) h hd hM hL rfl hq hcl hk hc rfl hC
theorem fw_v2 {q ci N : Nat} {ks : List Nat} {Tb : u_T} {a1 a2 : Value} (h : fb_Ok T X post) (hd : T.2.1 pc = some (.invokevirtual idx, 3, nx, tg)) (hM : fb_LV T2 2) (hL : fb_LL T.1.cls idx T2.1) (hq : fb_S[q]? = some (.inr (ci, ks))) (hcl : fb_C[ci]? = some (T2.1.cls, Tb, N)) (hk : fb_rk T2 T = true) (hc : Nat.ble (fb_ct S) 8 = true) (hC : fb_Can X.1.2.1 T2 [.ref q, a1, a2] w (fun r w' => fb_AW T X nx L (r.toList ++ S) w')) : fb_AW T X pc L (a2 :: a1 :: .ref q :: S) w := fw_callV (As := [a1, a2]) h hd hM hL rfl hq hcl hk hc rfl hC
theorem fw_v3 {q ci N : Nat} {ks : List Nat} {Tb : u_T} {a1 a2 a3 : Value} (h : fb_Ok T X post) (hd : T.2.1 pc = some (.invokevirtual idx, 3, nx, tg)) (hM : fb_LV T2 3) (hL : fb_LL T.1.cls idx T2.1) (hq : fb_S[q]? = some (.inr (ci, ks))) (hcl : fb_C[ci]? = some (T2.1.cls, Tb, N)) (hk : fb_rk T2 T = true) (hc : Nat.ble (fb_ct S) 8 = true) (hC : fb_Can X.1.2.1 T2 [.ref q, a1, a2, a3] w (fun r w' => fb_AW T X nx L (r.toList ++ S) w')) : fb_AW T X pc L (a3 :: a2 :: a1 :: .ref q :: S) w := fw_callV (As := [a1, a2, a3]) h hd hM hL rfl hq hcl hk hc rfl hC
theorem fw_v4 {q ci N : Nat} {ks : List Nat} {Tb : u_T} {a1 a2 a3 a4 : Value} (h : fb_Ok T X post) (hd : T.2.1 pc = some (.invokevirtual idx, 3, nx, tg)) (hM : fb_LV T2 4) (hL : fb_LL T.1.cls idx T2.1) (hq : fb_S[q]? = some (.inr (ci, ks))) (hcl : fb_C[ci]? = some (T2.1.cls, Tb, N)) (hk : fb_rk T2 T = true) (hc : Nat.ble (fb_ct S) 8 = true) (hC : fb_Can X.1.2.1 T2 [.ref q, a1, a2, a3, a4] w (fun r w' => fb_AW T X nx L (r.toList ++ S) w')) : fb_AW T X pc L (a4 :: a3 :: a2 :: a1 :: .ref q :: S) w := fw_callV (As := [a1, a2, a3, a4]) h hd hM hL rfl hq hcl hk hc rfl hC
theorem fw_v5 {q ci N : Nat} {ks : List Nat} {Tb : u_T} {a1 a2 a3 a4 a5 : Value} (h : fb_Ok T X post) (hd : T.2.1 pc = some (.invokevirtual idx, 3, nx, tg)) (hM : fb_LV T2 5) (hL : fb_LL T.1.cls idx T2.1) (hq : fb_S[q]? = some (.inr (ci, ks))) (hcl : fb_C[ci]? = some (T2.1.cls, Tb, N)) (hk : fb_rk T2 T = true) (hc : Nat.ble (fb_ct S) 8 = true) (hC : fb_Can X.1.2.1 T2 [.ref q, a1, a2, a3, a4, a5] w (fun r w' => fb_AW T X nx L (r.toList ++ S) w')) : fb_AW T X pc L (a5 :: a4 :: a3 :: a2 :: a1 :: .ref q :: S) w := fw_callV (As := [a1, a2, a3, a4, a5]) h hd hM hL rfl hq hcl hk hc rfl hC
theorem fw_v6 {q ci N : Nat} {ks : List Nat} {Tb : u_T} {a1 a2 a3 a4 a5 a6 : Value} (h : fb_Ok T X post) (hd : T.2.1 pc = some (.invokevirtual idx, 3, nx, tg)) (hM : fb_LV T2 6) (hL : fb_LL T.1.cls idx T2.1) (hq : fb_S[q]? = some (.inr (ci, ks))) (hcl : fb_C[ci]? = some (T2.1.cls, Tb, N)) (hk : fb_rk T2 T = true) (hc : Nat.ble (fb_ct S) 8 = true) (hC : fb_Can X.1.2.1 T2 [.ref q, a1, a2, a3, a4, a5, a6] w (fun r w' => fb_AW T X nx L (r.toList ++ S) w')) : fb_AW T X pc L (a6 :: a5 :: a4 :: a3 :: a2 :: a1 :: .ref q :: S) w := fw_callV (As := [a1, a2, a3, a4, a5, a6]) h hd hM hL rfl hq hcl hk hc rfl hC
theorem fw_s0 (h : fb_Ok T X post) (hd : T.2.1 pc = some (.invokestatic idx, 3, nx, tg)) (hM : fb_LS T2 0) (hL : fb_LL T.1.cls idx T2.1) (hk : fb_rk T2 T = true) (hc : Nat.ble (fb_ct S) 8 = true) (hC : fb_Can X.1.2.1 T2 [] w (fun r w' => fb_AW T X nx L (r.toList ++ S) w')) : fb_AW T X pc L (S) w := fw_callS (As := []) h hd hM hL rfl hk hc rfl hC
theorem fw_s1 {a1 : Value} (h : fb_Ok T X post) (hd : T.2.1 pc = some (.invokestatic idx, 3, nx, tg)) (hM : fb_LS T2 1) (hL : fb_LL T.1.cls idx T2.1) (hk : fb_rk T2 T = true) (hc : Nat.ble (fb_ct S) 8 = true) (hC : fb_Can X.1.2.1 T2 [a1] w (fun r w' => fb_AW T X nx L (r.toList ++ S) w')) : fb_AW T X pc L (a1 :: S) w := fw_callS (As := [a1]) h hd hM hL rfl hk hc rfl hC
theorem fw_s2 {a1 a2 : Value} (h : fb_Ok T X post) (hd : T.2.1 pc = some (.invokestatic idx, 3, nx, tg)) (hM : fb_LS T2 2) (hL : fb_LL T.1.cls idx T2.1) (hk : fb_rk T2 T = true) (hc : Nat.ble (fb_ct S) 8 = true) (hC : fb_Can X.1.2.1 T2 [a1, a2] w (fun r w' => fb_AW T X nx L (r.toList ++ S) w')) : fb_AW T X pc L (a2 :: a1 :: S) w := fw_callS (As := [a1, a2]) h hd hM hL rfl hk hc rfl hC
theorem fw_s3 {a1 a2 a3 : Value} (h : fb_Ok T X post) (hd : T.2.1 pc = some (.invokestatic idx, 3, nx, tg)) (hM : fb_LS T2 3) (hL : fb_LL T.1.cls idx T2.1) (hk : fb_rk T2 T = true) (hc : Nat.ble (fb_ct S) 8 = true) (hC : fb_Can X.1.2.1 T2 [a1, a2, a3] w (fun r w' => fb_AW T X nx L (r.toList ++ S) w')) : fb_AW T X pc L (a3 :: a2 :: a1 :: S) w := fw_callS (As := [a1, a2, a3]) h hd hM hL rfl hk hc rfl hC
theorem fw_s4 {a1 a2 a3 a4 : Value} (h : fb_Ok T X post) (hd : T.2.1 pc = some (.invokestatic idx, 3, nx, tg)) (hM : fb_LS T2 4) (hL : fb_LL T.1.cls idx T2.1) (hk : fb_rk T2 T = true) (hc : Nat.ble (fb_ct S) 8 = true) (hC : fb_Can X.1.2.1 T2 [a1, a2, a3, a4] w (fun r w' => fb_AW T X nx L (r.toList ++ S) w')) : fb_AW T X pc L (a4 :: a3 :: a2 :: a1 :: S) w := fw_callS (As := [a1, a2, a3, a4]) h hd hM hL rfl hk hc rfl hC
theorem fw_s5 {a1 a2 a3 a4 a5 : Value} (h : fb_Ok T X post) (hd : T.2.1 pc = some (.invokestatic idx, 3, nx, tg)) (hM : fb_LS T2 5) (hL : fb_LL T.1.cls idx T2.1) (hk : fb_rk T2 T = true) (hc : Nat.ble (fb_ct S) 8 = true) (hC : fb_Can X.1.2.1 T2 [a1, a2, a3, a4, a5] w (fun r w' => fb_AW T X nx L (r.toList ++ S) w')) : fb_AW T X pc L (a5 :: a4 :: a3 :: a2 :: a1 :: S) w := fw_callS (As := [a1, a2, a3, a4, a5]) h hd hM hL rfl hk hc rfl hC
def fb_FL (own : String) (idx ci k : Nat) : Prop := ∃ (C : String) (Tb : u_T) (N : Nat), fb_C[ci]? = some (C, Tb, N) ∧ k < N ∧ (∀ w ∈ u_ws C Tb N, w ∈ fb_gT) ∧ (Tb k).1 = C ∧ (Cond.fieldLink own idx C (Tb k).2.1 (Tb k).2.2.1 ∈ fb_gT ∨ ∃ host, Cond.fieldLinkNest own idx C (Tb k).2.1 (Tb k).2.2.1 host ∈ fb_nT)
def fb_FP (own : String) (idx ci k : Nat) (ty : FieldType) : Prop := ∃ (C : String) (Tb : u_T) (N : Nat), fb_C[ci]? = some (C, Tb, N) ∧ k < N ∧ (∀ w ∈ u_ws C Tb N, w ∈ fb_gT) ∧ (Tb k).1 = C ∧ (Cond.fieldLink own idx C (Tb k).2.1 (Tb k).2.2.1 ∈ fb_gT ∨ ∃ host, Cond.fieldLinkNest own idx C (Tb k).2.1 (Tb k).2.2.1 host ∈ fb_nT) ∧ (∃ ty0 : Nat → FieldType, ∀ k, k < N → parseFieldDescriptor (Tb k).2.2.1 = some (ty0 k)) ∧ (∀ a, a < N → ∀ b, b < N → a ≠ b → (Tb a).2.1 ≠ (Tb b).2.1) ∧ (Tb k).2.2.2 = false ∧ parseFieldDescriptor (Tb k).2.2.1 = some ty
theorem fb_getf {c ci k q : Nat} {ks : List Nat} (h : fb_Ok T X post) (hd : T.2.1 pc = some (.getfield idx, 3, nx, tg)) (hF : fb_FL T.1.cls idx ci k) (hc : fb_S[c]? = some (.inr (ci, ks))) (hk : ks[k]? = some q) {v : Value} (hv : fb_slt X.2.2.2.2.2.2 w c k q = fb_rv X.2.2.2.2.2.2 v) (kk : fb_AW T X nx L (v :: S) w) : fb_AW T X pc L (.ref c :: S) w := by
  intro ls H locs hl hP hS
  obtain ⟨hdg, rfl, -⟩ := h.2.2.2.2.2.2 _ _ _ _ _ hd
  obtain ⟨C, Tb, N, h1, h2, h3, h4, h5⟩ := hF
  have hv' : (ks.mapIdx (fun j k => fb_slt X.2.2.2.2.2.2 w c j k))[k]? = some (fb_rv X.2.2.2.2.2.2 v) := by rw [List.getElem?_mapIdx, hk]; exact congrArg some hv
  rcases h5 with hlk | ⟨host, hlk⟩
  · exact va_get h.1.1 h.1.2.1 h.1.2.2.2.2 h3 h.1.2.2.2.1 h.2.2.2.2.1.1 hP c (fb_get hc) h1 k h2 (h.1.2.2.2.2 _ hlk) (fun x hx => by rw [h4] at hx; exact hx) hv' hdg (kk ls H locs hl hP hS)
  · exact va_getN h.1.1 h.1.2.1 h.1.2.2.2.2 h3 h.1.2.2.2.1 h.2.2.2.2.1.1 hP c (fb_get hc) h1 k h2 (va_Nw.use rfl (h.2.2.2.2.1.2.2 _ hlk)) (fun x hx => by rw [h4] at hx; exact hx) hv' hdg (kk ls H locs hl hP hS)
theorem fw_getI {c ci k : Nat} {ks : List Nat} (h : fb_Ok T X post) (hd : T.2.1 pc = some (.getfield idx, 3, nx, tg)) (hF : fb_FL T.1.cls idx ci k) (hc : fb_S[c]? = some (.inr (ci, ks))) (hk : ks[k]? = some 0) (kk : fb_AW T X nx L (.int (w.1 c k) :: S) w) : fb_AW T X pc L (.ref c :: S) w := fb_getf h hd hF hc hk rfl kk
theorem fw_getL {c ci k : Nat} {ks : List Nat} (h : fb_Ok T X post) (hd : T.2.1 pc = some (.getfield idx, 3, nx, tg)) (hF : fb_FL T.1.cls idx ci k) (hc : fb_S[c]? = some (.inr (ci, ks))) (hk : ks[k]? = some 1) (kk : fb_AW T X nx L (.long (w.2 c k) :: S) w) : fb_AW T X pc L (.ref c :: S) w := fb_getf h hd hF hc hk rfl kk
theorem fw_getR {c ci k : Nat} (c2 : Nat) {ks : List Nat} (h : fb_Ok T X post) (hd : T.2.1 pc = some (.getfield idx, 3, nx, tg)) (hF : fb_FL T.1.cls idx ci k) (hc : fb_S[c]? = some (.inr (ci, ks))) (hk : ks[k]? = some (c2 + 2)) (kk : fb_AW T X nx L (.ref c2 :: S) w) : fb_AW T X pc L (.ref c :: S) w := fb_getf h hd hF hc hk rfl kk
theorem fb_FP.toFL {own : String} {ci k : Nat} {ty : FieldType} (h : fb_FP own idx ci k ty) : fb_FL own idx ci k := by
  obtain ⟨C, Tb, N, h1, h2, h3, h4, h5, -⟩ := h
  exact ⟨C, Tb, N, h1, h2, h3, h4, h5⟩
theorem fw_putI {c ci k : Nat} {ks : List Nat} {x : Int32} (h : fb_Ok T X post) (hd : T.2.1 pc = some (.putfield idx, 3, nx, tg)) (hF : fb_FP T.1.cls idx ci k .int) (hc : fb_S[c]? = some (.inr (ci, ks))) (hk : ks[k]? = some 0) (kk : fb_AW T X nx L S (fb_up w c k x)) : fb_AW T X pc L (.int x :: .ref c :: S) w := by
  intro ls H locs hl hP hS
  obtain ⟨hdg, rfl, -⟩ := h.2.2.2.2.2.2 _ _ _ _ _ hd
  obtain ⟨C, Tb, N, h1, h2, h3, h4, h5, ⟨ty0, h6⟩, h7, h8, h9⟩ := hF
  have hl2 : k < (ks.mapIdx (fun j k => fb_slt X.2.2.2.2.2.2 w c j k)).length := by rw [List.length_mapIdx]; exact (List.getElem?_eq_some_iff.mp hk).1
  have e := fb_setI (E := X.2.2.2) (w := w) x hc hk
  rcases h5 with hlk | ⟨host, hlk⟩
  · exact va_put (v := .int x) h.1.1 h.1.2.1 h.1.2.2.2.2 h3 ty0 h6 h7 h.1.2.2.2.1 h.2.2.2.2.1.1 hP (fb_D h.2.2.2.2.1 w) hS c (fb_get hc) h1 k h2 (h.1.2.2.2.2 _ hlk) (fun x hx => by rw [h4] at hx; exact hx) h8 h9 rfl rfl hl2 hdg (fun H1 locs1 hP1 _ hS1 => kk ls H1 locs1 hl (e ▸ hP1) hS1)
  · exact va_putN (v := .int x) h.1.1 h.1.2.1 h.1.2.2.2.2 h3 ty0 h6 h7 h.1.2.2.2.1 h.2.2.2.2.1.1 hP (fb_D h.2.2.2.2.1 w) hS c (fb_get hc) h1 k h2 (va_Nw.use rfl (h.2.2.2.2.1.2.2 _ hlk)) (fun x hx => by rw [h4] at hx; exact hx) h8 h9 rfl rfl hl2 hdg (fun H1 locs1 hP1 _ hS1 => kk ls H1 locs1 hl (e ▸ hP1) hS1)
theorem fw_putL {c ci k : Nat} {ks : List Nat} {x : Int64} (h : fb_Ok T X post) (hd : T.2.1 pc = some (.putfield idx, 3, nx, tg)) (hF : fb_FP T.1.cls idx ci k .long) (hc : fb_S[c]? = some (.inr (ci, ks))) (hk : ks[k]? = some 1) (kk : fb_AW T X nx L S (fb_ul w c k x)) : fb_AW T X pc L (.long x :: .ref c :: S) w := by
  intro ls H locs hl hP hS
  obtain ⟨hdg, rfl, -⟩ := h.2.2.2.2.2.2 _ _ _ _ _ hd
  obtain ⟨C, Tb, N, h1, h2, h3, h4, h5, ⟨ty0, h6⟩, h7, h8, h9⟩ := hF
  have hl2 : k < (ks.mapIdx (fun j k => fb_slt X.2.2.2.2.2.2 w c j k)).length := by rw [List.length_mapIdx]; exact (List.getElem?_eq_some_iff.mp hk).1
  have e := fb_setL (E := X.2.2.2) (w := w) x hc hk
  rcases h5 with hlk | ⟨host, hlk⟩
  · exact va_put (v := .long x) h.1.1 h.1.2.1 h.1.2.2.2.2 h3 ty0 h6 h7 h.1.2.2.2.1 h.2.2.2.2.1.1 hP (fb_D h.2.2.2.2.1 w) hS c (fb_get hc) h1 k h2 (h.1.2.2.2.2 _ hlk) (fun x hx => by rw [h4] at hx; exact hx) h8 h9 rfl rfl hl2 hdg (fun H1 locs1 hP1 _ hS1 => kk ls H1 locs1 hl (e ▸ hP1) hS1)
  · exact va_putN (v := .long x) h.1.1 h.1.2.1 h.1.2.2.2.2 h3 ty0 h6 h7 h.1.2.2.2.1 h.2.2.2.2.1.1 hP (fb_D h.2.2.2.2.1 w) hS c (fb_get hc) h1 k h2 (va_Nw.use rfl (h.2.2.2.2.1.2.2 _ hlk)) (fun x hx => by rw [h4] at hx; exact hx) h8 h9 rfl rfl hl2 hdg (fun H1 locs1 hP1 _ hS1 => kk ls H1 locs1 hl (e ▸ hP1) hS1)
theorem fw_sub {L' : List (Option Value)} (hs : fb_pad L L') (k : fb_AW T X pc L' S w) : fb_AW T X pc L S w := by
  intro ls H locs hl hP hS
  refine k ls H locs (fb_mono hl (fun q hq => ?_)) hP hS
  obtain ⟨j, v, hj, rfl⟩ := (fb_asc_iff _ _ 0 q).mp hq
  exact (fb_asc_iff _ _ 0 _).mpr ⟨j, v, hs j v hj, rfl⟩
end FD
theorem fb_mT {w : Cond} (i : Nat) (h : tables_1[i]? = some w) (hg : goodWord w = true) : w ∈ fb_gT := List.mem_filter.mpr ⟨List.mem_append_right _ (List.mem_of_getElem? h), hg⟩
theorem fb_mN {w : Cond} (i : Nat) (h : tables_1[i]? = some w) (hg : fb_nest w = true) : w ∈ fb_nT := List.mem_filter.mpr ⟨List.mem_append_right _ (List.mem_of_getElem? h), hg⟩
theorem fb_mS {w : Cond} (i : Nat) (h : (k2_sels lw_privs)[i]? = some w) (hg : goodWord w = true) : w ∈ fb_gT := List.mem_filter.mpr ⟨List.mem_append_left _ (List.mem_of_getElem? h), hg⟩
