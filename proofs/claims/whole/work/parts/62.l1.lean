def R_law : String := "ForfeitBookLaw"
def lw_P (b : Addr) (xs : List Int32) (args : Array Value) (s : State) : Prop := args = #[.ref b] ∧ s.IntsAt b xs ∧ xs.length ≤ 3584 ∧ (Jvm.Cond.and given_1 narrow_1).before args s = true
def lw_Q (_ : Array Value) (s : State) (o : Outcome) (t : State) : Prop := o = .returned (some (.int 1)) ∧ Framed s o t [] 75 2406
def lw_Z (below : List Frame) (a : Array Value) (s : State) : State → Prop := fun t => ∃ o, t.status = .running ∧ Ended t below o ∧ lw_Q a s o t
theorem lw_ret {p : Program} {l : Launch} {e : Env} {s : State} {m : MethodId} {below : List Frame} {meth : Method} {c : Code} {b : Nat} (hx : p.tables.exec = Jvm.exec) (hb : c.code = code) (hr : meth.sig.returnType = ret) (hlocks : meth.locks = false) {pc : Nat} {H : Heap} {ls : Array Slot} (hdg : decode code pc = .ok (.ireturn, 1)) : W p l e room_1 s m #[Value.ref b] below meth c H [] 75 2406 (lw_Z below #[Value.ref b] s) (F0 m pc ls [.int 1]) := by
  intro T hT X
  obtain ⟨fs, hret, hrun, hended, hW, hframe⟩ := X.leave (v := some (.int 1)) (hlocks := hlocks) (fun h => by rw [hr] at h; cases h)
  have hmeth' : T.vm.method? m = some meth := X.method'
  refine ⟨T.setFrames fs, ?_, .returned (some (.int 1)), hrun, hended, rfl, ⟨_, rfl⟩, hW, hframe⟩
  jvm_step X.here [X.here.top, hx, hb, hdg, hmeth', hr, ret, narrow_b1]
  (try refine ⟨rfl, ?_⟩); (try refine ⟨rfl, ?_⟩)
  first | (intro acts; rw [hret _ acts rfl rfl rfl]) | rw [hret _ _ rfl rfl rfl]
  exact Steps.refl _
def lw_At (p : Program) (s : State) (m : MethodId) (meth : Method) (c : Code) (b L : Nat) (xs : Nat → Int32) : Prop :=
  p.tables.exec = Jvm.exec ∧ c.code = code ∧ meth.sig.returnType = ret ∧ c.maxLocals = 4 ∧ s.vm.findClass R_law = some m.cls ∧ (∀ w ∈ lw_tbl, w.before #[Value.ref b] s = true) ∧ va_X b L xs s s.heap ∧ b < s.heap.size ∧ meth.locks = false ∧ (Jvm.Cond.and given_1 narrow_1).before #[Value.ref b] s = true
abbrev fl_X : Type := (Program × Launch × Env × State) × (MethodId × List Frame × Method × Code) × (Nat × Nat × (Nat → Int32)) × fb_En
def fl_Ok (X : fl_X) : Prop := X.1.1.tables.exec = Jvm.exec ∧ X.2.1.2.2.2.code = code ∧ X.2.1.2.2.1.sig.returnType = ret ∧ X.2.1.2.2.2.maxLocals = 4 ∧ X.1.2.2.2.vm.findClass RL = some X.2.1.1.cls ∧ (∀ w ∈ fb_gT, w.before #[Value.ref X.2.2.1.1] X.1.2.2.2 = true) ∧ va_X X.2.2.1.1 X.2.2.1.2.1 X.2.2.1.2.2 X.1.2.2.2 X.1.2.2.2.heap ∧ X.2.2.1.1 < X.1.2.2.2.heap.size ∧ X.2.1.2.2.1.locks = false ∧ fb_Env X.2.2.2 X.1.2.2.2 ∧ (∀ c, c < 75 → X.1.2.2.2.heap.size ≤ X.2.2.2.2.2.2 c) ∧ X.2.2.1.2.1 ≤ 3584
def fl_AW (X : fl_X) (pc i : Nat) (st : List Value) (w : fb_Wd) : Prop := ∀ (ls : Array Slot) (H : Heap) (locs : List Loc), lv_has ls 4 [(3, .int (nI i)), (2, .ref (X.2.2.2.2.2.2 46)), (1, .ref (X.2.2.2.2.2.2 0)), (0, .ref X.2.2.1.1)] → va_P X.2.2.2.1 fb_C (fb_cells X.2.2.2 w) H → va_S (fun q : Nat => X.1.2.2.2.heap.size ≤ q) X.1.2.2.2.heap H locs → W X.1.1 X.1.2.1 X.1.2.2.1 room_1 X.1.2.2.2 X.2.1.1 #[Value.ref X.2.2.1.1] X.2.1.2.1 X.2.1.2.2.1 X.2.1.2.2.2 H locs 75 2406 (lw_Z X.2.1.2.1 #[Value.ref X.2.2.1.1] X.1.2.2.2) (F0 X.2.1.1 pc ls st)
def fl_dA (pc k : Nat) : Bool := decide (decode code pc = .ok (.aload_n 0, 1)) && (decide (decode code (pc + 1) = .ok (.iload_n 3, 1)) && (decide (decode code (pc + 2) = .ok (.iconst (k : Int), 1)) && (decide (decode code (pc + 3) = .ok (.iadd, 1)) && decide (decode code (pc + 4) = .ok (.iaload, 1)))))
def fl_dA6 (pc k : Nat) : Bool := decide (decode code pc = .ok (.aload_n 0, 1)) && (decide (decode code (pc + 1) = .ok (.iload_n 3, 1)) && (decide (decode code (pc + 2) = .ok (.bipush (k : Int), 2)) && (decide (decode code (pc + 4) = .ok (.iadd, 1)) && decide (decode code (pc + 5) = .ok (.iaload, 1)))))
def fl_dB (pc : Nat) : Bool := decide (decode code pc = .ok (.ifCond .eq 7, 3)) && (decide (decode code (pc + 3) = .ok (.iconst 1, 1)) && (decide (decode code (pc + 4) = .ok (.goto 4, 3)) && decide (decode code (pc + 7) = .ok (.iconst 0, 1))))
def fl_z (v : Int32) : Int32 := if v = 0 then 0 else 1
theorem fl_z01 (v : Int32) : fl_z v = 0 ∨ fl_z v = 1 := by
  unfold fl_z
  by_cases h : v = 0
  · exact Or.inl (if_pos h)
  · exact Or.inr (if_neg h)
def fl_rk (T2 : fb_T) : Bool := Nat.ble (T2.2.2.2.2.2 + 1) 11 && Nat.ble (8 + (T2.2.2.2.1 + 11) + 40 * T2.2.2.2.2.2) 450
section FL
variable {X : fl_X} {pc nx i k : Nat} {st : List Value} {w : fb_Wd}
theorem fl_ald1 (h : fl_Ok X) (hd : decode code pc = .ok (.aload_n 1, 1)) (kk : fl_AW X nx i (.ref (X.2.2.2.2.2.2 0) :: st) w) (hn : pc + 1 = nx) : fl_AW X pc i st w := by
  subst hn
  exact fun ls H locs hl hP hS => lv_aload_n h.1 h.2.1 hd rfl (lv_at hl 2 rfl) (kk ls H locs hl hP hS)
theorem fl_ald2 (h : fl_Ok X) (hd : decode code pc = .ok (.aload_n 2, 1)) (kk : fl_AW X nx i (.ref (X.2.2.2.2.2.2 46) :: st) w) (hn : pc + 1 = nx) : fl_AW X pc i st w := by
  subst hn
  exact fun ls H locs hl hP hS => lv_aload_n h.1 h.2.1 hd rfl (lv_at hl 1 rfl) (kk ls H locs hl hP hS)
theorem fl_bA (h : fl_Ok X) : ¬ (fun q : Nat => X.1.2.2.2.heap.size ≤ q) X.2.2.1.1 := Nat.not_le.mpr h.2.2.2.2.2.2.2.1
theorem fl_arg (h : fl_Ok X) (hi : i + 7 ≤ X.2.2.1.2.1) (hk : k < 7) (hd : fl_dA pc k = true) (kk : fl_AW X nx i (.int (X.2.2.1.2.2 (i + k)) :: st) w) (hn : pc + 5 = nx) : fl_AW X pc i st w := by
  subst hn
  intro ls H locs hl hP hS
  simp only [fl_dA, Bool.and_eq_true, decide_eq_true_eq] at hd
  obtain ⟨d0, d1, d2, d3, d4⟩ := hd
  have hL := h.2.2.2.2.2.2.2.2.2.2.2
  refine lv_aload_n h.1 h.2.1 d0 rfl (lv_at hl 3 rfl) ?_
  refine lv_iload_n h.1 h.2.1 d1 rfl (lv_at hl 0 rfl) ?_
  refine lv_iconst (v := nI k) h.1 h.2.1 d2 (by rcases (show k = 0 ∨ k = 1 ∨ k = 2 ∨ k = 3 ∨ k = 4 ∨ k = 5 ∨ k = 6 by omega) with rfl | rfl | rfl | rfl | rfl | rfl | rfl <;> decide) ?_
  refine lv_iadd h.1 h.2.1 d3 ?_
  rw [nI_add]
  refine va_sld h.1 h.2.1 h.2.2.2.2.2.2.1 h.2.2.2.2.2.2.2.1 (fl_bA h) hS (vp_in_nI (n := i + k) (by omega) (by omega)) d4 ?_
  rw [nI_clamp (by omega)]
  exact kk ls H locs hl hP hS
theorem fl_arg6 (h : fl_Ok X) (hi : i + 7 ≤ X.2.2.1.2.1) (hk : k < 7) (hd : fl_dA6 pc k = true) (kk : fl_AW X nx i (.int (X.2.2.1.2.2 (i + k)) :: st) w) (hn : pc + 6 = nx) : fl_AW X pc i st w := by
  subst hn
  intro ls H locs hl hP hS
  simp only [fl_dA6, Bool.and_eq_true, decide_eq_true_eq] at hd
  obtain ⟨d0, d1, d2, d3, d4⟩ := hd
  have hL := h.2.2.2.2.2.2.2.2.2.2.2
  refine lv_aload_n h.1 h.2.1 d0 rfl (lv_at hl 3 rfl) ?_
  refine lv_iload_n h.1 h.2.1 d1 rfl (lv_at hl 0 rfl) ?_
  refine lv_bipush (v := nI k) h.1 h.2.1 d2 (by rcases (show k = 0 ∨ k = 1 ∨ k = 2 ∨ k = 3 ∨ k = 4 ∨ k = 5 ∨ k = 6 by omega) with rfl | rfl | rfl | rfl | rfl | rfl | rfl <;> decide) ?_
  refine lv_iadd h.1 h.2.1 d3 ?_
  rw [nI_add]
  refine va_sld h.1 h.2.1 h.2.2.2.2.2.2.1 h.2.2.2.2.2.2.2.1 (fl_bA h) hS (vp_in_nI (n := i + k) (by omega) (by omega)) d4 ?_
  rw [nI_clamp (by omega)]
  exact kk ls H locs hl hP hS
theorem fl_bool (h : fl_Ok X) {v : Int32} (hd : fl_dB pc = true) (kk : fl_AW X nx i (.int (fl_z v) :: st) w) (hn : pc + 8 = nx) : fl_AW X pc i (.int v :: st) w := by
  subst hn
  intro ls H locs hl hP hS
  simp only [fl_dB, Bool.and_eq_true, decide_eq_true_eq] at hd
  obtain ⟨d0, d1, d2, d3⟩ := hd
  have hk := kk ls H locs hl hP hS
  refine lv_if_eq (tgt := pc + 7) h.1 h.2.1 d0 (by omega) (fun hv => ?_) (fun hv => ?_)
  · rw [show fl_z v = 0 from if_pos hv] at hk
    exact lv_iconst (v := 0) h.1 h.2.1 d3 (by decide) hk
  · rw [show fl_z v = 1 from if_neg hv] at hk
    refine lv_iconst (v := 1) h.1 h.2.1 d1 (by decide) ?_
    exact lv_goto (tgt := pc + 8) h.1 h.2.1 d2 (by omega) hk
theorem fl_call (h : fl_Ok X) {T2 : fb_T} {q ci N n idx : Nat} {ks : List Nat} {Tb : u_T} {As rest st0 : List Value} {post : Option Value → fb_Wd → Prop} (hC : fb_Can X.1.2.1 T2 (.ref q :: As) w post) (hM : fb_LV T2 n) (hL : fb_LL RL idx T2.1) (hn : As.length = n) (hq : fb_S[q]? = some (.inr (ci, ks))) (hcl : fb_C[ci]? = some (T2.1.cls, Tb, N)) (hR : fl_rk T2 = true) (hW : (rest.map fun v => v.category).sum ≤ 8) (hdg : decode code pc = .ok (.invokevirtual idx, 3)) (hst : st0 = (As.map (fb_rv X.2.2.2.2.2.2)).reverse ++ .ref (X.2.2.2.2.2.2 q) :: rest) (kk : ∀ (r : Option Value) (w' : fb_Wd), post r w' → fl_AW X (pc + 3) i ((r.map (fb_rv X.2.2.2.2.2.2)).toList ++ rest) w') : fl_AW X pc i st0 w := by
  intro ls H locs hl hP hS
  have hR2 : (fb_rm T2.2.2.2.2.2).frames + 1 ≤ room_1.frames ∧ 8 + (T2.2.2.2.1 + 11) + (fb_rm T2.2.2.2.2.2).locals ≤ room_1.locals := by
    simp only [fl_rk, Bool.and_eq_true] at hR
    exact ⟨Nat.le_of_ble_eq_true hR.1, Nat.le_of_ble_eq_true hR.2⟩
  refine fb_callV (As := As) (rest := rest) (nL := 4) (own := RL) (A0 := fun q : Nat => X.1.2.2.2.heap.size ≤ q) ⟨h.1, h.2.1, h.2.2.2.1, h.2.2.2.2.1, h.2.2.2.2.2.1⟩ h.2.2.2.2.2.2.2.2.2.1 hC hM hL hn hq hcl hR2 hP hS (fun q hq => ?_) hl.1 hW hdg ⟨by decide, by decide⟩ hst (fun r w' H1 locs1 hp hP1 hS1 => kk r w' hp ls H1 locs1 hl hP1 hS1)
  obtain ⟨c, hc, rfl⟩ := hq
  exact h.2.2.2.2.2.2.2.2.2.2.1 c hc
theorem fl_callI (h : fl_Ok X) {T2 : fb_T} {q ci N n idx : Nat} {ks : List Nat} {Tb : u_T} {As rest st0 : List Value} {P : Int32 → fb_Wd → Prop} (hC : fb_Can X.1.2.1 T2 (.ref q :: As) w (fb_kI P)) (hM : fb_LV T2 n) (hL : fb_LL RL idx T2.1) (hn : As.length = n) (hq : fb_S[q]? = some (.inr (ci, ks))) (hcl : fb_C[ci]? = some (T2.1.cls, Tb, N)) (hR : fl_rk T2 = true) (hW : (rest.map fun v => v.category).sum ≤ 8) (hdg : decode code pc = .ok (.invokevirtual idx, 3)) (hst : st0 = (As.map (fb_rv X.2.2.2.2.2.2)).reverse ++ .ref (X.2.2.2.2.2.2 q) :: rest) (kk : ∀ (x : Int32) (w' : fb_Wd), P x w' → fl_AW X nx i (.int x :: rest) w') (hx : pc + 3 = nx) : fl_AW X pc i st0 w := by
  subst hx
  refine fl_call h hC hM hL hn hq hcl hR hW hdg hst (fun r w' hp => ?_)
  obtain ⟨x, rfl, hp⟩ := hp
  exact kk x w' hp
theorem fl_callL (h : fl_Ok X) {T2 : fb_T} {q ci N n idx : Nat} {ks : List Nat} {Tb : u_T} {As rest st0 : List Value} {P : Int64 → fb_Wd → Prop} (hC : fb_Can X.1.2.1 T2 (.ref q :: As) w (fb_kL P)) (hM : fb_LV T2 n) (hL : fb_LL RL idx T2.1) (hn : As.length = n) (hq : fb_S[q]? = some (.inr (ci, ks))) (hcl : fb_C[ci]? = some (T2.1.cls, Tb, N)) (hR : fl_rk T2 = true) (hW : (rest.map fun v => v.category).sum ≤ 8) (hdg : decode code pc = .ok (.invokevirtual idx, 3)) (hst : st0 = (As.map (fb_rv X.2.2.2.2.2.2)).reverse ++ .ref (X.2.2.2.2.2.2 q) :: rest) (kk : ∀ (x : Int64) (w' : fb_Wd), P x w' → fl_AW X nx i (.long x :: rest) w') (hx : pc + 3 = nx) : fl_AW X pc i st0 w := by
  subst hx
  refine fl_call h hC hM hL hn hq hcl hR hW hdg hst (fun r w' hp => ?_)
  obtain ⟨x, rfl, hp⟩ := hp
  exact kk x w' hp
theorem fl_eq (h : fl_Ok X) {x y : Int32} {off : Int} (hd : decode code pc = .ok (.if_icmp .eq off, 3)) (ht : (pc : Int) + off = ((1753 : Nat) : Int)) (e : x = y) (kk : fl_AW X 1753 i st w) : fl_AW X pc i (.int y :: .int x :: st) w := fun ls H locs hl hP hS => lv_icmp_eq (tgt := 1753) h.1 h.2.1 hd ht (fun _ => kk ls H locs hl hP hS) (fun c => absurd e c)
theorem fl_cmp (x : Int64) : lg_cmp x x = 0 := by
  unfold lg_cmp
  simp
theorem fl_eqL (h : fl_Ok X) {x y : Int64} {off : Int} (hd : decode code pc = .ok (.lcmp, 1)) (hd2 : decode code (pc + 1) = .ok (.ifCond .eq off, 3)) (ht : ((pc + 1 : Nat) : Int) + off = ((1753 : Nat) : Int)) (e : x = y) (kk : fl_AW X 1753 i st w) : fl_AW X pc i (.long y :: .long x :: st) w := by
  subst e
  intro ls H locs hl hP hS
  refine W.lcmp h.1 h.2.1 hd ?_
  exact lv_if_eq (tgt := 1753) h.1 h.2.1 hd2 ht (fun _ => kk ls H locs hl hP hS) (fun c => absurd (fl_cmp x) c)
theorem fl_next (h : fl_Ok X) (kk : fl_AW X 18 (i + 7) [] w) : fl_AW X 1753 i [] w := by
  intro ls H locs hl hP hS
  refine lv_iinc (v := nI (i + 7)) (lv' := [(3, .int (nI (i + 7))), (2, .ref (X.2.2.2.2.2.2 46)), (1, .ref (X.2.2.2.2.2.2 0)), (0, .ref X.2.2.1.1)]) h.1 h.2.1 (show decode code 1753 = .ok (.iinc 3 7, 3) by decide +kernel) hl (k := 0) rfl (nI_add i 7) (by decide) rfl (fun ls hl => ?_)
  exact lv_goto (tgt := 18) h.1 h.2.1 (show decode code 1756 = .ok (.goto (-1738), 3) by decide +kernel) (by decide) (kk ls H locs hl hP hS)
theorem fl_end (h : fl_Ok X) : fl_AW X 1759 i [] w := by
  intro ls H locs hl hP hS
  refine lv_iconst (v := 1) h.1 h.2.1 (show decode code 1759 = .ok (.iconst 1, 1) by decide +kernel) (by decide) ?_
  refine va_forget (fun q hq => hS.2.2 q hq) ?_
  exact lw_ret h.1 h.2.1 h.2.2.1 h.2.2.2.2.2.2.2.2.1 (show decode code 1760 = .ok (.ireturn, 1) by decide +kernel)
end FL
theorem fl_more {i L : Nat} (hL : L ≤ 3584) (hi : i ≤ L) (hc : ¬ Int32.ofNat L - 7 < nI i) : i + 7 ≤ L := by
  rcases Nat.lt_or_ge L (i + 7) with q | q
  · exfalso
    apply hc
    rcases Nat.lt_or_ge L 7 with q2 | q2
    · refine Int32.lt_of_lt_of_le (b := 0) ?_ (nI_pos' (by omega))
      rcases (show L = 0 ∨ L = 1 ∨ L = 2 ∨ L = 3 ∨ L = 4 ∨ L = 5 ∨ L = 6 by omega) with rfl | rfl | rfl | rfl | rfl | rfl | rfl <;> decide
    · have e : Int32.ofNat L - 7 = nI (L - 7) := by
        have e2 : Int32.ofNat L = nI (L - 7) + 7 := by
          have := nI_add (L - 7) 7
          rw [show L - 7 + 7 = L by omega] at this
          exact this.symm
        rw [e2, Int32.add_sub_cancel]
      rw [e]
      exact nI_lt (by omega) (by omega)
  · exact q
