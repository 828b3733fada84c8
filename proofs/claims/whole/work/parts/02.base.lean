abbrev fb_Wd : Type := (Nat → Nat → Int32) × (Nat → Nat → Int64)
abbrev fb_En : Type := va_G × ClassId × ClassId × (Nat → Nat)
def fb_rv (ad : Nat → Nat) : Value → Value
  | .ref a => .ref (ad a)
  | v => v
theorem fb_rv_cat (ad : Nat → Nat) (v : Value) : (fb_rv ad v).category = v.category := by cases v <;> rfl
def fb_slt (ad : Nat → Nat) (w : fb_Wd) (c j : Nat) : Nat → Value
  | 0 => .int (w.1 c j)
  | 1 => .long (w.2 c j)
  | k + 2 => .ref (ad k)
def fb_ent (E : fb_En) (w : fb_Wd) (c : Nat) : fb_Sh → va_E
  | .inl (z, n) => .inl ((if z = true then E.2.2.1 else E.2.1), n, .inl (w.1 c))
  | .inr (ci, ks) => .inr (ci, ks.mapIdx (fun j k => fb_slt E.2.2.2 w c j k))
def fb_cells (E : fb_En) (w : fb_Wd) : va_W := fb_S.mapIdx (fun c sh => (E.2.2.2 c, fb_ent E w c sh))
def fb_up (w : fb_Wd) (c k : Nat) (x : Int32) : fb_Wd := (fun a b => if a = c then (if b = k then x else w.1 a b) else w.1 a b, w.2)
def fb_ul (w : fb_Wd) (c k : Nat) (x : Int64) : fb_Wd := (w.1, fun a b => if a = c then (if b = k then x else w.2 a b) else w.2 a b)
def fb_ua (w : fb_Wd) (c : Nat) (f : Nat → Int32) : fb_Wd := (fun a b => if a = c then f b else w.1 a b, w.2)
theorem fb_get {E : fb_En} {w : fb_Wd} {c : Nat} {sh : fb_Sh} (h : fb_S[c]? = some sh) : (fb_cells E w)[c]? = some (E.2.2.2 c, fb_ent E w c sh) := by
  unfold fb_cells
  rw [List.getElem?_mapIdx, h]; rfl
theorem fb_len (E : fb_En) (w : fb_Wd) : (fb_cells E w).length = 75 := by
  unfold fb_cells
  rw [List.length_mapIdx]; exact fb_S_len
theorem fb_get' {E : fb_En} {w : fb_Wd} {c : Nat} {q : Nat × va_E} (h : (fb_cells E w)[c]? = some q) : c < 75 ∧ ∃ sh, fb_S[c]? = some sh ∧ q = (E.2.2.2 c, fb_ent E w c sh) := by
  refine ⟨by rw [← fb_len E w]; exact (List.getElem?_eq_some_iff.mp h).1, ?_⟩
  unfold fb_cells at h
  rw [List.getElem?_mapIdx] at h
  cases hs : fb_S[c]? with
  | none => rw [hs] at h; cases h
  | some sh => rw [hs] at h; exact ⟨sh, rfl, (Option.some.inj h).symm⟩
theorem fb_set {E : fb_En} {w w' : fb_Wd} {c : Nat} {sh : fb_Sh} (h : fb_S[c]? = some sh) (ho : ∀ a, a ≠ c → w'.1 a = w.1 a ∧ w'.2 a = w.2 a) {e : va_E} (he : e = fb_ent E w' c sh) : (fb_cells E w).set c (E.2.2.2 c, e) = fb_cells E w' := by
  apply List.ext_getElem?
  intro k
  have hl : c < (fb_cells E w).length := (List.getElem?_eq_some_iff.mp (fb_get (E := E) (w := w) h)).1
  by_cases hk : k = c
  · subst hk
    rw [List.getElem?_set_self hl, fb_get h, he]
  · rw [List.getElem?_set_ne (Ne.symm hk)]
    unfold fb_cells
    rw [List.getElem?_mapIdx, List.getElem?_mapIdx]
    cases hs : fb_S[k]? with
    | none => rfl
    | some sh2 =>
      have e1 := (ho k hk).1
      have e2 := (ho k hk).2
      cases sh2 with
      | inl z => simp [fb_ent, e1]
      | inr o => simp [fb_ent, fb_slt.eq_def, e1, e2]
theorem fb_setA {E : fb_En} {w : fb_Wd} {c n : Nat} {z : Bool} (f : Nat → Int32) (h : fb_S[c]? = some (.inl (z, n))) : (fb_cells E w).set c (E.2.2.2 c, .inl ((if z = true then E.2.2.1 else E.2.1), n, .inl f)) = fb_cells E (fb_ua w c f) := by
  have ho : ∀ a, a ≠ c → (fb_ua w c f).1 a = w.1 a ∧ (fb_ua w c f).2 a = w.2 a := fun a ha => ⟨by funext b; simp [fb_ua, ha], rfl⟩
  have e : (fb_ua w c f).1 c = f := by funext b; simp [fb_ua]
  have he : (Sum.inl ((if z = true then E.2.2.1 else E.2.1), n, .inl f) : va_E) = fb_ent E (fb_ua w c f) c (.inl (z, n)) := by simp only [fb_ent, e]
  exact fb_set h ho he
theorem fb_ua_up (w : fb_Wd) (c k : Nat) (x : Int32) : fb_ua w c (upd (w.1 c) k x) = fb_up w c k x := by
  unfold fb_ua fb_up upd
  congr 1
  funext a b
  by_cases h : a = c <;> simp [h]
theorem fb_setI {E : fb_En} {w : fb_Wd} {c ci k : Nat} {ks : List Nat} (x : Int32) (h : fb_S[c]? = some (.inr (ci, ks))) (hk : ks[k]? = some 0) : (fb_cells E w).set c (E.2.2.2 c, .inr (ci, (ks.mapIdx (fun j k => fb_slt E.2.2.2 w c j k)).set k (.int x))) = fb_cells E (fb_up w c k x) := by
  have ho : ∀ a, a ≠ c → (fb_up w c k x).1 a = w.1 a ∧ (fb_up w c k x).2 a = w.2 a := fun a ha => ⟨by funext b; simp [fb_up, ha], rfl⟩
  suffices he : (ks.mapIdx (fun j k => fb_slt E.2.2.2 w c j k)).set k (.int x) = ks.mapIdx (fun j q => fb_slt E.2.2.2 (fb_up w c k x) c j q) by
    exact fb_set h ho (show (Sum.inr (ci, _) : va_E) = fb_ent E (fb_up w c k x) c (.inr (ci, ks)) by rw [he]; rfl)
  apply List.ext_getElem?
  intro j
  have hl : k < ks.length := (List.getElem?_eq_some_iff.mp hk).1
  by_cases hj : j = k
  · subst hj
    rw [List.getElem?_set_self (by rw [List.length_mapIdx]; exact hl), List.getElem?_mapIdx, hk]
    simp [fb_slt, fb_up]
  · rw [List.getElem?_set_ne (Ne.symm hj), List.getElem?_mapIdx, List.getElem?_mapIdx]
    cases ks[j]? with
    | none => rfl
    | some q =>
      match q with
      | 0 => simp [fb_slt, fb_up, hj]
      | 1 => simp [fb_slt, fb_up]
      | q + 2 => simp [fb_slt]
theorem fb_setL {E : fb_En} {w : fb_Wd} {c ci k : Nat} {ks : List Nat} (x : Int64) (h : fb_S[c]? = some (.inr (ci, ks))) (hk : ks[k]? = some 1) : (fb_cells E w).set c (E.2.2.2 c, .inr (ci, (ks.mapIdx (fun j k => fb_slt E.2.2.2 w c j k)).set k (.long x))) = fb_cells E (fb_ul w c k x) := by
  have ho : ∀ a, a ≠ c → (fb_ul w c k x).1 a = w.1 a ∧ (fb_ul w c k x).2 a = w.2 a := fun a ha => ⟨rfl, by funext b; simp [fb_ul, ha]⟩
  suffices he : (ks.mapIdx (fun j k => fb_slt E.2.2.2 w c j k)).set k (.long x) = ks.mapIdx (fun j q => fb_slt E.2.2.2 (fb_ul w c k x) c j q) by
    exact fb_set h ho (show (Sum.inr (ci, _) : va_E) = fb_ent E (fb_ul w c k x) c (.inr (ci, ks)) by rw [he]; rfl)
  apply List.ext_getElem?
  intro j
  have hl : k < ks.length := (List.getElem?_eq_some_iff.mp hk).1
  by_cases hj : j = k
  · subst hj
    rw [List.getElem?_set_self (by rw [List.length_mapIdx]; exact hl), List.getElem?_mapIdx, hk]
    simp [fb_slt, fb_ul]
  · rw [List.getElem?_set_ne (Ne.symm hj), List.getElem?_mapIdx, List.getElem?_mapIdx]
    cases ks[j]? with
    | none => rfl
    | some q =>
      match q with
      | 0 => simp [fb_slt, fb_ul]
      | 1 => simp [fb_slt, fb_ul, hj]
      | q + 2 => simp [fb_slt]
def fb_Adr (E : fb_En) : Nat → Prop := fun q => ∃ c, c < 75 ∧ q = E.2.2.2 c
def fb_tys (E : fb_En) : List (ClassId × FieldType) := [(E.2.1, .int), (E.2.2.1, .boolean)]
def fb_Env (E : fb_En) (U : State) : Prop := va_K E.1 fb_C (fb_tys E) U ∧ (∀ i j, i < 75 → j < 75 → E.2.2.2 i = E.2.2.2 j → i = j) ∧ ∀ w ∈ fb_nT, va_Nw w U
theorem fb_D {E : fb_En} {U : State} (h : fb_Env E U) (w : fb_Wd) : va_D (fb_Adr E) (fb_cells E w) := by
  refine ⟨fun i j p q hi hj hpq => ?_, fun k q hk => ?_⟩
  · obtain ⟨h1, sh1, -, rfl⟩ := fb_get' hi
    obtain ⟨h2, sh2, -, rfl⟩ := fb_get' hj
    exact h.2.1 i j h1 h2 hpq
  · obtain ⟨h1, sh1, -, rfl⟩ := fb_get' hk
    exact ⟨k, h1, rfl⟩
theorem fb_Env.warm {E : fb_En} {s U : State} (hW : s.WarmedH U.vm) (h : fb_Env E s) : fb_Env E U := by
  refine ⟨va_K.moved hW.alike h.1, h.2.1, fun w hw => ?_⟩
  have h1 := h.2.2 w hw
  have h2 := (List.mem_filter.mp hw).2
  cases w <;> first | exact va_Nw.warmF hW h1 | exact va_Nw.warmM hW h1 | cases h2
theorem fb_Env.calling {E : fb_En} {U : State} (g : JFrame) (mk : MethodId) (a : Array Value) (h : fb_Env E U) : fb_Env E (U.calling g mk a) := by
  refine ⟨va_K.moved (u := U) (U := U.calling g mk a) (Vm.Alike.refl U.vm) h.1, h.2.1, fun w hw => ?_⟩
  have h1 := h.2.2 w hw
  have h2 := (List.mem_filter.mp hw).2
  cases w <;> first | exact va_Nw.same rfl (show U.vm = (U.calling g mk a).vm from rfl) h1 | cases h2
def fb_asc (ad : Nat → Nat) : Nat → List (Option Value) → List (Nat × Value)
  | _, [] => []
  | i, none :: l => fb_asc ad (i + 1) l
  | i, some v :: l => (i, fb_rv ad v) :: fb_asc ad (i + 1) l
theorem fb_asc_iff (ad : Nat → Nat) : ∀ (l : List (Option Value)) (i : Nat) (q : Nat × Value), q ∈ fb_asc ad i l ↔ ∃ k v, l[k]? = some (some v) ∧ q = (i + k, fb_rv ad v)
  | [], i, q => by simp [fb_asc]
  | none :: l, i, q => by
    rw [fb_asc, fb_asc_iff ad l (i + 1) q]
    constructor
    · rintro ⟨k, v, h, rfl⟩
      exact ⟨k + 1, v, by simpa using h, by rw [Nat.add_assoc, Nat.add_comm 1 k]⟩
    · rintro ⟨k, v, h, rfl⟩
      cases k with
      | zero => simp at h
      | succ k => exact ⟨k, v, by simpa using h, by rw [Nat.add_assoc, Nat.add_comm 1 k]⟩
  | some u :: l, i, q => by
    rw [fb_asc, List.mem_cons, fb_asc_iff ad l (i + 1) q]
    constructor
    · rintro (rfl | ⟨k, v, h, rfl⟩)
      · exact ⟨0, u, rfl, rfl⟩
      · exact ⟨k + 1, v, by simpa using h, by rw [Nat.add_assoc, Nat.add_comm 1 k]⟩
    · rintro ⟨k, v, h, rfl⟩
      cases k with
      | zero => simp at h; subst h; exact Or.inl rfl
      | succ k => exact Or.inr ⟨k, v, by simpa using h, by rw [Nat.add_assoc, Nat.add_comm 1 k]⟩
theorem fb_at {ad : Nat → Nat} {ls : Array Slot} {nL k : Nat} {L : List (Option Value)} {v : Value} (h : lv_has ls nL (fb_asc ad 0 L)) (hk : L[k]? = some (some v)) : ls[k]? = some (.val (fb_rv ad v)) :=
  h.2.2 (k, fb_rv ad v) ((fb_asc_iff ad L 0 _).mpr ⟨k, v, hk, by rw [Nat.zero_add]⟩)
theorem fb_mono {ls : Array Slot} {nL : Nat} {l l' : List (Nat × Value)} (h : lv_has ls nL l) (hs : ∀ q ∈ l', q ∈ l) : lv_has ls nL l' := ⟨h.1, h.2.1, fun q hq => h.2.2 q (hs q hq)⟩
def fb_free (L : List (Option Value)) (i : Nat) : Bool := match i with
  | 0 => true
  | i + 1 => match L[i]? with
    | some (some v) => v.category != 2
    | _ => true
theorem fb_free_of {L : List (Option Value)} {i k : Nat} {v : Value} (h : fb_free L i = true) (hk : L[k]? = some (some v)) (e : k + 1 = i) : v.category ≠ 2 := by
  subst e
  simp only [fb_free, hk] at h
  simpa using h
abbrev fb_I : Type := Nat → Option (Instr × Nat × Nat × List Nat)
abbrev fb_T : Type := MethodName × fb_I × ByteArray × Nat × Option FieldType × Nat
def fb_offs : Instr → List Int
  | .goto o => [o]
  | .ifCond _ o => [o]
  | .if_icmp _ o => [o]
  | .tableswitch d _ _ os => d :: os.toList
  | _ => []
def fb_chk (T : fb_T) (pc : Nat) : Bool := match T.2.1 pc with
  | none => true
  | some (i, n, nx, tg) => decide (decode T.2.2.1 pc = .ok (i, n)) && (nx == pc + n) && ((fb_offs i).map (fun o => (pc : Int) + o) == tg.map (fun t : Nat => (t : Int)))
def fb_Tok (T : fb_T) : Prop := ∀ pc i n nx tg, T.2.1 pc = some (i, n, nx, tg) → decode T.2.2.1 pc = .ok (i, n) ∧ nx = pc + n ∧ (fb_offs i).map (fun o => (pc : Int) + o) = tg.map (fun t : Nat => (t : Int))
theorem fb_Tok.of {T : fb_T} (N : Nat) (h : (List.range N).all (fb_chk T) = true) (hN : ∀ pc x, T.2.1 pc = some x → pc < N) : fb_Tok T := by
  intro pc i n nx tg e
  have h1 := List.all_eq_true.mp h pc (List.mem_range.mpr (hN pc _ e))
  simp only [fb_chk, e, Bool.and_eq_true, decide_eq_true_eq, beq_iff_eq] at h1
  exact ⟨h1.1.1, h1.1.2, h1.2⟩
def fb_rm (d : Nat) : Room := { frames := d, cells := 0, slots := 0, locals := 40 * d }
abbrev fb_Cx : Type := (Program × Launch × Env × Room × State) × (MethodId × Array Value × List Frame × Method × Code) × (State → Prop) × fb_En
def fb_W (X : fb_Cx) (H : Heap) (locs : List Loc) (g : JFrame) : Prop := W X.1.1 X.1.2.1 X.1.2.2.1 X.1.2.2.2.1 X.1.2.2.2.2 X.2.1.1 X.2.1.2.1 X.2.1.2.2.1 X.2.1.2.2.2.1 X.2.1.2.2.2.2 H locs 0 0 X.2.2.1 g
abbrev fb_F (X : fb_Cx) (pc : Nat) (ls : Array Slot) (S : List Value) : JFrame := F0 X.2.1.1 pc ls (S.map (fb_rv X.2.2.2.2.2.2))
def fb_AW (T : fb_T) (X : fb_Cx) (pc : Nat) (L : List (Option Value)) (S : List Value) (w : fb_Wd) : Prop :=
  ∀ (ls : Array Slot) (H : Heap) (locs : List Loc), lv_has ls T.2.2.2.1 (fb_asc X.2.2.2.2.2.2 0 L) → va_P X.2.2.2.1 fb_C (fb_cells X.2.2.2 w) H → va_S (fb_Adr X.2.2.2) X.1.2.2.2.2.heap H locs → fb_W X H locs (fb_F X pc ls S)
def fb_Q (E : fb_En) (post : Option Value → fb_Wd → Prop) : Array Value → State → Outcome → State → Prop := fun _ st oc t => (∃ (r : Option Value) (w' : fb_Wd), oc = .returned (r.map (fb_rv E.2.2.2)) ∧ post r w' ∧ va_P E.1 fb_C (fb_cells E w') t.heap) ∧ va_F (fb_Adr E) st t
def fb_Ok (T : fb_T) (X : fb_Cx) (post : Option Value → fb_Wd → Prop) : Prop :=
  (X.1.1.tables.exec = Jvm.exec ∧ X.2.1.2.2.2.2.code = T.2.2.1 ∧ X.2.1.2.2.2.2.maxLocals = T.2.2.2.1 ∧ X.1.2.2.2.2.vm.findClass T.1.cls = some X.2.1.1.cls ∧ ∀ w ∈ fb_gT, w.before X.2.1.2.1 X.1.2.2.2.2 = true) ∧
  X.2.1.2.2.2.1.sig.returnType = T.2.2.2.2.1 ∧ X.2.1.2.2.2.1.locks = false ∧ X.1.2.2.2.1 = fb_rm T.2.2.2.2.2 ∧ fb_Env X.2.2.2 X.1.2.2.2.2 ∧ X.2.2.1 = MQ X.2.1.2.2.1 (fb_Q X.2.2.2 post) X.2.1.2.1 X.1.2.2.2.2 0 0 (fb_Adr X.2.2.2) ∧ fb_Tok T
def fb_Can (l : Launch) (T : fb_T) (av : List Value) (w : fb_Wd) (post : Option Value → fb_Wd → Prop) : Prop :=
  ∀ E : fb_En, Met l T.1 (.code T.1 T.2.2.1 T.2.2.2.1 T.2.2.2.2.1 :: fb_gT) (fb_rm T.2.2.2.2.2) (va_Pc (av.map (fb_rv E.2.2.2)) (fun U => va_P E.1 fb_C (fb_cells E w) U.heap ∧ fb_Env E U)) (fb_Q E post) 0 0 (fb_Adr E)
def fb_en : List Value → List (Option Value)
  | [] => []
  | v :: vs => if v.category = 2 then some v :: none :: fb_en vs else some v :: fb_en vs
theorem fb_en_args (ad : Nat → Nat) : ∀ (vs : List Value) (i : Nat) (q : Nat × Value), q ∈ fb_asc ad i (fb_en vs) → q ∈ lv_args i (vs.map (fb_rv ad))
  | [], i, q => by simp [fb_en, fb_asc]
  | v :: vs, i, q => by
    intro h
    rw [List.map_cons, lv_args, List.mem_cons, fb_rv_cat]
    rw [fb_en] at h
    by_cases hc : v.category = 2
    · rw [if_pos hc, fb_asc, List.mem_cons, fb_asc] at h
      rw [if_pos hc]
      exact h.imp id (fun h => fb_en_args ad vs (i + 2) q h)
    · rw [if_neg hc, fb_asc, List.mem_cons] at h
      rw [if_neg hc]
      exact h.imp id (fun h => fb_en_args ad vs (i + 1) q h)
def fb_pad (L0 L : List (Option Value)) : Prop := ∀ (k : Nat) (v : Value), L[k]? = some (some v) → L0[k]? = some (some v)
theorem fb_pad_rf (L : List (Option Value)) (n : Nat) : fb_pad L (L ++ List.replicate n none) := by
  intro k v h
  by_cases hk : k < L.length
  · rwa [List.getElem?_append_left hk] at h
  · rw [List.getElem?_append_right (by omega), List.getElem?_replicate] at h
    split at h <;> simp at h
def fb_room (T : fb_T) (av : List Value) : Bool := Nat.ble ((lg_sl av).length) T.2.2.2.1
theorem fb_sl_len (ad : Nat → Nat) : ∀ av : List Value, (lg_sl (av.map (fb_rv ad))).length = (lg_sl av).length
  | [] => rfl
  | v :: vs => by
    have ih := fb_sl_len ad vs
    simp only [lg_sl, List.map_cons, List.flatMap_cons, List.length_append] at ih ⊢
    rw [ih, fb_rv_cat]
    by_cases hc : v.category = 2 <;> simp [hc]
theorem fb_intro {l : Launch} {T : fb_T} {av : List Value} {w : fb_Wd} {post : Option Value → fb_Wd → Prop} (n : Nat) (hT : fb_Tok T) (hy : plainName T.1.cls = true) (hr : fb_room T av = true)
    (body : ∀ X : fb_Cx, X.1.2.1 = l → fb_Ok T X post → fb_AW T X 0 (fb_en av ++ List.replicate n none) [] w) : fb_Can l T av w post := by
  intro E
  refine Met.ofW (cc := T.2.2.1) (maxL := T.2.2.2.1) (ret := T.2.2.2.2.1) hy rfl ?_
  intro p e s m args below meth c s₁ B hml hv
  obtain ⟨rfl, hP, hE⟩ := hv
  have hts := atoms_spec (ws := .code T.1 T.2.2.1 T.2.2.2.1 T.2.2.2.2.1 :: fb_gT) B.pre
  have hown : s.vm.findClass T.1.cls = some m.cls := findClass_of_methodNamed B.named
  have hok : fb_Ok T ((p, l, e, fb_rm T.2.2.2.2.2, s), (m, (av.map (fb_rv E.2.2.2)).toArray, below, meth, c), MQ below (fb_Q E post) (av.map (fb_rv E.2.2.2)).toArray s 0 0 (fb_Adr E), E) post :=
    ⟨⟨B.exec, B.bytes, hml, hown, fun w hw => hts w (List.mem_cons_of_mem _ hw)⟩, B.returns, B.notSynchronized, rfl, hE, rfl, hT⟩
  have hl := lv_entry (av.map (fb_rv E.2.2.2)) (n := T.2.2.2.1) (by rw [fb_sl_len]; exact Nat.le_of_ble_eq_true hr)
  rw [lg_entry_eq]
  have hb := body _ rfl hok
  have hl2 := fb_mono (l' := fb_asc E.2.2.2 0 (fb_en av ++ List.replicate n none)) hl (fun q hq => by
    obtain ⟨k, v, hk, rfl⟩ := (fb_asc_iff _ _ 0 q).mp hq
    exact fb_en_args E.2.2.2 av 0 _ ((fb_asc_iff _ _ 0 _).mpr ⟨k, v, fb_pad_rf _ n k v hk, rfl⟩))
  exact hb _ s.heap [] hl2 hP va_S.rf
