section FW
variable {T : fb_T} {X : fb_Cx} {post : Option Value → fb_Wd → Prop} {pc nx : Nat} {tg : List Nat} {L : List (Option Value)} {S : List Value} {w : fb_Wd}
theorem fw_iconst (h : fb_Ok T X post) {n : Int} (v : Int32) (hd : T.2.1 pc = some (.iconst n, 1, nx, tg)) (hv : Int32.ofInt n = v) (k : fb_AW T X nx L (.int v :: S) w) : fb_AW T X pc L (S) w := by
  intro ls H locs hl hP hS
  obtain ⟨hdg, rfl, -⟩ := h.2.2.2.2.2.2 _ _ _ _ _ hd
  exact lv_iconst h.1.1 h.1.2.1 hdg hv (k ls H locs hl hP hS)
theorem fw_bipush (h : fb_Ok T X post) {n : Int} (v : Int32) (hd : T.2.1 pc = some (.bipush n, 2, nx, tg)) (hv : (Int8.ofInt n).toInt32 = v) (k : fb_AW T X nx L (.int v :: S) w) : fb_AW T X pc L (S) w := by
  intro ls H locs hl hP hS
  obtain ⟨hdg, rfl, -⟩ := h.2.2.2.2.2.2 _ _ _ _ _ hd
  exact lv_bipush h.1.1 h.1.2.1 hdg hv (k ls H locs hl hP hS)
theorem fw_sipush (h : fb_Ok T X post) {n : Int} (v : Int32) (hd : T.2.1 pc = some (.sipush n, 3, nx, tg)) (hv : (Int16.ofInt n).toInt32 = v) (k : fb_AW T X nx L (.int v :: S) w) : fb_AW T X pc L (S) w := by
  intro ls H locs hl hP hS
  obtain ⟨hdg, rfl, -⟩ := h.2.2.2.2.2.2 _ _ _ _ _ hd
  exact lv_sipush h.1.1 h.1.2.1 hdg hv (k ls H locs hl hP hS)
theorem fw_lconst (h : fb_Ok T X post) {n : Fin 2} (v : Int64) (hd : T.2.1 pc = some (.lconst n, 1, nx, tg)) (hv : Int64.ofNat (n : Nat) = v) (k : fb_AW T X nx L (.long v :: S) w) : fb_AW T X pc L (S) w := by
  intro ls H locs hl hP hS
  obtain ⟨hdg, rfl, -⟩ := h.2.2.2.2.2.2 _ _ _ _ _ hd
  exact lv_lconst h.1.1 h.1.2.1 hdg hv (k ls H locs hl hP hS)
theorem fw_ldc (h : fb_Ok T X post) {n : Nat} (v : Int32) (hd : T.2.1 pc = some (.ldc n, 2, nx, tg)) (hv : Jvm.Cond.constant T.1.cls n v ∈ fb_gT) (k : fb_AW T X nx L (.int v :: S) w) : fb_AW T X pc L (S) w := by
  intro ls H locs hl hP hS
  obtain ⟨hdg, rfl, -⟩ := h.2.2.2.2.2.2 _ _ _ _ _ hd
  exact lv_ldc h.1.1 h.1.2.1 h.1.2.2.2.1 (h.1.2.2.2.2 _ hv) hdg (k ls H locs hl hP hS)
theorem fw_ldcw (h : fb_Ok T X post) {n : Nat} (v : Int32) (hd : T.2.1 pc = some (.ldc_w n, 3, nx, tg)) (hv : Jvm.Cond.constant T.1.cls n v ∈ fb_gT) (k : fb_AW T X nx L (.int v :: S) w) : fb_AW T X pc L (S) w := by
  intro ls H locs hl hP hS
  obtain ⟨hdg, rfl, -⟩ := h.2.2.2.2.2.2 _ _ _ _ _ hd
  exact lv_ldcw h.1.1 h.1.2.1 h.1.2.2.2.1 (h.1.2.2.2.2 _ hv) hdg (k ls H locs hl hP hS)
theorem fw_ldc2 (h : fb_Ok T X post) {n : Nat} (v : Int64) (hd : T.2.1 pc = some (.ldc2_w n, 3, nx, tg)) (hv : Jvm.Cond.constantLong T.1.cls n v ∈ fb_gT) (k : fb_AW T X nx L (.long v :: S) w) : fb_AW T X pc L (S) w := by
  intro ls H locs hl hP hS
  obtain ⟨hdg, rfl, -⟩ := h.2.2.2.2.2.2 _ _ _ _ _ hd
  exact lv_ldc2 h.1.1 h.1.2.1 h.1.2.2.2.1 (h.1.2.2.2.2 _ hv) hdg (k ls H locs hl hP hS)
theorem fw_iload_n (h : fb_Ok T X post) {i : Fin 4} {x : Int32} (hd : T.2.1 pc = some (.iload_n i, 1, nx, tg)) (hx : L[(i : Nat)]? = some (some (.int x))) (k : fb_AW T X nx L (.int x :: S) w) : fb_AW T X pc L (S) w := by
  intro ls H locs hl hP hS
  obtain ⟨hdg, rfl, -⟩ := h.2.2.2.2.2.2 _ _ _ _ _ hd
  exact lv_iload_n h.1.1 h.1.2.1 hdg rfl (fb_at hl hx) (k ls H locs hl hP hS)
theorem fw_iload (h : fb_Ok T X post) {i : Nat} {x : Int32} (hd : T.2.1 pc = some (.iload i, 2, nx, tg)) (hx : L[i]? = some (some (.int x))) (k : fb_AW T X nx L (.int x :: S) w) : fb_AW T X pc L (S) w := by
  intro ls H locs hl hP hS
  obtain ⟨hdg, rfl, -⟩ := h.2.2.2.2.2.2 _ _ _ _ _ hd
  exact lv_iload h.1.1 h.1.2.1 hdg (fb_at hl hx) (k ls H locs hl hP hS)
theorem fw_lload_n (h : fb_Ok T X post) {i : Fin 4} {x : Int64} (hd : T.2.1 pc = some (.lload_n i, 1, nx, tg)) (hx : L[(i : Nat)]? = some (some (.long x))) (k : fb_AW T X nx L (.long x :: S) w) : fb_AW T X pc L (S) w := by
  intro ls H locs hl hP hS
  obtain ⟨hdg, rfl, -⟩ := h.2.2.2.2.2.2 _ _ _ _ _ hd
  exact lv_lload_n h.1.1 h.1.2.1 hdg rfl (fb_at hl hx) (k ls H locs hl hP hS)
theorem fw_lload (h : fb_Ok T X post) {i : Nat} {x : Int64} (hd : T.2.1 pc = some (.lload i, 2, nx, tg)) (hx : L[i]? = some (some (.long x))) (k : fb_AW T X nx L (.long x :: S) w) : fb_AW T X pc L (S) w := by
  intro ls H locs hl hP hS
  obtain ⟨hdg, rfl, -⟩ := h.2.2.2.2.2.2 _ _ _ _ _ hd
  exact lv_lload h.1.1 h.1.2.1 hdg (fb_at hl hx) (k ls H locs hl hP hS)
theorem fw_aload_n (h : fb_Ok T X post) {i : Fin 4} {x : Nat} (hd : T.2.1 pc = some (.aload_n i, 1, nx, tg)) (hx : L[(i : Nat)]? = some (some (.ref x))) (k : fb_AW T X nx L (.ref x :: S) w) : fb_AW T X pc L (S) w := by
  intro ls H locs hl hP hS
  obtain ⟨hdg, rfl, -⟩ := h.2.2.2.2.2.2 _ _ _ _ _ hd
  exact lv_aload_n h.1.1 h.1.2.1 hdg rfl (fb_at hl hx) (k ls H locs hl hP hS)
theorem fw_aload (h : fb_Ok T X post) {i : Nat} {x : Nat} (hd : T.2.1 pc = some (.aload i, 2, nx, tg)) (hx : L[i]? = some (some (.ref x))) (k : fb_AW T X nx L (.ref x :: S) w) : fb_AW T X pc L (S) w := by
  intro ls H locs hl hP hS
  obtain ⟨hdg, rfl, -⟩ := h.2.2.2.2.2.2 _ _ _ _ _ hd
  exact lv_aload h.1.1 h.1.2.1 hdg (fb_at hl hx) (k ls H locs hl hP hS)
theorem fw_st1 {ad : Nat → Nat} {i : Nat} {v : Value} {L L' : List (Option Value)} (hL : L.set i (some v) = L') (hf : fb_free L i = true) : ∀ q ∈ fb_asc ad 0 L', q ∈ (i, fb_rv ad v) :: (fb_asc ad 0 L).filter (fun q => !(q.1 == i) && !(q.1 + 1 == i && q.2.category == 2)) := by
  intro q hq
  obtain ⟨k, u, hk, rfl⟩ := (fb_asc_iff _ _ 0 q).mp hq
  rw [Nat.zero_add]
  subst hL
  by_cases e : k = i
  · subst e
    rw [List.getElem?_set] at hk
    split at hk
    · split at hk
      · cases hk; exact List.mem_cons_self
      · cases hk
    · omega
  · rw [List.getElem?_set_ne (Ne.symm e)] at hk
    refine List.mem_cons_of_mem _ (List.mem_filter.mpr ⟨(fb_asc_iff _ _ 0 _).mpr ⟨k, u, hk, by rw [Nat.zero_add]⟩, ?_⟩)
    simp only [Bool.and_eq_true, Bool.not_eq_true', beq_eq_false_iff_ne, ne_eq, Bool.and_eq_false_iff, fb_rv_cat]
    refine ⟨e, ?_⟩
    by_cases e2 : k + 1 = i
    · exact Or.inr (fb_free_of hf hk e2)
    · exact Or.inl e2
theorem fw_st2 {ad : Nat → Nat} {i : Nat} {v : Value} {L L' : List (Option Value)} (hL : (L.set i (some v)).set (i + 1) none = L') (hf : fb_free L i = true) : ∀ q ∈ fb_asc ad 0 L', q ∈ (i, fb_rv ad v) :: (fb_asc ad 0 L).filter (fun q => !(q.1 == i) && (!(q.1 == i + 1) && !(q.1 + 1 == i && q.2.category == 2))) := by
  intro q hq
  obtain ⟨k, u, hk, rfl⟩ := (fb_asc_iff _ _ 0 q).mp hq
  rw [Nat.zero_add]
  subst hL
  by_cases e1 : k = i + 1
  · subst e1
    rw [List.getElem?_set] at hk
    split at hk
    · split at hk <;> simp at hk
    · omega
  · rw [List.getElem?_set_ne (Ne.symm e1)] at hk
    by_cases e : k = i
    · subst e
      rw [List.getElem?_set] at hk
      split at hk
      · split at hk
        · cases hk; exact List.mem_cons_self
        · cases hk
      · omega
    · rw [List.getElem?_set_ne (Ne.symm e)] at hk
      refine List.mem_cons_of_mem _ (List.mem_filter.mpr ⟨(fb_asc_iff _ _ 0 _).mpr ⟨k, u, hk, by rw [Nat.zero_add]⟩, ?_⟩)
      simp only [Bool.and_eq_true, Bool.not_eq_true', beq_eq_false_iff_ne, ne_eq, Bool.and_eq_false_iff, fb_rv_cat]
      refine ⟨e, e1, ?_⟩
      by_cases e2 : k + 1 = i
      · exact Or.inr (fb_free_of hf hk e2)
      · exact Or.inl e2
theorem fw_istore_n (h : fb_Ok T X post) {i : Fin 4} {x : Int32} (L' : List (Option Value)) (hd : T.2.1 pc = some (.istore_n i, 1, nx, tg)) (hn : Nat.ble ((i : Nat) + 1) T.2.2.2.1 = true) (hf : fb_free L (i : Nat) = true) (hL : L.set (i : Nat) (some (.int x)) = L') (k : fb_AW T X nx L' (S) w) : fb_AW T X pc L (.int x :: S) w := by
  intro ls H locs hl hP hS
  obtain ⟨hdg, rfl, -⟩ := h.2.2.2.2.2.2 _ _ _ _ _ hd
  refine lv_istore_n h.1.1 h.1.2.1 hdg rfl hl (Nat.le_of_ble_eq_true hn) rfl (fun ls' hl' => ?_)
  exact k ls' H locs (fb_mono hl' (fw_st1 (v := .int x) hL hf)) hP hS
theorem fw_istore (h : fb_Ok T X post) {i : Nat} {x : Int32} (L' : List (Option Value)) (hd : T.2.1 pc = some (.istore i, 2, nx, tg)) (hn : Nat.ble (i + 1) T.2.2.2.1 = true) (hf : fb_free L i = true) (hL : L.set i (some (.int x)) = L') (k : fb_AW T X nx L' (S) w) : fb_AW T X pc L (.int x :: S) w := by
  intro ls H locs hl hP hS
  obtain ⟨hdg, rfl, -⟩ := h.2.2.2.2.2.2 _ _ _ _ _ hd
  refine lv_istore h.1.1 h.1.2.1 hdg hl (Nat.le_of_ble_eq_true hn) rfl (fun ls' hl' => ?_)
  exact k ls' H locs (fb_mono hl' (fw_st1 (v := .int x) hL hf)) hP hS
theorem fw_astore_n (h : fb_Ok T X post) {i : Fin 4} {x : Nat} (L' : List (Option Value)) (hd : T.2.1 pc = some (.astore_n i, 1, nx, tg)) (hn : Nat.ble ((i : Nat) + 1) T.2.2.2.1 = true) (hf : fb_free L (i : Nat) = true) (hL : L.set (i : Nat) (some (.ref x)) = L') (k : fb_AW T X nx L' (S) w) : fb_AW T X pc L (.ref x :: S) w := by
  intro ls H locs hl hP hS
  obtain ⟨hdg, rfl, -⟩ := h.2.2.2.2.2.2 _ _ _ _ _ hd
  refine lv_astore_n h.1.1 h.1.2.1 hdg rfl hl (Nat.le_of_ble_eq_true hn) rfl (fun ls' hl' => ?_)
  exact k ls' H locs (fb_mono hl' (fw_st1 (v := .ref x) hL hf)) hP hS
theorem fw_astore (h : fb_Ok T X post) {i : Nat} {x : Nat} (L' : List (Option Value)) (hd : T.2.1 pc = some (.astore i, 2, nx, tg)) (hn : Nat.ble (i + 1) T.2.2.2.1 = true) (hf : fb_free L i = true) (hL : L.set i (some (.ref x)) = L') (k : fb_AW T X nx L' (S) w) : fb_AW T X pc L (.ref x :: S) w := by
  intro ls H locs hl hP hS
  obtain ⟨hdg, rfl, -⟩ := h.2.2.2.2.2.2 _ _ _ _ _ hd
  refine lv_astore h.1.1 h.1.2.1 hdg hl (Nat.le_of_ble_eq_true hn) rfl (fun ls' hl' => ?_)
  exact k ls' H locs (fb_mono hl' (fw_st1 (v := .ref x) hL hf)) hP hS
theorem fw_lstore_n (h : fb_Ok T X post) {i : Fin 4} {x : Int64} (L' : List (Option Value)) (hd : T.2.1 pc = some (.lstore_n i, 1, nx, tg)) (hn : Nat.ble ((i : Nat) + 1 + 1) T.2.2.2.1 = true) (hf : fb_free L (i : Nat) = true) (hL : (L.set (i : Nat) (some (.long x))).set ((i : Nat) + 1) none = L') (k : fb_AW T X nx L' (S) w) : fb_AW T X pc L (.long x :: S) w := by
  intro ls H locs hl hP hS
  obtain ⟨hdg, rfl, -⟩ := h.2.2.2.2.2.2 _ _ _ _ _ hd
  refine lv_lstore_n h.1.1 h.1.2.1 hdg rfl hl (Nat.le_of_ble_eq_true hn) rfl (fun ls' hl' => ?_)
  exact k ls' H locs (fb_mono hl' (fw_st2 (v := .long x) hL hf)) hP hS
theorem fw_lstore (h : fb_Ok T X post) {i : Nat} {x : Int64} (L' : List (Option Value)) (hd : T.2.1 pc = some (.lstore i, 2, nx, tg)) (hn : Nat.ble (i + 1 + 1) T.2.2.2.1 = true) (hf : fb_free L i = true) (hL : (L.set i (some (.long x))).set (i + 1) none = L') (k : fb_AW T X nx L' (S) w) : fb_AW T X pc L (.long x :: S) w := by
  intro ls H locs hl hP hS
  obtain ⟨hdg, rfl, -⟩ := h.2.2.2.2.2.2 _ _ _ _ _ hd
  refine lv_lstore h.1.1 h.1.2.1 hdg hl (Nat.le_of_ble_eq_true hn) rfl (fun ls' hl' => ?_)
  exact k ls' H locs (fb_mono hl' (fw_st2 (v := .long x) hL hf)) hP hS
theorem fw_iinc (h : fb_Ok T X post) {i : Nat} {n : Int} {x : Int32} (v : Int32) (L' : List (Option Value)) (hd : T.2.1 pc = some (.iinc i n, 3, nx, tg)) (hv : Int32.ofInt n = v) (hx : L[i]? = some (some (.int x))) (hn : Nat.ble (i + 1) T.2.2.2.1 = true) (hf : fb_free L i = true) (hL : L.set i (some (.int (x + v))) = L') (k : fb_AW T X nx L' (S) w) : fb_AW T X pc L (S) w := by
  intro ls H locs hl hP hS
  obtain ⟨hdg, rfl, -⟩ := h.2.2.2.2.2.2 _ _ _ _ _ hd
  have hx' : (i, Value.int x) ∈ fb_asc X.2.2.2.2.2.2 0 L := (fb_asc_iff _ _ 0 _).mpr ⟨i, .int x, hx, by rw [Nat.zero_add]; rfl⟩
  obtain ⟨j, hj⟩ := List.getElem?_of_mem hx'
  refine lv_iinc (x := x) (v := x + v) h.1.1 h.1.2.1 hdg hl (k := j) hj (by rw [hv]) (Nat.le_of_ble_eq_true hn) rfl (fun ls' hl' => ?_)
  exact k ls' H locs (fb_mono hl' (fw_st1 (v := .int (x + v)) hL hf)) hP hS
theorem fw_iadd (h : fb_Ok T X post) {x y : Int32} (hd : T.2.1 pc = some (.iadd, 1, nx, tg))  (k : fb_AW T X nx L (.int (x + y) :: S) w) : fb_AW T X pc L (.int y :: .int x :: S) w := by
  intro ls H locs hl hP hS
  obtain ⟨hdg, rfl, -⟩ := h.2.2.2.2.2.2 _ _ _ _ _ hd
  exact lv_iadd h.1.1 h.1.2.1 hdg (k ls H locs hl hP hS)
theorem fw_isub (h : fb_Ok T X post) {x y : Int32} (hd : T.2.1 pc = some (.isub, 1, nx, tg))  (k : fb_AW T X nx L (.int (x - y) :: S) w) : fb_AW T X pc L (.int y :: .int x :: S) w := by
  intro ls H locs hl hP hS
  obtain ⟨hdg, rfl, -⟩ := h.2.2.2.2.2.2 _ _ _ _ _ hd
  exact lv_isub h.1.1 h.1.2.1 hdg (k ls H locs hl hP hS)
theorem fw_imul (h : fb_Ok T X post) {x y : Int32} (hd : T.2.1 pc = some (.imul, 1, nx, tg))  (k : fb_AW T X nx L (.int (x * y) :: S) w) : fb_AW T X pc L (.int y :: .int x :: S) w := by
  intro ls H locs hl hP hS
  obtain ⟨hdg, rfl, -⟩ := h.2.2.2.2.2.2 _ _ _ _ _ hd
  exact lv_imul h.1.1 h.1.2.1 hdg (k ls H locs hl hP hS)
theorem fw_iand (h : fb_Ok T X post) {x y : Int32} (hd : T.2.1 pc = some (.iand, 1, nx, tg))  (k : fb_AW T X nx L (.int (x &&& y) :: S) w) : fb_AW T X pc L (.int y :: .int x :: S) w := by
  intro ls H locs hl hP hS
  obtain ⟨hdg, rfl, -⟩ := h.2.2.2.2.2.2 _ _ _ _ _ hd
  exact lv_iand h.1.1 h.1.2.1 hdg (k ls H locs hl hP hS)
theorem fw_ior (h : fb_Ok T X post) {x y : Int32} (hd : T.2.1 pc = some (.ior, 1, nx, tg))  (k : fb_AW T X nx L (.int (x ||| y) :: S) w) : fb_AW T X pc L (.int y :: .int x :: S) w := by
  intro ls H locs hl hP hS
  obtain ⟨hdg, rfl, -⟩ := h.2.2.2.2.2.2 _ _ _ _ _ hd
  exact lv_ior h.1.1 h.1.2.1 hdg (k ls H locs hl hP hS)
theorem fw_ixor (h : fb_Ok T X post) {x y : Int32} (hd : T.2.1 pc = some (.ixor, 1, nx, tg))  (k : fb_AW T X nx L (.int (x ^^^ y) :: S) w) : fb_AW T X pc L (.int y :: .int x :: S) w := by
  intro ls H locs hl hP hS
  obtain ⟨hdg, rfl, -⟩ := h.2.2.2.2.2.2 _ _ _ _ _ hd
  exact lv_ixor h.1.1 h.1.2.1 hdg (k ls H locs hl hP hS)
theorem fw_ishl (h : fb_Ok T X post) {x y : Int32} (hd : T.2.1 pc = some (.ishl, 1, nx, tg))  (k : fb_AW T X nx L (.int (x <<< (y &&& 31)) :: S) w) : fb_AW T X pc L (.int y :: .int x :: S) w := by
  intro ls H locs hl hP hS
  obtain ⟨hdg, rfl, -⟩ := h.2.2.2.2.2.2 _ _ _ _ _ hd
  exact lv_ishl h.1.1 h.1.2.1 hdg (k ls H locs hl hP hS)
theorem fw_ishr (h : fb_Ok T X post) {x y : Int32} (hd : T.2.1 pc = some (.ishr, 1, nx, tg))  (k : fb_AW T X nx L (.int (x >>> (y &&& 31)) :: S) w) : fb_AW T X pc L (.int y :: .int x :: S) w := by
  intro ls H locs hl hP hS
  obtain ⟨hdg, rfl, -⟩ := h.2.2.2.2.2.2 _ _ _ _ _ hd
  exact lv_ishr h.1.1 h.1.2.1 hdg (k ls H locs hl hP hS)
theorem fw_iushr (h : fb_Ok T X post) {x y : Int32} (hd : T.2.1 pc = some (.iushr, 1, nx, tg))  (k : fb_AW T X nx L (.int ((x.toUInt32 >>> (y.toUInt32 &&& Int32.toUInt32 31)).toInt32) :: S) w) : fb_AW T X pc L (.int y :: .int x :: S) w := by
  intro ls H locs hl hP hS
  obtain ⟨hdg, rfl, -⟩ := h.2.2.2.2.2.2 _ _ _ _ _ hd
  exact lv_iushr h.1.1 h.1.2.1 hdg rfl (k ls H locs hl hP hS)
theorem fw_idiv (h : fb_Ok T X post) {x y : Int32} (hd : T.2.1 pc = some (.idiv, 1, nx, tg)) (hne : ¬ y = 0) (k : fb_AW T X nx L (.int (x / y) :: S) w) : fb_AW T X pc L (.int y :: .int x :: S) w := by
  intro ls H locs hl hP hS
  obtain ⟨hdg, rfl, -⟩ := h.2.2.2.2.2.2 _ _ _ _ _ hd
  exact lv_idiv h.1.1 h.1.2.1 hdg hne (k ls H locs hl hP hS)
theorem fw_irem (h : fb_Ok T X post) {x y : Int32} (hd : T.2.1 pc = some (.irem, 1, nx, tg)) (hne : ¬ y = 0) (k : fb_AW T X nx L (.int (x - x / y * y) :: S) w) : fb_AW T X pc L (.int y :: .int x :: S) w := by
  intro ls H locs hl hP hS
  obtain ⟨hdg, rfl, -⟩ := h.2.2.2.2.2.2 _ _ _ _ _ hd
  exact lv_irem h.1.1 h.1.2.1 hdg hne (k ls H locs hl hP hS)
theorem fw_ladd (h : fb_Ok T X post) {x y : Int64} (hd : T.2.1 pc = some (.ladd, 1, nx, tg))  (k : fb_AW T X nx L (.long (x + y) :: S) w) : fb_AW T X pc L (.long y :: .long x :: S) w := by
  intro ls H locs hl hP hS
  obtain ⟨hdg, rfl, -⟩ := h.2.2.2.2.2.2 _ _ _ _ _ hd
  exact lv_ladd h.1.1 h.1.2.1 hdg (k ls H locs hl hP hS)
theorem fw_lmul (h : fb_Ok T X post) {x y : Int64} (hd : T.2.1 pc = some (.lmul, 1, nx, tg))  (k : fb_AW T X nx L (.long (x * y) :: S) w) : fb_AW T X pc L (.long y :: .long x :: S) w := by
  intro ls H locs hl hP hS
  obtain ⟨hdg, rfl, -⟩ := h.2.2.2.2.2.2 _ _ _ _ _ hd
  exact lv_lmul h.1.1 h.1.2.1 hdg (k ls H locs hl hP hS)
theorem fw_ldiv (h : fb_Ok T X post) {x y : Int64} (hd : T.2.1 pc = some (.ldiv, 1, nx, tg)) (hne : ¬ y = 0) (k : fb_AW T X nx L (.long (x / y) :: S) w) : fb_AW T X pc L (.long y :: .long x :: S) w := by
  intro ls H locs hl hP hS
  obtain ⟨hdg, rfl, -⟩ := h.2.2.2.2.2.2 _ _ _ _ _ hd
  exact lv_ldiv h.1.1 h.1.2.1 hdg hne (k ls H locs hl hP hS)
theorem fw_lrem (h : fb_Ok T X post) {x y : Int64} (hd : T.2.1 pc = some (.lrem, 1, nx, tg)) (hne : ¬ y = 0) (k : fb_AW T X nx L (.long (x - x / y * y) :: S) w) : fb_AW T X pc L (.long y :: .long x :: S) w := by
  intro ls H locs hl hP hS
  obtain ⟨hdg, rfl, -⟩ := h.2.2.2.2.2.2 _ _ _ _ _ hd
  exact lv_lrem h.1.1 h.1.2.1 hdg hne (k ls H locs hl hP hS)
theorem fw_lshl (h : fb_Ok T X post) {x : Int64} {y : Int32} (hd : T.2.1 pc = some (.lshl, 1, nx, tg))  (k : fb_AW T X nx L (.long (x <<< (y.toInt64 &&& 63)) :: S) w) : fb_AW T X pc L (.int y :: .long x :: S) w := by
  intro ls H locs hl hP hS
  obtain ⟨hdg, rfl, -⟩ := h.2.2.2.2.2.2 _ _ _ _ _ hd
  exact lv_lshl h.1.1 h.1.2.1 hdg rfl (k ls H locs hl hP hS)
theorem fw_i2l (h : fb_Ok T X post) {x : Int32} (hd : T.2.1 pc = some (.i2l, 1, nx, tg))  (k : fb_AW T X nx L (.long x.toInt64 :: S) w) : fb_AW T X pc L (.int x :: S) w := by
  intro ls H locs hl hP hS
  obtain ⟨hdg, rfl, -⟩ := h.2.2.2.2.2.2 _ _ _ _ _ hd
  exact lv_i2l h.1.1 h.1.2.1 hdg rfl (k ls H locs hl hP hS)
theorem fw_lcmp (h : fb_Ok T X post) {x y : Int64} (hd : T.2.1 pc = some (.lcmp, 1, nx, tg))  (k : fb_AW T X nx L (.int (lg_cmp x y) :: S) w) : fb_AW T X pc L (.long y :: .long x :: S) w := by
  intro ls H locs hl hP hS
  obtain ⟨hdg, rfl, -⟩ := h.2.2.2.2.2.2 _ _ _ _ _ hd
  exact W.lcmp h.1.1 h.1.2.1 hdg (k ls H locs hl hP hS)
theorem fw_dup (h : fb_Ok T X post) {a : Value} (hd : T.2.1 pc = some (.dup, 1, nx, tg)) (ha : a.category = 1) (k : fb_AW T X nx L (a :: a :: S) w) : fb_AW T X pc L (a :: S) w := by
  intro ls H locs hl hP hS
  obtain ⟨hdg, rfl, -⟩ := h.2.2.2.2.2.2 _ _ _ _ _ hd
  exact lv_dup h.1.1 h.1.2.1 hdg ((fb_rv_cat _ a).trans ha) (k ls H locs hl hP hS)
theorem fw_dup2 (h : fb_Ok T X post) {a b : Value} (hd : T.2.1 pc = some (.dup2, 1, nx, tg)) (ha : a.category = 1) (hb : b.category = 1) (k : fb_AW T X nx L (a :: b :: a :: b :: S) w) : fb_AW T X pc L (a :: b :: S) w := by
  intro ls H locs hl hP hS
  obtain ⟨hdg, rfl, -⟩ := h.2.2.2.2.2.2 _ _ _ _ _ hd
  exact lv_dup2_11 h.1.1 h.1.2.1 hdg ((fb_rv_cat _ a).trans ha) ((fb_rv_cat _ b).trans hb) (k ls H locs hl hP hS)
theorem fw_if_eq (h : fb_Ok T X post) {x : Int32} {off : Int} {tgt : Nat} (hd : T.2.1 pc = some (.ifCond .eq off, 3, nx, [tgt])) (kt : x = 0 → fb_AW T X tgt L S w) (kf : ¬ x = 0 → fb_AW T X nx L S w) : fb_AW T X pc L (.int x :: S) w := by
  intro ls H locs hl hP hS
  obtain ⟨hdg, rfl, ht⟩ := h.2.2.2.2.2.2 _ _ _ _ _ hd
  exact lv_if_eq h.1.1 h.1.2.1 hdg (List.cons.inj ht).1 (fun q => kt q ls H locs hl hP hS) (fun q => kf q ls H locs hl hP hS)
theorem fw_if_ne (h : fb_Ok T X post) {x : Int32} {off : Int} {tgt : Nat} (hd : T.2.1 pc = some (.ifCond .ne off, 3, nx, [tgt])) (kt : ¬ x = 0 → fb_AW T X tgt L S w) (kf : x = 0 → fb_AW T X nx L S w) : fb_AW T X pc L (.int x :: S) w := by
  intro ls H locs hl hP hS
  obtain ⟨hdg, rfl, ht⟩ := h.2.2.2.2.2.2 _ _ _ _ _ hd
  exact lv_if_ne h.1.1 h.1.2.1 hdg (List.cons.inj ht).1 (fun q => kt q ls H locs hl hP hS) (fun q => kf q ls H locs hl hP hS)
theorem fw_if_lt (h : fb_Ok T X post) {x : Int32} {off : Int} {tgt : Nat} (hd : T.2.1 pc = some (.ifCond .lt off, 3, nx, [tgt])) (kt : x < 0 → fb_AW T X tgt L S w) (kf : ¬ x < 0 → fb_AW T X nx L S w) : fb_AW T X pc L (.int x :: S) w := by
  intro ls H locs hl hP hS
  obtain ⟨hdg, rfl, ht⟩ := h.2.2.2.2.2.2 _ _ _ _ _ hd
  exact lv_if_lt h.1.1 h.1.2.1 hdg (List.cons.inj ht).1 (fun q => kt q ls H locs hl hP hS) (fun q => kf q ls H locs hl hP hS)
theorem fw_if_ge (h : fb_Ok T X post) {x : Int32} {off : Int} {tgt : Nat} (hd : T.2.1 pc = some (.ifCond .ge off, 3, nx, [tgt])) (kt : 0 ≤ x → fb_AW T X tgt L S w) (kf : ¬ 0 ≤ x → fb_AW T X nx L S w) : fb_AW T X pc L (.int x :: S) w := by
  intro ls H locs hl hP hS
  obtain ⟨hdg, rfl, ht⟩ := h.2.2.2.2.2.2 _ _ _ _ _ hd
  exact lv_if_ge h.1.1 h.1.2.1 hdg (List.cons.inj ht).1 (fun q => kt q ls H locs hl hP hS) (fun q => kf q ls H locs hl hP hS)
theorem fw_if_gt (h : fb_Ok T X post) {x : Int32} {off : Int} {tgt : Nat} (hd : T.2.1 pc = some (.ifCond .gt off, 3, nx, [tgt])) (kt : 0 < x → fb_AW T X tgt L S w) (kf : ¬ 0 < x → fb_AW T X nx L S w) : fb_AW T X pc L (.int x :: S) w := by
  intro ls H locs hl hP hS
  obtain ⟨hdg, rfl, ht⟩ := h.2.2.2.2.2.2 _ _ _ _ _ hd
  exact lv_if_gt h.1.1 h.1.2.1 hdg (List.cons.inj ht).1 (fun q => kt q ls H locs hl hP hS) (fun q => kf q ls H locs hl hP hS)
theorem fw_if_le (h : fb_Ok T X post) {x : Int32} {off : Int} {tgt : Nat} (hd : T.2.1 pc = some (.ifCond .le off, 3, nx, [tgt])) (kt : x ≤ 0 → fb_AW T X tgt L S w) (kf : ¬ x ≤ 0 → fb_AW T X nx L S w) : fb_AW T X pc L (.int x :: S) w := by
  intro ls H locs hl hP hS
  obtain ⟨hdg, rfl, ht⟩ := h.2.2.2.2.2.2 _ _ _ _ _ hd
  exact lv_if_le h.1.1 h.1.2.1 hdg (List.cons.inj ht).1 (fun q => kt q ls H locs hl hP hS) (fun q => kf q ls H locs hl hP hS)
theorem fw_icmp_eq (h : fb_Ok T X post) {x y : Int32} {off : Int} {tgt : Nat} (hd : T.2.1 pc = some (.if_icmp .eq off, 3, nx, [tgt])) (kt : x = y → fb_AW T X tgt L S w) (kf : ¬ x = y → fb_AW T X nx L S w) : fb_AW T X pc L (.int y :: .int x :: S) w := by
  intro ls H locs hl hP hS
  obtain ⟨hdg, rfl, ht⟩ := h.2.2.2.2.2.2 _ _ _ _ _ hd
  exact lv_icmp_eq h.1.1 h.1.2.1 hdg (List.cons.inj ht).1 (fun q => kt q ls H locs hl hP hS) (fun q => kf q ls H locs hl hP hS)
theorem fw_icmp_ne (h : fb_Ok T X post) {x y : Int32} {off : Int} {tgt : Nat} (hd : T.2.1 pc = some (.if_icmp .ne off, 3, nx, [tgt])) (kt : ¬ x = y → fb_AW T X tgt L S w) (kf : x = y → fb_AW T X nx L S w) : fb_AW T X pc L (.int y :: .int x :: S) w := by
  intro ls H locs hl hP hS
  obtain ⟨hdg, rfl, ht⟩ := h.2.2.2.2.2.2 _ _ _ _ _ hd
  exact lv_icmp_ne h.1.1 h.1.2.1 hdg (List.cons.inj ht).1 (fun q => kt q ls H locs hl hP hS) (fun q => kf q ls H locs hl hP hS)
theorem fw_icmp_lt (h : fb_Ok T X post) {x y : Int32} {off : Int} {tgt : Nat} (hd : T.2.1 pc = some (.if_icmp .lt off, 3, nx, [tgt])) (kt : x < y → fb_AW T X tgt L S w) (kf : ¬ x < y → fb_AW T X nx L S w) : fb_AW T X pc L (.int y :: .int x :: S) w := by
  intro ls H locs hl hP hS
  obtain ⟨hdg, rfl, ht⟩ := h.2.2.2.2.2.2 _ _ _ _ _ hd
  exact lv_icmp_lt h.1.1 h.1.2.1 hdg (List.cons.inj ht).1 (fun q => kt q ls H locs hl hP hS) (fun q => kf q ls H locs hl hP hS)
theorem fw_icmp_ge (h : fb_Ok T X post) {x y : Int32} {off : Int} {tgt : Nat} (hd : T.2.1 pc = some (.if_icmp .ge off, 3, nx, [tgt])) (kt : y ≤ x → fb_AW T X tgt L S w) (kf : ¬ y ≤ x → fb_AW T X nx L S w) : fb_AW T X pc L (.int y :: .int x :: S) w := by
  intro ls H locs hl hP hS
  obtain ⟨hdg, rfl, ht⟩ := h.2.2.2.2.2.2 _ _ _ _ _ hd
  exact lv_icmp_ge h.1.1 h.1.2.1 hdg (List.cons.inj ht).1 (fun q => kt q ls H locs hl hP hS) (fun q => kf q ls H locs hl hP hS)
theorem fw_icmp_gt (h : fb_Ok T X post) {x y : Int32} {off : Int} {tgt : Nat} (hd : T.2.1 pc = some (.if_icmp .gt off, 3, nx, [tgt])) (kt : y < x → fb_AW T X tgt L S w) (kf : ¬ y < x → fb_AW T X nx L S w) : fb_AW T X pc L (.int y :: .int x :: S) w := by
  intro ls H locs hl hP hS
  obtain ⟨hdg, rfl, ht⟩ := h.2.2.2.2.2.2 _ _ _ _ _ hd
  exact lv_icmp_gt h.1.1 h.1.2.1 hdg (List.cons.inj ht).1 (fun q => kt q ls H locs hl hP hS) (fun q => kf q ls H locs hl hP hS)
theorem fw_icmp_le (h : fb_Ok T X post) {x y : Int32} {off : Int} {tgt : Nat} (hd : T.2.1 pc = some (.if_icmp .le off, 3, nx, [tgt])) (kt : x ≤ y → fb_AW T X tgt L S w) (kf : ¬ x ≤ y → fb_AW T X nx L S w) : fb_AW T X pc L (.int y :: .int x :: S) w := by
  intro ls H locs hl hP hS
  obtain ⟨hdg, rfl, ht⟩ := h.2.2.2.2.2.2 _ _ _ _ _ hd
  exact lv_icmp_le h.1.1 h.1.2.1 hdg (List.cons.inj ht).1 (fun q => kt q ls H locs hl hP hS) (fun q => kf q ls H locs hl hP hS)
theorem fw_goto (h : fb_Ok T X post) {off : Int} {tgt : Nat} (hd : T.2.1 pc = some (.goto off, 3, nx, [tgt])) (k : fb_AW T X tgt L S w) : fb_AW T X pc L S w := by
  intro ls H locs hl hP hS
  obtain ⟨hdg, rfl, ht⟩ := h.2.2.2.2.2.2 _ _ _ _ _ hd
  exact lv_goto h.1.1 h.1.2.1 hdg (List.cons.inj ht).1 (k ls H locs hl hP hS)
theorem fw_switch (h : fb_Ok T X post) {x : Int32} {dflt lo hi : Int} {offs : Array Int} {n d : Nat} {ts : List Nat} (hd : T.2.1 pc = some (.tableswitch dflt lo hi offs, n, nx, d :: ts)) (hlen : offs.toList.length = (hi - lo + 1).toNat)
    (ki : ∀ (j t : Nat), x.toInt = lo + j → ts[j]? = some t → fb_AW T X t L S w) (ko : x.toInt < lo ∨ hi < x.toInt → fb_AW T X d L S w) : fb_AW T X pc L (.int x :: S) w := by
  intro ls H locs hl hP hS
  obtain ⟨hdg, rfl, ht⟩ := h.2.2.2.2.2.2 _ _ _ _ _ hd
  have ht0 := (List.cons.inj ht).1
  have ht1 : offs.toList.map (fun o => (pc : Int) + o) = ts.map (fun t : Nat => (t : Int)) := (List.cons.inj ht).2
  by_cases hc : x.toInt < lo ∨ hi < x.toInt
  · exact lv_tableOut h.1.1 h.1.2.1 hdg hc ht0 (ko hc ls H locs hl hP hS)
  · have h1 : ¬ x.toInt < lo := fun q => hc (Or.inl q)
    have h2 : ¬ hi < x.toInt := fun q => hc (Or.inr q)
    have hj : (x.toInt - lo).toNat < offs.toList.length := by rw [hlen]; omega
    have e1 : offs.toList[(x.toInt - lo).toNat]? = some offs.toList[(x.toInt - lo).toNat] := List.getElem?_eq_getElem hj
    have e2 := congrArg (fun l => l[(x.toInt - lo).toNat]?) ht1
    simp only [List.getElem?_map, e1, Option.map_some] at e2
    cases e3 : ts[(x.toInt - lo).toNat]? with
    | none => rw [e3] at e2; simp at e2
    | some t =>
      rw [e3] at e2
      refine lv_tableIn h.1.1 h.1.2.1 hdg h1 h2 (by rw [← Array.getElem?_toList]; exact e1) (Option.some.inj e2) (ki (x.toInt - lo).toNat t (by omega) e3 ls H locs hl hP hS)
theorem fw_ends (h : fb_Ok T X post) {r : Option Value} (hp : post r w) {H : Heap} {locs : List Loc} (hP : va_P X.2.2.2.1 fb_C (fb_cells X.2.2.2 w) H) (hS : va_S (fb_Adr X.2.2.2) X.1.2.2.2.2.heap H locs) (t : State) (ht : t.heap = H) : fb_Q X.2.2.2 post X.2.1.2.1 X.1.2.2.2.2 (.returned (r.map (fb_rv X.2.2.2.2.2.2))) t :=
  ⟨⟨r, w, rfl, hp, by rw [ht]; exact hP⟩, hS.F ht⟩
theorem fw_iret (h : fb_Ok T X post) {x : Int32} (hd : T.2.1 pc = some (.ireturn, 1, nx, tg)) (hr : T.2.2.2.2.1 = some .int) (hp : post (some (.int x)) w) : fb_AW T X pc L [.int x] w := by
  intro ls H locs hl hP hS
  obtain ⟨hdg, rfl, -⟩ := h.2.2.2.2.2.2 _ _ _ _ _ hd
  unfold fb_W
  rw [h.2.2.2.2.2.1]
  exact W.iret h.1.1 h.1.2.1 (h.2.1.trans hr) (fun t ht _ => fw_ends h hp hP hS t ht) hS.2.2 hdg h.2.2.1
theorem fw_zret (h : fb_Ok T X post) {x : Int32} (hd : T.2.1 pc = some (.ireturn, 1, nx, tg)) (hr : T.2.2.2.2.1 = some .boolean) (hx : x = 0 ∨ x = 1) (hp : post (some (.int x)) w) : fb_AW T X pc L [.int x] w := by
  intro ls H locs hl hP hS
  obtain ⟨hdg, rfl, -⟩ := h.2.2.2.2.2.2 _ _ _ _ _ hd
  unfold fb_W
  rw [h.2.2.2.2.2.1]
  exact W.zret h.1.1 h.1.2.1 (h.2.1.trans hr) (by rcases hx with rfl | rfl <;> decide) (fun t ht _ => fw_ends h hp hP hS t ht) hS.2.2 hdg h.2.2.1
theorem fw_lret (h : fb_Ok T X post) {x : Int64} (hd : T.2.1 pc = some (.lreturn, 1, nx, tg)) (hr : T.2.2.2.2.1 = some .long) (hp : post (some (.long x)) w) : fb_AW T X pc L [.long x] w := by
  intro ls H locs hl hP hS
  obtain ⟨hdg, rfl, -⟩ := h.2.2.2.2.2.2 _ _ _ _ _ hd
  unfold fb_W
  rw [h.2.2.2.2.2.1]
  exact W.lret h.1.1 h.1.2.1 (h.2.1.trans hr) (fun t ht _ => fw_ends h hp hP hS t ht) hS.2.2 hdg h.2.2.1
theorem fw_vret (h : fb_Ok T X post) (hd : T.2.1 pc = some (.return_, 1, nx, tg)) (hr : T.2.2.2.2.1 = none) (hp : post none w) : fb_AW T X pc L [] w := by
  intro ls H locs hl hP hS
  obtain ⟨hdg, rfl, -⟩ := h.2.2.2.2.2.2 _ _ _ _ _ hd
  unfold fb_W
  rw [h.2.2.2.2.2.1]
  exact W.vret h.1.1 h.1.2.1 (h.2.1.trans hr) (fun t ht _ => fw_ends h hp hP hS t ht) hS.2.2 hdg h.2.2.1
theorem fw_iald (h : fb_Ok T X post) {i : Int32} {c n : Nat} (hd : T.2.1 pc = some (.iaload, 1, nx, tg)) (hc : fb_S[c]? = some (.inl (false, n))) (hi : vp_in i n) (k : fb_AW T X nx L (.int (w.1 c i.toNatClampNeg) :: S) w) : fb_AW T X pc L (.int i :: .ref c :: S) w := by
  intro ls H locs hl hP hS
  obtain ⟨hdg, rfl, -⟩ := h.2.2.2.2.2.2 _ _ _ _ _ hd
  exact va_iald h.1.1 h.1.2.1 h.2.2.2.2.1.1 hP c 0 (fb_get hc) rfl hi hdg (k ls H locs hl hP hS)
theorem fw_zald (h : fb_Ok T X post) {i : Int32} {c n : Nat} (hd : T.2.1 pc = some (.baload, 1, nx, tg)) (hc : fb_S[c]? = some (.inl (true, n))) (hi : vp_in i n) (k : fb_AW T X nx L (.int (w.1 c i.toNatClampNeg) :: S) w) : fb_AW T X pc L (.int i :: .ref c :: S) w := by
  intro ls H locs hl hP hS
  obtain ⟨hdg, rfl, -⟩ := h.2.2.2.2.2.2 _ _ _ _ _ hd
  exact va_zald h.1.1 h.1.2.1 h.2.2.2.2.1.1 hP c 1 (fb_get hc) rfl hi hdg (k ls H locs hl hP hS)
theorem fw_iast (h : fb_Ok T X post) {i x : Int32} {c n : Nat} (hd : T.2.1 pc = some (.iastore, 1, nx, tg)) (hc : fb_S[c]? = some (.inl (false, n))) (hi : vp_in i n) (k : fb_AW T X nx L S (fb_up w c i.toNatClampNeg x)) : fb_AW T X pc L (.int x :: .int i :: .ref c :: S) w := by
  intro ls H locs hl hP hS
  obtain ⟨hdg, rfl, -⟩ := h.2.2.2.2.2.2 _ _ _ _ _ hd
  refine va_iast h.1.1 h.1.2.1 h.2.2.2.2.1.1 hP (fb_D h.2.2.2.2.1 w) hS c 0 (fb_get hc) rfl hi hdg (fun H1 locs1 hP1 _ hS1 => ?_)
  have e := fb_setA (E := X.2.2.2) (w := w) (upd (w.1 c) i.toNatClampNeg x) hc
  rw [fb_ua_up] at e
  exact k ls H1 locs1 hl (e ▸ hP1) hS1
theorem fw_zast (h : fb_Ok T X post) {i x : Int32} {c n : Nat} (hd : T.2.1 pc = some (.bastore, 1, nx, tg)) (hc : fb_S[c]? = some (.inl (true, n))) (hi : vp_in i n) (hx : x = 0 ∨ x = 1) (k : fb_AW T X nx L S (fb_up w c i.toNatClampNeg x)) : fb_AW T X pc L (.int x :: .int i :: .ref c :: S) w := by
  intro ls H locs hl hP hS
  obtain ⟨hdg, rfl, -⟩ := h.2.2.2.2.2.2 _ _ _ _ _ hd
  refine va_zast h.1.1 h.1.2.1 h.2.2.2.2.1.1 hP (fb_D h.2.2.2.2.1 w) hS c 1 (fb_get hc) rfl hi hdg (fun H1 locs1 hP1 _ hS1 => ?_)
  have e := fb_setA (E := X.2.2.2) (w := w) (upd (w.1 c) i.toNatClampNeg (vp_nar .boolean x)) hc
  have e3 : vp_nar .boolean x = x := by rcases hx with rfl | rfl <;> decide
  rw [e3, fb_ua_up] at e
  rw [e3] at hP1
  exact k ls H1 locs1 hl (e ▸ hP1) hS1
end FW
