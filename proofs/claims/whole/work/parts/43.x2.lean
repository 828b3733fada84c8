theorem fb_ofWF {l : Launch} {y : MethodName} {ws ws' : List Cond} {rm : Room} {Pc : Array Value → State → Prop} {Qc : Array Value → State → Outcome → State → Prop} {mc ms : Nat} {free : Addr → Prop} {cc : ByteArray} {maxL : Nat} {ret : Option FieldType} (hy : plainFor y = true) (hw : ws = Cond.code y cc maxL ret :: ws') (body : ∀ p e s m args below meth c s₁, BodyLoose p l y (headSpec ws rm) cc maxL ret e s m args below meth c s₁ → c.maxLocals = maxL → Pc args s → W p l e (headSpec ws rm).room s m args below meth c s.heap [] 0 0 (MQ below Qc args s mc ms free) (entryFrame m args maxL)) : Met l y ws rm Pc Qc mc ms free := by
  refine MetFree.of_bodySF (code := cc) (maxLocals := maxL) (ret := ret) hy ?_ ?_
  · intro args s m h hn
    obtain ⟨meth, c, h1, h2, h3, h4, h5, h6, -, -⟩ := Cond.code_spec hn (atoms_spec (ws := ws) h _ (by rw [hw]; exact List.mem_cons_self))
    exact ⟨meth, c, h1, h2, h3, h4, h5, h6⟩
  · intro p e s m args below meth c s₁ B hml hP _
    have hh0 : s₁.heap = s.heap := by rw [B.state]; rfl
    obtain ⟨t, a1, o, b1, b2, b3⟩ := body p e s m args below meth c s₁ B hml hP s₁ hh0 (Stand.of_body B)
    exact ⟨t, o, a1, b1, b2, ⟨b3.1, b3.2⟩⟩
theorem fb_introF {l : Launch} {T : fb_T} {av : List Value} {w : fb_Wd} {post : Option Value → fb_Wd → Prop} (n : Nat) (hT : fb_Tok T) (hy : plainFor T.1 = true) (hr : fb_room T av = true) (body : ∀ X : fb_Cx, X.1.2.1 = l → fb_Ok T X post → fb_AW T X 0 (fb_en av ++ List.replicate n none) [] w) : fb_Can l T av w post := by
  intro E
  refine fb_ofWF (cc := T.2.2.1) (maxL := T.2.2.2.1) (ret := T.2.2.2.2.1) hy rfl ?_
  intro p e s m args below meth c s₁ B hml hv
  obtain ⟨rfl, hP, hE⟩ := hv
  have hts := atoms_spec (ws := .code T.1 T.2.2.1 T.2.2.2.1 T.2.2.2.2.1 :: fb_gT) B.pre
  have hown : s.vm.findClass T.1.cls = some m.cls := findClass_of_methodNamed B.named
  have hok : fb_Ok T ((p, l, e, fb_rm T.2.2.2.2.2, s), (m, (av.map (fb_rv E.2.2.2)).toArray, below, meth, c), MQ below (fb_Q E post) (av.map (fb_rv E.2.2.2)).toArray s 0 0 (fb_Adr E), E) post :=
    ⟨⟨B.exec, B.bytes, hml, hown, fun w hw => hts w (List.mem_cons_of_mem _ hw)⟩, B.returns, B.notSynchronized, rfl, hE, rfl, hT⟩
  have hl := lv_entry (av.map (fb_rv E.2.2.2)) (n := T.2.2.2.1) (by rw [fb_sl_len]; exact Nat.le_of_ble_eq_true hr)
  rw [lg_entry_eq]
  have hb := body _ rfl hok
  have hl2 := fb_mono (l' := fb_asc E.2.2.2 0 (fb_en av ++ List.replicate n none)) hl (fun q hq => by
    obtain ⟨k, v, hk, rfl⟩ := (fb_asc_iff _ _ 0 q).mp hq
    exact fb_en_args E.2.2.2 av 0 _ ((fb_asc_iff _ _ 0 _).mpr ⟨k, v, fb_pad_rf _ n k v hk, rfl⟩))
  exact hb _ s.heap [] hl2 hP va_S.rf
theorem fn_imulc {T : fb_T} {X : fb_Cx} {post : Option Value → fb_Wd → Prop} {pc nx : Nat} {tg : List Nat} {L : List (Option Value)} {S : List Value} {w : fb_Wd} (h : fb_Ok T X post) {x y : Nat} (hd : T.2.1 pc = some (.imul, 1, nx, tg)) (k : fb_AW T X nx L (.int (nI (y * x)) :: S) w) : fb_AW T X pc L (.int (nI y) :: .int (nI x) :: S) w := fw_imul h hd (by rw [pk_mul, Nat.mul_comm]; exact k)
theorem fx_lt1024 {a : Int32} (h0 : 0 ≤ a) : a < nI 1024 ↔ a ≤ 1023 := by
  obtain ⟨j, hj, rfl⟩ := nI_of (Int32.not_lt.mpr h0)
  rw [show (1023 : Int32) = nI 1023 from rfl, nI_ltI hj (by decide), nI_leI hj (by decide)]
  omega
def fx_bo (x : Int32) : Int32 := if x < 0 then nI 0 else nI 1 <<< (x &&& 31)
theorem fx_bo_n {k : Nat} (h : k < 2 ^ 31) : fx_bo (nI k) = nI 1 <<< (nI k &&& 31) := if_neg (nI_pos h)
theorem fx_bo_9 : fx_bo (-9) = nI 0 := if_pos (by decide)
theorem c_X7_isBetween {l : Launch} {w : fb_Wd} {P : Int32 → fb_Wd → Prop} {a b c : Int32} (ht : b ≤ a → a ≤ c → P 1 w) (hf : ¬ (b ≤ a ∧ a ≤ c) → P 0 w) : fb_Can l tX7_isBetween [.int a, .int b, .int c] w (fb_kI P) := by
  refine fb_intro 0 fk_t_X7_isBetween (by decide) rfl (fun X hX h => ?_)
  subst hX
  change fb_AW tX7_isBetween X 0 [some (.int a), some (.int b), some (.int c)] [] w
  refine fw_iload_n h rfl rfl ?_
  refine fw_iload_n h rfl rfl ?_
  refine fw_icmp_lt h rfl (fun c2 => ?_) (fun c2 => ?_)
  · refine fw_iconst h (nI 0) rfl (by decide) ?_
    exact fw_zret h rfl rfl (by first | exact Or.inl rfl | exact Or.inr rfl | assumption) ⟨_, rfl, hf (fun q => by first | exact absurd c2 (Int32.not_lt.mpr q.1) | exact absurd c7 (Int32.not_lt.mpr q.2))⟩
  · refine fw_iload_n h rfl rfl ?_
    refine fw_iload_n h rfl rfl ?_
    refine fw_icmp_gt h rfl (fun c7 => ?_) (fun c7 => ?_)
    · refine fw_iconst h (nI 0) rfl (by decide) ?_
      exact fw_zret h rfl rfl (by first | exact Or.inl rfl | exact Or.inr rfl | assumption) ⟨_, rfl, hf (fun q => by first | exact absurd c2 (Int32.not_lt.mpr q.1) | exact absurd c7 (Int32.not_lt.mpr q.2))⟩
    · refine fw_iconst h (nI 1) rfl (by decide) ?_
      refine fw_goto h rfl ?_
      exact fw_zret h rfl rfl (by first | exact Or.inl rfl | exact Or.inr rfl | assumption) ⟨_, rfl, ht (Int32.not_lt.mp c2) (Int32.not_lt.mp c7)⟩
theorem e_X7_isBelow {l : Launch} {w : fb_Wd} {P : Int32 → fb_Wd → Prop} {a b : Int32} (ht : 0 ≤ a → a < b → P 1 w) (hf : ¬ (0 ≤ a ∧ a < b) → P 0 w) : fb_Can l tX7_isBelow [.int a, .int b] w (fb_kI P) := by
  refine fb_intro 0 fk_t_X7_isBelow (by decide) rfl (fun X hX h => ?_)
  subst hX
  change fb_AW tX7_isBelow X 0 [some (.int a), some (.int b)] [] w
  refine fw_iload_n h rfl rfl ?_
  refine fw_if_lt h rfl (fun c1 => ?_) (fun c1 => ?_)
  · refine fw_iconst h (nI 0) rfl (by decide) ?_
    exact fw_zret h rfl rfl (by first | exact Or.inl rfl | exact Or.inr rfl | assumption) ⟨_, rfl, hf (fun q => by first | exact absurd c1 (Int32.not_lt.mpr q.1) | exact absurd c6 (Int32.not_le.mpr q.2))⟩
  · refine fw_iload_n h rfl rfl ?_
    refine fw_iload_n h rfl rfl ?_
    refine fw_icmp_ge h rfl (fun c6 => ?_) (fun c6 => ?_)
    · refine fw_iconst h (nI 0) rfl (by decide) ?_
      exact fw_zret h rfl rfl (by first | exact Or.inl rfl | exact Or.inr rfl | assumption) ⟨_, rfl, hf (fun q => by first | exact absurd c1 (Int32.not_lt.mpr q.1) | exact absurd c6 (Int32.not_le.mpr q.2))⟩
    · refine fw_iconst h (nI 1) rfl (by decide) ?_
      refine fw_goto h rfl ?_
      exact fw_zret h rfl rfl (by first | exact Or.inl rfl | exact Or.inr rfl | assumption) ⟨_, rfl, ht (Int32.not_lt.mp c1) (Int32.not_le.mp c6)⟩
theorem c_X7_isBelow {l : Launch} {w : fb_Wd} {P : Int32 → fb_Wd → Prop} {a : Int32} {n : Nat} (hn : n < 2 ^ 31) (ht : ∀ j, j < n → a = nI j → P 1 w) (hf : ¬ (∃ j, j < n ∧ a = nI j) → P 0 w) : fb_Can l tX7_isBelow [.int a, .int (nI n)] w (fb_kI P) := by
  refine e_X7_isBelow (fun q1 q2 => ?_) (fun q => hf (fun z => q ((fg_is_ex hn).mpr z)))
  obtain ⟨j, hj, e⟩ := (fg_is_ex hn).mp ⟨q1, q2⟩
  exact ht j hj e
theorem c_X7_isYear {l : Launch} {w : fb_Wd} {P : Int32 → fb_Wd → Prop} {a : Int32} (ht : 1000 ≤ a → a ≤ 1900 → P 1 w) (hf : ¬ (1000 ≤ a ∧ a ≤ 1900) → P 0 w) : fb_Can l tX7_isYear [.int a] w (fb_kI P) := by
  refine fb_intro 0 fk_t_X7_isYear (by decide) rfl (fun X hX h => ?_)
  subst hX
  change fb_AW tX7_isYear X 0 [some (.int a)] [] w
  refine fw_iload_n h rfl rfl ?_
  refine fw_sipush h (nI 1000) rfl (by decide) ?_
  refine fw_sipush h (nI 1900) rfl (by decide) ?_
  refine fw_s3I h rfl fk_s_X7_isBetween fk_l_X7_122 rfl rfl ?_
  refine c_X7_isBetween (fun c7a c7b => ?_) (fun c7 => ?_)
  · exact fw_zret h rfl rfl (by first | exact Or.inl rfl | exact Or.inr rfl | assumption) ⟨_, rfl, by first | exact ht (by assumption) (by assumption) | exact hf (by assumption)⟩
  · exact fw_zret h rfl rfl (by first | exact Or.inl rfl | exact Or.inr rfl | assumption) ⟨_, rfl, by first | exact ht (by assumption) (by assumption) | exact hf (by assumption)⟩
theorem c_X7_areYears {l : Launch} {w : fb_Wd} {P : Int32 → fb_Wd → Prop} {a b : Int32} (ht : 1000 ≤ a → a ≤ 1900 → a ≤ b → b ≤ 1900 → P 1 w) (hf : ¬ (1000 ≤ a ∧ a ≤ 1900 ∧ a ≤ b ∧ b ≤ 1900) → P 0 w) : fb_Can l tX7_areYears [.int a, .int b] w (fb_kI P) := by
  refine fb_intro 0 fk_t_X7_areYears (by decide) rfl (fun X hX h => ?_)
  subst hX
  change fb_AW tX7_areYears X 0 [some (.int a), some (.int b)] [] w
  refine fw_iload_n h rfl rfl ?_
  refine fw_s1I h rfl fk_s_X7_isYear fk_l_X7_173 rfl rfl ?_
  refine c_X7_isYear (fun c1a c1b => ?_) (fun c1 => ?_)
  · refine fw_if_eq h rfl (fun c => absurd c (by decide)) (fun _ => ?_)
    refine fw_iload_n h rfl rfl ?_
    refine fw_s1I h rfl fk_s_X7_isYear fk_l_X7_173 rfl rfl ?_
    refine c_X7_isYear (fun c8a c8b => ?_) (fun c8 => ?_)
    · refine fw_if_eq h rfl (fun c => absurd c (by decide)) (fun _ => ?_)
      refine fw_iload_n h rfl rfl ?_
      refine fw_iload_n h rfl rfl ?_
      refine fw_icmp_gt h rfl (fun c16 => ?_) (fun c16 => ?_)
      · refine fw_iconst h (nI 0) rfl (by decide) ?_
        exact fw_zret h rfl rfl (by first | exact Or.inl rfl | exact Or.inr rfl | assumption) ⟨_, rfl, hf (fun q => by first | exact c1 ⟨q.1, q.2.1⟩ | exact c8 ⟨Int32.le_trans q.1 q.2.2.1, q.2.2.2⟩ | exact absurd c16 (Int32.not_lt.mpr q.2.2.1))⟩
      · refine fw_iconst h (nI 1) rfl (by decide) ?_
        refine fw_goto h rfl ?_
        exact fw_zret h rfl rfl (by first | exact Or.inl rfl | exact Or.inr rfl | assumption) ⟨_, rfl, ht c1a c1b (Int32.not_lt.mp c16) c8b⟩
    · refine fw_if_eq h rfl (fun _ => ?_) (fun c => absurd c (by decide))
      refine fw_iconst h (nI 0) rfl (by decide) ?_
      exact fw_zret h rfl rfl (by first | exact Or.inl rfl | exact Or.inr rfl | assumption) ⟨_, rfl, hf (fun q => by first | exact c1 ⟨q.1, q.2.1⟩ | exact c8 ⟨Int32.le_trans q.1 q.2.2.1, q.2.2.2⟩ | exact absurd c16 (Int32.not_lt.mpr q.2.2.1))⟩
  · refine fw_if_eq h rfl (fun _ => ?_) (fun c => absurd c (by decide))
    refine fw_iconst h (nI 0) rfl (by decide) ?_
    exact fw_zret h rfl rfl (by first | exact Or.inl rfl | exact Or.inr rfl | assumption) ⟨_, rfl, hf (fun q => by first | exact c1 ⟨q.1, q.2.1⟩ | exact c8 ⟨Int32.le_trans q.1 q.2.2.1, q.2.2.2⟩ | exact absurd c16 (Int32.not_lt.mpr q.2.2.1))⟩
theorem c_X7_isToldWorth {l : Launch} {w : fb_Wd} {P : Int32 → fb_Wd → Prop} {a : Int32} (ht : (a = -9 ∨ 0 ≤ a ∧ a ≤ 100000) → P 1 w) (hf : ¬ (a = -9 ∨ 0 ≤ a ∧ a ≤ 100000) → P 0 w) : fb_Can l tX7_isToldWorth [.int a] w (fb_kI P) := by
  refine fb_intro 0 fk_t_X7_isToldWorth (by decide) rfl (fun X hX h => ?_)
  subst hX
  change fb_AW tX7_isToldWorth X 0 [some (.int a)] [] w
  refine fw_iload_n h rfl rfl ?_
  refine fw_bipush h (-9) rfl (by decide) ?_
  refine fw_icmp_eq h rfl (fun c3 => ?_) (fun c3 => ?_)
  · refine fw_iconst h (nI 1) rfl (by decide) ?_
    refine fw_goto h rfl ?_
    exact fw_zret h rfl rfl (by first | exact Or.inl rfl | exact Or.inr rfl | assumption) ⟨_, rfl, by first | exact ht (Or.inl c3) | exact ht (Or.inr ⟨c11a, c11b⟩)⟩
  · refine fw_iload_n h rfl rfl ?_
    refine fw_iconst h (nI 0) rfl (by decide) ?_
    refine fw_ldcw h 100000 rfl (fb_mT 432 (by decide +kernel) (by decide +kernel)) ?_
    refine fw_s3I h rfl fk_s_X7_isBetween fk_l_X7_122 rfl rfl ?_
    refine c_X7_isBetween (fun c11a c11b => ?_) (fun c11 => ?_)
    · refine fw_if_eq h rfl (fun c => absurd c (by decide)) (fun _ => ?_)
      refine fw_iconst h (nI 1) rfl (by decide) ?_
      refine fw_goto h rfl ?_
      exact fw_zret h rfl rfl (by first | exact Or.inl rfl | exact Or.inr rfl | assumption) ⟨_, rfl, by first | exact ht (Or.inl c3) | exact ht (Or.inr ⟨c11a, c11b⟩)⟩
    · refine fw_if_eq h rfl (fun _ => ?_) (fun c => absurd c (by decide))
      refine fw_iconst h (nI 0) rfl (by decide) ?_
      exact fw_zret h rfl rfl (by first | exact Or.inl rfl | exact Or.inr rfl | assumption) ⟨_, rfl, hf (fun q => q.elim c3 c11)⟩
theorem c_X7_areSorts {l : Launch} {w : fb_Wd} {P : Int32 → fb_Wd → Prop} {a : Int32} (ht : 0 ≤ a → a ≤ 1023 → P 1 w) (hf : ¬ (0 ≤ a ∧ a ≤ 1023) → P 0 w) : fb_Can l tX7_areSorts [.int a] w (fb_kI P) := by
  refine fb_intro 0 fk_t_X7_areSorts (by decide) rfl (fun X hX h => ?_)
  subst hX
  change fb_AW tX7_areSorts X 0 [some (.int a)] [] w
  refine fw_iload_n h rfl rfl ?_
  refine fw_sipush h (nI 1024) rfl (by decide) ?_
  refine fw_s2I h rfl fk_s_X7_isBelow fk_l_X7_83 rfl rfl ?_
  refine e_X7_isBelow (fun c4a c4b => ?_) (fun c4 => ?_)
  · exact fw_zret h rfl rfl (by first | exact Or.inl rfl | exact Or.inr rfl | assumption) ⟨_, rfl, ht c4a ((fx_lt1024 c4a).mp c4b)⟩
  · exact fw_zret h rfl rfl (by first | exact Or.inl rfl | exact Or.inr rfl | assumption) ⟨_, rfl, hf (fun q => c4 ⟨q.1, (fx_lt1024 q.1).mpr q.2⟩)⟩
theorem c_X7_isLaw {l : Launch} {w : fb_Wd} {P : Int32 → fb_Wd → Prop} {a b : Int32} (ht : 0 ≤ a → a ≤ 3 → 0 ≤ b → b ≤ 1023 → P 1 w) (hf : ¬ (0 ≤ a ∧ a ≤ 3 ∧ 0 ≤ b ∧ b ≤ 1023) → P 0 w) : fb_Can l tX7_isLaw [.int a, .int b] w (fb_kI P) := by
  refine fb_intro 0 fk_t_X7_isLaw (by decide) rfl (fun X hX h => ?_)
  subst hX
  change fb_AW tX7_isLaw X 0 [some (.int a), some (.int b)] [] w
  refine fw_iload_n h rfl rfl ?_
  refine fw_iconst h (nI 0) rfl (by decide) ?_
  refine fw_iconst h (nI 3) rfl (by decide) ?_
  refine fw_s3I h rfl fk_s_X7_isBetween fk_l_X7_122 rfl rfl ?_
  refine c_X7_isBetween (fun c3a c3b => ?_) (fun c3 => ?_)
  · refine fw_if_eq h rfl (fun c => absurd c (by decide)) (fun _ => ?_)
    refine fw_iload_n h rfl rfl ?_
    refine fw_s1I h rfl fk_s_X7_areSorts fk_l_X7_314 rfl rfl ?_
    refine c_X7_areSorts (fun c10a c10b => ?_) (fun c10 => ?_)
    · refine fw_if_eq h rfl (fun c => absurd c (by decide)) (fun _ => ?_)
      refine fw_iconst h (nI 1) rfl (by decide) ?_
      refine fw_goto h rfl ?_
      exact fw_zret h rfl rfl (by first | exact Or.inl rfl | exact Or.inr rfl | assumption) ⟨_, rfl, ht c3a c3b c10a c10b⟩
    · refine fw_if_eq h rfl (fun _ => ?_) (fun c => absurd c (by decide))
      refine fw_iconst h (nI 0) rfl (by decide) ?_
      exact fw_zret h rfl rfl (by first | exact Or.inl rfl | exact Or.inr rfl | assumption) ⟨_, rfl, hf (fun q => by first | exact c3 ⟨q.1, q.2.1⟩ | exact c10 ⟨q.2.2.1, q.2.2.2⟩)⟩
  · refine fw_if_eq h rfl (fun _ => ?_) (fun c => absurd c (by decide))
    refine fw_iconst h (nI 0) rfl (by decide) ?_
    exact fw_zret h rfl rfl (by first | exact Or.inl rfl | exact Or.inr rfl | assumption) ⟨_, rfl, hf (fun q => by first | exact c3 ⟨q.1, q.2.1⟩ | exact c10 ⟨q.2.2.1, q.2.2.2⟩)⟩
theorem e_X7_isIn {l : Launch} {w : fb_Wd} {P : Int32 → fb_Wd → Prop} {s x : Int32} (ht : ¬ x < 0 → (s >>> (x &&& 31)) &&& 1 = 1 → P 1 w) (hf : ¬ (¬ x < 0 ∧ (s >>> (x &&& 31)) &&& 1 = 1) → P 0 w) : fb_Can l tX7_isIn [.int s, .int x] w (fb_kI P) := by
  refine fb_intro 0 fk_t_X7_isIn (by decide) rfl (fun X hX h => ?_)
  subst hX
  change fb_AW tX7_isIn X 0 [some (.int s), some (.int x)] [] w
  refine fw_iload_n h rfl rfl ?_
  refine fw_if_lt h rfl (fun c1 => ?_) (fun c1 => ?_)
  · refine fw_iconst h (nI 0) rfl (by decide) ?_
    exact fw_zret h rfl rfl (by first | exact Or.inl rfl | exact Or.inr rfl | assumption) ⟨_, rfl, hf (fun q => by first | exact q.1 c1 | exact c10 q.2)⟩
  · refine fw_iload_n h rfl rfl ?_
    refine fw_iload_n h rfl rfl ?_
    refine fw_ishr h rfl ?_
    refine fw_iconst h (nI 1) rfl (by decide) ?_
    refine fw_iand h rfl ?_
    refine fw_iconst h (nI 1) rfl (by decide) ?_
    refine fw_icmp_ne h rfl (fun c10 => ?_) (fun c10 => ?_)
    · refine fw_iconst h (nI 0) rfl (by decide) ?_
      exact fw_zret h rfl rfl (by first | exact Or.inl rfl | exact Or.inr rfl | assumption) ⟨_, rfl, hf (fun q => by first | exact q.1 c1 | exact c10 q.2)⟩
    · refine fw_iconst h (nI 1) rfl (by decide) ?_
      refine fw_goto h rfl ?_
      exact fw_zret h rfl rfl (by first | exact Or.inl rfl | exact Or.inr rfl | assumption) ⟨_, rfl, ht c1 c10⟩
theorem c_X7_isIn {l : Launch} {w : fb_Wd} {P : Int32 → fb_Wd → Prop} {s x : Int32} {k : Nat} (e : x = nI k) (hk : k < 32) (ht : bt s k = true → P 1 w) (hf : bt s k = false → P 0 w) : fb_Can l tX7_isIn [.int s, .int x] w (fb_kI P) := by
  subst e
  exact e_X7_isIn (fun _ q => ht ((fp_has hk).mp q)) (fun q => hf ((fp_hasn hk).mp (fun z => q ⟨nI_pos (by omega), z⟩)))
theorem c_X7_bitOf {l : Launch} {w : fb_Wd} {P : Int32 → fb_Wd → Prop} {x : Int32} (hp : P (fx_bo x) w) : fb_Can l tX7_bitOf [.int x] w (fb_kI P) := by
  refine fb_intro 0 fk_t_X7_bitOf (by decide) rfl (fun X hX h => ?_)
  subst hX
  change fb_AW tX7_bitOf X 0 [some (.int x)] [] w
  refine fw_iload_n h rfl rfl ?_
  refine fw_if_ge h rfl (fun c1 => ?_) (fun c1 => ?_)
  · refine fw_iconst h (nI 1) rfl (by decide) ?_
    refine fw_iload_n h rfl rfl ?_
    refine fw_ishl h rfl ?_
    exact fw_iret h rfl rfl ⟨_, rfl, by rw [show fx_bo x = nI 1 <<< (x &&& 31) from if_neg (Int32.not_lt.mpr c1)] at hp; exact hp⟩
  · refine fw_iconst h (nI 0) rfl (by decide) ?_
    refine fw_goto h rfl ?_
    exact fw_iret h rfl rfl ⟨_, rfl, by rw [show fx_bo x = nI 0 from if_pos (Int32.not_le.mp c1)] at hp; exact hp⟩
theorem c_X7_bitOfN {l : Launch} {w : fb_Wd} {P : Int32 → fb_Wd → Prop} {k : Nat} (hk : k < 2 ^ 31) (hp : P (nI 1 <<< (nI k &&& 31)) w) : fb_Can l tX7_bitOf [.int (nI k)] w (fb_kI P) := by
  refine c_X7_bitOf ?_
  rw [fx_bo_n hk]
  exact hp
theorem c_X7_mixed {l : Launch} {w : fb_Wd} {P : Int64 → fb_Wd → Prop} {h0 v : Int64} (hp : P (31 * h0 + v) w) : fb_Can l tX7_mixed [.long h0, .long v] w (fb_kL P) := by
  refine fb_intro 0 fk_t_X7_mixed (by decide) rfl (fun X hX h => ?_)
  subst hX
  change fb_AW tX7_mixed X 0 [some (.long h0), none, some (.long v), none] [] w
  refine fw_ldc2 h 31 rfl (fb_mT 805 (by decide +kernel) (by decide +kernel)) ?_
  refine fw_lload_n h rfl rfl ?_
  refine fw_lmul h rfl ?_
  refine fw_lload_n h rfl rfl ?_
  refine fw_ladd h rfl ?_
  exact fw_lret h rfl rfl ⟨_, rfl, hp⟩
theorem c_X7_found {l : Launch} {w : fb_Wd} {P : Int32 → fb_Wd → Prop} {f : Nat} (hf : f < 6) (hp : P (-3) (fb_up (fb_up w 0 9 (nI f)) 9 f (w.1 9 f + 1))) : fb_Can l tX7_found [.ref 0, .int (nI f)] w (fb_kI P) := by
  refine fb_intro 0 fk_t_X7_found (by decide) rfl (fun X hX h => ?_)
  subst hX
  change fb_AW tX7_found X 0 [some (.ref 0), some (.int (nI f))] [] w
  refine fw_aload_n h rfl rfl ?_
  refine fw_iload_n h rfl rfl ?_
  refine fw_putI h rfl fk_p_X7_69 rfl rfl ?_
  refine fw_aload_n h rfl rfl ?_
  refine fw_getR _ h rfl fk_g_X7_65 rfl rfl ?_
  refine fw_iload_n h rfl rfl ?_
  refine fw_dup2 h rfl rfl rfl ?_
  refine fn_iald h rfl rfl (by omega) rfl ?_
  refine fw_iconst h (nI 1) rfl (by decide) ?_
  first | refine fn_iadd h rfl ?_ | refine fw_iadd h rfl ?_
  refine fn_iast h rfl rfl (by omega) rfl ?_
  refine fw_bipush h (-3) rfl (by decide) ?_
  exact fw_iret h rfl rfl ⟨_, rfl, hp⟩
theorem c_X7_tell {l : Launch} {w : fb_Wd} {P : Int32 → fb_Wd → Prop} {v x : Int32} (hp : P x (fb_up w 0 10 v)) : fb_Can l tX7_tell [.ref 0, .int v, .int x] w (fb_kI P) := by
  refine fb_intro 0 fk_t_X7_tell (by decide) rfl (fun X hX h => ?_)
  subst hX
  change fb_AW tX7_tell X 0 [some (.ref 0), some (.int v), some (.int x)] [] w
  refine fw_aload_n h rfl rfl ?_
  refine fw_iload_n h rfl rfl ?_
  refine fw_putI h rfl fk_p_X7_73 rfl rfl ?_
  refine fw_iload_n h rfl rfl ?_
  exact fw_iret h rfl rfl ⟨_, rfl, hp⟩
theorem fx_lt20 {s : Int32} (h : fp_lt 20 s) : ∃ n, n < 2 ^ 20 ∧ s = nI n := by
  obtain ⟨n, hn, rfl⟩ := fx_of32 s
  refine ⟨n, ?_, rfl⟩
  apply Nat.lt_pow_two_of_testBit
  intro i hi
  rcases Nat.lt_or_ge i 32 with q | q
  · rw [← fx_bt q]; exact h i hi q
  · exact Nat.testBit_lt_two_pow (Nat.lt_of_lt_of_le hn (Nat.pow_le_pow_right (by decide) q))
theorem fx_f1_le (m x : Nat) : fx_f1 m x ≤ x := Nat.sub_le _ _
theorem fx_f2_le (m x : Nat) : fx_f2 m x ≤ x + x / 4 := by
  unfold fx_f2
  have h1 : x &&& m ≤ x := Nat.and_le_left
  have h2 : (x / 4) &&& m ≤ x / 4 := Nat.and_le_left
  omega
theorem fx_f3_le (m x : Nat) : fx_f3 m x ≤ x + x / 16 := Nat.and_le_left
theorem c_J6_bitCount_0f7a4 {l : Launch} {w : fb_Wd} {P : Int32 → fb_Wd → Prop} {s : Int32} (hlt : fp_lt 20 s) (hp : P (fp_bits s 20) w) : fb_Can l tJ6_bitCount_0f7a4 [.int s] w (fb_kI P) := by
  refine fb_introF 0 fk_t_J6_bitCount_0f7a4 (by decide +kernel) rfl (fun X hX h => ?_)
  subst hX
  change fb_AW tJ6_bitCount_0f7a4 X 0 [some (.int s)] [] w
  obtain ⟨n, hn, rfl⟩ := fx_lt20 hlt
  have hp : P (nI (fx_pc n)) w := by
    rw [fx_pc_eq hn, ← fp_cnt_cg (fun i hi => fx_bt (n := n) (i := i) (by omega)), ← fp_bits_c _ 20 (by decide)]
    exact hp
  unfold fx_pc at hp
  refine fw_iload_n h rfl rfl ?_
  refine fw_iload_n h rfl rfl ?_
  refine fw_iconst h (nI 1) rfl (by decide) ?_
  refine fw_iushr h rfl ?_
  rw [pk_ushrN (by omega) (nI 1) 1 (by decide)]
  refine fw_ldcw h 1431655765 rfl (fb_mT 534 (by decide +kernel) (by decide +kernel)) ?_
  refine fw_iand h rfl ?_
  rw [show (1431655765 : Int32) = nI 1431655765 from rfl, fx_an (by omega) (by decide)]
  refine fw_isub h rfl ?_
  rw [pk_sub (Nat.le_trans Nat.and_le_left (Nat.div_le_self _ _))]
  have k1 := fx_f1_le 1431655765 n
  change fb_AW _ _ _ _ (.int (nI (fx_f1 1431655765 n)) :: _) _
  generalize fx_f1 1431655765 n = n1 at *
  refine fw_istore_n h [_] rfl rfl rfl rfl ?_
  refine fw_iload_n h rfl rfl ?_
  refine fw_ldcw h 858993459 rfl (fb_mT 535 (by decide +kernel) (by decide +kernel)) ?_
  refine fw_iand h rfl ?_
  rw [show (858993459 : Int32) = nI 858993459 from rfl, fx_an (by omega) (by decide)]
  refine fw_iload_n h rfl rfl ?_
  refine fw_iconst h (nI 2) rfl (by decide) ?_
  refine fw_iushr h rfl ?_
  rw [pk_ushrN (by omega) (nI 2) 2 (by decide)]
  refine fw_ldcw h 858993459 rfl (fb_mT 535 (by decide +kernel) (by decide +kernel)) ?_
  refine fw_iand h rfl ?_
  rw [show (858993459 : Int32) = nI 858993459 from rfl, fx_an (by omega) (by decide)]
  first | refine fn_iadd h rfl ?_ | refine fw_iadd h rfl ?_
  have k2 := fx_f2_le 858993459 n1
  change fb_AW _ _ _ _ (.int (nI (fx_f2 858993459 n1)) :: _) _
  generalize fx_f2 858993459 n1 = n2 at *
  refine fw_istore_n h [_] rfl rfl rfl rfl ?_
  refine fw_iload_n h rfl rfl ?_
  refine fw_iload_n h rfl rfl ?_
  refine fw_iconst h (nI 4) rfl (by decide) ?_
  refine fw_iushr h rfl ?_
  rw [pk_ushrN (by omega) (nI 4) 4 (by decide)]
  first | refine fn_iadd h rfl ?_ | refine fw_iadd h rfl ?_
  refine fw_ldcw h 252645135 rfl (fb_mT 536 (by decide +kernel) (by decide +kernel)) ?_
  refine fw_iand h rfl ?_
  rw [show (252645135 : Int32) = nI 252645135 from rfl, fx_an (by omega) (by decide)]
  have k3 := fx_f3_le 252645135 n2
  change fb_AW _ _ _ _ (.int (nI (fx_f3 252645135 n2)) :: _) _
  generalize fx_f3 252645135 n2 = n3 at *
  refine fw_istore_n h [_] rfl rfl rfl rfl ?_
  refine fw_iload_n h rfl rfl ?_
  refine fw_iload_n h rfl rfl ?_
  refine fw_bipush h (nI 8) rfl (by decide) ?_
  refine fw_iushr h rfl ?_
  rw [pk_ushrN (by omega) (nI 8) 8 (by decide)]
  first | refine fn_iadd h rfl ?_ | refine fw_iadd h rfl ?_
  refine fw_istore_n h [_] rfl rfl rfl rfl ?_
  refine fw_iload_n h rfl rfl ?_
  refine fw_iload_n h rfl rfl ?_
  refine fw_bipush h (nI 16) rfl (by decide) ?_
  refine fw_iushr h rfl ?_
  rw [pk_ushrN (by omega) (nI 16) 16 (by decide)]
  first | refine fn_iadd h rfl ?_ | refine fw_iadd h rfl ?_
  refine fw_istore_n h [_] rfl rfl rfl rfl ?_
  refine fw_iload_n h rfl rfl ?_
  refine fw_bipush h (nI 63) rfl (by decide) ?_
  refine fw_iand h rfl ?_
  rw [pk_andN (by omega) 6 (by decide)]
  exact fw_iret h rfl rfl ⟨_, rfl, hp⟩
theorem c_X7_tellSet {l : Launch} {w : fb_Wd} {P : Int32 → fb_Wd → Prop} {s : Int32} (hlt : fp_lt 20 s) (hp : P (fp_bits s 20) (fb_up w 0 10 s)) : fb_Can l tX7_tellSet [.ref 0, .int s] w (fb_kI P) := by
  refine fb_intro 0 fk_t_X7_tellSet (by decide) rfl (fun X hX h => ?_)
  subst hX
  change fb_AW tX7_tellSet X 0 [some (.ref 0), some (.int s)] [] w
  refine fw_aload_n h rfl rfl ?_
  refine fw_iload_n h rfl rfl ?_
  refine fw_iload_n h rfl rfl ?_
  refine fw_s1I h rfl fk_s_J6_bitCount_0f7a4 fk_l_X7_384 rfl rfl ?_
  refine c_J6_bitCount_0f7a4 (by assumption) ?_
  refine fw_v2I h rfl fk_v_X7_tell fk_l_X7_111 rfl rfl rfl rfl ?_
  refine c_X7_tell ?_
  exact fw_iret h rfl rfl ⟨_, rfl, hp⟩
theorem c_J9_max_7cf53 {l : Launch} {w : fb_Wd} {P : Int32 → fb_Wd → Prop} {a b : Int32} (h1 : b ≤ a → P a w) (h2 : ¬ b ≤ a → P b w) : fb_Can l tJ9_max_7cf53 [.int a, .int b] w (fb_kI P) := by
  refine fb_introF 0 fk_t_J9_max_7cf53 (by decide +kernel) rfl (fun X hX h => ?_)
  subst hX
  change fb_AW tJ9_max_7cf53 X 0 [some (.int a), some (.int b)] [] w
  refine fw_iload_n h rfl rfl ?_
  refine fw_iload_n h rfl rfl ?_
  refine fw_icmp_lt h rfl (fun c2 => ?_) (fun c2 => ?_)
  · skip
    · refine fw_iload_n h rfl rfl ?_
      exact fw_iret h rfl rfl ⟨_, rfl, h2 (Int32.not_le.mpr c2)⟩
  · skip
    · refine fw_iload_n h rfl rfl ?_
      refine fw_goto h rfl ?_
      exact fw_iret h rfl rfl ⟨_, rfl, h1 (Int32.not_lt.mp c2)⟩
theorem c_ntz_0 {l : Launch} {w : fb_Wd} {P : Int32 → fb_Wd → Prop} {x : Int32} (hy : (x ^^^ -1) &&& (x - nI 1) = nI 0) (hp : P (nI 0) w) : fb_Can l tJ6_numberOfTrailingZeros_0f7a4 [.int x] w (fb_kI P) := by
  refine fb_introF 1 fk_t_J6_numberOfTrailingZeros_0f7a4 (by decide +kernel) rfl (fun X hX h => ?_)
  subst hX
  change fb_AW tJ6_numberOfTrailingZeros_0f7a4 X 0 [some (.int x), none] [] w
  refine fw_iload_n h rfl rfl ?_
  refine fw_iconst h (-1) rfl (by decide) ?_
  refine fw_ixor h rfl ?_
  refine fw_iload_n h rfl rfl ?_
  refine fw_iconst h (nI 1) rfl (by decide) ?_
  refine fw_isub h rfl ?_
  refine fw_iand h rfl ?_
  rw [hy]
  refine fw_istore_n h [_, _] rfl rfl rfl rfl ?_
  refine fw_iload_n h rfl rfl ?_
  refine fw_if_gt h rfl (fun c9 => False.elim (absurd c9 (by decide))) (fun c9 => ?_)
  refine fw_iload_n h rfl rfl ?_
  refine fw_bipush h (nI 32) rfl (by decide) ?_
  refine fw_iand h rfl ?_
  exact fw_iret h rfl rfl ⟨_, rfl, cast (congrArg (fun z => P z w) (show nI 0 = _ from by decide)) hp⟩
theorem c_ntz_1 {l : Launch} {w : fb_Wd} {P : Int32 → fb_Wd → Prop} {x : Int32} (hy : (x ^^^ -1) &&& (x - nI 1) = nI 1) (hp : P (nI 1) w) : fb_Can l tJ6_numberOfTrailingZeros_0f7a4 [.int x] w (fb_kI P) := by
  refine fb_introF 1 fk_t_J6_numberOfTrailingZeros_0f7a4 (by decide +kernel) rfl (fun X hX h => ?_)
  subst hX
  change fb_AW tJ6_numberOfTrailingZeros_0f7a4 X 0 [some (.int x), none] [] w
  refine fw_iload_n h rfl rfl ?_
  refine fw_iconst h (-1) rfl (by decide) ?_
  refine fw_ixor h rfl ?_
  refine fw_iload_n h rfl rfl ?_
  refine fw_iconst h (nI 1) rfl (by decide) ?_
  refine fw_isub h rfl ?_
  refine fw_iand h rfl ?_
  rw [hy]
  refine fw_istore_n h [_, _] rfl rfl rfl rfl ?_
  refine fw_iload_n h rfl rfl ?_
  refine fw_if_gt h rfl (fun c9 => ?_) (fun c9 => False.elim (c9 (by decide)))
  refine fw_iconst h (nI 1) rfl (by decide) ?_
  refine fw_istore_n h [_, _] rfl rfl rfl rfl ?_
  refine fw_iload_n h rfl rfl ?_
  refine fw_ldcw h 65536 rfl (fb_mT 504 (by decide +kernel) (by decide +kernel)) ?_
  refine fw_icmp_le h rfl (fun c23 => ?_) (fun c23 => False.elim (c23 (by decide)))
  refine fw_iload_n h rfl rfl ?_
  refine fw_sipush h (nI 256) rfl (by decide) ?_
  refine fw_icmp_le h rfl (fun c38 => ?_) (fun c38 => False.elim (c38 (by decide)))
  refine fw_iload_n h rfl rfl ?_
  refine fw_bipush h (nI 16) rfl (by decide) ?_
  refine fw_icmp_le h rfl (fun c52 => ?_) (fun c52 => False.elim (c52 (by decide)))
  refine fw_iload_n h rfl rfl ?_
  refine fw_iconst h (nI 4) rfl (by decide) ?_
  refine fw_icmp_le h rfl (fun c64 => ?_) (fun c64 => False.elim (c64 (by decide)))
  refine fw_iload_n h rfl rfl ?_
  refine fw_iload_n h rfl rfl ?_
  refine fw_iconst h (nI 1) rfl (by decide) ?_
  refine fw_iushr h rfl ?_
  first | refine fn_iadd h rfl ?_ | refine fw_iadd h rfl ?_
  exact fw_iret h rfl rfl ⟨_, rfl, cast (congrArg (fun z => P z w) (show nI 1 = _ from by decide)) hp⟩
theorem c_ntz_2 {l : Launch} {w : fb_Wd} {P : Int32 → fb_Wd → Prop} {x : Int32} (hy : (x ^^^ -1) &&& (x - nI 1) = nI 3) (hp : P (nI 2) w) : fb_Can l tJ6_numberOfTrailingZeros_0f7a4 [.int x] w (fb_kI P) := by
  refine fb_introF 1 fk_t_J6_numberOfTrailingZeros_0f7a4 (by decide +kernel) rfl (fun X hX h => ?_)
  subst hX
  change fb_AW tJ6_numberOfTrailingZeros_0f7a4 X 0 [some (.int x), none] [] w
  refine fw_iload_n h rfl rfl ?_
  refine fw_iconst h (-1) rfl (by decide) ?_
  refine fw_ixor h rfl ?_
  refine fw_iload_n h rfl rfl ?_
  refine fw_iconst h (nI 1) rfl (by decide) ?_
  refine fw_isub h rfl ?_
  refine fw_iand h rfl ?_
  rw [hy]
  refine fw_istore_n h [_, _] rfl rfl rfl rfl ?_
  refine fw_iload_n h rfl rfl ?_
  refine fw_if_gt h rfl (fun c9 => ?_) (fun c9 => False.elim (c9 (by decide)))
  refine fw_iconst h (nI 1) rfl (by decide) ?_
  refine fw_istore_n h [_, _] rfl rfl rfl rfl ?_
  refine fw_iload_n h rfl rfl ?_
  refine fw_ldcw h 65536 rfl (fb_mT 504 (by decide +kernel) (by decide +kernel)) ?_
  refine fw_icmp_le h rfl (fun c23 => ?_) (fun c23 => False.elim (c23 (by decide)))
  refine fw_iload_n h rfl rfl ?_
  refine fw_sipush h (nI 256) rfl (by decide) ?_
  refine fw_icmp_le h rfl (fun c38 => ?_) (fun c38 => False.elim (c38 (by decide)))
  refine fw_iload_n h rfl rfl ?_
  refine fw_bipush h (nI 16) rfl (by decide) ?_
  refine fw_icmp_le h rfl (fun c52 => ?_) (fun c52 => False.elim (c52 (by decide)))
  refine fw_iload_n h rfl rfl ?_
  refine fw_iconst h (nI 4) rfl (by decide) ?_
  refine fw_icmp_le h rfl (fun c64 => ?_) (fun c64 => False.elim (c64 (by decide)))
  refine fw_iload_n h rfl rfl ?_
  refine fw_iload_n h rfl rfl ?_
  refine fw_iconst h (nI 1) rfl (by decide) ?_
  refine fw_iushr h rfl ?_
  first | refine fn_iadd h rfl ?_ | refine fw_iadd h rfl ?_
  exact fw_iret h rfl rfl ⟨_, rfl, cast (congrArg (fun z => P z w) (show nI 2 = _ from by decide)) hp⟩
theorem c_ntz_3 {l : Launch} {w : fb_Wd} {P : Int32 → fb_Wd → Prop} {x : Int32} (hy : (x ^^^ -1) &&& (x - nI 1) = nI 7) (hp : P (nI 3) w) : fb_Can l tJ6_numberOfTrailingZeros_0f7a4 [.int x] w (fb_kI P) := by
  refine fb_introF 1 fk_t_J6_numberOfTrailingZeros_0f7a4 (by decide +kernel) rfl (fun X hX h => ?_)
  subst hX
  change fb_AW tJ6_numberOfTrailingZeros_0f7a4 X 0 [some (.int x), none] [] w
  refine fw_iload_n h rfl rfl ?_
  refine fw_iconst h (-1) rfl (by decide) ?_
  refine fw_ixor h rfl ?_
  refine fw_iload_n h rfl rfl ?_
  refine fw_iconst h (nI 1) rfl (by decide) ?_
  refine fw_isub h rfl ?_
  refine fw_iand h rfl ?_
  rw [hy]
  refine fw_istore_n h [_, _] rfl rfl rfl rfl ?_
  refine fw_iload_n h rfl rfl ?_
  refine fw_if_gt h rfl (fun c9 => ?_) (fun c9 => False.elim (c9 (by decide)))
  refine fw_iconst h (nI 1) rfl (by decide) ?_
  refine fw_istore_n h [_, _] rfl rfl rfl rfl ?_
  refine fw_iload_n h rfl rfl ?_
  refine fw_ldcw h 65536 rfl (fb_mT 504 (by decide +kernel) (by decide +kernel)) ?_
  refine fw_icmp_le h rfl (fun c23 => ?_) (fun c23 => False.elim (c23 (by decide)))
  refine fw_iload_n h rfl rfl ?_
  refine fw_sipush h (nI 256) rfl (by decide) ?_
  refine fw_icmp_le h rfl (fun c38 => ?_) (fun c38 => False.elim (c38 (by decide)))
  refine fw_iload_n h rfl rfl ?_
  refine fw_bipush h (nI 16) rfl (by decide) ?_
  refine fw_icmp_le h rfl (fun c52 => ?_) (fun c52 => False.elim (c52 (by decide)))
  refine fw_iload_n h rfl rfl ?_
  refine fw_iconst h (nI 4) rfl (by decide) ?_
  refine fw_icmp_le h rfl (fun c64 => False.elim (absurd c64 (by decide))) (fun c64 => ?_)
  refine fw_iinc h 2 [_, _] rfl (by decide) rfl rfl rfl rfl ?_
  refine fw_iload_n h rfl rfl ?_
  refine fw_iconst h (nI 2) rfl (by decide) ?_
  refine fw_iushr h rfl ?_
  refine fw_istore_n h [_, _] rfl rfl rfl rfl ?_
  refine fw_iload_n h rfl rfl ?_
  refine fw_iload_n h rfl rfl ?_
  refine fw_iconst h (nI 1) rfl (by decide) ?_
  refine fw_iushr h rfl ?_
  first | refine fn_iadd h rfl ?_ | refine fw_iadd h rfl ?_
  exact fw_iret h rfl rfl ⟨_, rfl, cast (congrArg (fun z => P z w) (show nI 3 = _ from by decide)) hp⟩
theorem c_ntz_4 {l : Launch} {w : fb_Wd} {P : Int32 → fb_Wd → Prop} {x : Int32} (hy : (x ^^^ -1) &&& (x - nI 1) = nI 15) (hp : P (nI 4) w) : fb_Can l tJ6_numberOfTrailingZeros_0f7a4 [.int x] w (fb_kI P) := by
  refine fb_introF 1 fk_t_J6_numberOfTrailingZeros_0f7a4 (by decide +kernel) rfl (fun X hX h => ?_)
  subst hX
  change fb_AW tJ6_numberOfTrailingZeros_0f7a4 X 0 [some (.int x), none] [] w
  refine fw_iload_n h rfl rfl ?_
  refine fw_iconst h (-1) rfl (by decide) ?_
  refine fw_ixor h rfl ?_
  refine fw_iload_n h rfl rfl ?_
  refine fw_iconst h (nI 1) rfl (by decide) ?_
  refine fw_isub h rfl ?_
  refine fw_iand h rfl ?_
  rw [hy]
  refine fw_istore_n h [_, _] rfl rfl rfl rfl ?_
  refine fw_iload_n h rfl rfl ?_
  refine fw_if_gt h rfl (fun c9 => ?_) (fun c9 => False.elim (c9 (by decide)))
  refine fw_iconst h (nI 1) rfl (by decide) ?_
  refine fw_istore_n h [_, _] rfl rfl rfl rfl ?_
  refine fw_iload_n h rfl rfl ?_
  refine fw_ldcw h 65536 rfl (fb_mT 504 (by decide +kernel) (by decide +kernel)) ?_
  refine fw_icmp_le h rfl (fun c23 => ?_) (fun c23 => False.elim (c23 (by decide)))
  refine fw_iload_n h rfl rfl ?_
  refine fw_sipush h (nI 256) rfl (by decide) ?_
  refine fw_icmp_le h rfl (fun c38 => ?_) (fun c38 => False.elim (c38 (by decide)))
  refine fw_iload_n h rfl rfl ?_
  refine fw_bipush h (nI 16) rfl (by decide) ?_
  refine fw_icmp_le h rfl (fun c52 => ?_) (fun c52 => False.elim (c52 (by decide)))
  refine fw_iload_n h rfl rfl ?_
  refine fw_iconst h (nI 4) rfl (by decide) ?_
  refine fw_icmp_le h rfl (fun c64 => False.elim (absurd c64 (by decide))) (fun c64 => ?_)
  refine fw_iinc h 2 [_, _] rfl (by decide) rfl rfl rfl rfl ?_
  refine fw_iload_n h rfl rfl ?_
  refine fw_iconst h (nI 2) rfl (by decide) ?_
  refine fw_iushr h rfl ?_
  refine fw_istore_n h [_, _] rfl rfl rfl rfl ?_
  refine fw_iload_n h rfl rfl ?_
  refine fw_iload_n h rfl rfl ?_
  refine fw_iconst h (nI 1) rfl (by decide) ?_
  refine fw_iushr h rfl ?_
  first | refine fn_iadd h rfl ?_ | refine fw_iadd h rfl ?_
  exact fw_iret h rfl rfl ⟨_, rfl, cast (congrArg (fun z => P z w) (show nI 4 = _ from by decide)) hp⟩
theorem c_ntz_5 {l : Launch} {w : fb_Wd} {P : Int32 → fb_Wd → Prop} {x : Int32} (hy : (x ^^^ -1) &&& (x - nI 1) = nI 31) (hp : P (nI 5) w) : fb_Can l tJ6_numberOfTrailingZeros_0f7a4 [.int x] w (fb_kI P) := by
  refine fb_introF 1 fk_t_J6_numberOfTrailingZeros_0f7a4 (by decide +kernel) rfl (fun X hX h => ?_)
  subst hX
  change fb_AW tJ6_numberOfTrailingZeros_0f7a4 X 0 [some (.int x), none] [] w
  refine fw_iload_n h rfl rfl ?_
  refine fw_iconst h (-1) rfl (by decide) ?_
  refine fw_ixor h rfl ?_
  refine fw_iload_n h rfl rfl ?_
  refine fw_iconst h (nI 1) rfl (by decide) ?_
  refine fw_isub h rfl ?_
  refine fw_iand h rfl ?_
  rw [hy]
  refine fw_istore_n h [_, _] rfl rfl rfl rfl ?_
  refine fw_iload_n h rfl rfl ?_
  refine fw_if_gt h rfl (fun c9 => ?_) (fun c9 => False.elim (c9 (by decide)))
  refine fw_iconst h (nI 1) rfl (by decide) ?_
  refine fw_istore_n h [_, _] rfl rfl rfl rfl ?_
  refine fw_iload_n h rfl rfl ?_
  refine fw_ldcw h 65536 rfl (fb_mT 504 (by decide +kernel) (by decide +kernel)) ?_
  refine fw_icmp_le h rfl (fun c23 => ?_) (fun c23 => False.elim (c23 (by decide)))
  refine fw_iload_n h rfl rfl ?_
  refine fw_sipush h (nI 256) rfl (by decide) ?_
  refine fw_icmp_le h rfl (fun c38 => ?_) (fun c38 => False.elim (c38 (by decide)))
  refine fw_iload_n h rfl rfl ?_
  refine fw_bipush h (nI 16) rfl (by decide) ?_
  refine fw_icmp_le h rfl (fun c52 => False.elim (absurd c52 (by decide))) (fun c52 => ?_)
  refine fw_iinc h 4 [_, _] rfl (by decide) rfl rfl rfl rfl ?_
  refine fw_iload_n h rfl rfl ?_
  refine fw_iconst h (nI 4) rfl (by decide) ?_
  refine fw_iushr h rfl ?_
  refine fw_istore_n h [_, _] rfl rfl rfl rfl ?_
  refine fw_iload_n h rfl rfl ?_
  refine fw_iconst h (nI 4) rfl (by decide) ?_
  refine fw_icmp_le h rfl (fun c64 => ?_) (fun c64 => False.elim (c64 (by decide)))
  refine fw_iload_n h rfl rfl ?_
  refine fw_iload_n h rfl rfl ?_
  refine fw_iconst h (nI 1) rfl (by decide) ?_
  refine fw_iushr h rfl ?_
  first | refine fn_iadd h rfl ?_ | refine fw_iadd h rfl ?_
  exact fw_iret h rfl rfl ⟨_, rfl, cast (congrArg (fun z => P z w) (show nI 5 = _ from by decide)) hp⟩
theorem c_ntz_6 {l : Launch} {w : fb_Wd} {P : Int32 → fb_Wd → Prop} {x : Int32} (hy : (x ^^^ -1) &&& (x - nI 1) = nI 63) (hp : P (nI 6) w) : fb_Can l tJ6_numberOfTrailingZeros_0f7a4 [.int x] w (fb_kI P) := by
  refine fb_introF 1 fk_t_J6_numberOfTrailingZeros_0f7a4 (by decide +kernel) rfl (fun X hX h => ?_)
  subst hX
  change fb_AW tJ6_numberOfTrailingZeros_0f7a4 X 0 [some (.int x), none] [] w
  refine fw_iload_n h rfl rfl ?_
  refine fw_iconst h (-1) rfl (by decide) ?_
  refine fw_ixor h rfl ?_
  refine fw_iload_n h rfl rfl ?_
  refine fw_iconst h (nI 1) rfl (by decide) ?_
  refine fw_isub h rfl ?_
  refine fw_iand h rfl ?_
  rw [hy]
  refine fw_istore_n h [_, _] rfl rfl rfl rfl ?_
  refine fw_iload_n h rfl rfl ?_
  refine fw_if_gt h rfl (fun c9 => ?_) (fun c9 => False.elim (c9 (by decide)))
  refine fw_iconst h (nI 1) rfl (by decide) ?_
  refine fw_istore_n h [_, _] rfl rfl rfl rfl ?_
  refine fw_iload_n h rfl rfl ?_
  refine fw_ldcw h 65536 rfl (fb_mT 504 (by decide +kernel) (by decide +kernel)) ?_
  refine fw_icmp_le h rfl (fun c23 => ?_) (fun c23 => False.elim (c23 (by decide)))
  refine fw_iload_n h rfl rfl ?_
  refine fw_sipush h (nI 256) rfl (by decide) ?_
  refine fw_icmp_le h rfl (fun c38 => ?_) (fun c38 => False.elim (c38 (by decide)))
  refine fw_iload_n h rfl rfl ?_
  refine fw_bipush h (nI 16) rfl (by decide) ?_
  refine fw_icmp_le h rfl (fun c52 => False.elim (absurd c52 (by decide))) (fun c52 => ?_)
  refine fw_iinc h 4 [_, _] rfl (by decide) rfl rfl rfl rfl ?_
  refine fw_iload_n h rfl rfl ?_
  refine fw_iconst h (nI 4) rfl (by decide) ?_
  refine fw_iushr h rfl ?_
  refine fw_istore_n h [_, _] rfl rfl rfl rfl ?_
  refine fw_iload_n h rfl rfl ?_
  refine fw_iconst h (nI 4) rfl (by decide) ?_
  refine fw_icmp_le h rfl (fun c64 => ?_) (fun c64 => False.elim (c64 (by decide)))
  refine fw_iload_n h rfl rfl ?_
  refine fw_iload_n h rfl rfl ?_
  refine fw_iconst h (nI 1) rfl (by decide) ?_
  refine fw_iushr h rfl ?_
  first | refine fn_iadd h rfl ?_ | refine fw_iadd h rfl ?_
  exact fw_iret h rfl rfl ⟨_, rfl, cast (congrArg (fun z => P z w) (show nI 6 = _ from by decide)) hp⟩
theorem c_ntz_7 {l : Launch} {w : fb_Wd} {P : Int32 → fb_Wd → Prop} {x : Int32} (hy : (x ^^^ -1) &&& (x - nI 1) = nI 127) (hp : P (nI 7) w) : fb_Can l tJ6_numberOfTrailingZeros_0f7a4 [.int x] w (fb_kI P) := by
  refine fb_introF 1 fk_t_J6_numberOfTrailingZeros_0f7a4 (by decide +kernel) rfl (fun X hX h => ?_)
  subst hX
  change fb_AW tJ6_numberOfTrailingZeros_0f7a4 X 0 [some (.int x), none] [] w
  refine fw_iload_n h rfl rfl ?_
  refine fw_iconst h (-1) rfl (by decide) ?_
  refine fw_ixor h rfl ?_
  refine fw_iload_n h rfl rfl ?_
  refine fw_iconst h (nI 1) rfl (by decide) ?_
  refine fw_isub h rfl ?_
  refine fw_iand h rfl ?_
  rw [hy]
  refine fw_istore_n h [_, _] rfl rfl rfl rfl ?_
  refine fw_iload_n h rfl rfl ?_
  refine fw_if_gt h rfl (fun c9 => ?_) (fun c9 => False.elim (c9 (by decide)))
  refine fw_iconst h (nI 1) rfl (by decide) ?_
  refine fw_istore_n h [_, _] rfl rfl rfl rfl ?_
  refine fw_iload_n h rfl rfl ?_
  refine fw_ldcw h 65536 rfl (fb_mT 504 (by decide +kernel) (by decide +kernel)) ?_
  refine fw_icmp_le h rfl (fun c23 => ?_) (fun c23 => False.elim (c23 (by decide)))
  refine fw_iload_n h rfl rfl ?_
  refine fw_sipush h (nI 256) rfl (by decide) ?_
  refine fw_icmp_le h rfl (fun c38 => ?_) (fun c38 => False.elim (c38 (by decide)))
  refine fw_iload_n h rfl rfl ?_
  refine fw_bipush h (nI 16) rfl (by decide) ?_
  refine fw_icmp_le h rfl (fun c52 => False.elim (absurd c52 (by decide))) (fun c52 => ?_)
  refine fw_iinc h 4 [_, _] rfl (by decide) rfl rfl rfl rfl ?_
  refine fw_iload_n h rfl rfl ?_
  refine fw_iconst h (nI 4) rfl (by decide) ?_
  refine fw_iushr h rfl ?_
  refine fw_istore_n h [_, _] rfl rfl rfl rfl ?_
  refine fw_iload_n h rfl rfl ?_
  refine fw_iconst h (nI 4) rfl (by decide) ?_
  refine fw_icmp_le h rfl (fun c64 => False.elim (absurd c64 (by decide))) (fun c64 => ?_)
  refine fw_iinc h 2 [_, _] rfl (by decide) rfl rfl rfl rfl ?_
  refine fw_iload_n h rfl rfl ?_
  refine fw_iconst h (nI 2) rfl (by decide) ?_
  refine fw_iushr h rfl ?_
  refine fw_istore_n h [_, _] rfl rfl rfl rfl ?_
  refine fw_iload_n h rfl rfl ?_
  refine fw_iload_n h rfl rfl ?_
  refine fw_iconst h (nI 1) rfl (by decide) ?_
  refine fw_iushr h rfl ?_
  first | refine fn_iadd h rfl ?_ | refine fw_iadd h rfl ?_
  exact fw_iret h rfl rfl ⟨_, rfl, cast (congrArg (fun z => P z w) (show nI 7 = _ from by decide)) hp⟩
theorem c_ntz_8 {l : Launch} {w : fb_Wd} {P : Int32 → fb_Wd → Prop} {x : Int32} (hy : (x ^^^ -1) &&& (x - nI 1) = nI 255) (hp : P (nI 8) w) : fb_Can l tJ6_numberOfTrailingZeros_0f7a4 [.int x] w (fb_kI P) := by
  refine fb_introF 1 fk_t_J6_numberOfTrailingZeros_0f7a4 (by decide +kernel) rfl (fun X hX h => ?_)
  subst hX
  change fb_AW tJ6_numberOfTrailingZeros_0f7a4 X 0 [some (.int x), none] [] w
  refine fw_iload_n h rfl rfl ?_
  refine fw_iconst h (-1) rfl (by decide) ?_
  refine fw_ixor h rfl ?_
  refine fw_iload_n h rfl rfl ?_
  refine fw_iconst h (nI 1) rfl (by decide) ?_
  refine fw_isub h rfl ?_
  refine fw_iand h rfl ?_
  rw [hy]
  refine fw_istore_n h [_, _] rfl rfl rfl rfl ?_
  refine fw_iload_n h rfl rfl ?_
  refine fw_if_gt h rfl (fun c9 => ?_) (fun c9 => False.elim (c9 (by decide)))
  refine fw_iconst h (nI 1) rfl (by decide) ?_
  refine fw_istore_n h [_, _] rfl rfl rfl rfl ?_
  refine fw_iload_n h rfl rfl ?_
  refine fw_ldcw h 65536 rfl (fb_mT 504 (by decide +kernel) (by decide +kernel)) ?_
  refine fw_icmp_le h rfl (fun c23 => ?_) (fun c23 => False.elim (c23 (by decide)))
  refine fw_iload_n h rfl rfl ?_
  refine fw_sipush h (nI 256) rfl (by decide) ?_
  refine fw_icmp_le h rfl (fun c38 => ?_) (fun c38 => False.elim (c38 (by decide)))
  refine fw_iload_n h rfl rfl ?_
  refine fw_bipush h (nI 16) rfl (by decide) ?_
  refine fw_icmp_le h rfl (fun c52 => False.elim (absurd c52 (by decide))) (fun c52 => ?_)
  refine fw_iinc h 4 [_, _] rfl (by decide) rfl rfl rfl rfl ?_
  refine fw_iload_n h rfl rfl ?_
  refine fw_iconst h (nI 4) rfl (by decide) ?_
  refine fw_iushr h rfl ?_
  refine fw_istore_n h [_, _] rfl rfl rfl rfl ?_
  refine fw_iload_n h rfl rfl ?_
  refine fw_iconst h (nI 4) rfl (by decide) ?_
  refine fw_icmp_le h rfl (fun c64 => False.elim (absurd c64 (by decide))) (fun c64 => ?_)
  refine fw_iinc h 2 [_, _] rfl (by decide) rfl rfl rfl rfl ?_
  refine fw_iload_n h rfl rfl ?_
  refine fw_iconst h (nI 2) rfl (by decide) ?_
  refine fw_iushr h rfl ?_
  refine fw_istore_n h [_, _] rfl rfl rfl rfl ?_
  refine fw_iload_n h rfl rfl ?_
  refine fw_iload_n h rfl rfl ?_
  refine fw_iconst h (nI 1) rfl (by decide) ?_
  refine fw_iushr h rfl ?_
  first | refine fn_iadd h rfl ?_ | refine fw_iadd h rfl ?_
  exact fw_iret h rfl rfl ⟨_, rfl, cast (congrArg (fun z => P z w) (show nI 8 = _ from by decide)) hp⟩
theorem c_ntz_9 {l : Launch} {w : fb_Wd} {P : Int32 → fb_Wd → Prop} {x : Int32} (hy : (x ^^^ -1) &&& (x - nI 1) = nI 511) (hp : P (nI 9) w) : fb_Can l tJ6_numberOfTrailingZeros_0f7a4 [.int x] w (fb_kI P) := by
  refine fb_introF 1 fk_t_J6_numberOfTrailingZeros_0f7a4 (by decide +kernel) rfl (fun X hX h => ?_)
  subst hX
  change fb_AW tJ6_numberOfTrailingZeros_0f7a4 X 0 [some (.int x), none] [] w
  refine fw_iload_n h rfl rfl ?_
  refine fw_iconst h (-1) rfl (by decide) ?_
  refine fw_ixor h rfl ?_
  refine fw_iload_n h rfl rfl ?_
  refine fw_iconst h (nI 1) rfl (by decide) ?_
  refine fw_isub h rfl ?_
  refine fw_iand h rfl ?_
  rw [hy]
  refine fw_istore_n h [_, _] rfl rfl rfl rfl ?_
  refine fw_iload_n h rfl rfl ?_
  refine fw_if_gt h rfl (fun c9 => ?_) (fun c9 => False.elim (c9 (by decide)))
  refine fw_iconst h (nI 1) rfl (by decide) ?_
  refine fw_istore_n h [_, _] rfl rfl rfl rfl ?_
  refine fw_iload_n h rfl rfl ?_
  refine fw_ldcw h 65536 rfl (fb_mT 504 (by decide +kernel) (by decide +kernel)) ?_
  refine fw_icmp_le h rfl (fun c23 => ?_) (fun c23 => False.elim (c23 (by decide)))
  refine fw_iload_n h rfl rfl ?_
  refine fw_sipush h (nI 256) rfl (by decide) ?_
  refine fw_icmp_le h rfl (fun c38 => False.elim (absurd c38 (by decide))) (fun c38 => ?_)
  refine fw_iinc h 8 [_, _] rfl (by decide) rfl rfl rfl rfl ?_
  refine fw_iload_n h rfl rfl ?_
  refine fw_bipush h (nI 8) rfl (by decide) ?_
  refine fw_iushr h rfl ?_
  refine fw_istore_n h [_, _] rfl rfl rfl rfl ?_
  refine fw_iload_n h rfl rfl ?_
  refine fw_bipush h (nI 16) rfl (by decide) ?_
  refine fw_icmp_le h rfl (fun c52 => ?_) (fun c52 => False.elim (c52 (by decide)))
  refine fw_iload_n h rfl rfl ?_
  refine fw_iconst h (nI 4) rfl (by decide) ?_
  refine fw_icmp_le h rfl (fun c64 => ?_) (fun c64 => False.elim (c64 (by decide)))
  refine fw_iload_n h rfl rfl ?_
  refine fw_iload_n h rfl rfl ?_
  refine fw_iconst h (nI 1) rfl (by decide) ?_
  refine fw_iushr h rfl ?_
  first | refine fn_iadd h rfl ?_ | refine fw_iadd h rfl ?_
  exact fw_iret h rfl rfl ⟨_, rfl, cast (congrArg (fun z => P z w) (show nI 9 = _ from by decide)) hp⟩
theorem c_ntz_10 {l : Launch} {w : fb_Wd} {P : Int32 → fb_Wd → Prop} {x : Int32} (hy : (x ^^^ -1) &&& (x - nI 1) = nI 1023) (hp : P (nI 10) w) : fb_Can l tJ6_numberOfTrailingZeros_0f7a4 [.int x] w (fb_kI P) := by
  refine fb_introF 1 fk_t_J6_numberOfTrailingZeros_0f7a4 (by decide +kernel) rfl (fun X hX h => ?_)
  subst hX
  change fb_AW tJ6_numberOfTrailingZeros_0f7a4 X 0 [some (.int x), none] [] w
  refine fw_iload_n h rfl rfl ?_
  refine fw_iconst h (-1) rfl (by decide) ?_
  refine fw_ixor h rfl ?_
  refine fw_iload_n h rfl rfl ?_
  refine fw_iconst h (nI 1) rfl (by decide) ?_
  refine fw_isub h rfl ?_
  refine fw_iand h rfl ?_
  rw [hy]
  refine fw_istore_n h [_, _] rfl rfl rfl rfl ?_
  refine fw_iload_n h rfl rfl ?_
  refine fw_if_gt h rfl (fun c9 => ?_) (fun c9 => False.elim (c9 (by decide)))
  refine fw_iconst h (nI 1) rfl (by decide) ?_
  refine fw_istore_n h [_, _] rfl rfl rfl rfl ?_
  refine fw_iload_n h rfl rfl ?_
  refine fw_ldcw h 65536 rfl (fb_mT 504 (by decide +kernel) (by decide +kernel)) ?_
  refine fw_icmp_le h rfl (fun c23 => ?_) (fun c23 => False.elim (c23 (by decide)))
  refine fw_iload_n h rfl rfl ?_
  refine fw_sipush h (nI 256) rfl (by decide) ?_
  refine fw_icmp_le h rfl (fun c38 => False.elim (absurd c38 (by decide))) (fun c38 => ?_)
  refine fw_iinc h 8 [_, _] rfl (by decide) rfl rfl rfl rfl ?_
  refine fw_iload_n h rfl rfl ?_
  refine fw_bipush h (nI 8) rfl (by decide) ?_
  refine fw_iushr h rfl ?_
  refine fw_istore_n h [_, _] rfl rfl rfl rfl ?_
  refine fw_iload_n h rfl rfl ?_
  refine fw_bipush h (nI 16) rfl (by decide) ?_
  refine fw_icmp_le h rfl (fun c52 => ?_) (fun c52 => False.elim (c52 (by decide)))
  refine fw_iload_n h rfl rfl ?_
  refine fw_iconst h (nI 4) rfl (by decide) ?_
  refine fw_icmp_le h rfl (fun c64 => ?_) (fun c64 => False.elim (c64 (by decide)))
  refine fw_iload_n h rfl rfl ?_
  refine fw_iload_n h rfl rfl ?_
  refine fw_iconst h (nI 1) rfl (by decide) ?_
  refine fw_iushr h rfl ?_
  first | refine fn_iadd h rfl ?_ | refine fw_iadd h rfl ?_
  exact fw_iret h rfl rfl ⟨_, rfl, cast (congrArg (fun z => P z w) (show nI 10 = _ from by decide)) hp⟩
theorem c_ntz_11 {l : Launch} {w : fb_Wd} {P : Int32 → fb_Wd → Prop} {x : Int32} (hy : (x ^^^ -1) &&& (x - nI 1) = nI 2047) (hp : P (nI 11) w) : fb_Can l tJ6_numberOfTrailingZeros_0f7a4 [.int x] w (fb_kI P) := by
  refine fb_introF 1 fk_t_J6_numberOfTrailingZeros_0f7a4 (by decide +kernel) rfl (fun X hX h => ?_)
  subst hX
  change fb_AW tJ6_numberOfTrailingZeros_0f7a4 X 0 [some (.int x), none] [] w
  refine fw_iload_n h rfl rfl ?_
  refine fw_iconst h (-1) rfl (by decide) ?_
  refine fw_ixor h rfl ?_
  refine fw_iload_n h rfl rfl ?_
  refine fw_iconst h (nI 1) rfl (by decide) ?_
  refine fw_isub h rfl ?_
  refine fw_iand h rfl ?_
  rw [hy]
  refine fw_istore_n h [_, _] rfl rfl rfl rfl ?_
  refine fw_iload_n h rfl rfl ?_
  refine fw_if_gt h rfl (fun c9 => ?_) (fun c9 => False.elim (c9 (by decide)))
  refine fw_iconst h (nI 1) rfl (by decide) ?_
  refine fw_istore_n h [_, _] rfl rfl rfl rfl ?_
  refine fw_iload_n h rfl rfl ?_
  refine fw_ldcw h 65536 rfl (fb_mT 504 (by decide +kernel) (by decide +kernel)) ?_
  refine fw_icmp_le h rfl (fun c23 => ?_) (fun c23 => False.elim (c23 (by decide)))
  refine fw_iload_n h rfl rfl ?_
  refine fw_sipush h (nI 256) rfl (by decide) ?_
  refine fw_icmp_le h rfl (fun c38 => False.elim (absurd c38 (by decide))) (fun c38 => ?_)
  refine fw_iinc h 8 [_, _] rfl (by decide) rfl rfl rfl rfl ?_
  refine fw_iload_n h rfl rfl ?_
  refine fw_bipush h (nI 8) rfl (by decide) ?_
  refine fw_iushr h rfl ?_
  refine fw_istore_n h [_, _] rfl rfl rfl rfl ?_
  refine fw_iload_n h rfl rfl ?_
  refine fw_bipush h (nI 16) rfl (by decide) ?_
  refine fw_icmp_le h rfl (fun c52 => ?_) (fun c52 => False.elim (c52 (by decide)))
  refine fw_iload_n h rfl rfl ?_
  refine fw_iconst h (nI 4) rfl (by decide) ?_
  refine fw_icmp_le h rfl (fun c64 => False.elim (absurd c64 (by decide))) (fun c64 => ?_)
  refine fw_iinc h 2 [_, _] rfl (by decide) rfl rfl rfl rfl ?_
  refine fw_iload_n h rfl rfl ?_
  refine fw_iconst h (nI 2) rfl (by decide) ?_
  refine fw_iushr h rfl ?_
  refine fw_istore_n h [_, _] rfl rfl rfl rfl ?_
  refine fw_iload_n h rfl rfl ?_
  refine fw_iload_n h rfl rfl ?_
  refine fw_iconst h (nI 1) rfl (by decide) ?_
  refine fw_iushr h rfl ?_
  first | refine fn_iadd h rfl ?_ | refine fw_iadd h rfl ?_
  exact fw_iret h rfl rfl ⟨_, rfl, cast (congrArg (fun z => P z w) (show nI 11 = _ from by decide)) hp⟩
theorem c_ntz_12 {l : Launch} {w : fb_Wd} {P : Int32 → fb_Wd → Prop} {x : Int32} (hy : (x ^^^ -1) &&& (x - nI 1) = nI 4095) (hp : P (nI 12) w) : fb_Can l tJ6_numberOfTrailingZeros_0f7a4 [.int x] w (fb_kI P) := by
  refine fb_introF 1 fk_t_J6_numberOfTrailingZeros_0f7a4 (by decide +kernel) rfl (fun X hX h => ?_)
  subst hX
  change fb_AW tJ6_numberOfTrailingZeros_0f7a4 X 0 [some (.int x), none] [] w
  refine fw_iload_n h rfl rfl ?_
  refine fw_iconst h (-1) rfl (by decide) ?_
  refine fw_ixor h rfl ?_
  refine fw_iload_n h rfl rfl ?_
  refine fw_iconst h (nI 1) rfl (by decide) ?_
  refine fw_isub h rfl ?_
  refine fw_iand h rfl ?_
  rw [hy]
  refine fw_istore_n h [_, _] rfl rfl rfl rfl ?_
  refine fw_iload_n h rfl rfl ?_
  refine fw_if_gt h rfl (fun c9 => ?_) (fun c9 => False.elim (c9 (by decide)))
  refine fw_iconst h (nI 1) rfl (by decide) ?_
  refine fw_istore_n h [_, _] rfl rfl rfl rfl ?_
  refine fw_iload_n h rfl rfl ?_
  refine fw_ldcw h 65536 rfl (fb_mT 504 (by decide +kernel) (by decide +kernel)) ?_
  refine fw_icmp_le h rfl (fun c23 => ?_) (fun c23 => False.elim (c23 (by decide)))
  refine fw_iload_n h rfl rfl ?_
  refine fw_sipush h (nI 256) rfl (by decide) ?_
  refine fw_icmp_le h rfl (fun c38 => False.elim (absurd c38 (by decide))) (fun c38 => ?_)
  refine fw_iinc h 8 [_, _] rfl (by decide) rfl rfl rfl rfl ?_
  refine fw_iload_n h rfl rfl ?_
  refine fw_bipush h (nI 8) rfl (by decide) ?_
  refine fw_iushr h rfl ?_
  refine fw_istore_n h [_, _] rfl rfl rfl rfl ?_
  refine fw_iload_n h rfl rfl ?_
  refine fw_bipush h (nI 16) rfl (by decide) ?_
  refine fw_icmp_le h rfl (fun c52 => ?_) (fun c52 => False.elim (c52 (by decide)))
  refine fw_iload_n h rfl rfl ?_
  refine fw_iconst h (nI 4) rfl (by decide) ?_
  refine fw_icmp_le h rfl (fun c64 => False.elim (absurd c64 (by decide))) (fun c64 => ?_)
  refine fw_iinc h 2 [_, _] rfl (by decide) rfl rfl rfl rfl ?_
  refine fw_iload_n h rfl rfl ?_
  refine fw_iconst h (nI 2) rfl (by decide) ?_
  refine fw_iushr h rfl ?_
  refine fw_istore_n h [_, _] rfl rfl rfl rfl ?_
  refine fw_iload_n h rfl rfl ?_
  refine fw_iload_n h rfl rfl ?_
  refine fw_iconst h (nI 1) rfl (by decide) ?_
  refine fw_iushr h rfl ?_
  first | refine fn_iadd h rfl ?_ | refine fw_iadd h rfl ?_
  exact fw_iret h rfl rfl ⟨_, rfl, cast (congrArg (fun z => P z w) (show nI 12 = _ from by decide)) hp⟩
theorem c_ntz_13 {l : Launch} {w : fb_Wd} {P : Int32 → fb_Wd → Prop} {x : Int32} (hy : (x ^^^ -1) &&& (x - nI 1) = nI 8191) (hp : P (nI 13) w) : fb_Can l tJ6_numberOfTrailingZeros_0f7a4 [.int x] w (fb_kI P) := by
  refine fb_introF 1 fk_t_J6_numberOfTrailingZeros_0f7a4 (by decide +kernel) rfl (fun X hX h => ?_)
  subst hX
  change fb_AW tJ6_numberOfTrailingZeros_0f7a4 X 0 [some (.int x), none] [] w
  refine fw_iload_n h rfl rfl ?_
  refine fw_iconst h (-1) rfl (by decide) ?_
  refine fw_ixor h rfl ?_
  refine fw_iload_n h rfl rfl ?_
  refine fw_iconst h (nI 1) rfl (by decide) ?_
  refine fw_isub h rfl ?_
  refine fw_iand h rfl ?_
  rw [hy]
  refine fw_istore_n h [_, _] rfl rfl rfl rfl ?_
  refine fw_iload_n h rfl rfl ?_
  refine fw_if_gt h rfl (fun c9 => ?_) (fun c9 => False.elim (c9 (by decide)))
  refine fw_iconst h (nI 1) rfl (by decide) ?_
  refine fw_istore_n h [_, _] rfl rfl rfl rfl ?_
  refine fw_iload_n h rfl rfl ?_
  refine fw_ldcw h 65536 rfl (fb_mT 504 (by decide +kernel) (by decide +kernel)) ?_
  refine fw_icmp_le h rfl (fun c23 => ?_) (fun c23 => False.elim (c23 (by decide)))
  refine fw_iload_n h rfl rfl ?_
  refine fw_sipush h (nI 256) rfl (by decide) ?_
  refine fw_icmp_le h rfl (fun c38 => False.elim (absurd c38 (by decide))) (fun c38 => ?_)
  refine fw_iinc h 8 [_, _] rfl (by decide) rfl rfl rfl rfl ?_
  refine fw_iload_n h rfl rfl ?_
  refine fw_bipush h (nI 8) rfl (by decide) ?_
  refine fw_iushr h rfl ?_
  refine fw_istore_n h [_, _] rfl rfl rfl rfl ?_
  refine fw_iload_n h rfl rfl ?_
  refine fw_bipush h (nI 16) rfl (by decide) ?_
  refine fw_icmp_le h rfl (fun c52 => False.elim (absurd c52 (by decide))) (fun c52 => ?_)
  refine fw_iinc h 4 [_, _] rfl (by decide) rfl rfl rfl rfl ?_
  refine fw_iload_n h rfl rfl ?_
  refine fw_iconst h (nI 4) rfl (by decide) ?_
  refine fw_iushr h rfl ?_
  refine fw_istore_n h [_, _] rfl rfl rfl rfl ?_
  refine fw_iload_n h rfl rfl ?_
  refine fw_iconst h (nI 4) rfl (by decide) ?_
  refine fw_icmp_le h rfl (fun c64 => ?_) (fun c64 => False.elim (c64 (by decide)))
  refine fw_iload_n h rfl rfl ?_
  refine fw_iload_n h rfl rfl ?_
  refine fw_iconst h (nI 1) rfl (by decide) ?_
  refine fw_iushr h rfl ?_
  first | refine fn_iadd h rfl ?_ | refine fw_iadd h rfl ?_
  exact fw_iret h rfl rfl ⟨_, rfl, cast (congrArg (fun z => P z w) (show nI 13 = _ from by decide)) hp⟩
theorem c_ntz_14 {l : Launch} {w : fb_Wd} {P : Int32 → fb_Wd → Prop} {x : Int32} (hy : (x ^^^ -1) &&& (x - nI 1) = nI 16383) (hp : P (nI 14) w) : fb_Can l tJ6_numberOfTrailingZeros_0f7a4 [.int x] w (fb_kI P) := by
  refine fb_introF 1 fk_t_J6_numberOfTrailingZeros_0f7a4 (by decide +kernel) rfl (fun X hX h => ?_)
  subst hX
  change fb_AW tJ6_numberOfTrailingZeros_0f7a4 X 0 [some (.int x), none] [] w
  refine fw_iload_n h rfl rfl ?_
  refine fw_iconst h (-1) rfl (by decide) ?_
  refine fw_ixor h rfl ?_
  refine fw_iload_n h rfl rfl ?_
  refine fw_iconst h (nI 1) rfl (by decide) ?_
  refine fw_isub h rfl ?_
  refine fw_iand h rfl ?_
  rw [hy]
  refine fw_istore_n h [_, _] rfl rfl rfl rfl ?_
  refine fw_iload_n h rfl rfl ?_
  refine fw_if_gt h rfl (fun c9 => ?_) (fun c9 => False.elim (c9 (by decide)))
  refine fw_iconst h (nI 1) rfl (by decide) ?_
  refine fw_istore_n h [_, _] rfl rfl rfl rfl ?_
  refine fw_iload_n h rfl rfl ?_
  refine fw_ldcw h 65536 rfl (fb_mT 504 (by decide +kernel) (by decide +kernel)) ?_
  refine fw_icmp_le h rfl (fun c23 => ?_) (fun c23 => False.elim (c23 (by decide)))
  refine fw_iload_n h rfl rfl ?_
  refine fw_sipush h (nI 256) rfl (by decide) ?_
  refine fw_icmp_le h rfl (fun c38 => False.elim (absurd c38 (by decide))) (fun c38 => ?_)
  refine fw_iinc h 8 [_, _] rfl (by decide) rfl rfl rfl rfl ?_
  refine fw_iload_n h rfl rfl ?_
  refine fw_bipush h (nI 8) rfl (by decide) ?_
  refine fw_iushr h rfl ?_
  refine fw_istore_n h [_, _] rfl rfl rfl rfl ?_
  refine fw_iload_n h rfl rfl ?_
  refine fw_bipush h (nI 16) rfl (by decide) ?_
  refine fw_icmp_le h rfl (fun c52 => False.elim (absurd c52 (by decide))) (fun c52 => ?_)
  refine fw_iinc h 4 [_, _] rfl (by decide) rfl rfl rfl rfl ?_
  refine fw_iload_n h rfl rfl ?_
  refine fw_iconst h (nI 4) rfl (by decide) ?_
  refine fw_iushr h rfl ?_
  refine fw_istore_n h [_, _] rfl rfl rfl rfl ?_
  refine fw_iload_n h rfl rfl ?_
  refine fw_iconst h (nI 4) rfl (by decide) ?_
  refine fw_icmp_le h rfl (fun c64 => ?_) (fun c64 => False.elim (c64 (by decide)))
  refine fw_iload_n h rfl rfl ?_
  refine fw_iload_n h rfl rfl ?_
  refine fw_iconst h (nI 1) rfl (by decide) ?_
  refine fw_iushr h rfl ?_
  first | refine fn_iadd h rfl ?_ | refine fw_iadd h rfl ?_
  exact fw_iret h rfl rfl ⟨_, rfl, cast (congrArg (fun z => P z w) (show nI 14 = _ from by decide)) hp⟩
theorem c_ntz_15 {l : Launch} {w : fb_Wd} {P : Int32 → fb_Wd → Prop} {x : Int32} (hy : (x ^^^ -1) &&& (x - nI 1) = nI 32767) (hp : P (nI 15) w) : fb_Can l tJ6_numberOfTrailingZeros_0f7a4 [.int x] w (fb_kI P) := by
  refine fb_introF 1 fk_t_J6_numberOfTrailingZeros_0f7a4 (by decide +kernel) rfl (fun X hX h => ?_)
  subst hX
  change fb_AW tJ6_numberOfTrailingZeros_0f7a4 X 0 [some (.int x), none] [] w
  refine fw_iload_n h rfl rfl ?_
  refine fw_iconst h (-1) rfl (by decide) ?_
  refine fw_ixor h rfl ?_
  refine fw_iload_n h rfl rfl ?_
  refine fw_iconst h (nI 1) rfl (by decide) ?_
  refine fw_isub h rfl ?_
  refine fw_iand h rfl ?_
  rw [hy]
  refine fw_istore_n h [_, _] rfl rfl rfl rfl ?_
  refine fw_iload_n h rfl rfl ?_
  refine fw_if_gt h rfl (fun c9 => ?_) (fun c9 => False.elim (c9 (by decide)))
  refine fw_iconst h (nI 1) rfl (by decide) ?_
  refine fw_istore_n h [_, _] rfl rfl rfl rfl ?_
  refine fw_iload_n h rfl rfl ?_
  refine fw_ldcw h 65536 rfl (fb_mT 504 (by decide +kernel) (by decide +kernel)) ?_
  refine fw_icmp_le h rfl (fun c23 => ?_) (fun c23 => False.elim (c23 (by decide)))
  refine fw_iload_n h rfl rfl ?_
  refine fw_sipush h (nI 256) rfl (by decide) ?_
  refine fw_icmp_le h rfl (fun c38 => False.elim (absurd c38 (by decide))) (fun c38 => ?_)
  refine fw_iinc h 8 [_, _] rfl (by decide) rfl rfl rfl rfl ?_
  refine fw_iload_n h rfl rfl ?_
  refine fw_bipush h (nI 8) rfl (by decide) ?_
  refine fw_iushr h rfl ?_
  refine fw_istore_n h [_, _] rfl rfl rfl rfl ?_
  refine fw_iload_n h rfl rfl ?_
  refine fw_bipush h (nI 16) rfl (by decide) ?_
  refine fw_icmp_le h rfl (fun c52 => False.elim (absurd c52 (by decide))) (fun c52 => ?_)
  refine fw_iinc h 4 [_, _] rfl (by decide) rfl rfl rfl rfl ?_
  refine fw_iload_n h rfl rfl ?_
  refine fw_iconst h (nI 4) rfl (by decide) ?_
  refine fw_iushr h rfl ?_
  refine fw_istore_n h [_, _] rfl rfl rfl rfl ?_
  refine fw_iload_n h rfl rfl ?_
  refine fw_iconst h (nI 4) rfl (by decide) ?_
  refine fw_icmp_le h rfl (fun c64 => False.elim (absurd c64 (by decide))) (fun c64 => ?_)
  refine fw_iinc h 2 [_, _] rfl (by decide) rfl rfl rfl rfl ?_
  refine fw_iload_n h rfl rfl ?_
  refine fw_iconst h (nI 2) rfl (by decide) ?_
  refine fw_iushr h rfl ?_
  refine fw_istore_n h [_, _] rfl rfl rfl rfl ?_
  refine fw_iload_n h rfl rfl ?_
  refine fw_iload_n h rfl rfl ?_
  refine fw_iconst h (nI 1) rfl (by decide) ?_
  refine fw_iushr h rfl ?_
  first | refine fn_iadd h rfl ?_ | refine fw_iadd h rfl ?_
  exact fw_iret h rfl rfl ⟨_, rfl, cast (congrArg (fun z => P z w) (show nI 15 = _ from by decide)) hp⟩
theorem c_ntz_16 {l : Launch} {w : fb_Wd} {P : Int32 → fb_Wd → Prop} {x : Int32} (hy : (x ^^^ -1) &&& (x - nI 1) = nI 65535) (hp : P (nI 16) w) : fb_Can l tJ6_numberOfTrailingZeros_0f7a4 [.int x] w (fb_kI P) := by
  refine fb_introF 1 fk_t_J6_numberOfTrailingZeros_0f7a4 (by decide +kernel) rfl (fun X hX h => ?_)
  subst hX
  change fb_AW tJ6_numberOfTrailingZeros_0f7a4 X 0 [some (.int x), none] [] w
  refine fw_iload_n h rfl rfl ?_
  refine fw_iconst h (-1) rfl (by decide) ?_
  refine fw_ixor h rfl ?_
  refine fw_iload_n h rfl rfl ?_
  refine fw_iconst h (nI 1) rfl (by decide) ?_
  refine fw_isub h rfl ?_
  refine fw_iand h rfl ?_
  rw [hy]
  refine fw_istore_n h [_, _] rfl rfl rfl rfl ?_
  refine fw_iload_n h rfl rfl ?_
  refine fw_if_gt h rfl (fun c9 => ?_) (fun c9 => False.elim (c9 (by decide)))
  refine fw_iconst h (nI 1) rfl (by decide) ?_
  refine fw_istore_n h [_, _] rfl rfl rfl rfl ?_
  refine fw_iload_n h rfl rfl ?_
  refine fw_ldcw h 65536 rfl (fb_mT 504 (by decide +kernel) (by decide +kernel)) ?_
  refine fw_icmp_le h rfl (fun c23 => ?_) (fun c23 => False.elim (c23 (by decide)))
  refine fw_iload_n h rfl rfl ?_
  refine fw_sipush h (nI 256) rfl (by decide) ?_
  refine fw_icmp_le h rfl (fun c38 => False.elim (absurd c38 (by decide))) (fun c38 => ?_)
  refine fw_iinc h 8 [_, _] rfl (by decide) rfl rfl rfl rfl ?_
  refine fw_iload_n h rfl rfl ?_
  refine fw_bipush h (nI 8) rfl (by decide) ?_
  refine fw_iushr h rfl ?_
  refine fw_istore_n h [_, _] rfl rfl rfl rfl ?_
  refine fw_iload_n h rfl rfl ?_
  refine fw_bipush h (nI 16) rfl (by decide) ?_
  refine fw_icmp_le h rfl (fun c52 => False.elim (absurd c52 (by decide))) (fun c52 => ?_)
  refine fw_iinc h 4 [_, _] rfl (by decide) rfl rfl rfl rfl ?_
  refine fw_iload_n h rfl rfl ?_
  refine fw_iconst h (nI 4) rfl (by decide) ?_
  refine fw_iushr h rfl ?_
  refine fw_istore_n h [_, _] rfl rfl rfl rfl ?_
  refine fw_iload_n h rfl rfl ?_
  refine fw_iconst h (nI 4) rfl (by decide) ?_
  refine fw_icmp_le h rfl (fun c64 => False.elim (absurd c64 (by decide))) (fun c64 => ?_)
  refine fw_iinc h 2 [_, _] rfl (by decide) rfl rfl rfl rfl ?_
  refine fw_iload_n h rfl rfl ?_
  refine fw_iconst h (nI 2) rfl (by decide) ?_
  refine fw_iushr h rfl ?_
  refine fw_istore_n h [_, _] rfl rfl rfl rfl ?_
  refine fw_iload_n h rfl rfl ?_
  refine fw_iload_n h rfl rfl ?_
  refine fw_iconst h (nI 1) rfl (by decide) ?_
  refine fw_iushr h rfl ?_
  first | refine fn_iadd h rfl ?_ | refine fw_iadd h rfl ?_
  exact fw_iret h rfl rfl ⟨_, rfl, cast (congrArg (fun z => P z w) (show nI 16 = _ from by decide)) hp⟩
theorem c_ntz_17 {l : Launch} {w : fb_Wd} {P : Int32 → fb_Wd → Prop} {x : Int32} (hy : (x ^^^ -1) &&& (x - nI 1) = nI 131071) (hp : P (nI 17) w) : fb_Can l tJ6_numberOfTrailingZeros_0f7a4 [.int x] w (fb_kI P) := by
  refine fb_introF 1 fk_t_J6_numberOfTrailingZeros_0f7a4 (by decide +kernel) rfl (fun X hX h => ?_)
  subst hX
  change fb_AW tJ6_numberOfTrailingZeros_0f7a4 X 0 [some (.int x), none] [] w
  refine fw_iload_n h rfl rfl ?_
  refine fw_iconst h (-1) rfl (by decide) ?_
  refine fw_ixor h rfl ?_
  refine fw_iload_n h rfl rfl ?_
  refine fw_iconst h (nI 1) rfl (by decide) ?_
  refine fw_isub h rfl ?_
  refine fw_iand h rfl ?_
  rw [hy]
  refine fw_istore_n h [_, _] rfl rfl rfl rfl ?_
  refine fw_iload_n h rfl rfl ?_
  refine fw_if_gt h rfl (fun c9 => ?_) (fun c9 => False.elim (c9 (by decide)))
  refine fw_iconst h (nI 1) rfl (by decide) ?_
  refine fw_istore_n h [_, _] rfl rfl rfl rfl ?_
  refine fw_iload_n h rfl rfl ?_
  refine fw_ldcw h 65536 rfl (fb_mT 504 (by decide +kernel) (by decide +kernel)) ?_
  refine fw_icmp_le h rfl (fun c23 => False.elim (absurd c23 (by decide))) (fun c23 => ?_)
  refine fw_iinc h 16 [_, _] rfl (by decide) rfl rfl rfl rfl ?_
  refine fw_iload_n h rfl rfl ?_
  refine fw_bipush h (nI 16) rfl (by decide) ?_
  refine fw_iushr h rfl ?_
  refine fw_istore_n h [_, _] rfl rfl rfl rfl ?_
  refine fw_iload_n h rfl rfl ?_
  refine fw_sipush h (nI 256) rfl (by decide) ?_
  refine fw_icmp_le h rfl (fun c38 => ?_) (fun c38 => False.elim (c38 (by decide)))
  refine fw_iload_n h rfl rfl ?_
  refine fw_bipush h (nI 16) rfl (by decide) ?_
  refine fw_icmp_le h rfl (fun c52 => ?_) (fun c52 => False.elim (c52 (by decide)))
  refine fw_iload_n h rfl rfl ?_
  refine fw_iconst h (nI 4) rfl (by decide) ?_
  refine fw_icmp_le h rfl (fun c64 => ?_) (fun c64 => False.elim (c64 (by decide)))
  refine fw_iload_n h rfl rfl ?_
  refine fw_iload_n h rfl rfl ?_
  refine fw_iconst h (nI 1) rfl (by decide) ?_
  refine fw_iushr h rfl ?_
  first | refine fn_iadd h rfl ?_ | refine fw_iadd h rfl ?_
  exact fw_iret h rfl rfl ⟨_, rfl, cast (congrArg (fun z => P z w) (show nI 17 = _ from by decide)) hp⟩
theorem c_ntz_18 {l : Launch} {w : fb_Wd} {P : Int32 → fb_Wd → Prop} {x : Int32} (hy : (x ^^^ -1) &&& (x - nI 1) = nI 262143) (hp : P (nI 18) w) : fb_Can l tJ6_numberOfTrailingZeros_0f7a4 [.int x] w (fb_kI P) := by
  refine fb_introF 1 fk_t_J6_numberOfTrailingZeros_0f7a4 (by decide +kernel) rfl (fun X hX h => ?_)
  subst hX
  change fb_AW tJ6_numberOfTrailingZeros_0f7a4 X 0 [some (.int x), none] [] w
  refine fw_iload_n h rfl rfl ?_
  refine fw_iconst h (-1) rfl (by decide) ?_
  refine fw_ixor h rfl ?_
  refine fw_iload_n h rfl rfl ?_
  refine fw_iconst h (nI 1) rfl (by decide) ?_
  refine fw_isub h rfl ?_
  refine fw_iand h rfl ?_
  rw [hy]
  refine fw_istore_n h [_, _] rfl rfl rfl rfl ?_
  refine fw_iload_n h rfl rfl ?_
  refine fw_if_gt h rfl (fun c9 => ?_) (fun c9 => False.elim (c9 (by decide)))
  refine fw_iconst h (nI 1) rfl (by decide) ?_
  refine fw_istore_n h [_, _] rfl rfl rfl rfl ?_
  refine fw_iload_n h rfl rfl ?_
  refine fw_ldcw h 65536 rfl (fb_mT 504 (by decide +kernel) (by decide +kernel)) ?_
  refine fw_icmp_le h rfl (fun c23 => False.elim (absurd c23 (by decide))) (fun c23 => ?_)
  refine fw_iinc h 16 [_, _] rfl (by decide) rfl rfl rfl rfl ?_
  refine fw_iload_n h rfl rfl ?_
  refine fw_bipush h (nI 16) rfl (by decide) ?_
  refine fw_iushr h rfl ?_
  refine fw_istore_n h [_, _] rfl rfl rfl rfl ?_
  refine fw_iload_n h rfl rfl ?_
  refine fw_sipush h (nI 256) rfl (by decide) ?_
  refine fw_icmp_le h rfl (fun c38 => ?_) (fun c38 => False.elim (c38 (by decide)))
  refine fw_iload_n h rfl rfl ?_
  refine fw_bipush h (nI 16) rfl (by decide) ?_
  refine fw_icmp_le h rfl (fun c52 => ?_) (fun c52 => False.elim (c52 (by decide)))
  refine fw_iload_n h rfl rfl ?_
  refine fw_iconst h (nI 4) rfl (by decide) ?_
  refine fw_icmp_le h rfl (fun c64 => ?_) (fun c64 => False.elim (c64 (by decide)))
  refine fw_iload_n h rfl rfl ?_
  refine fw_iload_n h rfl rfl ?_
  refine fw_iconst h (nI 1) rfl (by decide) ?_
  refine fw_iushr h rfl ?_
  first | refine fn_iadd h rfl ?_ | refine fw_iadd h rfl ?_
  exact fw_iret h rfl rfl ⟨_, rfl, cast (congrArg (fun z => P z w) (show nI 18 = _ from by decide)) hp⟩
theorem c_ntz_19 {l : Launch} {w : fb_Wd} {P : Int32 → fb_Wd → Prop} {x : Int32} (hy : (x ^^^ -1) &&& (x - nI 1) = nI 524287) (hp : P (nI 19) w) : fb_Can l tJ6_numberOfTrailingZeros_0f7a4 [.int x] w (fb_kI P) := by
  refine fb_introF 1 fk_t_J6_numberOfTrailingZeros_0f7a4 (by decide +kernel) rfl (fun X hX h => ?_)
  subst hX
  change fb_AW tJ6_numberOfTrailingZeros_0f7a4 X 0 [some (.int x), none] [] w
  refine fw_iload_n h rfl rfl ?_
  refine fw_iconst h (-1) rfl (by decide) ?_
  refine fw_ixor h rfl ?_
  refine fw_iload_n h rfl rfl ?_
  refine fw_iconst h (nI 1) rfl (by decide) ?_
  refine fw_isub h rfl ?_
  refine fw_iand h rfl ?_
  rw [hy]
  refine fw_istore_n h [_, _] rfl rfl rfl rfl ?_
  refine fw_iload_n h rfl rfl ?_
  refine fw_if_gt h rfl (fun c9 => ?_) (fun c9 => False.elim (c9 (by decide)))
  refine fw_iconst h (nI 1) rfl (by decide) ?_
  refine fw_istore_n h [_, _] rfl rfl rfl rfl ?_
  refine fw_iload_n h rfl rfl ?_
  refine fw_ldcw h 65536 rfl (fb_mT 504 (by decide +kernel) (by decide +kernel)) ?_
  refine fw_icmp_le h rfl (fun c23 => False.elim (absurd c23 (by decide))) (fun c23 => ?_)
  refine fw_iinc h 16 [_, _] rfl (by decide) rfl rfl rfl rfl ?_
  refine fw_iload_n h rfl rfl ?_
  refine fw_bipush h (nI 16) rfl (by decide) ?_
  refine fw_iushr h rfl ?_
  refine fw_istore_n h [_, _] rfl rfl rfl rfl ?_
  refine fw_iload_n h rfl rfl ?_
  refine fw_sipush h (nI 256) rfl (by decide) ?_
  refine fw_icmp_le h rfl (fun c38 => ?_) (fun c38 => False.elim (c38 (by decide)))
  refine fw_iload_n h rfl rfl ?_
  refine fw_bipush h (nI 16) rfl (by decide) ?_
  refine fw_icmp_le h rfl (fun c52 => ?_) (fun c52 => False.elim (c52 (by decide)))
  refine fw_iload_n h rfl rfl ?_
  refine fw_iconst h (nI 4) rfl (by decide) ?_
  refine fw_icmp_le h rfl (fun c64 => False.elim (absurd c64 (by decide))) (fun c64 => ?_)
  refine fw_iinc h 2 [_, _] rfl (by decide) rfl rfl rfl rfl ?_
  refine fw_iload_n h rfl rfl ?_
  refine fw_iconst h (nI 2) rfl (by decide) ?_
  refine fw_iushr h rfl ?_
  refine fw_istore_n h [_, _] rfl rfl rfl rfl ?_
  refine fw_iload_n h rfl rfl ?_
  refine fw_iload_n h rfl rfl ?_
  refine fw_iconst h (nI 1) rfl (by decide) ?_
  refine fw_iushr h rfl ?_
  first | refine fn_iadd h rfl ?_ | refine fw_iadd h rfl ?_
  exact fw_iret h rfl rfl ⟨_, rfl, cast (congrArg (fun z => P z w) (show nI 19 = _ from by decide)) hp⟩
theorem c_ntz {l : Launch} {w : fb_Wd} {P : Int32 → fb_Wd → Prop} {x : Int32} {k : Nat} (hk : k < 20) (h1 : bt x k = true) (h0 : ∀ i, i < k → bt x i = false) (hp : P (nI k) w) : fb_Can l tJ6_numberOfTrailingZeros_0f7a4 [.int x] w (fb_kI P) := by
  have hy := fx_low (show k < 31 by omega) h1 h0
  clear h1 h0
  rcases (show k = 0 ∨ k = 1 ∨ k = 2 ∨ k = 3 ∨ k = 4 ∨ k = 5 ∨ k = 6 ∨ k = 7 ∨ k = 8 ∨ k = 9 ∨ k = 10 ∨ k = 11 ∨ k = 12 ∨ k = 13 ∨ k = 14 ∨ k = 15 ∨ k = 16 ∨ k = 17 ∨ k = 18 ∨ k = 19 by omega) with rfl | rfl | rfl | rfl | rfl | rfl | rfl | rfl | rfl | rfl | rfl | rfl | rfl | rfl | rfl | rfl | rfl | rfl | rfl | rfl
  · exact c_ntz_0 hy hp
  · exact c_ntz_1 hy hp
  · exact c_ntz_2 hy hp
  · exact c_ntz_3 hy hp
  · exact c_ntz_4 hy hp
  · exact c_ntz_5 hy hp
  · exact c_ntz_6 hy hp
  · exact c_ntz_7 hy hp
  · exact c_ntz_8 hy hp
  · exact c_ntz_9 hy hp
  · exact c_ntz_10 hy hp
  · exact c_ntz_11 hy hp
  · exact c_ntz_12 hy hp
  · exact c_ntz_13 hy hp
  · exact c_ntz_14 hy hp
  · exact c_ntz_15 hy hp
  · exact c_ntz_16 hy hp
  · exact c_ntz_17 hy hp
  · exact c_ntz_18 hy hp
  · exact c_ntz_19 hy hp
theorem fx_least {x : Int32} (h : ¬ x = 0) (hlt : fp_lt 20 x) : ∃ k, k < 20 ∧ bt x k = true ∧ ∀ i, i < k → bt x i = false := by
  have hx : ∃ k, k < 32 ∧ bt x k = true := by
    by_cases z : ∃ k, k < 32 ∧ bt x k = true
    · exact z
    · refine absurd (b_ext (fun i hi => ?_)) h
      rw [b_0]
      cases hb : bt x i with
      | true => exact absurd ⟨i, hi, hb⟩ z
      | false => rfl
  obtain ⟨k, ⟨hk, hb⟩, hm⟩ := pk_least _ hx
  refine ⟨k, fp_lt_bt hlt hb, hb, fun i hi => ?_⟩
  cases hc : bt x i with
  | true => exact absurd ⟨by omega, hc⟩ (hm i hi)
  | false => rfl
def fx_wy (c : Nat) : Nat → Nat
  | 0 => 1
  | k + 1 => fx_wy c k * (c - k) / (k + 1)
def fx_wn (c h : Nat) : Nat → Nat
  | 0 => 0
  | k + 1 => fx_wn c h k + (if h ≤ k then fx_wy c k else 0)
theorem fx_wy_b : ∀ c, c < 13 → ∀ k, k < 14 → fx_wy c k < 1000 := by decide +kernel
theorem fx_wn_1 {c h k : Nat} (e : h ≤ k) : fx_wn c h (k + 1) = fx_wn c h k + fx_wy c k := by rw [fx_wn, if_pos e]
theorem fx_wn_0 {c h k : Nat} (e : ¬ h ≤ k) : fx_wn c h (k + 1) = fx_wn c h k := by rw [fx_wn, if_neg e]; rfl
theorem c_X7_waysToFall {l : Launch} {w : fb_Wd} {P : Int32 → fb_Wd → Prop} {c h0 : Nat} (hc : c ≤ 12) (hh : h0 ≤ 12) (hp : P (nI (fx_wn c h0 (c + 1))) w) : fb_Can l tX7_waysToFall [.int (nI c), .int (nI h0)] w (fb_kI P) := by
  refine fb_intro 3 fk_t_X7_waysToFall (by decide) rfl (fun X hX h => ?_)
  subst hX
  change fb_AW tX7_waysToFall X 0 [some (.int (nI c)), some (.int (nI h0)), none, none, none] [] w
  refine fw_iconst h (nI 0) rfl (by decide) ?_
  refine fw_istore_n h [_, _, _, _, _] rfl rfl rfl rfl ?_
  refine fw_iconst h (nI 1) rfl (by decide) ?_
  refine fw_istore_n h [_, _, _, _, _] rfl rfl rfl rfl ?_
  refine fw_iconst h (nI 0) rfl (by decide) ?_
  refine fw_istore h [_, _, _, _, _] rfl rfl rfl rfl ?_
  refine fb_loop (fun i => fb_AW tX7_waysToFall X 7 [some (.int (nI c)), some (.int (nI h0)), some (.int (nI (fx_wn c h0 i))), some (.int (nI (fx_wy c i))), some (.int (nI i))] [] w) (c + 1) ?_ (fun i hi ih => ?_) 0 (Nat.zero_le _)
  · refine fw_iload h rfl rfl ?_
    refine fw_iload_n h rfl rfl ?_
    refine fw_icmp_gt h rfl (fun c10 => ?_) (fun c10 => False.elim (c10 (nI_lt (by omega) (by omega))))
    refine fw_iload_n h rfl rfl ?_
    exact fw_iret h rfl rfl ⟨_, rfl, hp⟩
  · refine fw_iload h rfl rfl ?_
    refine fw_iload_n h rfl rfl ?_
    refine fw_icmp_gt h rfl (fun c10 => False.elim (absurd c10 (nI_nlt (by omega) (by omega)))) (fun c10 => ?_)
    have hb := fx_wy_b c (by omega) i (by omega)
    have hm : fx_wy c i * (c - i) ≤ 1000 * 12 := Nat.mul_le_mul (by omega) (by omega)
    refine fw_iload h rfl rfl ?_
    refine fw_iload_n h rfl rfl ?_
    refine fw_icmp_lt h rfl (fun c16 => ?_) (fun c16 => ?_)
    · refine fw_iload_n h rfl rfl ?_
      refine fw_iload_n h rfl rfl ?_
      refine fw_iload h rfl rfl ?_
      refine fw_isub h rfl ?_
      rw [pk_sub (by omega)]
      first | refine fn_imul h rfl ?_ | refine fw_imul h rfl ?_
      refine fw_iload h rfl rfl ?_
      refine fw_iconst h (nI 1) rfl (by decide) ?_
      first | refine fn_iadd h rfl ?_ | refine fw_iadd h rfl ?_
      refine fw_idiv h rfl (nI_ne0 (by omega) (by omega)) ?_
      rw [pk_div (by omega) (by omega) (by omega)]
      refine fw_istore_n h [_, _, _, _, _] rfl rfl rfl rfl ?_
      first | refine fn_iinc h [_, _, _, _, _] rfl rfl rfl rfl rfl ?_ | refine fw_iinc h 1 [_, _, _, _, _] rfl (by decide) rfl rfl rfl rfl ?_
      refine fw_goto h rfl ?_
      have en := fx_wn_0 (c := c) (h := h0) (k := i) (by have := (nI_ltI (by omega) (by omega)).mp c16; omega)
      rw [en] at ih
      exact ih
    · have en := fx_wn_1 (c := c) (h := h0) (k := i) (Nat.not_lt.mp (fun y => c16 ((nI_ltI (by omega) (by omega)).mpr y)))
      · refine fw_iload_n h rfl rfl ?_
        refine fw_iload_n h rfl rfl ?_
        first | refine fn_iadd h rfl ?_ | refine fw_iadd h rfl ?_
        refine fw_istore_n h [_, _, _, _, _] rfl rfl rfl rfl ?_
        refine fw_iload_n h rfl rfl ?_
        refine fw_iload_n h rfl rfl ?_
        refine fw_iload h rfl rfl ?_
        refine fw_isub h rfl ?_
        rw [pk_sub (by omega)]
        first | refine fn_imul h rfl ?_ | refine fw_imul h rfl ?_
        refine fw_iload h rfl rfl ?_
        refine fw_iconst h (nI 1) rfl (by decide) ?_
        first | refine fn_iadd h rfl ?_ | refine fw_iadd h rfl ?_
        refine fw_idiv h rfl (nI_ne0 (by omega) (by omega)) ?_
        rw [pk_div (by omega) (by omega) (by omega)]
        refine fw_istore_n h [_, _, _, _, _] rfl rfl rfl rfl ?_
        first | refine fn_iinc h [_, _, _, _, _] rfl rfl rfl rfl rfl ?_ | refine fw_iinc h 1 [_, _, _, _, _] rfl (by decide) rfl rfl rfl rfl ?_
        refine fw_goto h rfl ?_
        rw [en] at ih
        exact ih
