def fp_sub (a b : Int32) : Prop := ∀ i, i < 32 → bt a i = true → bt b i = true
theorem fp_sub_rf (a : Int32) : fp_sub a a := fun _ _ h => h
theorem fp_sub_tr {a b c : Int32} (h1 : fp_sub a b) (h2 : fp_sub b c) : fp_sub a c := fun i hi h => h2 i hi (h1 i hi h)
theorem fp_sub_as {a b : Int32} (h1 : fp_sub a b) (h2 : fp_sub b a) : a = b := by
  apply b_ext
  intro i hi
  cases ha : bt a i with
  | true => rw [h1 i hi ha]
  | false =>
    cases hb : bt b i with
    | true => rw [h2 i hi hb] at ha; cases ha
    | false => rfl
theorem fp_sub_or1 (a : Int32) (k : Nat) : fp_sub a (a ||| (nI 1 <<< (nI k &&& 31))) := fun i _ h => by rw [b_or, h]; rfl
theorem fp_or_sub {a b S : Int32} (h1 : fp_sub a S) (h2 : fp_sub b S) : fp_sub (a ||| b) S := fun i hi h => by
  rw [b_or, Bool.or_eq_true] at h
  exact h.elim (h1 i hi) (h2 i hi)
theorem fp_1_sub {k : Nat} {S : Int32} (hk : k < 32) (h : bt S k = true) : fp_sub (nI 1 <<< (nI k &&& 31)) S := fun i hi q => by
  rw [fp_b1 k hk i hi] at q
  rw [of_decide_eq_true q]; exact h
theorem fp_bt_or1 {a : Int32} {k : Nat} (hk : k < 32) : bt (a ||| (nI 1 <<< (nI k &&& 31))) k = true := by
  rw [fp_or1 hk hk]; simp
def fq_cl (pr : Nat → Int32 → Prop) (bb : Nat → Nat) (S : Int32) : Prop := ∀ j, pr j S → bt S (bb j) = true
def fq_inv (pr : Nat → Int32 → Prop) (bb : Nat → Nat) (m : Int32) (j : Nat) (mi : Int32) : Prop :=
  fp_sub m mi ∧ (∀ S, fq_cl pr bb S → fp_sub m S → fp_sub mi S) ∧ (mi = m → ∀ q, q < j → pr q m → bt m (bb q) = true)
def fq_mono (pr : Nat → Int32 → Prop) : Prop := ∀ j S S', fp_sub S S' → pr j S → pr j S'
theorem fq_inv_0 (pr : Nat → Int32 → Prop) (bb : Nat → Nat) (m : Int32) : fq_inv pr bb m 0 m := ⟨fp_sub_rf m, fun _ _ h => h, fun _ q hq => by omega⟩
theorem fq_inv_add {pr : Nat → Int32 → Prop} {bb : Nat → Nat} {m mi : Int32} {j : Nat} (hm : fq_mono pr) (h : fq_inv pr bb m j mi) (hb : bb j < 32) (hp : pr j mi) : fq_inv pr bb m (j + 1) (mi ||| (nI 1 <<< (nI (bb j) &&& 31))) := by
  refine ⟨fp_sub_tr h.1 (fp_sub_or1 _ _), fun S hS hs => fp_or_sub (h.2.1 S hS hs) (fp_1_sub hb (hS j (hm j mi S (h.2.1 S hS hs) hp))), fun e q hq hpq => ?_⟩
  have e2 : mi = m := fp_sub_as (by rw [← e]; exact fp_sub_or1 _ _) h.1
  by_cases hqj : q = j
  · subst hqj
    rw [← e]
    exact fp_bt_or1 hb
  · exact h.2.2 e2 q (by omega) hpq
theorem fq_inv_keep {pr : Nat → Int32 → Prop} {bb : Nat → Nat} {m mi : Int32} {j : Nat} (h : fq_inv pr bb m j mi) (hp : ¬ pr j mi) : fq_inv pr bb m (j + 1) mi := by
  refine ⟨h.1, h.2.1, fun e q hq hpq => ?_⟩
  by_cases hqj : q = j
  · subst hqj
    rw [e] at hp
    exact absurd hpq hp
  · exact h.2.2 e q (by omega) hpq
theorem fq_inv_or0 (mi : Int32) : mi ||| nI 0 = mi := by
  apply b_ext
  intro i hi
  rw [b_or, nI_0, b_0, Bool.or_false]
theorem fp_cnt_mono {p q : Nat → Bool} : ∀ {n : Nat}, (∀ i, i < n → p i = true → q i = true) → fp_cnt p n ≤ fp_cnt q n
  | 0, _ => Nat.le_refl _
  | n + 1, h => by
    have h1 := fp_cnt_mono (n := n) (fun i hi => h i (by omega))
    have h2 := h n (by omega)
    rw [fp_cnt, fp_cnt]
    cases hp : p n with
    | true => rw [h2 hp]; simp; exact h1
    | false => simp; split <;> omega
theorem fp_cnt_lt {p q : Nat → Bool} : ∀ {n k : Nat}, (∀ i, i < n → p i = true → q i = true) → k < n → p k = false → q k = true → fp_cnt p n < fp_cnt q n
  | 0, k, _, hk, _, _ => by omega
  | n + 1, k, h, hk, h1, h2 => by
    have hm := fp_cnt_mono (n := n) (fun i hi => h i (by omega))
    rw [fp_cnt, fp_cnt]
    by_cases e : k = n
    · subst e
      rw [h1, h2]; simp; omega
    · have h3 := fp_cnt_lt (n := n) (k := k) (fun i hi => h i (by omega)) (by omega) h1 h2
      have h4 := h n (by omega)
      cases hp : p n with
      | true => rw [h4 hp]; simp; exact h3
      | false => simp; split <;> omega
def fq_card (m : Int32) : Nat := fp_cnt (bt m) 32
theorem fq_card_lt {a b : Int32} (h : fp_sub a b) (e : ¬ b = a) : fq_card a < fq_card b := by
  by_cases hx : ∃ k, k < 32 ∧ bt a k = false ∧ bt b k = true
  · obtain ⟨k, hk, h1, h2⟩ := hx
    exact fp_cnt_lt (fun i hi => h i hi) hk h1 h2
  · refine absurd (fp_sub_as (fun i hi hb => ?_) h) e
    cases ha : bt a i with
    | true => rfl
    | false => exact absurd ⟨i, hi, ha, hb⟩ hx
theorem fq_card_le (a : Int32) : fq_card a ≤ 32 := fp_cnt_le _ 32
noncomputable def fq_lfp (C : Int32 → Prop) (base : Int32) : Int32 := fp_mk (fun t => @decide (∀ S, C S → fp_sub base S → bt S t = true) (Classical.propDecidable _)) 32
theorem fq_lfp_eq {C : Int32 → Prop} {base m : Int32} (h0 : fp_sub base m) (hc : C m) (hl : ∀ S, C S → fp_sub base S → fp_sub m S) : m = fq_lfp C base := by
  refine fp_mk_eq (n := 32) (Nat.le_refl _) (fun i h1 h2 => by omega) (fun i hi => ?_)
  cases hm : bt m i with
  | true => exact (@decide_eq_true _ (Classical.propDecidable _) (fun S hS hb => hl S hS hb i hi hm)).symm
  | false => exact (@decide_eq_false _ (Classical.propDecidable _) (fun q => by rw [q m hc h0] at hm; cases hm)).symm
theorem fp_lt_bt {n k : Nat} {s : Int32} (h : fp_lt n s) (hb : bt s k = true) : k < n := by
  rcases Nat.lt_or_ge k n with q | q
  · exact q
  · rcases Nat.lt_or_ge k 32 with q2 | q2
    · rw [h k q q2] at hb; cases hb
    · rw [b_big q2] at hb; cases hb
theorem fp_lt_le {n k : Nat} {s : Int32} (h : fp_lt n s) (hk : n ≤ k) : fp_lt k s := fun i h1 h2 => h i (by omega) h2
theorem fp_lt_m1 {n : Nat} {s : Int32} (h : fp_lt n s) (hn : n < 32) : ¬ (-1 : Int32) = s := fun e => by
  have h1 := h n (Nat.le_refl _) hn
  rw [← e, b_m1 n hn] at h1
  cases h1
theorem fb_up_self (w : fb_Wd) (c k : Nat) : fb_up w c k (w.1 c k) = w := by
  unfold fb_up
  have : (fun a b => if a = c then (if b = k then w.1 c k else w.1 a b) else w.1 a b) = w.1 := by
    funext a b
    by_cases h1 : a = c
    · by_cases h2 : b = k
      · subst h1; subst h2; simp
      · simp [h2]
    · simp [h1]
  rw [this]
theorem fb_up_up (w : fb_Wd) (c k : Nat) (x y : Int32) : fb_up (fb_up w c k x) c k y = fb_up w c k y := by
  unfold fb_up
  congr 1
  funext a b
  by_cases h1 : a = c <;> by_cases h2 : b = k <;> simp [h1, h2]
theorem fb_up_cm (w : fb_Wd) {c k c2 k2 : Nat} (x y : Int32) (h : ¬ (c = c2 ∧ k = k2)) : fb_up (fb_up w c k x) c2 k2 y = fb_up (fb_up w c2 k2 y) c k x := by
  unfold fb_up
  congr 1
  funext a b
  by_cases h1 : a = c
  · by_cases h3 : a = c2
    · have hk : ¬ k = k2 := fun z => h ⟨h1.symm.trans h3, z⟩
      by_cases h2 : b = k
      · have h4 : ¬ b = k2 := fun z => hk (h2.symm.trans z)
        simp only [if_pos h1, if_pos h3, if_pos h2, if_neg h4]
      · simp only [if_pos h1, if_pos h3, if_neg h2]
    · simp only [if_pos h1, if_neg h3]
  · simp only [if_neg h1]
theorem fb_pad_c {x y : Option Value} {L L' : List (Option Value)} (h : y = none ∨ y = x) (t : fb_pad L L') : fb_pad (x :: L) (y :: L') := by
  intro k v hk
  cases k with
  | zero =>
    rcases h with rfl | rfl
    · simp at hk
    · exact hk
  | succ k => exact t k v hk
theorem fb_pad_n : fb_pad [] [] := fun k v h => by simp at h
