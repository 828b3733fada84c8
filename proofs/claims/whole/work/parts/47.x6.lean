def xT (w : fb_Wd) (nt : Nat) : Prop := (∀ t, t < nt → w.1 17 t = nI (fp_top (w.1 15) t)) ∧ (∀ t, t < nt → ∀ u, u < 32 → bt (w.1 18 t) u = (decide (¬ u = t) && fp_in (w.1 15) t u)) ∧ (∀ t, t < nt → w.1 19 t = fp_price (w.1 15) (w.1 14) nt t) ∧ (∀ t, nt ≤ t → t < 20 → w.1 19 t = 0 ∧ w.1 14 t = 0) ∧ (∀ t, t < 20 → ∀ u, u < 32 → bt (w.1 20 t) u = decide (u < nt ∧ w.1 15 u = nI t)) ∧ (∀ t, t < 20 → ∀ u, u < 32 → bt (w.1 21 t) u = decide (u < nt ∧ w.1 16 u = nI t)) ∧ (∀ u, u < 32 → bt (w.1 2 10) u = decide (u < nt ∧ (w.1 12 u = 1 ∨ w.1 12 u = 2))) ∧ (∀ u, u < 32 → bt (w.1 2 11) u = decide (u < nt ∧ w.1 12 u = 3))
def xC (w : fb_Wd) (nd : Nat) : Prop := (∀ d, d < 12 → w.1 25 d = nI (fd_m (xD w) d) ∧ w.1 26 d = nI (fp_dbt (w.1 30) d (fd_m (xD w) d))) ∧ ∀ d, nd ≤ d → d < 12 → fd_m (xD w) d = 0
def XI (w : fb_Wd) (nt nd nx ng : Nat) : Prop := fd_N (xD w) nt nd nx ng ∧ fd_T (xD w) nt ∧ (∀ d, d < nd → fd_A (xD w) nt d (fd_m (xD w) d)) ∧ xT w nt ∧ xC w nd
def xSL (p : List Nat) (w w' : fb_Wd) : Prop := (∀ c, c ∉ p → w'.1 c = w.1 c) ∧ w'.2 = w.2
theorem xSL.rf (p : List Nat) (w : fb_Wd) : xSL p w w := ⟨fun _ _ => rfl, rfl⟩
theorem xSL.tr {p : List Nat} {a b c : fb_Wd} (h1 : xSL p a b) (h2 : xSL p b c) : xSL p a c := ⟨fun q hq => (h2.1 q hq).trans (h1.1 q hq), h2.2.trans h1.2⟩
theorem xSL.mono {p q : List Nat} {a b : fb_Wd} (h : xSL p a b) (hs : ∀ k, k ∈ p → k ∈ q) : xSL q a b := ⟨fun k hk => h.1 k (fun z => hk (hs k z)), h.2⟩
theorem xSL.up {p : List Nat} {a b : fb_Wd} (h : xSL p a b) {c : Nat} (k : Nat) (x : Int32) (hc : c ∈ p) : xSL p a (fb_up b c k x) := ⟨fun q hq => (fb_up_ne b (c := c) (c2 := q) k x (fun z => hq (by rw [z]; exact hc))).trans (h.1 q hq), h.2⟩
theorem xSL.eD {p : List Nat} {a b : fb_Wd} (h : xSL p a b) (hp : ∀ k ∈ p, k = 0 ∨ k = 6 ∨ k = 7 ∨ k = 8 ∨ 41 ≤ k) : xD b = xD a := by
  have hc : ∀ c, c < 41 → (c ≠ 0 ∧ c ≠ 6 ∧ c ≠ 7 ∧ c ≠ 8) → b.1 c = a.1 c := fun c h1 h2 => h.1 c (fun z => by have := hp c z; omega)
  funext i
  match i with
  | 0 | 1 | 2 | 3 | 4 | 5 | 6 | 7 | 8 | 9 | 10 | 11 | 12 | 17 | 18 | 19 | 20 | 21 | 22 => exact hc _ (by decide) (by decide)
  | 13 | 14 | 15 | 16 => exact congrArg fd_c8 (hc _ (by decide) (by decide))
  | 23 =>
    show fd_s4 _ _ _ _ = fd_s4 _ _ _ _
    rw [hc 2 (by decide) (by decide), hc 3 (by decide) (by decide), hc 4 (by decide) (by decide), hc 5 (by decide) (by decide)]
  | i + 24 => rfl
theorem xSL.keep {p : List Nat} {a b : fb_Wd} {nt nd nx ng : Nat} (h : xSL p a b) (hp : ∀ k ∈ p, k = 0 ∨ k = 6 ∨ k = 7 ∨ k = 8 ∨ 41 ≤ k) (hX : XI a nt nd nx ng) : XI b nt nd nx ng := by
  have hc : ∀ c, c < 41 → (c ≠ 0 ∧ c ≠ 6 ∧ c ≠ 7 ∧ c ≠ 8) → b.1 c = a.1 c := fun c h1 h2 => h.1 c (fun z => by have := hp c z; omega)
  unfold XI xT xC at hX ⊢
  rw [h.eD hp, hc 17 (by decide) (by decide), hc 15 (by decide) (by decide), hc 18 (by decide) (by decide), hc 19 (by decide) (by decide), hc 14 (by decide) (by decide), hc 20 (by decide) (by decide), hc 21 (by decide) (by decide), hc 16 (by decide) (by decide), hc 2 (by decide) (by decide), hc 12 (by decide) (by decide), hc 25 (by decide) (by decide), hc 26 (by decide) (by decide), hc 30 (by decide) (by decide)]
  exact hX
theorem fp_cnt_ins {p q : Nat → Bool} {t : Nat} (hp : p t = false) : ∀ {n : Nat}, t < n → (∀ i, i < n → q i = (p i || decide (i = t))) → fp_cnt q n = fp_cnt p n + 1
  | 0, h, _ => by omega
  | n + 1, h, hq => by
    rw [fp_cnt, fp_cnt, hq n (by omega)]
    by_cases e : t = n
    · subst e
      have h2 : fp_cnt q t = fp_cnt p t := fp_cnt_cg (fun i hi => by rw [hq i (by omega), decide_eq_false (show ¬ i = t by omega), Bool.or_false])
      rw [h2, hp]; simp
    · rw [fp_cnt_ins hp (n := n) (by omega) (fun i hi => hq i (by omega)), decide_eq_false (show ¬ n = t by omega), Bool.or_false]
      omega
def fv_C (sc : Nat → Int32) (nt : Nat) (T : Int32) : Prop := ∀ t, t < nt → bt T t = true → fp_sub (sc t) T
def fv_I (sc : Nat → Int32) (nt : Nat) (base S F : Int32) (i : Nat) : Prop := fp_sub base S ∧ fp_sub F S ∧ (∀ T, fv_C sc nt T → fp_sub base T → fp_sub S T) ∧ (∀ t, t < nt → bt S t = true → bt F t = false → fp_sub (sc t) S) ∧ fp_lt nt S ∧ fp_cnt (fun u => bt S u && !bt F u) 32 = i
theorem fv_I_0 {sc : Nat → Int32} {nt : Nat} {base : Int32} (h : fp_lt nt base) : fv_I sc nt base base base 0 := by
  refine ⟨fp_sub_rf _, fp_sub_rf _, fun T _ hT => hT, fun t _ h1 h2 => absurd h1 (by rw [h2]; decide), h, ?_⟩
  have : fp_cnt (fun u => bt base u && !bt base u) 32 = fp_cnt (fun _ => false) 32 := fp_cnt_cg (fun i _ => by cases bt base i <;> rfl)
  rw [this]; decide
theorem b_not {x : Int32} {i : Nat} (hi : i < 32) : bt (x ^^^ -1) i = !bt x i := by
  rw [b_xor, b_m1 i hi]; cases bt x i <;> rfl
theorem fv_I_s {sc : Nat → Int32} {nt : Nat} {base S F : Int32} {i t : Nat} (hn : nt ≤ 32) (h : fv_I sc nt base S F i) (ht : bt F t = true) (hsc : fp_lt nt (sc t)) : fv_I sc nt base (S ||| (sc t &&& (S ^^^ -1))) ((F &&& ((nI 1 <<< (nI t &&& 31)) ^^^ -1)) ||| (sc t &&& (S ^^^ -1))) (i + 1) := by
  obtain ⟨h1, h2, h3, h4, h5, h6⟩ := h
  have htS : bt S t = true := fp_subt h2 ht
  have htn : t < nt := fp_lt_bt h5 htS
  have bS : ∀ u, u < 32 → bt (S ||| (sc t &&& (S ^^^ -1))) u = (bt S u || bt (sc t) u) := fun u hu => by
    rw [b_or, b_and, b_not hu]
    cases bt S u <;> cases bt (sc t) u <;> rfl
  have bF : ∀ u, u < 32 → bt ((F &&& ((nI 1 <<< (nI t &&& 31)) ^^^ -1)) ||| (sc t &&& (S ^^^ -1))) u = ((bt F u && !decide (u = t)) || (bt (sc t) u && !bt S u)) := fun u hu => by
    rw [b_or, b_and, b_and, b_not hu, b_not hu, fp_b1 t (by omega) u hu]
  refine ⟨fp_sub_tr h1 (fun u hu q => by rw [bS u hu, q]; rfl), fun u hu q => ?_, fun T hT hb => ?_, fun v hv q1 q2 => ?_, fun u hu hu2 => ?_, ?_⟩
  · rw [bF u hu] at q
    rw [bS u hu]
    cases hF : bt F u with
    | true => rw [fp_subt h2 hF]; rfl
    | false =>
      rw [hF] at q
      cases hs : bt (sc t) u with
      | true => simp
      | false => rw [hs] at q; simp at q
  · have hST := h3 T hT hb
    intro u hu q
    rw [bS u hu] at q
    rcases Bool.or_eq_true_iff.mp q with q | q
    · exact hST u hu q
    · exact hT t htn (hST t (by omega) htS) u hu q
  · rw [bS v (by omega)] at q1
    rw [bF v (by omega)] at q2
    have hsub : fp_sub S (S ||| (sc t &&& (S ^^^ -1))) := fun u hu q => by rw [bS u hu, q]; rfl
    by_cases e : v = t
    · subst e
      exact fun u hu q => by rw [bS u hu, q]; simp
    · rw [decide_eq_false e] at q2
      cases hSv : bt S v with
      | true =>
        refine fp_sub_tr (h4 v hv hSv ?_) hsub
        cases hF : bt F v with
        | true => rw [hF] at q2; simp at q2
        | false => rfl
      | false =>
        rw [hSv] at q1 q2
        simp at q1
        rw [q1] at q2
        simp at q2
  · rw [bS u hu2, h5 u hu hu2, hsc u hu hu2]; rfl
  · rw [← h6]
    refine fp_cnt_ins (t := t) (by rw [ht]; simp) (by omega) (fun u hu => ?_)
    rw [bS u hu, bF u hu]
    by_cases e : u = t
    · subst e
      rw [htS]; simp
    · rw [decide_eq_false e]
      cases bt S u <;> cases bt F u <;> cases bt (sc t) u <;> rfl
theorem fv_I_e {sc : Nat → Int32} {nt : Nat} {base S : Int32} {i : Nat} (h : fv_I sc nt base S 0 i) : S = fq_lfp (fv_C sc nt) base :=
  fq_lfp_eq h.1 (fun t ht hb => h.2.2.2.1 t ht hb (b_0 t)) h.2.2.1
theorem fv_I_20 {sc : Nat → Int32} {nt : Nat} {base S F : Int32} (hn : nt ≤ 20) (h : fv_I sc nt base S F 20) : F = 0 := by
  apply b_ext
  intro k hk
  rw [b_0]
  cases hF : bt F k with
  | false => rfl
  | true =>
    have hS := fp_subt h.2.1 hF
    have hkn := fp_lt_bt h.2.2.2.2.1 hS
    have h2 := fp_cnt_lt (p := fun u => bt S u && !bt F u) (q := fun u => decide (u < 20)) (n := 32) (k := k) (fun u hu q => by
      have hS2 : bt S u = true := (Bool.and_eq_true_iff.mp q).1
      have := fp_lt_bt h.2.2.2.2.1 hS2
      exact decide_eq_true (by omega)) hk (by rw [hF]; simp) (decide_eq_true (by omega))
    rw [h.2.2.2.2.2, show fp_cnt (fun u => decide (u < 20)) 32 = 20 by decide] at h2
    omega
theorem fq_lfp_cg {C C' : Int32 → Prop} {base : Int32} (h : ∀ T, C T ↔ C' T) : fq_lfp C base = fq_lfp C' base := by
  have : C = C' := funext (fun T => propext (h T))
  rw [this]
theorem fx_bo_bt {a u : Nat} (ha : a < 32) (hu : u < 32) : bt (fx_bo (nI a)) u = decide (u = a) := by rw [fx_bo_n (by omega), fp_b1 a ha u hu]
theorem fx_bo_b9 {u : Nat} : bt (fx_bo (-9)) u = false := by rw [fx_bo_9, nI_0, b_0]
def fx_sm (w : fb_Wd) (d m : Nat) (so : Int32) (t : Nat) : Int32 := ((w.1 20 t ||| w.1 21 t) ||| fx_mb (xD w) d so (nI t) m) &&& (w.1 2 11 ^^^ -1)
def fx_sb (w : fb_Wd) (d m : Nat) (so mv : Int32) (t : Nat) : Int32 := ((fx_bo (w.1 15 t) ||| fx_bo (w.1 16 t)) ||| fx_mr (xD w) d so (nI t) m) &&& mv
theorem fx_mb_bt {D : Nat → Nat → Int32} {nt d m : Nat} {so : Int32} (hA : fd_A D nt d m) (hn : nt ≤ 20) {t u : Nat} (hu : u < 32) : bt (fx_mb D d so (nI t) m) u = true ↔ ∃ k, k < m ∧ bt so k = true ∧ D 9 (10 * d + k) = 1 ∧ D 10 (10 * d + k) = nI t ∧ D 11 (10 * d + k) = nI u := by
  unfold fx_mb
  rw [fp_orF_bt]
  constructor
  · rintro ⟨k, hk, h⟩
    obtain ⟨s, a, hs, es, ha, ea, hb1, hb2, -⟩ := hA.2.2.1 k hk
    split at h
    · rename_i q
      by_cases e1 : s = 1
      · obtain ⟨b, hb, -, eb⟩ := hb1 e1
        rw [eb, fx_bo_bt (by omega) hu] at h
        have e2 := of_decide_eq_true h
        subst e2
        exact ⟨k, hk, q.1, by rw [es, e1]; rfl, q.2, eb⟩
      · rw [hb2 e1, fx_bo_b9] at h; cases h
    · rw [nI_0, b_0] at h; cases h
  · rintro ⟨k, hk, h1, h2, h3, h4⟩
    refine ⟨k, hk, ?_⟩
    rw [if_pos ⟨h1, h3⟩, h4, fx_bo_bt hu hu]
    exact decide_eq_true rfl
theorem fx_mr_bt {D : Nat → Nat → Int32} {nt d m : Nat} {so : Int32} (hA : fd_A D nt d m) (hn : nt ≤ 20) {t u : Nat} (ht : t < 20) (hu : u < 32) : bt (fx_mr D d so (nI t) m) u = true ↔ ∃ k, k < m ∧ bt so k = true ∧ D 9 (10 * d + k) = 1 ∧ D 11 (10 * d + k) = nI t ∧ D 10 (10 * d + k) = nI u := by
  unfold fx_mr
  rw [fp_orF_bt]
  constructor
  · rintro ⟨k, hk, h⟩
    obtain ⟨s, a, hs, es, ha, ea, hb1, hb2, -⟩ := hA.2.2.1 k hk
    split at h
    · rename_i q
      have e1 : s = 1 := by
        by_cases z : s = 1
        · exact z
        · have q2 := q.2
          rw [hb2 z] at q2
          exact absurd q2.symm (nI_ne9 (by omega))
      rw [ea, fx_bo_bt (by omega) hu] at h
      have e2 := of_decide_eq_true h
      subst e2
      exact ⟨k, hk, q.1, by rw [es, e1]; rfl, q.2, ea⟩
    · rw [nI_0, b_0] at h; cases h
  · rintro ⟨k, hk, h1, h2, h3, h4⟩
    refine ⟨k, hk, ?_⟩
    rw [if_pos ⟨h1, h3⟩, h4, fx_bo_bt hu hu]
    exact decide_eq_true rfl
theorem fx_sm_bt {w : fb_Wd} {nt d m : Nat} {so : Int32} (hA : fd_A (xD w) nt d m) (hn : nt ≤ 20) (hT : xT w nt) {t u : Nat} (ht : t < 20) (hu : u < 32) : bt (fx_sm w d m so t) u = true ↔ ((u < nt ∧ xD w 3 u = nI t) ∨ (u < nt ∧ xD w 4 u = nI t) ∨ ∃ k, k < m ∧ bt so k = true ∧ xD w 9 (10 * d + k) = 1 ∧ xD w 10 (10 * d + k) = nI t ∧ xD w 11 (10 * d + k) = nI u) ∧ ¬ (u < nt ∧ xD w 0 u = 3) := by
  unfold fx_sm
  rw [b_and, b_or, b_or, b_not hu, hT.2.2.2.2.1 t ht u hu, hT.2.2.2.2.2.1 t ht u hu, hT.2.2.2.2.2.2.2 u hu, ← fx_mb_bt hA hn hu]
  simp only [Bool.and_eq_true, Bool.or_eq_true, decide_eq_true_eq, Bool.not_eq_true', decide_eq_false_iff_not, or_assoc]
  rfl
theorem fx_sm_lt {w : fb_Wd} {nt d m : Nat} {so : Int32} (hA : fd_A (xD w) nt d m) (hn : nt ≤ 20) (hT : xT w nt) {t : Nat} (ht : t < 20) : fp_lt nt (fx_sm w d m so t) := by
  intro u hu hu2
  cases h : bt (fx_sm w d m so t) u with
  | false => rfl
  | true =>
    rcases ((fx_sm_bt hA hn hT ht hu2).mp h).1 with ⟨q, -⟩ | ⟨q, -⟩ | ⟨k, hk, -, e1, -, e2⟩
    · omega
    · omega
    · obtain ⟨s, a, hs, es, ha, ea, hb1, -⟩ := hA.2.2.1 k hk
      have hs1 : s = 1 := (nI_eq (by omega) (by decide)).mp (es.symm.trans e1)
      obtain ⟨b, hb, -, eb⟩ := hb1 hs1
      have := (nI_eq (by omega) (by omega)).mp (eb.symm.trans e2)
      omega
theorem fx_clm {w : fb_Wd} {nt d m : Nat} {so : Int32} (hA : fd_A (xD w) nt d m) (hn : nt ≤ 20) (hD : fd_T (xD w) nt) (hT : xT w nt) (S : Int32) : fv_C (fx_sm w d m so) nt S ↔ fq_cl (fq_mP (xD w) nt d m so) (fq_mB (xD w) d m) S := by
  constructor
  · intro h
    refine fq_mP_cl (fun q hq hp => ?_)
    rcases Nat.lt_or_ge q m with hqm | hqm
    · obtain ⟨p1, p2, p3, p4⟩ := (fq_mP_a hqm).mp hp
      obtain ⟨s, a, hs, es, ha, ea, hb1, -⟩ := hA.2.2.1 q hqm
      have hs1 : s = 1 := (nI_eq (by omega) (by decide)).mp (es.symm.trans p2)
      obtain ⟨b, hb, -, eb⟩ := hb1 hs1
      rw [fq_mB_a hqm, eb, nI_clamp (by omega)]
      rw [ea, nI_clamp (by omega)] at p3
      rw [eb, nI_clamp (by omega)] at p4
      exact h a ha p3 b (by omega) ((fx_sm_bt hA hn hT (by omega) (by omega)).mpr ⟨Or.inr (Or.inr ⟨q, hqm, p1, p2, ea, eb⟩), fun z => p4 z.2⟩)
    · obtain ⟨t, rfl⟩ : ∃ t, q = m + t := ⟨q - m, by omega⟩
      have htn : t < nt := by omega
      obtain ⟨p1, p2⟩ := (fq_mP_t htn).mp hp
      rw [fq_mB_t]
      rcases p1 with ⟨n9, pb⟩ | ⟨n9, pb⟩
      · obtain ⟨u, hu, eu⟩ := (hD t htn).2.2.2.1.resolve_left n9
        rw [eu, nI_clamp (by omega)] at pb
        exact h u (by omega) pb t (by omega) ((fx_sm_bt hA hn hT (by omega) (by omega)).mpr ⟨Or.inl ⟨htn, eu⟩, fun z => p2 z.2⟩)
      · obtain ⟨u, hu, eu⟩ := (hD t htn).2.2.2.2.resolve_left n9
        rw [eu, nI_clamp (by omega)] at pb
        exact h u (by omega) pb t (by omega) ((fx_sm_bt hA hn hT (by omega) (by omega)).mpr ⟨Or.inr (Or.inl ⟨htn, eu⟩), fun z => p2 z.2⟩)
  · intro h t ht hb u hu hs
    obtain ⟨p1, p2⟩ := (fx_sm_bt hA hn hT (by omega) hu).mp hs
    rcases p1 with ⟨hun, e⟩ | ⟨hun, e⟩ | ⟨k, hk, q1, q2, q3, q4⟩
    · have z := h (m + u) ((fq_mP_t hun).mpr ⟨Or.inl ⟨by rw [e]; exact nI_ne9 (by omega), by rw [e, nI_clamp (by omega)]; exact hb⟩, fun y => p2 ⟨hun, y⟩⟩)
      rw [fq_mB_t] at z
      exact z
    · have z := h (m + u) ((fq_mP_t hun).mpr ⟨Or.inr ⟨by rw [e]; exact nI_ne9 (by omega), by rw [e, nI_clamp (by omega)]; exact hb⟩, fun y => p2 ⟨hun, y⟩⟩)
      rw [fq_mB_t] at z
      exact z
    · obtain ⟨s, a, hs', es, ha, ea, hb1, -⟩ := hA.2.2.1 k hk
      have hs1 : s = 1 := (nI_eq (by omega) (by decide)).mp (es.symm.trans q2)
      obtain ⟨b, hbn, -, eb⟩ := hb1 hs1
      have hun : u = b := (nI_eq (by omega) (by omega)).mp (q4.symm.trans eb)
      have z := h k ((fq_mP_a hk).mpr ⟨q1, q2, by rw [q3, nI_clamp (by omega)]; exact hb, by rw [q4, nI_clamp (by omega)]; exact fun y => p2 ⟨by omega, y⟩⟩)
      rw [fq_mB_a hk, q4, nI_clamp (by omega)] at z
      exact z
theorem fx_bs_eq {w : fb_Wd} {nt d m : Nat} (hA : fd_A (xD w) nt d m) (hn : nt ≤ 20) (hT : xT w nt) (so : Int32) : fx_ac (xD w) d so (nI 0) m &&& w.1 2 10 = fs_bs (xD w) d so m := by
  apply b_ext
  intro i hi
  apply Bool.eq_iff_iff.mpr
  rw [b_and, Bool.and_eq_true, hT.2.2.2.2.2.2.1 i hi, decide_eq_true_eq]
  unfold fx_ac fs_bs
  rw [fp_orF_bt, fp_orF_bt]
  constructor
  · rintro ⟨⟨k, hk, h⟩, hin, hk0⟩
    refine ⟨k, hk, ?_⟩
    obtain ⟨s, a, hs, es, ha, ea, -⟩ := hA.2.2.1 k hk
    split at h
    · rename_i q
      rw [ea, fx_bo_bt (by omega) hi] at h
      have e := of_decide_eq_true h
      subst e
      rw [ea, nI_clamp (by omega), if_pos ⟨q.2, by rw [q.1]; rfl, hk0⟩, fp_b1 i hi i hi]
      exact decide_eq_true rfl
    · rw [nI_0, b_0] at h; cases h
  · rintro ⟨k, hk, h⟩
    obtain ⟨s, a, hs, es, ha, ea, -⟩ := hA.2.2.1 k hk
    split at h
    · rename_i q
      rw [ea, fp_b1 a (by omega) i hi] at h
      have e := of_decide_eq_true h
      subst e
      rw [ea, nI_clamp (by omega)] at q
      exact ⟨⟨k, hk, by rw [if_pos ⟨by rw [q.2.1]; rfl, q.1⟩, ea, fx_bo_bt hi hi]; exact decide_eq_true rfl⟩, ha, q.2.2⟩
    · rw [nI_0, b_0] at h; cases h
theorem fx_sb_bt {w : fb_Wd} {nt d m : Nat} {so mv : Int32} (hA : fd_A (xD w) nt d m) (hn : nt ≤ 20) (hD : fd_T (xD w) nt) {t u : Nat} (ht : t < nt) (hu : u < 32) : bt (fx_sb w d m so mv t) u = true ↔ (xD w 3 t = nI u ∨ xD w 4 t = nI u ∨ ∃ k, k < m ∧ bt so k = true ∧ xD w 9 (10 * d + k) = 1 ∧ xD w 11 (10 * d + k) = nI t ∧ xD w 10 (10 * d + k) = nI u) ∧ bt mv u = true := by
  have h1 : ∀ x : Int32, (x = -9 ∨ ∃ v, v < 20 ∧ x = nI v) → (bt (fx_bo x) u = true ↔ x = nI u) := by
    rintro x (rfl | ⟨v, hv, rfl⟩)
    · rw [fx_bo_b9]
      exact ⟨fun z => absurd z (by decide), fun z => absurd z.symm (nI_ne9 (by omega))⟩
    · rw [fx_bo_bt (by omega) hu, decide_eq_true_eq, nI_eq (by omega) (by omega)]
      exact ⟨fun z => z.symm, fun z => z.symm⟩
  have a1 := h1 (w.1 15 t) ((hD t ht).2.2.2.1.imp id (fun ⟨v, hv, e⟩ => ⟨v, by omega, e⟩))
  have a2 := h1 (w.1 16 t) ((hD t ht).2.2.2.2.imp id (fun ⟨v, hv, e⟩ => ⟨v, by omega, e⟩))
  unfold fx_sb
  rw [b_and, Bool.and_eq_true, b_or, Bool.or_eq_true, b_or, Bool.or_eq_true, a1, a2, fx_mr_bt hA hn (by omega) hu, or_assoc]
  rfl
theorem fx_clb {w : fb_Wd} {nt d m : Nat} {so mv : Int32} (hA : fd_A (xD w) nt d m) (hn : nt ≤ 20) (hD : fd_T (xD w) nt) (S : Int32) : fv_C (fx_sb w d m so mv) nt S ↔ fq_cl (fq_bP (xD w) nt d m so mv) (fq_bB (xD w) d m) S := by
  constructor
  · intro h
    refine fq_bP_cl (fun q hq hp => ?_)
    rcases Nat.lt_or_ge q m with hqm | hqm
    · obtain ⟨p1, p2, p3, p4⟩ := (fq_bP_a hqm).mp hp
      obtain ⟨s, a, hs, es, ha, ea, hb1, -⟩ := hA.2.2.1 q hqm
      have hs1 : s = 1 := (nI_eq (by omega) (by decide)).mp (es.symm.trans p2)
      obtain ⟨b, hb, -, eb⟩ := hb1 hs1
      rw [fq_bB_a hqm, ea, nI_clamp (by omega)]
      rw [eb, nI_clamp (by omega)] at p3
      rw [ea, nI_clamp (by omega)] at p4
      exact h b hb p3 a (by omega) ((fx_sb_bt hA hn hD hb (by omega)).mpr ⟨Or.inr (Or.inr ⟨q, hqm, p1, p2, eb, ea⟩), p4⟩)
    · obtain ⟨t, ht⟩ : ∃ t, q = m + 2 * t ∨ q = m + 2 * t + 1 := ⟨(q - m) / 2, by omega⟩
      have htn : t < nt := by omega
      rcases ht with rfl | rfl
      · obtain ⟨p1, p2, p3⟩ := (fq_bP_w htn).mp hp
        obtain ⟨u, hu, eu⟩ := (hD t htn).2.2.2.1.resolve_left p2
        rw [fq_bB_w, eu, nI_clamp (by omega)]
        rw [eu, nI_clamp (by omega)] at p3
        exact h t htn p1 u (by omega) ((fx_sb_bt hA hn hD htn (by omega)).mpr ⟨Or.inl eu, p3⟩)
      · obtain ⟨p1, p2, p3⟩ := (fq_bP_o htn).mp hp
        obtain ⟨u, hu, eu⟩ := (hD t htn).2.2.2.2.resolve_left p2
        rw [fq_bB_o, eu, nI_clamp (by omega)]
        rw [eu, nI_clamp (by omega)] at p3
        exact h t htn p1 u (by omega) ((fx_sb_bt hA hn hD htn (by omega)).mpr ⟨Or.inr (Or.inl eu), p3⟩)
  · intro h t ht hb u hu hs
    obtain ⟨p1, p2⟩ := (fx_sb_bt hA hn hD ht hu).mp hs
    rcases p1 with e | e | ⟨k, hk, q1, q2, q3, q4⟩
    · have z := h (m + 2 * t) ((fq_bP_w ht).mpr ⟨hb, by rw [e]; exact nI_ne9 (by omega), by rw [e, nI_clamp (by omega)]; exact p2⟩)
      rw [fq_bB_w, e, nI_clamp (by omega)] at z
      exact z
    · have z := h (m + 2 * t + 1) ((fq_bP_o ht).mpr ⟨hb, by rw [e]; exact nI_ne9 (by omega), by rw [e, nI_clamp (by omega)]; exact p2⟩)
      rw [fq_bB_o, e, nI_clamp (by omega)] at z
      exact z
    · have z := h k ((fq_bP_a hk).mpr ⟨q1, q2, by rw [q3, nI_clamp (by omega)]; exact hb, by rw [q4, nI_clamp (by omega)]; exact p2⟩)
      rw [fq_bB_a hk, q4, nI_clamp (by omega)] at z
      exact z
theorem fx_mv_eq {w : fb_Wd} {nt d m : Nat} {so : Int32} (hA : fd_A (xD w) nt d m) (hn : nt ≤ 20) (hD : fd_T (xD w) nt) (hT : xT w nt) : fq_lfp (fv_C (fx_sm w d m so) nt) (fs_bs (xD w) d so m) = fs_mv (xD w) nt d m so := fq_lfp_cg (fx_clm hA hn hD hT)
theorem fx_bl_eq {w : fb_Wd} {nt d m : Nat} {so : Int32} (hA : fd_A (xD w) nt d m) (hn : nt ≤ 20) (hD : fd_T (xD w) nt) : fq_lfp (fv_C (fx_sb w d m so (fs_mv (xD w) nt d m so)) nt) (fs_ht (xD w) d so m &&& fs_mv (xD w) nt d m so) = fs_bl (xD w) nt d m so := fq_lfp_cg (fx_clb hA hn hD)
theorem fv_lt {sc : Nat → Int32} {nt : Nat} {base : Int32} (h0 : fp_lt nt base) (hn : nt ≤ 20) (hs : ∀ t, t < nt → fp_lt nt (sc t)) : fp_lt nt (fq_lfp (fv_C sc nt) base) := by
  intro i h1 h2
  unfold fq_lfp
  rw [fp_mk_bt _ 32 (Nat.le_refl _) i h2]
  have : (@decide (∀ S, fv_C sc nt S → fp_sub base S → bt S i = true) (Classical.propDecidable _)) = false := by
    refine @decide_eq_false _ (Classical.propDecidable _) (fun q => ?_)
    have z := q (fp_mk (fun u => decide (u < nt)) 32) (fun t ht _ u hu hb => by
      rw [fp_mk_bt _ 32 (Nat.le_refl _) u hu, decide_eq_true hu]
      exact decide_eq_true (fp_lt_bt (hs t ht) hb)) (fun u hu hb => by
      rw [fp_mk_bt _ 32 (Nat.le_refl _) u hu, decide_eq_true hu]
      exact decide_eq_true (fp_lt_bt h0 hb))
    rw [fp_mk_bt _ 32 (Nat.le_refl _) i h2, decide_eq_true h2, decide_eq_false (show ¬ i < nt by omega)] at z
    cases z
  rw [this]; simp
theorem fs_mv_lt {w : fb_Wd} {nt d m : Nat} {so : Int32} (hA : fd_A (xD w) nt d m) (hn : nt ≤ 20) (hD : fd_T (xD w) nt) (hT : xT w nt) : fp_lt nt (fs_mv (xD w) nt d m so) := by
  rw [← fx_mv_eq hA hn hD hT]
  exact fv_lt (fs_lt hA hn so).1 hn (fun t ht => fx_sm_lt hA hn hT (by omega))
theorem c_X2_whatMoves {l : Launch} {w : fb_Wd} {P : Int32 → fb_Wd → Prop} {d m nt nd nx ng : Nat} {so : Int32} (hX : XI w nt nd nx ng) (hdn : d < nd) (hA : fd_A (xD w) nt d m) (hp : P (fs_mv (xD w) nt d m so) w) : fb_Can l tX2_whatMoves [.ref 6, .int (nI d), .int so] w (fb_kI P) := by
  refine fb_intro 5 fk_t_X2_whatMoves (by decide) rfl (fun X hX h => ?_)
  subst hX
  change fb_AW tX2_whatMoves X 0 [some (.ref 6), some (.int (nI d)), some (.int so), none, none, none, none, none] [] w
  have hn := hX.1.1.2
  have hnd := hX.1.2.1.2
  have hD := hX.2.1
  have hT := hX.2.2.2.1
  have hm2 := hA.2.1
  have hb0 := (fs_lt hA hn so).1
  refine fw_aload_n h rfl rfl ?_
  refine fw_getR _ h rfl fk_g_X2_29 rfl rfl ?_
  refine fw_iload_n h rfl rfl ?_
  refine fw_iload_n h rfl rfl ?_
  refine fw_iconst h (nI 0) rfl (by decide) ?_
  refine fw_v3I h rfl fk_v_X0_actors fk_l_X2_51 rfl rfl rfl rfl ?_
  refine c_X0_actors (by omega) hA.1 hm2 ?_
  refine fw_aload_n h rfl rfl ?_
  refine fw_getR _ h rfl fk_g_X2_25 rfl rfl ?_
  refine fw_getI h rfl fk_g_X2_55 rfl rfl ?_
  refine fw_iand h rfl ?_
  rw [fx_bs_eq hA hn hT]
  refine fw_istore_n h [_, _, _, _, _, _, _, _] rfl rfl rfl rfl ?_
  refine fw_iload_n h rfl rfl ?_
  refine fw_istore h [_, _, _, _, _, _, _, _] rfl rfl rfl rfl ?_
  refine fw_iconst h (nI 0) rfl (by decide) ?_
  refine fw_istore h [_, _, _, _, _, _, _, _] rfl rfl rfl rfl ?_
  refine (?_ : ∀ S F, fv_I (fx_sm w d m so) nt (fs_bs (xD w) d so m) S F 0 → fb_AW tX2_whatMoves X 25 [some (.ref 6), some (.int (nI d)), some (.int so), some (.int S), some (.int F), some (.int (nI 0)), none, none] [] w) _ _ (fv_I_0 hb0)
  refine fb_loop (fun i => ∀ S F, fv_I (fx_sm w d m so) nt (fs_bs (xD w) d so m) S F i → fb_AW tX2_whatMoves X 25 [some (.ref 6), some (.int (nI d)), some (.int so), some (.int S), some (.int F), some (.int (nI i)), none, none] [] w) (20) ?_ (fun i hi ih => ?_) 0 (Nat.zero_le _)
  · intro S F hI
    refine fw_iload h rfl rfl ?_
    refine fw_bipush h (nI 20) rfl (by decide) ?_
    refine fw_icmp_ge h rfl (fun c29 => ?_) (fun c29 => False.elim (c29 (by decide)))
    refine fw_iload_n h rfl rfl ?_
    exact fw_iret h rfl rfl ⟨_, rfl, by
    have eF := fv_I_20 hn hI
    subst eF
    rw [← fx_mv_eq hA hn hD hT, ← fv_I_e hI] at hp; exact hp⟩
  · intro S F hI
    refine fw_iload h rfl rfl ?_
    refine fw_bipush h (nI 20) rfl (by decide) ?_
    refine fw_icmp_ge h rfl (fun c29 => False.elim (nI_ge hi (by decide) c29)) (fun c29 => ?_)
    refine fw_iload h rfl rfl ?_
    refine fw_if_eq h rfl (fun c34 => ?_) (fun c34 => ?_)
    · refine fw_iload_n h rfl rfl ?_
      exact fw_iret h rfl rfl ⟨_, rfl, by
    have eF := c34
    subst eF
    rw [← fx_mv_eq hA hn hD hT, ← fv_I_e hI] at hp; exact hp⟩
    · refine fw_iload h rfl rfl ?_
      refine fw_s1I h rfl fk_s_J6_numberOfTrailingZeros_0f7a4 fk_l_X2_60 rfl rfl ?_
      obtain ⟨t, ht, hbt, hlow⟩ := fx_least c34 (fp_lt_le (n := nt) (k := 20) (fun u h1 h2 => by cases hb : bt F u with
        | false => rfl
        | true => exact absurd (fp_subt hI.2.1 hb) (by rw [hI.2.2.2.2.1 u h1 h2]; decide)) (by omega))
      have htn : t < nt := fp_lt_bt hI.2.2.2.2.1 (fp_subt hI.2.1 hbt)
      refine c_ntz ht hbt hlow ?_
      refine fw_istore h [_, _, _, _, _, _, _, _] rfl rfl rfl rfl ?_
      refine fw_aload_n h rfl rfl ?_
      refine fw_getR _ h rfl fk_g_X2_25 rfl rfl ?_
      refine fw_iload h rfl rfl ?_
      refine fw_v1I h rfl fk_v_X6_borneBy fk_l_X2_65 rfl rfl rfl rfl ?_
      refine c_X6_borneBy (by omega) ?_
      refine fw_aload_n h rfl rfl ?_
      refine fw_getR _ h rfl fk_g_X2_29 rfl rfl ?_
      refine fw_iload_n h rfl rfl ?_
      refine fw_iload_n h rfl rfl ?_
      refine fw_iload h rfl rfl ?_
      refine fw_v3I h rfl fk_v_X0_movedBy fk_l_X2_68 rfl rfl rfl rfl ?_
      refine c_X0_movedBy (by omega) hA.1 hm2 ?_
      refine fw_ior h rfl ?_
      refine fw_aload_n h rfl rfl ?_
      refine fw_getR _ h rfl fk_g_X2_25 rfl rfl ?_
      refine fw_getI h rfl fk_g_X2_71 rfl rfl ?_
      refine fw_iconst h (-1) rfl (by decide) ?_
      refine fw_ixor h rfl ?_
      refine fw_iand h rfl ?_
      refine fw_iload_n h rfl rfl ?_
      refine fw_iconst h (-1) rfl (by decide) ?_
      refine fw_ixor h rfl ?_
      refine fw_iand h rfl ?_
      refine fw_istore h [_, _, _, _, _, _, _, _] rfl rfl rfl rfl ?_
      refine fw_iload_n h rfl rfl ?_
      refine fw_iload h rfl rfl ?_
      refine fw_ior h rfl ?_
      refine fw_istore_n h [_, _, _, _, _, _, _, _] rfl rfl rfl rfl ?_
      refine fw_iload h rfl rfl ?_
      refine fw_iload h rfl rfl ?_
      refine fw_s1I h rfl fk_s_X7_bitOf fk_l_X2_74 rfl rfl ?_
      refine c_X7_bitOfN (by omega) ?_
      refine fw_iconst h (-1) rfl (by decide) ?_
      refine fw_ixor h rfl ?_
      refine fw_iand h rfl ?_
      refine fw_iload h rfl rfl ?_
      refine fw_ior h rfl ?_
      refine fw_istore h [_, _, _, _, _, _, _, _] rfl rfl rfl rfl ?_
      first | refine fn_iinc h [_, _, _, _, _, _, _, _] rfl rfl rfl rfl rfl ?_ | refine fw_iinc h 1 [_, _, _, _, _, _, _, _] rfl (by decide) rfl rfl rfl rfl ?_
      refine fw_goto h rfl ?_
      refine fw_sub (fb_pad_c (Or.inr rfl) (fb_pad_c (Or.inr rfl) (fb_pad_c (Or.inr rfl) (fb_pad_c (Or.inr rfl) (fb_pad_c (Or.inr rfl) (fb_pad_c (Or.inr rfl) (fb_pad_c (Or.inl rfl) (fb_pad_c (Or.inl rfl) (fb_pad_n))))))))) ?_
      exact ih _ _ (fv_I_s (by omega) hI hbt (fx_sm_lt hA hn hT (by omega)))
theorem c_X2_whatIsToBlame {l : Launch} {w : fb_Wd} {P : Int32 → fb_Wd → Prop} {ht mv : Int32} {d m nt nd nx ng : Nat} {so : Int32} (hX : XI w nt nd nx ng) (hdn : d < nd) (hA : fd_A (xD w) nt d m) (emv : mv = fs_mv (xD w) nt d m so) (eht : ht = fs_ht (xD w) d so m) (hp : P (fs_bl (xD w) nt d m so) w) : fb_Can l tX2_whatIsToBlame [.ref 6, .int (nI d), .int so, .int mv, .int ht] w (fb_kI P) := by
  refine fb_intro 5 fk_t_X2_whatIsToBlame (by decide) rfl (fun X hX h => ?_)
  subst hX
  change fb_AW tX2_whatIsToBlame X 0 [some (.ref 6), some (.int (nI d)), some (.int so), some (.int mv), some (.int ht), none, none, none, none, none] [] w
  have hn := hX.1.1.2
  have hnd := hX.1.2.1.2
  have hD := hX.2.1
  have hT := hX.2.2.2.1
  have hm2 := hA.2.1
  have hmv : fp_lt nt mv := by rw [emv]; exact fs_mv_lt hA hn hD hT
  have hht : fp_lt nt ht := by rw [eht]; exact (fs_lt hA hn so).2
  have hb0 : fp_lt nt (ht &&& mv) := fp_lt_and _ hht
  have ebl : fq_lfp (fv_C (fx_sb w d m so mv) nt) (ht &&& mv) = fs_bl (xD w) nt d m so := by rw [emv, eht]; exact fx_bl_eq hA hn hD
  refine fw_iload h rfl rfl ?_
  refine fw_iload_n h rfl rfl ?_
  refine fw_iand h rfl ?_
  refine fw_istore h [_, _, _, _, _, _, _, _, _, _] rfl rfl rfl rfl ?_
  refine fw_iload h rfl rfl ?_
  refine fw_istore h [_, _, _, _, _, _, _, _, _, _] rfl rfl rfl rfl ?_
  refine fw_iconst h (nI 0) rfl (by decide) ?_
  refine fw_istore h [_, _, _, _, _, _, _, _, _, _] rfl rfl rfl rfl ?_
  refine (?_ : ∀ S F, fv_I (fx_sb w d m so mv) nt (ht &&& mv) S F 0 → fb_AW tX2_whatIsToBlame X 13 [some (.ref 6), some (.int (nI d)), some (.int so), some (.int mv), some (.int ht), some (.int S), some (.int F), some (.int (nI 0)), none, none] [] w) _ _ (fv_I_0 hb0)
  refine fb_loop (fun i => ∀ S F, fv_I (fx_sb w d m so mv) nt (ht &&& mv) S F i → fb_AW tX2_whatIsToBlame X 13 [some (.ref 6), some (.int (nI d)), some (.int so), some (.int mv), some (.int ht), some (.int S), some (.int F), some (.int (nI i)), none, none] [] w) (20) ?_ (fun i hi ih => ?_) 0 (Nat.zero_le _)
  · intro S F hI
    refine fw_iload h rfl rfl ?_
    refine fw_bipush h (nI 20) rfl (by decide) ?_
    refine fw_icmp_ge h rfl (fun c17 => ?_) (fun c17 => False.elim (c17 (by decide)))
    refine fw_iload h rfl rfl ?_
    exact fw_iret h rfl rfl ⟨_, rfl, by
    have eF := fv_I_20 hn hI
    subst eF
    rw [← ebl, ← fv_I_e hI] at hp; exact hp⟩
  · intro S F hI
    refine fw_iload h rfl rfl ?_
    refine fw_bipush h (nI 20) rfl (by decide) ?_
    refine fw_icmp_ge h rfl (fun c17 => False.elim (nI_ge hi (by decide) c17)) (fun c17 => ?_)
    refine fw_iload h rfl rfl ?_
    refine fw_if_eq h rfl (fun c22 => ?_) (fun c22 => ?_)
    · refine fw_iload h rfl rfl ?_
      exact fw_iret h rfl rfl ⟨_, rfl, by
    have eF := c22
    subst eF
    rw [← ebl, ← fv_I_e hI] at hp; exact hp⟩
    · refine fw_iload h rfl rfl ?_
      refine fw_s1I h rfl fk_s_J6_numberOfTrailingZeros_0f7a4 fk_l_X2_60 rfl rfl ?_
      obtain ⟨t, ht, hbt, hlow⟩ := fx_least c22 (fp_lt_le (n := nt) (k := 20) (fun u h1 h2 => by cases hb : bt F u with
        | false => rfl
        | true => exact absurd (fp_subt hI.2.1 hb) (by rw [hI.2.2.2.2.1 u h1 h2]; decide)) (by omega))
      have htn : t < nt := fp_lt_bt hI.2.2.2.2.1 (fp_subt hI.2.1 hbt)
      refine c_ntz ht hbt hlow ?_
      refine fw_istore h [_, _, _, _, _, _, _, _, _, _] rfl rfl rfl rfl ?_
      refine fw_aload_n h rfl rfl ?_
      refine fw_getR _ h rfl fk_g_X2_25 rfl rfl ?_
      refine fw_iload h rfl rfl ?_
      refine fw_v1I h rfl fk_v_X6_bearersOf fk_l_X2_77 rfl rfl rfl rfl ?_
      refine c_X6_bearersOf (by omega) ?_
      refine fw_aload_n h rfl rfl ?_
      refine fw_getR _ h rfl fk_g_X2_29 rfl rfl ?_
      refine fw_iload_n h rfl rfl ?_
      refine fw_iload_n h rfl rfl ?_
      refine fw_iload h rfl rfl ?_
      refine fw_v3I h rfl fk_v_X0_moversOf fk_l_X2_80 rfl rfl rfl rfl ?_
      refine c_X0_moversOf (by omega) hA.1 hm2 ?_
      refine fw_ior h rfl ?_
      refine fw_iload_n h rfl rfl ?_
      refine fw_iand h rfl ?_
      refine fw_iload h rfl rfl ?_
      refine fw_iconst h (-1) rfl (by decide) ?_
      refine fw_ixor h rfl ?_
      refine fw_iand h rfl ?_
      refine fw_istore h [_, _, _, _, _, _, _, _, _, _] rfl rfl rfl rfl ?_
      refine fw_iload h rfl rfl ?_
      refine fw_iload h rfl rfl ?_
      refine fw_ior h rfl ?_
      refine fw_istore h [_, _, _, _, _, _, _, _, _, _] rfl rfl rfl rfl ?_
      refine fw_iload h rfl rfl ?_
      refine fw_iload h rfl rfl ?_
      refine fw_s1I h rfl fk_s_X7_bitOf fk_l_X2_74 rfl rfl ?_
      refine c_X7_bitOfN (by omega) ?_
      refine fw_iconst h (-1) rfl (by decide) ?_
      refine fw_ixor h rfl ?_
      refine fw_iand h rfl ?_
      refine fw_iload h rfl rfl ?_
      refine fw_ior h rfl ?_
      refine fw_istore h [_, _, _, _, _, _, _, _, _, _] rfl rfl rfl rfl ?_
      first | refine fn_iinc h [_, _, _, _, _, _, _, _, _, _] rfl rfl rfl rfl rfl ?_ | refine fw_iinc h 1 [_, _, _, _, _, _, _, _, _, _] rfl (by decide) rfl rfl rfl rfl ?_
      refine fw_goto h rfl ?_
      refine fw_sub (fb_pad_c (Or.inr rfl) (fb_pad_c (Or.inr rfl) (fb_pad_c (Or.inr rfl) (fb_pad_c (Or.inr rfl) (fb_pad_c (Or.inr rfl) (fb_pad_c (Or.inr rfl) (fb_pad_c (Or.inr rfl) (fb_pad_c (Or.inr rfl) (fb_pad_c (Or.inl rfl) (fb_pad_c (Or.inl rfl) (fb_pad_n))))))))))) ?_
      exact ih _ _ (fv_I_s (by omega) hI hbt (fun u h1 h2 => by unfold fx_sb; rw [b_and, hmv u h1 h2, Bool.and_false]))
