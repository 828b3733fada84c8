abbrev fg_G : Type := (Nat → Nat → Int32) × (Nat → Int32) × (Nat → Int32) × (Int32 × Int32) × (Nat → Int32) × (Int64 × Int64)
def fg_Rw (G : fg_G) (z : Int32) (s f : Nat → Int32) : Prop := ∀ r, r < 6 → (G.2.1 r = -1 ∧ s r = z) ∨ (∃ n, n ≤ 40 ∧ G.2.1 r = nI n ∧ s r = nI n ∧ ∀ k, k < n → f (40 * r + k) = G.2.2.1 (40 * r + k))
def fg_RM (G : fg_G) (w : fb_Wd) : Prop := mD w = G.1 ∧ fg_Rw G (-9) (w.1 48) (w.1 49) ∧ (w.1 46 2 = G.2.2.2.1.1 ∧ w.1 46 0 = G.2.2.2.1.2) ∧ w.1 47 = G.2.2.2.2.1 ∧ (w.2 46 3 = G.2.2.2.2.2.1 ∧ w.2 46 4 = G.2.2.2.2.2.2)
def fg_fx (w w' : fb_Wd) : Prop := ∀ c, c < 46 → w'.1 c = w.1 c ∧ w'.2 c = w.2 c
theorem fg_fx_rf (w : fb_Wd) : fg_fx w w := fun _ _ => ⟨rfl, rfl⟩
theorem fg_fx_tr {a b c : fb_Wd} (h1 : fg_fx a b) (h2 : fg_fx b c) : fg_fx a c := fun q hq => ⟨(h2 q hq).1.trans (h1 q hq).1, (h2 q hq).2.trans (h1 q hq).2⟩
theorem fg_fx_up (w : fb_Wd) {c : Nat} (k : Nat) (x : Int32) (hc : 46 ≤ c) : fg_fx w (fb_up w c k x) := by
  intro q hq
  refine ⟨?_, rfl⟩
  funext b
  have : ¬ q = c := by omega
  simp [fb_up, this]
theorem fg_fx_ul (w : fb_Wd) {c : Nat} (k : Nat) (x : Int64) (hc : 46 ≤ c) : fg_fx w (fb_ul w c k x) := by
  intro q hq
  refine ⟨rfl, ?_⟩
  funext b
  have : ¬ q = c := by omega
  simp [fb_ul, this]
theorem fg_fx_sW {p : List Nat} {w w' : fb_Wd} (h : sW p w w') : fg_fx w w' := fun q hq => ⟨h.1 q (by omega) (by omega), by rw [h.2.2]⟩
theorem fg_RM_sW {p : List Nat} {G : fg_G} {w w' : fb_Wd} (h : sW p w w') (hp : (8 ∉ p ∧ 14 ∉ p ∧ 27 ∉ p ∧ 38 ∉ p) ∧ 0 ∉ p ∧ 2 ∉ p) (hR : fg_RM G w) : fg_RM G w' := by
  obtain ⟨h1, h2, ⟨h3, h4⟩, h5, h6, h7⟩ := hR
  refine ⟨(h.mD hp.1).trans h1, ?_, ⟨(h.2.1 2 hp.2.2).trans h3, (h.2.1 0 hp.2.1).trans h4⟩, (h.1 47 (by decide) (by decide)).trans h5, by rw [h.2.2]; exact h6, by rw [h.2.2]; exact h7⟩
  rw [h.1 48 (by decide) (by decide), h.1 49 (by decide) (by decide)]
  exact h2
def fg_ask (G : fg_G) (v : Int32) : fg_G := (G.1, G.2.1, G.2.2.1, (v, G.2.2.2.1.2), G.2.2.2.2)
def fg_met (G : fg_G) (f : Nat) : fg_G := (G.1, G.2.1, G.2.2.1, (G.2.2.2.1.1, nI f), upd G.2.2.2.2.1 f (G.2.2.2.2.1 f + 1), G.2.2.2.2.2)
theorem mD_up0 (w : fb_Wd) (k : Nat) (x : Int32) (hk : k ≠ 8 ∧ k ≠ 14 ∧ k ≠ 27 ∧ k ≠ 38) : mD (fb_up w 46 k x) = mD w := sM.mD (p := [k]) ((sM.rf [k] w).up k x (by simp)) (by simp; omega)
theorem fg_RM_ask {G : fg_G} {w : fb_Wd} (hR : fg_RM G w) (v : Int32) : fg_RM (fg_ask G v) (fb_up w 46 2 v) := by
  obtain ⟨h1, h2, ⟨h3, h4⟩, h5, h6, h7⟩ := hR
  exact ⟨(mD_up0 w 2 v (by decide)).trans h1, h2, ⟨rfl, h4⟩, h5, h6, h7⟩
theorem mD_up47 (w : fb_Wd) (k : Nat) (x : Int32) : mD (fb_up w 47 k x) = mD w := by
  funext i
  match i with
  | 0 | 1 | 2 | 3 | 4 | 5 | 6 | 7 | 8 | 9 | 10 | 11 | 12 | 13 | 14 | 15 | 16 | 17 | 18 | 19 | 20 | 21 | 22 | 23 => rfl
  | i + 24 => rfl
theorem fg_RM_met {G : fg_G} {w : fb_Wd} (hR : fg_RM G w) (f : Nat) : fg_RM (fg_met G f) (fb_up (fb_up w 46 0 (nI f)) 47 f (w.1 47 f + 1)) := by
  obtain ⟨h1, h2, ⟨h3, h4⟩, h5, h6, h7⟩ := hR
  refine ⟨(mD_up47 _ f _).trans ((mD_up0 w 0 (nI f) (by decide)).trans h1), h2, ⟨h3, rfl⟩, ?_, h6, h7⟩
  show (fun b => if b = f then w.1 47 f + 1 else w.1 47 b) = upd G.2.2.2.2.1 f (G.2.2.2.2.1 f + 1)
  rw [← h5]
  rfl
theorem fg_fx_met (w : fb_Wd) (f : Nat) (x y : Int32) : fg_fx w (fb_up (fb_up w 46 0 x) 47 f y) := fg_fx_tr (fg_fx_up w 0 x (by decide)) (fg_fx_up _ f y (by decide))
def fg_is (n : Nat) (x : Int32) : Prop := 0 ≤ x ∧ x < nI n
theorem fg_is_of {n j : Nat} (h : j < n) (hn : n < 2 ^ 31) : fg_is n (nI j) := ⟨nI_pos' (by omega), nI_lt h hn⟩
theorem fg_is_ex {n : Nat} {x : Int32} (hn : n < 2 ^ 31) : fg_is n x ↔ ∃ j, j < n ∧ x = nI j := by
  constructor
  · rintro ⟨h0, h1⟩
    obtain ⟨j, hj, e⟩ := nI_of (Int32.not_lt.mpr h0)
    subst e
    exact ⟨j, (nI_ltI hj hn).mp h1, rfl⟩
  · rintro ⟨j, hj, rfl⟩
    exact fg_is_of hj hn
theorem c_X8_asked {l : Launch} {w : fb_Wd} {P : Int32 → fb_Wd → Prop} {G : fg_G} (hR : fg_RM G w) (hp : P G.2.2.2.1.1 w) : fb_Can l tX8_asked [.ref 46] w (fb_kI P) := by
  refine fb_intro 0 fk_t_X8_asked (by decide) rfl (fun X hX h => ?_)
  subst hX
  change fb_AW tX8_asked X 0 [some (.ref 46)] [] w
  refine fw_aload_n h rfl rfl ?_
  refine fw_getI h rfl fk_g_X8_103 rfl rfl ?_
  exact fw_iret h rfl rfl ⟨_, rfl, by rw [← hR.2.2.1.1] at hp; exact hp⟩
theorem c_X8_finding {l : Launch} {w : fb_Wd} {P : Int32 → fb_Wd → Prop} {G : fg_G} (hR : fg_RM G w) (hp : P G.2.2.2.1.2 w) : fb_Can l tX8_finding [.ref 46] w (fb_kI P) := by
  refine fb_intro 0 fk_t_X8_finding (by decide) rfl (fun X hX h => ?_)
  subst hX
  change fb_AW tX8_finding X 0 [some (.ref 46)] [] w
  refine fw_aload_n h rfl rfl ?_
  refine fw_getI h rfl fk_g_X8_99 rfl rfl ?_
  exact fw_iret h rfl rfl ⟨_, rfl, by rw [← hR.2.2.1.2] at hp; exact hp⟩
theorem c_X8_upper {l : Launch} {w : fb_Wd} {P : Int64 → fb_Wd → Prop} {G : fg_G} (hR : fg_RM G w) (hp : P G.2.2.2.2.2.1 w) : fb_Can l tX8_upper [.ref 46] w (fb_kL P) := by
  refine fb_intro 0 fk_t_X8_upper (by decide) rfl (fun X hX h => ?_)
  subst hX
  change fb_AW tX8_upper X 0 [some (.ref 46)] [] w
  refine fw_aload_n h rfl rfl ?_
  refine fw_getL h rfl fk_g_X8_106 rfl rfl ?_
  exact fw_lret h rfl rfl ⟨_, rfl, by rw [← hR.2.2.2.2.1] at hp; exact hp⟩
theorem c_X8_lower {l : Launch} {w : fb_Wd} {P : Int64 → fb_Wd → Prop} {G : fg_G} (hR : fg_RM G w) (hp : P G.2.2.2.2.2.2 w) : fb_Can l tX8_lower [.ref 46] w (fb_kL P) := by
  refine fb_intro 0 fk_t_X8_lower (by decide) rfl (fun X hX h => ?_)
  subst hX
  change fb_AW tX8_lower X 0 [some (.ref 46)] [] w
  refine fw_aload_n h rfl rfl ?_
  refine fw_getL h rfl fk_g_X8_13 rfl rfl ?_
  exact fw_lret h rfl rfl ⟨_, rfl, by rw [← hR.2.2.2.2.2] at hp; exact hp⟩
theorem c_X8_findings {l : Launch} {w : fb_Wd} {P : Int32 → fb_Wd → Prop} {G : fg_G} (hR : fg_RM G w) {f : Int32} (hb : ¬ (1 ≤ f ∧ f ≤ 5) → P (-1) w) (hp : 1 ≤ f → f ≤ 5 → P (G.2.2.2.2.1 f.toNatClampNeg) w) : fb_Can l tX8_findings [.ref 46, .int f] w (fb_kI P) := by
  refine fb_intro 0 fk_t_X8_findings (by decide) rfl (fun X hX h => ?_)
  subst hX
  change fb_AW tX8_findings X 0 [some (.ref 46), some (.int f)] [] w
  refine fw_iload_n h rfl rfl ?_
  refine fw_iconst h (nI 1) rfl (by decide) ?_
  refine fw_iconst h (nI 5) rfl (by decide) ?_
  refine fw_s3I h rfl fk_s_X8_in fk_l_X8_109 rfl rfl ?_
  refine c_X8_in (fun c3a c3b => ?_) (fun c3 => ?_)
  · refine fw_if_eq h rfl (fun c => absurd c (by decide)) (fun _ => ?_)
    obtain ⟨j, hj, e⟩ := nI_ofle (n := 5) (Int32.le_trans (by decide) c3a) c3b (by decide)
    subst e
    refine fw_aload_n h rfl rfl ?_
    refine fw_getR _ h rfl fk_g_X8_7 rfl rfl ?_
    refine fw_iload_n h rfl rfl ?_
    refine fn_iald h rfl rfl (by omega) rfl ?_
    refine fw_goto h rfl ?_
    exact fw_iret h rfl rfl ⟨_, rfl, by first | exact hb c3 | (have z := hp c3a c3b; rw [nI_clamp (by omega), ← hR.2.2.2.1] at z; exact z)⟩
  · refine fw_if_eq h rfl (fun _ => ?_) (fun c => absurd c (by decide))
    refine fw_iconst h (-1) rfl (by decide) ?_
    exact fw_iret h rfl rfl ⟨_, rfl, by first | exact hb c3 | (have z := hp c3a c3b; rw [nI_clamp (by omega), ← hR.2.2.2.1] at z; exact z)⟩
theorem c_X8_inForce {l : Launch} {w : fb_Wd} {P : Int32 → fb_Wd → Prop} {n : Nat} {y : Int32} (hnx : w.1 46 27 = nI n) (hn : n ≤ 8) (hb : ¬ (1000 ≤ y ∧ y ≤ 1900) → P (-1) w) (hp : 1000 ≤ y → y ≤ 1900 → P (fp_force (mD w 13) y n) w) : fb_Can l tX8_inForce [.ref 46, .int y] w (fb_kI P) := by
  refine fb_intro 0 fk_t_X8_inForce (by decide) rfl (fun X hX h => ?_)
  subst hX
  change fb_AW tX8_inForce X 0 [some (.ref 46), some (.int y)] [] w
  refine fw_iload_n h rfl rfl ?_
  refine fw_s1I h rfl fk_s_X8_isYear fk_l_X8_153 rfl rfl ?_
  refine c_X8_isYear (fun c1a c1b => ?_) (fun c1 => ?_)
  · refine fw_if_eq h rfl (fun c => absurd c (by decide)) (fun _ => ?_)
    refine fw_aload_n h rfl rfl ?_
    refine fw_iload_n h rfl rfl ?_
    refine fw_v1I h rfl fk_v_X8_forceIn fk_l_X8_233 rfl rfl rfl rfl ?_
    refine c_X8_forceIn hnx hn ?_
    refine fw_goto h rfl ?_
    exact fw_iret h rfl rfl ⟨_, rfl, by first | exact hb c1 | (have z := hp c1a c1b; rw [show fp_force (mD w 13) y n = fp_force (w.1 64) y n from fp_force_cg (by omega) (fun k hk => if_pos (show k < 8 by omega))] at z; exact z)⟩
  · refine fw_if_eq h rfl (fun _ => ?_) (fun c => absurd c (by decide))
    refine fw_iconst h (-1) rfl (by decide) ?_
    exact fw_iret h rfl rfl ⟨_, rfl, by first | exact hb c1 | (have z := hp c1a c1b; rw [show fp_force (mD w 13) y n = fp_force (w.1 64) y n from fp_force_cg (by omega) (fun k hk => if_pos (show k < 8 by omega))] at z; exact z)⟩
