def fb_m4 (w : fb_Wd) (a b c e : Int32) : fb_Wd := fb_up (fb_up (fb_up (fb_up w 46 23 a) 46 24 b) 46 25 c) 46 26 e
theorem fb_m4_self (w : fb_Wd) : fb_m4 w (w.1 46 23) (w.1 46 24) (w.1 46 25) (w.1 46 26) = w := by
  unfold fb_m4
  rw [fb_up_self w 46 23, fb_up_self w 46 24, fb_up_self w 46 25, fb_up_self w 46 26]
theorem fb_m4_26 (w : fb_Wd) (a b c e x : Int32) : fb_up (fb_m4 w a b c e) 46 26 x = fb_m4 w a b c x := fb_up_up _ _ _ _ _
theorem fb_m4_25 (w : fb_Wd) (a b c e x : Int32) : fb_up (fb_m4 w a b c e) 46 25 x = fb_m4 w a b x e := by
  unfold fb_m4
  rw [fb_up_cm _ (c := 46) (k := 26) _ _ (by decide), fb_up_up]
theorem fb_m4_24 (w : fb_Wd) (a b c e x : Int32) : fb_up (fb_m4 w a b c e) 46 24 x = fb_m4 w a x c e := by
  unfold fb_m4
  rw [fb_up_cm _ (c := 46) (k := 26) _ _ (by decide), fb_up_cm _ (c := 46) (k := 25) _ _ (by decide), fb_up_up]
theorem fb_m4_23 (w : fb_Wd) (a b c e x : Int32) : fb_up (fb_m4 w a b c e) 46 23 x = fb_m4 w x b c e := by
  unfold fb_m4
  rw [fb_up_cm _ (c := 46) (k := 26) _ _ (by decide), fb_up_cm _ (c := 46) (k := 25) _ _ (by decide), fb_up_cm _ (c := 46) (k := 24) _ _ (by decide), fb_up_up]
theorem fb_m4_fm4 (w : fb_Wd) (a b c e a2 b2 c2 e2 : Int32) : fb_m4 (fb_m4 w a b c e) a2 b2 c2 e2 = fb_m4 w a2 b2 c2 e2 := by
  rw [show fb_m4 (fb_m4 w a b c e) a2 b2 c2 e2 = fb_up (fb_up (fb_up (fb_up (fb_m4 w a b c e) 46 23 a2) 46 24 b2) 46 25 c2) 46 26 e2 from rfl, fb_m4_23, fb_m4_24, fb_m4_25, fb_m4_26]
theorem mD_m4 (w : fb_Wd) (a b c e : Int32) : mD (fb_m4 w a b c e) = mD w := by
  funext i
  match i with
  | 0 | 1 | 2 | 3 | 4 | 5 | 6 | 7 | 8 | 9 | 10 | 11 | 12 | 13 | 14 | 15 | 16 | 17 | 18 | 19 | 20 | 21 | 22 | 23 => rfl
  | i + 24 => rfl
def fp_orF (g : Nat → Int32) : Nat → Int32
  | 0 => 0
  | n + 1 => fp_orF g n ||| g n
theorem fp_orF_lt {n : Nat} {g : Nat → Int32} : ∀ {m : Nat}, (∀ k, k < m → fp_lt n (g k)) → fp_lt n (fp_orF g m)
  | 0, _ => fp_lt_0 n
  | m + 1, h => fp_lt_or (fp_orF_lt (fun k hk => h k (by omega))) (h m (by omega))
theorem fp_orF_bt {g : Nat → Int32} {i : Nat} : ∀ {m : Nat}, bt (fp_orF g m) i = true ↔ ∃ k, k < m ∧ bt (g k) i = true
  | 0 => by rw [fp_orF, b_0]; simp
  | m + 1 => by
    rw [fp_orF, b_or, Bool.or_eq_true, fp_orF_bt (m := m)]
    constructor
    · rintro (⟨k, hk, h⟩ | h)
      · exact ⟨k, by omega, h⟩
      · exact ⟨m, by omega, h⟩
    · rintro ⟨k, hk, h⟩
      by_cases e : k = m
      · subst e; exact Or.inr h
      · exact Or.inl ⟨k, by omega, h⟩
def fs_so (D : Nat → Nat → Int32) (d : Nat) (rd : Int32) (m : Nat) : Int32 := fp_mk (fun k => !decide (D 12 (10 * d + k) = 0) || bt rd (fp_dbt (D 12) d k)) m
def fs_bs (D : Nat → Nat → Int32) (d : Nat) (so : Int32) (m : Nat) : Int32 := fp_orF (fun k => if bt so k = true ∧ D 9 (10 * d + k) = 0 ∧ (D 0 (D 10 (10 * d + k)).toNatClampNeg = 1 ∨ D 0 (D 10 (10 * d + k)).toNatClampNeg = 2) then nI 1 <<< (D 10 (10 * d + k) &&& 31) else nI 0) m
def fs_ht (D : Nat → Nat → Int32) (d : Nat) (so : Int32) (m : Nat) : Int32 := fp_orF (fun k => if bt so k = true ∧ ¬ D 9 (10 * d + k) ≤ 1 then nI 1 <<< (D 10 (10 * d + k) &&& 31) else nI 0) m
noncomputable def fs_mv (D : Nat → Nat → Int32) (nt d m : Nat) (so : Int32) : Int32 := fq_lfp (fq_cl (fq_mP D nt d m so) (fq_mB D d m)) (fs_bs D d so m)
noncomputable def fs_bl (D : Nat → Nat → Int32) (nt d m : Nat) (so : Int32) : Int32 := fq_lfp (fq_cl (fq_bP D nt d m so (fs_mv D nt d m so)) (fq_bB D d m)) (fs_ht D d so m &&& fs_mv D nt d m so)
theorem fq_mP_cl {D : Nat → Nat → Int32} {nt d m : Nat} {so S : Int32} (h : ∀ q, q < m + nt → fq_mP D nt d m so q S → bt S (fq_mB D d m q) = true) : fq_cl (fq_mP D nt d m so) (fq_mB D d m) S := by
  intro j hj
  refine h j ?_ hj
  unfold fq_mP at hj
  split at hj <;> omega
theorem fq_bP_cl {D : Nat → Nat → Int32} {nt d m : Nat} {so mv S : Int32} (h : ∀ q, q < m + 2 * nt → fq_bP D nt d m so mv q S → bt S (fq_bB D d m q) = true) : fq_cl (fq_bP D nt d m so mv) (fq_bB D d m) S := by
  intro j hj
  refine h j ?_ hj
  unfold fq_bP at hj
  split at hj <;> omega
def fq_mu (b m : Int32) : Nat := 2 * (32 - fq_card m) + (if b = m then 0 else 1)
theorem fq_mu_lt {b m mi : Int32} (hs : fp_sub m mi) (hb : ¬ b = m) : fq_mu m mi < fq_mu b m := by
  unfold fq_mu
  rw [if_neg hb]
  have h1 := fq_card_le mi
  by_cases e : m = mi
  · rw [if_pos e, ← e]; omega
  · rw [if_neg e]
    have := fq_card_lt hs (fun z => e z.symm)
    omega
theorem lp_X8_lays_B {X : fb_Cx} {w : fb_Wd} {P : fb_Wd → Prop} {rd so mv ht : Int32} {d nt nd nx ng m : Nat} (hN : fd_N (mD w) nt nd nx ng) (hT : fd_T (mD w) nt) (hA : fd_A (mD w) nt d m) (hd : d < 12) (h : fb_Ok tX8_lays X (fb_kV P)) (hp : P (fb_m4 w so mv ht (fq_lfp (fq_cl (fq_bP (mD w) nt d m so mv) (fq_bB (mD w) d m)) (ht &&& mv)))) : ∀ n b bl, fq_mu b bl = n → fp_sub (ht &&& mv) bl → fp_lt nt bl → (∀ S, fq_cl (fq_bP (mD w) nt d m so mv) (fq_bB (mD w) d m) S → fp_sub (ht &&& mv) S → fp_sub bl S) → (b = bl → fq_cl (fq_bP (mD w) nt d m so mv) (fq_bB (mD w) d m) bl) → fb_AW tX8_lays X 256 [some (.ref 46), some (.int (nI d)), some (.int rd), none, some (.int b), none, none] [] (fb_m4 w so mv ht bl) := by
  intro n
  induction n using Nat.strongRecOn with
  | ind n IH =>
    intro b bl hn hb hlt hl hc
    subst hn
    refine fw_iload h rfl rfl ?_
    refine fw_aload_n h rfl rfl ?_
    refine fw_getIv (bl) h rfl fk_g_X8_204 rfl rfl (rfl) ?_
    refine fw_icmp_eq h rfl (fun c262 => ?_) (fun c262 => ?_)
    · exact fw_vret h rfl rfl ⟨rfl, by rw [← fq_lfp_eq hb (hc c262) hl] at hp; exact hp⟩
    · refine fw_aload_n h rfl rfl ?_
      refine fw_getIv (bl) h rfl fk_g_X8_204 rfl rfl (rfl) ?_
      refine fw_istore h [_, _, _, _, _, _, _] rfl rfl rfl rfl ?_
      refine fw_aload_n h rfl rfl ?_
      refine fw_iload_n h rfl rfl ?_
      refine fw_v1V h rfl fk_v_X8_blameOn fk_l_X8_207 rfl rfl rfl rfl ?_
      refine c_X8_blameOn (nt := nt) (nd := nd) (nx := nx) (ng := ng) (m := m) (by rw [mD_m4]; exact hN) (by rw [mD_m4]; exact hT) (by rw [mD_m4]; exact hA) hd hlt (fun mi hI hlt2 => ?_)
      rw [mD_m4] at hI
      have hI : fq_inv (fq_bP (mD w) nt d m so mv) (fq_bB (mD w) d m) bl (m + 2 * nt) mi := hI
      rw [fb_m4_26]
      refine fw_goto h rfl ?_
      refine IH (fq_mu bl mi) (Nat.lt_of_lt_of_le (fq_mu_lt hI.1 c262) (Nat.le_refl _)) bl mi rfl (fp_sub_tr hb hI.1) hlt2 (fun S hS hs => hI.2.1 S hS (hl S hS hs)) (fun e => ?_)
      rw [← e] at hI ⊢
      exact fq_bP_cl (hI.2.2 rfl)
theorem lp_X8_lays_A {X : fb_Cx} {w : fb_Wd} {P : fb_Wd → Prop} {rd so ht bl : Int32} {d nt nd nx ng m : Nat} (hN : fd_N (mD w) nt nd nx ng) (hT : fd_T (mD w) nt) (hA : fd_A (mD w) nt d m) (hd : d < 12) (h : fb_Ok tX8_lays X (fb_kV P)) (hht : fp_lt nt ht) (hp : P (fb_m4 w so (fs_mv (mD w) nt d m so) ht (fq_lfp (fq_cl (fq_bP (mD w) nt d m so (fs_mv (mD w) nt d m so)) (fq_bB (mD w) d m)) (ht &&& fs_mv (mD w) nt d m so)))) : ∀ n b mv, fq_mu b mv = n → fp_sub (fs_bs (mD w) d so m) mv → fp_lt nt mv → (∀ S, fq_cl (fq_mP (mD w) nt d m so) (fq_mB (mD w) d m) S → fp_sub (fs_bs (mD w) d so m) S → fp_sub mv S) → (b = mv → fq_cl (fq_mP (mD w) nt d m so) (fq_mB (mD w) d m) mv) → fb_AW tX8_lays X 217 [some (.ref 46), some (.int (nI d)), some (.int rd), none, some (.int b), none, none] [] (fb_m4 w so mv ht bl) := by
  intro n
  induction n using Nat.strongRecOn with
  | ind n IH =>
    intro b mv hn hb hlt hl hc
    subst hn
    refine fw_iload h rfl rfl ?_
    refine fw_aload_n h rfl rfl ?_
    refine fw_getIv (mv) h rfl fk_g_X8_188 rfl rfl (rfl) ?_
    refine fw_icmp_eq h rfl (fun c223 => ?_) (fun c223 => ?_)
    · refine fw_aload_n h rfl rfl ?_
      refine fw_aload_n h rfl rfl ?_
      refine fw_getIv (ht) h rfl fk_g_X8_191 rfl rfl (rfl) ?_
      refine fw_aload_n h rfl rfl ?_
      refine fw_getIv (mv) h rfl fk_g_X8_188 rfl rfl (rfl) ?_
      refine fw_iand h rfl ?_
      refine fw_putIw (fb_m4 w so mv ht (ht &&& mv)) h rfl fk_p_X8_204 rfl rfl (fb_m4_26 _ _ _ _ _ _) ?_
      refine fw_iconst h (-1) rfl (by decide) ?_
      refine fw_istore h [_, _, _, _, _, _, _] rfl rfl rfl rfl ?_
      have eM : mv = fs_mv (mD w) nt d m so := fq_lfp_eq hb (hc c223) hl
      refine lp_X8_lays_B hN hT hA hd h (by rw [eM] at *; rw [eM]; exact hp) _ (-1) (ht &&& mv) rfl (fp_sub_rf _) (fp_lt_and _ hht) (fun S _ hs => hs) (fun e => absurd e (fp_lt_m1 (fp_lt_and _ hht) (by have := hN.1.2; omega)))
    · refine fw_aload_n h rfl rfl ?_
      refine fw_getIv (mv) h rfl fk_g_X8_188 rfl rfl (rfl) ?_
      refine fw_istore h [_, _, _, _, _, _, _] rfl rfl rfl rfl ?_
      refine fw_aload_n h rfl rfl ?_
      refine fw_iload_n h rfl rfl ?_
      refine fw_v1V h rfl fk_v_X8_moveOn fk_l_X8_200 rfl rfl rfl rfl ?_
      refine c_X8_moveOn (nt := nt) (nd := nd) (nx := nx) (ng := ng) (m := m) (by rw [mD_m4]; exact hN) (by rw [mD_m4]; exact hT) (by rw [mD_m4]; exact hA) hd hlt (fun mi hI hlt2 => ?_)
      rw [mD_m4] at hI
      have hI : fq_inv (fq_mP (mD w) nt d m so) (fq_mB (mD w) d m) mv (m + nt) mi := hI
      rw [fb_m4_24]
      refine fw_goto h rfl ?_
      refine IH (fq_mu mv mi) (Nat.lt_of_lt_of_le (fq_mu_lt hI.1 c223) (Nat.le_refl _)) mv mi rfl (fp_sub_tr hb hI.1) hlt2 (fun S hS hs => hI.2.1 S hS (hl S hS hs)) (fun e => ?_)
      rw [← e] at hI ⊢
      exact fq_mP_cl (hI.2.2 rfl)
