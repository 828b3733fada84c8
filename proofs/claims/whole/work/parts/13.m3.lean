def fd_c8 (f : Nat → Int32) (k : Nat) : Int32 := if k < 8 then f k else 0
def fd_s4 (a b c d : Int32) : Nat → Int32
  | 0 => a
  | 1 => b
  | 2 => c
  | 3 => d
  | _ => 0
def mD (w : fb_Wd) : Nat → Nat → Int32
  | 0 => w.1 51
  | 1 => w.1 52
  | 2 => w.1 53
  | 3 => w.1 54
  | 4 => w.1 55
  | 5 => w.1 56
  | 6 => w.1 57
  | 7 => w.1 58
  | 8 => w.1 59
  | 9 => w.1 60
  | 10 => w.1 61
  | 11 => w.1 62
  | 12 => w.1 63
  | 13 => fd_c8 (w.1 64)
  | 14 => fd_c8 (w.1 65)
  | 15 => fd_c8 (w.1 66)
  | 16 => fd_c8 (w.1 67)
  | 17 => w.1 69
  | 18 => w.1 70
  | 19 => w.1 71
  | 20 => w.1 72
  | 21 => w.1 73
  | 22 => w.1 74
  | 23 => fd_s4 (w.1 46 8) (w.1 46 14) (w.1 46 27) (w.1 46 38)
  | _ => fun _ => 0
def fd_N (D : Nat → Nat → Int32) (nt nd nx ng : Nat) : Prop := (D 23 0 = nI nt ∧ nt ≤ 20) ∧ (D 23 1 = nI nd ∧ nd ≤ 12) ∧ (D 23 2 = nI nx ∧ nx ≤ 8) ∧ (D 23 3 = nI ng ∧ ng ≤ 10)
def fd_T (D : Nat → Nat → Int32) (nt : Nat) : Prop := ∀ t, t < nt → (∃ k, k ≤ 3 ∧ D 0 t = nI k) ∧ (∃ s, s < 10 ∧ D 1 t = nI s) ∧ (∃ v, v ≤ 10000 ∧ D 2 t = nI v) ∧ (D 3 t = -9 ∨ ∃ u, u < t ∧ D 3 t = nI u) ∧ (D 4 t = -9 ∨ ∃ u, u < nt ∧ D 4 t = nI u)
def fd_A (D : Nat → Nat → Int32) (nt d m : Nat) : Prop := D 8 d = nI m ∧ m ≤ 10 ∧ (∀ k, k < m → ∃ s a, s ≤ 3 ∧ D 9 (10 * d + k) = nI s ∧ a < nt ∧ D 10 (10 * d + k) = nI a ∧ (s = 1 → ∃ b, b < nt ∧ b ≠ a ∧ D 11 (10 * d + k) = nI b) ∧ (s ≠ 1 → D 11 (10 * d + k) = -9) ∧ (D 12 (10 * d + k) = 0 ∨ D 12 (10 * d + k) = 1)) ∧ fp_dbt (D 12) d m ≤ 5
theorem fd_wh {D : Nat → Nat → Int32} {nt : Nat} (h : fd_T D nt) : fp_wh nt (D 3) := fun t ht => (h t ht).2.2.2.1
def fq_mP (D : Nat → Nat → Int32) (nt d m : Nat) (so : Int32) (j : Nat) (S : Int32) : Prop := if j < m then (bt so j = true ∧ D 9 (10 * d + j) = 1 ∧ bt S (D 10 (10 * d + j)).toNatClampNeg = true ∧ ¬ D 0 (D 11 (10 * d + j)).toNatClampNeg = 3) else (j - m < nt ∧ ((¬ D 3 (j - m) = -9 ∧ bt S (D 3 (j - m)).toNatClampNeg = true) ∨ (¬ D 4 (j - m) = -9 ∧ bt S (D 4 (j - m)).toNatClampNeg = true)) ∧ ¬ D 0 (j - m) = 3)
def fq_mB (D : Nat → Nat → Int32) (d m j : Nat) : Nat := if j < m then (D 11 (10 * d + j)).toNatClampNeg else j - m
theorem fq_mP_a {D : Nat → Nat → Int32} {nt d m : Nat} {so : Int32} {j : Nat} {S : Int32} (h : j < m) : fq_mP D nt d m so j S ↔ (bt so j = true ∧ D 9 (10 * d + j) = 1 ∧ bt S (D 10 (10 * d + j)).toNatClampNeg = true ∧ ¬ D 0 (D 11 (10 * d + j)).toNatClampNeg = 3) := by unfold fq_mP; rw [if_pos h]
theorem fq_mP_t {D : Nat → Nat → Int32} {nt d m : Nat} {so : Int32} {t : Nat} {S : Int32} (h : t < nt) : fq_mP D nt d m so (m + t) S ↔ (((¬ D 3 t = -9 ∧ bt S (D 3 t).toNatClampNeg = true) ∨ (¬ D 4 t = -9 ∧ bt S (D 4 t).toNatClampNeg = true)) ∧ ¬ D 0 t = 3) := by
  unfold fq_mP
  rw [if_neg (by omega), show m + t - m = t by omega]
  exact ⟨fun q => q.2, fun q => ⟨h, q⟩⟩
theorem fq_mB_a {D : Nat → Nat → Int32} {d m j : Nat} (h : j < m) : fq_mB D d m j = (D 11 (10 * d + j)).toNatClampNeg := if_pos h
theorem fq_mB_t {D : Nat → Nat → Int32} {d m t : Nat} : fq_mB D d m (m + t) = t := by unfold fq_mB; rw [if_neg (by omega)]; omega
theorem fp_subt {a b : Int32} {k : Nat} (h : fp_sub a b) (hb : bt a k = true) : bt b k = true := by
  rcases Nat.lt_or_ge k 32 with q | q
  · exact h k q hb
  · rw [b_big q] at hb; cases hb
theorem fq_mP_mono (D : Nat → Nat → Int32) (nt d m : Nat) (so : Int32) : fq_mono (fq_mP D nt d m so) := by
  intro j S S' hs h
  unfold fq_mP at h ⊢
  split
  · rename_i hj
    rw [if_pos hj] at h
    exact ⟨h.1, h.2.1, fp_subt hs h.2.2.1, h.2.2.2⟩
  · rename_i hj
    rw [if_neg hj] at h
    exact ⟨h.1, h.2.1.imp (fun q => ⟨q.1, fp_subt hs q.2⟩) (fun q => ⟨q.1, fp_subt hs q.2⟩), h.2.2⟩
theorem c_X8_hasN {l : Launch} {w : fb_Wd} {P : Int32 → fb_Wd → Prop} {s x : Int32} {k : Nat} (e : x = nI k) (hk : k < 32) (ht : bt s k = true → P 1 w) (hf : bt s k = false → P 0 w) : fb_Can l tX8_has [.int s, .int x] w (fb_kI P) := by
  subst e
  exact c_X8_has (fun q => ht ((fp_has hk).mp q)) (fun q => hf ((fp_hasn hk).mp q))
theorem c_X8_soN {l : Launch} {w : fb_Wd} {P : Int32 → fb_Wd → Prop} {k : Nat} (hk : k < 32) (ht : bt (w.1 46 23) k = true → P 1 w) (hf : bt (w.1 46 23) k = false → P 0 w) : fb_Can l tX8_so [.ref 46, .int (nI k)] w (fb_kI P) := c_X8_so (fun q => ht ((fp_has hk).mp q)) (fun q => hf ((fp_hasn hk).mp q))
theorem c_X8_mayMoveN {l : Launch} {w : fb_Wd} {P : Int32 → fb_Wd → Prop} {x : Int32} {t : Nat} (e : x = nI t) (h20 : t < 20) (ht : ¬ w.1 51 t = 3 → P 1 w) (hf : w.1 51 t = 3 → P 0 w) : fb_Can l tX8_mayMove [.ref 46, .int x] w (fb_kI P) := by
  subst e
  exact c_X8_mayMove h20 ht hf
theorem c_X8_moveOn {l : Launch} {w : fb_Wd} {P : fb_Wd → Prop} {d nt nd nx ng m : Nat} (hN : fd_N (mD w) nt nd nx ng) (hT : fd_T (mD w) nt) (hA : fd_A (mD w) nt d m) (hd : d < 12) (hlt0 : fp_lt nt (w.1 46 24)) (hp : ∀ mi, fq_inv (fq_mP (mD w) nt d m (w.1 46 23)) (fq_mB (mD w) d m) (w.1 46 24) (m + nt) mi → fp_lt nt mi → P (fb_up w 46 24 mi)) : fb_Can l tX8_moveOn [.ref 46, .int (nI d)] w (fb_kV P) := by
  refine fb_intro 2 fk_t_X8_moveOn (by decide) rfl (fun X hX h => ?_)
  subst hX
  change fb_AW tX8_moveOn X 0 [some (.ref 46), some (.int (nI d)), none, none] [] w
  refine fw_iconst h (nI 0) rfl (by decide) ?_
  refine fw_istore_n h [_, _, _, _] rfl rfl rfl rfl ?_
  rw [← fb_up_self w 46 24]
  refine (?_ : ∀ mi, fq_inv (fq_mP (mD w) nt d m (w.1 46 23)) (fq_mB (mD w) d m) (w.1 46 24) 0 mi → fp_lt nt mi → fb_AW tX8_moveOn X 2 [some (.ref 46), some (.int (nI d)), some (.int (nI 0)), none] [] (fb_up w 46 24 mi)) (w.1 46 24) (fq_inv_0 _ _ _) hlt0
  refine fb_loop (fun i => ∀ mi, fq_inv (fq_mP (mD w) nt d m (w.1 46 23)) (fq_mB (mD w) d m) (w.1 46 24) i mi → fp_lt nt mi → fb_AW tX8_moveOn X 2 [some (.ref 46), some (.int (nI d)), some (.int (nI i)), none] [] (fb_up w 46 24 mi)) (m) ?_ (fun i hi ih => ?_) 0 (Nat.zero_le _)
  · intro mi hI hlt
    refine fw_iload_n h rfl rfl ?_
    refine fw_aload_n h rfl rfl ?_
    refine fw_getR _ h rfl fk_g_X8_50 rfl rfl ?_
    refine fw_iload_n h rfl rfl ?_
    refine fn_iald h rfl rfl (by omega) rfl ?_
    refine fw_icmp_ge h rfl (fun c9 => ?_) (fun c9 => False.elim (c9 (by rw [show (fb_up w 46 24 mi).1 59 d = nI m from hA.1]; exact Int32.le_refl _)))
    refine fw_iconst h (nI 0) rfl (by decide) ?_
    refine fw_istore_n h [_, _, _, _] rfl rfl rfl rfl ?_
    refine (?_ : ∀ mi, fq_inv (fq_mP (mD w) nt d m (w.1 46 23)) (fq_mB (mD w) d m) (w.1 46 24) (m + 0) mi → fp_lt nt mi → fb_AW tX8_moveOn X 91 [some (.ref 46), some (.int (nI d)), some (.int (nI 0)), none] [] (fb_up w 46 24 mi)) mi hI hlt
    refine fb_loop (fun i => ∀ mi, fq_inv (fq_mP (mD w) nt d m (w.1 46 23)) (fq_mB (mD w) d m) (w.1 46 24) (m + i) mi → fp_lt nt mi → fb_AW tX8_moveOn X 91 [some (.ref 46), some (.int (nI d)), some (.int (nI i)), none] [] (fb_up w 46 24 mi)) (nt) ?_ (fun i hi ih => ?_) 0 (Nat.zero_le _)
    · intro mi hI hlt
      refine fw_iload_n h rfl rfl ?_
      refine fw_aload_n h rfl rfl ?_
      refine fw_getI h rfl fk_g_X8_124 rfl rfl ?_
      refine fw_icmp_ge h rfl (fun c96 => ?_) (fun c96 => False.elim (c96 (by rw [show (fb_up w 46 24 mi).1 46 8 = nI nt from hN.1.1]; exact Int32.le_refl _)))
      exact fw_vret h rfl rfl ⟨rfl, hp mi hI hlt⟩
    · intro mi hI hlt
      refine fw_iload_n h rfl rfl ?_
      refine fw_aload_n h rfl rfl ?_
      refine fw_getIv (w.1 46 8) h rfl fk_g_X8_124 rfl rfl (rfl) ?_
      refine fw_icmp_ge h rfl (fun c96 => False.elim (nI_ge hi (by have := hN.1.2; omega) (by rw [← show w.1 46 8 = nI nt from hN.1.1]; exact c96))) (fun c96 => ?_)
      have hnt := hN.1.2
      have hTi := hT i hi
      refine fw_aload_n h rfl rfl ?_
      refine fw_getR _ h rfl fk_g_X8_35 rfl rfl ?_
      refine fw_iload_n h rfl rfl ?_
      refine fn_ialdF (w.1 54) h rfl rfl (rfl) (by omega) rfl ?_
      refine fw_bipush h (-9) rfl (by decide) ?_
      refine fw_icmp_eq h rfl (fun c107 => ?_) (fun c107 => ?_)
      · refine fw_aload_n h rfl rfl ?_
        refine fw_getR _ h rfl fk_g_X8_38 rfl rfl ?_
        refine fw_iload_n h rfl rfl ?_
        refine fn_ialdF (w.1 55) h rfl rfl (rfl) (by omega) rfl ?_
        refine fw_bipush h (-9) rfl (by decide) ?_
        refine fw_icmp_eq h rfl (fun c134 => ?_) (fun c134 => ?_)
        · refine fw_iconst h (nI 0) rfl (by decide) ?_
          refine fw_istore_n h [_, _, _, _] rfl rfl rfl rfl ?_
          refine fw_aload_n h rfl rfl ?_
          refine fw_dup h rfl rfl ?_
          refine fw_getIv (mi) h rfl fk_g_X8_188 rfl rfl (rfl) ?_
          refine fw_iload_n h rfl rfl ?_
          refine fw_if_eq h rfl (fun _ => ?_) (fun c => absurd c (by decide))
          refine fw_iconst h (nI 0) rfl (by decide) ?_
          refine fw_ior h rfl ?_
          refine fw_putI h rfl fk_p_X8_188 rfl rfl ?_
          first | refine fn_iinc h [_, _, _, _] rfl rfl rfl rfl rfl ?_ | refine fw_iinc h 1 [_, _, _, _] rfl (by decide) rfl rfl rfl rfl ?_
          refine fw_goto h rfl ?_
          first
            | (rw [fb_up_up, fq_inv_or0]
               refine fw_sub (fb_pad_c (Or.inr rfl) (fb_pad_c (Or.inr rfl) (fb_pad_c (Or.inr rfl) (fb_pad_c (Or.inl rfl) (fb_pad_n))))) (ih mi (fq_inv_keep hI (fun q => ?_)) hlt)
               have q := (fq_mP_t hi).mp q
               first
                 | exact q.2 c170
                 | (rcases q.1 with q1 | q1
                    · first
                        | exact q1.1 c107
                        | exact absurd q1.2 (by rw [eu, nI_clamp (by omega), c120]; decide)
                    · first
                        | exact q1.1 c134
                        | exact absurd q1.2 (by rw [ev, nI_clamp (by omega), c147]; decide)))
            | (rw [fb_up_up]
               refine fw_sub (fb_pad_c (Or.inr rfl) (fb_pad_c (Or.inr rfl) (fb_pad_c (Or.inr rfl) (fb_pad_c (Or.inl rfl) (fb_pad_n))))) (ih _ ?_ (fp_lt_or hlt (fp_lt_1 hi (by omega))))
               have z := fq_inv_add (fq_mP_mono _ _ _ _ _) hI (by rw [fq_mB_t]; omega) ((fq_mP_t hi).mpr ⟨by first | exact Or.inl ⟨c107, by rw [eu, nI_clamp (by omega)]; exact c120⟩ | exact Or.inr ⟨c134, by rw [ev, nI_clamp (by omega)]; exact c147⟩, c170⟩)
               rw [fq_mB_t] at z
               exact z)
        · obtain ⟨v, hv, ev⟩ : ∃ u, u < nt ∧ mD w 4 i = nI u := hTi.2.2.2.2.resolve_left c134
          refine fw_aload_n h rfl rfl ?_
          refine fw_getIv (mi) h rfl fk_g_X8_188 rfl rfl (rfl) ?_
          refine fw_aload_n h rfl rfl ?_
          refine fw_getR _ h rfl fk_g_X8_38 rfl rfl ?_
          refine fw_iload_n h rfl rfl ?_
          refine fn_ialdF (w.1 55) h rfl rfl (rfl) (by omega) rfl ?_
          refine fw_s2I h rfl fk_s_X8_has fk_l_X8_185 rfl rfl ?_
          refine c_X8_hasN ev (by omega) (fun (c147 : bt mi v = true) => ?_) (fun (c147 : bt mi v = false) => ?_)
          · refine fw_if_eq h rfl (fun c => absurd c (by decide)) (fun _ => ?_)
            refine fw_iconst h (nI 1) rfl (by decide) ?_
            refine fw_goto h rfl ?_
            refine fw_istore_n h [_, _, _, _] rfl rfl rfl rfl ?_
            refine fw_aload_n h rfl rfl ?_
            refine fw_dup h rfl rfl ?_
            refine fw_getIv (mi) h rfl fk_g_X8_188 rfl rfl (rfl) ?_
            refine fw_iload_n h rfl rfl ?_
            refine fw_if_eq h rfl (fun c => absurd c (by decide)) (fun _ => ?_)
            refine fw_aload_n h rfl rfl ?_
            refine fw_iload_n h rfl rfl ?_
            refine fw_v1I h rfl fk_v_X8_mayMove fk_l_X8_210 rfl rfl rfl rfl ?_
            refine c_X8_mayMove (by omega) (fun (c170 : ¬ w.1 51 i = 3) => ?_) (fun (c170 : w.1 51 i = 3) => ?_)
            · refine fw_if_eq h rfl (fun c => absurd c (by decide)) (fun _ => ?_)
              refine fw_iconst h (nI 1) rfl (by decide) ?_
              refine fw_iload_n h rfl rfl ?_
              refine fw_ishl h rfl ?_
              refine fw_goto h rfl ?_
              refine fw_ior h rfl ?_
              refine fw_putI h rfl fk_p_X8_188 rfl rfl ?_
              first | refine fn_iinc h [_, _, _, _] rfl rfl rfl rfl rfl ?_ | refine fw_iinc h 1 [_, _, _, _] rfl (by decide) rfl rfl rfl rfl ?_
              refine fw_goto h rfl ?_
              first
                | (rw [fb_up_up, fq_inv_or0]
                   refine fw_sub (fb_pad_c (Or.inr rfl) (fb_pad_c (Or.inr rfl) (fb_pad_c (Or.inr rfl) (fb_pad_c (Or.inl rfl) (fb_pad_n))))) (ih mi (fq_inv_keep hI (fun q => ?_)) hlt)
                   have q := (fq_mP_t hi).mp q
                   first
                     | exact q.2 c170
                     | (rcases q.1 with q1 | q1
                        · first
                            | exact q1.1 c107
                            | exact absurd q1.2 (by rw [eu, nI_clamp (by omega), c120]; decide)
                        · first
                            | exact q1.1 c134
                            | exact absurd q1.2 (by rw [ev, nI_clamp (by omega), c147]; decide)))
                | (rw [fb_up_up]
                   refine fw_sub (fb_pad_c (Or.inr rfl) (fb_pad_c (Or.inr rfl) (fb_pad_c (Or.inr rfl) (fb_pad_c (Or.inl rfl) (fb_pad_n))))) (ih _ ?_ (fp_lt_or hlt (fp_lt_1 hi (by omega))))
                   have z := fq_inv_add (fq_mP_mono _ _ _ _ _) hI (by rw [fq_mB_t]; omega) ((fq_mP_t hi).mpr ⟨by first | exact Or.inl ⟨c107, by rw [eu, nI_clamp (by omega)]; exact c120⟩ | exact Or.inr ⟨c134, by rw [ev, nI_clamp (by omega)]; exact c147⟩, c170⟩)
                   rw [fq_mB_t] at z
                   exact z)
            · refine fw_if_eq h rfl (fun _ => ?_) (fun c => absurd c (by decide))
              refine fw_iconst h (nI 0) rfl (by decide) ?_
              refine fw_ior h rfl ?_
              refine fw_putI h rfl fk_p_X8_188 rfl rfl ?_
              first | refine fn_iinc h [_, _, _, _] rfl rfl rfl rfl rfl ?_ | refine fw_iinc h 1 [_, _, _, _] rfl (by decide) rfl rfl rfl rfl ?_
              refine fw_goto h rfl ?_
              first
                | (rw [fb_up_up, fq_inv_or0]
                   refine fw_sub (fb_pad_c (Or.inr rfl) (fb_pad_c (Or.inr rfl) (fb_pad_c (Or.inr rfl) (fb_pad_c (Or.inl rfl) (fb_pad_n))))) (ih mi (fq_inv_keep hI (fun q => ?_)) hlt)
                   have q := (fq_mP_t hi).mp q
                   first
                     | exact q.2 c170
                     | (rcases q.1 with q1 | q1
                        · first
                            | exact q1.1 c107
                            | exact absurd q1.2 (by rw [eu, nI_clamp (by omega), c120]; decide)
                        · first
                            | exact q1.1 c134
                            | exact absurd q1.2 (by rw [ev, nI_clamp (by omega), c147]; decide)))
                | (rw [fb_up_up]
                   refine fw_sub (fb_pad_c (Or.inr rfl) (fb_pad_c (Or.inr rfl) (fb_pad_c (Or.inr rfl) (fb_pad_c (Or.inl rfl) (fb_pad_n))))) (ih _ ?_ (fp_lt_or hlt (fp_lt_1 hi (by omega))))
                   have z := fq_inv_add (fq_mP_mono _ _ _ _ _) hI (by rw [fq_mB_t]; omega) ((fq_mP_t hi).mpr ⟨by first | exact Or.inl ⟨c107, by rw [eu, nI_clamp (by omega)]; exact c120⟩ | exact Or.inr ⟨c134, by rw [ev, nI_clamp (by omega)]; exact c147⟩, c170⟩)
                   rw [fq_mB_t] at z
                   exact z)
          · refine fw_if_eq h rfl (fun _ => ?_) (fun c => absurd c (by decide))
            refine fw_iconst h (nI 0) rfl (by decide) ?_
            refine fw_istore_n h [_, _, _, _] rfl rfl rfl rfl ?_
            refine fw_aload_n h rfl rfl ?_
            refine fw_dup h rfl rfl ?_
            refine fw_getIv (mi) h rfl fk_g_X8_188 rfl rfl (rfl) ?_
            refine fw_iload_n h rfl rfl ?_
            refine fw_if_eq h rfl (fun _ => ?_) (fun c => absurd c (by decide))
            refine fw_iconst h (nI 0) rfl (by decide) ?_
            refine fw_ior h rfl ?_
            refine fw_putI h rfl fk_p_X8_188 rfl rfl ?_
            first | refine fn_iinc h [_, _, _, _] rfl rfl rfl rfl rfl ?_ | refine fw_iinc h 1 [_, _, _, _] rfl (by decide) rfl rfl rfl rfl ?_
            refine fw_goto h rfl ?_
            first
              | (rw [fb_up_up, fq_inv_or0]
                 refine fw_sub (fb_pad_c (Or.inr rfl) (fb_pad_c (Or.inr rfl) (fb_pad_c (Or.inr rfl) (fb_pad_c (Or.inl rfl) (fb_pad_n))))) (ih mi (fq_inv_keep hI (fun q => ?_)) hlt)
                 have q := (fq_mP_t hi).mp q
                 first
                   | exact q.2 c170
                   | (rcases q.1 with q1 | q1
                      · first
                          | exact q1.1 c107
                          | exact absurd q1.2 (by rw [eu, nI_clamp (by omega), c120]; decide)
                      · first
                          | exact q1.1 c134
                          | exact absurd q1.2 (by rw [ev, nI_clamp (by omega), c147]; decide)))
              | (rw [fb_up_up]
                 refine fw_sub (fb_pad_c (Or.inr rfl) (fb_pad_c (Or.inr rfl) (fb_pad_c (Or.inr rfl) (fb_pad_c (Or.inl rfl) (fb_pad_n))))) (ih _ ?_ (fp_lt_or hlt (fp_lt_1 hi (by omega))))
                 have z := fq_inv_add (fq_mP_mono _ _ _ _ _) hI (by rw [fq_mB_t]; omega) ((fq_mP_t hi).mpr ⟨by first | exact Or.inl ⟨c107, by rw [eu, nI_clamp (by omega)]; exact c120⟩ | exact Or.inr ⟨c134, by rw [ev, nI_clamp (by omega)]; exact c147⟩, c170⟩)
                 rw [fq_mB_t] at z
                 exact z)
      · obtain ⟨u, hu, eu⟩ : ∃ u, u < i ∧ mD w 3 i = nI u := hTi.2.2.2.1.resolve_left c107
        refine fw_aload_n h rfl rfl ?_
        refine fw_getIv (mi) h rfl fk_g_X8_188 rfl rfl (rfl) ?_
        refine fw_aload_n h rfl rfl ?_
        refine fw_getR _ h rfl fk_g_X8_35 rfl rfl ?_
        refine fw_iload_n h rfl rfl ?_
        refine fn_ialdF (w.1 54) h rfl rfl (rfl) (by omega) rfl ?_
        refine fw_s2I h rfl fk_s_X8_has fk_l_X8_185 rfl rfl ?_
        refine c_X8_hasN eu (by omega) (fun (c120 : bt mi u = true) => ?_) (fun (c120 : bt mi u = false) => ?_)
        · refine fw_if_ne h rfl (fun _ => ?_) (fun c => absurd c (by decide))
          refine fw_iconst h (nI 1) rfl (by decide) ?_
          refine fw_goto h rfl ?_
          refine fw_istore_n h [_, _, _, _] rfl rfl rfl rfl ?_
          refine fw_aload_n h rfl rfl ?_
          refine fw_dup h rfl rfl ?_
          refine fw_getIv (mi) h rfl fk_g_X8_188 rfl rfl (rfl) ?_
          refine fw_iload_n h rfl rfl ?_
          refine fw_if_eq h rfl (fun c => absurd c (by decide)) (fun _ => ?_)
          refine fw_aload_n h rfl rfl ?_
          refine fw_iload_n h rfl rfl ?_
          refine fw_v1I h rfl fk_v_X8_mayMove fk_l_X8_210 rfl rfl rfl rfl ?_
          refine c_X8_mayMove (by omega) (fun (c170 : ¬ w.1 51 i = 3) => ?_) (fun (c170 : w.1 51 i = 3) => ?_)
          · refine fw_if_eq h rfl (fun c => absurd c (by decide)) (fun _ => ?_)
            refine fw_iconst h (nI 1) rfl (by decide) ?_
            refine fw_iload_n h rfl rfl ?_
            refine fw_ishl h rfl ?_
            refine fw_goto h rfl ?_
            refine fw_ior h rfl ?_
            refine fw_putI h rfl fk_p_X8_188 rfl rfl ?_
            first | refine fn_iinc h [_, _, _, _] rfl rfl rfl rfl rfl ?_ | refine fw_iinc h 1 [_, _, _, _] rfl (by decide) rfl rfl rfl rfl ?_
            refine fw_goto h rfl ?_
            first
              | (rw [fb_up_up, fq_inv_or0]
                 refine fw_sub (fb_pad_c (Or.inr rfl) (fb_pad_c (Or.inr rfl) (fb_pad_c (Or.inr rfl) (fb_pad_c (Or.inl rfl) (fb_pad_n))))) (ih mi (fq_inv_keep hI (fun q => ?_)) hlt)
                 have q := (fq_mP_t hi).mp q
                 first
                   | exact q.2 c170
                   | (rcases q.1 with q1 | q1
                      · first
                          | exact q1.1 c107
                          | exact absurd q1.2 (by rw [eu, nI_clamp (by omega), c120]; decide)
                      · first
                          | exact q1.1 c134
                          | exact absurd q1.2 (by rw [ev, nI_clamp (by omega), c147]; decide)))
              | (rw [fb_up_up]
                 refine fw_sub (fb_pad_c (Or.inr rfl) (fb_pad_c (Or.inr rfl) (fb_pad_c (Or.inr rfl) (fb_pad_c (Or.inl rfl) (fb_pad_n))))) (ih _ ?_ (fp_lt_or hlt (fp_lt_1 hi (by omega))))
                 have z := fq_inv_add (fq_mP_mono _ _ _ _ _) hI (by rw [fq_mB_t]; omega) ((fq_mP_t hi).mpr ⟨by first | exact Or.inl ⟨c107, by rw [eu, nI_clamp (by omega)]; exact c120⟩ | exact Or.inr ⟨c134, by rw [ev, nI_clamp (by omega)]; exact c147⟩, c170⟩)
                 rw [fq_mB_t] at z
                 exact z)
          · refine fw_if_eq h rfl (fun _ => ?_) (fun c => absurd c (by decide))
            refine fw_iconst h (nI 0) rfl (by decide) ?_
            refine fw_ior h rfl ?_
            refine fw_putI h rfl fk_p_X8_188 rfl rfl ?_
            first | refine fn_iinc h [_, _, _, _] rfl rfl rfl rfl rfl ?_ | refine fw_iinc h 1 [_, _, _, _] rfl (by decide) rfl rfl rfl rfl ?_
            refine fw_goto h rfl ?_
            first
              | (rw [fb_up_up, fq_inv_or0]
                 refine fw_sub (fb_pad_c (Or.inr rfl) (fb_pad_c (Or.inr rfl) (fb_pad_c (Or.inr rfl) (fb_pad_c (Or.inl rfl) (fb_pad_n))))) (ih mi (fq_inv_keep hI (fun q => ?_)) hlt)
                 have q := (fq_mP_t hi).mp q
                 first
                   | exact q.2 c170
                   | (rcases q.1 with q1 | q1
                      · first
                          | exact q1.1 c107
                          | exact absurd q1.2 (by rw [eu, nI_clamp (by omega), c120]; decide)
                      · first
                          | exact q1.1 c134
                          | exact absurd q1.2 (by rw [ev, nI_clamp (by omega), c147]; decide)))
              | (rw [fb_up_up]
                 refine fw_sub (fb_pad_c (Or.inr rfl) (fb_pad_c (Or.inr rfl) (fb_pad_c (Or.inr rfl) (fb_pad_c (Or.inl rfl) (fb_pad_n))))) (ih _ ?_ (fp_lt_or hlt (fp_lt_1 hi (by omega))))
                 have z := fq_inv_add (fq_mP_mono _ _ _ _ _) hI (by rw [fq_mB_t]; omega) ((fq_mP_t hi).mpr ⟨by first | exact Or.inl ⟨c107, by rw [eu, nI_clamp (by omega)]; exact c120⟩ | exact Or.inr ⟨c134, by rw [ev, nI_clamp (by omega)]; exact c147⟩, c170⟩)
                 rw [fq_mB_t] at z
                 exact z)
        · refine fw_if_ne h rfl (fun c => absurd c (by decide)) (fun _ => ?_)
          refine fw_aload_n h rfl rfl ?_
          refine fw_getR _ h rfl fk_g_X8_38 rfl rfl ?_
          refine fw_iload_n h rfl rfl ?_
          refine fn_ialdF (w.1 55) h rfl rfl (rfl) (by omega) rfl ?_
          refine fw_bipush h (-9) rfl (by decide) ?_
          refine fw_icmp_eq h rfl (fun c134 => ?_) (fun c134 => ?_)
          · refine fw_iconst h (nI 0) rfl (by decide) ?_
            refine fw_istore_n h [_, _, _, _] rfl rfl rfl rfl ?_
            refine fw_aload_n h rfl rfl ?_
            refine fw_dup h rfl rfl ?_
            refine fw_getIv (mi) h rfl fk_g_X8_188 rfl rfl (rfl) ?_
            refine fw_iload_n h rfl rfl ?_
            refine fw_if_eq h rfl (fun _ => ?_) (fun c => absurd c (by decide))
            refine fw_iconst h (nI 0) rfl (by decide) ?_
            refine fw_ior h rfl ?_
            refine fw_putI h rfl fk_p_X8_188 rfl rfl ?_
            first | refine fn_iinc h [_, _, _, _] rfl rfl rfl rfl rfl ?_ | refine fw_iinc h 1 [_, _, _, _] rfl (by decide) rfl rfl rfl rfl ?_
            refine fw_goto h rfl ?_
            first
              | (rw [fb_up_up, fq_inv_or0]
                 refine fw_sub (fb_pad_c (Or.inr rfl) (fb_pad_c (Or.inr rfl) (fb_pad_c (Or.inr rfl) (fb_pad_c (Or.inl rfl) (fb_pad_n))))) (ih mi (fq_inv_keep hI (fun q => ?_)) hlt)
                 have q := (fq_mP_t hi).mp q
                 first
                   | exact q.2 c170
                   | (rcases q.1 with q1 | q1
                      · first
                          | exact q1.1 c107
                          | exact absurd q1.2 (by rw [eu, nI_clamp (by omega), c120]; decide)
                      · first
                          | exact q1.1 c134
                          | exact absurd q1.2 (by rw [ev, nI_clamp (by omega), c147]; decide)))
              | (rw [fb_up_up]
                 refine fw_sub (fb_pad_c (Or.inr rfl) (fb_pad_c (Or.inr rfl) (fb_pad_c (Or.inr rfl) (fb_pad_c (Or.inl rfl) (fb_pad_n))))) (ih _ ?_ (fp_lt_or hlt (fp_lt_1 hi (by omega))))
                 have z := fq_inv_add (fq_mP_mono _ _ _ _ _) hI (by rw [fq_mB_t]; omega) ((fq_mP_t hi).mpr ⟨by first | exact Or.inl ⟨c107, by rw [eu, nI_clamp (by omega)]; exact c120⟩ | exact Or.inr ⟨c134, by rw [ev, nI_clamp (by omega)]; exact c147⟩, c170⟩)
                 rw [fq_mB_t] at z
                 exact z)
          · obtain ⟨v, hv, ev⟩ : ∃ u, u < nt ∧ mD w 4 i = nI u := hTi.2.2.2.2.resolve_left c134
            refine fw_aload_n h rfl rfl ?_
            refine fw_getIv (mi) h rfl fk_g_X8_188 rfl rfl (rfl) ?_
            refine fw_aload_n h rfl rfl ?_
            refine fw_getR _ h rfl fk_g_X8_38 rfl rfl ?_
            refine fw_iload_n h rfl rfl ?_
            refine fn_ialdF (w.1 55) h rfl rfl (rfl) (by omega) rfl ?_
            refine fw_s2I h rfl fk_s_X8_has fk_l_X8_185 rfl rfl ?_
            refine c_X8_hasN ev (by omega) (fun (c147 : bt mi v = true) => ?_) (fun (c147 : bt mi v = false) => ?_)
            · refine fw_if_eq h rfl (fun c => absurd c (by decide)) (fun _ => ?_)
              refine fw_iconst h (nI 1) rfl (by decide) ?_
              refine fw_goto h rfl ?_
              refine fw_istore_n h [_, _, _, _] rfl rfl rfl rfl ?_
              refine fw_aload_n h rfl rfl ?_
              refine fw_dup h rfl rfl ?_
              refine fw_getIv (mi) h rfl fk_g_X8_188 rfl rfl (rfl) ?_
              refine fw_iload_n h rfl rfl ?_
              refine fw_if_eq h rfl (fun c => absurd c (by decide)) (fun _ => ?_)
              refine fw_aload_n h rfl rfl ?_
              refine fw_iload_n h rfl rfl ?_
              refine fw_v1I h rfl fk_v_X8_mayMove fk_l_X8_210 rfl rfl rfl rfl ?_
              refine c_X8_mayMove (by omega) (fun (c170 : ¬ w.1 51 i = 3) => ?_) (fun (c170 : w.1 51 i = 3) => ?_)
              · refine fw_if_eq h rfl (fun c => absurd c (by decide)) (fun _ => ?_)
                refine fw_iconst h (nI 1) rfl (by decide) ?_
                refine fw_iload_n h rfl rfl ?_
                refine fw_ishl h rfl ?_
                refine fw_goto h rfl ?_
                refine fw_ior h rfl ?_
                refine fw_putI h rfl fk_p_X8_188 rfl rfl ?_
                first | refine fn_iinc h [_, _, _, _] rfl rfl rfl rfl rfl ?_ | refine fw_iinc h 1 [_, _, _, _] rfl (by decide) rfl rfl rfl rfl ?_
                refine fw_goto h rfl ?_
                first
                  | (rw [fb_up_up, fq_inv_or0]
                     refine fw_sub (fb_pad_c (Or.inr rfl) (fb_pad_c (Or.inr rfl) (fb_pad_c (Or.inr rfl) (fb_pad_c (Or.inl rfl) (fb_pad_n))))) (ih mi (fq_inv_keep hI (fun q => ?_)) hlt)
                     have q := (fq_mP_t hi).mp q
                     first
                       | exact q.2 c170
                       | (rcases q.1 with q1 | q1
                          · first
                              | exact q1.1 c107
                              | exact absurd q1.2 (by rw [eu, nI_clamp (by omega), c120]; decide)
                          · first
                              | exact q1.1 c134
                              | exact absurd q1.2 (by rw [ev, nI_clamp (by omega), c147]; decide)))
                  | (rw [fb_up_up]
                     refine fw_sub (fb_pad_c (Or.inr rfl) (fb_pad_c (Or.inr rfl) (fb_pad_c (Or.inr rfl) (fb_pad_c (Or.inl rfl) (fb_pad_n))))) (ih _ ?_ (fp_lt_or hlt (fp_lt_1 hi (by omega))))
                     have z := fq_inv_add (fq_mP_mono _ _ _ _ _) hI (by rw [fq_mB_t]; omega) ((fq_mP_t hi).mpr ⟨by first | exact Or.inl ⟨c107, by rw [eu, nI_clamp (by omega)]; exact c120⟩ | exact Or.inr ⟨c134, by rw [ev, nI_clamp (by omega)]; exact c147⟩, c170⟩)
                     rw [fq_mB_t] at z
                     exact z)
              · refine fw_if_eq h rfl (fun _ => ?_) (fun c => absurd c (by decide))
                refine fw_iconst h (nI 0) rfl (by decide) ?_
                refine fw_ior h rfl ?_
                refine fw_putI h rfl fk_p_X8_188 rfl rfl ?_
                first | refine fn_iinc h [_, _, _, _] rfl rfl rfl rfl rfl ?_ | refine fw_iinc h 1 [_, _, _, _] rfl (by decide) rfl rfl rfl rfl ?_
                refine fw_goto h rfl ?_
                first
                  | (rw [fb_up_up, fq_inv_or0]
                     refine fw_sub (fb_pad_c (Or.inr rfl) (fb_pad_c (Or.inr rfl) (fb_pad_c (Or.inr rfl) (fb_pad_c (Or.inl rfl) (fb_pad_n))))) (ih mi (fq_inv_keep hI (fun q => ?_)) hlt)
                     have q := (fq_mP_t hi).mp q
                     first
                       | exact q.2 c170
                       | (rcases q.1 with q1 | q1
                          · first
                              | exact q1.1 c107
                              | exact absurd q1.2 (by rw [eu, nI_clamp (by omega), c120]; decide)
                          · first
                              | exact q1.1 c134
                              | exact absurd q1.2 (by rw [ev, nI_clamp (by omega), c147]; decide)))
                  | (rw [fb_up_up]
                     refine fw_sub (fb_pad_c (Or.inr rfl) (fb_pad_c (Or.inr rfl) (fb_pad_c (Or.inr rfl) (fb_pad_c (Or.inl rfl) (fb_pad_n))))) (ih _ ?_ (fp_lt_or hlt (fp_lt_1 hi (by omega))))
                     have z := fq_inv_add (fq_mP_mono _ _ _ _ _) hI (by rw [fq_mB_t]; omega) ((fq_mP_t hi).mpr ⟨by first | exact Or.inl ⟨c107, by rw [eu, nI_clamp (by omega)]; exact c120⟩ | exact Or.inr ⟨c134, by rw [ev, nI_clamp (by omega)]; exact c147⟩, c170⟩)
                     rw [fq_mB_t] at z
                     exact z)
            · refine fw_if_eq h rfl (fun _ => ?_) (fun c => absurd c (by decide))
              refine fw_iconst h (nI 0) rfl (by decide) ?_
              refine fw_istore_n h [_, _, _, _] rfl rfl rfl rfl ?_
              refine fw_aload_n h rfl rfl ?_
              refine fw_dup h rfl rfl ?_
              refine fw_getIv (mi) h rfl fk_g_X8_188 rfl rfl (rfl) ?_
              refine fw_iload_n h rfl rfl ?_
              refine fw_if_eq h rfl (fun _ => ?_) (fun c => absurd c (by decide))
              refine fw_iconst h (nI 0) rfl (by decide) ?_
              refine fw_ior h rfl ?_
              refine fw_putI h rfl fk_p_X8_188 rfl rfl ?_
              first | refine fn_iinc h [_, _, _, _] rfl rfl rfl rfl rfl ?_ | refine fw_iinc h 1 [_, _, _, _] rfl (by decide) rfl rfl rfl rfl ?_
              refine fw_goto h rfl ?_
              first
                | (rw [fb_up_up, fq_inv_or0]
                   refine fw_sub (fb_pad_c (Or.inr rfl) (fb_pad_c (Or.inr rfl) (fb_pad_c (Or.inr rfl) (fb_pad_c (Or.inl rfl) (fb_pad_n))))) (ih mi (fq_inv_keep hI (fun q => ?_)) hlt)
                   have q := (fq_mP_t hi).mp q
                   first
                     | exact q.2 c170
                     | (rcases q.1 with q1 | q1
                        · first
                            | exact q1.1 c107
                            | exact absurd q1.2 (by rw [eu, nI_clamp (by omega), c120]; decide)
                        · first
                            | exact q1.1 c134
                            | exact absurd q1.2 (by rw [ev, nI_clamp (by omega), c147]; decide)))
                | (rw [fb_up_up]
                   refine fw_sub (fb_pad_c (Or.inr rfl) (fb_pad_c (Or.inr rfl) (fb_pad_c (Or.inr rfl) (fb_pad_c (Or.inl rfl) (fb_pad_n))))) (ih _ ?_ (fp_lt_or hlt (fp_lt_1 hi (by omega))))
                   have z := fq_inv_add (fq_mP_mono _ _ _ _ _) hI (by rw [fq_mB_t]; omega) ((fq_mP_t hi).mpr ⟨by first | exact Or.inl ⟨c107, by rw [eu, nI_clamp (by omega)]; exact c120⟩ | exact Or.inr ⟨c134, by rw [ev, nI_clamp (by omega)]; exact c147⟩, c170⟩)
                   rw [fq_mB_t] at z
                   exact z)
  · intro mi hI hlt
    refine fw_iload_n h rfl rfl ?_
    refine fw_aload_n h rfl rfl ?_
    refine fw_getR _ h rfl fk_g_X8_50 rfl rfl ?_
    refine fw_iload_n h rfl rfl ?_
    refine fn_ialdF (w.1 59) h rfl rfl (rfl) (by omega) rfl ?_
    refine fw_icmp_ge h rfl (fun c9 => False.elim (nI_ge hi (by have := hA.2.1; omega) (by rw [← show w.1 59 d = nI m from hA.1]; exact c9))) (fun c9 => ?_)
    have hnt := hN.1.2
    have hm10 := hA.2.1
    obtain ⟨s, a, hs, es, ha, ea, hb1, hb2, hz⟩ := hA.2.2.1 i hi
    refine fw_bipush h (nI 10) rfl (by decide) ?_
    refine fw_iload_n h rfl rfl ?_
    first | refine fn_imul h rfl ?_ | refine fw_imul h rfl ?_
    refine fw_iload_n h rfl rfl ?_
    first | refine fn_iadd h rfl ?_ | refine fw_iadd h rfl ?_
    refine fw_istore_n h [_, _, _, _] rfl rfl rfl rfl ?_
    refine fw_aload_n h rfl rfl ?_
    refine fw_iload_n h rfl rfl ?_
    refine fw_v1I h rfl fk_v_X8_so fk_l_X8_194 rfl rfl rfl rfl ?_
    refine c_X8_soN (by omega) (fun (c21 : bt (w.1 46 23) i = true) => ?_) (fun (c21 : bt (w.1 46 23) i = false) => ?_)
    · refine fw_if_eq h rfl (fun c => absurd c (by decide)) (fun _ => ?_)
      refine fw_aload_n h rfl rfl ?_
      refine fw_getR _ h rfl fk_g_X8_53 rfl rfl ?_
      refine fw_iload_n h rfl rfl ?_
      refine fn_ialdF (w.1 60) h rfl rfl (rfl) (by omega) rfl ?_
      refine fw_iconst h (nI 1) rfl (by decide) ?_
      refine fw_icmp_ne h rfl (fun c34 => ?_) (fun c34 => ?_)
      · first | refine fn_iinc h [_, _, _, _] rfl rfl rfl rfl rfl ?_ | refine fw_iinc h 1 [_, _, _, _] rfl (by decide) rfl rfl rfl rfl ?_
        refine fw_goto h rfl ?_
        first
          | (rw [fb_up_up]
             refine fw_sub (fb_pad_c (Or.inr rfl) (fb_pad_c (Or.inr rfl) (fb_pad_c (Or.inr rfl) (fb_pad_c (Or.inl rfl) (fb_pad_n))))) (ih _ ?_ (fp_lt_or hlt (fp_lt_1 hb (by omega))))
             have z := fq_inv_add (fq_mP_mono _ _ _ _ _) hI (by rw [fq_mB_a hi, eb, nI_clamp (by omega)]; omega) ((fq_mP_a hi).mpr ⟨c21, c34, by rw [ea, nI_clamp (by omega)]; exact c47, by rw [eb, nI_clamp (by omega)]; exact c60⟩)
             rw [fq_mB_a hi, eb, nI_clamp (by omega)] at z
             exact z)
          | (refine fw_sub (fb_pad_c (Or.inr rfl) (fb_pad_c (Or.inr rfl) (fb_pad_c (Or.inr rfl) (fb_pad_c (Or.inl rfl) (fb_pad_n))))) (ih mi (fq_inv_keep hI (fun q => ?_)) hlt)
             have q := (fq_mP_a hi).mp q
             first
               | exact absurd q.1 (by rw [c21]; decide)
               | exact c34 q.2.1
               | exact absurd q.2.2.1 (by rw [ea, nI_clamp (by omega), c47]; decide)
               | exact q.2.2.2 (by rw [eb, nI_clamp (by omega)]; exact c60))
      · have hs1 : s = 1 := (nI_eq (by omega) (by decide)).mp (es.symm.trans c34)
        obtain ⟨b, hb, hne, eb⟩ := hb1 hs1
        refine fw_aload_n h rfl rfl ?_
        refine fw_getIv (mi) h rfl fk_g_X8_188 rfl rfl (rfl) ?_
        refine fw_aload_n h rfl rfl ?_
        refine fw_getR _ h rfl fk_g_X8_56 rfl rfl ?_
        refine fw_iload_n h rfl rfl ?_
        refine fn_ialdF (w.1 61) h rfl rfl (rfl) (by omega) rfl ?_
        refine fw_s2I h rfl fk_s_X8_has fk_l_X8_185 rfl rfl ?_
        refine c_X8_hasN ea (by omega) (fun (c47 : bt mi a = true) => ?_) (fun (c47 : bt mi a = false) => ?_)
        · refine fw_if_eq h rfl (fun c => absurd c (by decide)) (fun _ => ?_)
          refine fw_aload_n h rfl rfl ?_
          refine fw_aload_n h rfl rfl ?_
          refine fw_getR _ h rfl fk_g_X8_59 rfl rfl ?_
          refine fw_iload_n h rfl rfl ?_
          refine fn_ialdF (w.1 62) h rfl rfl (rfl) (by omega) rfl ?_
          refine fw_v1I h rfl fk_v_X8_mayMove fk_l_X8_210 rfl rfl rfl rfl ?_
          refine c_X8_mayMoveN eb (by omega) (fun (c60 : ¬ w.1 51 b = 3) => ?_) (fun (c60 : w.1 51 b = 3) => ?_)
          · refine fw_if_eq h rfl (fun c => absurd c (by decide)) (fun _ => ?_)
            refine fw_aload_n h rfl rfl ?_
            refine fw_dup h rfl rfl ?_
            refine fw_getIv (mi) h rfl fk_g_X8_188 rfl rfl (rfl) ?_
            refine fw_iconst h (nI 1) rfl (by decide) ?_
            refine fw_aload_n h rfl rfl ?_
            refine fw_getR _ h rfl fk_g_X8_59 rfl rfl ?_
            refine fw_iload_n h rfl rfl ?_
            refine fn_ialdF (w.1 62) h rfl rfl (rfl) (by omega) rfl ?_
            rw [show w.1 62 (10 * d + i) = nI b from eb]
            refine fw_ishl h rfl ?_
            refine fw_ior h rfl ?_
            refine fw_putI h rfl fk_p_X8_188 rfl rfl ?_
            first | refine fn_iinc h [_, _, _, _] rfl rfl rfl rfl rfl ?_ | refine fw_iinc h 1 [_, _, _, _] rfl (by decide) rfl rfl rfl rfl ?_
            refine fw_goto h rfl ?_
            first
              | (rw [fb_up_up]
                 refine fw_sub (fb_pad_c (Or.inr rfl) (fb_pad_c (Or.inr rfl) (fb_pad_c (Or.inr rfl) (fb_pad_c (Or.inl rfl) (fb_pad_n))))) (ih _ ?_ (fp_lt_or hlt (fp_lt_1 hb (by omega))))
                 have z := fq_inv_add (fq_mP_mono _ _ _ _ _) hI (by rw [fq_mB_a hi, eb, nI_clamp (by omega)]; omega) ((fq_mP_a hi).mpr ⟨c21, c34, by rw [ea, nI_clamp (by omega)]; exact c47, by rw [eb, nI_clamp (by omega)]; exact c60⟩)
                 rw [fq_mB_a hi, eb, nI_clamp (by omega)] at z
                 exact z)
              | (refine fw_sub (fb_pad_c (Or.inr rfl) (fb_pad_c (Or.inr rfl) (fb_pad_c (Or.inr rfl) (fb_pad_c (Or.inl rfl) (fb_pad_n))))) (ih mi (fq_inv_keep hI (fun q => ?_)) hlt)
                 have q := (fq_mP_a hi).mp q
                 first
                   | exact absurd q.1 (by rw [c21]; decide)
                   | exact c34 q.2.1
                   | exact absurd q.2.2.1 (by rw [ea, nI_clamp (by omega), c47]; decide)
                   | exact q.2.2.2 (by rw [eb, nI_clamp (by omega)]; exact c60))
          · refine fw_if_eq h rfl (fun _ => ?_) (fun c => absurd c (by decide))
            first | refine fn_iinc h [_, _, _, _] rfl rfl rfl rfl rfl ?_ | refine fw_iinc h 1 [_, _, _, _] rfl (by decide) rfl rfl rfl rfl ?_
            refine fw_goto h rfl ?_
            first
              | (rw [fb_up_up]
                 refine fw_sub (fb_pad_c (Or.inr rfl) (fb_pad_c (Or.inr rfl) (fb_pad_c (Or.inr rfl) (fb_pad_c (Or.inl rfl) (fb_pad_n))))) (ih _ ?_ (fp_lt_or hlt (fp_lt_1 hb (by omega))))
                 have z := fq_inv_add (fq_mP_mono _ _ _ _ _) hI (by rw [fq_mB_a hi, eb, nI_clamp (by omega)]; omega) ((fq_mP_a hi).mpr ⟨c21, c34, by rw [ea, nI_clamp (by omega)]; exact c47, by rw [eb, nI_clamp (by omega)]; exact c60⟩)
                 rw [fq_mB_a hi, eb, nI_clamp (by omega)] at z
                 exact z)
              | (refine fw_sub (fb_pad_c (Or.inr rfl) (fb_pad_c (Or.inr rfl) (fb_pad_c (Or.inr rfl) (fb_pad_c (Or.inl rfl) (fb_pad_n))))) (ih mi (fq_inv_keep hI (fun q => ?_)) hlt)
                 have q := (fq_mP_a hi).mp q
                 first
                   | exact absurd q.1 (by rw [c21]; decide)
                   | exact c34 q.2.1
                   | exact absurd q.2.2.1 (by rw [ea, nI_clamp (by omega), c47]; decide)
                   | exact q.2.2.2 (by rw [eb, nI_clamp (by omega)]; exact c60))
        · refine fw_if_eq h rfl (fun _ => ?_) (fun c => absurd c (by decide))
          first | refine fn_iinc h [_, _, _, _] rfl rfl rfl rfl rfl ?_ | refine fw_iinc h 1 [_, _, _, _] rfl (by decide) rfl rfl rfl rfl ?_
          refine fw_goto h rfl ?_
          first
            | (rw [fb_up_up]
               refine fw_sub (fb_pad_c (Or.inr rfl) (fb_pad_c (Or.inr rfl) (fb_pad_c (Or.inr rfl) (fb_pad_c (Or.inl rfl) (fb_pad_n))))) (ih _ ?_ (fp_lt_or hlt (fp_lt_1 hb (by omega))))
               have z := fq_inv_add (fq_mP_mono _ _ _ _ _) hI (by rw [fq_mB_a hi, eb, nI_clamp (by omega)]; omega) ((fq_mP_a hi).mpr ⟨c21, c34, by rw [ea, nI_clamp (by omega)]; exact c47, by rw [eb, nI_clamp (by omega)]; exact c60⟩)
               rw [fq_mB_a hi, eb, nI_clamp (by omega)] at z
               exact z)
            | (refine fw_sub (fb_pad_c (Or.inr rfl) (fb_pad_c (Or.inr rfl) (fb_pad_c (Or.inr rfl) (fb_pad_c (Or.inl rfl) (fb_pad_n))))) (ih mi (fq_inv_keep hI (fun q => ?_)) hlt)
               have q := (fq_mP_a hi).mp q
               first
                 | exact absurd q.1 (by rw [c21]; decide)
                 | exact c34 q.2.1
                 | exact absurd q.2.2.1 (by rw [ea, nI_clamp (by omega), c47]; decide)
                 | exact q.2.2.2 (by rw [eb, nI_clamp (by omega)]; exact c60))
    · refine fw_if_eq h rfl (fun _ => ?_) (fun c => absurd c (by decide))
      first | refine fn_iinc h [_, _, _, _] rfl rfl rfl rfl rfl ?_ | refine fw_iinc h 1 [_, _, _, _] rfl (by decide) rfl rfl rfl rfl ?_
      refine fw_goto h rfl ?_
      first
        | (rw [fb_up_up]
           refine fw_sub (fb_pad_c (Or.inr rfl) (fb_pad_c (Or.inr rfl) (fb_pad_c (Or.inr rfl) (fb_pad_c (Or.inl rfl) (fb_pad_n))))) (ih _ ?_ (fp_lt_or hlt (fp_lt_1 hb (by omega))))
           have z := fq_inv_add (fq_mP_mono _ _ _ _ _) hI (by rw [fq_mB_a hi, eb, nI_clamp (by omega)]; omega) ((fq_mP_a hi).mpr ⟨c21, c34, by rw [ea, nI_clamp (by omega)]; exact c47, by rw [eb, nI_clamp (by omega)]; exact c60⟩)
           rw [fq_mB_a hi, eb, nI_clamp (by omega)] at z
           exact z)
        | (refine fw_sub (fb_pad_c (Or.inr rfl) (fb_pad_c (Or.inr rfl) (fb_pad_c (Or.inr rfl) (fb_pad_c (Or.inl rfl) (fb_pad_n))))) (ih mi (fq_inv_keep hI (fun q => ?_)) hlt)
           have q := (fq_mP_a hi).mp q
           first
             | exact absurd q.1 (by rw [c21]; decide)
             | exact c34 q.2.1
             | exact absurd q.2.2.1 (by rw [ea, nI_clamp (by omega), c47]; decide)
             | exact q.2.2.2 (by rw [eb, nI_clamp (by omega)]; exact c60))
