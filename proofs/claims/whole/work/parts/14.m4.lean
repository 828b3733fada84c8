def fq_bP (D : Nat → Nat → Int32) (nt d m : Nat) (so mv : Int32) (j : Nat) (S : Int32) : Prop := if j < m then (bt so j = true ∧ D 9 (10 * d + j) = 1 ∧ bt S (D 11 (10 * d + j)).toNatClampNeg = true ∧ bt mv (D 10 (10 * d + j)).toNatClampNeg = true) else ((j - m) / 2 < nt ∧ bt S ((j - m) / 2) = true ∧ ¬ D (3 + (j - m) % 2) ((j - m) / 2) = -9 ∧ bt mv (D (3 + (j - m) % 2) ((j - m) / 2)).toNatClampNeg = true)
def fq_bB (D : Nat → Nat → Int32) (d m j : Nat) : Nat := if j < m then (D 10 (10 * d + j)).toNatClampNeg else (D (3 + (j - m) % 2) ((j - m) / 2)).toNatClampNeg
theorem fq_bP_a {D : Nat → Nat → Int32} {nt d m : Nat} {so mv : Int32} {j : Nat} {S : Int32} (h : j < m) : fq_bP D nt d m so mv j S ↔ (bt so j = true ∧ D 9 (10 * d + j) = 1 ∧ bt S (D 11 (10 * d + j)).toNatClampNeg = true ∧ bt mv (D 10 (10 * d + j)).toNatClampNeg = true) := by unfold fq_bP; rw [if_pos h]
theorem fq_bP_w {D : Nat → Nat → Int32} {nt d m : Nat} {so mv : Int32} {t : Nat} {S : Int32} (h : t < nt) : fq_bP D nt d m so mv (m + 2 * t) S ↔ (bt S t = true ∧ ¬ D 3 t = -9 ∧ bt mv (D 3 t).toNatClampNeg = true) := by
  unfold fq_bP
  rw [if_neg (by omega), show (m + 2 * t - m) / 2 = t by omega, show (m + 2 * t - m) % 2 = 0 by omega]
  exact ⟨fun q => q.2, fun q => ⟨h, q⟩⟩
theorem fq_bP_o {D : Nat → Nat → Int32} {nt d m : Nat} {so mv : Int32} {t : Nat} {S : Int32} (h : t < nt) : fq_bP D nt d m so mv (m + 2 * t + 1) S ↔ (bt S t = true ∧ ¬ D 4 t = -9 ∧ bt mv (D 4 t).toNatClampNeg = true) := by
  unfold fq_bP
  rw [if_neg (by omega), show (m + 2 * t + 1 - m) / 2 = t by omega, show (m + 2 * t + 1 - m) % 2 = 1 by omega]
  exact ⟨fun q => q.2, fun q => ⟨h, q⟩⟩
theorem fq_bB_a {D : Nat → Nat → Int32} {d m j : Nat} (h : j < m) : fq_bB D d m j = (D 10 (10 * d + j)).toNatClampNeg := if_pos h
theorem fq_bB_w {D : Nat → Nat → Int32} {d m t : Nat} : fq_bB D d m (m + 2 * t) = (D 3 t).toNatClampNeg := by
  unfold fq_bB; rw [if_neg (by omega), show (m + 2 * t - m) / 2 = t by omega, show (m + 2 * t - m) % 2 = 0 by omega]
theorem fq_bB_o {D : Nat → Nat → Int32} {d m t : Nat} : fq_bB D d m (m + 2 * t + 1) = (D 4 t).toNatClampNeg := by
  unfold fq_bB; rw [if_neg (by omega), show (m + 2 * t + 1 - m) / 2 = t by omega, show (m + 2 * t + 1 - m) % 2 = 1 by omega]
theorem fq_bP_mono (D : Nat → Nat → Int32) (nt d m : Nat) (so mv : Int32) : fq_mono (fq_bP D nt d m so mv) := by
  intro j S S' hs h
  unfold fq_bP at h ⊢
  split
  · rename_i hj
    rw [if_pos hj] at h
    exact ⟨h.1, h.2.1, fp_subt hs h.2.2.1, h.2.2.2⟩
  · rename_i hj
    rw [if_neg hj] at h
    exact ⟨h.1, fp_subt hs h.2.1, h.2.2⟩
theorem c_X8_blameOn {l : Launch} {w : fb_Wd} {P : fb_Wd → Prop} {d nt nd nx ng m : Nat} (hN : fd_N (mD w) nt nd nx ng) (hT : fd_T (mD w) nt) (hA : fd_A (mD w) nt d m) (hd : d < 12) (hlt0 : fp_lt nt (w.1 46 26)) (hp : ∀ mi, fq_inv (fq_bP (mD w) nt d m (w.1 46 23) (w.1 46 24)) (fq_bB (mD w) d m) (w.1 46 26) (m + 2 * nt) mi → fp_lt nt mi → P (fb_up w 46 26 mi)) : fb_Can l tX8_blameOn [.ref 46, .int (nI d)] w (fb_kV P) := by
  refine fb_intro 2 fk_t_X8_blameOn (by decide) rfl (fun X hX h => ?_)
  subst hX
  change fb_AW tX8_blameOn X 0 [some (.ref 46), some (.int (nI d)), none, none] [] w
  refine fw_iconst h (nI 0) rfl (by decide) ?_
  refine fw_istore_n h [_, _, _, _] rfl rfl rfl rfl ?_
  rw [← fb_up_self w 46 26]
  refine (?_ : ∀ mi, fq_inv (fq_bP (mD w) nt d m (w.1 46 23) (w.1 46 24)) (fq_bB (mD w) d m) (w.1 46 26) 0 mi → fp_lt nt mi → fb_AW tX8_blameOn X 2 [some (.ref 46), some (.int (nI d)), some (.int (nI 0)), none] [] (fb_up w 46 26 mi)) (w.1 46 26) (fq_inv_0 _ _ _) hlt0
  refine fb_loop (fun i => ∀ mi, fq_inv (fq_bP (mD w) nt d m (w.1 46 23) (w.1 46 24)) (fq_bB (mD w) d m) (w.1 46 26) i mi → fp_lt nt mi → fb_AW tX8_blameOn X 2 [some (.ref 46), some (.int (nI d)), some (.int (nI i)), none] [] (fb_up w 46 26 mi)) (m) ?_ (fun i hi ih => ?_) 0 (Nat.zero_le _)
  · intro mi hI hlt
    refine fw_iload_n h rfl rfl ?_
    refine fw_aload_n h rfl rfl ?_
    refine fw_getR _ h rfl fk_g_X8_50 rfl rfl ?_
    refine fw_iload_n h rfl rfl ?_
    refine fn_iald h rfl rfl (by omega) rfl ?_
    refine fw_icmp_ge h rfl (fun c9 => ?_) (fun c9 => False.elim (c9 (by rw [show (fb_up w 46 26 mi).1 59 d = nI m from hA.1]; exact Int32.le_refl _)))
    refine fw_iconst h (nI 0) rfl (by decide) ?_
    refine fw_istore_n h [_, _, _, _] rfl rfl rfl rfl ?_
    refine (?_ : ∀ mi, fq_inv (fq_bP (mD w) nt d m (w.1 46 23) (w.1 46 24)) (fq_bB (mD w) d m) (w.1 46 26) (m + 2 * 0) mi → fp_lt nt mi → fb_AW tX8_blameOn X 94 [some (.ref 46), some (.int (nI d)), some (.int (nI 0)), none] [] (fb_up w 46 26 mi)) mi hI hlt
    refine fb_loop (fun i => ∀ mi, fq_inv (fq_bP (mD w) nt d m (w.1 46 23) (w.1 46 24)) (fq_bB (mD w) d m) (w.1 46 26) (m + 2 * i) mi → fp_lt nt mi → fb_AW tX8_blameOn X 94 [some (.ref 46), some (.int (nI d)), some (.int (nI i)), none] [] (fb_up w 46 26 mi)) (nt) ?_ (fun i hi ih => ?_) 0 (Nat.zero_le _)
    · intro mi hI hlt
      refine fw_iload_n h rfl rfl ?_
      refine fw_aload_n h rfl rfl ?_
      refine fw_getI h rfl fk_g_X8_124 rfl rfl ?_
      refine fw_icmp_ge h rfl (fun c99 => ?_) (fun c99 => False.elim (c99 (by rw [show (fb_up w 46 26 mi).1 46 8 = nI nt from hN.1.1]; exact Int32.le_refl _)))
      exact fw_vret h rfl rfl ⟨rfl, hp mi hI hlt⟩
    · intro mi hI hlt
      refine fw_iload_n h rfl rfl ?_
      refine fw_aload_n h rfl rfl ?_
      refine fw_getIv (w.1 46 8) h rfl fk_g_X8_124 rfl rfl (rfl) ?_
      refine fw_icmp_ge h rfl (fun c99 => False.elim (nI_ge hi (by have := hN.1.2; omega) (by rw [← show w.1 46 8 = nI nt from hN.1.1]; exact c99))) (fun c99 => ?_)
      have hnt := hN.1.2
      have hTi := hT i hi
      refine fw_aload_n h rfl rfl ?_
      refine fw_getIv (mi) h rfl fk_g_X8_204 rfl rfl (rfl) ?_
      refine fw_iload_n h rfl rfl ?_
      refine fw_s2I h rfl fk_s_X8_has fk_l_X8_185 rfl rfl ?_
      refine c_X8_hasN rfl (by omega) (fun (c107 : bt mi i = true) => ?_) (fun (c107 : bt mi i = false) => ?_)
      · refine fw_if_eq h rfl (fun c => absurd c (by decide)) (fun _ => ?_)
        refine fw_aload_n h rfl rfl ?_
        refine fw_dup h rfl rfl ?_
        refine fw_getIv (mi) h rfl fk_g_X8_204 rfl rfl (rfl) ?_
        refine fw_aload_n h rfl rfl ?_
        refine fw_getR _ h rfl fk_g_X8_35 rfl rfl ?_
        refine fw_iload_n h rfl rfl ?_
        refine fn_ialdF (w.1 54) h rfl rfl (rfl) (by omega) rfl ?_
        refine fw_bipush h (-9) rfl (by decide) ?_
        refine fw_icmp_eq h rfl (fun c126 => ?_) (fun c126 => ?_)
        · refine fw_iconst h (nI 0) rfl (by decide) ?_
          refine fw_ior h rfl ?_
          refine fw_putI h rfl fk_p_X8_204 rfl rfl ?_
          suffices H : ∀ mi2, fq_inv (fq_bP (mD w) nt d m (w.1 46 23) (w.1 46 24)) (fq_bB (mD w) d m) (w.1 46 26) (m + 2 * i + 1) mi2 → fp_lt nt mi2 → bt mi2 i = true → fb_AW tX8_blameOn X 161 [some (.ref 46), some (.int (nI d)), some (.int (nI i)), none] [] (fb_up w 46 26 mi2) by
            first
              | (rw [fb_up_up, fq_inv_or0]
                 refine H mi (fq_inv_keep hI (fun q => ?_)) hlt c107
                 have q := (fq_bP_w hi).mp q
                 first
                   | exact q.2.1 c126
                   | exact absurd q.2.2 (by rw [eu, nI_clamp (by omega), c139]; decide))
              | (rw [fb_up_up]
                 refine H _ ?_ (fp_lt_or hlt (fp_lt_1 (k := u) (by omega) (by omega))) (by rw [b_or, c107]; rfl)
                 have z := fq_inv_add (fq_bP_mono _ _ _ _ _ _) hI (by rw [fq_bB_w, eu, nI_clamp (by omega)]; omega) ((fq_bP_w hi).mpr ⟨c107, c126, by rw [eu, nI_clamp (by omega)]; exact c139⟩)
                 rw [fq_bB_w, eu, nI_clamp (by omega)] at z
                 exact z)
          intro mi2 hI2 hlt2 ht2
          · refine fw_aload_n h rfl rfl ?_
            refine fw_dup h rfl rfl ?_
            refine fw_getIv (mi2) h rfl fk_g_X8_204 rfl rfl (rfl) ?_
            refine fw_aload_n h rfl rfl ?_
            refine fw_getR _ h rfl fk_g_X8_38 rfl rfl ?_
            refine fw_iload_n h rfl rfl ?_
            refine fn_ialdF (w.1 55) h rfl rfl (rfl) (by omega) rfl ?_
            refine fw_bipush h (-9) rfl (by decide) ?_
            refine fw_icmp_eq h rfl (fun c174 => ?_) (fun c174 => ?_)
            · refine fw_iconst h (nI 0) rfl (by decide) ?_
              refine fw_ior h rfl ?_
              refine fw_putI h rfl fk_p_X8_204 rfl rfl ?_
              first | refine fn_iinc h [_, _, _, _] rfl rfl rfl rfl rfl ?_ | refine fw_iinc h 1 [_, _, _, _] rfl (by decide) rfl rfl rfl rfl ?_
              refine fw_goto h rfl ?_
              first
                | (rw [fb_up_up, fq_inv_or0]
                   refine ih mi2 (fq_inv_keep hI2 (fun q => ?_)) hlt2
                   have q := (fq_bP_o hi).mp q
                   first
                     | exact q.2.1 c174
                     | exact absurd q.2.2 (by rw [ev, nI_clamp (by omega), c187]; decide))
                | (rw [fb_up_up]
                   refine ih _ ?_ (fp_lt_or hlt2 (fp_lt_1 hv (by omega)))
                   have z := fq_inv_add (fq_bP_mono _ _ _ _ _ _) hI2 (by rw [fq_bB_o, ev, nI_clamp (by omega)]; omega) ((fq_bP_o hi).mpr ⟨ht2, c174, by rw [ev, nI_clamp (by omega)]; exact c187⟩)
                   rw [fq_bB_o, ev, nI_clamp (by omega)] at z
                   exact z)
                | (refine ih mi (fq_inv_keep (fq_inv_keep hI (fun q => ?_)) (fun q => ?_)) hlt
                   · exact absurd ((fq_bP_w hi).mp q).1 (by rw [c107]; decide)
                   · exact absurd ((fq_bP_o hi).mp q).1 (by rw [c107]; decide))
            · obtain ⟨v, hv, ev⟩ : ∃ u, u < nt ∧ mD w 4 i = nI u := hTi.2.2.2.2.resolve_left c174
              refine fw_aload_n h rfl rfl ?_
              refine fw_getIv (w.1 46 24) h rfl fk_g_X8_188 rfl rfl (rfl) ?_
              refine fw_aload_n h rfl rfl ?_
              refine fw_getR _ h rfl fk_g_X8_38 rfl rfl ?_
              refine fw_iload_n h rfl rfl ?_
              refine fn_ialdF (w.1 55) h rfl rfl (rfl) (by omega) rfl ?_
              refine fw_s2I h rfl fk_s_X8_has fk_l_X8_185 rfl rfl ?_
              refine c_X8_hasN ev (by omega) (fun (c187 : bt (w.1 46 24) v = true) => ?_) (fun (c187 : bt (w.1 46 24) v = false) => ?_)
              · refine fw_if_eq h rfl (fun c => absurd c (by decide)) (fun _ => ?_)
                refine fw_iconst h (nI 1) rfl (by decide) ?_
                refine fw_aload_n h rfl rfl ?_
                refine fw_getR _ h rfl fk_g_X8_38 rfl rfl ?_
                refine fw_iload_n h rfl rfl ?_
                refine fn_ialdF (w.1 55) h rfl rfl (rfl) (by omega) rfl ?_
                rw [show w.1 55 i = nI v from ev]
                refine fw_ishl h rfl ?_
                refine fw_goto h rfl ?_
                refine fw_ior h rfl ?_
                refine fw_putI h rfl fk_p_X8_204 rfl rfl ?_
                first | refine fn_iinc h [_, _, _, _] rfl rfl rfl rfl rfl ?_ | refine fw_iinc h 1 [_, _, _, _] rfl (by decide) rfl rfl rfl rfl ?_
                refine fw_goto h rfl ?_
                first
                  | (rw [fb_up_up, fq_inv_or0]
                     refine ih mi2 (fq_inv_keep hI2 (fun q => ?_)) hlt2
                     have q := (fq_bP_o hi).mp q
                     first
                       | exact q.2.1 c174
                       | exact absurd q.2.2 (by rw [ev, nI_clamp (by omega), c187]; decide))
                  | (rw [fb_up_up]
                     refine ih _ ?_ (fp_lt_or hlt2 (fp_lt_1 hv (by omega)))
                     have z := fq_inv_add (fq_bP_mono _ _ _ _ _ _) hI2 (by rw [fq_bB_o, ev, nI_clamp (by omega)]; omega) ((fq_bP_o hi).mpr ⟨ht2, c174, by rw [ev, nI_clamp (by omega)]; exact c187⟩)
                     rw [fq_bB_o, ev, nI_clamp (by omega)] at z
                     exact z)
                  | (refine ih mi (fq_inv_keep (fq_inv_keep hI (fun q => ?_)) (fun q => ?_)) hlt
                     · exact absurd ((fq_bP_w hi).mp q).1 (by rw [c107]; decide)
                     · exact absurd ((fq_bP_o hi).mp q).1 (by rw [c107]; decide))
              · refine fw_if_eq h rfl (fun _ => ?_) (fun c => absurd c (by decide))
                refine fw_iconst h (nI 0) rfl (by decide) ?_
                refine fw_ior h rfl ?_
                refine fw_putI h rfl fk_p_X8_204 rfl rfl ?_
                first | refine fn_iinc h [_, _, _, _] rfl rfl rfl rfl rfl ?_ | refine fw_iinc h 1 [_, _, _, _] rfl (by decide) rfl rfl rfl rfl ?_
                refine fw_goto h rfl ?_
                first
                  | (rw [fb_up_up, fq_inv_or0]
                     refine ih mi2 (fq_inv_keep hI2 (fun q => ?_)) hlt2
                     have q := (fq_bP_o hi).mp q
                     first
                       | exact q.2.1 c174
                       | exact absurd q.2.2 (by rw [ev, nI_clamp (by omega), c187]; decide))
                  | (rw [fb_up_up]
                     refine ih _ ?_ (fp_lt_or hlt2 (fp_lt_1 hv (by omega)))
                     have z := fq_inv_add (fq_bP_mono _ _ _ _ _ _) hI2 (by rw [fq_bB_o, ev, nI_clamp (by omega)]; omega) ((fq_bP_o hi).mpr ⟨ht2, c174, by rw [ev, nI_clamp (by omega)]; exact c187⟩)
                     rw [fq_bB_o, ev, nI_clamp (by omega)] at z
                     exact z)
                  | (refine ih mi (fq_inv_keep (fq_inv_keep hI (fun q => ?_)) (fun q => ?_)) hlt
                     · exact absurd ((fq_bP_w hi).mp q).1 (by rw [c107]; decide)
                     · exact absurd ((fq_bP_o hi).mp q).1 (by rw [c107]; decide))
        · obtain ⟨u, hu, eu⟩ : ∃ u, u < i ∧ mD w 3 i = nI u := hTi.2.2.2.1.resolve_left c126
          refine fw_aload_n h rfl rfl ?_
          refine fw_getIv (w.1 46 24) h rfl fk_g_X8_188 rfl rfl (rfl) ?_
          refine fw_aload_n h rfl rfl ?_
          refine fw_getR _ h rfl fk_g_X8_35 rfl rfl ?_
          refine fw_iload_n h rfl rfl ?_
          refine fn_ialdF (w.1 54) h rfl rfl (rfl) (by omega) rfl ?_
          refine fw_s2I h rfl fk_s_X8_has fk_l_X8_185 rfl rfl ?_
          refine c_X8_hasN eu (by omega) (fun (c139 : bt (w.1 46 24) u = true) => ?_) (fun (c139 : bt (w.1 46 24) u = false) => ?_)
          · refine fw_if_eq h rfl (fun c => absurd c (by decide)) (fun _ => ?_)
            refine fw_iconst h (nI 1) rfl (by decide) ?_
            refine fw_aload_n h rfl rfl ?_
            refine fw_getR _ h rfl fk_g_X8_35 rfl rfl ?_
            refine fw_iload_n h rfl rfl ?_
            refine fn_ialdF (w.1 54) h rfl rfl (rfl) (by omega) rfl ?_
            rw [show w.1 54 i = nI u from eu]
            refine fw_ishl h rfl ?_
            refine fw_goto h rfl ?_
            refine fw_ior h rfl ?_
            refine fw_putI h rfl fk_p_X8_204 rfl rfl ?_
            suffices H : ∀ mi2, fq_inv (fq_bP (mD w) nt d m (w.1 46 23) (w.1 46 24)) (fq_bB (mD w) d m) (w.1 46 26) (m + 2 * i + 1) mi2 → fp_lt nt mi2 → bt mi2 i = true → fb_AW tX8_blameOn X 161 [some (.ref 46), some (.int (nI d)), some (.int (nI i)), none] [] (fb_up w 46 26 mi2) by
              first
                | (rw [fb_up_up, fq_inv_or0]
                   refine H mi (fq_inv_keep hI (fun q => ?_)) hlt c107
                   have q := (fq_bP_w hi).mp q
                   first
                     | exact q.2.1 c126
                     | exact absurd q.2.2 (by rw [eu, nI_clamp (by omega), c139]; decide))
                | (rw [fb_up_up]
                   refine H _ ?_ (fp_lt_or hlt (fp_lt_1 (k := u) (by omega) (by omega))) (by rw [b_or, c107]; rfl)
                   have z := fq_inv_add (fq_bP_mono _ _ _ _ _ _) hI (by rw [fq_bB_w, eu, nI_clamp (by omega)]; omega) ((fq_bP_w hi).mpr ⟨c107, c126, by rw [eu, nI_clamp (by omega)]; exact c139⟩)
                   rw [fq_bB_w, eu, nI_clamp (by omega)] at z
                   exact z)
            intro mi2 hI2 hlt2 ht2
            · refine fw_aload_n h rfl rfl ?_
              refine fw_dup h rfl rfl ?_
              refine fw_getIv (mi2) h rfl fk_g_X8_204 rfl rfl (rfl) ?_
              refine fw_aload_n h rfl rfl ?_
              refine fw_getR _ h rfl fk_g_X8_38 rfl rfl ?_
              refine fw_iload_n h rfl rfl ?_
              refine fn_ialdF (w.1 55) h rfl rfl (rfl) (by omega) rfl ?_
              refine fw_bipush h (-9) rfl (by decide) ?_
              refine fw_icmp_eq h rfl (fun c174 => ?_) (fun c174 => ?_)
              · refine fw_iconst h (nI 0) rfl (by decide) ?_
                refine fw_ior h rfl ?_
                refine fw_putI h rfl fk_p_X8_204 rfl rfl ?_
                first | refine fn_iinc h [_, _, _, _] rfl rfl rfl rfl rfl ?_ | refine fw_iinc h 1 [_, _, _, _] rfl (by decide) rfl rfl rfl rfl ?_
                refine fw_goto h rfl ?_
                first
                  | (rw [fb_up_up, fq_inv_or0]
                     refine ih mi2 (fq_inv_keep hI2 (fun q => ?_)) hlt2
                     have q := (fq_bP_o hi).mp q
                     first
                       | exact q.2.1 c174
                       | exact absurd q.2.2 (by rw [ev, nI_clamp (by omega), c187]; decide))
                  | (rw [fb_up_up]
                     refine ih _ ?_ (fp_lt_or hlt2 (fp_lt_1 hv (by omega)))
                     have z := fq_inv_add (fq_bP_mono _ _ _ _ _ _) hI2 (by rw [fq_bB_o, ev, nI_clamp (by omega)]; omega) ((fq_bP_o hi).mpr ⟨ht2, c174, by rw [ev, nI_clamp (by omega)]; exact c187⟩)
                     rw [fq_bB_o, ev, nI_clamp (by omega)] at z
                     exact z)
                  | (refine ih mi (fq_inv_keep (fq_inv_keep hI (fun q => ?_)) (fun q => ?_)) hlt
                     · exact absurd ((fq_bP_w hi).mp q).1 (by rw [c107]; decide)
                     · exact absurd ((fq_bP_o hi).mp q).1 (by rw [c107]; decide))
              · obtain ⟨v, hv, ev⟩ : ∃ u, u < nt ∧ mD w 4 i = nI u := hTi.2.2.2.2.resolve_left c174
                refine fw_aload_n h rfl rfl ?_
                refine fw_getIv (w.1 46 24) h rfl fk_g_X8_188 rfl rfl (rfl) ?_
                refine fw_aload_n h rfl rfl ?_
                refine fw_getR _ h rfl fk_g_X8_38 rfl rfl ?_
                refine fw_iload_n h rfl rfl ?_
                refine fn_ialdF (w.1 55) h rfl rfl (rfl) (by omega) rfl ?_
                refine fw_s2I h rfl fk_s_X8_has fk_l_X8_185 rfl rfl ?_
                refine c_X8_hasN ev (by omega) (fun (c187 : bt (w.1 46 24) v = true) => ?_) (fun (c187 : bt (w.1 46 24) v = false) => ?_)
                · refine fw_if_eq h rfl (fun c => absurd c (by decide)) (fun _ => ?_)
                  refine fw_iconst h (nI 1) rfl (by decide) ?_
                  refine fw_aload_n h rfl rfl ?_
                  refine fw_getR _ h rfl fk_g_X8_38 rfl rfl ?_
                  refine fw_iload_n h rfl rfl ?_
                  refine fn_ialdF (w.1 55) h rfl rfl (rfl) (by omega) rfl ?_
                  rw [show w.1 55 i = nI v from ev]
                  refine fw_ishl h rfl ?_
                  refine fw_goto h rfl ?_
                  refine fw_ior h rfl ?_
                  refine fw_putI h rfl fk_p_X8_204 rfl rfl ?_
                  first | refine fn_iinc h [_, _, _, _] rfl rfl rfl rfl rfl ?_ | refine fw_iinc h 1 [_, _, _, _] rfl (by decide) rfl rfl rfl rfl ?_
                  refine fw_goto h rfl ?_
                  first
                    | (rw [fb_up_up, fq_inv_or0]
                       refine ih mi2 (fq_inv_keep hI2 (fun q => ?_)) hlt2
                       have q := (fq_bP_o hi).mp q
                       first
                         | exact q.2.1 c174
                         | exact absurd q.2.2 (by rw [ev, nI_clamp (by omega), c187]; decide))
                    | (rw [fb_up_up]
                       refine ih _ ?_ (fp_lt_or hlt2 (fp_lt_1 hv (by omega)))
                       have z := fq_inv_add (fq_bP_mono _ _ _ _ _ _) hI2 (by rw [fq_bB_o, ev, nI_clamp (by omega)]; omega) ((fq_bP_o hi).mpr ⟨ht2, c174, by rw [ev, nI_clamp (by omega)]; exact c187⟩)
                       rw [fq_bB_o, ev, nI_clamp (by omega)] at z
                       exact z)
                    | (refine ih mi (fq_inv_keep (fq_inv_keep hI (fun q => ?_)) (fun q => ?_)) hlt
                       · exact absurd ((fq_bP_w hi).mp q).1 (by rw [c107]; decide)
                       · exact absurd ((fq_bP_o hi).mp q).1 (by rw [c107]; decide))
                · refine fw_if_eq h rfl (fun _ => ?_) (fun c => absurd c (by decide))
                  refine fw_iconst h (nI 0) rfl (by decide) ?_
                  refine fw_ior h rfl ?_
                  refine fw_putI h rfl fk_p_X8_204 rfl rfl ?_
                  first | refine fn_iinc h [_, _, _, _] rfl rfl rfl rfl rfl ?_ | refine fw_iinc h 1 [_, _, _, _] rfl (by decide) rfl rfl rfl rfl ?_
                  refine fw_goto h rfl ?_
                  first
                    | (rw [fb_up_up, fq_inv_or0]
                       refine ih mi2 (fq_inv_keep hI2 (fun q => ?_)) hlt2
                       have q := (fq_bP_o hi).mp q
                       first
                         | exact q.2.1 c174
                         | exact absurd q.2.2 (by rw [ev, nI_clamp (by omega), c187]; decide))
                    | (rw [fb_up_up]
                       refine ih _ ?_ (fp_lt_or hlt2 (fp_lt_1 hv (by omega)))
                       have z := fq_inv_add (fq_bP_mono _ _ _ _ _ _) hI2 (by rw [fq_bB_o, ev, nI_clamp (by omega)]; omega) ((fq_bP_o hi).mpr ⟨ht2, c174, by rw [ev, nI_clamp (by omega)]; exact c187⟩)
                       rw [fq_bB_o, ev, nI_clamp (by omega)] at z
                       exact z)
                    | (refine ih mi (fq_inv_keep (fq_inv_keep hI (fun q => ?_)) (fun q => ?_)) hlt
                       · exact absurd ((fq_bP_w hi).mp q).1 (by rw [c107]; decide)
                       · exact absurd ((fq_bP_o hi).mp q).1 (by rw [c107]; decide))
          · refine fw_if_eq h rfl (fun _ => ?_) (fun c => absurd c (by decide))
            refine fw_iconst h (nI 0) rfl (by decide) ?_
            refine fw_ior h rfl ?_
            refine fw_putI h rfl fk_p_X8_204 rfl rfl ?_
            suffices H : ∀ mi2, fq_inv (fq_bP (mD w) nt d m (w.1 46 23) (w.1 46 24)) (fq_bB (mD w) d m) (w.1 46 26) (m + 2 * i + 1) mi2 → fp_lt nt mi2 → bt mi2 i = true → fb_AW tX8_blameOn X 161 [some (.ref 46), some (.int (nI d)), some (.int (nI i)), none] [] (fb_up w 46 26 mi2) by
              first
                | (rw [fb_up_up, fq_inv_or0]
                   refine H mi (fq_inv_keep hI (fun q => ?_)) hlt c107
                   have q := (fq_bP_w hi).mp q
                   first
                     | exact q.2.1 c126
                     | exact absurd q.2.2 (by rw [eu, nI_clamp (by omega), c139]; decide))
                | (rw [fb_up_up]
                   refine H _ ?_ (fp_lt_or hlt (fp_lt_1 (k := u) (by omega) (by omega))) (by rw [b_or, c107]; rfl)
                   have z := fq_inv_add (fq_bP_mono _ _ _ _ _ _) hI (by rw [fq_bB_w, eu, nI_clamp (by omega)]; omega) ((fq_bP_w hi).mpr ⟨c107, c126, by rw [eu, nI_clamp (by omega)]; exact c139⟩)
                   rw [fq_bB_w, eu, nI_clamp (by omega)] at z
                   exact z)
            intro mi2 hI2 hlt2 ht2
            · refine fw_aload_n h rfl rfl ?_
              refine fw_dup h rfl rfl ?_
              refine fw_getIv (mi2) h rfl fk_g_X8_204 rfl rfl (rfl) ?_
              refine fw_aload_n h rfl rfl ?_
              refine fw_getR _ h rfl fk_g_X8_38 rfl rfl ?_
              refine fw_iload_n h rfl rfl ?_
              refine fn_ialdF (w.1 55) h rfl rfl (rfl) (by omega) rfl ?_
              refine fw_bipush h (-9) rfl (by decide) ?_
              refine fw_icmp_eq h rfl (fun c174 => ?_) (fun c174 => ?_)
              · refine fw_iconst h (nI 0) rfl (by decide) ?_
                refine fw_ior h rfl ?_
                refine fw_putI h rfl fk_p_X8_204 rfl rfl ?_
                first | refine fn_iinc h [_, _, _, _] rfl rfl rfl rfl rfl ?_ | refine fw_iinc h 1 [_, _, _, _] rfl (by decide) rfl rfl rfl rfl ?_
                refine fw_goto h rfl ?_
                first
                  | (rw [fb_up_up, fq_inv_or0]
                     refine ih mi2 (fq_inv_keep hI2 (fun q => ?_)) hlt2
                     have q := (fq_bP_o hi).mp q
                     first
                       | exact q.2.1 c174
                       | exact absurd q.2.2 (by rw [ev, nI_clamp (by omega), c187]; decide))
                  | (rw [fb_up_up]
                     refine ih _ ?_ (fp_lt_or hlt2 (fp_lt_1 hv (by omega)))
                     have z := fq_inv_add (fq_bP_mono _ _ _ _ _ _) hI2 (by rw [fq_bB_o, ev, nI_clamp (by omega)]; omega) ((fq_bP_o hi).mpr ⟨ht2, c174, by rw [ev, nI_clamp (by omega)]; exact c187⟩)
                     rw [fq_bB_o, ev, nI_clamp (by omega)] at z
                     exact z)
                  | (refine ih mi (fq_inv_keep (fq_inv_keep hI (fun q => ?_)) (fun q => ?_)) hlt
                     · exact absurd ((fq_bP_w hi).mp q).1 (by rw [c107]; decide)
                     · exact absurd ((fq_bP_o hi).mp q).1 (by rw [c107]; decide))
              · obtain ⟨v, hv, ev⟩ : ∃ u, u < nt ∧ mD w 4 i = nI u := hTi.2.2.2.2.resolve_left c174
                refine fw_aload_n h rfl rfl ?_
                refine fw_getIv (w.1 46 24) h rfl fk_g_X8_188 rfl rfl (rfl) ?_
                refine fw_aload_n h rfl rfl ?_
                refine fw_getR _ h rfl fk_g_X8_38 rfl rfl ?_
                refine fw_iload_n h rfl rfl ?_
                refine fn_ialdF (w.1 55) h rfl rfl (rfl) (by omega) rfl ?_
                refine fw_s2I h rfl fk_s_X8_has fk_l_X8_185 rfl rfl ?_
                refine c_X8_hasN ev (by omega) (fun (c187 : bt (w.1 46 24) v = true) => ?_) (fun (c187 : bt (w.1 46 24) v = false) => ?_)
                · refine fw_if_eq h rfl (fun c => absurd c (by decide)) (fun _ => ?_)
                  refine fw_iconst h (nI 1) rfl (by decide) ?_
                  refine fw_aload_n h rfl rfl ?_
                  refine fw_getR _ h rfl fk_g_X8_38 rfl rfl ?_
                  refine fw_iload_n h rfl rfl ?_
                  refine fn_ialdF (w.1 55) h rfl rfl (rfl) (by omega) rfl ?_
                  rw [show w.1 55 i = nI v from ev]
                  refine fw_ishl h rfl ?_
                  refine fw_goto h rfl ?_
                  refine fw_ior h rfl ?_
                  refine fw_putI h rfl fk_p_X8_204 rfl rfl ?_
                  first | refine fn_iinc h [_, _, _, _] rfl rfl rfl rfl rfl ?_ | refine fw_iinc h 1 [_, _, _, _] rfl (by decide) rfl rfl rfl rfl ?_
                  refine fw_goto h rfl ?_
                  first
                    | (rw [fb_up_up, fq_inv_or0]
                       refine ih mi2 (fq_inv_keep hI2 (fun q => ?_)) hlt2
                       have q := (fq_bP_o hi).mp q
                       first
                         | exact q.2.1 c174
                         | exact absurd q.2.2 (by rw [ev, nI_clamp (by omega), c187]; decide))
                    | (rw [fb_up_up]
                       refine ih _ ?_ (fp_lt_or hlt2 (fp_lt_1 hv (by omega)))
                       have z := fq_inv_add (fq_bP_mono _ _ _ _ _ _) hI2 (by rw [fq_bB_o, ev, nI_clamp (by omega)]; omega) ((fq_bP_o hi).mpr ⟨ht2, c174, by rw [ev, nI_clamp (by omega)]; exact c187⟩)
                       rw [fq_bB_o, ev, nI_clamp (by omega)] at z
                       exact z)
                    | (refine ih mi (fq_inv_keep (fq_inv_keep hI (fun q => ?_)) (fun q => ?_)) hlt
                       · exact absurd ((fq_bP_w hi).mp q).1 (by rw [c107]; decide)
                       · exact absurd ((fq_bP_o hi).mp q).1 (by rw [c107]; decide))
                · refine fw_if_eq h rfl (fun _ => ?_) (fun c => absurd c (by decide))
                  refine fw_iconst h (nI 0) rfl (by decide) ?_
                  refine fw_ior h rfl ?_
                  refine fw_putI h rfl fk_p_X8_204 rfl rfl ?_
                  first | refine fn_iinc h [_, _, _, _] rfl rfl rfl rfl rfl ?_ | refine fw_iinc h 1 [_, _, _, _] rfl (by decide) rfl rfl rfl rfl ?_
                  refine fw_goto h rfl ?_
                  first
                    | (rw [fb_up_up, fq_inv_or0]
                       refine ih mi2 (fq_inv_keep hI2 (fun q => ?_)) hlt2
                       have q := (fq_bP_o hi).mp q
                       first
                         | exact q.2.1 c174
                         | exact absurd q.2.2 (by rw [ev, nI_clamp (by omega), c187]; decide))
                    | (rw [fb_up_up]
                       refine ih _ ?_ (fp_lt_or hlt2 (fp_lt_1 hv (by omega)))
                       have z := fq_inv_add (fq_bP_mono _ _ _ _ _ _) hI2 (by rw [fq_bB_o, ev, nI_clamp (by omega)]; omega) ((fq_bP_o hi).mpr ⟨ht2, c174, by rw [ev, nI_clamp (by omega)]; exact c187⟩)
                       rw [fq_bB_o, ev, nI_clamp (by omega)] at z
                       exact z)
                    | (refine ih mi (fq_inv_keep (fq_inv_keep hI (fun q => ?_)) (fun q => ?_)) hlt
                       · exact absurd ((fq_bP_w hi).mp q).1 (by rw [c107]; decide)
                       · exact absurd ((fq_bP_o hi).mp q).1 (by rw [c107]; decide))
      · refine fw_if_eq h rfl (fun _ => ?_) (fun c => absurd c (by decide))
        first | refine fn_iinc h [_, _, _, _] rfl rfl rfl rfl rfl ?_ | refine fw_iinc h 1 [_, _, _, _] rfl (by decide) rfl rfl rfl rfl ?_
        refine fw_goto h rfl ?_
        first
          | (rw [fb_up_up, fq_inv_or0]
             refine ih mi2 (fq_inv_keep hI2 (fun q => ?_)) hlt2
             have q := (fq_bP_o hi).mp q
             first
               | exact q.2.1 c174
               | exact absurd q.2.2 (by rw [ev, nI_clamp (by omega), c187]; decide))
          | (rw [fb_up_up]
             refine ih _ ?_ (fp_lt_or hlt2 (fp_lt_1 hv (by omega)))
             have z := fq_inv_add (fq_bP_mono _ _ _ _ _ _) hI2 (by rw [fq_bB_o, ev, nI_clamp (by omega)]; omega) ((fq_bP_o hi).mpr ⟨ht2, c174, by rw [ev, nI_clamp (by omega)]; exact c187⟩)
             rw [fq_bB_o, ev, nI_clamp (by omega)] at z
             exact z)
          | (refine ih mi (fq_inv_keep (fq_inv_keep hI (fun q => ?_)) (fun q => ?_)) hlt
             · exact absurd ((fq_bP_w hi).mp q).1 (by rw [c107]; decide)
             · exact absurd ((fq_bP_o hi).mp q).1 (by rw [c107]; decide))
  · intro mi hI hlt
    refine fw_iload_n h rfl rfl ?_
    refine fw_aload_n h rfl rfl ?_
    refine fw_getR _ h rfl fk_g_X8_50 rfl rfl ?_
    refine fw_iload_n h rfl rfl ?_
    refine fn_ialdF (w.1 59) h rfl rfl (rfl) (by omega) rfl ?_
    refine fw_icmp_ge h rfl (fun c9 => False.elim (nI_ge hi (by have := hA.2.1; omega) (by rw [← show w.1 59 d = nI m from hA.1]; exact c9))) (fun c9 => ?_)
    have hnt := hN.1.2
    have hm10 := hA.2.1
    obtain ⟨s, a, hs, es, ha, ea, hb1, hb2, hz⟩ := hA.2.2.1 i hi
    refine fw_bipush h (nI 10) rfl (by decide) ?_
    refine fw_iload_n h rfl rfl ?_
    first | refine fn_imul h rfl ?_ | refine fw_imul h rfl ?_
    refine fw_iload_n h rfl rfl ?_
    first | refine fn_iadd h rfl ?_ | refine fw_iadd h rfl ?_
    refine fw_istore_n h [_, _, _, _] rfl rfl rfl rfl ?_
    refine fw_aload_n h rfl rfl ?_
    refine fw_iload_n h rfl rfl ?_
    refine fw_v1I h rfl fk_v_X8_so fk_l_X8_194 rfl rfl rfl rfl ?_
    refine c_X8_soN (by omega) (fun (c21 : bt (w.1 46 23) i = true) => ?_) (fun (c21 : bt (w.1 46 23) i = false) => ?_)
    · refine fw_if_eq h rfl (fun c => absurd c (by decide)) (fun _ => ?_)
      refine fw_aload_n h rfl rfl ?_
      refine fw_getR _ h rfl fk_g_X8_53 rfl rfl ?_
      refine fw_iload_n h rfl rfl ?_
      refine fn_ialdF (w.1 60) h rfl rfl (rfl) (by omega) rfl ?_
      refine fw_iconst h (nI 1) rfl (by decide) ?_
      refine fw_icmp_ne h rfl (fun c34 => ?_) (fun c34 => ?_)
      · first | refine fn_iinc h [_, _, _, _] rfl rfl rfl rfl rfl ?_ | refine fw_iinc h 1 [_, _, _, _] rfl (by decide) rfl rfl rfl rfl ?_
        refine fw_goto h rfl ?_
        first
          | (rw [fb_up_up]
             refine fw_sub (fb_pad_c (Or.inr rfl) (fb_pad_c (Or.inr rfl) (fb_pad_c (Or.inr rfl) (fb_pad_c (Or.inl rfl) (fb_pad_n))))) (ih _ ?_ (fp_lt_or hlt (fp_lt_1 ha (by omega))))
             have z := fq_inv_add (fq_bP_mono _ _ _ _ _ _) hI (by rw [fq_bB_a hi, ea, nI_clamp (by omega)]; omega) ((fq_bP_a hi).mpr ⟨c21, c34, by rw [eb, nI_clamp (by omega)]; exact c47, by rw [ea, nI_clamp (by omega)]; exact c63⟩)
             rw [fq_bB_a hi, ea, nI_clamp (by omega)] at z
             exact z)
          | (refine fw_sub (fb_pad_c (Or.inr rfl) (fb_pad_c (Or.inr rfl) (fb_pad_c (Or.inr rfl) (fb_pad_c (Or.inl rfl) (fb_pad_n))))) (ih mi (fq_inv_keep hI (fun q => ?_)) hlt)
             have q := (fq_bP_a hi).mp q
             first
               | exact absurd q.1 (by rw [c21]; decide)
               | exact c34 q.2.1
               | exact absurd q.2.2.1 (by rw [eb, nI_clamp (by omega), c47]; decide)
               | exact absurd q.2.2.2 (by rw [ea, nI_clamp (by omega), c63]; decide))
      · have hs1 : s = 1 := (nI_eq (by omega) (by decide)).mp (es.symm.trans c34)
        obtain ⟨b, hb, hne, eb⟩ := hb1 hs1
        refine fw_aload_n h rfl rfl ?_
        refine fw_getIv (mi) h rfl fk_g_X8_204 rfl rfl (rfl) ?_
        refine fw_aload_n h rfl rfl ?_
        refine fw_getR _ h rfl fk_g_X8_59 rfl rfl ?_
        refine fw_iload_n h rfl rfl ?_
        refine fn_ialdF (w.1 62) h rfl rfl (rfl) (by omega) rfl ?_
        refine fw_s2I h rfl fk_s_X8_has fk_l_X8_185 rfl rfl ?_
        refine c_X8_hasN eb (by omega) (fun (c47 : bt mi b = true) => ?_) (fun (c47 : bt mi b = false) => ?_)
        · refine fw_if_eq h rfl (fun c => absurd c (by decide)) (fun _ => ?_)
          refine fw_aload_n h rfl rfl ?_
          refine fw_getIv (w.1 46 24) h rfl fk_g_X8_188 rfl rfl (rfl) ?_
          refine fw_aload_n h rfl rfl ?_
          refine fw_getR _ h rfl fk_g_X8_56 rfl rfl ?_
          refine fw_iload_n h rfl rfl ?_
          refine fn_ialdF (w.1 61) h rfl rfl (rfl) (by omega) rfl ?_
          refine fw_s2I h rfl fk_s_X8_has fk_l_X8_185 rfl rfl ?_
          refine c_X8_hasN ea (by omega) (fun (c63 : bt (w.1 46 24) a = true) => ?_) (fun (c63 : bt (w.1 46 24) a = false) => ?_)
          · refine fw_if_eq h rfl (fun c => absurd c (by decide)) (fun _ => ?_)
            refine fw_aload_n h rfl rfl ?_
            refine fw_dup h rfl rfl ?_
            refine fw_getIv (mi) h rfl fk_g_X8_204 rfl rfl (rfl) ?_
            refine fw_iconst h (nI 1) rfl (by decide) ?_
            refine fw_aload_n h rfl rfl ?_
            refine fw_getR _ h rfl fk_g_X8_56 rfl rfl ?_
            refine fw_iload_n h rfl rfl ?_
            refine fn_ialdF (w.1 61) h rfl rfl (rfl) (by omega) rfl ?_
            rw [show w.1 61 (10 * d + i) = nI a from ea]
            refine fw_ishl h rfl ?_
            refine fw_ior h rfl ?_
            refine fw_putI h rfl fk_p_X8_204 rfl rfl ?_
            first | refine fn_iinc h [_, _, _, _] rfl rfl rfl rfl rfl ?_ | refine fw_iinc h 1 [_, _, _, _] rfl (by decide) rfl rfl rfl rfl ?_
            refine fw_goto h rfl ?_
            first
              | (rw [fb_up_up]
                 refine fw_sub (fb_pad_c (Or.inr rfl) (fb_pad_c (Or.inr rfl) (fb_pad_c (Or.inr rfl) (fb_pad_c (Or.inl rfl) (fb_pad_n))))) (ih _ ?_ (fp_lt_or hlt (fp_lt_1 ha (by omega))))
                 have z := fq_inv_add (fq_bP_mono _ _ _ _ _ _) hI (by rw [fq_bB_a hi, ea, nI_clamp (by omega)]; omega) ((fq_bP_a hi).mpr ⟨c21, c34, by rw [eb, nI_clamp (by omega)]; exact c47, by rw [ea, nI_clamp (by omega)]; exact c63⟩)
                 rw [fq_bB_a hi, ea, nI_clamp (by omega)] at z
                 exact z)
              | (refine fw_sub (fb_pad_c (Or.inr rfl) (fb_pad_c (Or.inr rfl) (fb_pad_c (Or.inr rfl) (fb_pad_c (Or.inl rfl) (fb_pad_n))))) (ih mi (fq_inv_keep hI (fun q => ?_)) hlt)
                 have q := (fq_bP_a hi).mp q
                 first
                   | exact absurd q.1 (by rw [c21]; decide)
                   | exact c34 q.2.1
                   | exact absurd q.2.2.1 (by rw [eb, nI_clamp (by omega), c47]; decide)
                   | exact absurd q.2.2.2 (by rw [ea, nI_clamp (by omega), c63]; decide))
          · refine fw_if_eq h rfl (fun _ => ?_) (fun c => absurd c (by decide))
            first | refine fn_iinc h [_, _, _, _] rfl rfl rfl rfl rfl ?_ | refine fw_iinc h 1 [_, _, _, _] rfl (by decide) rfl rfl rfl rfl ?_
            refine fw_goto h rfl ?_
            first
              | (rw [fb_up_up]
                 refine fw_sub (fb_pad_c (Or.inr rfl) (fb_pad_c (Or.inr rfl) (fb_pad_c (Or.inr rfl) (fb_pad_c (Or.inl rfl) (fb_pad_n))))) (ih _ ?_ (fp_lt_or hlt (fp_lt_1 ha (by omega))))
                 have z := fq_inv_add (fq_bP_mono _ _ _ _ _ _) hI (by rw [fq_bB_a hi, ea, nI_clamp (by omega)]; omega) ((fq_bP_a hi).mpr ⟨c21, c34, by rw [eb, nI_clamp (by omega)]; exact c47, by rw [ea, nI_clamp (by omega)]; exact c63⟩)
                 rw [fq_bB_a hi, ea, nI_clamp (by omega)] at z
                 exact z)
              | (refine fw_sub (fb_pad_c (Or.inr rfl) (fb_pad_c (Or.inr rfl) (fb_pad_c (Or.inr rfl) (fb_pad_c (Or.inl rfl) (fb_pad_n))))) (ih mi (fq_inv_keep hI (fun q => ?_)) hlt)
                 have q := (fq_bP_a hi).mp q
                 first
                   | exact absurd q.1 (by rw [c21]; decide)
                   | exact c34 q.2.1
                   | exact absurd q.2.2.1 (by rw [eb, nI_clamp (by omega), c47]; decide)
                   | exact absurd q.2.2.2 (by rw [ea, nI_clamp (by omega), c63]; decide))
        · refine fw_if_eq h rfl (fun _ => ?_) (fun c => absurd c (by decide))
          first | refine fn_iinc h [_, _, _, _] rfl rfl rfl rfl rfl ?_ | refine fw_iinc h 1 [_, _, _, _] rfl (by decide) rfl rfl rfl rfl ?_
          refine fw_goto h rfl ?_
          first
            | (rw [fb_up_up]
               refine fw_sub (fb_pad_c (Or.inr rfl) (fb_pad_c (Or.inr rfl) (fb_pad_c (Or.inr rfl) (fb_pad_c (Or.inl rfl) (fb_pad_n))))) (ih _ ?_ (fp_lt_or hlt (fp_lt_1 ha (by omega))))
               have z := fq_inv_add (fq_bP_mono _ _ _ _ _ _) hI (by rw [fq_bB_a hi, ea, nI_clamp (by omega)]; omega) ((fq_bP_a hi).mpr ⟨c21, c34, by rw [eb, nI_clamp (by omega)]; exact c47, by rw [ea, nI_clamp (by omega)]; exact c63⟩)
               rw [fq_bB_a hi, ea, nI_clamp (by omega)] at z
               exact z)
            | (refine fw_sub (fb_pad_c (Or.inr rfl) (fb_pad_c (Or.inr rfl) (fb_pad_c (Or.inr rfl) (fb_pad_c (Or.inl rfl) (fb_pad_n))))) (ih mi (fq_inv_keep hI (fun q => ?_)) hlt)
               have q := (fq_bP_a hi).mp q
               first
                 | exact absurd q.1 (by rw [c21]; decide)
                 | exact c34 q.2.1
                 | exact absurd q.2.2.1 (by rw [eb, nI_clamp (by omega), c47]; decide)
                 | exact absurd q.2.2.2 (by rw [ea, nI_clamp (by omega), c63]; decide))
    · refine fw_if_eq h rfl (fun _ => ?_) (fun c => absurd c (by decide))
      first | refine fn_iinc h [_, _, _, _] rfl rfl rfl rfl rfl ?_ | refine fw_iinc h 1 [_, _, _, _] rfl (by decide) rfl rfl rfl rfl ?_
      refine fw_goto h rfl ?_
      first
        | (rw [fb_up_up]
           refine fw_sub (fb_pad_c (Or.inr rfl) (fb_pad_c (Or.inr rfl) (fb_pad_c (Or.inr rfl) (fb_pad_c (Or.inl rfl) (fb_pad_n))))) (ih _ ?_ (fp_lt_or hlt (fp_lt_1 ha (by omega))))
           have z := fq_inv_add (fq_bP_mono _ _ _ _ _ _) hI (by rw [fq_bB_a hi, ea, nI_clamp (by omega)]; omega) ((fq_bP_a hi).mpr ⟨c21, c34, by rw [eb, nI_clamp (by omega)]; exact c47, by rw [ea, nI_clamp (by omega)]; exact c63⟩)
           rw [fq_bB_a hi, ea, nI_clamp (by omega)] at z
           exact z)
        | (refine fw_sub (fb_pad_c (Or.inr rfl) (fb_pad_c (Or.inr rfl) (fb_pad_c (Or.inr rfl) (fb_pad_c (Or.inl rfl) (fb_pad_n))))) (ih mi (fq_inv_keep hI (fun q => ?_)) hlt)
           have q := (fq_bP_a hi).mp q
           first
             | exact absurd q.1 (by rw [c21]; decide)
             | exact c34 q.2.1
             | exact absurd q.2.2.1 (by rw [eb, nI_clamp (by omega), c47]; decide)
             | exact absurd q.2.2.2 (by rw [ea, nI_clamp (by omega), c63]; decide))
