def fs_al (D : Nat → Nat → Int32) (so s : Int32) : Nat → Bool
  | 0 => !decide (s = 0)
  | t + 1 => fs_al D so s t && (!bt s t || decide (D 1 t = so))
theorem fs_al_1 {D : Nat → Nat → Int32} {so s : Int32} {t : Nat} (h : fs_al D so s t = true) (h2 : bt s t = false ∨ D 1 t = so) : fs_al D so s (t + 1) = true := by
  rw [fs_al, h]
  rcases h2 with h2 | h2
  · rw [h2]; rfl
  · rw [decide_eq_true h2]; simp
theorem fs_al_0 {D : Nat → Nat → Int32} {so s : Int32} {t : Nat} (h : fs_al D so s t = false) : fs_al D so s (t + 1) = false := by rw [fs_al, h]; rfl
theorem fs_al_2 {D : Nat → Nat → Int32} {so s : Int32} {t : Nat} (h : bt s t = true) (h2 : ¬ D 1 t = so) : fs_al D so s (t + 1) = false := by
  rw [fs_al, h, decide_eq_false h2]; simp
noncomputable def fs_wt (D : Nat → Nat → Int32) (nt nx : Nat) (so : Int32) (d : Nat) : Bool := fs_al D so (fs_ds D nt nx d) nt
def fl_f (so fr : Int32) (k : Nat) : Int32 := if k % 2 = 1 then fr ||| (nI 1 <<< (so &&& 31)) else fr &&& ((nI 1 <<< (so &&& 31)) ^^^ -1)
def fl_ok (D : Nat → Nat → Int32) (nt nd nx : Nat) (so fr wt : Int32) (k : Nat) : Prop := fp_mk (fs_fr D nt nx (nI (k / 4)) (nI (k / 2 % 2)) (fl_f so fr k)) nd = wt ∧ fp_mk (fs_ot D nt nx (nI (k / 4)) (nI (k / 2 % 2)) (fl_f so fr k)) nd = wt
theorem lc_4 {i : Nat} (h : i < 16) : nI i / nI 4 = nI (i / 4) := pk_div (by omega) (by decide) (by decide)
theorem lc_2 {i : Nat} (h : i < 16) : nI i / nI 2 = nI (i / 2) := pk_div (by omega) (by decide) (by decide)
theorem lc_r {i : Nat} (h : i < 16) : nI i - nI i / nI 2 * nI 2 = nI (i % 2) := pk_rem (by omega) (by decide) (by decide)
theorem lc_r2 {i : Nat} (h : i < 16) : nI (i / 2) - nI (i / 2) / nI 2 * nI 2 = nI (i / 2 % 2) := pk_rem (by omega) (by decide) (by decide)
theorem lc_ne {a : Nat} (h : ¬ nI (a % 2) = nI 1) : a % 2 = 0 := by
  rcases (show a % 2 = 0 ∨ a % 2 = 1 by omega) with e | e
  · exact e
  · exact absurd (by rw [e]) h
theorem lc_eq {a : Nat} (h : nI (a % 2) = nI 1) : a % 2 = 1 := (nI_eq (by omega) (by decide)).mp h
theorem c_X8_leastChange {l : Launch} {w : fb_Wd} {P : Int32 → fb_Wd → Prop} {nt nd nx ng : Nat} (hN : fd_N (mD w) nt nd nx ng) (hT : fd_T (mD w) nt) (hAA : ∀ d, d < nd → fd_A (mD w) nt d (fd_m (mD w) d)) {so fr : Int32} (hb : ¬ ((0 ≤ so ∧ so ≤ 9) ∧ (0 ≤ fr ∧ fr ≤ 1023)) → P (-1) w) (hn : (0 ≤ so ∧ so ≤ 9) → (0 ≤ fr ∧ fr ≤ 1023) → (∀ k, k < 16 → ¬ fl_ok (mD w) nt nd nx so fr (fp_mk (fs_wt (mD w) nt nx so) nd) k) → ∀ w', sX w w' → P (-9) w') (hg : (0 ≤ so ∧ so ≤ 9) → (0 ≤ fr ∧ fr ≤ 1023) → ∀ k, k < 16 → (∀ q, q < k → ¬ fl_ok (mD w) nt nd nx so fr (fp_mk (fs_wt (mD w) nt nx so) nd) q) → fl_ok (mD w) nt nd nx so fr (fp_mk (fs_wt (mD w) nt nx so) nd) k → ∀ w', sX w w' → P (nI (100 * (k / 4) + 10 * (k / 2 % 2) + k % 2)) w') : fb_Can l tX8_leastChange [.ref 46, .int so, .int fr] w (fb_kI P) := by
  refine fb_intro 4 fk_t_X8_leastChange (by decide) rfl (fun X hX h => ?_)
  subst hX
  change fb_AW tX8_leastChange X 0 [some (.ref 46), some (.int so), some (.int fr), none, none, none, none] [] w
  refine fw_iload_n h rfl rfl ?_
  refine fw_s1I h rfl fk_s_X8_isSort fk_l_X8_127 rfl rfl ?_
  refine c_X8_isSort (fun c1a c1b => ?_) (fun c1 => ?_)
  · refine fw_if_eq h rfl (fun c => absurd c (by decide)) (fun _ => ?_)
    refine fw_iload_n h rfl rfl ?_
    refine fw_iconst h (nI 0) rfl (by decide) ?_
    refine fw_sipush h (nI 1023) rfl (by decide) ?_
    refine fw_s3I h rfl fk_s_X8_in fk_l_X8_109 rfl rfl ?_
    refine c_X8_in (fun c12a c12b => ?_) (fun c12 => ?_)
    · refine fw_if_ne h rfl (fun _ => ?_) (fun c => absurd c (by decide))
      have hnd := hN.2.1.2
      have hnt := hN.1.2
      refine fw_iconst h (nI 0) rfl (by decide) ?_
      refine fw_istore_n h [_, _, _, _, _, _, _] rfl rfl rfl rfl ?_
      refine fw_iconst h (nI 0) rfl (by decide) ?_
      refine fw_istore h [_, _, _, _, _, _, _] rfl rfl rfl rfl ?_
      refine (?_ : ∀ w1, sX w w1 → fb_AW tX8_leastChange X 25 [some (.ref 46), some (.int so), some (.int fr), some (.int (fp_mk (fs_wt (mD w) nt nx so) 0)), some (.int (nI 0)), none, none] [] w1) w (sX.rf w)
      refine fb_loop (fun i => ∀ w1, sX w w1 → fb_AW tX8_leastChange X 25 [some (.ref 46), some (.int so), some (.int fr), some (.int (fp_mk (fs_wt (mD w) nt nx so) i)), some (.int (nI i)), none, none] [] w1) (nd) ?_ (fun i hi ih => ?_) 0 (Nat.zero_le _)
      · intro w1 hs
        have eD : mD w1 = mD w := hs.1
        have hN1 : fd_N (mD w1) nt nd nx ng := by rw [eD]; exact hN
        have hT1 : fd_T (mD w1) nt := by rw [eD]; exact hT
        refine fw_iload h rfl rfl ?_
        refine fw_aload_n h rfl rfl ?_
        refine fw_getI h rfl fk_g_X8_150 rfl rfl ?_
        refine fw_icmp_ge h rfl (fun c31 => ?_) (fun c31 => False.elim (c31 (by rw [show w1.1 46 14 = nI nd from hN1.2.1.1]; exact Int32.le_refl _)))
        refine fw_iconst h (nI 0) rfl (by decide) ?_
        refine fw_istore h [_, _, _, _, _, _, _] rfl rfl rfl rfl ?_
        refine (?_ : ∀ w1, sX w w1 → (∀ k, k < 0 → ¬ fl_ok (mD w) nt nd nx so fr (fp_mk (fs_wt (mD w) nt nx so) nd) k) → fb_AW tX8_leastChange X 132 [some (.ref 46), some (.int so), some (.int fr), some (.int (fp_mk (fs_wt (mD w) nt nx so) nd)), some (.int (nI 0)), none, none] [] w1) _ hs (fun k hk => by omega)
        refine fb_loop (fun i => ∀ w1, sX w w1 → (∀ k, k < i → ¬ fl_ok (mD w) nt nd nx so fr (fp_mk (fs_wt (mD w) nt nx so) nd) k) → fb_AW tX8_leastChange X 132 [some (.ref 46), some (.int so), some (.int fr), some (.int (fp_mk (fs_wt (mD w) nt nx so) nd)), some (.int (nI i)), none, none] [] w1) (16) ?_ (fun i hi ih => ?_) 0 (Nat.zero_le _)
        · intro w1 hs hno
          have eD : mD w1 = mD w := hs.1
          have hN1 : fd_N (mD w1) nt nd nx ng := by rw [eD]; exact hN
          have hT1 : fd_T (mD w1) nt := by rw [eD]; exact hT
          refine fw_iload h rfl rfl ?_
          refine fw_bipush h (nI 16) rfl (by decide) ?_
          refine fw_icmp_ge h rfl (fun c136 => ?_) (fun c136 => False.elim (c136 (by decide)))
          refine fw_bipush h (-9) rfl (by decide) ?_
          exact fw_iret h rfl rfl ⟨_, rfl, hn (And.intro c1a c1b) (And.intro c12a c12b) hno w1 hs⟩
        · intro w1 hs hno
          have eD : mD w1 = mD w := hs.1
          have hN1 : fd_N (mD w1) nt nd nx ng := by rw [eD]; exact hN
          have hT1 : fd_T (mD w1) nt := by rw [eD]; exact hT
          refine fw_iload h rfl rfl ?_
          refine fw_bipush h (nI 16) rfl (by decide) ?_
          refine fw_icmp_ge h rfl (fun c136 => False.elim (nI_ge hi (by decide) c136)) (fun c136 => ?_)
          refine fw_iload h rfl rfl ?_
          refine fw_iconst h (nI 2) rfl (by decide) ?_
          refine fw_irem h rfl (by decide) ?_
          rw [lc_r hi]
          refine fw_istore h [_, _, _, _, _, _, _] rfl rfl rfl rfl ?_
          refine fw_aload_n h rfl rfl ?_
          refine fw_iload h rfl rfl ?_
          refine fw_iconst h (nI 4) rfl (by decide) ?_
          refine fw_idiv h rfl (by decide) ?_
          rw [lc_4 hi]
          refine fw_iload h rfl rfl ?_
          refine fw_iconst h (nI 2) rfl (by decide) ?_
          refine fw_idiv h rfl (by decide) ?_
          rw [lc_2 hi]
          refine fw_iconst h (nI 2) rfl (by decide) ?_
          refine fw_irem h rfl (by decide) ?_
          rw [lc_r2 hi]
          refine fw_iconst h (nI 1) rfl (by decide) ?_
          refine fw_icmp_ne h rfl (fun c157 => ?_) (fun c157 => ?_)
          · have ez : nI (i / 2 % 2) = nI 0 := by rw [lc_ne c157]
            refine fw_iconst h (nI 0) rfl (by decide) ?_
            refine fw_iload h rfl rfl ?_
            refine fw_iconst h (nI 1) rfl (by decide) ?_
            refine fw_icmp_ne h rfl (fun c168 => ?_) (fun c168 => ?_)
            · have ef : fl_f so fr i = fr &&& ((nI 1 <<< (so &&& 31)) ^^^ -1) := if_neg (by rw [lc_ne c168]; decide)
              refine fw_iload_n h rfl rfl ?_
              refine fw_iconst h (nI 1) rfl (by decide) ?_
              refine fw_iload_n h rfl rfl ?_
              refine fw_ishl h rfl ?_
              refine fw_iconst h (-1) rfl (by decide) ?_
              refine fw_ixor h rfl ?_
              refine fw_iand h rfl ?_
              refine fw_v3V h rfl fk_v_X8_layChange fk_l_X8_296 rfl rfl rfl rfl ?_
              have hAA1 : ∀ d, d < nd → fd_A (mD w1) nt d (fd_m (mD w1) d) := by rw [eD]; exact hAA
              refine c_X8_layChange hN1 hT1 hAA1 (by first | exact Or.inl rfl | exact Or.inr rfl) (fun w2 hs2 g45 g46 => ?_)
              rw [eD] at g45 g46
              have hs2 : sX w w2 := hs.tr ((sX_text8 w1 _ _ _).tr (sM.toX hs2 (by decide)))
              have g45 : w2.1 46 45 = fp_mk (fs_ot (mD w) nt nx (nI (i / 4)) (nI (i / 2 % 2)) (fl_f so fr i)) nd := by rw [ez, ef]; exact g45
              have g46 : w2.1 46 46 = fp_mk (fs_fr (mD w) nt nx (nI (i / 4)) (nI (i / 2 % 2)) (fl_f so fr i)) nd := by rw [ez, ef]; exact g46
              refine fw_aload_n h rfl rfl ?_
              refine fw_getI h rfl fk_g_X8_293 rfl rfl ?_
              refine fw_iload_n h rfl rfl ?_
              refine fw_icmp_ne h rfl (fun c194 => ?_) (fun c194 => ?_)
              · first | refine fn_iinc h [_, _, _, _, _, _, _] rfl rfl rfl rfl rfl ?_ | refine fw_iinc h 1 [_, _, _, _, _, _, _] rfl (by decide) rfl rfl rfl rfl ?_
                refine fw_goto h rfl ?_
                refine fw_sub (fb_pad_c (Or.inr rfl) (fb_pad_c (Or.inr rfl) (fb_pad_c (Or.inr rfl) (fb_pad_c (Or.inr rfl) (fb_pad_c (Or.inr rfl) (fb_pad_c (Or.inl rfl) (fb_pad_c (Or.inr rfl) (fb_pad_n)))))))) (ih w2 hs2 (fun k hk => ?_))
                by_cases e : k = i
                · subst e
                  intro z
                  first
                    | exact c194 (g46.trans z.1)
                    | exact c202 (g45.trans z.2)
                · exact hno k (by omega)
              · refine fw_aload_n h rfl rfl ?_
                refine fw_getI h rfl fk_g_X8_290 rfl rfl ?_
                refine fw_iload_n h rfl rfl ?_
                refine fw_icmp_ne h rfl (fun c202 => ?_) (fun c202 => ?_)
                · first | refine fn_iinc h [_, _, _, _, _, _, _] rfl rfl rfl rfl rfl ?_ | refine fw_iinc h 1 [_, _, _, _, _, _, _] rfl (by decide) rfl rfl rfl rfl ?_
                  refine fw_goto h rfl ?_
                  refine fw_sub (fb_pad_c (Or.inr rfl) (fb_pad_c (Or.inr rfl) (fb_pad_c (Or.inr rfl) (fb_pad_c (Or.inr rfl) (fb_pad_c (Or.inr rfl) (fb_pad_c (Or.inl rfl) (fb_pad_c (Or.inr rfl) (fb_pad_n)))))))) (ih w2 hs2 (fun k hk => ?_))
                  by_cases e : k = i
                  · subst e
                    intro z
                    first
                      | exact c194 (g46.trans z.1)
                      | exact c202 (g45.trans z.2)
                  · exact hno k (by omega)
                · refine fw_bipush h (nI 100) rfl (by decide) ?_
                  refine fw_iload h rfl rfl ?_
                  refine fw_iconst h (nI 4) rfl (by decide) ?_
                  refine fw_idiv h rfl (by decide) ?_
                  rw [lc_4 hi]
                  first | refine fn_imul h rfl ?_ | refine fw_imul h rfl ?_
                  refine fw_bipush h (nI 10) rfl (by decide) ?_
                  refine fw_iload h rfl rfl ?_
                  refine fw_iconst h (nI 2) rfl (by decide) ?_
                  refine fw_idiv h rfl (by decide) ?_
                  rw [lc_2 hi]
                  refine fw_iconst h (nI 2) rfl (by decide) ?_
                  refine fw_irem h rfl (by decide) ?_
                  rw [lc_r2 hi]
                  first | refine fn_imul h rfl ?_ | refine fw_imul h rfl ?_
                  first | refine fn_iadd h rfl ?_ | refine fw_iadd h rfl ?_
                  refine fw_iload h rfl rfl ?_
                  first | refine fn_iadd h rfl ?_ | refine fw_iadd h rfl ?_
                  exact fw_iret h rfl rfl ⟨_, rfl, hg (And.intro c1a c1b) (And.intro c12a c12b) i hi hno ⟨g46.symm.trans c194, g45.symm.trans c202⟩ w2 hs2⟩
            · have ef : fl_f so fr i = fr ||| (nI 1 <<< (so &&& 31)) := if_pos (lc_eq c168)
              refine fw_iload_n h rfl rfl ?_
              refine fw_iconst h (nI 1) rfl (by decide) ?_
              refine fw_iload_n h rfl rfl ?_
              refine fw_ishl h rfl ?_
              refine fw_ior h rfl ?_
              refine fw_goto h rfl ?_
              refine fw_v3V h rfl fk_v_X8_layChange fk_l_X8_296 rfl rfl rfl rfl ?_
              have hAA1 : ∀ d, d < nd → fd_A (mD w1) nt d (fd_m (mD w1) d) := by rw [eD]; exact hAA
              refine c_X8_layChange hN1 hT1 hAA1 (by first | exact Or.inl rfl | exact Or.inr rfl) (fun w2 hs2 g45 g46 => ?_)
              rw [eD] at g45 g46
              have hs2 : sX w w2 := hs.tr ((sX_text8 w1 _ _ _).tr (sM.toX hs2 (by decide)))
              have g45 : w2.1 46 45 = fp_mk (fs_ot (mD w) nt nx (nI (i / 4)) (nI (i / 2 % 2)) (fl_f so fr i)) nd := by rw [ez, ef]; exact g45
              have g46 : w2.1 46 46 = fp_mk (fs_fr (mD w) nt nx (nI (i / 4)) (nI (i / 2 % 2)) (fl_f so fr i)) nd := by rw [ez, ef]; exact g46
              refine fw_aload_n h rfl rfl ?_
              refine fw_getI h rfl fk_g_X8_293 rfl rfl ?_
              refine fw_iload_n h rfl rfl ?_
              refine fw_icmp_ne h rfl (fun c194 => ?_) (fun c194 => ?_)
              · first | refine fn_iinc h [_, _, _, _, _, _, _] rfl rfl rfl rfl rfl ?_ | refine fw_iinc h 1 [_, _, _, _, _, _, _] rfl (by decide) rfl rfl rfl rfl ?_
                refine fw_goto h rfl ?_
                refine fw_sub (fb_pad_c (Or.inr rfl) (fb_pad_c (Or.inr rfl) (fb_pad_c (Or.inr rfl) (fb_pad_c (Or.inr rfl) (fb_pad_c (Or.inr rfl) (fb_pad_c (Or.inl rfl) (fb_pad_c (Or.inr rfl) (fb_pad_n)))))))) (ih w2 hs2 (fun k hk => ?_))
                by_cases e : k = i
                · subst e
                  intro z
                  first
                    | exact c194 (g46.trans z.1)
                    | exact c202 (g45.trans z.2)
                · exact hno k (by omega)
              · refine fw_aload_n h rfl rfl ?_
                refine fw_getI h rfl fk_g_X8_290 rfl rfl ?_
                refine fw_iload_n h rfl rfl ?_
                refine fw_icmp_ne h rfl (fun c202 => ?_) (fun c202 => ?_)
                · first | refine fn_iinc h [_, _, _, _, _, _, _] rfl rfl rfl rfl rfl ?_ | refine fw_iinc h 1 [_, _, _, _, _, _, _] rfl (by decide) rfl rfl rfl rfl ?_
                  refine fw_goto h rfl ?_
                  refine fw_sub (fb_pad_c (Or.inr rfl) (fb_pad_c (Or.inr rfl) (fb_pad_c (Or.inr rfl) (fb_pad_c (Or.inr rfl) (fb_pad_c (Or.inr rfl) (fb_pad_c (Or.inl rfl) (fb_pad_c (Or.inr rfl) (fb_pad_n)))))))) (ih w2 hs2 (fun k hk => ?_))
                  by_cases e : k = i
                  · subst e
                    intro z
                    first
                      | exact c194 (g46.trans z.1)
                      | exact c202 (g45.trans z.2)
                  · exact hno k (by omega)
                · refine fw_bipush h (nI 100) rfl (by decide) ?_
                  refine fw_iload h rfl rfl ?_
                  refine fw_iconst h (nI 4) rfl (by decide) ?_
                  refine fw_idiv h rfl (by decide) ?_
                  rw [lc_4 hi]
                  first | refine fn_imul h rfl ?_ | refine fw_imul h rfl ?_
                  refine fw_bipush h (nI 10) rfl (by decide) ?_
                  refine fw_iload h rfl rfl ?_
                  refine fw_iconst h (nI 2) rfl (by decide) ?_
                  refine fw_idiv h rfl (by decide) ?_
                  rw [lc_2 hi]
                  refine fw_iconst h (nI 2) rfl (by decide) ?_
                  refine fw_irem h rfl (by decide) ?_
                  rw [lc_r2 hi]
                  first | refine fn_imul h rfl ?_ | refine fw_imul h rfl ?_
                  first | refine fn_iadd h rfl ?_ | refine fw_iadd h rfl ?_
                  refine fw_iload h rfl rfl ?_
                  first | refine fn_iadd h rfl ?_ | refine fw_iadd h rfl ?_
                  exact fw_iret h rfl rfl ⟨_, rfl, hg (And.intro c1a c1b) (And.intro c12a c12b) i hi hno ⟨g46.symm.trans c194, g45.symm.trans c202⟩ w2 hs2⟩
          · have ez : nI (i / 2 % 2) = nI 1 := c157
            refine fw_iconst h (nI 1) rfl (by decide) ?_
            refine fw_goto h rfl ?_
            refine fw_iload h rfl rfl ?_
            refine fw_iconst h (nI 1) rfl (by decide) ?_
            refine fw_icmp_ne h rfl (fun c168 => ?_) (fun c168 => ?_)
            · have ef : fl_f so fr i = fr &&& ((nI 1 <<< (so &&& 31)) ^^^ -1) := if_neg (by rw [lc_ne c168]; decide)
              refine fw_iload_n h rfl rfl ?_
              refine fw_iconst h (nI 1) rfl (by decide) ?_
              refine fw_iload_n h rfl rfl ?_
              refine fw_ishl h rfl ?_
              refine fw_iconst h (-1) rfl (by decide) ?_
              refine fw_ixor h rfl ?_
              refine fw_iand h rfl ?_
              refine fw_v3V h rfl fk_v_X8_layChange fk_l_X8_296 rfl rfl rfl rfl ?_
              have hAA1 : ∀ d, d < nd → fd_A (mD w1) nt d (fd_m (mD w1) d) := by rw [eD]; exact hAA
              refine c_X8_layChange hN1 hT1 hAA1 (by first | exact Or.inl rfl | exact Or.inr rfl) (fun w2 hs2 g45 g46 => ?_)
              rw [eD] at g45 g46
              have hs2 : sX w w2 := hs.tr ((sX_text8 w1 _ _ _).tr (sM.toX hs2 (by decide)))
              have g45 : w2.1 46 45 = fp_mk (fs_ot (mD w) nt nx (nI (i / 4)) (nI (i / 2 % 2)) (fl_f so fr i)) nd := by rw [ez, ef]; exact g45
              have g46 : w2.1 46 46 = fp_mk (fs_fr (mD w) nt nx (nI (i / 4)) (nI (i / 2 % 2)) (fl_f so fr i)) nd := by rw [ez, ef]; exact g46
              refine fw_aload_n h rfl rfl ?_
              refine fw_getI h rfl fk_g_X8_293 rfl rfl ?_
              refine fw_iload_n h rfl rfl ?_
              refine fw_icmp_ne h rfl (fun c194 => ?_) (fun c194 => ?_)
              · first | refine fn_iinc h [_, _, _, _, _, _, _] rfl rfl rfl rfl rfl ?_ | refine fw_iinc h 1 [_, _, _, _, _, _, _] rfl (by decide) rfl rfl rfl rfl ?_
                refine fw_goto h rfl ?_
                refine fw_sub (fb_pad_c (Or.inr rfl) (fb_pad_c (Or.inr rfl) (fb_pad_c (Or.inr rfl) (fb_pad_c (Or.inr rfl) (fb_pad_c (Or.inr rfl) (fb_pad_c (Or.inl rfl) (fb_pad_c (Or.inr rfl) (fb_pad_n)))))))) (ih w2 hs2 (fun k hk => ?_))
                by_cases e : k = i
                · subst e
                  intro z
                  first
                    | exact c194 (g46.trans z.1)
                    | exact c202 (g45.trans z.2)
                · exact hno k (by omega)
              · refine fw_aload_n h rfl rfl ?_
                refine fw_getI h rfl fk_g_X8_290 rfl rfl ?_
                refine fw_iload_n h rfl rfl ?_
                refine fw_icmp_ne h rfl (fun c202 => ?_) (fun c202 => ?_)
                · first | refine fn_iinc h [_, _, _, _, _, _, _] rfl rfl rfl rfl rfl ?_ | refine fw_iinc h 1 [_, _, _, _, _, _, _] rfl (by decide) rfl rfl rfl rfl ?_
                  refine fw_goto h rfl ?_
                  refine fw_sub (fb_pad_c (Or.inr rfl) (fb_pad_c (Or.inr rfl) (fb_pad_c (Or.inr rfl) (fb_pad_c (Or.inr rfl) (fb_pad_c (Or.inr rfl) (fb_pad_c (Or.inl rfl) (fb_pad_c (Or.inr rfl) (fb_pad_n)))))))) (ih w2 hs2 (fun k hk => ?_))
                  by_cases e : k = i
                  · subst e
                    intro z
                    first
                      | exact c194 (g46.trans z.1)
                      | exact c202 (g45.trans z.2)
                  · exact hno k (by omega)
                · refine fw_bipush h (nI 100) rfl (by decide) ?_
                  refine fw_iload h rfl rfl ?_
                  refine fw_iconst h (nI 4) rfl (by decide) ?_
                  refine fw_idiv h rfl (by decide) ?_
                  rw [lc_4 hi]
                  first | refine fn_imul h rfl ?_ | refine fw_imul h rfl ?_
                  refine fw_bipush h (nI 10) rfl (by decide) ?_
                  refine fw_iload h rfl rfl ?_
                  refine fw_iconst h (nI 2) rfl (by decide) ?_
                  refine fw_idiv h rfl (by decide) ?_
                  rw [lc_2 hi]
                  refine fw_iconst h (nI 2) rfl (by decide) ?_
                  refine fw_irem h rfl (by decide) ?_
                  rw [lc_r2 hi]
                  first | refine fn_imul h rfl ?_ | refine fw_imul h rfl ?_
                  first | refine fn_iadd h rfl ?_ | refine fw_iadd h rfl ?_
                  refine fw_iload h rfl rfl ?_
                  first | refine fn_iadd h rfl ?_ | refine fw_iadd h rfl ?_
                  exact fw_iret h rfl rfl ⟨_, rfl, hg (And.intro c1a c1b) (And.intro c12a c12b) i hi hno ⟨g46.symm.trans c194, g45.symm.trans c202⟩ w2 hs2⟩
            · have ef : fl_f so fr i = fr ||| (nI 1 <<< (so &&& 31)) := if_pos (lc_eq c168)
              refine fw_iload_n h rfl rfl ?_
              refine fw_iconst h (nI 1) rfl (by decide) ?_
              refine fw_iload_n h rfl rfl ?_
              refine fw_ishl h rfl ?_
              refine fw_ior h rfl ?_
              refine fw_goto h rfl ?_
              refine fw_v3V h rfl fk_v_X8_layChange fk_l_X8_296 rfl rfl rfl rfl ?_
              have hAA1 : ∀ d, d < nd → fd_A (mD w1) nt d (fd_m (mD w1) d) := by rw [eD]; exact hAA
              refine c_X8_layChange hN1 hT1 hAA1 (by first | exact Or.inl rfl | exact Or.inr rfl) (fun w2 hs2 g45 g46 => ?_)
              rw [eD] at g45 g46
              have hs2 : sX w w2 := hs.tr ((sX_text8 w1 _ _ _).tr (sM.toX hs2 (by decide)))
              have g45 : w2.1 46 45 = fp_mk (fs_ot (mD w) nt nx (nI (i / 4)) (nI (i / 2 % 2)) (fl_f so fr i)) nd := by rw [ez, ef]; exact g45
              have g46 : w2.1 46 46 = fp_mk (fs_fr (mD w) nt nx (nI (i / 4)) (nI (i / 2 % 2)) (fl_f so fr i)) nd := by rw [ez, ef]; exact g46
              refine fw_aload_n h rfl rfl ?_
              refine fw_getI h rfl fk_g_X8_293 rfl rfl ?_
              refine fw_iload_n h rfl rfl ?_
              refine fw_icmp_ne h rfl (fun c194 => ?_) (fun c194 => ?_)
              · first | refine fn_iinc h [_, _, _, _, _, _, _] rfl rfl rfl rfl rfl ?_ | refine fw_iinc h 1 [_, _, _, _, _, _, _] rfl (by decide) rfl rfl rfl rfl ?_
                refine fw_goto h rfl ?_
                refine fw_sub (fb_pad_c (Or.inr rfl) (fb_pad_c (Or.inr rfl) (fb_pad_c (Or.inr rfl) (fb_pad_c (Or.inr rfl) (fb_pad_c (Or.inr rfl) (fb_pad_c (Or.inl rfl) (fb_pad_c (Or.inr rfl) (fb_pad_n)))))))) (ih w2 hs2 (fun k hk => ?_))
                by_cases e : k = i
                · subst e
                  intro z
                  first
                    | exact c194 (g46.trans z.1)
                    | exact c202 (g45.trans z.2)
                · exact hno k (by omega)
              · refine fw_aload_n h rfl rfl ?_
                refine fw_getI h rfl fk_g_X8_290 rfl rfl ?_
                refine fw_iload_n h rfl rfl ?_
                refine fw_icmp_ne h rfl (fun c202 => ?_) (fun c202 => ?_)
                · first | refine fn_iinc h [_, _, _, _, _, _, _] rfl rfl rfl rfl rfl ?_ | refine fw_iinc h 1 [_, _, _, _, _, _, _] rfl (by decide) rfl rfl rfl rfl ?_
                  refine fw_goto h rfl ?_
                  refine fw_sub (fb_pad_c (Or.inr rfl) (fb_pad_c (Or.inr rfl) (fb_pad_c (Or.inr rfl) (fb_pad_c (Or.inr rfl) (fb_pad_c (Or.inr rfl) (fb_pad_c (Or.inl rfl) (fb_pad_c (Or.inr rfl) (fb_pad_n)))))))) (ih w2 hs2 (fun k hk => ?_))
                  by_cases e : k = i
                  · subst e
                    intro z
                    first
                      | exact c194 (g46.trans z.1)
                      | exact c202 (g45.trans z.2)
                  · exact hno k (by omega)
                · refine fw_bipush h (nI 100) rfl (by decide) ?_
                  refine fw_iload h rfl rfl ?_
                  refine fw_iconst h (nI 4) rfl (by decide) ?_
                  refine fw_idiv h rfl (by decide) ?_
                  rw [lc_4 hi]
                  first | refine fn_imul h rfl ?_ | refine fw_imul h rfl ?_
                  refine fw_bipush h (nI 10) rfl (by decide) ?_
                  refine fw_iload h rfl rfl ?_
                  refine fw_iconst h (nI 2) rfl (by decide) ?_
                  refine fw_idiv h rfl (by decide) ?_
                  rw [lc_2 hi]
                  refine fw_iconst h (nI 2) rfl (by decide) ?_
                  refine fw_irem h rfl (by decide) ?_
                  rw [lc_r2 hi]
                  first | refine fn_imul h rfl ?_ | refine fw_imul h rfl ?_
                  first | refine fn_iadd h rfl ?_ | refine fw_iadd h rfl ?_
                  refine fw_iload h rfl rfl ?_
                  first | refine fn_iadd h rfl ?_ | refine fw_iadd h rfl ?_
                  exact fw_iret h rfl rfl ⟨_, rfl, hg (And.intro c1a c1b) (And.intro c12a c12b) i hi hno ⟨g46.symm.trans c194, g45.symm.trans c202⟩ w2 hs2⟩
      · intro w1 hs
        have eD : mD w1 = mD w := hs.1
        have hN1 : fd_N (mD w1) nt nd nx ng := by rw [eD]; exact hN
        have hT1 : fd_T (mD w1) nt := by rw [eD]; exact hT
        refine fw_iload h rfl rfl ?_
        refine fw_aload_n h rfl rfl ?_
        refine fw_getI h rfl fk_g_X8_150 rfl rfl ?_
        refine fw_icmp_ge h rfl (fun c31 => False.elim (nI_ge hi (by omega) (by rw [← show w1.1 46 14 = nI nd from hN1.2.1.1]; exact c31))) (fun c31 => ?_)
        refine fw_aload_n h rfl rfl ?_
        refine fw_iload h rfl rfl ?_
        refine fw_v1V h rfl fk_v_X8_layDueNow fk_l_X8_255 rfl rfl rfl rfl ?_
        have hA1 : fd_A (mD w1) nt i (fd_m (mD w) i) := by rw [eD]; exact hAA i hi
        refine c_X8_layDueNow hN1 hT1 hA1 (by omega) (fun w2 hs2 q32 q33 q34 => ?_)
        rw [eD] at q32 q33 q34
        have q33 : w2.1 46 33 = fs_ds (mD w) nt nx i := q33
        have hs2 : sX w w2 := hs.tr (sM.toX hs2 (by decide))
        have eD2 : mD w2 = mD w := hs2.1
        have hN2 : fd_N (mD w2) nt nd nx ng := by rw [eD2]; exact hN
        have e52 : w2.1 52 = mD w 1 := by rw [← eD2]; rfl
        refine fw_aload_n h rfl rfl ?_
        refine fw_getI h rfl fk_g_X8_249 rfl rfl ?_
        rw [q33]
        refine fw_if_eq h rfl (fun c44 => ?_) (fun c44 => ?_)
        · skip
          · refine fw_iconst h (nI 0) rfl (by decide) ?_
            refine fw_istore h [_, _, _, _, _, _, _] rfl rfl rfl rfl ?_
            refine fw_iconst h (nI 0) rfl (by decide) ?_
            refine fw_istore h [_, _, _, _, _, _, _] rfl rfl rfl rfl ?_
            refine (?_ : ∀ b, (b = nI 1 ∧ fs_al (mD w) so (fs_ds (mD w) nt nx i) 0 = true ∨ b = nI 0 ∧ fs_al (mD w) so (fs_ds (mD w) nt nx i) 0 = false) → fb_AW tX8_leastChange X 57 [some (.ref 46), some (.int so), some (.int fr), some (.int (fp_mk (fs_wt (mD w) nt nx so) i)), some (.int (nI i)), some (.int b), some (.int (nI 0))] [] w2) _ (Or.inr ⟨rfl, by show (!decide (fs_ds (mD w) nt nx i = 0)) = false; rw [decide_eq_true c44]; rfl⟩)
            refine fb_loop (fun j => ∀ b, (b = nI 1 ∧ fs_al (mD w) so (fs_ds (mD w) nt nx i) j = true ∨ b = nI 0 ∧ fs_al (mD w) so (fs_ds (mD w) nt nx i) j = false) → fb_AW tX8_leastChange X 57 [some (.ref 46), some (.int so), some (.int fr), some (.int (fp_mk (fs_wt (mD w) nt nx so) i)), some (.int (nI i)), some (.int b), some (.int (nI j))] [] w2) nt ?_ (fun j hj ihj => ?_) 0 (Nat.zero_le _)
            · intro b hb
              rcases hb with ⟨rfl, hb⟩ | ⟨rfl, hb⟩
              · refine fw_iload h rfl rfl ?_
                refine fw_aload_n h rfl rfl ?_
                refine fw_getIv (nI nt) h rfl fk_g_X8_124 rfl rfl (hN2.1.1) ?_
                refine fw_icmp_ge h rfl (fun c63 => ?_) (fun c63 => False.elim (c63 (Int32.le_refl _)))
                refine fw_iload_n h rfl rfl ?_
                refine fw_iload h rfl rfl ?_
                refine fw_if_eq h rfl (fun c => absurd c (by decide)) (fun _ => ?_)
                refine fw_iconst h (nI 1) rfl (by decide) ?_
                refine fw_iload h rfl rfl ?_
                refine fw_ishl h rfl ?_
                refine fw_goto h rfl ?_
                refine fw_ior h rfl ?_
                refine fw_istore_n h [_, _, _, _, _, _, _] rfl rfl rfl rfl ?_
                first | refine fn_iinc h [_, _, _, _, _, _, _] rfl rfl rfl rfl rfl ?_ | refine fw_iinc h 1 [_, _, _, _, _, _, _] rfl (by decide) rfl rfl rfl rfl ?_
                refine fw_goto h rfl ?_
                refine fw_sub (fb_pad_c (Or.inr rfl) (fb_pad_c (Or.inr rfl) (fb_pad_c (Or.inr rfl) (fb_pad_c (Or.inr rfl) (fb_pad_c (Or.inr rfl) (fb_pad_c (Or.inl rfl) (fb_pad_c (Or.inl rfl) (fb_pad_n)))))))) ?_
                have ih2 := ih w2 hs2
                rw [← fp_mk_1 (show fs_wt (mD w) nt nx so i = true from hb)] at ih2
                exact ih2
              · refine fw_iload h rfl rfl ?_
                refine fw_aload_n h rfl rfl ?_
                refine fw_getIv (nI nt) h rfl fk_g_X8_124 rfl rfl (hN2.1.1) ?_
                refine fw_icmp_ge h rfl (fun c63 => ?_) (fun c63 => False.elim (c63 (Int32.le_refl _)))
                refine fw_iload_n h rfl rfl ?_
                refine fw_iload h rfl rfl ?_
                refine fw_if_eq h rfl (fun _ => ?_) (fun c => absurd c (by decide))
                refine fw_iconst h (nI 0) rfl (by decide) ?_
                refine fw_ior h rfl ?_
                refine fw_istore_n h [_, _, _, _, _, _, _] rfl rfl rfl rfl ?_
                first | refine fn_iinc h [_, _, _, _, _, _, _] rfl rfl rfl rfl rfl ?_ | refine fw_iinc h 1 [_, _, _, _, _, _, _] rfl (by decide) rfl rfl rfl rfl ?_
                refine fw_goto h rfl ?_
                refine fw_sub (fb_pad_c (Or.inr rfl) (fb_pad_c (Or.inr rfl) (fb_pad_c (Or.inr rfl) (fb_pad_c (Or.inr rfl) (fb_pad_c (Or.inr rfl) (fb_pad_c (Or.inl rfl) (fb_pad_c (Or.inl rfl) (fb_pad_n)))))))) ?_
                have ih2 := ih w2 hs2
                rw [← fp_mk_0 (show fs_wt (mD w) nt nx so i = false from hb)] at ih2
                exact ih2
            · intro b hb
              rcases hb with ⟨rfl, hb⟩ | ⟨rfl, hb⟩
              · refine fw_iload h rfl rfl ?_
                refine fw_aload_n h rfl rfl ?_
                refine fw_getIv (nI nt) h rfl fk_g_X8_124 rfl rfl (hN2.1.1) ?_
                refine fw_icmp_ge h rfl (fun c63 => False.elim (nI_ge hj (by omega) c63)) (fun c63 => ?_)
                refine fw_iload h rfl rfl ?_
                refine fw_if_eq h rfl (fun c => absurd c (by decide)) (fun _ => ?_)
                refine fw_aload_n h rfl rfl ?_
                refine fw_getIv (fs_ds (mD w) nt nx i) h rfl fk_g_X8_249 rfl rfl (q33) ?_
                refine fw_iload h rfl rfl ?_
                refine fw_s2I h rfl fk_s_X8_has fk_l_X8_185 rfl rfl ?_
                refine c_X8_hasN rfl (by omega) (fun c77 => ?_) (fun c77 => ?_)
                · refine fw_if_eq h rfl (fun c => absurd c (by decide)) (fun _ => ?_)
                  refine fw_aload_n h rfl rfl ?_
                  refine fw_getR _ h rfl fk_g_X8_29 rfl rfl ?_
                  refine fw_iload h rfl rfl ?_
                  refine fn_ialdF (mD w 1) h rfl rfl (e52) (by omega) rfl ?_
                  refine fw_iload_n h rfl rfl ?_
                  refine fw_icmp_ne h rfl (fun c91 => ?_) (fun c91 => ?_)
                  · skip
                    · refine fw_iconst h (nI 0) rfl (by decide) ?_
                      refine fw_istore h [_, _, _, _, _, _, _] rfl rfl rfl rfl ?_
                      first | refine fn_iinc h [_, _, _, _, _, _, _] rfl rfl rfl rfl rfl ?_ | refine fw_iinc h 1 [_, _, _, _, _, _, _] rfl (by decide) rfl rfl rfl rfl ?_
                      refine fw_goto h rfl ?_
                      exact ihj _ (Or.inr ⟨rfl, by first | exact fs_al_0 hb | exact fs_al_2 c77 c91⟩)
                  · skip
                    · refine fw_iconst h (nI 1) rfl (by decide) ?_
                      refine fw_goto h rfl ?_
                      refine fw_istore h [_, _, _, _, _, _, _] rfl rfl rfl rfl ?_
                      first | refine fn_iinc h [_, _, _, _, _, _, _] rfl rfl rfl rfl rfl ?_ | refine fw_iinc h 1 [_, _, _, _, _, _, _] rfl (by decide) rfl rfl rfl rfl ?_
                      refine fw_goto h rfl ?_
                      exact ihj _ (Or.inl ⟨rfl, fs_al_1 hb (by first | exact Or.inl c77 | exact Or.inr c91)⟩)
                · refine fw_if_eq h rfl (fun _ => ?_) (fun c => absurd c (by decide))
                  skip
                  · refine fw_iconst h (nI 1) rfl (by decide) ?_
                    refine fw_goto h rfl ?_
                    refine fw_istore h [_, _, _, _, _, _, _] rfl rfl rfl rfl ?_
                    first | refine fn_iinc h [_, _, _, _, _, _, _] rfl rfl rfl rfl rfl ?_ | refine fw_iinc h 1 [_, _, _, _, _, _, _] rfl (by decide) rfl rfl rfl rfl ?_
                    refine fw_goto h rfl ?_
                    exact ihj _ (Or.inl ⟨rfl, fs_al_1 hb (by first | exact Or.inl c77 | exact Or.inr c91)⟩)
              · refine fw_iload h rfl rfl ?_
                refine fw_aload_n h rfl rfl ?_
                refine fw_getIv (nI nt) h rfl fk_g_X8_124 rfl rfl (hN2.1.1) ?_
                refine fw_icmp_ge h rfl (fun c63 => False.elim (nI_ge hj (by omega) c63)) (fun c63 => ?_)
                refine fw_iload h rfl rfl ?_
                refine fw_if_eq h rfl (fun _ => ?_) (fun c => absurd c (by decide))
                skip
                · refine fw_iconst h (nI 0) rfl (by decide) ?_
                  refine fw_istore h [_, _, _, _, _, _, _] rfl rfl rfl rfl ?_
                  first | refine fn_iinc h [_, _, _, _, _, _, _] rfl rfl rfl rfl rfl ?_ | refine fw_iinc h 1 [_, _, _, _, _, _, _] rfl (by decide) rfl rfl rfl rfl ?_
                  refine fw_goto h rfl ?_
                  exact ihj _ (Or.inr ⟨rfl, by first | exact fs_al_0 hb | exact fs_al_2 c77 c91⟩)
        · skip
          · refine fw_iconst h (nI 1) rfl (by decide) ?_
            refine fw_goto h rfl ?_
            refine fw_istore h [_, _, _, _, _, _, _] rfl rfl rfl rfl ?_
            refine fw_iconst h (nI 0) rfl (by decide) ?_
            refine fw_istore h [_, _, _, _, _, _, _] rfl rfl rfl rfl ?_
            refine (?_ : ∀ b, (b = nI 1 ∧ fs_al (mD w) so (fs_ds (mD w) nt nx i) 0 = true ∨ b = nI 0 ∧ fs_al (mD w) so (fs_ds (mD w) nt nx i) 0 = false) → fb_AW tX8_leastChange X 57 [some (.ref 46), some (.int so), some (.int fr), some (.int (fp_mk (fs_wt (mD w) nt nx so) i)), some (.int (nI i)), some (.int b), some (.int (nI 0))] [] w2) _ (Or.inl ⟨rfl, by show (!decide (fs_ds (mD w) nt nx i = 0)) = true; rw [decide_eq_false c44]; rfl⟩)
            refine fb_loop (fun j => ∀ b, (b = nI 1 ∧ fs_al (mD w) so (fs_ds (mD w) nt nx i) j = true ∨ b = nI 0 ∧ fs_al (mD w) so (fs_ds (mD w) nt nx i) j = false) → fb_AW tX8_leastChange X 57 [some (.ref 46), some (.int so), some (.int fr), some (.int (fp_mk (fs_wt (mD w) nt nx so) i)), some (.int (nI i)), some (.int b), some (.int (nI j))] [] w2) nt ?_ (fun j hj ihj => ?_) 0 (Nat.zero_le _)
            · intro b hb
              rcases hb with ⟨rfl, hb⟩ | ⟨rfl, hb⟩
              · refine fw_iload h rfl rfl ?_
                refine fw_aload_n h rfl rfl ?_
                refine fw_getIv (nI nt) h rfl fk_g_X8_124 rfl rfl (hN2.1.1) ?_
                refine fw_icmp_ge h rfl (fun c63 => ?_) (fun c63 => False.elim (c63 (Int32.le_refl _)))
                refine fw_iload_n h rfl rfl ?_
                refine fw_iload h rfl rfl ?_
                refine fw_if_eq h rfl (fun c => absurd c (by decide)) (fun _ => ?_)
                refine fw_iconst h (nI 1) rfl (by decide) ?_
                refine fw_iload h rfl rfl ?_
                refine fw_ishl h rfl ?_
                refine fw_goto h rfl ?_
                refine fw_ior h rfl ?_
                refine fw_istore_n h [_, _, _, _, _, _, _] rfl rfl rfl rfl ?_
                first | refine fn_iinc h [_, _, _, _, _, _, _] rfl rfl rfl rfl rfl ?_ | refine fw_iinc h 1 [_, _, _, _, _, _, _] rfl (by decide) rfl rfl rfl rfl ?_
                refine fw_goto h rfl ?_
                refine fw_sub (fb_pad_c (Or.inr rfl) (fb_pad_c (Or.inr rfl) (fb_pad_c (Or.inr rfl) (fb_pad_c (Or.inr rfl) (fb_pad_c (Or.inr rfl) (fb_pad_c (Or.inl rfl) (fb_pad_c (Or.inl rfl) (fb_pad_n)))))))) ?_
                have ih2 := ih w2 hs2
                rw [← fp_mk_1 (show fs_wt (mD w) nt nx so i = true from hb)] at ih2
                exact ih2
              · refine fw_iload h rfl rfl ?_
                refine fw_aload_n h rfl rfl ?_
                refine fw_getIv (nI nt) h rfl fk_g_X8_124 rfl rfl (hN2.1.1) ?_
                refine fw_icmp_ge h rfl (fun c63 => ?_) (fun c63 => False.elim (c63 (Int32.le_refl _)))
                refine fw_iload_n h rfl rfl ?_
                refine fw_iload h rfl rfl ?_
                refine fw_if_eq h rfl (fun _ => ?_) (fun c => absurd c (by decide))
                refine fw_iconst h (nI 0) rfl (by decide) ?_
                refine fw_ior h rfl ?_
                refine fw_istore_n h [_, _, _, _, _, _, _] rfl rfl rfl rfl ?_
                first | refine fn_iinc h [_, _, _, _, _, _, _] rfl rfl rfl rfl rfl ?_ | refine fw_iinc h 1 [_, _, _, _, _, _, _] rfl (by decide) rfl rfl rfl rfl ?_
                refine fw_goto h rfl ?_
                refine fw_sub (fb_pad_c (Or.inr rfl) (fb_pad_c (Or.inr rfl) (fb_pad_c (Or.inr rfl) (fb_pad_c (Or.inr rfl) (fb_pad_c (Or.inr rfl) (fb_pad_c (Or.inl rfl) (fb_pad_c (Or.inl rfl) (fb_pad_n)))))))) ?_
                have ih2 := ih w2 hs2
                rw [← fp_mk_0 (show fs_wt (mD w) nt nx so i = false from hb)] at ih2
                exact ih2
            · intro b hb
              rcases hb with ⟨rfl, hb⟩ | ⟨rfl, hb⟩
              · refine fw_iload h rfl rfl ?_
                refine fw_aload_n h rfl rfl ?_
                refine fw_getIv (nI nt) h rfl fk_g_X8_124 rfl rfl (hN2.1.1) ?_
                refine fw_icmp_ge h rfl (fun c63 => False.elim (nI_ge hj (by omega) c63)) (fun c63 => ?_)
                refine fw_iload h rfl rfl ?_
                refine fw_if_eq h rfl (fun c => absurd c (by decide)) (fun _ => ?_)
                refine fw_aload_n h rfl rfl ?_
                refine fw_getIv (fs_ds (mD w) nt nx i) h rfl fk_g_X8_249 rfl rfl (q33) ?_
                refine fw_iload h rfl rfl ?_
                refine fw_s2I h rfl fk_s_X8_has fk_l_X8_185 rfl rfl ?_
                refine c_X8_hasN rfl (by omega) (fun c77 => ?_) (fun c77 => ?_)
                · refine fw_if_eq h rfl (fun c => absurd c (by decide)) (fun _ => ?_)
                  refine fw_aload_n h rfl rfl ?_
                  refine fw_getR _ h rfl fk_g_X8_29 rfl rfl ?_
                  refine fw_iload h rfl rfl ?_
                  refine fn_ialdF (mD w 1) h rfl rfl (e52) (by omega) rfl ?_
                  refine fw_iload_n h rfl rfl ?_
                  refine fw_icmp_ne h rfl (fun c91 => ?_) (fun c91 => ?_)
                  · skip
                    · refine fw_iconst h (nI 0) rfl (by decide) ?_
                      refine fw_istore h [_, _, _, _, _, _, _] rfl rfl rfl rfl ?_
                      first | refine fn_iinc h [_, _, _, _, _, _, _] rfl rfl rfl rfl rfl ?_ | refine fw_iinc h 1 [_, _, _, _, _, _, _] rfl (by decide) rfl rfl rfl rfl ?_
                      refine fw_goto h rfl ?_
                      exact ihj _ (Or.inr ⟨rfl, by first | exact fs_al_0 hb | exact fs_al_2 c77 c91⟩)
                  · skip
                    · refine fw_iconst h (nI 1) rfl (by decide) ?_
                      refine fw_goto h rfl ?_
                      refine fw_istore h [_, _, _, _, _, _, _] rfl rfl rfl rfl ?_
                      first | refine fn_iinc h [_, _, _, _, _, _, _] rfl rfl rfl rfl rfl ?_ | refine fw_iinc h 1 [_, _, _, _, _, _, _] rfl (by decide) rfl rfl rfl rfl ?_
                      refine fw_goto h rfl ?_
                      exact ihj _ (Or.inl ⟨rfl, fs_al_1 hb (by first | exact Or.inl c77 | exact Or.inr c91)⟩)
                · refine fw_if_eq h rfl (fun _ => ?_) (fun c => absurd c (by decide))
                  skip
                  · refine fw_iconst h (nI 1) rfl (by decide) ?_
                    refine fw_goto h rfl ?_
                    refine fw_istore h [_, _, _, _, _, _, _] rfl rfl rfl rfl ?_
                    first | refine fn_iinc h [_, _, _, _, _, _, _] rfl rfl rfl rfl rfl ?_ | refine fw_iinc h 1 [_, _, _, _, _, _, _] rfl (by decide) rfl rfl rfl rfl ?_
                    refine fw_goto h rfl ?_
                    exact ihj _ (Or.inl ⟨rfl, fs_al_1 hb (by first | exact Or.inl c77 | exact Or.inr c91)⟩)
              · refine fw_iload h rfl rfl ?_
                refine fw_aload_n h rfl rfl ?_
                refine fw_getIv (nI nt) h rfl fk_g_X8_124 rfl rfl (hN2.1.1) ?_
                refine fw_icmp_ge h rfl (fun c63 => False.elim (nI_ge hj (by omega) c63)) (fun c63 => ?_)
                refine fw_iload h rfl rfl ?_
                refine fw_if_eq h rfl (fun _ => ?_) (fun c => absurd c (by decide))
                skip
                · refine fw_iconst h (nI 0) rfl (by decide) ?_
                  refine fw_istore h [_, _, _, _, _, _, _] rfl rfl rfl rfl ?_
                  first | refine fn_iinc h [_, _, _, _, _, _, _] rfl rfl rfl rfl rfl ?_ | refine fw_iinc h 1 [_, _, _, _, _, _, _] rfl (by decide) rfl rfl rfl rfl ?_
                  refine fw_goto h rfl ?_
                  exact ihj _ (Or.inr ⟨rfl, by first | exact fs_al_0 hb | exact fs_al_2 c77 c91⟩)
    · refine fw_if_ne h rfl (fun c => absurd c (by decide)) (fun _ => ?_)
      refine fw_iconst h (-1) rfl (by decide) ?_
      exact fw_iret h rfl rfl ⟨_, rfl, hb (fun q => by first | exact c1 q.1 | exact c12 q.2)⟩
  · refine fw_if_eq h rfl (fun _ => ?_) (fun c => absurd c (by decide))
    refine fw_iconst h (-1) rfl (by decide) ?_
    exact fw_iret h rfl rfl ⟨_, rfl, hb (fun q => by first | exact c1 q.1 | exact c12 q.2)⟩
noncomputable def fs_hN (D : Nat → Nat → Int32) (nt nd nx : Nat) (pl fr to : Int32) : Nat := fp_cnt (fs_hn D nt nx pl fr to) nd
noncomputable def fs_hK (D : Nat → Nat → Int32) (nt nd nx : Nat) (pl fr to : Int32) : Nat := fp_cnt (fs_hk D nt nx pl fr to) nd
def fs_ws (n k : Nat) : Nat := fp_cnt (fun s => decide (nI k ≤ fp_bits (nI s) 20)) (2 ^ n)
noncomputable def fs_hW (D : Nat → Nat → Int32) (nt nd nx : Nat) (pl fr to : Int32) : Nat := fs_ws (fs_hN D nt nd nx pl fr to) (fs_hK D nt nd nx pl fr to)
theorem fs_ws_le (n k : Nat) : fs_ws n k ≤ 2 ^ n := fp_cnt_le _ _
theorem lc_shl {n : Nat} (h : n ≤ 12) : (1 : Int64) <<< ((nI n).toInt64 &&& 63) = lN (2 ^ n) := by
  have e : ∀ n, n < 13 → (1 : Int64) <<< ((nI n).toInt64 &&& 63) = lN (2 ^ n) := by decide +kernel
  exact e n (by omega)
theorem fs_2n (n : Nat) (h : n ≤ 12) : 2 ^ n ≤ 4096 := Nat.pow_le_pow_right (n := 2) (by decide) h
theorem c_X8_habit {l : Launch} {w : fb_Wd} {P : Int32 → fb_Wd → Prop} {nt nd nx ng : Nat} (hN : fd_N (mD w) nt nd nx ng) (hT : fd_T (mD w) nt) (hAA : ∀ d, d < nd → fd_A (mD w) nt d (fd_m (mD w) d)) {pl fr to : Int32} (hb : ¬ ((0 ≤ pl ∧ pl ≤ 7) ∧ (1000 ≤ fr ∧ fr ≤ 1900 ∧ fr ≤ to ∧ to ≤ 1900)) → P (-1) w) (h0 : (0 ≤ pl ∧ pl ≤ 7) → (1000 ≤ fr ∧ fr ≤ 1900 ∧ fr ≤ to ∧ to ≤ 1900) → fs_hN (mD w) nt nd nx pl fr to = 0 → ∀ w', sM [23, 24, 25, 26, 32, 33, 34, 36, 37] w w' → P (-3) (fb_up (fb_up w' 46 0 (nI 4)) 47 4 (w'.1 47 4 + 1))) (h1 : (0 ≤ pl ∧ pl ≤ 7) → (1000 ≤ fr ∧ fr ≤ 1900 ∧ fr ≤ to ∧ to ≤ 1900) → 0 < fs_hN (mD w) nt nd nx pl fr to → 20 * fs_hW (mD w) nt nd nx pl fr to < 2 ^ (fs_hN (mD w) nt nd nx pl fr to) → ∀ w', sM [23, 24, 25, 26, 32, 33, 34, 36, 37] w w' → P 1 (fb_ul (fb_ul w' 46 3 (lN (fs_hW (mD w) nt nd nx pl fr to / Nat.gcd (fs_hW (mD w) nt nd nx pl fr to) (2 ^ (fs_hN (mD w) nt nd nx pl fr to))))) 46 4 (lN (2 ^ (fs_hN (mD w) nt nd nx pl fr to) / Nat.gcd (fs_hW (mD w) nt nd nx pl fr to) (2 ^ (fs_hN (mD w) nt nd nx pl fr to)))))) (h2 : (0 ≤ pl ∧ pl ≤ 7) → (1000 ≤ fr ∧ fr ≤ 1900 ∧ fr ≤ to ∧ to ≤ 1900) → 0 < fs_hN (mD w) nt nd nx pl fr to → ¬ 20 * fs_hW (mD w) nt nd nx pl fr to < 2 ^ (fs_hN (mD w) nt nd nx pl fr to) → ∀ w', sM [23, 24, 25, 26, 32, 33, 34, 36, 37] w w' → P 0 (fb_ul (fb_ul w' 46 3 (lN (fs_hW (mD w) nt nd nx pl fr to / Nat.gcd (fs_hW (mD w) nt nd nx pl fr to) (2 ^ (fs_hN (mD w) nt nd nx pl fr to))))) 46 4 (lN (2 ^ (fs_hN (mD w) nt nd nx pl fr to) / Nat.gcd (fs_hW (mD w) nt nd nx pl fr to) (2 ^ (fs_hN (mD w) nt nd nx pl fr to)))))) : fb_Can l tX8_habit [.ref 46, .int pl, .int fr, .int to] w (fb_kI P) := by
  refine fb_intro 1 fk_t_X8_habit (by decide) rfl (fun X hX h => ?_)
  subst hX
  change fb_AW tX8_habit X 0 [some (.ref 46), some (.int pl), some (.int fr), some (.int to), none] [] w
  refine fw_iload_n h rfl rfl ?_
  refine fw_s1I h rfl fk_s_X8_isPlace fk_l_X8_157 rfl rfl ?_
  refine c_X8_isPlace (fun c1a c1b => ?_) (fun c1 => ?_)
  · refine fw_if_eq h rfl (fun c => absurd c (by decide)) (fun _ => ?_)
    refine fw_iload_n h rfl rfl ?_
    refine fw_iload_n h rfl rfl ?_
    refine fw_s2I h rfl fk_s_X8_areYears fk_l_X8_270 rfl rfl ?_
    refine c_X8_areYears (fun c9a c9b c9c c9d => ?_) (fun c9 => ?_)
    · refine fw_if_ne h rfl (fun _ => ?_) (fun c => absurd c (by decide))
      refine fw_aload_n h rfl rfl ?_
      refine fw_iload_n h rfl rfl ?_
      refine fw_iload_n h rfl rfl ?_
      refine fw_iload_n h rfl rfl ?_
      refine fw_v3V h rfl fk_v_X8_layHabit fk_l_X8_273 rfl rfl rfl rfl ?_
      refine c_X8_layHabit hN hT hAA (fun w1 hs h36 h37 => ?_)
      have h36 : w1.1 46 36 = nI (fs_hN (mD w) nt nd nx pl fr to) := h36
      have h37 : w1.1 46 37 = nI (fs_hK (mD w) nt nd nx pl fr to) := h37
      have hn12 : fs_hN (mD w) nt nd nx pl fr to ≤ 12 := by
        have q1 := fp_cnt_le (fs_hn (mD w) nt nx pl fr to) nd
        have q2 := hN.2.1.2
        show fp_cnt _ nd ≤ 12
        omega
      have hp2 := fs_2n _ hn12
      have hp0 := Nat.two_pow_pos (fs_hN (mD w) nt nd nx pl fr to)
      have hw : fs_hW (mD w) nt nd nx pl fr to ≤ 2 ^ (fs_hN (mD w) nt nd nx pl fr to) := fs_ws_le _ _
      refine fw_aload_n h rfl rfl ?_
      refine fw_getIv (nI (fs_hN (mD w) nt nd nx pl fr to)) h rfl fk_g_X8_264 rfl rfl (h36) ?_
      refine fw_if_ne h rfl (fun c28 => ?_) (fun c28 => ?_)
      · have hpos : 0 < fs_hN (mD w) nt nd nx pl fr to := by
          rcases Nat.eq_zero_or_pos (fs_hN (mD w) nt nd nx pl fr to) with z | z
          · exact absurd (by rw [z]; rfl) c28
          · exact z
        refine fw_aload_n h rfl rfl ?_
        refine fw_aload_n h rfl rfl ?_
        refine fw_getIv (nI (fs_hN (mD w) nt nd nx pl fr to)) h rfl fk_g_X8_264 rfl rfl (h36) ?_
        refine fw_aload_n h rfl rfl ?_
        refine fw_getIv (nI (fs_hK (mD w) nt nd nx pl fr to)) h rfl fk_g_X8_267 rfl rfl (h37) ?_
        refine fw_v2I h rfl fk_v_X8_waysOf fk_l_X8_277 rfl rfl rfl rfl ?_
        refine c_X8_waysOf hn12 ?_
        change fb_AW _ _ _ _ (.int (nI (fs_hW (mD w) nt nd nx pl fr to)) :: _) _
        refine fw_istore h [_, _, _, _, _] rfl rfl rfl rfl ?_
        refine fw_aload_n h rfl rfl ?_
        refine fw_iload h rfl rfl ?_
        skip
        refine fw_i2l h rfl ?_
        refine fw_lconst h 1 rfl (by decide) ?_
        refine fw_aload_n h rfl rfl ?_
        refine fw_getIv (nI (fs_hN (mD w) nt nd nx pl fr to)) h rfl fk_g_X8_264 rfl rfl (h36) ?_
        refine fw_lshl h rfl ?_
        refine fw_bipush h (nI 20) rfl (by decide) ?_
        refine fw_iload h rfl rfl ?_
        first | refine fn_imul h rfl ?_ | refine fw_imul h rfl ?_
        refine fw_iconst h (nI 1) rfl (by decide) ?_
        refine fw_aload_n h rfl rfl ?_
        refine fw_getIv (nI (fs_hN (mD w) nt nd nx pl fr to)) h rfl fk_g_X8_264 rfl rfl (h36) ?_
        refine fw_ishl h rfl ?_
        rw [fp_pow _ (by omega)]
        refine fw_icmp_ge h rfl (fun c72 => ?_) (fun c72 => ?_)
        · refine fw_iconst h (nI 0) rfl (by decide) ?_
          refine fw_v3I h rfl fk_v_X8_share fk_l_X8_280 rfl rfl rfl rfl ?_
          rw [nI_l (by omega), lc_shl hn12]
          refine c_X8_share (by omega) (by omega) (by omega) ?_
          exact fw_iret h rfl rfl ⟨_, rfl, by first | exact h1 ⟨c1a, c1b⟩ ⟨c9a, c9b, c9c, c9d⟩ hpos (Nat.not_le.mp (fun y => c72 ((nI_leI (by omega) (by omega)).mpr y))) w1 hs | exact h2 ⟨c1a, c1b⟩ ⟨c9a, c9b, c9c, c9d⟩ hpos (Nat.not_lt.mpr ((nI_leI (by omega) (by omega)).mp c72)) w1 hs⟩
        · refine fw_iconst h (nI 1) rfl (by decide) ?_
          refine fw_goto h rfl ?_
          refine fw_v3I h rfl fk_v_X8_share fk_l_X8_280 rfl rfl rfl rfl ?_
          rw [nI_l (by omega), lc_shl hn12]
          refine c_X8_share (by omega) (by omega) (by omega) ?_
          exact fw_iret h rfl rfl ⟨_, rfl, by first | exact h1 ⟨c1a, c1b⟩ ⟨c9a, c9b, c9c, c9d⟩ hpos (Nat.not_le.mp (fun y => c72 ((nI_leI (by omega) (by omega)).mpr y))) w1 hs | exact h2 ⟨c1a, c1b⟩ ⟨c9a, c9b, c9c, c9d⟩ hpos (Nat.not_lt.mpr ((nI_leI (by omega) (by omega)).mp c72)) w1 hs⟩
      · refine fw_aload_n h rfl rfl ?_
        refine fw_iconst h (nI 4) rfl (by decide) ?_
        refine fw_v1I h rfl fk_v_X8_meets fk_l_X8_117 rfl rfl rfl rfl ?_
        refine c_X8_meets (by decide) ?_
        exact fw_iret h rfl rfl ⟨_, rfl, h0 ⟨c1a, c1b⟩ ⟨c9a, c9b, c9c, c9d⟩ ((nI_eq (by omega) (by decide)).mp c28) w1 hs⟩
    · refine fw_if_ne h rfl (fun c => absurd c (by decide)) (fun _ => ?_)
      refine fw_iconst h (-1) rfl (by decide) ?_
      exact fw_iret h rfl rfl ⟨_, rfl, hb (fun q => by first | exact c1 q.1 | exact c9 q.2)⟩
  · refine fw_if_eq h rfl (fun _ => ?_) (fun c => absurd c (by decide))
    refine fw_iconst h (-1) rfl (by decide) ?_
    exact fw_iret h rfl rfl ⟨_, rfl, hb (fun q => by first | exact c1 q.1 | exact c9 q.2)⟩
theorem fx_pos {n : Nat} (h : ¬ nI n ≤ 0) : 0 < n := by
  cases n with
  | zero => exact absurd (by decide) h
  | succ n => omega
def fs_bp (v : Nat → Nat) (ok : Nat → Bool) : Nat → Option Nat
  | 0 => none
  | p + 1 => if ok p = true ∧ (∀ b, fs_bp v ok p = some b → v p < v b) then some p else fs_bp v ok p
theorem fs_bp_lt {v : Nat → Nat} {ok : Nat → Bool} : ∀ {n b : Nat}, fs_bp v ok n = some b → b < n ∧ ok b = true
  | 0, b, h => by cases h
  | n + 1, b, h => by
    rw [fs_bp] at h
    split at h
    · rename_i q
      cases h
      exact ⟨by omega, q.1⟩
    · have := fs_bp_lt (n := n) h
      exact ⟨by omega, this.2⟩
def fs_ob (o : Option Nat) : Int32 := match o with
  | none => -9
  | some b => nI b
noncomputable def fs_pv (D : Nat → Nat → Int32) (nt nd nx : Nat) (fr to : Int32) (p : Nat) : Nat := fs_hW D nt nd nx (nI p) fr to * 2 ^ (12 - fs_hN D nt nd nx (nI p) fr to)
noncomputable def fs_po (D : Nat → Nat → Int32) (nt nd nx : Nat) (fr to : Int32) (p : Nat) : Bool := decide (0 < fs_hN D nt nd nx (nI p) fr to)
theorem fs_cmp {a b n m : Nat} (hn : n ≤ 12) (hm : m ≤ 12) : a * 2 ^ m < b * 2 ^ n ↔ a * 2 ^ (12 - n) < b * 2 ^ (12 - m) := by
  have e1 : a * 2 ^ (12 - n) * 2 ^ (n + m) = a * 2 ^ m * 2 ^ 12 := by
    rw [Nat.mul_assoc, Nat.mul_assoc, ← Nat.pow_add, ← Nat.pow_add]
    congr 2
    omega
  have e2 : b * 2 ^ (12 - m) * 2 ^ (n + m) = b * 2 ^ n * 2 ^ 12 := by
    rw [Nat.mul_assoc, Nat.mul_assoc, ← Nat.pow_add, ← Nat.pow_add]
    congr 2
    omega
  have p1 := Nat.two_pow_pos (n + m)
  have p2 := Nat.two_pow_pos 12
  constructor
  · intro h
    have h2 := Nat.mul_lt_mul_of_pos_right h p2
    rw [← e1, ← e2] at h2
    exact Nat.lt_of_mul_lt_mul_right h2
  · intro h
    have h2 := Nat.mul_lt_mul_of_pos_right h p1
    rw [e1, e2] at h2
    exact Nat.lt_of_mul_lt_mul_right h2
theorem fs_lc {a b : Nat} (ha : a < 2 ^ 62) (hb : b < 2 ^ 62) : 0 ≤ lg_cmp (lN a) (lN b) ↔ ¬ a < b := by
  unfold lg_cmp
  by_cases h : a < b
  · have h1 : lN a < lN b := (pk_lLT (by omega) (by omega)).mpr h
    have h2 : ¬ lN b < lN a := fun z => by have := (pk_lLT (by omega) (by omega)).mp z; omega
    have h3 : ¬ lN a = lN b := fun z => by have := (pk_lEQ (by omega) (by omega)).mp z; omega
    rw [if_neg h2, if_neg h3]
    exact ⟨fun z => absurd z (by decide), fun z => absurd h z⟩
  · have h1 : ¬ lN a < lN b := fun z => h ((pk_lLT (by omega) (by omega)).mp z)
    refine ⟨fun _ => h, fun _ => ?_⟩
    split
    · decide
    · rename_i h2
      have h3 : lN a = lN b := (pk_lEQ (by omega) (by omega)).mpr (by
        have h4 : ¬ b < a := fun y => h2 ((pk_lLT (by omega) (by omega)).mpr y)
        omega)
      rw [if_pos h3]; decide
theorem c_X8_worstPlace {l : Launch} {w : fb_Wd} {P : Int32 → fb_Wd → Prop} {nt nd nx ng : Nat} (hN : fd_N (mD w) nt nd nx ng) (hT : fd_T (mD w) nt) (hAA : ∀ d, d < nd → fd_A (mD w) nt d (fd_m (mD w) d)) {fr to : Int32} (hb : ¬ (1000 ≤ fr ∧ fr ≤ 1900 ∧ fr ≤ to ∧ to ≤ 1900) → P (-1) w) (hg : 1000 ≤ fr → fr ≤ 1900 → fr ≤ to → to ≤ 1900 → ∀ w', sM [23, 24, 25, 26, 32, 33, 34, 36, 37] w w' → P (fs_ob (fs_bp (fs_pv (mD w) nt nd nx fr to) (fs_po (mD w) nt nd nx fr to) 8)) w') : fb_Can l tX8_worstPlace [.ref 46, .int fr, .int to] w (fb_kI P) := by
  refine fb_intro 10 fk_t_X8_worstPlace (by decide) rfl (fun X hX h => ?_)
  subst hX
  change fb_AW tX8_worstPlace X 0 [some (.ref 46), some (.int fr), some (.int to), none, none, none, none, none, none, none, none, none, none] [] w
  refine fw_iload_n h rfl rfl ?_
  refine fw_iload_n h rfl rfl ?_
  refine fw_s2I h rfl fk_s_X8_areYears fk_l_X8_270 rfl rfl ?_
  refine c_X8_areYears (fun c2a c2b c2c c2d => ?_) (fun c2 => ?_)
  · refine fw_if_ne h rfl (fun _ => ?_) (fun c => absurd c (by decide))
    refine fw_bipush h (-9) rfl (by decide) ?_
    refine fw_istore_n h [_, _, _, _, _, _, _, _, _, _, _, _, _] rfl rfl rfl rfl ?_
    refine fw_lconst h 0 rfl (by decide) ?_
    refine fw_lstore h [_, _, _, _, _, _, _, _, _, _, _, _, _] rfl rfl rfl rfl ?_
    refine fw_lconst h 1 rfl (by decide) ?_
    refine fw_lstore h [_, _, _, _, _, _, _, _, _, _, _, _, _] rfl rfl rfl rfl ?_
    refine fw_iconst h (nI 0) rfl (by decide) ?_
    refine fw_istore h [_, _, _, _, _, _, _, _, _, _, _, _, _] rfl rfl rfl rfl ?_
    refine (?_ : ∀ w1, sM [23, 24, 25, 26, 32, 33, 34, 36, 37] w w1 → ∀ b u l, ((fs_bp (fs_pv (mD w) nt nd nx fr to) (fs_po (mD w) nt nd nx fr to) 0 = none ∧ b = -9) ∨ (∃ q, fs_bp (fs_pv (mD w) nt nd nx fr to) (fs_po (mD w) nt nd nx fr to) 0 = some q ∧ b = nI q ∧ u = lN (fs_hW (mD w) nt nd nx (nI q) fr to) ∧ l = lN (2 ^ (fs_hN (mD w) nt nd nx (nI q) fr to)))) → fb_AW tX8_worstPlace X 22 [some (.ref 46), some (.int fr), some (.int to), some (.int b), some (.long u), none, some (.long l), none, some (.int (nI 0)), none, none, none, none] [] w1) w (sM.rf _ w) _ _ _ (Or.inl ⟨rfl, rfl⟩)
    refine fb_loop (fun i => ∀ w1, sM [23, 24, 25, 26, 32, 33, 34, 36, 37] w w1 → ∀ b u l, ((fs_bp (fs_pv (mD w) nt nd nx fr to) (fs_po (mD w) nt nd nx fr to) i = none ∧ b = -9) ∨ (∃ q, fs_bp (fs_pv (mD w) nt nd nx fr to) (fs_po (mD w) nt nd nx fr to) i = some q ∧ b = nI q ∧ u = lN (fs_hW (mD w) nt nd nx (nI q) fr to) ∧ l = lN (2 ^ (fs_hN (mD w) nt nd nx (nI q) fr to)))) → fb_AW tX8_worstPlace X 22 [some (.ref 46), some (.int fr), some (.int to), some (.int b), some (.long u), none, some (.long l), none, some (.int (nI i)), none, none, none, none] [] w1) (8) ?_ (fun i hi ih => ?_) 0 (Nat.zero_le _)
    · intro w1 hs b u l hI
      have eD : mD w1 = mD w := sM.mD hs (by decide)
      have hN1 : fd_N (mD w1) nt nd nx ng := by rw [eD]; exact hN
      have hT1 : fd_T (mD w1) nt := by rw [eD]; exact hT
      have hAA1 : ∀ d, d < nd → fd_A (mD w1) nt d (fd_m (mD w1) d) := by rw [eD]; exact hAA
      refine fw_iload h rfl rfl ?_
      refine fw_bipush h (nI 8) rfl (by decide) ?_
      refine fw_icmp_ge h rfl (fun c26 => ?_) (fun c26 => False.elim (c26 (by decide)))
      refine fw_iload_n h rfl rfl ?_
      exact fw_iret h rfl rfl ⟨_, rfl, by
    rcases hI with ⟨e, rfl⟩ | ⟨q, e, rfl, -, -⟩
    · have z := hg c2a c2b c2c c2d w1 hs; rw [e] at z; exact z
    · have z := hg c2a c2b c2c c2d w1 hs; rw [e] at z; exact z⟩
    · intro w1 hs b u l hI
      have eD : mD w1 = mD w := sM.mD hs (by decide)
      have hN1 : fd_N (mD w1) nt nd nx ng := by rw [eD]; exact hN
      have hT1 : fd_T (mD w1) nt := by rw [eD]; exact hT
      have hAA1 : ∀ d, d < nd → fd_A (mD w1) nt d (fd_m (mD w1) d) := by rw [eD]; exact hAA
      refine fw_iload h rfl rfl ?_
      refine fw_bipush h (nI 8) rfl (by decide) ?_
      refine fw_icmp_ge h rfl (fun c26 => False.elim (nI_ge hi (by decide) c26)) (fun c26 => ?_)
      refine fw_aload_n h rfl rfl ?_
      refine fw_iload h rfl rfl ?_
      refine fw_iload_n h rfl rfl ?_
      refine fw_iload_n h rfl rfl ?_
      refine fw_v3V h rfl fk_v_X8_layHabit fk_l_X8_273 rfl rfl rfl rfl ?_
      refine c_X8_layHabit hN1 hT1 hAA1 (fun w2 hs2 h36 h37 => ?_)
      rw [eD] at h36 h37
      have h36 : w2.1 46 36 = nI (fs_hN (mD w) nt nd nx (nI i) fr to) := h36
      have h37 : w2.1 46 37 = nI (fs_hK (mD w) nt nd nx (nI i) fr to) := h37
      have hn12 : ∀ p, fs_hN (mD w) nt nd nx (nI p) fr to ≤ 12 := by
        intro p
        have q1 := fp_cnt_le (fs_hn (mD w) nt nx (nI p) fr to) nd
        have q2 := hN.2.1.2
        show fp_cnt _ nd ≤ 12
        omega
      have hp2 := fs_2n _ (hn12 i)
      have hw : fs_hW (mD w) nt nd nx (nI i) fr to ≤ 2 ^ (fs_hN (mD w) nt nd nx (nI i) fr to) := fs_ws_le _ _
      have hs3 : sM [23, 24, 25, 26, 32, 33, 34, 36, 37] w w2 := hs.tr hs2
      refine fw_aload_n h rfl rfl ?_
      refine fw_aload_n h rfl rfl ?_
      refine fw_getIv (nI (fs_hN (mD w) nt nd nx (nI i) fr to)) h rfl fk_g_X8_264 rfl rfl (h36) ?_
      refine fw_aload_n h rfl rfl ?_
      refine fw_getIv (nI (fs_hK (mD w) nt nd nx (nI i) fr to)) h rfl fk_g_X8_267 rfl rfl (h37) ?_
      refine fw_v2I h rfl fk_v_X8_waysOf fk_l_X8_277 rfl rfl rfl rfl ?_
      refine c_X8_waysOf (hn12 i) ?_
      change fb_AW _ _ _ _ (.int (nI (fs_hW (mD w) nt nd nx (nI i) fr to)) :: _) _
      refine fw_i2l h rfl ?_
      rw [nI_l (by omega)]
      refine fw_lstore h [_, _, _, _, _, _, _, _, _, _, _, _, _] rfl rfl rfl rfl ?_
      refine fw_lconst h 1 rfl (by decide) ?_
      refine fw_aload_n h rfl rfl ?_
      refine fw_getIv (nI (fs_hN (mD w) nt nd nx (nI i) fr to)) h rfl fk_g_X8_264 rfl rfl (h36) ?_
      refine fw_lshl h rfl ?_
      rw [lc_shl (hn12 i)]
      refine fw_lstore h [_, _, _, _, _, _, _, _, _, _, _, _, _] rfl rfl rfl rfl ?_
      refine fw_aload_n h rfl rfl ?_
      refine fw_getIv (nI (fs_hN (mD w) nt nd nx (nI i) fr to)) h rfl fk_g_X8_264 rfl rfl (h36) ?_
      refine fw_if_le h rfl (fun c64 => ?_) (fun c64 => ?_)
      · first | refine fn_iinc h [_, _, _, _, _, _, _, _, _, _, _, _, _] rfl rfl rfl rfl rfl ?_ | refine fw_iinc h 1 [_, _, _, _, _, _, _, _, _, _, _, _, _] rfl (by decide) rfl rfl rfl rfl ?_
        refine fw_goto h rfl ?_
        have hno : ¬ (fs_po (mD w) nt nd nx fr to i = true ∧ (∀ b, fs_bp (fs_pv (mD w) nt nd nx fr to) (fs_po (mD w) nt nd nx fr to) i = some b → fs_pv (mD w) nt nd nx fr to i < fs_pv (mD w) nt nd nx fr to b)) := fun z => by
          have z2 : 0 < fs_hN (mD w) nt nd nx (nI i) fr to := of_decide_eq_true z.1
          exact absurd c64 (nI_nle z2 (by have := hn12 i; omega))
        have e : fs_bp (fs_pv (mD w) nt nd nx fr to) (fs_po (mD w) nt nd nx fr to) (i + 1) = fs_bp (fs_pv (mD w) nt nd nx fr to) (fs_po (mD w) nt nd nx fr to) i := if_neg hno
        rw [← e] at hI
        exact fw_sub (fb_pad_c (Or.inr rfl) (fb_pad_c (Or.inr rfl) (fb_pad_c (Or.inr rfl) (fb_pad_c (Or.inr rfl) (fb_pad_c (Or.inr rfl) (fb_pad_c (Or.inr rfl) (fb_pad_c (Or.inr rfl) (fb_pad_c (Or.inr rfl) (fb_pad_c (Or.inr rfl) (fb_pad_c (Or.inl rfl) (fb_pad_c (Or.inl rfl) (fb_pad_c (Or.inl rfl) (fb_pad_c (Or.inl rfl) (fb_pad_n)))))))))))))) (ih w2 hs3 _ _ _ hI)
      · have hok : fs_po (mD w) nt nd nx fr to i = true := decide_eq_true (fx_pos c64)
        rcases hI with ⟨eI, rfl⟩ | ⟨q, eI, rfl, rfl, rfl⟩
        · refine fw_iload_n h rfl rfl ?_
          refine fw_if_lt h rfl (fun c68 => ?_) (fun c68 => False.elim (c68 (by decide)))
          refine fw_iload h rfl rfl ?_
          refine fw_istore_n h [_, _, _, _, _, _, _, _, _, _, _, _, _] rfl rfl rfl rfl ?_
          refine fw_lload h rfl rfl ?_
          refine fw_lstore h [_, _, _, _, _, _, _, _, _, _, _, _, _] rfl rfl rfl rfl ?_
          refine fw_lload h rfl rfl ?_
          refine fw_lstore h [_, _, _, _, _, _, _, _, _, _, _, _, _] rfl rfl rfl rfl ?_
          first | refine fn_iinc h [_, _, _, _, _, _, _, _, _, _, _, _, _] rfl rfl rfl rfl rfl ?_ | refine fw_iinc h 1 [_, _, _, _, _, _, _, _, _, _, _, _, _] rfl (by decide) rfl rfl rfl rfl ?_
          refine fw_goto h rfl ?_
          have hlt : ∀ b, fs_bp (fs_pv (mD w) nt nd nx fr to) (fs_po (mD w) nt nd nx fr to) i = some b → fs_pv (mD w) nt nd nx fr to i < fs_pv (mD w) nt nd nx fr to b := fun b z => by rw [eI] at z; cases z
          have e : fs_bp (fs_pv (mD w) nt nd nx fr to) (fs_po (mD w) nt nd nx fr to) (i + 1) = some i := if_pos ⟨hok, hlt⟩
          exact fw_sub (fb_pad_c (Or.inr rfl) (fb_pad_c (Or.inr rfl) (fb_pad_c (Or.inr rfl) (fb_pad_c (Or.inr rfl) (fb_pad_c (Or.inr rfl) (fb_pad_c (Or.inr rfl) (fb_pad_c (Or.inr rfl) (fb_pad_c (Or.inr rfl) (fb_pad_c (Or.inr rfl) (fb_pad_c (Or.inl rfl) (fb_pad_c (Or.inl rfl) (fb_pad_c (Or.inl rfl) (fb_pad_c (Or.inl rfl) (fb_pad_n)))))))))))))) (ih w2 hs3 _ _ _ (Or.inr ⟨i, e, rfl, rfl, rfl⟩))
        · have hq := (fs_bp_lt eI).1
          have hwq : fs_hW (mD w) nt nd nx (nI q) fr to ≤ 2 ^ (fs_hN (mD w) nt nd nx (nI q) fr to) := fs_ws_le _ _
          have hp3 := fs_2n _ (hn12 q)
          have m1 := Nat.mul_le_mul hw hp3
          have m2 := Nat.mul_le_mul hwq hp2
          refine fw_iload_n h rfl rfl ?_
          refine fw_if_lt h rfl (fun c68 => False.elim (absurd c68 (nI_pos (by omega)))) (fun c68 => ?_)
          refine fw_lload h rfl rfl ?_
          refine fw_lload h rfl rfl ?_
          refine fw_lmul h rfl ?_
          rw [lN_mul]
          refine fw_lload h rfl rfl ?_
          refine fw_lload h rfl rfl ?_
          refine fw_lmul h rfl ?_
          rw [lN_mul]
          refine fw_lcmp h rfl ?_
          refine fw_if_ge h rfl (fun c82 => ?_) (fun c82 => ?_)
          · have hno : ¬ (fs_po (mD w) nt nd nx fr to i = true ∧ (∀ b, fs_bp (fs_pv (mD w) nt nd nx fr to) (fs_po (mD w) nt nd nx fr to) i = some b → fs_pv (mD w) nt nd nx fr to i < fs_pv (mD w) nt nd nx fr to b)) := fun z => (fs_lc (by omega) (by omega)).mp c82 ((fs_cmp (hn12 i) (hn12 q)).mpr (z.2 q eI))
            · first | refine fn_iinc h [_, _, _, _, _, _, _, _, _, _, _, _, _] rfl rfl rfl rfl rfl ?_ | refine fw_iinc h 1 [_, _, _, _, _, _, _, _, _, _, _, _, _] rfl (by decide) rfl rfl rfl rfl ?_
              refine fw_goto h rfl ?_
              have e : fs_bp (fs_pv (mD w) nt nd nx fr to) (fs_po (mD w) nt nd nx fr to) (i + 1) = fs_bp (fs_pv (mD w) nt nd nx fr to) (fs_po (mD w) nt nd nx fr to) i := if_neg hno
              exact fw_sub (fb_pad_c (Or.inr rfl) (fb_pad_c (Or.inr rfl) (fb_pad_c (Or.inr rfl) (fb_pad_c (Or.inr rfl) (fb_pad_c (Or.inr rfl) (fb_pad_c (Or.inr rfl) (fb_pad_c (Or.inr rfl) (fb_pad_c (Or.inr rfl) (fb_pad_c (Or.inr rfl) (fb_pad_c (Or.inl rfl) (fb_pad_c (Or.inl rfl) (fb_pad_c (Or.inl rfl) (fb_pad_c (Or.inl rfl) (fb_pad_n)))))))))))))) (ih w2 hs3 _ _ _ (Or.inr ⟨q, e.trans eI, rfl, rfl, rfl⟩))
          · have hlt : ∀ b, fs_bp (fs_pv (mD w) nt nd nx fr to) (fs_po (mD w) nt nd nx fr to) i = some b → fs_pv (mD w) nt nd nx fr to i < fs_pv (mD w) nt nd nx fr to b := fun b z => by
              rw [eI] at z
              cases z
              exact (fs_cmp (hn12 i) (hn12 q)).mp (Decidable.not_not.mp (fun y => c82 ((fs_lc (by omega) (by omega)).mpr y)))
            · refine fw_iload h rfl rfl ?_
              refine fw_istore_n h [_, _, _, _, _, _, _, _, _, _, _, _, _] rfl rfl rfl rfl ?_
              refine fw_lload h rfl rfl ?_
              refine fw_lstore h [_, _, _, _, _, _, _, _, _, _, _, _, _] rfl rfl rfl rfl ?_
              refine fw_lload h rfl rfl ?_
              refine fw_lstore h [_, _, _, _, _, _, _, _, _, _, _, _, _] rfl rfl rfl rfl ?_
              first | refine fn_iinc h [_, _, _, _, _, _, _, _, _, _, _, _, _] rfl rfl rfl rfl rfl ?_ | refine fw_iinc h 1 [_, _, _, _, _, _, _, _, _, _, _, _, _] rfl (by decide) rfl rfl rfl rfl ?_
              refine fw_goto h rfl ?_
              have e : fs_bp (fs_pv (mD w) nt nd nx fr to) (fs_po (mD w) nt nd nx fr to) (i + 1) = some i := if_pos ⟨hok, hlt⟩
              exact fw_sub (fb_pad_c (Or.inr rfl) (fb_pad_c (Or.inr rfl) (fb_pad_c (Or.inr rfl) (fb_pad_c (Or.inr rfl) (fb_pad_c (Or.inr rfl) (fb_pad_c (Or.inr rfl) (fb_pad_c (Or.inr rfl) (fb_pad_c (Or.inr rfl) (fb_pad_c (Or.inr rfl) (fb_pad_c (Or.inl rfl) (fb_pad_c (Or.inl rfl) (fb_pad_c (Or.inl rfl) (fb_pad_c (Or.inl rfl) (fb_pad_n)))))))))))))) (ih w2 hs3 _ _ _ (Or.inr ⟨i, e, rfl, rfl, rfl⟩))
  · refine fw_if_ne h rfl (fun c => absurd c (by decide)) (fun _ => ?_)
    refine fw_iconst h (-1) rfl (by decide) ?_
    exact fw_iret h rfl rfl ⟨_, rfl, hb c2⟩
