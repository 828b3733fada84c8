theorem fp_in_le {f : Nat → Int32} : ∀ t u, fp_in f t u = true → u ≤ t := by
  intro t
  induction t using Nat.strongRecOn with
  | ind t ih =>
    intro u h
    rw [fp_in] at h
    by_cases e : t = u
    · omega
    · rw [if_neg e] at h
      split at h
      · rename_i q
        have := ih _ q.2 u h
        omega
      · cases h
theorem fp_anc_iff {f : Nat → Int32} {s : Int32} {n : Nat} (hw : fp_wh n f) (hn : n ≤ 20) : ∀ t, t < n → (fp_anc f s t = true ↔ ∃ u, ¬ u = t ∧ fp_in f t u = true ∧ bt s u = true) := by
  intro t
  induction t using Nat.strongRecOn with
  | ind t ih =>
    intro ht
    rcases hw t ht with e | ⟨v, hv, e⟩
    · rw [fp_anc_0 e]
      refine ⟨fun z => absurd z (by decide), ?_⟩
      rintro ⟨u, h1, h2, -⟩
      rw [fp_in_0 e (fun z => h1 z.symm)] at h2
      cases h2
    · rw [fp_anc_s e hv (by omega), Bool.or_eq_true, ih v hv (by omega)]
      constructor
      · rintro (h | ⟨u, h1, h2, h3⟩)
        · exact ⟨v, by omega, by rw [fp_in_s e hv (by omega) (by omega)]; exact fp_in_t _ _, h⟩
        · have := fp_in_le v u h2
          exact ⟨u, by omega, by rw [fp_in_s e hv (by omega) (by omega)]; exact h2, h3⟩
      · rintro ⟨u, h1, h2, h3⟩
        rw [fp_in_s e hv (by omega) (fun z => h1 z.symm)] at h2
        by_cases z : u = v
        · subst z; exact Or.inl h3
        · exact Or.inr ⟨u, z, h2, h3⟩
theorem fx_wp_eq {w : fb_Wd} {nt : Nat} {s : Int32} (hn : nt ≤ 20) (hD : fd_T (xD w) nt) (hT : xT w nt) (hs : fp_lt nt s) : fx_wp (w.1 18) s nt = fp_lft (xD w 3) s nt := by
  apply b_ext
  intro i hi
  unfold fx_wp
  rw [fp_mk_bt _ nt (by omega) i hi, fp_lft_bt (by omega) i hi]
  by_cases hin : i < nt
  · rw [decide_eq_true hin, Bool.true_and, Bool.true_and]
    congr 1
    have ha := fp_anc_iff (s := s) (fd_wh hD) hn i hin
    have hz : (w.1 18 i &&& s = 0) ↔ ¬ fp_anc (xD w 3) s i = true := by
      rw [ha]
      constructor
      · rintro h ⟨u, h1, h2, h3⟩
        have hu := fp_lt_bt hs h3
        have z := congrArg (fun x => bt x u) h
        simp only [b_and, b_0] at z
        rw [hT.2.1 i hin u (by omega), h3, decide_eq_true h1, show fp_in (w.1 15) i u = true from h2] at z
        cases z
      · intro h
        apply b_ext
        intro u hu
        rw [b_and, b_0, hT.2.1 i hin u hu]
        cases hb : bt s u with
        | false => simp
        | true =>
          by_cases e : u = i
          · subst e; simp
          · cases hf : fp_in (w.1 15) i u with
            | false => simp
            | true => exact absurd ⟨u, e, hf, hb⟩ h
    cases hc : fp_anc (xD w 3) s i with
    | true => rw [decide_eq_false (fun z => (hz.mp z) hc)]; rfl
    | false => rw [decide_eq_true (hz.mpr (by rw [hc]; decide))]; rfl
  · rw [decide_eq_false hin, hs i (by omega) hi]; rfl
theorem fs_set_bt {D : Nat → Nat → Int32} {r fr cn : Int32} {n u : Nat} (hon : ∀ t, t < n → fs_on D r t < 32) (hu : u < 32) : bt (fs_set D r fr cn n) u = true ↔ ∃ t, t < n ∧ bt cn t = true ∧ bt fr (D 1 (fs_on D r t)).toNatClampNeg = false ∧ u = fs_on D r t := by
  unfold fs_set
  rw [fp_orF_bt]
  constructor
  · rintro ⟨t, ht, h⟩
    split at h
    · rename_i q
      rw [fp_b1 _ (hon t ht) u hu] at h
      exact ⟨t, ht, q.1, q.2, of_decide_eq_true h⟩
    · rw [nI_0, b_0] at h; cases h
  · rintro ⟨t, ht, h1, h2, h3⟩
    refine ⟨t, ht, ?_⟩
    rw [if_pos ⟨h1, h2⟩, fp_b1 _ (hon t ht) u hu]
    exact decide_eq_true h3
theorem fx_os_bt {f : Nat → Int32} {so : Int32} {n u : Nat} (hn : n ≤ 32) (hu : u < 32) : bt (fx_os f so n) u = (decide (u < n) && bt so (f u).toNatClampNeg) := fp_mk_bt _ n hn u hu
theorem fx_set_e {w : fb_Wd} {nt : Nat} {r fr cn : Int32} (hn : nt ≤ 20) (hT : xT w nt) (hr : ∀ t, fs_on (xD w) r t = fp_top (xD w 3) t) : fx_to (w.1 17) cn nt &&& (fx_os (w.1 13) fr nt ^^^ -1) = fs_set (xD w) r fr cn nt := by
  apply b_ext
  intro u hu
  apply Bool.eq_iff_iff.mpr
  have hle : ∀ t, fp_top (xD w 3) t ≤ t := fun t => fp_top_le t
  rw [fs_set_bt (fun t ht => by rw [hr]; have := hle t; omega) hu, b_and, b_not hu, fx_os_bt (by omega) hu, Bool.and_eq_true]
  unfold fx_to
  rw [fp_orF_bt]
  constructor
  · rintro ⟨⟨t, ht, h⟩, h2⟩
    split at h
    · rename_i q
      have hl := hle t
      rw [hT.1 t ht, fx_bo_bt (a := fp_top (w.1 15) t) (by have : fp_top (w.1 15) t ≤ t := hle t; omega) hu] at h
      have e := of_decide_eq_true h
      refine ⟨t, ht, q, ?_, by rw [hr]; exact e⟩
      rw [hr, show fp_top (xD w 3) t = u from e.symm]
      rw [decide_eq_true (show u < nt by have : fp_top (w.1 15) t ≤ t := hle t; omega), Bool.true_and] at h2
      cases hb : bt fr (xD w 1 u).toNatClampNeg with
      | false => rfl
      | true => rw [show bt fr (w.1 13 u).toNatClampNeg = true from hb] at h2; cases h2
    · rw [nI_0, b_0] at h; cases h
  · rintro ⟨t, ht, h1, h2, h3⟩
    rw [hr] at h2 h3
    have hl := hle t
    refine ⟨⟨t, ht, ?_⟩, ?_⟩
    · rw [if_pos h1, hT.1 t ht, fx_bo_bt (a := fp_top (w.1 15) t) (by have : fp_top (w.1 15) t ≤ t := hle t; omega) hu]
      exact decide_eq_true h3
    · rw [h3, show bt fr (w.1 13 (fp_top (xD w 3) t)).toNatClampNeg = false from h2, Bool.and_false]; rfl
theorem fx_set_o {w : fb_Wd} {nt : Nat} {r fr cn : Int32} (hn : nt ≤ 20) (hc : fp_lt nt cn) (hr : ∀ t, fs_on (xD w) r t = t) : cn &&& (fx_os (w.1 13) fr nt ^^^ -1) = fs_set (xD w) r fr cn nt := by
  apply b_ext
  intro u hu
  apply Bool.eq_iff_iff.mpr
  rw [fs_set_bt (fun t ht => by rw [hr]; omega) hu, b_and, b_not hu, fx_os_bt (by omega) hu, Bool.and_eq_true]
  constructor
  · rintro ⟨h1, h2⟩
    have hun := fp_lt_bt hc h1
    refine ⟨u, hun, h1, ?_, by rw [hr]⟩
    rw [hr]
    rw [decide_eq_true hun, Bool.true_and] at h2
    cases hb : bt fr (xD w 1 u).toNatClampNeg with
    | false => rfl
    | true => rw [show bt fr (w.1 13 u).toNatClampNeg = true from hb] at h2; cases h2
  · rintro ⟨t, ht, h1, h2, h3⟩
    rw [hr] at h2 h3
    subst h3
    exact ⟨h1, by rw [show bt fr (w.1 13 u).toNatClampNeg = false from h2, Bool.and_false]; rfl⟩
theorem fs_set_lt {D : Nat → Nat → Int32} {r fr cn : Int32} {n : Nat} (hn : n ≤ 20) (hon : ∀ t, t < n → fs_on D r t < n) : fp_lt n (fs_set D r fr cn n) := by
  intro u h1 h2
  cases h : bt (fs_set D r fr cn n) u with
  | false => rfl
  | true =>
    obtain ⟨t, ht, -, -, e⟩ := (fs_set_bt (fun t ht => by have := hon t ht; omega) h2).mp h
    have := hon t ht
    omega
theorem fs_on_e {D : Nat → Nat → Int32} {q : Nat} (h : q % 2 = 0) (hq : q ≤ 3) (t : Nat) : fs_on D (nI q) t = fp_top (D 3) t := if_pos (by rw [pk_rem (by omega) (by decide) (by decide), h]; rfl)
theorem fs_on_o {D : Nat → Nat → Int32} {q : Nat} (h : q % 2 = 1) (hq : q ≤ 3) (t : Nat) : fs_on D (nI q) t = t := if_neg (by rw [pk_rem (by omega) (by decide) (by decide), h]; decide)
theorem fx_hm (ht mv : Int32) : (ht &&& mv) ||| (ht &&& (mv ^^^ -1)) = ht := by
  apply b_ext
  intro i hi
  rw [b_or, b_and, b_and, b_not hi]
  cases bt ht i <;> cases bt mv i <;> rfl
theorem fs_cn_10 {q : Nat} {ht mv bl : Int32} (hq : q < 2) : fs_cn (nI q) 0 ht mv bl = ht &&& mv := by
  unfold fs_cn
  rw [if_neg (nI_ge hq (by decide)), if_pos rfl]
theorem fs_cn_11 {q : Nat} {z ht mv bl : Int32} (hq : q < 2) (hz : ¬ z = 0) : fs_cn (nI q) z ht mv bl = (ht &&& mv) ||| (ht &&& (mv ^^^ -1)) := by
  unfold fs_cn
  rw [if_neg (nI_ge hq (by decide)), if_neg hz, fx_hm]
theorem fs_cn_20 {q : Nat} {ht mv bl : Int32} (hq : 2 ≤ q) (h3 : q ≤ 3) : fs_cn (nI q) 0 ht mv bl = bl := by
  unfold fs_cn
  rw [if_pos (nI_le hq (by omega)), if_pos rfl]
theorem fs_cn_21 {q : Nat} {z ht mv bl : Int32} (hq : 2 ≤ q) (h3 : q ≤ 3) (hz : ¬ z = 0) : fs_cn (nI q) z ht mv bl = bl ||| (ht &&& (mv ^^^ -1)) := by
  unfold fs_cn
  rw [if_pos (nI_le hq (by omega)), if_neg hz]
theorem fs_cn_lt {nt : Nat} {r z ht mv bl : Int32} (h1 : fp_lt nt ht) (h2 : fp_lt nt bl) : fp_lt nt (fs_cn r z ht mv bl) := by
  unfold fs_cn
  split
  · split
    · exact h2
    · exact fp_lt_or h2 (fp_lt_and _ h1)
  · split
    · exact fp_lt_and _ h1
    · exact h1
theorem fx_fe {w : fb_Wd} {nt q : Nat} {fr cn : Int32} (hn : nt ≤ 20) (hD : fd_T (xD w) nt) (hT : xT w nt) (h : q % 2 = 0) (hq : q ≤ 3) : fx_wp (w.1 18) (fx_to (w.1 17) cn nt &&& (fx_os (w.1 13) fr nt ^^^ -1)) nt = fp_lft (xD w 3) (fs_set (xD w) (nI q) fr cn nt) nt := by
  rw [fx_set_e hn hT (fs_on_e h hq), fx_wp_eq hn hD hT (fs_set_lt hn (fun t ht => by rw [fs_on_e h hq]; have := fp_top_le (f := xD w 3) t; omega))]
theorem fx_fo {w : fb_Wd} {nt q : Nat} {fr cn : Int32} (hn : nt ≤ 20) (hD : fd_T (xD w) nt) (hT : xT w nt) (hc : fp_lt nt cn) (h : q % 2 = 1) (hq : q ≤ 3) : fx_wp (w.1 18) (cn &&& (fx_os (w.1 13) fr nt ^^^ -1)) nt = fp_lft (xD w 3) (fs_set (xD w) (nI q) fr cn nt) nt := by
  rw [fx_set_o hn hc (fs_on_o h hq), fx_wp_eq hn hD hT (fs_set_lt hn (fun t ht => by rw [fs_on_o h hq]; exact ht))]
theorem fs_bl_lt {w : fb_Wd} {nt d m : Nat} {so : Int32} (hA : fd_A (xD w) nt d m) (hn : nt ≤ 20) (hD : fd_T (xD w) nt) (hT : xT w nt) : fp_lt nt (fs_bl (xD w) nt d m so) := by
  rw [← fx_bl_eq hA hn hD]
  exact fv_lt (fp_lt_and _ (fs_lt hA hn so).2) hn (fun t ht u h1 h2 => by unfold fx_sb; rw [b_and, fs_mv_lt hA hn hD hT u h1 h2, Bool.and_false])
theorem c_X2_falls_0 {l : Launch} {w : fb_Wd} {P : Int32 → fb_Wd → Prop} {r nt nd nx ng : Nat} {z fr ht mv bl : Int32} (hX : XI w nt nd nx ng) (hr : r < 32) (h41 : w.1 41 r = mv) (h42 : w.1 42 r = ht) (h43 : w.1 43 r = bl) (hh : fp_lt nt ht) (hb : fp_lt nt bl) (hp : P (fp_lft (xD w 3) (fs_set (xD w) (nI 0) fr (fs_cn (nI 0) z ht mv bl) nt) nt) w) : fb_Can l tX2_falls [.ref 6, .int (nI r), .int (nI 0), .int z, .int (fx_os (w.1 13) fr nt)] w (fb_kI P) := by
  refine fb_intro 2 fk_t_X2_falls (by decide) rfl (fun X hX h => ?_)
  subst hX
  change fb_AW tX2_falls X 0 [some (.ref 6), some (.int (nI r)), some (.int (nI 0)), some (.int z), some (.int (fx_os (w.1 13) fr nt)), none, none] [] w
  have hn := hX.1.1.2
  have hnt : w.1 2 12 = nI nt := hX.1.1.1
  have hD := hX.2.1
  have hT := hX.2.2.2.1
  have hcn := fs_cn_lt (r := nI 0) (z := z) (mv := mv) (nt := nt) hh hb
  refine fw_iload_n h rfl rfl ?_
  refine fw_if_eq h rfl (fun _ => ?_) (fun c => absurd c (by decide))
  refine fw_iconst h (nI 1) rfl (by decide) ?_
  refine fw_goto h rfl ?_
  refine fw_istore h [_, _, _, _, _, _, _] rfl rfl rfl rfl ?_
  refine fw_iload h rfl rfl ?_
  refine fw_if_eq h rfl (fun c => absurd c (by decide)) (fun _ => ?_)
  refine fw_aload_n h rfl rfl ?_
  refine fw_getR _ h rfl fk_g_X2_15 rfl rfl ?_
  refine fw_iload_n h rfl rfl ?_
  refine fn_ialdF (w.1 42) h rfl rfl (rfl) (by omega) rfl ?_
  rw [h42]
  refine fw_aload_n h rfl rfl ?_
  refine fw_getR _ h rfl fk_g_X2_9 rfl rfl ?_
  refine fw_iload_n h rfl rfl ?_
  refine fn_ialdF (w.1 41) h rfl rfl (rfl) (by omega) rfl ?_
  rw [h41]
  refine fw_iand h rfl ?_
  refine fw_goto h rfl ?_
  refine fw_istore h [_, _, _, _, _, _, _] rfl rfl rfl rfl ?_
  skip
  · refine fw_iload_n h rfl rfl ?_
    refine fw_if_eq h rfl (fun c46 => ?_) (fun c46 => ?_)
    · have c46z := c46
      subst c46z
      · refine fw_iload_n h rfl rfl ?_
        refine fw_if_eq h rfl (fun _ => ?_) (fun c => absurd c (by decide))
        refine fw_aload_n h rfl rfl ?_
        refine fw_getR _ h rfl fk_g_X2_25 rfl rfl ?_
        refine fw_iload h rfl rfl ?_
        refine fw_v1I h rfl fk_v_X6_topsOf fk_l_X2_83 rfl rfl rfl rfl ?_
        refine c_X6_topsOf hnt hn ?_
        refine fw_istore h [_, _, _, _, _, _, _] rfl rfl rfl rfl ?_
        refine fw_aload_n h rfl rfl ?_
        refine fw_getR _ h rfl fk_g_X2_25 rfl rfl ?_
        refine fw_iload h rfl rfl ?_
        refine fw_iload h rfl rfl ?_
        refine fw_iconst h (-1) rfl (by decide) ?_
        refine fw_ixor h rfl ?_
        refine fw_iand h rfl ?_
        refine fw_v1I h rfl fk_v_X6_withoutPartsOf fk_l_X2_86 rfl rfl rfl rfl ?_
        refine c_X6_withoutPartsOf hnt hn ?_
        exact fw_iret h rfl rfl ⟨_, rfl, by
    have z2 := hp
    rw [fs_cn_10 (by decide)] at z2 hcn
    rw [fx_fe hn hD hT (q := 0) (by decide) (by decide)]; exact z2⟩
    · skip
      · refine fw_iload h rfl rfl ?_
        refine fw_aload_n h rfl rfl ?_
        refine fw_getR _ h rfl fk_g_X2_15 rfl rfl ?_
        refine fw_iload_n h rfl rfl ?_
        refine fn_ialdF (w.1 42) h rfl rfl (rfl) (by omega) rfl ?_
        rw [h42]
        refine fw_aload_n h rfl rfl ?_
        refine fw_getR _ h rfl fk_g_X2_9 rfl rfl ?_
        refine fw_iload_n h rfl rfl ?_
        refine fn_ialdF (w.1 41) h rfl rfl (rfl) (by omega) rfl ?_
        rw [h41]
        refine fw_iconst h (-1) rfl (by decide) ?_
        refine fw_ixor h rfl ?_
        refine fw_iand h rfl ?_
        refine fw_ior h rfl ?_
        refine fw_istore h [_, _, _, _, _, _, _] rfl rfl rfl rfl ?_
        refine fw_iload_n h rfl rfl ?_
        refine fw_if_eq h rfl (fun _ => ?_) (fun c => absurd c (by decide))
        refine fw_aload_n h rfl rfl ?_
        refine fw_getR _ h rfl fk_g_X2_25 rfl rfl ?_
        refine fw_iload h rfl rfl ?_
        refine fw_v1I h rfl fk_v_X6_topsOf fk_l_X2_83 rfl rfl rfl rfl ?_
        refine c_X6_topsOf hnt hn ?_
        refine fw_istore h [_, _, _, _, _, _, _] rfl rfl rfl rfl ?_
        refine fw_aload_n h rfl rfl ?_
        refine fw_getR _ h rfl fk_g_X2_25 rfl rfl ?_
        refine fw_iload h rfl rfl ?_
        refine fw_iload h rfl rfl ?_
        refine fw_iconst h (-1) rfl (by decide) ?_
        refine fw_ixor h rfl ?_
        refine fw_iand h rfl ?_
        refine fw_v1I h rfl fk_v_X6_withoutPartsOf fk_l_X2_86 rfl rfl rfl rfl ?_
        refine c_X6_withoutPartsOf hnt hn ?_
        exact fw_iret h rfl rfl ⟨_, rfl, by
    have z2 := hp
    rw [fs_cn_11 (by decide) c46] at z2 hcn
    rw [fx_fe hn hD hT (q := 0) (by decide) (by decide)]; exact z2⟩
theorem c_X2_falls_1 {l : Launch} {w : fb_Wd} {P : Int32 → fb_Wd → Prop} {r nt nd nx ng : Nat} {z fr ht mv bl : Int32} (hX : XI w nt nd nx ng) (hr : r < 32) (h41 : w.1 41 r = mv) (h42 : w.1 42 r = ht) (h43 : w.1 43 r = bl) (hh : fp_lt nt ht) (hb : fp_lt nt bl) (hp : P (fp_lft (xD w 3) (fs_set (xD w) (nI 1) fr (fs_cn (nI 1) z ht mv bl) nt) nt) w) : fb_Can l tX2_falls [.ref 6, .int (nI r), .int (nI 1), .int z, .int (fx_os (w.1 13) fr nt)] w (fb_kI P) := by
  refine fb_intro 2 fk_t_X2_falls (by decide) rfl (fun X hX h => ?_)
  subst hX
  change fb_AW tX2_falls X 0 [some (.ref 6), some (.int (nI r)), some (.int (nI 1)), some (.int z), some (.int (fx_os (w.1 13) fr nt)), none, none] [] w
  have hn := hX.1.1.2
  have hnt : w.1 2 12 = nI nt := hX.1.1.1
  have hD := hX.2.1
  have hT := hX.2.2.2.1
  have hcn := fs_cn_lt (r := nI 1) (z := z) (mv := mv) (nt := nt) hh hb
  refine fw_iload_n h rfl rfl ?_
  refine fw_if_eq h rfl (fun c => absurd c (by decide)) (fun _ => ?_)
  refine fw_iload_n h rfl rfl ?_
  refine fw_iconst h (nI 1) rfl (by decide) ?_
  refine fw_icmp_ne h rfl (fun c => absurd c (by decide)) (fun _ => ?_)
  refine fw_iconst h (nI 1) rfl (by decide) ?_
  refine fw_goto h rfl ?_
  refine fw_istore h [_, _, _, _, _, _, _] rfl rfl rfl rfl ?_
  refine fw_iload h rfl rfl ?_
  refine fw_if_eq h rfl (fun c => absurd c (by decide)) (fun _ => ?_)
  refine fw_aload_n h rfl rfl ?_
  refine fw_getR _ h rfl fk_g_X2_15 rfl rfl ?_
  refine fw_iload_n h rfl rfl ?_
  refine fn_ialdF (w.1 42) h rfl rfl (rfl) (by omega) rfl ?_
  rw [h42]
  refine fw_aload_n h rfl rfl ?_
  refine fw_getR _ h rfl fk_g_X2_9 rfl rfl ?_
  refine fw_iload_n h rfl rfl ?_
  refine fn_ialdF (w.1 41) h rfl rfl (rfl) (by omega) rfl ?_
  rw [h41]
  refine fw_iand h rfl ?_
  refine fw_goto h rfl ?_
  refine fw_istore h [_, _, _, _, _, _, _] rfl rfl rfl rfl ?_
  skip
  · refine fw_iload_n h rfl rfl ?_
    refine fw_if_eq h rfl (fun c46 => ?_) (fun c46 => ?_)
    · have c46z := c46
      subst c46z
      · refine fw_iload_n h rfl rfl ?_
        refine fw_if_eq h rfl (fun c => absurd c (by decide)) (fun _ => ?_)
        refine fw_iload_n h rfl rfl ?_
        refine fw_iconst h (nI 2) rfl (by decide) ?_
        refine fw_icmp_ne h rfl (fun _ => ?_) (fun c => absurd c (by decide))
        refine fw_aload_n h rfl rfl ?_
        refine fw_getR _ h rfl fk_g_X2_25 rfl rfl ?_
        refine fw_iload h rfl rfl ?_
        refine fw_iload h rfl rfl ?_
        refine fw_iconst h (-1) rfl (by decide) ?_
        refine fw_ixor h rfl ?_
        refine fw_iand h rfl ?_
        refine fw_v1I h rfl fk_v_X6_withoutPartsOf fk_l_X2_86 rfl rfl rfl rfl ?_
        refine c_X6_withoutPartsOf hnt hn ?_
        exact fw_iret h rfl rfl ⟨_, rfl, by
    have z2 := hp
    rw [fs_cn_10 (by decide)] at z2 hcn
    rw [fx_fo hn hD hT (q := 1) hcn (by decide) (by decide)]; exact z2⟩
    · skip
      · refine fw_iload h rfl rfl ?_
        refine fw_aload_n h rfl rfl ?_
        refine fw_getR _ h rfl fk_g_X2_15 rfl rfl ?_
        refine fw_iload_n h rfl rfl ?_
        refine fn_ialdF (w.1 42) h rfl rfl (rfl) (by omega) rfl ?_
        rw [h42]
        refine fw_aload_n h rfl rfl ?_
        refine fw_getR _ h rfl fk_g_X2_9 rfl rfl ?_
        refine fw_iload_n h rfl rfl ?_
        refine fn_ialdF (w.1 41) h rfl rfl (rfl) (by omega) rfl ?_
        rw [h41]
        refine fw_iconst h (-1) rfl (by decide) ?_
        refine fw_ixor h rfl ?_
        refine fw_iand h rfl ?_
        refine fw_ior h rfl ?_
        refine fw_istore h [_, _, _, _, _, _, _] rfl rfl rfl rfl ?_
        refine fw_iload_n h rfl rfl ?_
        refine fw_if_eq h rfl (fun c => absurd c (by decide)) (fun _ => ?_)
        refine fw_iload_n h rfl rfl ?_
        refine fw_iconst h (nI 2) rfl (by decide) ?_
        refine fw_icmp_ne h rfl (fun _ => ?_) (fun c => absurd c (by decide))
        refine fw_aload_n h rfl rfl ?_
        refine fw_getR _ h rfl fk_g_X2_25 rfl rfl ?_
        refine fw_iload h rfl rfl ?_
        refine fw_iload h rfl rfl ?_
        refine fw_iconst h (-1) rfl (by decide) ?_
        refine fw_ixor h rfl ?_
        refine fw_iand h rfl ?_
        refine fw_v1I h rfl fk_v_X6_withoutPartsOf fk_l_X2_86 rfl rfl rfl rfl ?_
        refine c_X6_withoutPartsOf hnt hn ?_
        exact fw_iret h rfl rfl ⟨_, rfl, by
    have z2 := hp
    rw [fs_cn_11 (by decide) c46] at z2 hcn
    rw [fx_fo hn hD hT (q := 1) hcn (by decide) (by decide)]; exact z2⟩
theorem c_X2_falls_2 {l : Launch} {w : fb_Wd} {P : Int32 → fb_Wd → Prop} {r nt nd nx ng : Nat} {z fr ht mv bl : Int32} (hX : XI w nt nd nx ng) (hr : r < 32) (h41 : w.1 41 r = mv) (h42 : w.1 42 r = ht) (h43 : w.1 43 r = bl) (hh : fp_lt nt ht) (hb : fp_lt nt bl) (hp : P (fp_lft (xD w 3) (fs_set (xD w) (nI 2) fr (fs_cn (nI 2) z ht mv bl) nt) nt) w) : fb_Can l tX2_falls [.ref 6, .int (nI r), .int (nI 2), .int z, .int (fx_os (w.1 13) fr nt)] w (fb_kI P) := by
  refine fb_intro 2 fk_t_X2_falls (by decide) rfl (fun X hX h => ?_)
  subst hX
  change fb_AW tX2_falls X 0 [some (.ref 6), some (.int (nI r)), some (.int (nI 2)), some (.int z), some (.int (fx_os (w.1 13) fr nt)), none, none] [] w
  have hn := hX.1.1.2
  have hnt : w.1 2 12 = nI nt := hX.1.1.1
  have hD := hX.2.1
  have hT := hX.2.2.2.1
  have hcn := fs_cn_lt (r := nI 2) (z := z) (mv := mv) (nt := nt) hh hb
  refine fw_iload_n h rfl rfl ?_
  refine fw_if_eq h rfl (fun c => absurd c (by decide)) (fun _ => ?_)
  refine fw_iload_n h rfl rfl ?_
  refine fw_iconst h (nI 1) rfl (by decide) ?_
  refine fw_icmp_ne h rfl (fun _ => ?_) (fun c => absurd c (by decide))
  refine fw_iconst h (nI 0) rfl (by decide) ?_
  refine fw_istore h [_, _, _, _, _, _, _] rfl rfl rfl rfl ?_
  refine fw_iload h rfl rfl ?_
  refine fw_if_eq h rfl (fun _ => ?_) (fun c => absurd c (by decide))
  refine fw_aload_n h rfl rfl ?_
  refine fw_getR _ h rfl fk_g_X2_18 rfl rfl ?_
  refine fw_iload_n h rfl rfl ?_
  refine fn_ialdF (w.1 43) h rfl rfl (rfl) (by omega) rfl ?_
  rw [h43]
  refine fw_istore h [_, _, _, _, _, _, _] rfl rfl rfl rfl ?_
  skip
  · refine fw_iload_n h rfl rfl ?_
    refine fw_if_eq h rfl (fun c46 => ?_) (fun c46 => ?_)
    · have c46z := c46
      subst c46z
      · refine fw_iload_n h rfl rfl ?_
        refine fw_if_eq h rfl (fun c => absurd c (by decide)) (fun _ => ?_)
        refine fw_iload_n h rfl rfl ?_
        refine fw_iconst h (nI 2) rfl (by decide) ?_
        refine fw_icmp_ne h rfl (fun c => absurd c (by decide)) (fun _ => ?_)
        refine fw_aload_n h rfl rfl ?_
        refine fw_getR _ h rfl fk_g_X2_25 rfl rfl ?_
        refine fw_iload h rfl rfl ?_
        refine fw_v1I h rfl fk_v_X6_topsOf fk_l_X2_83 rfl rfl rfl rfl ?_
        refine c_X6_topsOf hnt hn ?_
        refine fw_istore h [_, _, _, _, _, _, _] rfl rfl rfl rfl ?_
        refine fw_aload_n h rfl rfl ?_
        refine fw_getR _ h rfl fk_g_X2_25 rfl rfl ?_
        refine fw_iload h rfl rfl ?_
        refine fw_iload h rfl rfl ?_
        refine fw_iconst h (-1) rfl (by decide) ?_
        refine fw_ixor h rfl ?_
        refine fw_iand h rfl ?_
        refine fw_v1I h rfl fk_v_X6_withoutPartsOf fk_l_X2_86 rfl rfl rfl rfl ?_
        refine c_X6_withoutPartsOf hnt hn ?_
        exact fw_iret h rfl rfl ⟨_, rfl, by
    have z2 := hp
    rw [fs_cn_20 (by decide) (by decide)] at z2 hcn
    rw [fx_fe hn hD hT (q := 2) (by decide) (by decide)]; exact z2⟩
    · skip
      · refine fw_iload h rfl rfl ?_
        refine fw_aload_n h rfl rfl ?_
        refine fw_getR _ h rfl fk_g_X2_15 rfl rfl ?_
        refine fw_iload_n h rfl rfl ?_
        refine fn_ialdF (w.1 42) h rfl rfl (rfl) (by omega) rfl ?_
        rw [h42]
        refine fw_aload_n h rfl rfl ?_
        refine fw_getR _ h rfl fk_g_X2_9 rfl rfl ?_
        refine fw_iload_n h rfl rfl ?_
        refine fn_ialdF (w.1 41) h rfl rfl (rfl) (by omega) rfl ?_
        rw [h41]
        refine fw_iconst h (-1) rfl (by decide) ?_
        refine fw_ixor h rfl ?_
        refine fw_iand h rfl ?_
        refine fw_ior h rfl ?_
        refine fw_istore h [_, _, _, _, _, _, _] rfl rfl rfl rfl ?_
        refine fw_iload_n h rfl rfl ?_
        refine fw_if_eq h rfl (fun c => absurd c (by decide)) (fun _ => ?_)
        refine fw_iload_n h rfl rfl ?_
        refine fw_iconst h (nI 2) rfl (by decide) ?_
        refine fw_icmp_ne h rfl (fun c => absurd c (by decide)) (fun _ => ?_)
        refine fw_aload_n h rfl rfl ?_
        refine fw_getR _ h rfl fk_g_X2_25 rfl rfl ?_
        refine fw_iload h rfl rfl ?_
        refine fw_v1I h rfl fk_v_X6_topsOf fk_l_X2_83 rfl rfl rfl rfl ?_
        refine c_X6_topsOf hnt hn ?_
        refine fw_istore h [_, _, _, _, _, _, _] rfl rfl rfl rfl ?_
        refine fw_aload_n h rfl rfl ?_
        refine fw_getR _ h rfl fk_g_X2_25 rfl rfl ?_
        refine fw_iload h rfl rfl ?_
        refine fw_iload h rfl rfl ?_
        refine fw_iconst h (-1) rfl (by decide) ?_
        refine fw_ixor h rfl ?_
        refine fw_iand h rfl ?_
        refine fw_v1I h rfl fk_v_X6_withoutPartsOf fk_l_X2_86 rfl rfl rfl rfl ?_
        refine c_X6_withoutPartsOf hnt hn ?_
        exact fw_iret h rfl rfl ⟨_, rfl, by
    have z2 := hp
    rw [fs_cn_21 (by decide) (by decide) c46] at z2 hcn
    rw [fx_fe hn hD hT (q := 2) (by decide) (by decide)]; exact z2⟩
theorem c_X2_falls_3 {l : Launch} {w : fb_Wd} {P : Int32 → fb_Wd → Prop} {r nt nd nx ng : Nat} {z fr ht mv bl : Int32} (hX : XI w nt nd nx ng) (hr : r < 32) (h41 : w.1 41 r = mv) (h42 : w.1 42 r = ht) (h43 : w.1 43 r = bl) (hh : fp_lt nt ht) (hb : fp_lt nt bl) (hp : P (fp_lft (xD w 3) (fs_set (xD w) (nI 3) fr (fs_cn (nI 3) z ht mv bl) nt) nt) w) : fb_Can l tX2_falls [.ref 6, .int (nI r), .int (nI 3), .int z, .int (fx_os (w.1 13) fr nt)] w (fb_kI P) := by
  refine fb_intro 2 fk_t_X2_falls (by decide) rfl (fun X hX h => ?_)
  subst hX
  change fb_AW tX2_falls X 0 [some (.ref 6), some (.int (nI r)), some (.int (nI 3)), some (.int z), some (.int (fx_os (w.1 13) fr nt)), none, none] [] w
  have hn := hX.1.1.2
  have hnt : w.1 2 12 = nI nt := hX.1.1.1
  have hD := hX.2.1
  have hT := hX.2.2.2.1
  have hcn := fs_cn_lt (r := nI 3) (z := z) (mv := mv) (nt := nt) hh hb
  refine fw_iload_n h rfl rfl ?_
  refine fw_if_eq h rfl (fun c => absurd c (by decide)) (fun _ => ?_)
  refine fw_iload_n h rfl rfl ?_
  refine fw_iconst h (nI 1) rfl (by decide) ?_
  refine fw_icmp_ne h rfl (fun _ => ?_) (fun c => absurd c (by decide))
  refine fw_iconst h (nI 0) rfl (by decide) ?_
  refine fw_istore h [_, _, _, _, _, _, _] rfl rfl rfl rfl ?_
  refine fw_iload h rfl rfl ?_
  refine fw_if_eq h rfl (fun _ => ?_) (fun c => absurd c (by decide))
  refine fw_aload_n h rfl rfl ?_
  refine fw_getR _ h rfl fk_g_X2_18 rfl rfl ?_
  refine fw_iload_n h rfl rfl ?_
  refine fn_ialdF (w.1 43) h rfl rfl (rfl) (by omega) rfl ?_
  rw [h43]
  refine fw_istore h [_, _, _, _, _, _, _] rfl rfl rfl rfl ?_
  skip
  · refine fw_iload_n h rfl rfl ?_
    refine fw_if_eq h rfl (fun c46 => ?_) (fun c46 => ?_)
    · have c46z := c46
      subst c46z
      · refine fw_iload_n h rfl rfl ?_
        refine fw_if_eq h rfl (fun c => absurd c (by decide)) (fun _ => ?_)
        refine fw_iload_n h rfl rfl ?_
        refine fw_iconst h (nI 2) rfl (by decide) ?_
        refine fw_icmp_ne h rfl (fun _ => ?_) (fun c => absurd c (by decide))
        refine fw_aload_n h rfl rfl ?_
        refine fw_getR _ h rfl fk_g_X2_25 rfl rfl ?_
        refine fw_iload h rfl rfl ?_
        refine fw_iload h rfl rfl ?_
        refine fw_iconst h (-1) rfl (by decide) ?_
        refine fw_ixor h rfl ?_
        refine fw_iand h rfl ?_
        refine fw_v1I h rfl fk_v_X6_withoutPartsOf fk_l_X2_86 rfl rfl rfl rfl ?_
        refine c_X6_withoutPartsOf hnt hn ?_
        exact fw_iret h rfl rfl ⟨_, rfl, by
    have z2 := hp
    rw [fs_cn_20 (by decide) (by decide)] at z2 hcn
    rw [fx_fo hn hD hT (q := 3) hcn (by decide) (by decide)]; exact z2⟩
    · skip
      · refine fw_iload h rfl rfl ?_
        refine fw_aload_n h rfl rfl ?_
        refine fw_getR _ h rfl fk_g_X2_15 rfl rfl ?_
        refine fw_iload_n h rfl rfl ?_
        refine fn_ialdF (w.1 42) h rfl rfl (rfl) (by omega) rfl ?_
        rw [h42]
        refine fw_aload_n h rfl rfl ?_
        refine fw_getR _ h rfl fk_g_X2_9 rfl rfl ?_
        refine fw_iload_n h rfl rfl ?_
        refine fn_ialdF (w.1 41) h rfl rfl (rfl) (by omega) rfl ?_
        rw [h41]
        refine fw_iconst h (-1) rfl (by decide) ?_
        refine fw_ixor h rfl ?_
        refine fw_iand h rfl ?_
        refine fw_ior h rfl ?_
        refine fw_istore h [_, _, _, _, _, _, _] rfl rfl rfl rfl ?_
        refine fw_iload_n h rfl rfl ?_
        refine fw_if_eq h rfl (fun c => absurd c (by decide)) (fun _ => ?_)
        refine fw_iload_n h rfl rfl ?_
        refine fw_iconst h (nI 2) rfl (by decide) ?_
        refine fw_icmp_ne h rfl (fun _ => ?_) (fun c => absurd c (by decide))
        refine fw_aload_n h rfl rfl ?_
        refine fw_getR _ h rfl fk_g_X2_25 rfl rfl ?_
        refine fw_iload h rfl rfl ?_
        refine fw_iload h rfl rfl ?_
        refine fw_iconst h (-1) rfl (by decide) ?_
        refine fw_ixor h rfl ?_
        refine fw_iand h rfl ?_
        refine fw_v1I h rfl fk_v_X6_withoutPartsOf fk_l_X2_86 rfl rfl rfl rfl ?_
        refine c_X6_withoutPartsOf hnt hn ?_
        exact fw_iret h rfl rfl ⟨_, rfl, by
    have z2 := hp
    rw [fs_cn_21 (by decide) (by decide) c46] at z2 hcn
    rw [fx_fo hn hD hT (q := 3) hcn (by decide) (by decide)]; exact z2⟩
theorem c_X2_falls {l : Launch} {w : fb_Wd} {P : Int32 → fb_Wd → Prop} {r q nt nd nx ng d m : Nat} {z fr : Int32} (hX : XI w nt nd nx ng) (hA : fd_A (xD w) nt d m) (hr : r < 32) (h41 : w.1 41 r = fs_mv (xD w) nt d m (fs_so (xD w) d (nI r) m)) (h42 : w.1 42 r = fs_ht (xD w) d (fs_so (xD w) d (nI r) m) m) (h43 : w.1 43 r = fs_bl (xD w) nt d m (fs_so (xD w) d (nI r) m)) (hq : q ≤ 3) (hp : P (fs_sc (xD w) nt d m (nI q) z fr r) w) : fb_Can l tX2_falls [.ref 6, .int (nI r), .int (nI q), .int z, .int (fx_os (w.1 13) fr nt)] w (fb_kI P) := by
  have hn := hX.1.1.2
  have hh := (fs_lt hA hn (fs_so (xD w) d (nI r) m)).2
  have hb := fs_bl_lt (so := fs_so (xD w) d (nI r) m) hA hn hX.2.1 hX.2.2.2.1
  rcases (show q = 0 ∨ q = 1 ∨ q = 2 ∨ q = 3 by omega) with rfl | rfl | rfl | rfl
  · exact c_X2_falls_0 hX hr h41 h42 h43 hh hb hp
  · exact c_X2_falls_1 hX hr h41 h42 h43 hh hb hp
  · exact c_X2_falls_2 hX hr h41 h42 h43 hh hb hp
  · exact c_X2_falls_3 hX hr h41 h42 h43 hh hb hp
theorem c_X2_hear {l : Launch} {w : fb_Wd} {P : fb_Wd → Prop} {d f l0 m nt nd nx ng : Nat} (hX : XI w nt nd nx ng) (hdn : d < nd) (hA : fd_A (xD w) nt d m) (hk : w.1 26 d = nI (fp_dbt (xD w 12) d m)) (hl : l0 < 32) (hfl : f ≤ l0) (hp : ∀ w', xSL [6, 41, 42, 43] w w' → w'.1 6 5 = nI (2 ^ fp_dbt (xD w 12) d m) → (∀ r, f ≤ r → r ≤ l0 → (w'.1 41 r = fs_mv (xD w) nt d m (fs_so (xD w) d (nI r) m) ∧ w'.1 42 r = fs_ht (xD w) d (fs_so (xD w) d (nI r) m) m ∧ w'.1 43 r = fs_bl (xD w) nt d m (fs_so (xD w) d (nI r) m))) → P w') : fb_Can l tX2_hear [.ref 6, .int (nI d), .int (nI f), .int (nI l0)] w (fb_kV P) := by
  refine fb_intro 2 fk_t_X2_hear (by decide) rfl (fun X hX h => ?_)
  subst hX
  change fb_AW tX2_hear X 0 [some (.ref 6), some (.int (nI d)), some (.int (nI f)), some (.int (nI l0)), none, none] [] w
  have hnd := hX.1.2.1.2
  refine fw_aload_n h rfl rfl ?_
  refine fw_aload_n h rfl rfl ?_
  refine fw_getR _ h rfl fk_g_X2_29 rfl rfl ?_
  refine fw_iload_n h rfl rfl ?_
  refine fw_v1I h rfl fk_v_X0_readings fk_l_X2_33 rfl rfl rfl rfl ?_
  refine c_X0_readings (by omega) hk (by have := fp_dbt_le (xD w 12) d m; have := hA.2.1; omega) ?_
  refine fw_putI h rfl fk_p_X2_21 rfl rfl ?_
  refine fw_iload_n h rfl rfl ?_
  refine fw_istore h [_, _, _, _, _, _] rfl rfl rfl rfl ?_
  refine (?_ : ∀ w1, xSL [6, 41, 42, 43] w w1 → w1.1 6 5 = nI (2 ^ fp_dbt (xD w 12) d m) → (∀ r, f ≤ r → r < f → (w1.1 41 r = fs_mv (xD w) nt d m (fs_so (xD w) d (nI r) m) ∧ w1.1 42 r = fs_ht (xD w) d (fs_so (xD w) d (nI r) m) m ∧ w1.1 43 r = fs_bl (xD w) nt d m (fs_so (xD w) d (nI r) m))) → fb_AW tX2_hear X 15 [some (.ref 6), some (.int (nI d)), some (.int (nI f)), some (.int (nI l0)), some (.int (nI f)), none] [] w1) _ ((xSL.rf _ w).up 5 _ (by decide)) (by simp [fb_up]) (fun r h1 h2 => by omega)
  refine fb_loop (fun i => ∀ w1, xSL [6, 41, 42, 43] w w1 → w1.1 6 5 = nI (2 ^ fp_dbt (xD w 12) d m) → (∀ r, f ≤ r → r < i → (w1.1 41 r = fs_mv (xD w) nt d m (fs_so (xD w) d (nI r) m) ∧ w1.1 42 r = fs_ht (xD w) d (fs_so (xD w) d (nI r) m) m ∧ w1.1 43 r = fs_bl (xD w) nt d m (fs_so (xD w) d (nI r) m))) → fb_AW tX2_hear X 15 [some (.ref 6), some (.int (nI d)), some (.int (nI f)), some (.int (nI l0)), some (.int (nI i)), none] [] w1) (l0 + 1) ?_ (fun i hi ih => ?_) f (by omega)
  · intro w1 hs h5 hF
    have eD : xD w1 = xD w := hs.eD (by decide)
    have hX1 := hs.keep (by decide) hX
    have hA1 : fd_A (xD w1) nt d m := by rw [eD]; exact hA
    refine fw_iload h rfl rfl ?_
    refine fw_iload_n h rfl rfl ?_
    refine fw_icmp_gt h rfl (fun c18 => ?_) (fun c18 => False.elim (c18 (nI_lt (by omega) (by omega))))
    exact fw_vret h rfl rfl ⟨rfl, hp w1 hs h5 (fun r h1 h2 => hF r h1 (by omega))⟩
  · intro w1 hs h5 hF
    have eD : xD w1 = xD w := hs.eD (by decide)
    have hX1 := hs.keep (by decide) hX
    have hA1 : fd_A (xD w1) nt d m := by rw [eD]; exact hA
    refine fw_iload h rfl rfl ?_
    refine fw_iload_n h rfl rfl ?_
    refine fw_icmp_gt h rfl (fun c18 => False.elim (absurd c18 (nI_nlt (by omega) (by omega)))) (fun c18 => ?_)
    refine fw_aload_n h rfl rfl ?_
    refine fw_getR _ h rfl fk_g_X2_29 rfl rfl ?_
    refine fw_iload_n h rfl rfl ?_
    refine fw_iload h rfl rfl ?_
    refine fw_v2I h rfl fk_v_X0_actsThatWereSo fk_l_X2_38 rfl rfl rfl rfl ?_
    refine c_X0_actsThatWereSo (by omega) hA1.1 hA1.2.1 ?_
    rw [eD]
    refine fw_istore h [_, _, _, _, _, _] rfl rfl rfl rfl ?_
    refine fw_aload_n h rfl rfl ?_
    refine fw_getR _ h rfl fk_g_X2_9 rfl rfl ?_
    refine fw_iload h rfl rfl ?_
    refine fw_aload_n h rfl rfl ?_
    refine fw_iload_n h rfl rfl ?_
    refine fw_iload h rfl rfl ?_
    refine fw_v2I h rfl fk_v_X2_whatMoves fk_l_X2_42 rfl rfl rfl rfl ?_
    refine c_X2_whatMoves hX1 hdn hA1 ?_
    rw [eD]
    refine fn_iast h rfl rfl (by omega) rfl ?_
    refine fw_aload_n h rfl rfl ?_
    refine fw_getR _ h rfl fk_g_X2_15 rfl rfl ?_
    refine fw_iload h rfl rfl ?_
    refine fw_aload_n h rfl rfl ?_
    refine fw_getR _ h rfl fk_g_X2_29 rfl rfl ?_
    refine fw_iload_n h rfl rfl ?_
    refine fw_iload h rfl rfl ?_
    refine fw_v2I h rfl fk_v_X0_hit fk_l_X2_45 rfl rfl rfl rfl ?_
    have hs2 : xSL [6, 41, 42, 43] w (fb_up w1 41 i (fs_mv (xD w) nt d m (fs_so (xD w) d (nI i) m))) := hs.up i _ (by decide)
    have eD2 : xD (fb_up w1 41 i (fs_mv (xD w) nt d m (fs_so (xD w) d (nI i) m))) = xD w := hs2.eD (by decide)
    have hX2 := hs2.keep (by decide) hX
    have hA2 : fd_A (xD (fb_up w1 41 i (fs_mv (xD w) nt d m (fs_so (xD w) d (nI i) m)))) nt d m := by rw [eD2]; exact hA
    refine c_X0_hit hA2 hX.1.1.2 (by omega) ?_
    rw [eD2]
    refine fn_iast h rfl rfl (by omega) rfl ?_
    refine fw_aload_n h rfl rfl ?_
    refine fw_getR _ h rfl fk_g_X2_18 rfl rfl ?_
    refine fw_iload h rfl rfl ?_
    refine fw_aload_n h rfl rfl ?_
    refine fw_iload_n h rfl rfl ?_
    refine fw_iload h rfl rfl ?_
    refine fw_aload_n h rfl rfl ?_
    refine fw_getR _ h rfl fk_g_X2_9 rfl rfl ?_
    refine fw_iload h rfl rfl ?_
    refine fn_iald h rfl rfl (by omega) rfl ?_
    refine fw_aload_n h rfl rfl ?_
    refine fw_getR _ h rfl fk_g_X2_15 rfl rfl ?_
    refine fw_iload h rfl rfl ?_
    refine fn_iald h rfl rfl (by omega) rfl ?_
    refine fw_v4I h rfl fk_v_X2_whatIsToBlame fk_l_X2_47 rfl rfl rfl rfl ?_
    have hs3 : xSL [6, 41, 42, 43] w (fb_up (fb_up w1 41 i (fs_mv (xD w) nt d m (fs_so (xD w) d (nI i) m))) 42 i (fs_ht (xD w) d (fs_so (xD w) d (nI i) m) m)) := hs2.up i _ (by decide)
    have eD3 : xD (fb_up (fb_up w1 41 i (fs_mv (xD w) nt d m (fs_so (xD w) d (nI i) m))) 42 i (fs_ht (xD w) d (fs_so (xD w) d (nI i) m) m)) = xD w := hs3.eD (by decide)
    have hX3 := hs3.keep (by decide) hX
    have hA3 : fd_A (xD (fb_up (fb_up w1 41 i (fs_mv (xD w) nt d m (fs_so (xD w) d (nI i) m))) 42 i (fs_ht (xD w) d (fs_so (xD w) d (nI i) m) m))) nt d m := by rw [eD3]; exact hA
    refine c_X2_whatIsToBlame (w := (fb_up (fb_up w1 41 i (fs_mv (xD w) nt d m (fs_so (xD w) d (nI i) m))) 42 i (fs_ht (xD w) d (fs_so (xD w) d (nI i) m) m))) hX3 hdn hA3 (by rw [eD3]; simp [fb_up]) (by rw [eD3]; simp [fb_up]) ?_
    rw [eD3]
    refine fn_iast h rfl rfl (by omega) rfl ?_
    first | refine fn_iinc h [_, _, _, _, _, _] rfl rfl rfl rfl rfl ?_ | refine fw_iinc h 1 [_, _, _, _, _, _] rfl (by decide) rfl rfl rfl rfl ?_
    refine fw_goto h rfl ?_
    refine fw_sub (fb_pad_c (Or.inr rfl) (fb_pad_c (Or.inr rfl) (fb_pad_c (Or.inr rfl) (fb_pad_c (Or.inr rfl) (fb_pad_c (Or.inr rfl) (fb_pad_c (Or.inl rfl) (fb_pad_n))))))) (ih _ (hs3.up i _ (by decide)) (by rw [← h5]; simp [fb_up]) (fun r h1 h2 => ?_))
    by_cases e : r = i
    · subst e
      refine ⟨?_, ?_, ?_⟩ <;> simp [fb_up]
    · have z := hF r h1 (by omega)
      refine ⟨?_, ?_, ?_⟩
      · rw [← z.1]; simp [fb_up, e]
      · rw [← z.2.1]; simp [fb_up, e]
      · rw [← z.2.2]; simp [fb_up, e]
