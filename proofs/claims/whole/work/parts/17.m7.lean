theorem fp_top_le {f : Nat → Int32} : ∀ t, fp_top f t ≤ t := by
  intro t
  induction t using Nat.strongRecOn with
  | ind t IH =>
    rw [fp_top]
    split
    · rename_i h
      have := IH _ h.2
      omega
    · exact Nat.le_refl _
def fp_anc (f : Nat → Int32) (s : Int32) (t : Nat) : Bool := if h : f t ≠ -9 ∧ (f t).toNatClampNeg < t then bt s (f t).toNatClampNeg || fp_anc f s (f t).toNatClampNeg else false
termination_by t
decreasing_by exact h.2
theorem fp_anc_0 {f : Nat → Int32} {s : Int32} {t : Nat} (h : f t = -9) : fp_anc f s t = false := by rw [fp_anc, dif_neg (fun q => q.1 h)]
theorem fp_anc_s {f : Nat → Int32} {s : Int32} {t u : Nat} (h : f t = nI u) (hu : u < t) (ht : t < 2 ^ 31) : fp_anc f s t = (bt s u || fp_anc f s u) := by
  rw [fp_anc, dif_pos ⟨by rw [h]; exact nI_ne9 (by omega), by rw [h, nI_clamp (by omega)]; exact hu⟩, h, nI_clamp (by omega)]
def fp_lft (f : Nat → Int32) (s : Int32) : Nat → Int32
  | 0 => s
  | n + 1 => if fp_anc f s n = true then fp_lft f s n &&& ((nI 1 <<< (nI n &&& 31)) ^^^ -1) else fp_lft f s n
theorem fp_msk {k i : Nat} (hk : k < 32) (hi : i < 32) : bt ((nI 1 <<< (nI k &&& 31)) ^^^ -1) i = !decide (i = k) := by
  rw [b_xor, b_m1 i hi, fp_b1 k hk i hi]; simp
theorem fp_lft_bt {f : Nat → Int32} {s : Int32} : ∀ {n : Nat}, n ≤ 32 → ∀ i, i < 32 → bt (fp_lft f s n) i = (bt s i && !(decide (i < n) && fp_anc f s i))
  | 0, _, i, _ => by simp [fp_lft]
  | n + 1, hn, i, hi => by
    have ih := fp_lft_bt (f := f) (s := s) (n := n) (by omega) i hi
    rw [fp_lft]
    by_cases e : i = n
    · subst e
      cases ha : fp_anc f s i
      · simp [ih]
      · rw [if_pos rfl, b_and, fp_msk hi hi]; simp
    · have hd : decide (i < n + 1) = decide (i < n) := decide_eq_decide.mpr (by omega)
      rw [hd]
      split
      · rw [b_and, fp_msk (by omega) hi, ih]; simp [e]
      · exact ih
theorem fp_and_m1 (x : Int32) : x &&& (-1) = x := by
  apply b_ext
  intro i hi
  rw [b_and, b_m1 i hi, Bool.and_true]
theorem fp_and_id (x y : Int32) : (x &&& y) &&& y = x &&& y := by
  apply b_ext
  intro i hi
  rw [b_and, b_and]
  cases bt x i <;> cases bt y i <;> rfl
def fs_on (D : Nat → Nat → Int32) (r : Int32) (t : Nat) : Nat := if r - r / nI 2 * nI 2 = 0 then fp_top (D 3) t else t
def fs_set (D : Nat → Nat → Int32) (r fr cn : Int32) (n : Nat) : Int32 := fp_orF (fun t => if bt cn t = true ∧ bt fr (D 1 (fs_on D r t)).toNatClampNeg = false then nI 1 <<< (nI (fs_on D r t) &&& 31) else nI 0) n
theorem fs_set_1 {D : Nat → Nat → Int32} {r fr cn : Int32} {i o s : Nat} (ho : fs_on D r i = o) (h1 : bt cn i = true) (es : D 1 o = nI s) (hs : s < 10) (h2 : bt fr s = false) : fs_set D r fr cn (i + 1) = fs_set D r fr cn i ||| nI 1 <<< (nI o &&& 31) := by
  show fp_orF _ i ||| (if _ then _ else _) = _
  rw [if_pos ⟨h1, by rw [ho, es, nI_clamp (by omega)]; exact h2⟩, ho]; rfl
theorem fs_set_0 {D : Nat → Nat → Int32} {r fr cn : Int32} {i : Nat} (h : ¬ (bt cn i = true ∧ bt fr (D 1 (fs_on D r i)).toNatClampNeg = false)) : fs_set D r fr cn (i + 1) = fs_set D r fr cn i ||| nI 0 := by
  show fp_orF _ i ||| (if _ then _ else _) = _
  rw [if_neg h]; rfl
theorem fs_set_0b {D : Nat → Nat → Int32} {r fr cn : Int32} {i o s : Nat} (ho : fs_on D r i = o) (es : D 1 o = nI s) (hs : s < 10) (h2 : bt fr s = true) : fs_set D r fr cn (i + 1) = fs_set D r fr cn i ||| nI 0 := fs_set_0 (fun q => by
  have := q.2
  rw [ho, es, nI_clamp (by omega), h2] at this
  cases this)
def fs_cn (r st ht mv bl : Int32) : Int32 := if nI 2 ≤ r then (if st = 0 then bl else bl ||| (ht &&& (mv ^^^ -1))) else (if st = 0 then ht &&& mv else ht)
theorem lp_ff_0 {X : fb_Cx} {w : fb_Wd} {P : Int32 → fb_Wd → Prop} {d x i : Nat} {rd st rr cn set : Int32} {lf : Int32} (h : fb_Ok tX8_forfeitOf X (fb_kI P)) (ih : fb_AW tX8_forfeitOf X 178 [some (.ref 46), some (.int (nI d)), some (.int rd), some (.int (nI x)), some (.int st), some (.int rr), some (.int cn), some (.int set), some (.int (lf)), some (.int (nI (i + 1))), none] [] w) : fb_AW tX8_forfeitOf X 196 [some (.ref 46), some (.int (nI d)), some (.int rd), some (.int (nI x)), some (.int st), some (.int rr), some (.int cn), some (.int set), some (.int (lf)), some (.int (nI i)), some (.int (-9))] [] w := by
  refine fw_iload h rfl rfl ?_
  refine fw_bipush h (-9) rfl (by decide) ?_
  refine fw_icmp_eq h rfl (fun c200 => ?_) (fun c200 => False.elim (c200 rfl))
  first | refine fn_iinc h [_, _, _, _, _, _, _, _, _, _, _] rfl rfl rfl rfl rfl ?_ | refine fw_iinc h 1 [_, _, _, _, _, _, _, _, _, _, _] rfl (by decide) rfl rfl rfl rfl ?_
  refine fw_goto h rfl ?_
  exact fw_sub (fb_pad_c (Or.inr rfl) (fb_pad_c (Or.inr rfl) (fb_pad_c (Or.inr rfl) (fb_pad_c (Or.inr rfl) (fb_pad_c (Or.inr rfl) (fb_pad_c (Or.inr rfl) (fb_pad_c (Or.inr rfl) (fb_pad_c (Or.inr rfl) (fb_pad_c (Or.inr rfl) (fb_pad_c (Or.inr rfl) (fb_pad_c (Or.inl rfl) (fb_pad_n)))))))))))) ih
theorem lp_ff_in {X : fb_Cx} {w : fb_Wd} {P : Int32 → fb_Wd → Prop} {d x i nt : Nat} {rd st rr cn set : Int32} (h : fb_Ok tX8_forfeitOf X (fb_kI P)) (hn : nt ≤ 20) (hwh : fp_wh nt (w.1 54)) (hi : i < 20) : ∀ v, v < nt → ∀ lf, fb_AW tX8_forfeitOf X 178 [some (.ref 46), some (.int (nI d)), some (.int rd), some (.int (nI x)), some (.int st), some (.int rr), some (.int cn), some (.int set), some (.int (if (bt set v || fp_anc (w.1 54) set v) = true then lf &&& ((nI 1 <<< (nI i &&& 31)) ^^^ -1) else lf)), some (.int (nI (i + 1))), none] [] w → fb_AW tX8_forfeitOf X 196 [some (.ref 46), some (.int (nI d)), some (.int rd), some (.int (nI x)), some (.int st), some (.int rr), some (.int cn), some (.int set), some (.int (lf)), some (.int (nI i)), some (.int (nI v))] [] w := by
  intro v
  induction v using Nat.strongRecOn with
  | ind v IH =>
    intro hv lf ih
    refine fw_iload h rfl rfl ?_
    refine fw_bipush h (-9) rfl (by decide) ?_
    refine fw_icmp_eq h rfl (fun c200 => False.elim (nI_ne9 (n := v) (by omega) c200)) (fun c200 => ?_)
    refine fw_iload h rfl rfl ?_
    refine fw_iload h rfl rfl ?_
    refine fw_iload h rfl rfl ?_
    refine fw_s2I h rfl fk_s_X8_has fk_l_X8_185 rfl rfl ?_
    refine c_X8_hasN rfl (by omega) (fun c209 => ?_) (fun c209 => ?_)
    · refine fw_if_eq h rfl (fun c => absurd c (by decide)) (fun _ => ?_)
      refine fw_iconst h (nI 1) rfl (by decide) ?_
      refine fw_iload h rfl rfl ?_
      refine fw_ishl h rfl ?_
      refine fw_iconst h (-1) rfl (by decide) ?_
      refine fw_ixor h rfl ?_
      refine fw_goto h rfl ?_
      refine fw_iand h rfl ?_
      refine fw_istore h [_, _, _, _, _, _, _, _, _, _, _] rfl rfl rfl rfl ?_
      refine fw_aload_n h rfl rfl ?_
      refine fw_getR _ h rfl fk_g_X8_35 rfl rfl ?_
      refine fw_iload h rfl rfl ?_
      refine fn_ialdF (w.1 54) h rfl rfl (rfl) (by omega) rfl ?_
      rcases hwh v hv with e | ⟨q, hq, e⟩
      · rw [show w.1 54 v = -9 from e]
        refine fw_istore h [_, _, _, _, _, _, _, _, _, _, _] rfl rfl rfl rfl ?_
        refine fw_goto h rfl ?_
        refine lp_ff_0 h ?_
        have ea := fp_anc_0 (s := set) e
        first
          | (rw [fp_and_m1]; simp only [c209, ea, Bool.or_false, Bool.false_eq_true, if_false] at ih; exact ih)
          | (simp only [c209, Bool.true_or, if_true] at ih; exact ih)
      · rw [show w.1 54 v = nI q from e]
        refine fw_istore h [_, _, _, _, _, _, _, _, _, _, _] rfl rfl rfl rfl ?_
        refine fw_goto h rfl ?_
        have ea := fp_anc_s (s := set) e hq (by omega)
        refine IH q hq (by omega) _ ?_
        first
          | (rw [fp_and_m1]; simp only [c209, ea, Bool.false_or] at ih; exact ih)
          | (simp only [c209, Bool.true_or, if_true] at ih; rw [fp_and_id, ite_self]; exact ih)
    · refine fw_if_eq h rfl (fun _ => ?_) (fun c => absurd c (by decide))
      refine fw_iconst h (-1) rfl (by decide) ?_
      refine fw_iand h rfl ?_
      refine fw_istore h [_, _, _, _, _, _, _, _, _, _, _] rfl rfl rfl rfl ?_
      refine fw_aload_n h rfl rfl ?_
      refine fw_getR _ h rfl fk_g_X8_35 rfl rfl ?_
      refine fw_iload h rfl rfl ?_
      refine fn_ialdF (w.1 54) h rfl rfl (rfl) (by omega) rfl ?_
      rcases hwh v hv with e | ⟨q, hq, e⟩
      · rw [show w.1 54 v = -9 from e]
        refine fw_istore h [_, _, _, _, _, _, _, _, _, _, _] rfl rfl rfl rfl ?_
        refine fw_goto h rfl ?_
        refine lp_ff_0 h ?_
        have ea := fp_anc_0 (s := set) e
        first
          | (rw [fp_and_m1]; simp only [c209, ea, Bool.or_false, Bool.false_eq_true, if_false] at ih; exact ih)
          | (simp only [c209, Bool.true_or, if_true] at ih; exact ih)
      · rw [show w.1 54 v = nI q from e]
        refine fw_istore h [_, _, _, _, _, _, _, _, _, _, _] rfl rfl rfl rfl ?_
        refine fw_goto h rfl ?_
        have ea := fp_anc_s (s := set) e hq (by omega)
        refine IH q hq (by omega) _ ?_
        first
          | (rw [fp_and_m1]; simp only [c209, ea, Bool.false_or] at ih; exact ih)
          | (simp only [c209, Bool.true_or, if_true] at ih; rw [fp_and_id, ite_self]; exact ih)
theorem lp_ff_s {X : fb_Cx} {w : fb_Wd} {d x i : Nat} {rd st rr cn : Int32} {y : Int32} {l9 : Option Value} (e1 : fs_set (mD w) rr (w.1 67 x) cn (i + 1) = y) (ih : fb_AW tX8_forfeitOf X 94 [some (.ref 46), some (.int (nI d)), some (.int rd), some (.int (nI x)), some (.int st), some (.int rr), some (.int cn), some (.int (fs_set (mD w) rr (w.1 67 x) cn (i + 1))), some (.int (nI (i + 1))), none, none] [] w) : fb_AW tX8_forfeitOf X 94 [some (.ref 46), some (.int (nI d)), some (.int rd), some (.int (nI x)), some (.int st), some (.int rr), some (.int cn), some (.int y), some (.int (nI (i + 1))), l9, none] [] w := by
  subst e1
  exact fw_sub (fb_pad_c (Or.inr rfl) (fb_pad_c (Or.inr rfl) (fb_pad_c (Or.inr rfl) (fb_pad_c (Or.inr rfl) (fb_pad_c (Or.inr rfl) (fb_pad_c (Or.inr rfl) (fb_pad_c (Or.inr rfl) (fb_pad_c (Or.inr rfl) (fb_pad_c (Or.inr rfl) (fb_pad_c (Or.inl rfl) (fb_pad_c (Or.inr rfl) (fb_pad_n)))))))))))) ih
theorem lp_ff {X : fb_Cx} {w : fb_Wd} {P : Int32 → fb_Wd → Prop} {d x nt : Nat} {rd st rr cn : Int32} {nd nx ng : Nat} (h : fb_Ok tX8_forfeitOf X (fb_kI P)) (hN : fd_N (mD w) nt nd nx ng) (hT : fd_T (mD w) nt) (hx : x < 9) (hp : P (fp_lft (mD w 3) (fs_set (mD w) rr (w.1 67 x) cn nt) nt) w) : fb_AW tX8_forfeitOf X 86 [some (.ref 46), some (.int (nI d)), some (.int rd), some (.int (nI x)), some (.int st), some (.int rr), none, none, none, none, none] [.int cn] w := by
  have hnt := hN.1.2
  have hwh : fp_wh nt (w.1 54) := fd_wh hT
  refine fw_istore h [_, _, _, _, _, _, _, _, _, _, _] rfl rfl rfl rfl ?_
  refine fw_iconst h (nI 0) rfl (by decide) ?_
  refine fw_istore h [_, _, _, _, _, _, _, _, _, _, _] rfl rfl rfl rfl ?_
  refine fw_iconst h (nI 0) rfl (by decide) ?_
  refine fw_istore h [_, _, _, _, _, _, _, _, _, _, _] rfl rfl rfl rfl ?_
  refine fb_loop (fun i => fb_AW tX8_forfeitOf X 94 [some (.ref 46), some (.int (nI d)), some (.int rd), some (.int (nI x)), some (.int st), some (.int rr), some (.int cn), some (.int (fs_set (mD w) rr (w.1 67 x) cn i)), some (.int (nI i)), none, none] [] w) (nt) ?_ (fun i hi ih => ?_) 0 (Nat.zero_le _)
  · refine fw_iload h rfl rfl ?_
    refine fw_aload_n h rfl rfl ?_
    refine fw_getI h rfl fk_g_X8_124 rfl rfl ?_
    refine fw_icmp_ge h rfl (fun c100 => ?_) (fun c100 => False.elim (c100 (by rw [show w.1 46 8 = nI nt from hN.1.1]; exact Int32.le_refl _)))
    refine fw_iload h rfl rfl ?_
    refine fw_istore h [_, _, _, _, _, _, _, _, _, _, _] rfl rfl rfl rfl ?_
    refine fw_iconst h (nI 0) rfl (by decide) ?_
    refine fw_istore h [_, _, _, _, _, _, _, _, _, _, _] rfl rfl rfl rfl ?_
    generalize fs_set (mD w) rr (w.1 67 x) cn nt = set at hp ⊢
    refine fb_loop (fun i => fb_AW tX8_forfeitOf X 178 [some (.ref 46), some (.int (nI d)), some (.int rd), some (.int (nI x)), some (.int st), some (.int rr), some (.int cn), some (.int set), some (.int (fp_lft (w.1 54) set i)), some (.int (nI i)), none] [] w) (nt) ?_ (fun i hi ih => ?_) 0 (Nat.zero_le _)
    · refine fw_iload h rfl rfl ?_
      refine fw_aload_n h rfl rfl ?_
      refine fw_getI h rfl fk_g_X8_124 rfl rfl ?_
      refine fw_icmp_ge h rfl (fun c184 => ?_) (fun c184 => False.elim (c184 (by rw [show w.1 46 8 = nI nt from hN.1.1]; exact Int32.le_refl _)))
      refine fw_iload h rfl rfl ?_
      exact fw_iret h rfl rfl ⟨_, rfl, hp⟩
    · refine fw_iload h rfl rfl ?_
      refine fw_aload_n h rfl rfl ?_
      refine fw_getIv (w.1 46 8) h rfl fk_g_X8_124 rfl rfl (rfl) ?_
      refine fw_icmp_ge h rfl (fun c184 => False.elim (nI_ge hi (by omega) (by rw [← show w.1 46 8 = nI nt from hN.1.1]; exact c184))) (fun c184 => ?_)
      refine fw_aload_n h rfl rfl ?_
      refine fw_getR _ h rfl fk_g_X8_35 rfl rfl ?_
      refine fw_iload h rfl rfl ?_
      refine fn_ialdF (w.1 54) h rfl rfl (rfl) (by omega) rfl ?_
      rcases hwh i hi with e | ⟨q, hq, e⟩
      · rw [show w.1 54 i = -9 from e]
        refine fw_istore h [_, _, _, _, _, _, _, _, _, _, _] rfl rfl rfl rfl ?_
        refine lp_ff_0 h ?_
        simp only [fp_lft, fp_anc_0 e, Bool.false_eq_true, if_false] at ih
        exact ih
      · rw [show w.1 54 i = nI q from e]
        refine fw_istore h [_, _, _, _, _, _, _, _, _, _, _] rfl rfl rfl rfl ?_
        refine lp_ff_in h hnt hwh (by omega) q (by omega) _ ?_
        simp only [fp_lft, fp_anc_s e hq (show i < 2 ^ 31 by omega)] at ih
        exact ih
  · refine fw_iload h rfl rfl ?_
    refine fw_aload_n h rfl rfl ?_
    refine fw_getIv (w.1 46 8) h rfl fk_g_X8_124 rfl rfl (rfl) ?_
    refine fw_icmp_ge h rfl (fun c100 => False.elim (nI_ge hi (by omega) (by rw [← show w.1 46 8 = nI nt from hN.1.1]; exact c100))) (fun c100 => ?_)
    have hto := fp_top_le (f := w.1 54) i
    refine fw_iload h rfl rfl ?_
    refine fw_iconst h (nI 2) rfl (by decide) ?_
    refine fw_irem h rfl (by decide) ?_
    refine fw_if_ne h rfl (fun c107 => ?_) (fun c107 => ?_)
    · obtain ⟨s, hs, es⟩ := (hT i hi).2.1
      have ho : fs_on (mD w) rr i = i := if_neg c107
      refine fw_iload h rfl rfl ?_
      refine fw_istore h [_, _, _, _, _, _, _, _, _, _, _] rfl rfl rfl rfl ?_
      refine fw_iload h rfl rfl ?_
      refine fw_iload h rfl rfl ?_
      refine fw_iload h rfl rfl ?_
      refine fw_s2I h rfl fk_s_X8_has fk_l_X8_185 rfl rfl ?_
      refine c_X8_hasN rfl (by omega) (fun c129 => ?_) (fun c129 => ?_)
      · refine fw_if_eq h rfl (fun c => absurd c (by decide)) (fun _ => ?_)
        refine fw_aload_n h rfl rfl ?_
        refine fw_getR _ h rfl fk_g_X8_75 rfl rfl ?_
        refine fw_iload_n h rfl rfl ?_
        refine fn_ialdF (w.1 67) h rfl rfl (rfl) (by omega) rfl ?_
        refine fw_aload_n h rfl rfl ?_
        refine fw_getR _ h rfl fk_g_X8_29 rfl rfl ?_
        refine fw_iload h rfl rfl ?_
        refine fn_ialdF (w.1 52) h rfl rfl (rfl) (by omega) rfl ?_
        refine fw_s2I h rfl fk_s_X8_has fk_l_X8_185 rfl rfl ?_
        refine c_X8_hasN es (by omega) (fun c148 => ?_) (fun c148 => ?_)
        · refine fw_if_ne h rfl (fun _ => ?_) (fun c => absurd c (by decide))
          refine fw_iconst h (nI 0) rfl (by decide) ?_
          refine fw_ior h rfl ?_
          refine fw_istore h [_, _, _, _, _, _, _, _, _, _, _] rfl rfl rfl rfl ?_
          first | refine fn_iinc h [_, _, _, _, _, _, _, _, _, _, _] rfl rfl rfl rfl rfl ?_ | refine fw_iinc h 1 [_, _, _, _, _, _, _, _, _, _, _] rfl (by decide) rfl rfl rfl rfl ?_
          refine fw_goto h rfl ?_
          exact lp_ff_s (by first | exact fs_set_1 ho c129 es hs c148 | exact fs_set_0b ho es hs c148 | exact fs_set_0 (fun q => absurd q.1 (by rw [c129]; decide))) ih
        · refine fw_if_ne h rfl (fun c => absurd c (by decide)) (fun _ => ?_)
          refine fw_iconst h (nI 1) rfl (by decide) ?_
          refine fw_iload h rfl rfl ?_
          refine fw_ishl h rfl ?_
          refine fw_goto h rfl ?_
          refine fw_ior h rfl ?_
          refine fw_istore h [_, _, _, _, _, _, _, _, _, _, _] rfl rfl rfl rfl ?_
          first | refine fn_iinc h [_, _, _, _, _, _, _, _, _, _, _] rfl rfl rfl rfl rfl ?_ | refine fw_iinc h 1 [_, _, _, _, _, _, _, _, _, _, _] rfl (by decide) rfl rfl rfl rfl ?_
          refine fw_goto h rfl ?_
          exact lp_ff_s (by first | exact fs_set_1 ho c129 es hs c148 | exact fs_set_0b ho es hs c148 | exact fs_set_0 (fun q => absurd q.1 (by rw [c129]; decide))) ih
      · refine fw_if_eq h rfl (fun _ => ?_) (fun c => absurd c (by decide))
        refine fw_iconst h (nI 0) rfl (by decide) ?_
        refine fw_ior h rfl ?_
        refine fw_istore h [_, _, _, _, _, _, _, _, _, _, _] rfl rfl rfl rfl ?_
        first | refine fn_iinc h [_, _, _, _, _, _, _, _, _, _, _] rfl rfl rfl rfl rfl ?_ | refine fw_iinc h 1 [_, _, _, _, _, _, _, _, _, _, _] rfl (by decide) rfl rfl rfl rfl ?_
        refine fw_goto h rfl ?_
        exact lp_ff_s (by first | exact fs_set_1 ho c129 es hs c148 | exact fs_set_0b ho es hs c148 | exact fs_set_0 (fun q => absurd q.1 (by rw [c129]; decide))) ih
    · obtain ⟨s, hs, es⟩ := (hT (fp_top (w.1 54) i) (by omega)).2.1
      have ho : fs_on (mD w) rr i = fp_top (w.1 54) i := if_pos c107
      refine fw_aload_n h rfl rfl ?_
      refine fw_iload h rfl rfl ?_
      refine fw_v1I h rfl fk_v_X8_topOf fk_l_X8_137 rfl rfl rfl rfl ?_
      refine c_X8_topOf hnt hwh hi ?_
      refine fw_goto h rfl ?_
      refine fw_istore h [_, _, _, _, _, _, _, _, _, _, _] rfl rfl rfl rfl ?_
      refine fw_iload h rfl rfl ?_
      refine fw_iload h rfl rfl ?_
      refine fw_iload h rfl rfl ?_
      refine fw_s2I h rfl fk_s_X8_has fk_l_X8_185 rfl rfl ?_
      refine c_X8_hasN rfl (by omega) (fun c129 => ?_) (fun c129 => ?_)
      · refine fw_if_eq h rfl (fun c => absurd c (by decide)) (fun _ => ?_)
        refine fw_aload_n h rfl rfl ?_
        refine fw_getR _ h rfl fk_g_X8_75 rfl rfl ?_
        refine fw_iload_n h rfl rfl ?_
        refine fn_ialdF (w.1 67) h rfl rfl (rfl) (by omega) rfl ?_
        refine fw_aload_n h rfl rfl ?_
        refine fw_getR _ h rfl fk_g_X8_29 rfl rfl ?_
        refine fw_iload h rfl rfl ?_
        refine fn_ialdF (w.1 52) h rfl rfl (rfl) (by omega) rfl ?_
        refine fw_s2I h rfl fk_s_X8_has fk_l_X8_185 rfl rfl ?_
        refine c_X8_hasN es (by omega) (fun c148 => ?_) (fun c148 => ?_)
        · refine fw_if_ne h rfl (fun _ => ?_) (fun c => absurd c (by decide))
          refine fw_iconst h (nI 0) rfl (by decide) ?_
          refine fw_ior h rfl ?_
          refine fw_istore h [_, _, _, _, _, _, _, _, _, _, _] rfl rfl rfl rfl ?_
          first | refine fn_iinc h [_, _, _, _, _, _, _, _, _, _, _] rfl rfl rfl rfl rfl ?_ | refine fw_iinc h 1 [_, _, _, _, _, _, _, _, _, _, _] rfl (by decide) rfl rfl rfl rfl ?_
          refine fw_goto h rfl ?_
          exact lp_ff_s (by first | exact fs_set_1 ho c129 es hs c148 | exact fs_set_0b ho es hs c148 | exact fs_set_0 (fun q => absurd q.1 (by rw [c129]; decide))) ih
        · refine fw_if_ne h rfl (fun c => absurd c (by decide)) (fun _ => ?_)
          refine fw_iconst h (nI 1) rfl (by decide) ?_
          refine fw_iload h rfl rfl ?_
          refine fw_ishl h rfl ?_
          refine fw_goto h rfl ?_
          refine fw_ior h rfl ?_
          refine fw_istore h [_, _, _, _, _, _, _, _, _, _, _] rfl rfl rfl rfl ?_
          first | refine fn_iinc h [_, _, _, _, _, _, _, _, _, _, _] rfl rfl rfl rfl rfl ?_ | refine fw_iinc h 1 [_, _, _, _, _, _, _, _, _, _, _] rfl (by decide) rfl rfl rfl rfl ?_
          refine fw_goto h rfl ?_
          exact lp_ff_s (by first | exact fs_set_1 ho c129 es hs c148 | exact fs_set_0b ho es hs c148 | exact fs_set_0 (fun q => absurd q.1 (by rw [c129]; decide))) ih
      · refine fw_if_eq h rfl (fun _ => ?_) (fun c => absurd c (by decide))
        refine fw_iconst h (nI 0) rfl (by decide) ?_
        refine fw_ior h rfl ?_
        refine fw_istore h [_, _, _, _, _, _, _, _, _, _, _] rfl rfl rfl rfl ?_
        first | refine fn_iinc h [_, _, _, _, _, _, _, _, _, _, _] rfl rfl rfl rfl rfl ?_ | refine fw_iinc h 1 [_, _, _, _, _, _, _, _, _, _, _] rfl (by decide) rfl rfl rfl rfl ?_
        refine fw_goto h rfl ?_
        exact lp_ff_s (by first | exact fs_set_1 ho c129 es hs c148 | exact fs_set_0b ho es hs c148 | exact fs_set_0 (fun q => absurd q.1 (by rw [c129]; decide))) ih
noncomputable def fs_ff (D : Nat → Nat → Int32) (nt d m : Nat) (rd r st fr : Int32) : Int32 := fp_lft (D 3) (fs_set D r fr (fs_cn r st (fs_ht D d (fs_so D d rd m) m) (fs_mv D nt d m (fs_so D d rd m)) (fs_bl D nt d m (fs_so D d rd m))) nt) nt
noncomputable def fs_fx (D : Nat → Nat → Int32) (tr ts tf : Nat → Int32) (nt d m : Nat) (rd tx : Int32) : Int32 := if tx = -9 then 0 else fs_ff D nt d m rd (tr tx.toNatClampNeg) (ts tx.toNatClampNeg) (tf tx.toNatClampNeg)
theorem c_X8_forfeitOf {l : Launch} {w : fb_Wd} {P : Int32 → fb_Wd → Prop} {rd tx : Int32} {d nt nd nx ng m : Nat} (hN : fd_N (mD w) nt nd nx ng) (hT : fd_T (mD w) nt) (hA : fd_A (mD w) nt d m) (hd : d < 12) (htx : tx = -9 ∨ ∃ x, x < 9 ∧ tx = nI x) (hp : ∀ a b c e, P (fs_fx (mD w) (w.1 65) (w.1 66) (w.1 67) nt d m rd tx) (fb_m4 w a b c e)) : fb_Can l tX8_forfeitOf [.ref 46, .int (nI d), .int rd, .int tx] w (fb_kI P) := by
  refine fb_intro 7 fk_t_X8_forfeitOf (by decide) rfl (fun X hX h => ?_)
  subst hX
  change fb_AW tX8_forfeitOf X 0 [some (.ref 46), some (.int (nI d)), some (.int rd), some (.int tx), none, none, none, none, none, none, none] [] w
  rcases htx with rfl | ⟨x, hx, rfl⟩
  · refine fw_iload_n h rfl rfl ?_
    refine fw_if_ge h rfl (fun c1 => False.elim (absurd c1 (by decide))) (fun c1 => ?_)
    refine fw_iconst h (nI 0) rfl (by decide) ?_
    exact fw_iret h rfl rfl ⟨_, rfl, by have hq := hp (w.1 46 23) (w.1 46 24) (w.1 46 25) (w.1 46 26); rw [fb_m4_self] at hq; exact hq⟩
  · refine fw_iload_n h rfl rfl ?_
    refine fw_if_ge h rfl (fun c1 => ?_) (fun c1 => False.elim (c1 (nI_pos' (by omega))))
    refine fw_aload_n h rfl rfl ?_
    refine fw_iload_n h rfl rfl ?_
    refine fw_iload_n h rfl rfl ?_
    refine fw_v2V h rfl fk_v_X8_lays fk_l_X8_216 rfl rfl rfl rfl ?_
    refine c_X8_lays hN hT hA hd ?_
    refine fw_aload_n h rfl rfl ?_
    refine fw_getR _ h rfl fk_g_X8_72 rfl rfl ?_
    refine fw_iload_n h rfl rfl ?_
    refine fn_zaldF (w.1 66) h rfl rfl (rfl) (by omega) rfl ?_
    refine fw_istore h [_, _, _, _, _, _, _, _, _, _, _] rfl rfl rfl rfl ?_
    refine fw_aload_n h rfl rfl ?_
    refine fw_getR _ h rfl fk_g_X8_69 rfl rfl ?_
    refine fw_iload_n h rfl rfl ?_
    refine fn_ialdF (w.1 65) h rfl rfl (rfl) (by omega) rfl ?_
    refine fw_istore h [_, _, _, _, _, _, _, _, _, _, _] rfl rfl rfl rfl ?_
    refine fw_iload h rfl rfl ?_
    refine fw_iconst h (nI 2) rfl (by decide) ?_
    refine fw_icmp_ge h rfl (fun c31 => ?_) (fun c31 => ?_)
    · refine fw_iload h rfl rfl ?_
      refine fw_if_eq h rfl (fun c60 => ?_) (fun c60 => ?_)
      · refine fw_aload_n h rfl rfl ?_
        refine fw_getIv (fs_bl (mD w) nt d m (fs_so (mD w) d rd m)) h rfl fk_g_X8_204 rfl rfl (rfl) ?_
        refine lp_ff h (nt := nt) (nd := nd) (nx := nx) (ng := ng) (by rw [mD_m4]; exact hN) (by rw [mD_m4]; exact hT) (by omega) ?_
        rw [mD_m4]
        have hq := hp (fs_so (mD w) d rd m) (fs_mv (mD w) nt d m (fs_so (mD w) d rd m)) (fs_ht (mD w) d (fs_so (mD w) d rd m) m) (fs_bl (mD w) nt d m (fs_so (mD w) d rd m))
        unfold fs_fx at hq
        rw [if_neg (nI_ne9 (by omega)), nI_clamp (by omega)] at hq
        unfold fs_ff fs_cn at hq
        first
          | (rw [if_neg c31, if_neg c36] at hq; exact hq)
          | (rw [if_neg c31, if_pos c36] at hq; exact hq)
          | (rw [if_pos c31, if_neg c60] at hq; exact hq)
          | (rw [if_pos c31, if_pos c60] at hq; exact hq)
      · refine fw_aload_n h rfl rfl ?_
        refine fw_getIv (fs_bl (mD w) nt d m (fs_so (mD w) d rd m)) h rfl fk_g_X8_204 rfl rfl (rfl) ?_
        refine fw_aload_n h rfl rfl ?_
        refine fw_getIv (fs_ht (mD w) d (fs_so (mD w) d rd m) m) h rfl fk_g_X8_191 rfl rfl (rfl) ?_
        refine fw_aload_n h rfl rfl ?_
        refine fw_getIv (fs_mv (mD w) nt d m (fs_so (mD w) d rd m)) h rfl fk_g_X8_188 rfl rfl (rfl) ?_
        refine fw_iconst h (-1) rfl (by decide) ?_
        refine fw_ixor h rfl ?_
        refine fw_iand h rfl ?_
        refine fw_ior h rfl ?_
        refine fw_goto h rfl ?_
        refine lp_ff h (nt := nt) (nd := nd) (nx := nx) (ng := ng) (by rw [mD_m4]; exact hN) (by rw [mD_m4]; exact hT) (by omega) ?_
        rw [mD_m4]
        have hq := hp (fs_so (mD w) d rd m) (fs_mv (mD w) nt d m (fs_so (mD w) d rd m)) (fs_ht (mD w) d (fs_so (mD w) d rd m) m) (fs_bl (mD w) nt d m (fs_so (mD w) d rd m))
        unfold fs_fx at hq
        rw [if_neg (nI_ne9 (by omega)), nI_clamp (by omega)] at hq
        unfold fs_ff fs_cn at hq
        first
          | (rw [if_neg c31, if_neg c36] at hq; exact hq)
          | (rw [if_neg c31, if_pos c36] at hq; exact hq)
          | (rw [if_pos c31, if_neg c60] at hq; exact hq)
          | (rw [if_pos c31, if_pos c60] at hq; exact hq)
    · refine fw_iload h rfl rfl ?_
      refine fw_if_eq h rfl (fun c36 => ?_) (fun c36 => ?_)
      · refine fw_aload_n h rfl rfl ?_
        refine fw_getIv (fs_ht (mD w) d (fs_so (mD w) d rd m) m) h rfl fk_g_X8_191 rfl rfl (rfl) ?_
        refine fw_aload_n h rfl rfl ?_
        refine fw_getIv (fs_mv (mD w) nt d m (fs_so (mD w) d rd m)) h rfl fk_g_X8_188 rfl rfl (rfl) ?_
        refine fw_iand h rfl ?_
        refine fw_goto h rfl ?_
        refine lp_ff h (nt := nt) (nd := nd) (nx := nx) (ng := ng) (by rw [mD_m4]; exact hN) (by rw [mD_m4]; exact hT) (by omega) ?_
        rw [mD_m4]
        have hq := hp (fs_so (mD w) d rd m) (fs_mv (mD w) nt d m (fs_so (mD w) d rd m)) (fs_ht (mD w) d (fs_so (mD w) d rd m) m) (fs_bl (mD w) nt d m (fs_so (mD w) d rd m))
        unfold fs_fx at hq
        rw [if_neg (nI_ne9 (by omega)), nI_clamp (by omega)] at hq
        unfold fs_ff fs_cn at hq
        first
          | (rw [if_neg c31, if_neg c36] at hq; exact hq)
          | (rw [if_neg c31, if_pos c36] at hq; exact hq)
          | (rw [if_pos c31, if_neg c60] at hq; exact hq)
          | (rw [if_pos c31, if_pos c60] at hq; exact hq)
      · refine fw_aload_n h rfl rfl ?_
        refine fw_getIv (fs_ht (mD w) d (fs_so (mD w) d rd m) m) h rfl fk_g_X8_191 rfl rfl (rfl) ?_
        refine fw_goto h rfl ?_
        refine lp_ff h (nt := nt) (nd := nd) (nx := nx) (ng := ng) (by rw [mD_m4]; exact hN) (by rw [mD_m4]; exact hT) (by omega) ?_
        rw [mD_m4]
        have hq := hp (fs_so (mD w) d rd m) (fs_mv (mD w) nt d m (fs_so (mD w) d rd m)) (fs_ht (mD w) d (fs_so (mD w) d rd m) m) (fs_bl (mD w) nt d m (fs_so (mD w) d rd m))
        unfold fs_fx at hq
        rw [if_neg (nI_ne9 (by omega)), nI_clamp (by omega)] at hq
        unfold fs_ff fs_cn at hq
        first
          | (rw [if_neg c31, if_neg c36] at hq; exact hq)
          | (rw [if_neg c31, if_pos c36] at hq; exact hq)
          | (rw [if_pos c31, if_neg c60] at hq; exact hq)
          | (rw [if_pos c31, if_pos c60] at hq; exact hq)
