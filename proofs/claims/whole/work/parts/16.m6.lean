theorem fs_so_1 {D : Nat → Nat → Int32} {d i : Nat} {rd : Int32} (h : ¬ D 12 (10 * d + i) = 0 ∨ bt rd (fp_dbt (D 12) d i) = true) : fs_so D d rd (i + 1) = fs_so D d rd i ||| nI 1 <<< (nI i &&& 31) := by
  show fp_mk _ i ||| (if _ = true then _ else _) = _
  rw [if_pos (by rcases h with h | h <;> simp [h])]; rfl
theorem fs_so_0 {D : Nat → Nat → Int32} {d i : Nat} {rd : Int32} (h : D 12 (10 * d + i) = 0) (hb : bt rd (fp_dbt (D 12) d i) = false) : fs_so D d rd (i + 1) = fs_so D d rd i ||| nI 0 := by
  show fp_mk _ i ||| (if _ = true then _ else _) = _
  rw [if_neg (by simp [h, hb])]; rfl
theorem fp_dbt_1 {su : Nat → Int32} {d i : Nat} (h : su (10 * d + i) = 0) : fp_dbt su d (i + 1) = fp_dbt su d i + 1 := by simp [fp_dbt, fp_cnt, h]
theorem fp_dbt_0 {su : Nat → Int32} {d i : Nat} (h : ¬ su (10 * d + i) = 0) : fp_dbt su d (i + 1) = fp_dbt su d i + 0 := by simp [fp_dbt, fp_cnt, h]
theorem fs_bs_1 {D : Nat → Nat → Int32} {d i : Nat} {so : Int32} (h1 : bt so i = true) (h2 : D 9 (10 * d + i) = 0) (h3 : D 0 (D 10 (10 * d + i)).toNatClampNeg = 1 ∨ D 0 (D 10 (10 * d + i)).toNatClampNeg = 2) : fs_bs D d so (i + 1) = fs_bs D d so i ||| nI 1 <<< (D 10 (10 * d + i) &&& 31) := by
  show fp_orF _ i ||| (if _ then _ else _) = _
  rw [if_pos ⟨h1, h2, h3⟩]; rfl
theorem fs_bs_0 {D : Nat → Nat → Int32} {d i : Nat} {so : Int32} (h : ¬ (bt so i = true ∧ D 9 (10 * d + i) = 0 ∧ (D 0 (D 10 (10 * d + i)).toNatClampNeg = 1 ∨ D 0 (D 10 (10 * d + i)).toNatClampNeg = 2))) : fs_bs D d so (i + 1) = fs_bs D d so i ||| nI 0 := by
  show fp_orF _ i ||| (if _ then _ else _) = _
  rw [if_neg h]; rfl
theorem fs_ht_1 {D : Nat → Nat → Int32} {d i : Nat} {so : Int32} (h1 : bt so i = true) (h2 : ¬ D 9 (10 * d + i) ≤ 1) : fs_ht D d so (i + 1) = fs_ht D d so i ||| nI 1 <<< (D 10 (10 * d + i) &&& 31) := by
  show fp_orF _ i ||| (if _ then _ else _) = _
  rw [if_pos ⟨h1, h2⟩]; rfl
theorem fs_ht_0 {D : Nat → Nat → Int32} {d i : Nat} {so : Int32} (h : ¬ (bt so i = true ∧ ¬ D 9 (10 * d + i) ≤ 1)) : fs_ht D d so (i + 1) = fs_ht D d so i ||| nI 0 := by
  show fp_orF _ i ||| (if _ then _ else _) = _
  rw [if_neg h]; rfl
theorem fs_lt {D : Nat → Nat → Int32} {nt d m : Nat} (hA : fd_A D nt d m) (hn : nt ≤ 20) (so : Int32) : fp_lt nt (fs_bs D d so m) ∧ fp_lt nt (fs_ht D d so m) := by
  constructor <;> refine fp_orF_lt (fun k hk => ?_)
  all_goals
    obtain ⟨s, a, hs, es, ha, ea, -⟩ := hA.2.2.1 k hk
    split
    · rw [ea]; exact fp_lt_1 ha (by omega)
    · rw [nI_0]; exact fp_lt_0 nt
theorem c_X8_isBeastN {l : Launch} {w : fb_Wd} {P : Int32 → fb_Wd → Prop} {x : Int32} {t : Nat} (e : x = nI t) (h20 : t < 20) (ht : (w.1 51 x.toNatClampNeg = 1 ∨ w.1 51 x.toNatClampNeg = 2) → P 1 w) (hf : ¬ (w.1 51 x.toNatClampNeg = 1 ∨ w.1 51 x.toNatClampNeg = 2) → P 0 w) : fb_Can l tX8_isBeast [.ref 46, .int x] w (fb_kI P) := by
  subst e
  rw [nI_clamp (by omega)] at ht hf
  exact c_X8_isBeast h20 ht hf
theorem lp_lays_1 {X : fb_Cx} {w : fb_Wd} {d i y : Nat} {rd x b0 c0 e0 : Int32} {l5 l6 : Option Value} (e1 : fs_so (mD w) d rd (i + 1) = x) (e2 : fp_dbt (w.1 63) d (i + 1) = y) (ih : fb_AW tX8_lays X 10 [some (.ref 46), some (.int (nI d)), some (.int rd), some (.int (nI (fp_dbt (w.1 63) d (i + 1)))), some (.int (nI (i + 1))), none, none] [] (fb_m4 w (fs_so (mD w) d rd (i + 1)) b0 c0 e0)) : fb_AW tX8_lays X 10 [some (.ref 46), some (.int (nI d)), some (.int rd), some (.int (nI y)), some (.int (nI (i + 1))), l5, l6] [] (fb_m4 w x b0 c0 e0) := by
  subst e1; subst e2
  exact fw_sub (fb_pad_c (Or.inr rfl) (fb_pad_c (Or.inr rfl) (fb_pad_c (Or.inr rfl) (fb_pad_c (Or.inr rfl) (fb_pad_c (Or.inr rfl) (fb_pad_c (Or.inl rfl) (fb_pad_c (Or.inl rfl) (fb_pad_n)))))))) ih
theorem lp_lays_2 {X : fb_Cx} {w : fb_Wd} {d i : Nat} {rd so x y e0 : Int32} {l3 l5 l6 : Option Value} (e1 : fs_bs (mD w) d so (i + 1) = x) (e2 : fs_ht (mD w) d so (i + 1) = y) (ih : fb_AW tX8_lays X 97 [some (.ref 46), some (.int (nI d)), some (.int rd), none, some (.int (nI (i + 1))), none, none] [] (fb_m4 w so (fs_bs (mD w) d so (i + 1)) (fs_ht (mD w) d so (i + 1)) e0)) : fb_AW tX8_lays X 97 [some (.ref 46), some (.int (nI d)), some (.int rd), l3, some (.int (nI (i + 1))), l5, l6] [] (fb_m4 w so x y e0) := by
  subst e1; subst e2
  exact fw_sub (fb_pad_c (Or.inr rfl) (fb_pad_c (Or.inr rfl) (fb_pad_c (Or.inr rfl) (fb_pad_c (Or.inl rfl) (fb_pad_c (Or.inr rfl) (fb_pad_c (Or.inl rfl) (fb_pad_c (Or.inl rfl) (fb_pad_n)))))))) ih
theorem c_X8_lays {l : Launch} {w : fb_Wd} {P : fb_Wd → Prop} {rd : Int32} {d nt nd nx ng m : Nat} (hN : fd_N (mD w) nt nd nx ng) (hT : fd_T (mD w) nt) (hA : fd_A (mD w) nt d m) (hd : d < 12) (hp : P (fb_m4 w (fs_so (mD w) d rd m) (fs_mv (mD w) nt d m (fs_so (mD w) d rd m)) (fs_ht (mD w) d (fs_so (mD w) d rd m) m) (fs_bl (mD w) nt d m (fs_so (mD w) d rd m)))) : fb_Can l tX8_lays [.ref 46, .int (nI d), .int rd] w (fb_kV P) := by
  refine fb_intro 4 fk_t_X8_lays (by decide) rfl (fun X hX h => ?_)
  subst hX
  change fb_AW tX8_lays X 0 [some (.ref 46), some (.int (nI d)), some (.int rd), none, none, none, none] [] w
  have hm10 := hA.2.1
  rw [← fb_m4_self w]
  generalize w.1 46 24 = b0
  generalize w.1 46 25 = c0
  generalize w.1 46 26 = e0
  refine fw_aload_n h rfl rfl ?_
  refine fw_iconst h (nI 0) rfl (by decide) ?_
  refine fw_putIw (_) h rfl fk_p_X8_182 rfl rfl (fb_m4_23 _ _ _ _ _ _) ?_
  refine fw_iconst h (nI 0) rfl (by decide) ?_
  refine fw_istore_n h [_, _, _, _, _, _, _] rfl rfl rfl rfl ?_
  refine fw_iconst h (nI 0) rfl (by decide) ?_
  refine fw_istore h [_, _, _, _, _, _, _] rfl rfl rfl rfl ?_
  refine fb_loop (fun i => fb_AW tX8_lays X 10 [some (.ref 46), some (.int (nI d)), some (.int rd), some (.int (nI (fp_dbt (w.1 63) d i))), some (.int (nI i)), none, none] [] (fb_m4 w (fs_so (mD w) d rd i) b0 c0 e0)) (m) ?_ (fun i hi ih => ?_) 0 (Nat.zero_le _)
  · refine fw_iload h rfl rfl ?_
    refine fw_aload_n h rfl rfl ?_
    refine fw_getR _ h rfl fk_g_X8_50 rfl rfl ?_
    refine fw_iload_n h rfl rfl ?_
    refine fn_iald h rfl rfl (by omega) rfl ?_
    refine fw_icmp_ge h rfl (fun c18 => ?_) (fun c18 => False.elim (c18 (by rw [show (fb_m4 w (fs_so (mD w) d rd m) b0 c0 e0).1 59 d = nI m from hA.1]; exact Int32.le_refl _)))
    refine fw_aload_n h rfl rfl ?_
    refine fw_iconst h (nI 0) rfl (by decide) ?_
    refine fw_putIw (_) h rfl fk_p_X8_188 rfl rfl (fb_m4_24 _ _ _ _ _ _) ?_
    refine fw_aload_n h rfl rfl ?_
    refine fw_iconst h (nI 0) rfl (by decide) ?_
    refine fw_putIw (_) h rfl fk_p_X8_191 rfl rfl (fb_m4_25 _ _ _ _ _ _) ?_
    refine fw_iconst h (nI 0) rfl (by decide) ?_
    refine fw_istore h [_, _, _, _, _, _, _] rfl rfl rfl rfl ?_
    generalize hso : fs_so (mD w) d rd m = so
    rw [hso] at hp
    refine fw_sub (fb_pad_c (Or.inr rfl) (fb_pad_c (Or.inr rfl) (fb_pad_c (Or.inr rfl) (fb_pad_c (Or.inl rfl) (fb_pad_c (Or.inr rfl) (fb_pad_c (Or.inl rfl) (fb_pad_c (Or.inl rfl) (fb_pad_n)))))))) ?_
    refine fb_loop (fun i => fb_AW tX8_lays X 97 [some (.ref 46), some (.int (nI d)), some (.int rd), none, some (.int (nI i)), none, none] [] (fb_m4 w so (fs_bs (mD w) d so i) (fs_ht (mD w) d so i) e0)) (m) ?_ (fun i hi ih => ?_) 0 (Nat.zero_le _)
    · refine fw_iload h rfl rfl ?_
      refine fw_aload_n h rfl rfl ?_
      refine fw_getR _ h rfl fk_g_X8_50 rfl rfl ?_
      refine fw_iload_n h rfl rfl ?_
      refine fn_iald h rfl rfl (by omega) rfl ?_
      refine fw_icmp_ge h rfl (fun c105 => ?_) (fun c105 => False.elim (c105 (by rw [show (fb_m4 w so (fs_bs (mD w) d so m) (fs_ht (mD w) d so m) e0).1 59 d = nI m from hA.1]; exact Int32.le_refl _)))
      refine fw_iconst h (-1) rfl (by decide) ?_
      refine fw_istore h [_, _, _, _, _, _, _] rfl rfl rfl rfl ?_
      have hl := fs_lt hA hN.1.2 so
      exact lp_X8_lays_A hN hT hA hd h hl.2 hp _ (-1) _ rfl (fp_sub_rf _) hl.1 (fun S _ hs => hs) (fun e => absurd e (fp_lt_m1 hl.1 (by have := hN.1.2; omega)))
    · refine fw_iload h rfl rfl ?_
      refine fw_aload_n h rfl rfl ?_
      refine fw_getR _ h rfl fk_g_X8_50 rfl rfl ?_
      refine fw_iload_n h rfl rfl ?_
      refine fn_ialdF (w.1 59) h rfl rfl (rfl) (by omega) rfl ?_
      refine fw_icmp_ge h rfl (fun c105 => False.elim (nI_ge hi (by omega) (by rw [← show w.1 59 d = nI m from hA.1]; exact c105))) (fun c105 => ?_)
      have hnt := hN.1.2
      obtain ⟨s, a, hs, es, ha, ea, -⟩ := hA.2.2.1 i hi
      refine fw_aload_n h rfl rfl ?_
      refine fw_getR _ h rfl fk_g_X8_56 rfl rfl ?_
      refine fw_bipush h (nI 10) rfl (by decide) ?_
      refine fw_iload_n h rfl rfl ?_
      first | refine fn_imul h rfl ?_ | refine fw_imul h rfl ?_
      refine fw_iload h rfl rfl ?_
      first | refine fn_iadd h rfl ?_ | refine fw_iadd h rfl ?_
      refine fn_ialdF (w.1 61) h rfl rfl (rfl) (by omega) rfl ?_
      refine fw_istore h [_, _, _, _, _, _, _] rfl rfl rfl rfl ?_
      refine fw_aload_n h rfl rfl ?_
      refine fw_getR _ h rfl fk_g_X8_53 rfl rfl ?_
      refine fw_bipush h (nI 10) rfl (by decide) ?_
      refine fw_iload_n h rfl rfl ?_
      first | refine fn_imul h rfl ?_ | refine fw_imul h rfl ?_
      refine fw_iload h rfl rfl ?_
      first | refine fn_iadd h rfl ?_ | refine fw_iadd h rfl ?_
      refine fn_ialdF (w.1 60) h rfl rfl (rfl) (by omega) rfl ?_
      refine fw_istore h [_, _, _, _, _, _, _] rfl rfl rfl rfl ?_
      refine fw_aload_n h rfl rfl ?_
      refine fw_dup h rfl rfl ?_
      refine fw_getIv (fs_bs (mD w) d so i) h rfl fk_g_X8_188 rfl rfl (rfl) ?_
      refine fw_aload_n h rfl rfl ?_
      refine fw_iload h rfl rfl ?_
      refine fw_v1I h rfl fk_v_X8_so fk_l_X8_194 rfl rfl rfl rfl ?_
      refine c_X8_soN (by omega) (fun (c144 : bt so i = true) => ?_) (fun (c144 : bt so i = false) => ?_)
      · refine fw_if_eq h rfl (fun c => absurd c (by decide)) (fun _ => ?_)
        refine fw_iload h rfl rfl ?_
        refine fw_if_ne h rfl (fun c152 => ?_) (fun c152 => ?_)
        · refine fw_iconst h (nI 0) rfl (by decide) ?_
          refine fw_ior h rfl ?_
          refine fw_putIw (_) h rfl fk_p_X8_188 rfl rfl (fb_m4_24 _ _ _ _ _ _) ?_
          refine fw_aload_n h rfl rfl ?_
          refine fw_dup h rfl rfl ?_
          refine fw_getIv (fs_ht (mD w) d so i) h rfl fk_g_X8_191 rfl rfl (rfl) ?_
          refine fw_aload_n h rfl rfl ?_
          refine fw_iload h rfl rfl ?_
          refine fw_v1I h rfl fk_v_X8_so fk_l_X8_194 rfl rfl rfl rfl ?_
          refine c_X8_soN (by omega) (fun (c184 : bt so i = true) => ?_) (fun (c184 : bt so i = false) => ?_)
          · refine fw_if_eq h rfl (fun c => absurd c (by decide)) (fun _ => ?_)
            refine fw_iload h rfl rfl ?_
            refine fw_iconst h (nI 1) rfl (by decide) ?_
            refine fw_icmp_le h rfl (fun c193 => ?_) (fun c193 => ?_)
            · refine fw_iconst h (nI 0) rfl (by decide) ?_
              refine fw_ior h rfl ?_
              refine fw_putIw (_) h rfl fk_p_X8_191 rfl rfl (fb_m4_25 _ _ _ _ _ _) ?_
              first | refine fn_iinc h [_, _, _, _, _, _, _] rfl rfl rfl rfl rfl ?_ | refine fw_iinc h 1 [_, _, _, _, _, _, _] rfl (by decide) rfl rfl rfl rfl ?_
              refine fw_goto h rfl ?_
              exact lp_lays_2 (by first | exact fs_bs_1 c144 c152 c158 | exact fs_bs_0 (fun q => absurd q.1 (by rw [c144]; decide)) | exact fs_bs_0 (fun q => c152 q.2.1) | exact fs_bs_0 (fun q => c158 q.2.2)) (by first | exact fs_ht_1 c184 c193 | exact fs_ht_0 (fun q => absurd q.1 (by rw [c184]; decide)) | exact fs_ht_0 (fun q => q.2 c193)) ih
            · refine fw_iconst h (nI 1) rfl (by decide) ?_
              refine fw_iload h rfl rfl ?_
              refine fw_ishl h rfl ?_
              refine fw_goto h rfl ?_
              refine fw_ior h rfl ?_
              refine fw_putIw (_) h rfl fk_p_X8_191 rfl rfl (fb_m4_25 _ _ _ _ _ _) ?_
              first | refine fn_iinc h [_, _, _, _, _, _, _] rfl rfl rfl rfl rfl ?_ | refine fw_iinc h 1 [_, _, _, _, _, _, _] rfl (by decide) rfl rfl rfl rfl ?_
              refine fw_goto h rfl ?_
              exact lp_lays_2 (by first | exact fs_bs_1 c144 c152 c158 | exact fs_bs_0 (fun q => absurd q.1 (by rw [c144]; decide)) | exact fs_bs_0 (fun q => c152 q.2.1) | exact fs_bs_0 (fun q => c158 q.2.2)) (by first | exact fs_ht_1 c184 c193 | exact fs_ht_0 (fun q => absurd q.1 (by rw [c184]; decide)) | exact fs_ht_0 (fun q => q.2 c193)) ih
          · refine fw_if_eq h rfl (fun _ => ?_) (fun c => absurd c (by decide))
            refine fw_iconst h (nI 0) rfl (by decide) ?_
            refine fw_ior h rfl ?_
            refine fw_putIw (_) h rfl fk_p_X8_191 rfl rfl (fb_m4_25 _ _ _ _ _ _) ?_
            first | refine fn_iinc h [_, _, _, _, _, _, _] rfl rfl rfl rfl rfl ?_ | refine fw_iinc h 1 [_, _, _, _, _, _, _] rfl (by decide) rfl rfl rfl rfl ?_
            refine fw_goto h rfl ?_
            exact lp_lays_2 (by first | exact fs_bs_1 c144 c152 c158 | exact fs_bs_0 (fun q => absurd q.1 (by rw [c144]; decide)) | exact fs_bs_0 (fun q => c152 q.2.1) | exact fs_bs_0 (fun q => c158 q.2.2)) (by first | exact fs_ht_1 c184 c193 | exact fs_ht_0 (fun q => absurd q.1 (by rw [c184]; decide)) | exact fs_ht_0 (fun q => q.2 c193)) ih
        · refine fw_aload_n h rfl rfl ?_
          refine fw_iload h rfl rfl ?_
          refine fw_v1I h rfl fk_v_X8_isBeast fk_l_X8_197 rfl rfl rfl rfl ?_
          refine c_X8_isBeastN ea (by omega) (fun c158 => ?_) (fun c158 => ?_)
          · refine fw_if_eq h rfl (fun c => absurd c (by decide)) (fun _ => ?_)
            refine fw_iconst h (nI 1) rfl (by decide) ?_
            refine fw_iload h rfl rfl ?_
            refine fw_ishl h rfl ?_
            refine fw_goto h rfl ?_
            refine fw_ior h rfl ?_
            refine fw_putIw (_) h rfl fk_p_X8_188 rfl rfl (fb_m4_24 _ _ _ _ _ _) ?_
            refine fw_aload_n h rfl rfl ?_
            refine fw_dup h rfl rfl ?_
            refine fw_getIv (fs_ht (mD w) d so i) h rfl fk_g_X8_191 rfl rfl (rfl) ?_
            refine fw_aload_n h rfl rfl ?_
            refine fw_iload h rfl rfl ?_
            refine fw_v1I h rfl fk_v_X8_so fk_l_X8_194 rfl rfl rfl rfl ?_
            refine c_X8_soN (by omega) (fun (c184 : bt so i = true) => ?_) (fun (c184 : bt so i = false) => ?_)
            · refine fw_if_eq h rfl (fun c => absurd c (by decide)) (fun _ => ?_)
              refine fw_iload h rfl rfl ?_
              refine fw_iconst h (nI 1) rfl (by decide) ?_
              refine fw_icmp_le h rfl (fun c193 => ?_) (fun c193 => ?_)
              · refine fw_iconst h (nI 0) rfl (by decide) ?_
                refine fw_ior h rfl ?_
                refine fw_putIw (_) h rfl fk_p_X8_191 rfl rfl (fb_m4_25 _ _ _ _ _ _) ?_
                first | refine fn_iinc h [_, _, _, _, _, _, _] rfl rfl rfl rfl rfl ?_ | refine fw_iinc h 1 [_, _, _, _, _, _, _] rfl (by decide) rfl rfl rfl rfl ?_
                refine fw_goto h rfl ?_
                exact lp_lays_2 (by first | exact fs_bs_1 c144 c152 c158 | exact fs_bs_0 (fun q => absurd q.1 (by rw [c144]; decide)) | exact fs_bs_0 (fun q => c152 q.2.1) | exact fs_bs_0 (fun q => c158 q.2.2)) (by first | exact fs_ht_1 c184 c193 | exact fs_ht_0 (fun q => absurd q.1 (by rw [c184]; decide)) | exact fs_ht_0 (fun q => q.2 c193)) ih
              · refine fw_iconst h (nI 1) rfl (by decide) ?_
                refine fw_iload h rfl rfl ?_
                refine fw_ishl h rfl ?_
                refine fw_goto h rfl ?_
                refine fw_ior h rfl ?_
                refine fw_putIw (_) h rfl fk_p_X8_191 rfl rfl (fb_m4_25 _ _ _ _ _ _) ?_
                first | refine fn_iinc h [_, _, _, _, _, _, _] rfl rfl rfl rfl rfl ?_ | refine fw_iinc h 1 [_, _, _, _, _, _, _] rfl (by decide) rfl rfl rfl rfl ?_
                refine fw_goto h rfl ?_
                exact lp_lays_2 (by first | exact fs_bs_1 c144 c152 c158 | exact fs_bs_0 (fun q => absurd q.1 (by rw [c144]; decide)) | exact fs_bs_0 (fun q => c152 q.2.1) | exact fs_bs_0 (fun q => c158 q.2.2)) (by first | exact fs_ht_1 c184 c193 | exact fs_ht_0 (fun q => absurd q.1 (by rw [c184]; decide)) | exact fs_ht_0 (fun q => q.2 c193)) ih
            · refine fw_if_eq h rfl (fun _ => ?_) (fun c => absurd c (by decide))
              refine fw_iconst h (nI 0) rfl (by decide) ?_
              refine fw_ior h rfl ?_
              refine fw_putIw (_) h rfl fk_p_X8_191 rfl rfl (fb_m4_25 _ _ _ _ _ _) ?_
              first | refine fn_iinc h [_, _, _, _, _, _, _] rfl rfl rfl rfl rfl ?_ | refine fw_iinc h 1 [_, _, _, _, _, _, _] rfl (by decide) rfl rfl rfl rfl ?_
              refine fw_goto h rfl ?_
              exact lp_lays_2 (by first | exact fs_bs_1 c144 c152 c158 | exact fs_bs_0 (fun q => absurd q.1 (by rw [c144]; decide)) | exact fs_bs_0 (fun q => c152 q.2.1) | exact fs_bs_0 (fun q => c158 q.2.2)) (by first | exact fs_ht_1 c184 c193 | exact fs_ht_0 (fun q => absurd q.1 (by rw [c184]; decide)) | exact fs_ht_0 (fun q => q.2 c193)) ih
          · refine fw_if_eq h rfl (fun _ => ?_) (fun c => absurd c (by decide))
            refine fw_iconst h (nI 0) rfl (by decide) ?_
            refine fw_ior h rfl ?_
            refine fw_putIw (_) h rfl fk_p_X8_188 rfl rfl (fb_m4_24 _ _ _ _ _ _) ?_
            refine fw_aload_n h rfl rfl ?_
            refine fw_dup h rfl rfl ?_
            refine fw_getIv (fs_ht (mD w) d so i) h rfl fk_g_X8_191 rfl rfl (rfl) ?_
            refine fw_aload_n h rfl rfl ?_
            refine fw_iload h rfl rfl ?_
            refine fw_v1I h rfl fk_v_X8_so fk_l_X8_194 rfl rfl rfl rfl ?_
            refine c_X8_soN (by omega) (fun (c184 : bt so i = true) => ?_) (fun (c184 : bt so i = false) => ?_)
            · refine fw_if_eq h rfl (fun c => absurd c (by decide)) (fun _ => ?_)
              refine fw_iload h rfl rfl ?_
              refine fw_iconst h (nI 1) rfl (by decide) ?_
              refine fw_icmp_le h rfl (fun c193 => ?_) (fun c193 => ?_)
              · refine fw_iconst h (nI 0) rfl (by decide) ?_
                refine fw_ior h rfl ?_
                refine fw_putIw (_) h rfl fk_p_X8_191 rfl rfl (fb_m4_25 _ _ _ _ _ _) ?_
                first | refine fn_iinc h [_, _, _, _, _, _, _] rfl rfl rfl rfl rfl ?_ | refine fw_iinc h 1 [_, _, _, _, _, _, _] rfl (by decide) rfl rfl rfl rfl ?_
                refine fw_goto h rfl ?_
                exact lp_lays_2 (by first | exact fs_bs_1 c144 c152 c158 | exact fs_bs_0 (fun q => absurd q.1 (by rw [c144]; decide)) | exact fs_bs_0 (fun q => c152 q.2.1) | exact fs_bs_0 (fun q => c158 q.2.2)) (by first | exact fs_ht_1 c184 c193 | exact fs_ht_0 (fun q => absurd q.1 (by rw [c184]; decide)) | exact fs_ht_0 (fun q => q.2 c193)) ih
              · refine fw_iconst h (nI 1) rfl (by decide) ?_
                refine fw_iload h rfl rfl ?_
                refine fw_ishl h rfl ?_
                refine fw_goto h rfl ?_
                refine fw_ior h rfl ?_
                refine fw_putIw (_) h rfl fk_p_X8_191 rfl rfl (fb_m4_25 _ _ _ _ _ _) ?_
                first | refine fn_iinc h [_, _, _, _, _, _, _] rfl rfl rfl rfl rfl ?_ | refine fw_iinc h 1 [_, _, _, _, _, _, _] rfl (by decide) rfl rfl rfl rfl ?_
                refine fw_goto h rfl ?_
                exact lp_lays_2 (by first | exact fs_bs_1 c144 c152 c158 | exact fs_bs_0 (fun q => absurd q.1 (by rw [c144]; decide)) | exact fs_bs_0 (fun q => c152 q.2.1) | exact fs_bs_0 (fun q => c158 q.2.2)) (by first | exact fs_ht_1 c184 c193 | exact fs_ht_0 (fun q => absurd q.1 (by rw [c184]; decide)) | exact fs_ht_0 (fun q => q.2 c193)) ih
            · refine fw_if_eq h rfl (fun _ => ?_) (fun c => absurd c (by decide))
              refine fw_iconst h (nI 0) rfl (by decide) ?_
              refine fw_ior h rfl ?_
              refine fw_putIw (_) h rfl fk_p_X8_191 rfl rfl (fb_m4_25 _ _ _ _ _ _) ?_
              first | refine fn_iinc h [_, _, _, _, _, _, _] rfl rfl rfl rfl rfl ?_ | refine fw_iinc h 1 [_, _, _, _, _, _, _] rfl (by decide) rfl rfl rfl rfl ?_
              refine fw_goto h rfl ?_
              exact lp_lays_2 (by first | exact fs_bs_1 c144 c152 c158 | exact fs_bs_0 (fun q => absurd q.1 (by rw [c144]; decide)) | exact fs_bs_0 (fun q => c152 q.2.1) | exact fs_bs_0 (fun q => c158 q.2.2)) (by first | exact fs_ht_1 c184 c193 | exact fs_ht_0 (fun q => absurd q.1 (by rw [c184]; decide)) | exact fs_ht_0 (fun q => q.2 c193)) ih
      · refine fw_if_eq h rfl (fun _ => ?_) (fun c => absurd c (by decide))
        refine fw_iconst h (nI 0) rfl (by decide) ?_
        refine fw_ior h rfl ?_
        refine fw_putIw (_) h rfl fk_p_X8_188 rfl rfl (fb_m4_24 _ _ _ _ _ _) ?_
        refine fw_aload_n h rfl rfl ?_
        refine fw_dup h rfl rfl ?_
        refine fw_getIv (fs_ht (mD w) d so i) h rfl fk_g_X8_191 rfl rfl (rfl) ?_
        refine fw_aload_n h rfl rfl ?_
        refine fw_iload h rfl rfl ?_
        refine fw_v1I h rfl fk_v_X8_so fk_l_X8_194 rfl rfl rfl rfl ?_
        refine c_X8_soN (by omega) (fun (c184 : bt so i = true) => ?_) (fun (c184 : bt so i = false) => ?_)
        · refine fw_if_eq h rfl (fun c => absurd c (by decide)) (fun _ => ?_)
          refine fw_iload h rfl rfl ?_
          refine fw_iconst h (nI 1) rfl (by decide) ?_
          refine fw_icmp_le h rfl (fun c193 => ?_) (fun c193 => ?_)
          · refine fw_iconst h (nI 0) rfl (by decide) ?_
            refine fw_ior h rfl ?_
            refine fw_putIw (_) h rfl fk_p_X8_191 rfl rfl (fb_m4_25 _ _ _ _ _ _) ?_
            first | refine fn_iinc h [_, _, _, _, _, _, _] rfl rfl rfl rfl rfl ?_ | refine fw_iinc h 1 [_, _, _, _, _, _, _] rfl (by decide) rfl rfl rfl rfl ?_
            refine fw_goto h rfl ?_
            exact lp_lays_2 (by first | exact fs_bs_1 c144 c152 c158 | exact fs_bs_0 (fun q => absurd q.1 (by rw [c144]; decide)) | exact fs_bs_0 (fun q => c152 q.2.1) | exact fs_bs_0 (fun q => c158 q.2.2)) (by first | exact fs_ht_1 c184 c193 | exact fs_ht_0 (fun q => absurd q.1 (by rw [c184]; decide)) | exact fs_ht_0 (fun q => q.2 c193)) ih
          · refine fw_iconst h (nI 1) rfl (by decide) ?_
            refine fw_iload h rfl rfl ?_
            refine fw_ishl h rfl ?_
            refine fw_goto h rfl ?_
            refine fw_ior h rfl ?_
            refine fw_putIw (_) h rfl fk_p_X8_191 rfl rfl (fb_m4_25 _ _ _ _ _ _) ?_
            first | refine fn_iinc h [_, _, _, _, _, _, _] rfl rfl rfl rfl rfl ?_ | refine fw_iinc h 1 [_, _, _, _, _, _, _] rfl (by decide) rfl rfl rfl rfl ?_
            refine fw_goto h rfl ?_
            exact lp_lays_2 (by first | exact fs_bs_1 c144 c152 c158 | exact fs_bs_0 (fun q => absurd q.1 (by rw [c144]; decide)) | exact fs_bs_0 (fun q => c152 q.2.1) | exact fs_bs_0 (fun q => c158 q.2.2)) (by first | exact fs_ht_1 c184 c193 | exact fs_ht_0 (fun q => absurd q.1 (by rw [c184]; decide)) | exact fs_ht_0 (fun q => q.2 c193)) ih
        · refine fw_if_eq h rfl (fun _ => ?_) (fun c => absurd c (by decide))
          refine fw_iconst h (nI 0) rfl (by decide) ?_
          refine fw_ior h rfl ?_
          refine fw_putIw (_) h rfl fk_p_X8_191 rfl rfl (fb_m4_25 _ _ _ _ _ _) ?_
          first | refine fn_iinc h [_, _, _, _, _, _, _] rfl rfl rfl rfl rfl ?_ | refine fw_iinc h 1 [_, _, _, _, _, _, _] rfl (by decide) rfl rfl rfl rfl ?_
          refine fw_goto h rfl ?_
          exact lp_lays_2 (by first | exact fs_bs_1 c144 c152 c158 | exact fs_bs_0 (fun q => absurd q.1 (by rw [c144]; decide)) | exact fs_bs_0 (fun q => c152 q.2.1) | exact fs_bs_0 (fun q => c158 q.2.2)) (by first | exact fs_ht_1 c184 c193 | exact fs_ht_0 (fun q => absurd q.1 (by rw [c184]; decide)) | exact fs_ht_0 (fun q => q.2 c193)) ih
  · refine fw_iload h rfl rfl ?_
    refine fw_aload_n h rfl rfl ?_
    refine fw_getR _ h rfl fk_g_X8_50 rfl rfl ?_
    refine fw_iload_n h rfl rfl ?_
    refine fn_ialdF (w.1 59) h rfl rfl (rfl) (by omega) rfl ?_
    refine fw_icmp_ge h rfl (fun c18 => False.elim (nI_ge hi (by omega) (by rw [← show w.1 59 d = nI m from hA.1]; exact c18))) (fun c18 => ?_)
    have hdl := fp_dbt_le (w.1 63) d i
    refine fw_aload_n h rfl rfl ?_
    refine fw_getR _ h rfl fk_g_X8_62 rfl rfl ?_
    refine fw_bipush h (nI 10) rfl (by decide) ?_
    refine fw_iload_n h rfl rfl ?_
    first | refine fn_imul h rfl ?_ | refine fw_imul h rfl ?_
    refine fw_iload h rfl rfl ?_
    first | refine fn_iadd h rfl ?_ | refine fw_iadd h rfl ?_
    refine fn_zaldF (w.1 63) h rfl rfl (rfl) (by omega) rfl ?_
    refine fw_istore h [_, _, _, _, _, _, _] rfl rfl rfl rfl ?_
    refine fw_aload_n h rfl rfl ?_
    refine fw_dup h rfl rfl ?_
    refine fw_getIv (fs_so (mD w) d rd i) h rfl fk_g_X8_182 rfl rfl (rfl) ?_
    refine fw_iload h rfl rfl ?_
    refine fw_if_ne h rfl (fun c42 => ?_) (fun c42 => ?_)
    · refine fw_iconst h (nI 1) rfl (by decide) ?_
      refine fw_iload h rfl rfl ?_
      refine fw_ishl h rfl ?_
      refine fw_goto h rfl ?_
      refine fw_ior h rfl ?_
      refine fw_putIw (_) h rfl fk_p_X8_182 rfl rfl (fb_m4_23 _ _ _ _ _ _) ?_
      refine fw_iload_n h rfl rfl ?_
      refine fw_iload h rfl rfl ?_
      refine fw_if_eq h rfl (fun c68 => ?_) (fun c68 => ?_)
      · refine fw_iconst h (nI 1) rfl (by decide) ?_
        first | refine fn_iadd h rfl ?_ | refine fw_iadd h rfl ?_
        refine fw_istore_n h [_, _, _, _, _, _, _] rfl rfl rfl rfl ?_
        first | refine fn_iinc h [_, _, _, _, _, _, _] rfl rfl rfl rfl rfl ?_ | refine fw_iinc h 1 [_, _, _, _, _, _, _] rfl (by decide) rfl rfl rfl rfl ?_
        refine fw_goto h rfl ?_
        first
          | (exact lp_lays_1 (fs_so_1 (Or.inl c42)) (fp_dbt_1 c68) ih)
          | (exact lp_lays_1 (fs_so_1 (Or.inl c42)) (fp_dbt_0 c68) ih)
          | (exact lp_lays_1 (fs_so_1 (Or.inr c47)) (fp_dbt_1 c68) ih)
          | (exact lp_lays_1 (fs_so_1 (Or.inr c47)) (fp_dbt_0 c68) ih)
          | (exact lp_lays_1 (fs_so_0 c42 c47) (fp_dbt_1 c68) ih)
          | (exact lp_lays_1 (fs_so_0 c42 c47) (fp_dbt_0 c68) ih)
      · refine fw_iconst h (nI 0) rfl (by decide) ?_
        refine fw_goto h rfl ?_
        first | refine fn_iadd h rfl ?_ | refine fw_iadd h rfl ?_
        refine fw_istore_n h [_, _, _, _, _, _, _] rfl rfl rfl rfl ?_
        first | refine fn_iinc h [_, _, _, _, _, _, _] rfl rfl rfl rfl rfl ?_ | refine fw_iinc h 1 [_, _, _, _, _, _, _] rfl (by decide) rfl rfl rfl rfl ?_
        refine fw_goto h rfl ?_
        first
          | (exact lp_lays_1 (fs_so_1 (Or.inl c42)) (fp_dbt_1 c68) ih)
          | (exact lp_lays_1 (fs_so_1 (Or.inl c42)) (fp_dbt_0 c68) ih)
          | (exact lp_lays_1 (fs_so_1 (Or.inr c47)) (fp_dbt_1 c68) ih)
          | (exact lp_lays_1 (fs_so_1 (Or.inr c47)) (fp_dbt_0 c68) ih)
          | (exact lp_lays_1 (fs_so_0 c42 c47) (fp_dbt_1 c68) ih)
          | (exact lp_lays_1 (fs_so_0 c42 c47) (fp_dbt_0 c68) ih)
    · refine fw_iload_n h rfl rfl ?_
      refine fw_iload_n h rfl rfl ?_
      refine fw_s2I h rfl fk_s_X8_has fk_l_X8_185 rfl rfl ?_
      refine c_X8_hasN rfl (by omega) (fun c47 => ?_) (fun c47 => ?_)
      · refine fw_if_eq h rfl (fun c => absurd c (by decide)) (fun _ => ?_)
        refine fw_iconst h (nI 1) rfl (by decide) ?_
        refine fw_iload h rfl rfl ?_
        refine fw_ishl h rfl ?_
        refine fw_goto h rfl ?_
        refine fw_ior h rfl ?_
        refine fw_putIw (_) h rfl fk_p_X8_182 rfl rfl (fb_m4_23 _ _ _ _ _ _) ?_
        refine fw_iload_n h rfl rfl ?_
        refine fw_iload h rfl rfl ?_
        refine fw_if_eq h rfl (fun c68 => ?_) (fun c68 => ?_)
        · refine fw_iconst h (nI 1) rfl (by decide) ?_
          first | refine fn_iadd h rfl ?_ | refine fw_iadd h rfl ?_
          refine fw_istore_n h [_, _, _, _, _, _, _] rfl rfl rfl rfl ?_
          first | refine fn_iinc h [_, _, _, _, _, _, _] rfl rfl rfl rfl rfl ?_ | refine fw_iinc h 1 [_, _, _, _, _, _, _] rfl (by decide) rfl rfl rfl rfl ?_
          refine fw_goto h rfl ?_
          first
            | (exact lp_lays_1 (fs_so_1 (Or.inl c42)) (fp_dbt_1 c68) ih)
            | (exact lp_lays_1 (fs_so_1 (Or.inl c42)) (fp_dbt_0 c68) ih)
            | (exact lp_lays_1 (fs_so_1 (Or.inr c47)) (fp_dbt_1 c68) ih)
            | (exact lp_lays_1 (fs_so_1 (Or.inr c47)) (fp_dbt_0 c68) ih)
            | (exact lp_lays_1 (fs_so_0 c42 c47) (fp_dbt_1 c68) ih)
            | (exact lp_lays_1 (fs_so_0 c42 c47) (fp_dbt_0 c68) ih)
        · refine fw_iconst h (nI 0) rfl (by decide) ?_
          refine fw_goto h rfl ?_
          first | refine fn_iadd h rfl ?_ | refine fw_iadd h rfl ?_
          refine fw_istore_n h [_, _, _, _, _, _, _] rfl rfl rfl rfl ?_
          first | refine fn_iinc h [_, _, _, _, _, _, _] rfl rfl rfl rfl rfl ?_ | refine fw_iinc h 1 [_, _, _, _, _, _, _] rfl (by decide) rfl rfl rfl rfl ?_
          refine fw_goto h rfl ?_
          first
            | (exact lp_lays_1 (fs_so_1 (Or.inl c42)) (fp_dbt_1 c68) ih)
            | (exact lp_lays_1 (fs_so_1 (Or.inl c42)) (fp_dbt_0 c68) ih)
            | (exact lp_lays_1 (fs_so_1 (Or.inr c47)) (fp_dbt_1 c68) ih)
            | (exact lp_lays_1 (fs_so_1 (Or.inr c47)) (fp_dbt_0 c68) ih)
            | (exact lp_lays_1 (fs_so_0 c42 c47) (fp_dbt_1 c68) ih)
            | (exact lp_lays_1 (fs_so_0 c42 c47) (fp_dbt_0 c68) ih)
      · refine fw_if_eq h rfl (fun _ => ?_) (fun c => absurd c (by decide))
        refine fw_iconst h (nI 0) rfl (by decide) ?_
        refine fw_ior h rfl ?_
        refine fw_putIw (_) h rfl fk_p_X8_182 rfl rfl (fb_m4_23 _ _ _ _ _ _) ?_
        refine fw_iload_n h rfl rfl ?_
        refine fw_iload h rfl rfl ?_
        refine fw_if_eq h rfl (fun c68 => ?_) (fun c68 => ?_)
        · refine fw_iconst h (nI 1) rfl (by decide) ?_
          first | refine fn_iadd h rfl ?_ | refine fw_iadd h rfl ?_
          refine fw_istore_n h [_, _, _, _, _, _, _] rfl rfl rfl rfl ?_
          first | refine fn_iinc h [_, _, _, _, _, _, _] rfl rfl rfl rfl rfl ?_ | refine fw_iinc h 1 [_, _, _, _, _, _, _] rfl (by decide) rfl rfl rfl rfl ?_
          refine fw_goto h rfl ?_
          first
            | (exact lp_lays_1 (fs_so_1 (Or.inl c42)) (fp_dbt_1 c68) ih)
            | (exact lp_lays_1 (fs_so_1 (Or.inl c42)) (fp_dbt_0 c68) ih)
            | (exact lp_lays_1 (fs_so_1 (Or.inr c47)) (fp_dbt_1 c68) ih)
            | (exact lp_lays_1 (fs_so_1 (Or.inr c47)) (fp_dbt_0 c68) ih)
            | (exact lp_lays_1 (fs_so_0 c42 c47) (fp_dbt_1 c68) ih)
            | (exact lp_lays_1 (fs_so_0 c42 c47) (fp_dbt_0 c68) ih)
        · refine fw_iconst h (nI 0) rfl (by decide) ?_
          refine fw_goto h rfl ?_
          first | refine fn_iadd h rfl ?_ | refine fw_iadd h rfl ?_
          refine fw_istore_n h [_, _, _, _, _, _, _] rfl rfl rfl rfl ?_
          first | refine fn_iinc h [_, _, _, _, _, _, _] rfl rfl rfl rfl rfl ?_ | refine fw_iinc h 1 [_, _, _, _, _, _, _] rfl (by decide) rfl rfl rfl rfl ?_
          refine fw_goto h rfl ?_
          first
            | (exact lp_lays_1 (fs_so_1 (Or.inl c42)) (fp_dbt_1 c68) ih)
            | (exact lp_lays_1 (fs_so_1 (Or.inl c42)) (fp_dbt_0 c68) ih)
            | (exact lp_lays_1 (fs_so_1 (Or.inr c47)) (fp_dbt_1 c68) ih)
            | (exact lp_lays_1 (fs_so_1 (Or.inr c47)) (fp_dbt_0 c68) ih)
            | (exact lp_lays_1 (fs_so_0 c42 c47) (fp_dbt_1 c68) ih)
            | (exact lp_lays_1 (fs_so_0 c42 c47) (fp_dbt_0 c68) ih)
