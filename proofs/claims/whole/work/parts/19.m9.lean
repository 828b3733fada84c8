theorem fp_force_cg {f g : Nat → Int32} {y : Int32} : ∀ {n : Nat}, n < 2 ^ 31 → (∀ k, k < n → f k = g k) → fp_force f y n = fp_force g y n
  | 0, _, _ => rfl
  | n + 1, hn, h => by
    have ih := fp_force_cg (f := f) (g := g) (y := y) (n := n) (by omega) (fun k hk => h k (by omega))
    rw [fp_force, fp_force, ← ih, ← h n (by omega)]
    rcases fp_force_in f y n with e | ⟨j, hj, e⟩
    · rw [e]
      have h1 : (-9 : Int32) < 0 := by decide
      simp only [h1, true_or]
    · rw [e, nI_clamp (by omega), h j (by omega)]
def fs_tn (D : Nat → Nat → Int32) (nx d : Nat) : Int32 := fp_force (D 13) (D 6 d) nx
theorem fs_tn_in (D : Nat → Nat → Int32) (nx d : Nat) : fs_tn D nx d = -9 ∨ ∃ j, j < nx ∧ fs_tn D nx d = nI j := fp_force_in _ _ _
theorem fs_tn_m {w : fb_Wd} {nx d : Nat} (hn : nx ≤ 8) : fp_force (w.1 64) (w.1 57 d) nx = fs_tn (mD w) nx d := fp_force_cg (by omega) (fun k hk => (if_pos (show k < 8 by omega)).symm)
noncomputable def fs_sn (D : Nat → Nat → Int32) (nt nx d m : Nat) (r : Nat) : Int32 := fs_sx D (D 14) (D 15) (D 16) nt d m (fs_tn D nx d) r
noncomputable def fs_vn (D : Nat → Nat → Int32) (nt nx d m : Nat) (r : Nat) : Int32 := fs_val D nt (fs_sn D nt nx d m r)
noncomputable def fs_qn (D : Nat → Nat → Int32) (nt nx d m : Nat) : Nat := fp_mn (fs_vn D nt nx d m) (2 ^ fp_dbt (D 12) d m)
theorem fs_sn_m {w : fb_Wd} {nt nx d m : Nat} (hn : nx ≤ 8) : fs_sx (mD w) (w.1 65) (w.1 66) (w.1 67) nt d m (fs_tn (mD w) nx d) = fs_sn (mD w) nt nx d m := by
  funext r
  unfold fs_sn fs_sx fs_fx
  rcases fs_tn_in (mD w) nx d with e | ⟨j, hj, e⟩
  · rw [e, if_pos rfl, if_pos rfl]
  · rw [e, if_neg (nI_ne9 (by omega)), if_neg (nI_ne9 (by omega)), nI_clamp (by omega)]
    rw [show mD w 14 j = w.1 65 j from if_pos (by omega), show mD w 15 j = w.1 66 j from if_pos (by omega), show mD w 16 j = w.1 67 j from if_pos (by omega)]
theorem fs_vn_m {w : fb_Wd} {nt nx d m : Nat} (hn : nx ≤ 8) : fs_vx (mD w) (w.1 65) (w.1 66) (w.1 67) nt d m (fs_tn (mD w) nx d) = fs_vn (mD w) nt nx d m := by
  funext r
  unfold fs_vx fs_vn
  rw [fs_sn_m hn]
noncomputable def fs_sc (D : Nat → Nat → Int32) (nt d m : Nat) (r st fr : Int32) (k : Nat) : Int32 := fs_ff D nt d m (nI k) r st fr
noncomputable def fs_vc (D : Nat → Nat → Int32) (nt d m : Nat) (r st fr : Int32) (k : Nat) : Int32 := fs_val D nt (fs_sc D nt d m r st fr k)
noncomputable def fs_qc (D : Nat → Nat → Int32) (nt d m : Nat) (r st fr : Int32) : Nat := fp_mn (fs_vc D nt d m r st fr) (2 ^ fp_dbt (D 12) d m)
theorem fs_sc_m {w : fb_Wd} {nt d m : Nat} : fs_sx (mD w) (w.1 65) (w.1 66) (w.1 67) nt d m (nI 8) = fs_sc (mD w) nt d m (w.1 65 8) (w.1 66 8) (w.1 67 8) := by
  funext r
  unfold fs_sc fs_sx fs_fx
  rw [if_neg (nI_ne9 (by omega)), nI_clamp (by omega)]
theorem fs_vc_m {w : fb_Wd} {nt d m : Nat} : fs_vx (mD w) (w.1 65) (w.1 66) (w.1 67) nt d m (nI 8) = fs_vc (mD w) nt d m (w.1 65 8) (w.1 66 8) (w.1 67 8) := by
  funext r
  unfold fs_vx fs_vc
  rw [fs_sc_m]
theorem c_X8_layDueC {l : Launch} {w : fb_Wd} {P : fb_Wd → Prop} {d nt nd nx ng m : Nat} (hN : fd_N (mD w) nt nd nx ng) (hT : fd_T (mD w) nt) (hA : fd_A (mD w) nt d m) (hd : d < 12) (hp : ∀ w', sD w w' → w'.1 46 32 = nI (fs_qc (mD w) nt d m (w.1 65 8) (w.1 66 8) (w.1 67 8)) → w'.1 46 33 = fs_sc (mD w) nt d m (w.1 65 8) (w.1 66 8) (w.1 67 8) (fs_qc (mD w) nt d m (w.1 65 8) (w.1 66 8) (w.1 67 8)) → w'.1 46 34 = fs_vc (mD w) nt d m (w.1 65 8) (w.1 66 8) (w.1 67 8) (fs_qc (mD w) nt d m (w.1 65 8) (w.1 66 8) (w.1 67 8)) → P w') : fb_Can l tX8_layDue [.ref 46, .int (nI d), .int (nI 8)] w (fb_kV P) := by
  refine c_X8_layDue hN hT hA hd (Or.inr ⟨8, by omega, rfl⟩) ?_
  rw [fs_sc_m, fs_vc_m]
  exact hp
theorem c_X8_layDueNow {l : Launch} {w : fb_Wd} {P : fb_Wd → Prop} {d nt nd nx ng m : Nat} (hN : fd_N (mD w) nt nd nx ng) (hT : fd_T (mD w) nt) (hA : fd_A (mD w) nt d m) (hd : d < 12) (hp : ∀ w', sD w w' → w'.1 46 32 = nI (fs_qn (mD w) nt nx d m) → w'.1 46 33 = fs_sn (mD w) nt nx d m (fs_qn (mD w) nt nx d m) → w'.1 46 34 = fs_vn (mD w) nt nx d m (fs_qn (mD w) nt nx d m) → P w') : fb_Can l tX8_layDueNow [.ref 46, .int (nI d)] w (fb_kV P) := by
  refine fb_intro 0 fk_t_X8_layDueNow (by decide) rfl (fun X hX h => ?_)
  subst hX
  change fb_AW tX8_layDueNow X 0 [some (.ref 46), some (.int (nI d))] [] w
  refine fw_aload_n h rfl rfl ?_
  refine fw_iload_n h rfl rfl ?_
  refine fw_aload_n h rfl rfl ?_
  refine fw_aload_n h rfl rfl ?_
  refine fw_getR _ h rfl fk_g_X8_44 rfl rfl ?_
  refine fw_iload_n h rfl rfl ?_
  refine fn_ialdF (w.1 57) h rfl rfl (rfl) (by omega) rfl ?_
  refine fw_v1I h rfl fk_v_X8_forceIn fk_l_X8_233 rfl rfl rfl rfl ?_
  refine c_X8_forceIn hN.2.2.1.1 hN.2.2.1.2 ?_
  rw [fs_tn_m hN.2.2.1.2]
  refine fw_v2V h rfl fk_v_X8_layDue fk_l_X8_252 rfl rfl rfl rfl ?_
  refine c_X8_layDue hN hT hA hd ((fs_tn_in _ _ _).imp id (fun ⟨j, hj, e⟩ => ⟨j, by have := hN.2.2.1.2; omega, e⟩)) ?_
  rw [fs_sn_m hN.2.2.1.2, fs_vn_m hN.2.2.1.2]
  intro w2 hs2 q1 q2 q3
  exact fw_vret h rfl rfl ⟨rfl, hp w2 hs2 q1 q2 q3⟩
theorem fp_nand1 {a : Bool} {q : Prop} (h : a = false) : ¬ (a = true ∧ q) := fun z => by rw [h] at z; exact absurd z.1 (by decide)
theorem fp_nand2 {p a b : Prop} (h1 : ¬ a) (h2 : ¬ b) : ¬ (p ∧ (a ∨ b)) := fun z => z.2.elim h1 h2
theorem fp_sum_s {g : Nat → Int32} {i : Nat} {x : Int32} (e : g i = x) : fp_sum g (i + 1) = fp_sum g i + x := by rw [fp_sum, e]
def fs_vs (D : Nat → Nat → Int32) (nt : Nat) (so s : Int32) : Int32 := fp_sum (fun t => if bt s t = true ∧ (so = nI 10 ∨ D 1 t = so) then fp_price (D 3) (D 2) nt t else nI 0) nt
theorem c_X8_valueOfSort {l : Launch} {w : fb_Wd} {P : Int32 → fb_Wd → Prop} {s so : Int32} {n : Nat} (hn : n ≤ 20) (hnt : w.1 46 8 = nI n) (hwh : fp_wh n (w.1 54)) (hp : P (fs_vs (mD w) n so s) w) : fb_Can l tX8_valueOfSort [.ref 46, .int s, .int so] w (fb_kI P) := by
  refine fb_intro 2 fk_t_X8_valueOfSort (by decide) rfl (fun X hX h => ?_)
  subst hX
  change fb_AW tX8_valueOfSort X 0 [some (.ref 46), some (.int s), some (.int so), none, none] [] w
  refine fw_iconst h (nI 0) rfl (by decide) ?_
  refine fw_istore_n h [_, _, _, _, _] rfl rfl rfl rfl ?_
  refine fw_iconst h (nI 0) rfl (by decide) ?_
  refine fw_istore h [_, _, _, _, _] rfl rfl rfl rfl ?_
  refine fb_loop (fun i => fb_AW tX8_valueOfSort X 5 [some (.ref 46), some (.int s), some (.int so), some (.int (fp_sum (fun t => if bt s t = true ∧ (so = nI 10 ∨ w.1 52 t = so) then fp_price (w.1 54) (w.1 53) n t else nI 0) i)), some (.int (nI i))] [] w) (n) ?_ (fun i hi ih => ?_) 0 (Nat.zero_le _)
  · refine fw_iload h rfl rfl ?_
    refine fw_aload_n h rfl rfl ?_
    refine fw_getI h rfl fk_g_X8_124 rfl rfl ?_
    refine fw_icmp_ge h rfl (fun c11 => ?_) (fun c11 => False.elim (c11 (by rw [hnt]; exact Int32.le_refl _)))
    refine fw_iload_n h rfl rfl ?_
    exact fw_iret h rfl rfl ⟨_, rfl, hp⟩
  · refine fw_iload h rfl rfl ?_
    refine fw_aload_n h rfl rfl ?_
    refine fw_getI h rfl fk_g_X8_124 rfl rfl ?_
    refine fw_icmp_ge h rfl (fun c11 => False.elim (by rw [hnt] at c11; exact nI_ge hi (by omega) c11)) (fun c11 => ?_)
    refine fw_iload_n h rfl rfl ?_
    refine fw_iload_n h rfl rfl ?_
    refine fw_iload h rfl rfl ?_
    refine fw_s2I h rfl fk_s_X8_has fk_l_X8_185 rfl rfl ?_
    refine c_X8_hasN rfl (by omega) (fun c18 => ?_) (fun c18 => ?_)
    · refine fw_if_eq h rfl (fun c => absurd c (by decide)) (fun _ => ?_)
      refine fw_iload_n h rfl rfl ?_
      refine fw_bipush h (nI 10) rfl (by decide) ?_
      refine fw_icmp_eq h rfl (fun c27 => ?_) (fun c27 => ?_)
      · refine fw_aload_n h rfl rfl ?_
        refine fw_iload h rfl rfl ?_
        refine fw_v1I h rfl fk_v_X8_priceOf fk_l_X8_140 rfl rfl rfl rfl ?_
        refine c_X8_priceOf hn hnt hwh (by omega) ?_
        refine fw_goto h rfl ?_
        first | refine fn_iadd h rfl ?_ | refine fw_iadd h rfl ?_
        refine fw_istore_n h [_, _, _, _, _] rfl rfl rfl rfl ?_
        first | refine fn_iinc h [_, _, _, _, _] rfl rfl rfl rfl rfl ?_ | refine fw_iinc h 1 [_, _, _, _, _] rfl (by decide) rfl rfl rfl rfl ?_
        refine fw_goto h rfl ?_
        first
          | (exact fw_cg (congrArg (fun z => [some (Value.ref 46), some (Value.int s), some (Value.int so), some (Value.int z), some (Value.int (nI (i + 1)))]) (fp_sum_s (if_pos (And.intro c18 (Or.inl c27))))) ih)
          | (exact fw_cg (congrArg (fun z => [some (Value.ref 46), some (Value.int s), some (Value.int so), some (Value.int z), some (Value.int (nI (i + 1)))]) (fp_sum_s (if_pos (And.intro c18 (Or.inr c38))))) ih)
          | (exact fw_cg (congrArg (fun z => [some (Value.ref 46), some (Value.int s), some (Value.int so), some (Value.int z), some (Value.int (nI (i + 1)))]) (fp_sum_s (if_neg (fp_nand1 c18)))) ih)
          | (exact fw_cg (congrArg (fun z => [some (Value.ref 46), some (Value.int s), some (Value.int so), some (Value.int z), some (Value.int (nI (i + 1)))]) (fp_sum_s (if_neg (fp_nand2 c27 c38)))) ih)
      · refine fw_aload_n h rfl rfl ?_
        refine fw_getR _ h rfl fk_g_X8_29 rfl rfl ?_
        refine fw_iload h rfl rfl ?_
        refine fn_iald h rfl rfl (by omega) rfl ?_
        refine fw_iload_n h rfl rfl ?_
        refine fw_icmp_ne h rfl (fun c38 => ?_) (fun c38 => ?_)
        · refine fw_iconst h (nI 0) rfl (by decide) ?_
          first | refine fn_iadd h rfl ?_ | refine fw_iadd h rfl ?_
          refine fw_istore_n h [_, _, _, _, _] rfl rfl rfl rfl ?_
          first | refine fn_iinc h [_, _, _, _, _] rfl rfl rfl rfl rfl ?_ | refine fw_iinc h 1 [_, _, _, _, _] rfl (by decide) rfl rfl rfl rfl ?_
          refine fw_goto h rfl ?_
          first
            | (exact fw_cg (congrArg (fun z => [some (Value.ref 46), some (Value.int s), some (Value.int so), some (Value.int z), some (Value.int (nI (i + 1)))]) (fp_sum_s (if_pos (And.intro c18 (Or.inl c27))))) ih)
            | (exact fw_cg (congrArg (fun z => [some (Value.ref 46), some (Value.int s), some (Value.int so), some (Value.int z), some (Value.int (nI (i + 1)))]) (fp_sum_s (if_pos (And.intro c18 (Or.inr c38))))) ih)
            | (exact fw_cg (congrArg (fun z => [some (Value.ref 46), some (Value.int s), some (Value.int so), some (Value.int z), some (Value.int (nI (i + 1)))]) (fp_sum_s (if_neg (fp_nand1 c18)))) ih)
            | (exact fw_cg (congrArg (fun z => [some (Value.ref 46), some (Value.int s), some (Value.int so), some (Value.int z), some (Value.int (nI (i + 1)))]) (fp_sum_s (if_neg (fp_nand2 c27 c38)))) ih)
        · refine fw_aload_n h rfl rfl ?_
          refine fw_iload h rfl rfl ?_
          refine fw_v1I h rfl fk_v_X8_priceOf fk_l_X8_140 rfl rfl rfl rfl ?_
          refine c_X8_priceOf hn hnt hwh (by omega) ?_
          refine fw_goto h rfl ?_
          first | refine fn_iadd h rfl ?_ | refine fw_iadd h rfl ?_
          refine fw_istore_n h [_, _, _, _, _] rfl rfl rfl rfl ?_
          first | refine fn_iinc h [_, _, _, _, _] rfl rfl rfl rfl rfl ?_ | refine fw_iinc h 1 [_, _, _, _, _] rfl (by decide) rfl rfl rfl rfl ?_
          refine fw_goto h rfl ?_
          first
            | (exact fw_cg (congrArg (fun z => [some (Value.ref 46), some (Value.int s), some (Value.int so), some (Value.int z), some (Value.int (nI (i + 1)))]) (fp_sum_s (if_pos (And.intro c18 (Or.inl c27))))) ih)
            | (exact fw_cg (congrArg (fun z => [some (Value.ref 46), some (Value.int s), some (Value.int so), some (Value.int z), some (Value.int (nI (i + 1)))]) (fp_sum_s (if_pos (And.intro c18 (Or.inr c38))))) ih)
            | (exact fw_cg (congrArg (fun z => [some (Value.ref 46), some (Value.int s), some (Value.int so), some (Value.int z), some (Value.int (nI (i + 1)))]) (fp_sum_s (if_neg (fp_nand1 c18)))) ih)
            | (exact fw_cg (congrArg (fun z => [some (Value.ref 46), some (Value.int s), some (Value.int so), some (Value.int z), some (Value.int (nI (i + 1)))]) (fp_sum_s (if_neg (fp_nand2 c27 c38)))) ih)
    · refine fw_if_eq h rfl (fun _ => ?_) (fun c => absurd c (by decide))
      refine fw_iconst h (nI 0) rfl (by decide) ?_
      first | refine fn_iadd h rfl ?_ | refine fw_iadd h rfl ?_
      refine fw_istore_n h [_, _, _, _, _] rfl rfl rfl rfl ?_
      first | refine fn_iinc h [_, _, _, _, _] rfl rfl rfl rfl rfl ?_ | refine fw_iinc h 1 [_, _, _, _, _] rfl (by decide) rfl rfl rfl rfl ?_
      refine fw_goto h rfl ?_
      first
        | (exact fw_cg (congrArg (fun z => [some (Value.ref 46), some (Value.int s), some (Value.int so), some (Value.int z), some (Value.int (nI (i + 1)))]) (fp_sum_s (if_pos (And.intro c18 (Or.inl c27))))) ih)
        | (exact fw_cg (congrArg (fun z => [some (Value.ref 46), some (Value.int s), some (Value.int so), some (Value.int z), some (Value.int (nI (i + 1)))]) (fp_sum_s (if_pos (And.intro c18 (Or.inr c38))))) ih)
        | (exact fw_cg (congrArg (fun z => [some (Value.ref 46), some (Value.int s), some (Value.int so), some (Value.int z), some (Value.int (nI (i + 1)))]) (fp_sum_s (if_neg (fp_nand1 c18)))) ih)
        | (exact fw_cg (congrArg (fun z => [some (Value.ref 46), some (Value.int s), some (Value.int so), some (Value.int z), some (Value.int (nI (i + 1)))]) (fp_sum_s (if_neg (fp_nand2 c27 c38)))) ih)
def fs_tt (D : Nat → Nat → Int32) (nt t : Nat) : Nat → Int32
  | 0 => D 0 t
  | 1 => D 1 t
  | 2 => D 2 t
  | 3 => D 3 t
  | 4 => nI (fp_top (D 3) t)
  | 5 => fp_price (D 3) (D 2) nt t
  | _ => D 4 t
def fs_dt (D : Nat → Nat → Int32) (d m : Nat) : Nat → Int32
  | 0 => D 5 d
  | 1 => D 6 d
  | 2 => D 7 d
  | 3 => D 8 d
  | 4 => nI (fp_dbt (D 12) d m)
  | _ => nI (2 ^ fp_dbt (D 12) d m)
theorem c_X8_thingTells_0 {l : Launch} {w : fb_Wd} {P : Int32 → fb_Wd → Prop} {t n : Nat} (hn : n ≤ 20) (hnt : w.1 46 8 = nI n) (hwh : fp_wh n (w.1 54)) (ht : t < n) (hp : P (fs_tt (mD w) n t 0) w) : fb_Can l tX8_thingTells [.ref 46, .int (nI t), .int (nI 0)] w (fb_kI P) := by
  refine fb_intro 0 fk_t_X8_thingTells (by decide) rfl (fun X hX h => ?_)
  subst hX
  change fb_AW tX8_thingTells X 0 [some (.ref 46), some (.int (nI t)), some (.int (nI 0))] [] w
  refine fw_iload_n h rfl rfl ?_
  refine fw_swI h (t := 40) rfl (by decide) ?_
  refine fw_aload_n h rfl rfl ?_
  refine fw_getR _ h rfl fk_g_X8_26 rfl rfl ?_
  refine fw_iload_n h rfl rfl ?_
  refine fn_iald h rfl rfl (by omega) rfl ?_
  exact fw_iret h rfl rfl ⟨_, rfl, hp⟩
theorem c_X8_thingTells_1 {l : Launch} {w : fb_Wd} {P : Int32 → fb_Wd → Prop} {t n : Nat} (hn : n ≤ 20) (hnt : w.1 46 8 = nI n) (hwh : fp_wh n (w.1 54)) (ht : t < n) (hp : P (fs_tt (mD w) n t 1) w) : fb_Can l tX8_thingTells [.ref 46, .int (nI t), .int (nI 1)] w (fb_kI P) := by
  refine fb_intro 0 fk_t_X8_thingTells (by decide) rfl (fun X hX h => ?_)
  subst hX
  change fb_AW tX8_thingTells X 0 [some (.ref 46), some (.int (nI t)), some (.int (nI 1))] [] w
  refine fw_iload_n h rfl rfl ?_
  refine fw_swI h (t := 47) rfl (by decide) ?_
  refine fw_aload_n h rfl rfl ?_
  refine fw_getR _ h rfl fk_g_X8_29 rfl rfl ?_
  refine fw_iload_n h rfl rfl ?_
  refine fn_iald h rfl rfl (by omega) rfl ?_
  exact fw_iret h rfl rfl ⟨_, rfl, hp⟩
theorem c_X8_thingTells_2 {l : Launch} {w : fb_Wd} {P : Int32 → fb_Wd → Prop} {t n : Nat} (hn : n ≤ 20) (hnt : w.1 46 8 = nI n) (hwh : fp_wh n (w.1 54)) (ht : t < n) (hp : P (fs_tt (mD w) n t 2) w) : fb_Can l tX8_thingTells [.ref 46, .int (nI t), .int (nI 2)] w (fb_kI P) := by
  refine fb_intro 0 fk_t_X8_thingTells (by decide) rfl (fun X hX h => ?_)
  subst hX
  change fb_AW tX8_thingTells X 0 [some (.ref 46), some (.int (nI t)), some (.int (nI 2))] [] w
  refine fw_iload_n h rfl rfl ?_
  refine fw_swI h (t := 54) rfl (by decide) ?_
  refine fw_aload_n h rfl rfl ?_
  refine fw_getR _ h rfl fk_g_X8_32 rfl rfl ?_
  refine fw_iload_n h rfl rfl ?_
  refine fn_iald h rfl rfl (by omega) rfl ?_
  exact fw_iret h rfl rfl ⟨_, rfl, hp⟩
theorem c_X8_thingTells_3 {l : Launch} {w : fb_Wd} {P : Int32 → fb_Wd → Prop} {t n : Nat} (hn : n ≤ 20) (hnt : w.1 46 8 = nI n) (hwh : fp_wh n (w.1 54)) (ht : t < n) (hp : P (fs_tt (mD w) n t 3) w) : fb_Can l tX8_thingTells [.ref 46, .int (nI t), .int (nI 3)] w (fb_kI P) := by
  refine fb_intro 0 fk_t_X8_thingTells (by decide) rfl (fun X hX h => ?_)
  subst hX
  change fb_AW tX8_thingTells X 0 [some (.ref 46), some (.int (nI t)), some (.int (nI 3))] [] w
  refine fw_iload_n h rfl rfl ?_
  refine fw_swI h (t := 61) rfl (by decide) ?_
  refine fw_aload_n h rfl rfl ?_
  refine fw_getR _ h rfl fk_g_X8_35 rfl rfl ?_
  refine fw_iload_n h rfl rfl ?_
  refine fn_iald h rfl rfl (by omega) rfl ?_
  exact fw_iret h rfl rfl ⟨_, rfl, hp⟩
theorem c_X8_thingTells_4 {l : Launch} {w : fb_Wd} {P : Int32 → fb_Wd → Prop} {t n : Nat} (hn : n ≤ 20) (hnt : w.1 46 8 = nI n) (hwh : fp_wh n (w.1 54)) (ht : t < n) (hp : P (fs_tt (mD w) n t 4) w) : fb_Can l tX8_thingTells [.ref 46, .int (nI t), .int (nI 4)] w (fb_kI P) := by
  refine fb_intro 0 fk_t_X8_thingTells (by decide) rfl (fun X hX h => ?_)
  subst hX
  change fb_AW tX8_thingTells X 0 [some (.ref 46), some (.int (nI t)), some (.int (nI 4))] [] w
  refine fw_iload_n h rfl rfl ?_
  refine fw_swI h (t := 68) rfl (by decide) ?_
  refine fw_aload_n h rfl rfl ?_
  refine fw_iload_n h rfl rfl ?_
  refine fw_v1I h rfl fk_v_X8_topOf fk_l_X8_137 rfl rfl rfl rfl ?_
  refine c_X8_topOf hn hwh ht ?_
  exact fw_iret h rfl rfl ⟨_, rfl, hp⟩
theorem c_X8_thingTells_5 {l : Launch} {w : fb_Wd} {P : Int32 → fb_Wd → Prop} {t n : Nat} (hn : n ≤ 20) (hnt : w.1 46 8 = nI n) (hwh : fp_wh n (w.1 54)) (ht : t < n) (hp : P (fs_tt (mD w) n t 5) w) : fb_Can l tX8_thingTells [.ref 46, .int (nI t), .int (nI 5)] w (fb_kI P) := by
  refine fb_intro 0 fk_t_X8_thingTells (by decide) rfl (fun X hX h => ?_)
  subst hX
  change fb_AW tX8_thingTells X 0 [some (.ref 46), some (.int (nI t)), some (.int (nI 5))] [] w
  refine fw_iload_n h rfl rfl ?_
  refine fw_swI h (t := 74) rfl (by decide) ?_
  refine fw_aload_n h rfl rfl ?_
  refine fw_iload_n h rfl rfl ?_
  refine fw_v1I h rfl fk_v_X8_priceOf fk_l_X8_140 rfl rfl rfl rfl ?_
  refine c_X8_priceOf hn hnt hwh (by omega) ?_
  exact fw_iret h rfl rfl ⟨_, rfl, hp⟩
theorem c_X8_thingTells_6 {l : Launch} {w : fb_Wd} {P : Int32 → fb_Wd → Prop} {t n : Nat} (hn : n ≤ 20) (hnt : w.1 46 8 = nI n) (hwh : fp_wh n (w.1 54)) (ht : t < n) (hp : P (fs_tt (mD w) n t 6) w) : fb_Can l tX8_thingTells [.ref 46, .int (nI t), .int (nI 6)] w (fb_kI P) := by
  refine fb_intro 0 fk_t_X8_thingTells (by decide) rfl (fun X hX h => ?_)
  subst hX
  change fb_AW tX8_thingTells X 0 [some (.ref 46), some (.int (nI t)), some (.int (nI 6))] [] w
  refine fw_iload_n h rfl rfl ?_
  refine fw_swO h rfl (by decide) ?_
  refine fw_aload_n h rfl rfl ?_
  refine fw_getR _ h rfl fk_g_X8_38 rfl rfl ?_
  refine fw_iload_n h rfl rfl ?_
  refine fn_iald h rfl rfl (by omega) rfl ?_
  exact fw_iret h rfl rfl ⟨_, rfl, hp⟩
theorem c_X8_thingTells {l : Launch} {w : fb_Wd} {P : Int32 → fb_Wd → Prop} {t n : Nat} (hn : n ≤ 20) (hnt : w.1 46 8 = nI n) (hwh : fp_wh n (w.1 54)) (ht : t < n) {q : Nat} (hq : q ≤ 6) (hp : P (fs_tt (mD w) n t q) w) : fb_Can l tX8_thingTells [.ref 46, .int (nI t), .int (nI q)] w (fb_kI P) := by
  rcases (show q = 0 ∨ q = 1 ∨ q = 2 ∨ q = 3 ∨ q = 4 ∨ q = 5 ∨ q = 6 by omega) with rfl | rfl | rfl | rfl | rfl | rfl | rfl
  · exact c_X8_thingTells_0 hn hnt hwh ht hp
  · exact c_X8_thingTells_1 hn hnt hwh ht hp
  · exact c_X8_thingTells_2 hn hnt hwh ht hp
  · exact c_X8_thingTells_3 hn hnt hwh ht hp
  · exact c_X8_thingTells_4 hn hnt hwh ht hp
  · exact c_X8_thingTells_5 hn hnt hwh ht hp
  · exact c_X8_thingTells_6 hn hnt hwh ht hp
theorem c_X8_deathTells_0 {l : Launch} {w : fb_Wd} {P : Int32 → fb_Wd → Prop} {d m : Nat} (hd : d < 12) (hm : w.1 59 d = nI m) (hm2 : m ≤ 10) (hp : P (fs_dt (mD w) d m 0) w) : fb_Can l tX8_deathTells [.ref 46, .int (nI d), .int (nI 0)] w (fb_kI P) := by
  refine fb_intro 0 fk_t_X8_deathTells (by decide) rfl (fun X hX h => ?_)
  subst hX
  change fb_AW tX8_deathTells X 0 [some (.ref 46), some (.int (nI d)), some (.int (nI 0))] [] w
  refine fw_iload_n h rfl rfl ?_
  refine fw_swI h (t := 36) rfl (by decide) ?_
  refine fw_aload_n h rfl rfl ?_
  refine fw_getR _ h rfl fk_g_X8_41 rfl rfl ?_
  refine fw_iload_n h rfl rfl ?_
  refine fn_iald h rfl rfl (by omega) rfl ?_
  exact fw_iret h rfl rfl ⟨_, rfl, hp⟩
theorem c_X8_deathTells_1 {l : Launch} {w : fb_Wd} {P : Int32 → fb_Wd → Prop} {d m : Nat} (hd : d < 12) (hm : w.1 59 d = nI m) (hm2 : m ≤ 10) (hp : P (fs_dt (mD w) d m 1) w) : fb_Can l tX8_deathTells [.ref 46, .int (nI d), .int (nI 1)] w (fb_kI P) := by
  refine fb_intro 0 fk_t_X8_deathTells (by decide) rfl (fun X hX h => ?_)
  subst hX
  change fb_AW tX8_deathTells X 0 [some (.ref 46), some (.int (nI d)), some (.int (nI 1))] [] w
  refine fw_iload_n h rfl rfl ?_
  refine fw_swI h (t := 43) rfl (by decide) ?_
  refine fw_aload_n h rfl rfl ?_
  refine fw_getR _ h rfl fk_g_X8_44 rfl rfl ?_
  refine fw_iload_n h rfl rfl ?_
  refine fn_iald h rfl rfl (by omega) rfl ?_
  exact fw_iret h rfl rfl ⟨_, rfl, hp⟩
theorem c_X8_deathTells_2 {l : Launch} {w : fb_Wd} {P : Int32 → fb_Wd → Prop} {d m : Nat} (hd : d < 12) (hm : w.1 59 d = nI m) (hm2 : m ≤ 10) (hp : P (fs_dt (mD w) d m 2) w) : fb_Can l tX8_deathTells [.ref 46, .int (nI d), .int (nI 2)] w (fb_kI P) := by
  refine fb_intro 0 fk_t_X8_deathTells (by decide) rfl (fun X hX h => ?_)
  subst hX
  change fb_AW tX8_deathTells X 0 [some (.ref 46), some (.int (nI d)), some (.int (nI 2))] [] w
  refine fw_iload_n h rfl rfl ?_
  refine fw_swI h (t := 50) rfl (by decide) ?_
  refine fw_aload_n h rfl rfl ?_
  refine fw_getR _ h rfl fk_g_X8_47 rfl rfl ?_
  refine fw_iload_n h rfl rfl ?_
  refine fn_iald h rfl rfl (by omega) rfl ?_
  exact fw_iret h rfl rfl ⟨_, rfl, hp⟩
theorem c_X8_deathTells_3 {l : Launch} {w : fb_Wd} {P : Int32 → fb_Wd → Prop} {d m : Nat} (hd : d < 12) (hm : w.1 59 d = nI m) (hm2 : m ≤ 10) (hp : P (fs_dt (mD w) d m 3) w) : fb_Can l tX8_deathTells [.ref 46, .int (nI d), .int (nI 3)] w (fb_kI P) := by
  refine fb_intro 0 fk_t_X8_deathTells (by decide) rfl (fun X hX h => ?_)
  subst hX
  change fb_AW tX8_deathTells X 0 [some (.ref 46), some (.int (nI d)), some (.int (nI 3))] [] w
  refine fw_iload_n h rfl rfl ?_
  refine fw_swI h (t := 57) rfl (by decide) ?_
  refine fw_aload_n h rfl rfl ?_
  refine fw_getR _ h rfl fk_g_X8_50 rfl rfl ?_
  refine fw_iload_n h rfl rfl ?_
  refine fn_iald h rfl rfl (by omega) rfl ?_
  exact fw_iret h rfl rfl ⟨_, rfl, hp⟩
theorem c_X8_deathTells_4 {l : Launch} {w : fb_Wd} {P : Int32 → fb_Wd → Prop} {d m : Nat} (hd : d < 12) (hm : w.1 59 d = nI m) (hm2 : m ≤ 10) (hp : P (fs_dt (mD w) d m 4) w) : fb_Can l tX8_deathTells [.ref 46, .int (nI d), .int (nI 4)] w (fb_kI P) := by
  refine fb_intro 0 fk_t_X8_deathTells (by decide) rfl (fun X hX h => ?_)
  subst hX
  change fb_AW tX8_deathTells X 0 [some (.ref 46), some (.int (nI d)), some (.int (nI 4))] [] w
  refine fw_iload_n h rfl rfl ?_
  refine fw_swI h (t := 64) rfl (by decide) ?_
  refine fw_aload_n h rfl rfl ?_
  refine fw_iload_n h rfl rfl ?_
  refine fw_v1I h rfl fk_v_X8_doubts fk_l_X8_169 rfl rfl rfl rfl ?_
  refine c_X8_doubts hd hm hm2 ?_
  exact fw_iret h rfl rfl ⟨_, rfl, hp⟩
theorem c_X8_deathTells_5 {l : Launch} {w : fb_Wd} {P : Int32 → fb_Wd → Prop} {d m : Nat} (hd : d < 12) (hm : w.1 59 d = nI m) (hm2 : m ≤ 10) (hp : P (fs_dt (mD w) d m 5) w) : fb_Can l tX8_deathTells [.ref 46, .int (nI d), .int (nI 5)] w (fb_kI P) := by
  refine fb_intro 0 fk_t_X8_deathTells (by decide) rfl (fun X hX h => ?_)
  subst hX
  change fb_AW tX8_deathTells X 0 [some (.ref 46), some (.int (nI d)), some (.int (nI 5))] [] w
  refine fw_iload_n h rfl rfl ?_
  refine fw_swO h rfl (by decide) ?_
  refine fw_aload_n h rfl rfl ?_
  refine fw_iload_n h rfl rfl ?_
  refine fw_v1I h rfl fk_v_X8_readings fk_l_X8_176 rfl rfl rfl rfl ?_
  refine c_X8_readings hd hm hm2 ?_
  exact fw_iret h rfl rfl ⟨_, rfl, hp⟩
theorem c_X8_deathTells {l : Launch} {w : fb_Wd} {P : Int32 → fb_Wd → Prop} {d m : Nat} (hd : d < 12) (hm : w.1 59 d = nI m) (hm2 : m ≤ 10) {q : Nat} (hq : q ≤ 5) (hp : P (fs_dt (mD w) d m q) w) : fb_Can l tX8_deathTells [.ref 46, .int (nI d), .int (nI q)] w (fb_kI P) := by
  rcases (show q = 0 ∨ q = 1 ∨ q = 2 ∨ q = 3 ∨ q = 4 ∨ q = 5 by omega) with rfl | rfl | rfl | rfl | rfl | rfl
  · exact c_X8_deathTells_0 hd hm hm2 hp
  · exact c_X8_deathTells_1 hd hm hm2 hp
  · exact c_X8_deathTells_2 hd hm hm2 hp
  · exact c_X8_deathTells_3 hd hm hm2 hp
  · exact c_X8_deathTells_4 hd hm hm2 hp
  · exact c_X8_deathTells_5 hd hm hm2 hp
theorem c_X8_mix {l : Launch} {w : fb_Wd} {P : fb_Wd → Prop} {v : Int32} (hp : P (fb_ul w 46 47 (31 * w.2 46 47 + v.toInt64))) : fb_Can l tX8_mix [.ref 46, .int v] w (fb_kV P) := by
  refine fb_intro 0 fk_t_X8_mix (by decide) rfl (fun X hX h => ?_)
  subst hX
  change fb_AW tX8_mix X 0 [some (.ref 46), some (.int v)] [] w
  refine fw_aload_n h rfl rfl ?_
  refine fw_ldc2 h 31 rfl (fb_mT 1333 (by decide +kernel) (by decide +kernel)) ?_
  refine fw_aload_n h rfl rfl ?_
  refine fw_getL h rfl fk_g_X8_308 rfl rfl ?_
  refine fw_lmul h rfl ?_
  refine fw_iload_n h rfl rfl ?_
  refine fw_i2l h rfl ?_
  refine fw_ladd h rfl ?_
  refine fw_putL h rfl fk_p_X8_308 rfl rfl ?_
  exact fw_vret h rfl rfl ⟨rfl, hp⟩
