def sX (w w' : fb_Wd) : Prop := mD w' = mD w ∧ (∀ c, c < 46 ∨ c = 47 ∨ c = 48 ∨ c = 49 → w'.1 c = w.1 c) ∧ (w'.1 46 0 = w.1 46 0 ∧ w'.1 46 2 = w.1 46 2) ∧ ∀ c k, ¬ (c = 46 ∧ k = 47) → w'.2 c k = w.2 c k
theorem sX.rf (w : fb_Wd) : sX w w := ⟨rfl, fun _ _ => rfl, ⟨rfl, rfl⟩, fun _ _ _ => rfl⟩
theorem sX.tr {a b c : fb_Wd} (h1 : sX a b) (h2 : sX b c) : sX a c := ⟨h2.1.trans h1.1, fun q hq => (h2.2.1 q hq).trans (h1.2.1 q hq), ⟨h2.2.2.1.1.trans h1.2.2.1.1, h2.2.2.1.2.trans h1.2.2.1.2⟩, fun q k hk => (h2.2.2.2 q k hk).trans (h1.2.2.2 q k hk)⟩
theorem sM.toX {p : List Nat} {a b : fb_Wd} (h : sM p a b) (hp : (8 ∉ p ∧ 14 ∉ p ∧ 27 ∉ p ∧ 38 ∉ p) ∧ 0 ∉ p ∧ 2 ∉ p) : sX a b := ⟨h.mD hp.1, fun c hc => h.1 c (by omega), ⟨h.2.1 0 hp.2.1, h.2.1 2 hp.2.2⟩, fun c k _ => by rw [h.2.2]⟩
theorem sW.toX {p : List Nat} {a b : fb_Wd} (h : sW p a b) (hp : (8 ∉ p ∧ 14 ∉ p ∧ 27 ∉ p ∧ 38 ∉ p) ∧ 0 ∉ p ∧ 2 ∉ p) : sX a b := ⟨h.mD hp.1, fun c hc => h.1 c (by omega) (by omega), ⟨h.2.1 0 hp.2.1, h.2.1 2 hp.2.2⟩, fun c k _ => by rw [h.2.2]⟩
theorem sX_text8 (w : fb_Wd) (r z f : Int32) : sX w (fp_setText w 8 r z f) := by
  refine ⟨mD_text8 w r z f, fun c hc => ?_, ⟨rfl, rfl⟩, fun _ _ _ => rfl⟩
  have h1 : ¬ c = 65 := by omega
  have h2 : ¬ c = 66 := by omega
  have h3 : ¬ c = 67 := by omega
  funext k
  simp [fp_setText, fb_up, h1, h2, h3]
theorem sX_ul (w : fb_Wd) (x : Int64) : sX w (fb_ul w 46 47 x) := by
  refine ⟨mD_ul w 46 47 x, fun _ _ => rfl, ⟨rfl, rfl⟩, fun c k hk => ?_⟩
  unfold fb_ul
  by_cases h1 : c = 46
  · have h2 : ¬ k = 47 := fun z => hk ⟨h1, z⟩
    simp [h2]
  · simp [h1]
def fs_ad (su : Nat → Int32) (d q : Nat) : Nat → Nat
  | 0 => 0
  | k + 1 => if su (10 * d + k) = 0 ∧ fp_dbt su d k = q then k else fs_ad su d q k
theorem fs_ad_le (su : Nat → Int32) (d q : Nat) : ∀ k, fs_ad su d q k ≤ k
  | 0 => Nat.le_refl _
  | k + 1 => by
    have := fs_ad_le su d q k
    rw [fs_ad]
    split <;> omega
theorem fs_ad_1 {su : Nat → Int32} {d k : Nat} (h : su (10 * d + k) = 0) : fs_ad su d (fp_dbt su d k) (k + 1) = k := if_pos ⟨h, rfl⟩
theorem fs_ad_0 {su : Nat → Int32} {d q k : Nat} (h : ¬ (su (10 * d + k) = 0 ∧ fp_dbt su d k = q)) : fs_ad su d q (k + 1) = fs_ad su d q k := if_neg h
def fs_wv (s : Nat → Int32) (N q : Nat) : Int32 := if nI (fp_unl s (nI 1 <<< (nI q &&& 31)) (nI 1 <<< (nI q &&& 31)) N) ≤ nI (fp_unl s (nI 1 <<< (nI q &&& 31)) (nI 0) N) then nI (fp_unl s (nI 1 <<< (nI q &&& 31)) (nI 0) N) else nI (fp_unl s (nI 1 <<< (nI q &&& 31)) (nI 1 <<< (nI q &&& 31)) N)
def fs_sI (su : Nat → Int32) (d : Nat) (v : Nat → Int32) (i : Nat) (b f : Int32) : Prop := (fp_dbt su d i = 0 ∧ b = -9) ∨ (0 < fp_dbt su d i ∧ b = nI (fs_ad su d (fp_mn v (fp_dbt su d i)) i) ∧ f = v (fp_mn v (fp_dbt su d i)))
theorem fs_sI_s {su : Nat → Int32} {d i : Nat} {v : Nat → Int32} {b f : Int32} (h : fs_sI su d v i b f) (hs : ¬ su (10 * d + i) = 0) : fs_sI su d v (i + 1) b f := by
  have e : fp_dbt su d (i + 1) = fp_dbt su d i := fp_dbt_0 hs
  unfold fs_sI
  rw [e, fs_ad_0 (fun q => hs q.1)]
  exact h
theorem fs_sI_n {su : Nat → Int32} {d i : Nat} {v : Nat → Int32} {b f : Int32} (h : fs_sI su d v i b f) (hs : su (10 * d + i) = 0) (hi : i < 2 ^ 31) (hv : b < 0 ∨ ¬ f ≤ v (fp_dbt su d i)) : fs_sI su d v (i + 1) (nI i) (v (fp_dbt su d i)) := by
  have e : fp_dbt su d (i + 1) = fp_dbt su d i + 1 := fp_dbt_1 hs
  have em : fp_mn v (fp_dbt su d i + 1) = fp_dbt su d i := by
    rcases h with ⟨h0, -⟩ | ⟨h0, hb, hf⟩
    · rw [h0]; exact fp_mn_b
    · rcases hv with hv | hv
      · have := fs_ad_le su d (fp_mn v (fp_dbt su d i)) i
        exact absurd hv (by rw [hb]; exact nI_pos (by omega))
      · exact fp_mn_1 (by rw [← hf]; exact Int32.not_le.mp hv)
  refine Or.inr ⟨by omega, ?_, ?_⟩
  · rw [e, em, fs_ad_1 hs]
  · rw [e, em]
theorem fs_sI_k {su : Nat → Int32} {d i : Nat} {v : Nat → Int32} {b f : Int32} (h : fs_sI su d v i b f) (hs : su (10 * d + i) = 0) (hb : ¬ b < 0) (hv : f ≤ v (fp_dbt su d i)) : fs_sI su d v (i + 1) b f := by
  have e : fp_dbt su d (i + 1) = fp_dbt su d i + 1 := fp_dbt_1 hs
  rcases h with ⟨h0, z⟩ | ⟨h0, hb2, hf⟩
  · exact absurd (show b < 0 by rw [z]; decide) hb
  · have em : fp_mn v (fp_dbt su d i + 1) = fp_mn v (fp_dbt su d i) := fp_mn_0 (by rw [← hf]; exact hv)
    have hl := fp_mn_lt (v := v) h0
    refine Or.inr ⟨by omega, ?_, ?_⟩
    · rw [e, em, fs_ad_0 (fun q => by have := q.2; omega)]; exact hb2
    · rw [e, em]; exact hf
theorem c_X8_settle {l : Launch} {w : fb_Wd} {P : Int32 → fb_Wd → Prop} {nt nd nx ng : Nat} (hN : fd_N (mD w) nt nd nx ng) (hT : fd_T (mD w) nt) (hAA : ∀ d, d < nd → fd_A (mD w) nt d (fd_m (mD w) d)) {d : Int32} (hb : ¬ (∃ j, j < nd ∧ d = nI j) → P (-1) w) (hn : ∀ j, j < nd → d = nI j → fp_dbt (mD w 12) j (fd_m (mD w) j) = 0 → ∀ w', sW [23, 24, 25, 26] w w' → P (-9) w') (hg : ∀ j, j < nd → d = nI j → 0 < fp_dbt (mD w 12) j (fd_m (mD w) j) → ∀ w', sW [23, 24, 25, 26] w w' → P (nI (fs_ad (mD w 12) j (fp_mn (fs_wv (fs_sn (mD w) nt nx j (fd_m (mD w) j)) (2 ^ fp_dbt (mD w 12) j (fd_m (mD w) j))) (fp_dbt (mD w 12) j (fd_m (mD w) j))) (fd_m (mD w) j))) (fb_up w' 46 2 ((fs_wv (fs_sn (mD w) nt nx j (fd_m (mD w) j)) (2 ^ fp_dbt (mD w 12) j (fd_m (mD w) j))) (fp_mn (fs_wv (fs_sn (mD w) nt nx j (fd_m (mD w) j)) (2 ^ fp_dbt (mD w 12) j (fd_m (mD w) j))) (fp_dbt (mD w 12) j (fd_m (mD w) j)))))) : fb_Can l tX8_settle [.ref 46, .int d] w (fb_kI P) := by
  refine fb_intro 7 fk_t_X8_settle (by decide) rfl (fun X hX h => ?_)
  subst hX
  change fb_AW tX8_settle X 0 [some (.ref 46), some (.int d), none, none, none, none, none, none, none] [] w
  refine fw_aload_n h rfl rfl ?_
  refine fw_iload_n h rfl rfl ?_
  refine fw_v1I h rfl fk_v_X8_isDeath fk_l_X8_163 rfl rfl rfl rfl ?_
  refine c_X8_isDeath hN.2.1.1 (by have := hN.2.1.2; omega) (fun j hj e => ?_) (fun c2 => ?_)
  · refine fw_if_ne h rfl (fun _ => ?_) (fun c => absurd c (by decide))
    subst e
    have hnd := hN.2.1.2
    have h5 : fp_dbt (mD w 12) j (fd_m (mD w) j) ≤ 5 := (hAA j hj).2.2.2
    have h32 : 2 ^ fp_dbt (mD w 12) j (fd_m (mD w) j) ≤ 2 ^ 5 := Nat.pow_le_pow_right (by decide) h5
    refine fw_aload_n h rfl rfl ?_
    refine fw_iload_n h rfl rfl ?_
    refine fw_v1V h rfl fk_v_X8_laySets fk_l_X8_258 rfl rfl rfl rfl ?_
    refine c_X8_laySets hN hT (hAA j hj) (by omega) (fun w2 hs2 hq => ?_)
    have eD2 : mD w2 = mD w := sW.mD hs2 (by decide)
    have hA2 : fd_A (mD w2) nt j (fd_m (mD w) j) := by rw [eD2]; exact hAA j hj
    have hm10 := hA2.2.1
    refine fw_bipush h (-9) rfl (by decide) ?_
    refine fw_istore_n h [_, _, _, _, _, _, _, _, _] rfl rfl rfl rfl ?_
    refine fw_iconst h (nI 0) rfl (by decide) ?_
    refine fw_istore_n h [_, _, _, _, _, _, _, _, _] rfl rfl rfl rfl ?_
    refine fw_iconst h (nI 0) rfl (by decide) ?_
    refine fw_istore h [_, _, _, _, _, _, _, _, _] rfl rfl rfl rfl ?_
    refine fw_iconst h (nI 0) rfl (by decide) ?_
    refine fw_istore h [_, _, _, _, _, _, _, _, _] rfl rfl rfl rfl ?_
    refine (?_ : ∀ b f, fs_sI (mD w 12) j (fs_wv (fs_sn (mD w) nt nx j (fd_m (mD w) j)) (2 ^ fp_dbt (mD w 12) j (fd_m (mD w) j))) 0 b f → fb_AW tX8_settle X 26 [some (.ref 46), some (.int (nI j)), some (.int b), some (.int f), some (.int (nI (fp_dbt (mD w 12) j 0))), some (.int (nI 0)), none, none, none] [] w2) (-9) (nI 0) (Or.inl ⟨rfl, rfl⟩)
    refine fb_loop (fun i => ∀ b f, fs_sI (mD w 12) j (fs_wv (fs_sn (mD w) nt nx j (fd_m (mD w) j)) (2 ^ fp_dbt (mD w 12) j (fd_m (mD w) j))) i b f → fb_AW tX8_settle X 26 [some (.ref 46), some (.int (nI j)), some (.int b), some (.int f), some (.int (nI (fp_dbt (mD w 12) j i))), some (.int (nI i)), none, none, none] [] w2) (fd_m (mD w) j) ?_ (fun i hi ih => ?_) 0 (Nat.zero_le _)
    · intro b f hI
      refine fw_iload h rfl rfl ?_
      refine fw_aload_n h rfl rfl ?_
      refine fw_getR _ h rfl fk_g_X8_50 rfl rfl ?_
      refine fw_iload_n h rfl rfl ?_
      refine fn_iald h rfl rfl (by omega) rfl ?_
      refine fw_icmp_ge h rfl (fun c34 => ?_) (fun c34 => False.elim (c34 (by rw [show w2.1 59 j = nI (fd_m (mD w) j) from hA2.1]; exact Int32.le_refl _)))
      rcases hI with ⟨z0, rfl⟩ | ⟨z0, rfl, rfl⟩
      · refine fw_iload_n h rfl rfl ?_
        refine fw_if_ge h rfl (fun c129 => False.elim (absurd c129 (by decide))) (fun c129 => ?_)
        refine fw_bipush h (-9) rfl (by decide) ?_
        refine fw_goto h rfl ?_
        exact fw_iret h rfl rfl ⟨_, rfl, hn j hj rfl z0 w2 hs2⟩
      · refine fw_iload_n h rfl rfl ?_
        refine fw_if_ge h rfl (fun c129 => ?_) (fun c129 => False.elim (c129 (nI_pos' (by have := fs_ad_le (mD w 12) j (fp_mn (fs_wv (fs_sn (mD w) nt nx j (fd_m (mD w) j)) (2 ^ fp_dbt (mD w 12) j (fd_m (mD w) j))) (fp_dbt (mD w 12) j (fd_m (mD w) j))) (fd_m (mD w) j); omega))))
        refine fw_aload_n h rfl rfl ?_
        refine fw_iload_n h rfl rfl ?_
        refine fw_iload_n h rfl rfl ?_
        refine fw_v2I h rfl fk_v_X8_ask fk_l_X8_147 rfl rfl rfl rfl ?_
        refine c_X8_ask ?_
        exact fw_iret h rfl rfl ⟨_, rfl, hg j hj rfl z0 w2 hs2⟩
    · intro b f hI
      refine fw_iload h rfl rfl ?_
      refine fw_aload_n h rfl rfl ?_
      refine fw_getR _ h rfl fk_g_X8_50 rfl rfl ?_
      refine fw_iload_n h rfl rfl ?_
      refine fn_ialdF (w.1 59) h rfl rfl (hs2.1 59 (by decide) (by decide)) (by omega) rfl ?_
      refine fw_icmp_ge h rfl (fun c34 => False.elim (nI_ge hi (by omega) (by rw [← show w.1 59 j = nI (fd_m (mD w) j) from (hAA j hj).1]; exact c34))) (fun c34 => ?_)
      refine fw_aload_n h rfl rfl ?_
      refine fw_getR _ h rfl fk_g_X8_62 rfl rfl ?_
      refine fw_bipush h (nI 10) rfl (by decide) ?_
      refine fw_iload_n h rfl rfl ?_
      first | refine fn_imul h rfl ?_ | refine fw_imul h rfl ?_
      refine fw_iload h rfl rfl ?_
      first | refine fn_iadd h rfl ?_ | refine fw_iadd h rfl ?_
      refine fn_zaldF (w.1 63) h rfl rfl (hs2.1 63 (by decide) (by decide)) (by omega) rfl ?_
      refine fw_if_ne h rfl (fun c49 => ?_) (fun c49 => ?_)
      · first | refine fn_iinc h [_, _, _, _, _, _, _, _, _] rfl rfl rfl rfl rfl ?_ | refine fw_iinc h 1 [_, _, _, _, _, _, _, _, _] rfl (by decide) rfl rfl rfl rfl ?_
        refine fw_goto h rfl ?_
        have ed : nI (fp_dbt (mD w 12) j (i + 1)) = nI (fp_dbt (mD w 12) j i) := congrArg nI (fp_dbt_0 c49)
        rw [← ed]
        exact ih b f (fs_sI_s hI c49)
      · refine fw_aload_n h rfl rfl ?_
        refine fw_aload_n h rfl rfl ?_
        refine fw_iload_n h rfl rfl ?_
        refine fw_v1I h rfl fk_v_X8_readings fk_l_X8_176 rfl rfl rfl rfl ?_
        refine c_X8_readings (by omega) hA2.1 hA2.2.1 ?_
        rw [show fp_dbt (w2.1 63) j (fd_m (mD w) j) = fp_dbt (mD w 12) j (fd_m (mD w) j) by rw [hs2.1 63 (by decide) (by decide)]; rfl]
        refine fw_iconst h (nI 1) rfl (by decide) ?_
        refine fw_iload h rfl rfl ?_
        refine fw_ishl h rfl ?_
        refine fw_iconst h (nI 0) rfl (by decide) ?_
        refine fw_v3I h rfl fk_v_X8_unlikeOf fk_l_X8_261 rfl rfl rfl rfl ?_
        refine c_X8_unlikeOf (by omega) ?_
        rw [fp_unl_cg (n := 2 ^ fp_dbt (mD w 12) j (fd_m (mD w) j)) hq]
        refine fw_istore h [_, _, _, _, _, _, _, _, _] rfl rfl rfl rfl ?_
        refine fw_aload_n h rfl rfl ?_
        refine fw_aload_n h rfl rfl ?_
        refine fw_iload_n h rfl rfl ?_
        refine fw_v1I h rfl fk_v_X8_readings fk_l_X8_176 rfl rfl rfl rfl ?_
        refine c_X8_readings (by omega) hA2.1 hA2.2.1 ?_
        rw [show fp_dbt (w2.1 63) j (fd_m (mD w) j) = fp_dbt (mD w 12) j (fd_m (mD w) j) by rw [hs2.1 63 (by decide) (by decide)]; rfl]
        refine fw_iconst h (nI 1) rfl (by decide) ?_
        refine fw_iload h rfl rfl ?_
        refine fw_ishl h rfl ?_
        refine fw_iconst h (nI 1) rfl (by decide) ?_
        refine fw_iload h rfl rfl ?_
        refine fw_ishl h rfl ?_
        refine fw_v3I h rfl fk_v_X8_unlikeOf fk_l_X8_261 rfl rfl rfl rfl ?_
        refine c_X8_unlikeOf (by omega) ?_
        rw [fp_unl_cg (n := 2 ^ fp_dbt (mD w 12) j (fd_m (mD w) j)) hq]
        refine fw_istore h [_, _, _, _, _, _, _, _, _] rfl rfl rfl rfl ?_
        refine fw_iload h rfl rfl ?_
        refine fw_iload h rfl rfl ?_
        refine fw_icmp_le h rfl (fun c91 => ?_) (fun c91 => ?_)
        · have ev : (fs_wv (fs_sn (mD w) nt nx j (fd_m (mD w) j)) (2 ^ fp_dbt (mD w 12) j (fd_m (mD w) j))) (fp_dbt (mD w 12) j i) = nI (fp_unl (fs_sn (mD w) nt nx j (fd_m (mD w) j)) (nI 1 <<< (nI (fp_dbt (mD w 12) j i) &&& 31)) (nI 0) (2 ^ fp_dbt (mD w 12) j (fd_m (mD w) j))) := if_pos c91
          · refine fw_iload h rfl rfl ?_
            refine fw_istore h [_, _, _, _, _, _, _, _, _] rfl rfl rfl rfl ?_
            refine fw_iload_n h rfl rfl ?_
            refine fw_if_lt h rfl (fun c104 => ?_) (fun c104 => ?_)
            · skip
              · refine fw_iload h rfl rfl ?_
                refine fw_istore_n h [_, _, _, _, _, _, _, _, _] rfl rfl rfl rfl ?_
                refine fw_iload h rfl rfl ?_
                refine fw_istore_n h [_, _, _, _, _, _, _, _, _] rfl rfl rfl rfl ?_
                first | refine fn_iinc h [_, _, _, _, _, _, _, _, _] rfl rfl rfl rfl rfl ?_ | refine fw_iinc h 1 [_, _, _, _, _, _, _, _, _] rfl (by decide) rfl rfl rfl rfl ?_
                first | refine fn_iinc h [_, _, _, _, _, _, _, _, _] rfl rfl rfl rfl rfl ?_ | refine fw_iinc h 1 [_, _, _, _, _, _, _, _, _] rfl (by decide) rfl rfl rfl rfl ?_
                refine fw_goto h rfl ?_
                have ed : nI (fp_dbt (mD w 12) j (i + 1)) = nI (fp_dbt (mD w 12) j i + 1) := congrArg nI (fp_dbt_1 c49)
                have hI2 := fs_sI_n hI c49 (by omega) (by first | exact Or.inl c104 | (rw [ev]; exact Or.inr c110))
                rw [ev] at hI2
                refine fw_sub (fb_pad_c (Or.inr rfl) (fb_pad_c (Or.inr rfl) (fb_pad_c (Or.inr rfl) (fb_pad_c (Or.inr rfl) (fb_pad_c (Or.inr rfl) (fb_pad_c (Or.inr rfl) (fb_pad_c (Or.inl rfl) (fb_pad_c (Or.inl rfl) (fb_pad_c (Or.inl rfl) (fb_pad_n)))))))))) ?_
                rw [← ed]
                exact ih _ _ hI2
            · refine fw_iload h rfl rfl ?_
              refine fw_iload_n h rfl rfl ?_
              refine fw_icmp_ge h rfl (fun c110 => ?_) (fun c110 => ?_)
              · skip
                · first | refine fn_iinc h [_, _, _, _, _, _, _, _, _] rfl rfl rfl rfl rfl ?_ | refine fw_iinc h 1 [_, _, _, _, _, _, _, _, _] rfl (by decide) rfl rfl rfl rfl ?_
                  first | refine fn_iinc h [_, _, _, _, _, _, _, _, _] rfl rfl rfl rfl rfl ?_ | refine fw_iinc h 1 [_, _, _, _, _, _, _, _, _] rfl (by decide) rfl rfl rfl rfl ?_
                  refine fw_goto h rfl ?_
                  have ed : nI (fp_dbt (mD w 12) j (i + 1)) = nI (fp_dbt (mD w 12) j i + 1) := congrArg nI (fp_dbt_1 c49)
                  have hI2 := fs_sI_k hI c49 c104 (by rw [ev]; exact c110)
                  refine fw_sub (fb_pad_c (Or.inr rfl) (fb_pad_c (Or.inr rfl) (fb_pad_c (Or.inr rfl) (fb_pad_c (Or.inr rfl) (fb_pad_c (Or.inr rfl) (fb_pad_c (Or.inr rfl) (fb_pad_c (Or.inl rfl) (fb_pad_c (Or.inl rfl) (fb_pad_c (Or.inl rfl) (fb_pad_n)))))))))) ?_
                  rw [← ed]
                  exact ih _ _ hI2
              · skip
                · refine fw_iload h rfl rfl ?_
                  refine fw_istore_n h [_, _, _, _, _, _, _, _, _] rfl rfl rfl rfl ?_
                  refine fw_iload h rfl rfl ?_
                  refine fw_istore_n h [_, _, _, _, _, _, _, _, _] rfl rfl rfl rfl ?_
                  first | refine fn_iinc h [_, _, _, _, _, _, _, _, _] rfl rfl rfl rfl rfl ?_ | refine fw_iinc h 1 [_, _, _, _, _, _, _, _, _] rfl (by decide) rfl rfl rfl rfl ?_
                  first | refine fn_iinc h [_, _, _, _, _, _, _, _, _] rfl rfl rfl rfl rfl ?_ | refine fw_iinc h 1 [_, _, _, _, _, _, _, _, _] rfl (by decide) rfl rfl rfl rfl ?_
                  refine fw_goto h rfl ?_
                  have ed : nI (fp_dbt (mD w 12) j (i + 1)) = nI (fp_dbt (mD w 12) j i + 1) := congrArg nI (fp_dbt_1 c49)
                  have hI2 := fs_sI_n hI c49 (by omega) (by first | exact Or.inl c104 | (rw [ev]; exact Or.inr c110))
                  rw [ev] at hI2
                  refine fw_sub (fb_pad_c (Or.inr rfl) (fb_pad_c (Or.inr rfl) (fb_pad_c (Or.inr rfl) (fb_pad_c (Or.inr rfl) (fb_pad_c (Or.inr rfl) (fb_pad_c (Or.inr rfl) (fb_pad_c (Or.inl rfl) (fb_pad_c (Or.inl rfl) (fb_pad_c (Or.inl rfl) (fb_pad_n)))))))))) ?_
                  rw [← ed]
                  exact ih _ _ hI2
        · have ev : (fs_wv (fs_sn (mD w) nt nx j (fd_m (mD w) j)) (2 ^ fp_dbt (mD w 12) j (fd_m (mD w) j))) (fp_dbt (mD w 12) j i) = nI (fp_unl (fs_sn (mD w) nt nx j (fd_m (mD w) j)) (nI 1 <<< (nI (fp_dbt (mD w 12) j i) &&& 31)) (nI 1 <<< (nI (fp_dbt (mD w 12) j i) &&& 31)) (2 ^ fp_dbt (mD w 12) j (fd_m (mD w) j))) := if_neg c91
          · refine fw_iload h rfl rfl ?_
            refine fw_goto h rfl ?_
            refine fw_istore h [_, _, _, _, _, _, _, _, _] rfl rfl rfl rfl ?_
            refine fw_iload_n h rfl rfl ?_
            refine fw_if_lt h rfl (fun c104 => ?_) (fun c104 => ?_)
            · skip
              · refine fw_iload h rfl rfl ?_
                refine fw_istore_n h [_, _, _, _, _, _, _, _, _] rfl rfl rfl rfl ?_
                refine fw_iload h rfl rfl ?_
                refine fw_istore_n h [_, _, _, _, _, _, _, _, _] rfl rfl rfl rfl ?_
                first | refine fn_iinc h [_, _, _, _, _, _, _, _, _] rfl rfl rfl rfl rfl ?_ | refine fw_iinc h 1 [_, _, _, _, _, _, _, _, _] rfl (by decide) rfl rfl rfl rfl ?_
                first | refine fn_iinc h [_, _, _, _, _, _, _, _, _] rfl rfl rfl rfl rfl ?_ | refine fw_iinc h 1 [_, _, _, _, _, _, _, _, _] rfl (by decide) rfl rfl rfl rfl ?_
                refine fw_goto h rfl ?_
                have ed : nI (fp_dbt (mD w 12) j (i + 1)) = nI (fp_dbt (mD w 12) j i + 1) := congrArg nI (fp_dbt_1 c49)
                have hI2 := fs_sI_n hI c49 (by omega) (by first | exact Or.inl c104 | (rw [ev]; exact Or.inr c110))
                rw [ev] at hI2
                refine fw_sub (fb_pad_c (Or.inr rfl) (fb_pad_c (Or.inr rfl) (fb_pad_c (Or.inr rfl) (fb_pad_c (Or.inr rfl) (fb_pad_c (Or.inr rfl) (fb_pad_c (Or.inr rfl) (fb_pad_c (Or.inl rfl) (fb_pad_c (Or.inl rfl) (fb_pad_c (Or.inl rfl) (fb_pad_n)))))))))) ?_
                rw [← ed]
                exact ih _ _ hI2
            · refine fw_iload h rfl rfl ?_
              refine fw_iload_n h rfl rfl ?_
              refine fw_icmp_ge h rfl (fun c110 => ?_) (fun c110 => ?_)
              · skip
                · first | refine fn_iinc h [_, _, _, _, _, _, _, _, _] rfl rfl rfl rfl rfl ?_ | refine fw_iinc h 1 [_, _, _, _, _, _, _, _, _] rfl (by decide) rfl rfl rfl rfl ?_
                  first | refine fn_iinc h [_, _, _, _, _, _, _, _, _] rfl rfl rfl rfl rfl ?_ | refine fw_iinc h 1 [_, _, _, _, _, _, _, _, _] rfl (by decide) rfl rfl rfl rfl ?_
                  refine fw_goto h rfl ?_
                  have ed : nI (fp_dbt (mD w 12) j (i + 1)) = nI (fp_dbt (mD w 12) j i + 1) := congrArg nI (fp_dbt_1 c49)
                  have hI2 := fs_sI_k hI c49 c104 (by rw [ev]; exact c110)
                  refine fw_sub (fb_pad_c (Or.inr rfl) (fb_pad_c (Or.inr rfl) (fb_pad_c (Or.inr rfl) (fb_pad_c (Or.inr rfl) (fb_pad_c (Or.inr rfl) (fb_pad_c (Or.inr rfl) (fb_pad_c (Or.inl rfl) (fb_pad_c (Or.inl rfl) (fb_pad_c (Or.inl rfl) (fb_pad_n)))))))))) ?_
                  rw [← ed]
                  exact ih _ _ hI2
              · skip
                · refine fw_iload h rfl rfl ?_
                  refine fw_istore_n h [_, _, _, _, _, _, _, _, _] rfl rfl rfl rfl ?_
                  refine fw_iload h rfl rfl ?_
                  refine fw_istore_n h [_, _, _, _, _, _, _, _, _] rfl rfl rfl rfl ?_
                  first | refine fn_iinc h [_, _, _, _, _, _, _, _, _] rfl rfl rfl rfl rfl ?_ | refine fw_iinc h 1 [_, _, _, _, _, _, _, _, _] rfl (by decide) rfl rfl rfl rfl ?_
                  first | refine fn_iinc h [_, _, _, _, _, _, _, _, _] rfl rfl rfl rfl rfl ?_ | refine fw_iinc h 1 [_, _, _, _, _, _, _, _, _] rfl (by decide) rfl rfl rfl rfl ?_
                  refine fw_goto h rfl ?_
                  have ed : nI (fp_dbt (mD w 12) j (i + 1)) = nI (fp_dbt (mD w 12) j i + 1) := congrArg nI (fp_dbt_1 c49)
                  have hI2 := fs_sI_n hI c49 (by omega) (by first | exact Or.inl c104 | (rw [ev]; exact Or.inr c110))
                  rw [ev] at hI2
                  refine fw_sub (fb_pad_c (Or.inr rfl) (fb_pad_c (Or.inr rfl) (fb_pad_c (Or.inr rfl) (fb_pad_c (Or.inr rfl) (fb_pad_c (Or.inr rfl) (fb_pad_c (Or.inr rfl) (fb_pad_c (Or.inl rfl) (fb_pad_c (Or.inl rfl) (fb_pad_c (Or.inl rfl) (fb_pad_n)))))))))) ?_
                  rw [← ed]
                  exact ih _ _ hI2
  · refine fw_if_ne h rfl (fun c => absurd c (by decide)) (fun _ => ?_)
    refine fw_iconst h (-1) rfl (by decide) ?_
    exact fw_iret h rfl rfl ⟨_, rfl, hb c2⟩
def fs_it (F : Nat → Int64 → Int64) (h : Int64) : Nat → Int64
  | 0 => h
  | n + 1 => F n (fs_it F h n)
def fs_d1 (D : Nat → Nat → Int32) (nd rn : Nat) : Int64 := fs_mxF 17 (fs_ct D nd rn) 6
def fs_e2 (D : Nat → Nat → Int32) (nt t : Nat) (h : Int64) : Int64 := fs_mxF h (fs_tt D nt t) 7
def fs_e3 (D : Nat → Nat → Int32) (d : Nat) (h : Int64) : Int64 := fs_mxD D d (fd_m D d) h
def fs_e4 (D : Nat → Nat → Int32) (x : Nat) (h : Int64) : Int64 := fs_mix (fs_mix (fs_mix (fs_mix h (D 13 x)) (D 14 x)) (if D 15 x = 0 then nI 0 else nI 1)) (D 16 x)
def fs_e5 (D : Nat → Nat → Int32) (g : Nat) (h : Int64) : Int64 := fs_mix (fs_mix (fs_mix (fs_mix (fs_mix (fs_mix h (D 17 g)) (D 18 g)) (D 19 g)) (D 20 g)) (D 21 g)) (D 22 g)
def fs_e6 (sz f : Nat → Int32) (r : Nat) (h : Int64) : Int64 := fs_mxF (fs_mix h (sz r)) (fun k => f (40 * r + k)) (sz r).toNatClampNeg
def fs_dg (D : Nat → Nat → Int32) (nt nd nx ng rn : Nat) (sz f : Nat → Int32) : Int64 := fs_it (fs_e6 sz f) (fs_it (fs_e5 D) (fs_it (fs_e4 D) (fs_it (fs_e3 D) (fs_it (fs_e2 D nt) (fs_d1 D nd rn) nt) nd) nx) ng) 6
def fm_zs (w : fb_Wd) (r : Nat) : Int32 := if w.1 48 r < 0 then -1 else w.1 48 r
theorem c_X8_countsW {l : Launch} {w : fb_Wd} {P : Int32 → fb_Wd → Prop} {hh : Int64} {nd : Nat} (hnd : w.1 46 14 = nI nd) (hn : nd ≤ 12) {q : Nat} (hq : q ≤ 5) (hp : P (fs_ct (mD w) nd (fm_rn w) q) (fb_ul w 46 47 hh)) : fb_Can l tX8_counts [.ref 46, .int (nI q)] (fb_ul w 46 47 hh) (fb_kI P) := by
  refine c_X8_counts (w := fb_ul w 46 47 hh) hnd hn hq ?_
  rw [mD_ul]
  exact hp
theorem c_X8_thingW {l : Launch} {w : fb_Wd} {P : Int32 → fb_Wd → Prop} {hh : Int64} {t n : Nat} (hn : n ≤ 20) (hnt : w.1 46 8 = nI n) (hwh : fp_wh n (w.1 54)) (ht : t < n) {q : Nat} (hq : q ≤ 6) (hp : P (fs_tt (mD w) n t q) (fb_ul w 46 47 hh)) : fb_Can l tX8_thingTells [.ref 46, .int (nI t), .int (nI q)] (fb_ul w 46 47 hh) (fb_kI P) := by
  refine c_X8_thingTells (w := fb_ul w 46 47 hh) hn hnt hwh ht hq ?_
  rw [mD_ul]
  exact hp
theorem lp_dg6 {X : fb_Cx} {w : fb_Wd} {P : Int64 → fb_Wd → Prop} {h0 : Int64} {nt nd nx ng : Nat} (hN : fd_N (mD w) nt nd nx ng) (hT : fd_T (mD w) nt) (hAA : ∀ d, d < nd → fd_A (mD w) nt d (fd_m (mD w) d)) (h : fb_Ok tX8_digest X (fb_kL P)) (hsz : fm_sz w) (hp : P (fs_it (fs_e6 (fm_zs w) (w.1 49)) h0 6) (fb_ul w 46 47 (fs_it (fs_e6 (fm_zs w) (w.1 49)) h0 6))) : fb_AW tX8_digest X 232 [some (.ref 46), some (.int (nI 0)), none] [] (fb_ul w 46 47 h0) := by
  have hnt := hN.1.2
  have hnd := hN.2.1.2
  have hnx := hN.2.2.1.2
  have hng := hN.2.2.2.2
  refine fb_loop (fun i => fb_AW tX8_digest X 232 [some (.ref 46), some (.int (nI i)), none] [] (fb_ul w 46 47 (fs_it (fs_e6 (fm_zs w) (w.1 49)) h0 i))) (6) ?_ (fun i hi ih => ?_) 0 (Nat.zero_le _)
  · refine fw_iload_n h rfl rfl ?_
    refine fw_bipush h (nI 6) rfl (by decide) ?_
    refine fw_icmp_ge h rfl (fun c235 => ?_) (fun c235 => False.elim (c235 (by decide)))
    refine fw_aload_n h rfl rfl ?_
    refine fw_getL h rfl fk_g_X8_308 rfl rfl ?_
    exact fw_lret h rfl rfl ⟨_, rfl, hp⟩
  · refine fw_iload_n h rfl rfl ?_
    refine fw_bipush h (nI 6) rfl (by decide) ?_
    refine fw_icmp_ge h rfl (fun c235 => False.elim (nI_ge hi (by decide) c235)) (fun c235 => ?_)
    refine fw_aload_n h rfl rfl ?_
    refine fw_aload_n h rfl rfl ?_
    refine fw_getR _ h rfl fk_g_X8_17 rfl rfl ?_
    refine fw_iload_n h rfl rfl ?_
    refine fn_ialdF (w.1 48) h rfl rfl (rfl) (by omega) rfl ?_
    refine fw_if_ge h rfl (fun c245 => ?_) (fun c245 => ?_)
    · obtain ⟨n2, hn2, hs2⟩ := (hsz i hi).resolve_left (fun z => by rw [z] at c245; exact absurd c245 (by decide))
      have ezs : fm_zs w i = w.1 48 i := if_neg (Int32.not_lt.mpr c245)
      have en2 : (fm_zs w i).toNatClampNeg = n2 := by rw [ezs, hs2]; exact nI_clamp (by omega)
      · refine fw_aload_n h rfl rfl ?_
        refine fw_getR _ h rfl fk_g_X8_17 rfl rfl ?_
        refine fw_iload_n h rfl rfl ?_
        refine fn_ialdF (w.1 48) h rfl rfl (rfl) (by omega) rfl ?_
        refine fw_v1V h rfl fk_v_X8_mix fk_l_X8_311 rfl rfl rfl rfl ?_
        rw [← ezs]
        refine c_X8_mixW ?_
        refine fw_iconst h (nI 0) rfl (by decide) ?_
        refine fw_istore_n h [_, _, _] rfl rfl rfl rfl ?_
        refine fb_loop (fun b => fb_AW tX8_digest X 263 [some (.ref 46), some (.int (nI i)), some (.int (nI b))] [] (fb_ul w 46 47 (fs_mxF (fs_mix (fs_it (fs_e6 (fm_zs w) (w.1 49)) h0 i) (fm_zs w i)) (fun k => w.1 49 (40 * i + k)) b))) n2 ?_ (fun b hb ihb => ?_) 0 (Nat.zero_le _)
        · change fb_AW tX8_digest X 263 [some (.ref 46), some (.int (nI i)), some (.int (nI n2))] [] (fb_ul w 46 47 (fs_mxF (fs_mix (fs_it (fs_e6 (fm_zs w) (w.1 49)) h0 i) (fm_zs w i)) (fun k => w.1 49 (40 * i + k)) n2))
          refine fw_iload_n h rfl rfl ?_
          refine fw_aload_n h rfl rfl ?_
          refine fw_getR _ h rfl fk_g_X8_17 rfl rfl ?_
          refine fw_iload_n h rfl rfl ?_
          refine fn_ialdF (w.1 48) h rfl rfl (rfl) (by omega) rfl ?_
          refine fw_icmp_ge h rfl (fun c270 => ?_) (fun c270 => False.elim (c270 (by rw [hs2]; exact Int32.le_refl _)))
          first | refine fn_iinc h [_, _, _] rfl rfl rfl rfl rfl ?_ | refine fw_iinc h 1 [_, _, _] rfl (by decide) rfl rfl rfl rfl ?_
          refine fw_goto h rfl ?_
          refine fw_sub (fb_pad_c (Or.inr rfl) (fb_pad_c (Or.inr rfl) (fb_pad_c (Or.inl rfl) (fb_pad_n)))) ?_
          have ih2 := ih
          rw [fs_it, fs_e6, show (fm_zs w i).toNatClampNeg = n2 from en2] at ih2
          exact ih2
        · refine fw_iload_n h rfl rfl ?_
          refine fw_aload_n h rfl rfl ?_
          refine fw_getR _ h rfl fk_g_X8_17 rfl rfl ?_
          refine fw_iload_n h rfl rfl ?_
          refine fn_ialdF (w.1 48) h rfl rfl (rfl) (by omega) rfl ?_
          refine fw_icmp_ge h rfl (fun c270 => False.elim (by rw [hs2] at c270; exact nI_ge hb (by omega) c270)) (fun c270 => ?_)
          refine fw_aload_n h rfl rfl ?_
          refine fw_aload_n h rfl rfl ?_
          refine fw_getR _ h rfl fk_g_X8_20 rfl rfl ?_
          refine fw_bipush h (nI 40) rfl (by decide) ?_
          refine fw_iload_n h rfl rfl ?_
          first | refine fn_imul h rfl ?_ | refine fw_imul h rfl ?_
          refine fw_iload_n h rfl rfl ?_
          first | refine fn_iadd h rfl ?_ | refine fw_iadd h rfl ?_
          refine fn_ialdF (w.1 49) h rfl rfl (rfl) (by omega) rfl ?_
          refine fw_v1V h rfl fk_v_X8_mix fk_l_X8_311 rfl rfl rfl rfl ?_
          refine c_X8_mixW ?_
          first | refine fn_iinc h [_, _, _] rfl rfl rfl rfl rfl ?_ | refine fw_iinc h 1 [_, _, _] rfl (by decide) rfl rfl rfl rfl ?_
          refine fw_goto h rfl ?_
          exact ihb
    · have hs2 : w.1 48 i = -9 := (hsz i hi).resolve_right (fun ⟨n, hn, e⟩ => by rw [e] at c245; exact c245 (nI_pos' (by omega)))
      have ezs : fm_zs w i = -1 := if_pos (Int32.not_le.mp c245)
      · refine fw_iconst h (-1) rfl (by decide) ?_
        refine fw_goto h rfl ?_
        refine fw_v1V h rfl fk_v_X8_mix fk_l_X8_311 rfl rfl rfl rfl ?_
        rw [← ezs]
        refine c_X8_mixW ?_
        refine fw_iconst h (nI 0) rfl (by decide) ?_
        refine fw_istore_n h [_, _, _] rfl rfl rfl rfl ?_
        refine fw_iload_n h rfl rfl ?_
        refine fw_aload_n h rfl rfl ?_
        refine fw_getR _ h rfl fk_g_X8_17 rfl rfl ?_
        refine fw_iload_n h rfl rfl ?_
        refine fn_ialdF (w.1 48) h rfl rfl (rfl) (by omega) rfl ?_
        refine fw_icmp_ge h rfl (fun c270 => ?_) (fun c270 => False.elim (c270 (by rw [hs2]; decide)))
        first | refine fn_iinc h [_, _, _] rfl rfl rfl rfl rfl ?_ | refine fw_iinc h 1 [_, _, _] rfl (by decide) rfl rfl rfl rfl ?_
        refine fw_goto h rfl ?_
        refine fw_sub (fb_pad_c (Or.inr rfl) (fb_pad_c (Or.inr rfl) (fb_pad_c (Or.inl rfl) (fb_pad_n)))) ?_
        have ih2 := ih
        rw [fs_it, fs_e6, show (fm_zs w i).toNatClampNeg = 0 by rw [ezs]; decide] at ih2
        exact ih2
theorem lp_dg5 {X : fb_Cx} {w : fb_Wd} {P : Int64 → fb_Wd → Prop} {h0 : Int64} {nt nd nx ng : Nat} (hN : fd_N (mD w) nt nd nx ng) (hT : fd_T (mD w) nt) (hAA : ∀ d, d < nd → fd_A (mD w) nt d (fd_m (mD w) d)) (h : fb_Ok tX8_digest X (fb_kL P)) (k : fb_AW tX8_digest X 232 [some (.ref 46), some (.int (nI 0)), none] [] (fb_ul w 46 47 (fs_it (fs_e5 (mD w)) h0 ng))) : fb_AW tX8_digest X 156 [some (.ref 46), some (.int (nI 0)), none] [] (fb_ul w 46 47 h0) := by
  have hnt := hN.1.2
  have hnd := hN.2.1.2
  have hnx := hN.2.2.1.2
  have hng := hN.2.2.2.2
  refine fb_loop (fun i => fb_AW tX8_digest X 156 [some (.ref 46), some (.int (nI i)), none] [] (fb_ul w 46 47 (fs_it (fs_e5 (mD w)) h0 i))) (ng) ?_ (fun i hi ih => ?_) 0 (Nat.zero_le _)
  · refine fw_iload_n h rfl rfl ?_
    refine fw_aload_n h rfl rfl ?_
    refine fw_getIv (w.1 46 38) h rfl fk_g_X8_284 rfl rfl (rfl) ?_
    refine fw_icmp_ge h rfl (fun c161 => ?_) (fun c161 => False.elim (c161 (by rw [show w.1 46 38 = nI ng from hN.2.2.2.1]; exact Int32.le_refl _)))
    refine fw_iconst h (nI 0) rfl (by decide) ?_
    refine fw_istore_n h [_, _, _] rfl rfl rfl rfl ?_
    exact k
  · refine fw_iload_n h rfl rfl ?_
    refine fw_aload_n h rfl rfl ?_
    refine fw_getIv (w.1 46 38) h rfl fk_g_X8_284 rfl rfl (rfl) ?_
    refine fw_icmp_ge h rfl (fun c161 => False.elim (nI_ge hi (by omega) (by rw [← show w.1 46 38 = nI ng from hN.2.2.2.1]; exact c161))) (fun c161 => ?_)
    refine fw_aload_n h rfl rfl ?_
    refine fw_aload_n h rfl rfl ?_
    refine fw_getR _ h rfl fk_g_X8_81 rfl rfl ?_
    refine fw_iload_n h rfl rfl ?_
    refine fn_ialdF (w.1 69) h rfl rfl (rfl) (by omega) rfl ?_
    refine fw_v1V h rfl fk_v_X8_mix fk_l_X8_311 rfl rfl rfl rfl ?_
    refine c_X8_mixW ?_
    refine fw_aload_n h rfl rfl ?_
    refine fw_aload_n h rfl rfl ?_
    refine fw_getR _ h rfl fk_g_X8_84 rfl rfl ?_
    refine fw_iload_n h rfl rfl ?_
    refine fn_ialdF (w.1 70) h rfl rfl (rfl) (by omega) rfl ?_
    refine fw_v1V h rfl fk_v_X8_mix fk_l_X8_311 rfl rfl rfl rfl ?_
    refine c_X8_mixW ?_
    refine fw_aload_n h rfl rfl ?_
    refine fw_aload_n h rfl rfl ?_
    refine fw_getR _ h rfl fk_g_X8_87 rfl rfl ?_
    refine fw_iload_n h rfl rfl ?_
    refine fn_ialdF (w.1 71) h rfl rfl (rfl) (by omega) rfl ?_
    refine fw_v1V h rfl fk_v_X8_mix fk_l_X8_311 rfl rfl rfl rfl ?_
    refine c_X8_mixW ?_
    refine fw_aload_n h rfl rfl ?_
    refine fw_aload_n h rfl rfl ?_
    refine fw_getR _ h rfl fk_g_X8_90 rfl rfl ?_
    refine fw_iload_n h rfl rfl ?_
    refine fn_ialdF (w.1 72) h rfl rfl (rfl) (by omega) rfl ?_
    refine fw_v1V h rfl fk_v_X8_mix fk_l_X8_311 rfl rfl rfl rfl ?_
    refine c_X8_mixW ?_
    refine fw_aload_n h rfl rfl ?_
    refine fw_aload_n h rfl rfl ?_
    refine fw_getR _ h rfl fk_g_X8_93 rfl rfl ?_
    refine fw_iload_n h rfl rfl ?_
    refine fn_ialdF (w.1 73) h rfl rfl (rfl) (by omega) rfl ?_
    refine fw_v1V h rfl fk_v_X8_mix fk_l_X8_311 rfl rfl rfl rfl ?_
    refine c_X8_mixW ?_
    refine fw_aload_n h rfl rfl ?_
    refine fw_aload_n h rfl rfl ?_
    refine fw_getR _ h rfl fk_g_X8_96 rfl rfl ?_
    refine fw_iload_n h rfl rfl ?_
    refine fn_ialdF (w.1 74) h rfl rfl (rfl) (by omega) rfl ?_
    refine fw_v1V h rfl fk_v_X8_mix fk_l_X8_311 rfl rfl rfl rfl ?_
    refine c_X8_mixW ?_
    first | refine fn_iinc h [_, _, _] rfl rfl rfl rfl rfl ?_ | refine fw_iinc h 1 [_, _, _] rfl (by decide) rfl rfl rfl rfl ?_
    refine fw_goto h rfl ?_
    exact ih
theorem lp_dg4 {X : fb_Cx} {w : fb_Wd} {P : Int64 → fb_Wd → Prop} {h0 : Int64} {nt nd nx ng : Nat} (hN : fd_N (mD w) nt nd nx ng) (hT : fd_T (mD w) nt) (hAA : ∀ d, d < nd → fd_A (mD w) nt d (fd_m (mD w) d)) (h : fb_Ok tX8_digest X (fb_kL P)) (k : fb_AW tX8_digest X 156 [some (.ref 46), some (.int (nI 0)), none] [] (fb_ul w 46 47 (fs_it (fs_e4 (mD w)) h0 nx))) : fb_AW tX8_digest X 92 [some (.ref 46), some (.int (nI 0)), none] [] (fb_ul w 46 47 h0) := by
  have hnt := hN.1.2
  have hnd := hN.2.1.2
  have hnx := hN.2.2.1.2
  have hng := hN.2.2.2.2
  refine fb_loop (fun i => fb_AW tX8_digest X 92 [some (.ref 46), some (.int (nI i)), none] [] (fb_ul w 46 47 (fs_it (fs_e4 (mD w)) h0 i))) (nx) ?_ (fun i hi ih => ?_) 0 (Nat.zero_le _)
  · refine fw_iload_n h rfl rfl ?_
    refine fw_aload_n h rfl rfl ?_
    refine fw_getIv (w.1 46 27) h rfl fk_g_X8_226 rfl rfl (rfl) ?_
    refine fw_icmp_ge h rfl (fun c97 => ?_) (fun c97 => False.elim (c97 (by rw [show w.1 46 27 = nI nx from hN.2.2.1.1]; exact Int32.le_refl _)))
    refine fw_iconst h (nI 0) rfl (by decide) ?_
    refine fw_istore_n h [_, _, _] rfl rfl rfl rfl ?_
    exact k
  · refine fw_iload_n h rfl rfl ?_
    refine fw_aload_n h rfl rfl ?_
    refine fw_getIv (w.1 46 27) h rfl fk_g_X8_226 rfl rfl (rfl) ?_
    refine fw_icmp_ge h rfl (fun c97 => False.elim (nI_ge hi (by omega) (by rw [← show w.1 46 27 = nI nx from hN.2.2.1.1]; exact c97))) (fun c97 => ?_)
    have e15 : mD w 15 i = w.1 66 i := if_pos (show i < 8 by omega)
    have e13 : mD w 13 i = w.1 64 i := if_pos (show i < 8 by omega)
    have e14 : mD w 14 i = w.1 65 i := if_pos (show i < 8 by omega)
    have e16 : mD w 16 i = w.1 67 i := if_pos (show i < 8 by omega)
    refine fw_aload_n h rfl rfl ?_
    refine fw_aload_n h rfl rfl ?_
    refine fw_getR _ h rfl fk_g_X8_66 rfl rfl ?_
    refine fw_iload_n h rfl rfl ?_
    refine fn_ialdF (w.1 64) h rfl rfl (rfl) (by omega) rfl ?_
    refine fw_v1V h rfl fk_v_X8_mix fk_l_X8_311 rfl rfl rfl rfl ?_
    refine c_X8_mixW ?_
    refine fw_aload_n h rfl rfl ?_
    refine fw_aload_n h rfl rfl ?_
    refine fw_getR _ h rfl fk_g_X8_69 rfl rfl ?_
    refine fw_iload_n h rfl rfl ?_
    refine fn_ialdF (w.1 65) h rfl rfl (rfl) (by omega) rfl ?_
    refine fw_v1V h rfl fk_v_X8_mix fk_l_X8_311 rfl rfl rfl rfl ?_
    refine c_X8_mixW ?_
    refine fw_aload_n h rfl rfl ?_
    refine fw_aload_n h rfl rfl ?_
    refine fw_getR _ h rfl fk_g_X8_72 rfl rfl ?_
    refine fw_iload_n h rfl rfl ?_
    refine fn_zaldF (w.1 66) h rfl rfl (rfl) (by omega) rfl ?_
    refine fw_if_eq h rfl (fun c127 => ?_) (fun c127 => ?_)
    · have en : (if w.1 66 i = 0 then nI 0 else nI 1) = nI 0 := if_pos c127
      refine fw_iconst h (nI 0) rfl (by decide) ?_
      refine fw_v1V h rfl fk_v_X8_mix fk_l_X8_311 rfl rfl rfl rfl ?_
      refine c_X8_mixW ?_
      refine fw_aload_n h rfl rfl ?_
      refine fw_aload_n h rfl rfl ?_
      refine fw_getR _ h rfl fk_g_X8_75 rfl rfl ?_
      refine fw_iload_n h rfl rfl ?_
      refine fn_ialdF (w.1 67) h rfl rfl (rfl) (by omega) rfl ?_
      refine fw_v1V h rfl fk_v_X8_mix fk_l_X8_311 rfl rfl rfl rfl ?_
      refine c_X8_mixW ?_
      first | refine fn_iinc h [_, _, _] rfl rfl rfl rfl rfl ?_ | refine fw_iinc h 1 [_, _, _] rfl (by decide) rfl rfl rfl rfl ?_
      refine fw_goto h rfl ?_
      rw [fs_it, fs_e4, e13, e14, e15, e16, en] at ih
      exact ih
    · have en : (if w.1 66 i = 0 then nI 0 else nI 1) = nI 1 := if_neg c127
      refine fw_iconst h (nI 1) rfl (by decide) ?_
      refine fw_goto h rfl ?_
      refine fw_v1V h rfl fk_v_X8_mix fk_l_X8_311 rfl rfl rfl rfl ?_
      refine c_X8_mixW ?_
      refine fw_aload_n h rfl rfl ?_
      refine fw_aload_n h rfl rfl ?_
      refine fw_getR _ h rfl fk_g_X8_75 rfl rfl ?_
      refine fw_iload_n h rfl rfl ?_
      refine fn_ialdF (w.1 67) h rfl rfl (rfl) (by omega) rfl ?_
      refine fw_v1V h rfl fk_v_X8_mix fk_l_X8_311 rfl rfl rfl rfl ?_
      refine c_X8_mixW ?_
      first | refine fn_iinc h [_, _, _] rfl rfl rfl rfl rfl ?_ | refine fw_iinc h 1 [_, _, _] rfl (by decide) rfl rfl rfl rfl ?_
      refine fw_goto h rfl ?_
      rw [fs_it, fs_e4, e13, e14, e15, e16, en] at ih
      exact ih
theorem lp_dg3 {X : fb_Cx} {w : fb_Wd} {P : Int64 → fb_Wd → Prop} {h0 : Int64} {nt nd nx ng : Nat} (hN : fd_N (mD w) nt nd nx ng) (hT : fd_T (mD w) nt) (hAA : ∀ d, d < nd → fd_A (mD w) nt d (fd_m (mD w) d)) (h : fb_Ok tX8_digest X (fb_kL P)) (k : fb_AW tX8_digest X 92 [some (.ref 46), some (.int (nI 0)), none] [] (fb_ul w 46 47 (fs_it (fs_e3 (mD w)) h0 nd))) : fb_AW tX8_digest X 71 [some (.ref 46), some (.int (nI 0)), none] [] (fb_ul w 46 47 h0) := by
  have hnt := hN.1.2
  have hnd := hN.2.1.2
  have hnx := hN.2.2.1.2
  have hng := hN.2.2.2.2
  refine fb_loop (fun i => fb_AW tX8_digest X 71 [some (.ref 46), some (.int (nI i)), none] [] (fb_ul w 46 47 (fs_it (fs_e3 (mD w)) h0 i))) (nd) ?_ (fun i hi ih => ?_) 0 (Nat.zero_le _)
  · refine fw_iload_n h rfl rfl ?_
    refine fw_aload_n h rfl rfl ?_
    refine fw_getIv (w.1 46 14) h rfl fk_g_X8_150 rfl rfl (rfl) ?_
    refine fw_icmp_ge h rfl (fun c76 => ?_) (fun c76 => False.elim (c76 (by rw [show w.1 46 14 = nI nd from hN.2.1.1]; exact Int32.le_refl _)))
    refine fw_iconst h (nI 0) rfl (by decide) ?_
    refine fw_istore_n h [_, _, _] rfl rfl rfl rfl ?_
    exact k
  · refine fw_iload_n h rfl rfl ?_
    refine fw_aload_n h rfl rfl ?_
    refine fw_getIv (w.1 46 14) h rfl fk_g_X8_150 rfl rfl (rfl) ?_
    refine fw_icmp_ge h rfl (fun c76 => False.elim (nI_ge hi (by omega) (by rw [← show w.1 46 14 = nI nd from hN.2.1.1]; exact c76))) (fun c76 => ?_)
    refine fw_aload_n h rfl rfl ?_
    refine fw_iload_n h rfl rfl ?_
    refine fw_v1V h rfl fk_v_X8_mixDeath fk_l_X8_316 rfl rfl rfl rfl ?_
    refine c_X8_mixDeath (by omega) (hAA i hi).1 (hAA i hi).2.1 ?_
    first | refine fn_iinc h [_, _, _] rfl rfl rfl rfl rfl ?_ | refine fw_iinc h 1 [_, _, _] rfl (by decide) rfl rfl rfl rfl ?_
    refine fw_goto h rfl ?_
    exact ih
theorem lp_dg2 {X : fb_Cx} {w : fb_Wd} {P : Int64 → fb_Wd → Prop} {h0 : Int64} {nt nd nx ng : Nat} (hN : fd_N (mD w) nt nd nx ng) (hT : fd_T (mD w) nt) (hAA : ∀ d, d < nd → fd_A (mD w) nt d (fd_m (mD w) d)) (h : fb_Ok tX8_digest X (fb_kL P)) (k : fb_AW tX8_digest X 71 [some (.ref 46), some (.int (nI 0)), none] [] (fb_ul w 46 47 (fs_it (fs_e2 (mD w) nt) h0 nt))) : fb_AW tX8_digest X 31 [some (.ref 46), some (.int (nI 0)), none] [] (fb_ul w 46 47 h0) := by
  have hnt := hN.1.2
  have hnd := hN.2.1.2
  have hnx := hN.2.2.1.2
  have hng := hN.2.2.2.2
  refine fb_loop (fun i => fb_AW tX8_digest X 31 [some (.ref 46), some (.int (nI i)), none] [] (fb_ul w 46 47 (fs_it (fs_e2 (mD w) nt) h0 i))) (nt) ?_ (fun i hi ih => ?_) 0 (Nat.zero_le _)
  · refine fw_iload_n h rfl rfl ?_
    refine fw_aload_n h rfl rfl ?_
    refine fw_getIv (w.1 46 8) h rfl fk_g_X8_124 rfl rfl (rfl) ?_
    refine fw_icmp_ge h rfl (fun c36 => ?_) (fun c36 => False.elim (c36 (by rw [show w.1 46 8 = nI nt from hN.1.1]; exact Int32.le_refl _)))
    refine fw_iconst h (nI 0) rfl (by decide) ?_
    refine fw_istore_n h [_, _, _] rfl rfl rfl rfl ?_
    exact k
  · refine fw_iload_n h rfl rfl ?_
    refine fw_aload_n h rfl rfl ?_
    refine fw_getIv (w.1 46 8) h rfl fk_g_X8_124 rfl rfl (rfl) ?_
    refine fw_icmp_ge h rfl (fun c36 => False.elim (nI_ge hi (by omega) (by rw [← show w.1 46 8 = nI nt from hN.1.1]; exact c36))) (fun c36 => ?_)
    refine fw_iconst h (nI 0) rfl (by decide) ?_
    refine fw_istore_n h [_, _, _] rfl rfl rfl rfl ?_
    refine fb_loop (fun b => fb_AW tX8_digest X 41 [some (.ref 46), some (.int (nI i)), some (.int (nI b))] [] (fb_ul w 46 47 (fs_mxF (fs_it (fs_e2 (mD w) nt) h0 i) (fs_tt (mD w) nt i) b))) 7 ?_ (fun b hb ihb => ?_) 0 (Nat.zero_le _)
    · change fb_AW tX8_digest X 41 [some (.ref 46), some (.int (nI i)), some (.int (nI 7))] [] (fb_ul w 46 47 (fs_mxF (fs_it (fs_e2 (mD w) nt) h0 i) (fs_tt (mD w) nt i) 7))
      refine fw_iload_n h rfl rfl ?_
      refine fw_bipush h (nI 6) rfl (by decide) ?_
      refine fw_icmp_gt h rfl (fun c44 => ?_) (fun c44 => False.elim (c44 (by decide)))
      first | refine fn_iinc h [_, _, _] rfl rfl rfl rfl rfl ?_ | refine fw_iinc h 1 [_, _, _] rfl (by decide) rfl rfl rfl rfl ?_
      refine fw_goto h rfl ?_
      refine fw_sub (fb_pad_c (Or.inr rfl) (fb_pad_c (Or.inr rfl) (fb_pad_c (Or.inl rfl) (fb_pad_n)))) ?_
      exact ih
    · refine fw_iload_n h rfl rfl ?_
      refine fw_bipush h (nI 6) rfl (by decide) ?_
      refine fw_icmp_gt h rfl (fun c44 => False.elim (absurd c44 (nI_nlt (by omega) (by decide)))) (fun c44 => ?_)
      refine fw_aload_n h rfl rfl ?_
      refine fw_aload_n h rfl rfl ?_
      refine fw_iload_n h rfl rfl ?_
      refine fw_iload_n h rfl rfl ?_
      refine fw_v2I h rfl fk_v_X8_thingTells fk_l_X8_143 rfl rfl rfl rfl ?_
      refine c_X8_thingW hN.1.2 hN.1.1 (fd_wh hT) (by omega) (by omega) ?_
      refine fw_v1V h rfl fk_v_X8_mix fk_l_X8_311 rfl rfl rfl rfl ?_
      refine c_X8_mixW ?_
      first | refine fn_iinc h [_, _, _] rfl rfl rfl rfl rfl ?_ | refine fw_iinc h 1 [_, _, _] rfl (by decide) rfl rfl rfl rfl ?_
      refine fw_goto h rfl ?_
      exact ihb
theorem c_X8_digest {l : Launch} {w : fb_Wd} {P : Int64 → fb_Wd → Prop} {nt nd nx ng : Nat} (hN : fd_N (mD w) nt nd nx ng) (hT : fd_T (mD w) nt) (hAA : ∀ d, d < nd → fd_A (mD w) nt d (fd_m (mD w) d)) (hsz : fm_sz w) (hp : P (fs_dg (mD w) nt nd nx ng (fm_rn w) (fm_zs w) (w.1 49)) (fb_ul w 46 47 (fs_dg (mD w) nt nd nx ng (fm_rn w) (fm_zs w) (w.1 49)))) : fb_Can l tX8_digest [.ref 46] w (fb_kL P) := by
  refine fb_intro 2 fk_t_X8_digest (by decide) rfl (fun X hX h => ?_)
  subst hX
  change fb_AW tX8_digest X 0 [some (.ref 46), none, none] [] w
  have hnt := hN.1.2
  have hnd := hN.2.1.2
  have hnx := hN.2.2.1.2
  have hng := hN.2.2.2.2
  refine fw_aload_n h rfl rfl ?_
  refine fw_ldc2 h 17 rfl (fb_mT 1328 (by decide +kernel) (by decide +kernel)) ?_
  refine fw_putL h rfl fk_p_X8_308 rfl rfl ?_
  refine fw_iconst h (nI 0) rfl (by decide) ?_
  refine fw_istore_n h [_, _, _] rfl rfl rfl rfl ?_
  refine fb_loop (fun i => fb_AW tX8_digest X 9 [some (.ref 46), some (.int (nI i)), none] [] (fb_ul w 46 47 (fs_mxF 17 (fs_ct (mD w) nd (fm_rn w)) i))) (6) ?_ (fun i hi ih => ?_) 0 (Nat.zero_le _)
  · refine fw_iload_n h rfl rfl ?_
    refine fw_iconst h (nI 5) rfl (by decide) ?_
    refine fw_icmp_gt h rfl (fun c11 => ?_) (fun c11 => False.elim (c11 (by decide)))
    refine fw_iconst h (nI 0) rfl (by decide) ?_
    refine fw_istore_n h [_, _, _] rfl rfl rfl rfl ?_
    exact lp_dg2 hN hT hAA h (lp_dg3 hN hT hAA h (lp_dg4 hN hT hAA h (lp_dg5 hN hT hAA h (lp_dg6 hN hT hAA h hsz hp))))
  · refine fw_iload_n h rfl rfl ?_
    refine fw_iconst h (nI 5) rfl (by decide) ?_
    refine fw_icmp_gt h rfl (fun c11 => False.elim (absurd c11 (nI_nlt (by omega) (by decide)))) (fun c11 => ?_)
    refine fw_aload_n h rfl rfl ?_
    refine fw_aload_n h rfl rfl ?_
    refine fw_iload_n h rfl rfl ?_
    refine fw_v1I h rfl fk_v_X8_counts fk_l_X8_303 rfl rfl rfl rfl ?_
    refine c_X8_countsW hN.2.1.1 hN.2.1.2 (by omega) ?_
    refine fw_v1V h rfl fk_v_X8_mix fk_l_X8_311 rfl rfl rfl rfl ?_
    refine c_X8_mixW ?_
    first | refine fn_iinc h [_, _, _] rfl rfl rfl rfl rfl ?_ | refine fw_iinc h 1 [_, _, _] rfl (by decide) rfl rfl rfl rfl ?_
    refine fw_goto h rfl ?_
    exact ih
