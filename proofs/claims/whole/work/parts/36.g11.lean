def fp_andF (g : Nat → Int32) : Nat → Int32
  | 0 => -1
  | n + 1 => fp_andF g n &&& g n
theorem c_X8_sure {l : Launch} {w : fb_Wd} {P : Int32 → fb_Wd → Prop} {nt nd nx ng : Nat} (hN : fd_N (mD w) nt nd nx ng) (hT : fd_T (mD w) nt) (hAA : ∀ d, d < nd → fd_A (mD w) nt d (fd_m (mD w) d)) {d mb : Int32} (hb : ¬ (∃ j, j < nd ∧ d = nI j) → P (-1) w) (hg : ∀ j, j < nd → d = nI j → ∀ w', sM [23, 24, 25, 26] w w' → (mb = 0 → P (fp_bits (fp_andF (fs_sn (mD w) nt nx j (fd_m (mD w) j)) (2 ^ fp_dbt (mD w 12) j (fd_m (mD w) j))) 20) (fb_up w' 46 2 (fp_andF (fs_sn (mD w) nt nx j (fd_m (mD w) j)) (2 ^ fp_dbt (mD w 12) j (fd_m (mD w) j))))) ∧ (¬ mb = 0 → P (fp_bits (fp_orF (fs_sn (mD w) nt nx j (fd_m (mD w) j)) (2 ^ fp_dbt (mD w 12) j (fd_m (mD w) j))) 20) (fb_up w' 46 2 (fp_orF (fs_sn (mD w) nt nx j (fd_m (mD w) j)) (2 ^ fp_dbt (mD w 12) j (fd_m (mD w) j)))))) : fb_Can l tX8_sure [.ref 46, .int d, .int mb] w (fb_kI P) := by
  refine fb_intro 5 fk_t_X8_sure (by decide) rfl (fun X hX h => ?_)
  subst hX
  change fb_AW tX8_sure X 0 [some (.ref 46), some (.int d), some (.int mb), none, none, none, none, none] [] w
  refine fw_aload_n h rfl rfl ?_
  refine fw_iload_n h rfl rfl ?_
  refine fw_v1I h rfl fk_v_X8_isDeath fk_l_X8_163 rfl rfl rfl rfl ?_
  refine c_X8_isDeath hN.2.1.1 (by have := hN.2.1.2; omega) (fun j hj e => ?_) (fun c2 => ?_)
  · refine fw_if_ne h rfl (fun _ => ?_) (fun c => absurd c (by decide))
    subst e
    have hnd := hN.2.1.2
    have h5 : fp_dbt (mD w 12) j (fd_m (mD w) j) ≤ 5 := (hAA j hj).2.2.2
    have h32 : 2 ^ fp_dbt (mD w 12) j (fd_m (mD w) j) ≤ 2 ^ 5 := Nat.pow_le_pow_right (by decide) h5
    refine fw_aload_n h rfl rfl ?_
    refine fw_aload_n h rfl rfl ?_
    refine fw_getR _ h rfl fk_g_X8_44 rfl rfl ?_
    refine fw_iload_n h rfl rfl ?_
    refine fn_iald h rfl rfl (by omega) rfl ?_
    refine fw_v1I h rfl fk_v_X8_forceIn fk_l_X8_233 rfl rfl rfl rfl ?_
    refine c_X8_forceIn hN.2.2.1.1 hN.2.2.1.2 ?_
    rw [fs_tn_m hN.2.2.1.2]
    refine fw_istore_n h [_, _, _, _, _, _, _, _] rfl rfl rfl rfl ?_
    refine fw_iconst h (-1) rfl (by decide) ?_
    refine fw_istore h [_, _, _, _, _, _, _, _] rfl rfl rfl rfl ?_
    refine fw_iconst h (nI 0) rfl (by decide) ?_
    refine fw_istore h [_, _, _, _, _, _, _, _] rfl rfl rfl rfl ?_
    refine fw_iconst h (nI 0) rfl (by decide) ?_
    refine fw_istore h [_, _, _, _, _, _, _, _] rfl rfl rfl rfl ?_
    refine (?_ : ∀ w1, sM [23, 24, 25, 26] w w1 → fb_AW tX8_sure X 30 [some (.ref 46), some (.int (nI j)), some (.int mb), some (.int (fs_tn (mD w) nx j)), some (.int (fp_andF (fs_sn (mD w) nt nx j (fd_m (mD w) j)) 0)), some (.int (fp_orF (fs_sn (mD w) nt nx j (fd_m (mD w) j)) 0)), some (.int (nI 0)), none] [] w1) w (sM.rf _ w)
    refine fb_loop (fun i => ∀ w1, sM [23, 24, 25, 26] w w1 → fb_AW tX8_sure X 30 [some (.ref 46), some (.int (nI j)), some (.int mb), some (.int (fs_tn (mD w) nx j)), some (.int (fp_andF (fs_sn (mD w) nt nx j (fd_m (mD w) j)) i)), some (.int (fp_orF (fs_sn (mD w) nt nx j (fd_m (mD w) j)) i)), some (.int (nI i)), none] [] w1) (2 ^ fp_dbt (mD w 12) j (fd_m (mD w) j)) ?_ (fun i hi ih => ?_) 0 (Nat.zero_le _)
    · intro w1 hs
      have eD : mD w1 = mD w := sM.mD hs (by decide)
      have hN1 : fd_N (mD w1) nt nd nx ng := by rw [eD]; exact hN
      have hT1 : fd_T (mD w1) nt := by rw [eD]; exact hT
      have hA1 : fd_A (mD w1) nt j (fd_m (mD w) j) := by rw [eD]; exact hAA j hj
      have hk : fp_dbt (w1.1 63) j (fd_m (mD w) j) = fp_dbt (mD w 12) j (fd_m (mD w) j) := by rw [hs.1 63 (by decide)]; rfl
      refine fw_iload h rfl rfl ?_
      refine fw_aload_n h rfl rfl ?_
      refine fw_iload_n h rfl rfl ?_
      refine fw_v1I h rfl fk_v_X8_readings fk_l_X8_176 rfl rfl rfl rfl ?_
      refine c_X8_readings (by omega) hA1.1 hA1.2.1 ?_
      rw [hk]
      refine fw_icmp_ge h rfl (fun c37 => ?_) (fun c37 => False.elim (c37 (Int32.le_refl _)))
      refine fw_aload_n h rfl rfl ?_
      refine fw_iload_n h rfl rfl ?_
      refine fw_if_eq h rfl (fun c72 => ?_) (fun c72 => ?_)
      · skip
        · refine fw_iload h rfl rfl ?_
          refine fw_iload_n h rfl rfl ?_
          refine fw_if_eq h rfl (fun c83 => ?_) (fun c83 => False.elim (c83 c72))
          refine fw_iload h rfl rfl ?_
          refine fw_s1I h rfl fk_s_X8_bits fk_l_X8_220 rfl rfl ?_
          refine c_X8_bits ?_
          refine fw_v2I h rfl fk_v_X8_ask fk_l_X8_147 rfl rfl rfl rfl ?_
          refine c_X8_ask ?_
          exact fw_iret h rfl rfl ⟨_, rfl, (hg j hj rfl w1 hs).1 c72⟩
      · skip
        · refine fw_iload h rfl rfl ?_
          refine fw_goto h rfl ?_
          refine fw_iload_n h rfl rfl ?_
          refine fw_if_eq h rfl (fun c83 => False.elim (c72 c83)) (fun c83 => ?_)
          refine fw_iload h rfl rfl ?_
          refine fw_goto h rfl ?_
          refine fw_s1I h rfl fk_s_X8_bits fk_l_X8_220 rfl rfl ?_
          refine c_X8_bits ?_
          refine fw_v2I h rfl fk_v_X8_ask fk_l_X8_147 rfl rfl rfl rfl ?_
          refine c_X8_ask ?_
          exact fw_iret h rfl rfl ⟨_, rfl, (hg j hj rfl w1 hs).2 c72⟩
    · intro w1 hs
      have eD : mD w1 = mD w := sM.mD hs (by decide)
      have hN1 : fd_N (mD w1) nt nd nx ng := by rw [eD]; exact hN
      have hT1 : fd_T (mD w1) nt := by rw [eD]; exact hT
      have hA1 : fd_A (mD w1) nt j (fd_m (mD w) j) := by rw [eD]; exact hAA j hj
      have hk : fp_dbt (w1.1 63) j (fd_m (mD w) j) = fp_dbt (mD w 12) j (fd_m (mD w) j) := by rw [hs.1 63 (by decide)]; rfl
      refine fw_iload h rfl rfl ?_
      refine fw_aload_n h rfl rfl ?_
      refine fw_iload_n h rfl rfl ?_
      refine fw_v1I h rfl fk_v_X8_readings fk_l_X8_176 rfl rfl rfl rfl ?_
      refine c_X8_readings (by omega) hA1.1 hA1.2.1 ?_
      rw [hk]
      refine fw_icmp_ge h rfl (fun c37 => False.elim (nI_ge hi (by omega) c37)) (fun c37 => ?_)
      refine fw_aload_n h rfl rfl ?_
      refine fw_iload_n h rfl rfl ?_
      refine fw_iload h rfl rfl ?_
      refine fw_iload_n h rfl rfl ?_
      refine fw_v3I h rfl fk_v_X8_forfeitOf fk_l_X8_236 rfl rfl rfl rfl ?_
      refine c_X8_forfeitR hN1 hT1 hA1 (by omega) ((fs_tn_in _ _ _).imp id (fun ⟨q, hq, e⟩ => ⟨q, by have := hN.2.2.1.2; omega, e⟩)) (fun w2 hs2 => ?_)
      rw [eD, hs.1 65 (by decide), hs.1 66 (by decide), hs.1 67 (by decide), show fs_fx (mD w) (w.1 65) (w.1 66) (w.1 67) nt j (fd_m (mD w) j) (nI i) (fs_tn (mD w) nx j) = fs_sn (mD w) nt nx j (fd_m (mD w) j) i from congrFun (fs_sn_m hN.2.2.1.2) i]
      refine fw_istore h [_, _, _, _, _, _, _, _] rfl rfl rfl rfl ?_
      refine fw_iload h rfl rfl ?_
      refine fw_iload h rfl rfl ?_
      refine fw_iand h rfl ?_
      refine fw_istore h [_, _, _, _, _, _, _, _] rfl rfl rfl rfl ?_
      refine fw_iload h rfl rfl ?_
      refine fw_iload h rfl rfl ?_
      refine fw_ior h rfl ?_
      refine fw_istore h [_, _, _, _, _, _, _, _] rfl rfl rfl rfl ?_
      first | refine fn_iinc h [_, _, _, _, _, _, _, _] rfl rfl rfl rfl rfl ?_ | refine fw_iinc h 1 [_, _, _, _, _, _, _, _] rfl (by decide) rfl rfl rfl rfl ?_
      refine fw_goto h rfl ?_
      exact fw_sub (fb_pad_c (Or.inr rfl) (fb_pad_c (Or.inr rfl) (fb_pad_c (Or.inr rfl) (fb_pad_c (Or.inr rfl) (fb_pad_c (Or.inr rfl) (fb_pad_c (Or.inr rfl) (fb_pad_c (Or.inr rfl) (fb_pad_c (Or.inl rfl) (fb_pad_n))))))))) (ih w2 (hs.tr hs2))
  · refine fw_if_ne h rfl (fun c => absurd c (by decide)) (fun _ => ?_)
    refine fw_iconst h (-1) rfl (by decide) ?_
    exact fw_iret h rfl rfl ⟨_, rfl, hb c2⟩
