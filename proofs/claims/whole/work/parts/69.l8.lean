theorem fl_d33 : decode code 33 = .ok (.tableswitch 1720 0 41 #[183, 216, 259, 282, 345, 398, 431, 464, 497, 530, 553, 596, 675, 708, 741, 774, 807, 876, 899, 942, 975, 1024, 1047, 1070, 1093, 1126, 1169, 1202, 1235, 1310, 1343, 1386, 1445, 1504, 1573, 1606, 1619, 1633, 1647, 1670, 1683, 1706], 183) := by decide +kernel
theorem fl_sw {X : fl_X} {i : Nat} {w : fb_Wd} (h : fl_Ok X) (hi : i + 7 ≤ X.2.2.1.2.1) (hR : fR w) (kk : ∀ w2, fR w2 → fl_AW X 1753 i [] w2) (y : Int32) : fl_AW X 33 i [.int y] w := by
  intro ls H locs hl hP hS
  by_cases hout : y.toInt < 0 ∨ 41 < y.toInt
  · exact lv_tableOut (tgt := 1753) h.1 h.2.1 fl_d33 hout (by decide) (kk w hR ls H locs hl hP hS)
  · have hy : ¬ y < 0 := fun q => hout (Or.inl (by have := Int32.lt_iff_toInt_lt.mp q; simpa using this))
    obtain ⟨j, hj, rfl⟩ := nI_of hy
    have hj2 : j ≤ 41 := by
      rw [nI_toInt hj] at hout
      omega
    rcases (show j = 0 ∨ j = 1 ∨ j = 2 ∨ j = 3 ∨ j = 4 ∨ j = 5 ∨ j = 6 ∨ j = 7 ∨ j = 8 ∨ j = 9 ∨ j = 10 ∨ j = 11 ∨ j = 12 ∨ j = 13 ∨ j = 14 ∨ j = 15 ∨ j = 16 ∨ j = 17 ∨ j = 18 ∨ j = 19 ∨ j = 20 ∨ j = 21 ∨ j = 22 ∨ j = 23 ∨ j = 24 ∨ j = 25 ∨ j = 26 ∨ j = 27 ∨ j = 28 ∨ j = 29 ∨ j = 30 ∨ j = 31 ∨ j = 32 ∨ j = 33 ∨ j = 34 ∨ j = 35 ∨ j = 36 ∨ j = 37 ∨ j = 38 ∨ j = 39 ∨ j = 40 ∨ j = 41 by omega) with rfl | rfl | rfl | rfl | rfl | rfl | rfl | rfl | rfl | rfl | rfl | rfl | rfl | rfl | rfl | rfl | rfl | rfl | rfl | rfl | rfl | rfl | rfl | rfl | rfl | rfl | rfl | rfl | rfl | rfl | rfl | rfl | rfl | rfl | rfl | rfl | rfl | rfl | rfl | rfl | rfl | rfl
    · exact lv_tableIn (off := 183) (tgt := 216) h.1 h.2.1 fl_d33 (by decide) (by decide) (by decide +kernel) (by decide) (fl_c_row h hi hR kk ls H locs hl hP hS)
    · exact lv_tableIn (off := 216) (tgt := 249) h.1 h.2.1 fl_d33 (by decide) (by decide) (by decide +kernel) (by decide) (fl_c_lay h hi hR kk ls H locs hl hP hS)
    · exact lv_tableIn (off := 259) (tgt := 292) h.1 h.2.1 fl_d33 (by decide) (by decide) (by decide +kernel) (by decide) (fl_c_tear h hi hR kk ls H locs hl hP hS)
    · exact lv_tableIn (off := 282) (tgt := 315) h.1 h.2.1 fl_d33 (by decide) (by decide) (by decide +kernel) (by decide) (fl_c_copy h hi hR kk ls H locs hl hP hS)
    · exact lv_tableIn (off := 345) (tgt := 378) h.1 h.2.1 fl_d33 (by decide) (by decide) (by decide +kernel) (by decide) (fl_c_thing h hi hR kk ls H locs hl hP hS)
    · exact lv_tableIn (off := 398) (tgt := 431) h.1 h.2.1 fl_d33 (by decide) (by decide) (by decide +kernel) (by decide) (fl_c_on h hi hR kk ls H locs hl hP hS)
    · exact lv_tableIn (off := 431) (tgt := 464) h.1 h.2.1 fl_d33 (by decide) (by decide) (by decide +kernel) (by decide) (fl_c_told h hi hR kk ls H locs hl hP hS)
    · exact lv_tableIn (off := 464) (tgt := 497) h.1 h.2.1 fl_d33 (by decide) (by decide) (by decide +kernel) (by decide) (fl_c_mark h hi hR kk ls H locs hl hP hS)
    · exact lv_tableIn (off := 497) (tgt := 530) h.1 h.2.1 fl_d33 (by decide) (by decide) (by decide +kernel) (by decide) (fl_c_worth h hi hR kk ls H locs hl hP hS)
    · exact lv_tableIn (off := 530) (tgt := 563) h.1 h.2.1 fl_d33 (by decide) (by decide) (by decide +kernel) (by decide) (fl_c_mean h hi hR kk ls H locs hl hP hS)
    · exact lv_tableIn (off := 553) (tgt := 586) h.1 h.2.1 fl_d33 (by decide) (by decide) (by decide +kernel) (by decide) (fl_c_death h hi hR kk ls H locs hl hP hS)
    · exact lv_tableIn (off := 596) (tgt := 629) h.1 h.2.1 fl_d33 (by decide) (by decide) (by decide +kernel) (by decide) (fl_c_act h hi hR kk ls H locs hl hP hS)
    · exact lv_tableIn (off := 675) (tgt := 708) h.1 h.2.1 fl_d33 (by decide) (by decide) (by decide +kernel) (by decide) (fl_c_acts h hi hR kk ls H locs hl hP hS)
    · exact lv_tableIn (off := 708) (tgt := 741) h.1 h.2.1 fl_d33 (by decide) (by decide) (by decide +kernel) (by decide) (fl_c_deathTold h hi hR kk ls H locs hl hP hS)
    · exact lv_tableIn (off := 741) (tgt := 774) h.1 h.2.1 fl_d33 (by decide) (by decide) (by decide +kernel) (by decide) (fl_c_moving h hi hR kk ls H locs hl hP hS)
    · exact lv_tableIn (off := 774) (tgt := 807) h.1 h.2.1 fl_d33 (by decide) (by decide) (by decide +kernel) (by decide) (fl_c_blame h hi hR kk ls H locs hl hP hS)
    · exact lv_tableIn (off := 807) (tgt := 840) h.1 h.2.1 fl_d33 (by decide) (by decide) (by decide +kernel) (by decide) (fl_c_text h hi hR kk ls H locs hl hP hS)
    · exact lv_tableIn (off := 876) (tgt := 909) h.1 h.2.1 fl_d33 (by decide) (by decide) (by decide +kernel) (by decide) (fl_c_inForce h hi hR kk ls H locs hl hP hS)
    · exact lv_tableIn (off := 899) (tgt := 932) h.1 h.2.1 fl_d33 (by decide) (by decide) (by decide +kernel) (by decide) (fl_c_forfeit h hi hR kk ls H locs hl hP hS)
    · exact lv_tableIn (off := 942) (tgt := 975) h.1 h.2.1 fl_d33 (by decide) (by decide) (by decide +kernel) (by decide) (fl_c_value h hi hR kk ls H locs hl hP hS)
    · exact lv_tableIn (off := 975) (tgt := 1008) h.1 h.2.1 fl_d33 (by decide) (by decide) (by decide +kernel) (by decide) (fl_c_sure h hi hR kk ls H locs hl hP hS)
    · exact lv_tableIn (off := 1024) (tgt := 1057) h.1 h.2.1 fl_d33 (by decide) (by decide) (by decide +kernel) (by decide) (fl_c_due h hi hR kk ls H locs hl hP hS)
    · exact lv_tableIn (off := 1047) (tgt := 1080) h.1 h.2.1 fl_d33 (by decide) (by decide) (by decide +kernel) (by decide) (fl_c_unlike h hi hR kk ls H locs hl hP hS)
    · exact lv_tableIn (off := 1070) (tgt := 1103) h.1 h.2.1 fl_d33 (by decide) (by decide) (by decide +kernel) (by decide) (fl_c_settle h hi hR kk ls H locs hl hP hS)
    · exact lv_tableIn (off := 1093) (tgt := 1126) h.1 h.2.1 fl_d33 (by decide) (by decide) (by decide +kernel) (by decide) (fl_c_jury h hi hR kk ls H locs hl hP hS)
    · exact lv_tableIn (off := 1126) (tgt := 1159) h.1 h.2.1 fl_d33 (by decide) (by decide) (by decide +kernel) (by decide) (fl_c_habit h hi hR kk ls H locs hl hP hS)
    · exact lv_tableIn (off := 1169) (tgt := 1202) h.1 h.2.1 fl_d33 (by decide) (by decide) (by decide +kernel) (by decide) (fl_c_worstPlace h hi hR kk ls H locs hl hP hS)
    · exact lv_tableIn (off := 1202) (tgt := 1235) h.1 h.2.1 fl_d33 (by decide) (by decide) (by decide +kernel) (by decide) (fl_c_shortfall h hi hR kk ls H locs hl hP hS)
    · exact lv_tableIn (off := 1235) (tgt := 1268) h.1 h.2.1 fl_d33 (by decide) (by decide) (by decide +kernel) (by decide) (fl_c_grant h hi hR kk ls H locs hl hP hS)
    · exact lv_tableIn (off := 1310) (tgt := 1343) h.1 h.2.1 fl_d33 (by decide) (by decide) (by decide +kernel) (by decide) (fl_c_taker h hi hR kk ls H locs hl hP hS)
    · exact lv_tableIn (off := 1343) (tgt := 1376) h.1 h.2.1 fl_d33 (by decide) (by decide) (by decide +kernel) (by decide) (fl_c_takes h hi hR kk ls H locs hl hP hS)
    · exact lv_tableIn (off := 1386) (tgt := 1419) h.1 h.2.1 fl_d33 (by decide) (by decide) (by decide +kernel) (by decide) (fl_c_otherwise h hi hR kk ls H locs hl hP hS)
    · exact lv_tableIn (off := 1445) (tgt := 1478) h.1 h.2.1 fl_d33 (by decide) (by decide) (by decide +kernel) (by decide) (fl_c_freed h hi hR kk ls H locs hl hP hS)
    · exact lv_tableIn (off := 1504) (tgt := 1537) h.1 h.2.1 fl_d33 (by decide) (by decide) (by decide +kernel) (by decide) (fl_c_shift h hi hR kk ls H locs hl hP hS)
    · exact lv_tableIn (off := 1573) (tgt := 1606) h.1 h.2.1 fl_d33 (by decide) (by decide) (by decide +kernel) (by decide) (fl_c_leastChange h hi hR kk ls H locs hl hP hS)
    · exact lv_tableIn (off := 1606) (tgt := 1639) h.1 h.2.1 fl_d33 (by decide) (by decide) (by decide +kernel) (by decide) (fl_c_asked h hi hR kk ls H locs hl hP hS)
    · exact lv_tableIn (off := 1619) (tgt := 1652) h.1 h.2.1 fl_d33 (by decide) (by decide) (by decide +kernel) (by decide) (fl_c_upper h hi hR kk ls H locs hl hP hS)
    · exact lv_tableIn (off := 1633) (tgt := 1666) h.1 h.2.1 fl_d33 (by decide) (by decide) (by decide +kernel) (by decide) (fl_c_lower h hi hR kk ls H locs hl hP hS)
    · exact lv_tableIn (off := 1647) (tgt := 1680) h.1 h.2.1 fl_d33 (by decide) (by decide) (by decide +kernel) (by decide) (fl_c_count h hi hR kk ls H locs hl hP hS)
    · exact lv_tableIn (off := 1670) (tgt := 1703) h.1 h.2.1 fl_d33 (by decide) (by decide) (by decide +kernel) (by decide) (fl_c_finding h hi hR kk ls H locs hl hP hS)
    · exact lv_tableIn (off := 1683) (tgt := 1716) h.1 h.2.1 fl_d33 (by decide) (by decide) (by decide +kernel) (by decide) (fl_c_findings h hi hR kk ls H locs hl hP hS)
    · exact lv_tableIn (off := 1706) (tgt := 1739) h.1 h.2.1 fl_d33 (by decide) (by decide) (by decide +kernel) (by decide) (fl_c_digest h hi hR kk ls H locs hl hP hS)
theorem fl_loop {X : fl_X} (h : fl_Ok X) : ∀ (n i : Nat) (w : fb_Wd), fR w → i ≤ X.2.2.1.2.1 → X.2.2.1.2.1 < i + n → fl_AW X 18 i [] w := by
  intro n
  have hL := h.2.2.2.2.2.2.2.2.2.2.2
  induction n with
  | zero =>
    intro i w _ h1 h2
    exact absurd h2 (by omega)
  | succ n ih =>
    intro i w hR h1 h2 ls H locs hl hP hS
    refine lv_iload_n h.1 h.2.1 (show decode code 18 = .ok (.iload_n 3, 1) by decide +kernel) rfl (lv_at hl 0 rfl) ?_
    refine lv_aload_n h.1 h.2.1 (show decode code 19 = .ok (.aload_n 0, 1) by decide +kernel) rfl (lv_at hl 3 rfl) ?_
    refine va_slen h.1 h.2.1 h.2.2.2.2.2.2.1 h.2.2.2.2.2.2.2.1 (fl_bA h) hS (show decode code 20 = .ok (.arraylength, 1) by decide +kernel) ?_
    refine lv_bipush (v := 7) h.1 h.2.1 (show decode code 21 = .ok (.bipush 7, 2) by decide +kernel) (by decide) ?_
    refine lv_isub h.1 h.2.1 (show decode code 23 = .ok (.isub, 1) by decide +kernel) ?_
    refine lv_icmp_gt (tgt := 1759) h.1 h.2.1 (show decode code 24 = .ok (.if_icmp .gt 1735, 3) by decide +kernel) (by decide) (fun _ => fl_end (w := w) h ls H locs hl hP hS) (fun hc => ?_)
    have hi : i + 7 ≤ X.2.2.1.2.1 := fl_more hL h1 hc
    refine lv_aload_n h.1 h.2.1 (show decode code 27 = .ok (.aload_n 0, 1) by decide +kernel) rfl (lv_at hl 3 rfl) ?_
    refine lv_iload_n h.1 h.2.1 (show decode code 28 = .ok (.iload_n 3, 1) by decide +kernel) rfl (lv_at hl 0 rfl) ?_
    refine va_sld h.1 h.2.1 h.2.2.2.2.2.2.1 h.2.2.2.2.2.2.2.1 (fl_bA h) hS (vp_in_nI (n := i) (by omega) (by omega)) (show decode code 29 = .ok (.iaload, 1) by decide +kernel) ?_
    refine lv_bipush (v := 63) h.1 h.2.1 (show decode code 30 = .ok (.bipush 63, 2) by decide +kernel) (by decide) ?_
    refine lv_iand h.1 h.2.1 (show decode code 32 = .ok (.iand, 1) by decide +kernel) ?_
    exact fl_sw h hi hR (fun w2 hR2 => fl_next h (ih (i + 7) w2 hR2 hi (by omega))) _ ls H locs hl hP hS
