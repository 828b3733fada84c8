theorem fl_c_mark {X : fl_X} {i : Nat} {w : fb_Wd} (h : fl_Ok X) (hi : i + 7 ≤ X.2.2.1.2.1) (hR : fR w) (kk : ∀ w2, fR w2 → fl_AW X 1753 i [] w2) : fl_AW X 497 i [] w := by
  refine fl_ald1 (nx := 498) h (show decode code 497 = .ok (.aload_n 1, 1) by decide +kernel) ?_ rfl
  refine fl_arg (k := 1) (nx := 503) h hi (by decide) (by decide +kernel : fl_dA 498 1 = true) ?_ rfl
  refine fl_arg (k := 2) (nx := 508) h hi (by decide) (by decide +kernel : fl_dA 503 2 = true) ?_ rfl
  refine fl_callI (nx := 511) (T2 := tX7_mark) (q := 0) (As := [.int (X.2.2.1.2.2 (i + 1)), .int (X.2.2.1.2.2 (i + 2))]) (idx := 46) (rest := []) h (r_mark hR : fPair _ _ _ [.int (X.2.2.1.2.2 (i + 1)), .int (X.2.2.1.2.2 (i + 2))] w) fk_v_X7_mark (Or.inl (fb_mT 392 (by decide +kernel) (by decide +kernel))) rfl rfl rfl (by decide +kernel) (Nat.le_of_ble_eq_true rfl) (show decode code 508 = .ok (.invokevirtual 46, 3) by decide +kernel) rfl (fun x w1 h1 => ?_) rfl
  refine fl_ald2 (nx := 512) h (show decode code 511 = .ok (.aload_n 2, 1) by decide +kernel) ?_ rfl
  refine fl_arg (k := 1) (nx := 517) h hi (by decide) (by decide +kernel : fl_dA 512 1 = true) ?_ rfl
  refine fl_arg (k := 2) (nx := 522) h hi (by decide) (by decide +kernel : fl_dA 517 2 = true) ?_ rfl
  refine fl_callI (nx := 525) (T2 := tX8_mark) (q := 46) (As := [.int (X.2.2.1.2.2 (i + 1)), .int (X.2.2.1.2.2 (i + 2))]) (idx := 49) (rest := [.int x]) h h1 fk_v_X8_mark (Or.inl (fb_mT 1054 (by decide +kernel) (by decide +kernel))) rfl rfl rfl (by decide +kernel) (Nat.le_of_ble_eq_true rfl) (show decode code 522 = .ok (.invokevirtual 49, 3) by decide +kernel) rfl (fun y w2 h2 => ?_) rfl
  exact fl_eq h (show decode code 525 = .ok (.if_icmp .eq 1228, 3) by decide +kernel) (by decide) h2.1 (kk w2 h2.2)
theorem fl_c_worth {X : fl_X} {i : Nat} {w : fb_Wd} (h : fl_Ok X) (hi : i + 7 ≤ X.2.2.1.2.1) (hR : fR w) (kk : ∀ w2, fR w2 → fl_AW X 1753 i [] w2) : fl_AW X 530 i [] w := by
  refine fl_ald1 (nx := 531) h (show decode code 530 = .ok (.aload_n 1, 1) by decide +kernel) ?_ rfl
  refine fl_arg (k := 1) (nx := 536) h hi (by decide) (by decide +kernel : fl_dA 531 1 = true) ?_ rfl
  refine fl_arg (k := 2) (nx := 541) h hi (by decide) (by decide +kernel : fl_dA 536 2 = true) ?_ rfl
  refine fl_callI (nx := 544) (T2 := tX7_worth) (q := 0) (As := [.int (X.2.2.1.2.2 (i + 1)), .int (X.2.2.1.2.2 (i + 2))]) (idx := 50) (rest := []) h (r_worth hR : fPair _ _ _ [.int (X.2.2.1.2.2 (i + 1)), .int (X.2.2.1.2.2 (i + 2))] w) fk_v_X7_worth (Or.inl (fb_mT 413 (by decide +kernel) (by decide +kernel))) rfl rfl rfl (by decide +kernel) (Nat.le_of_ble_eq_true rfl) (show decode code 541 = .ok (.invokevirtual 50, 3) by decide +kernel) rfl (fun x w1 h1 => ?_) rfl
  refine fl_ald2 (nx := 545) h (show decode code 544 = .ok (.aload_n 2, 1) by decide +kernel) ?_ rfl
  refine fl_arg (k := 1) (nx := 550) h hi (by decide) (by decide +kernel : fl_dA 545 1 = true) ?_ rfl
  refine fl_arg (k := 2) (nx := 555) h hi (by decide) (by decide +kernel : fl_dA 550 2 = true) ?_ rfl
  refine fl_callI (nx := 558) (T2 := tX8_worth) (q := 46) (As := [.int (X.2.2.1.2.2 (i + 1)), .int (X.2.2.1.2.2 (i + 2))]) (idx := 53) (rest := [.int x]) h h1 fk_v_X8_worth (Or.inl (fb_mT 1058 (by decide +kernel) (by decide +kernel))) rfl rfl rfl (by decide +kernel) (Nat.le_of_ble_eq_true rfl) (show decode code 555 = .ok (.invokevirtual 53, 3) by decide +kernel) rfl (fun y w2 h2 => ?_) rfl
  exact fl_eq h (show decode code 558 = .ok (.if_icmp .eq 1195, 3) by decide +kernel) (by decide) h2.1 (kk w2 h2.2)
theorem fl_c_mean {X : fl_X} {i : Nat} {w : fb_Wd} (h : fl_Ok X) (hi : i + 7 ≤ X.2.2.1.2.1) (hR : fR w) (kk : ∀ w2, fR w2 → fl_AW X 1753 i [] w2) : fl_AW X 563 i [] w := by
  refine fl_ald1 (nx := 564) h (show decode code 563 = .ok (.aload_n 1, 1) by decide +kernel) ?_ rfl
  refine fl_arg (k := 1) (nx := 569) h hi (by decide) (by decide +kernel : fl_dA 564 1 = true) ?_ rfl
  refine fl_callI (nx := 572) (T2 := tX7_mean) (q := 0) (As := [.int (X.2.2.1.2.2 (i + 1))]) (idx := 54) (rest := []) h (r_mean hR : fPair _ _ _ [.int (X.2.2.1.2.2 (i + 1))] w) fk_v_X7_mean (Or.inl (fb_mT 418 (by decide +kernel) (by decide +kernel))) rfl rfl rfl (by decide +kernel) (Nat.le_of_ble_eq_true rfl) (show decode code 569 = .ok (.invokevirtual 54, 3) by decide +kernel) rfl (fun x w1 h1 => ?_) rfl
  refine fl_ald2 (nx := 573) h (show decode code 572 = .ok (.aload_n 2, 1) by decide +kernel) ?_ rfl
  refine fl_arg (k := 1) (nx := 578) h hi (by decide) (by decide +kernel : fl_dA 573 1 = true) ?_ rfl
  refine fl_callI (nx := 581) (T2 := tX8_mean) (q := 46) (As := [.int (X.2.2.1.2.2 (i + 1))]) (idx := 57) (rest := [.int x]) h h1 fk_v_X8_mean (Or.inl (fb_mT 1062 (by decide +kernel) (by decide +kernel))) rfl rfl rfl (by decide +kernel) (Nat.le_of_ble_eq_true rfl) (show decode code 578 = .ok (.invokevirtual 57, 3) by decide +kernel) rfl (fun y w2 h2 => ?_) rfl
  exact fl_eq h (show decode code 581 = .ok (.if_icmp .eq 1172, 3) by decide +kernel) (by decide) h2.1 (kk w2 h2.2)
theorem fl_c_death {X : fl_X} {i : Nat} {w : fb_Wd} (h : fl_Ok X) (hi : i + 7 ≤ X.2.2.1.2.1) (hR : fR w) (kk : ∀ w2, fR w2 → fl_AW X 1753 i [] w2) : fl_AW X 586 i [] w := by
  refine fl_ald1 (nx := 587) h (show decode code 586 = .ok (.aload_n 1, 1) by decide +kernel) ?_ rfl
  refine fl_arg (k := 1) (nx := 592) h hi (by decide) (by decide +kernel : fl_dA 587 1 = true) ?_ rfl
  refine fl_arg (k := 2) (nx := 597) h hi (by decide) (by decide +kernel : fl_dA 592 2 = true) ?_ rfl
  refine fl_arg (k := 3) (nx := 602) h hi (by decide) (by decide +kernel : fl_dA 597 3 = true) ?_ rfl
  refine fl_callI (nx := 605) (T2 := tX7_death) (q := 0) (As := [.int (X.2.2.1.2.2 (i + 1)), .int (X.2.2.1.2.2 (i + 2)), .int (X.2.2.1.2.2 (i + 3))]) (idx := 58) (rest := []) h (r_death hR : fPair _ _ _ [.int (X.2.2.1.2.2 (i + 1)), .int (X.2.2.1.2.2 (i + 2)), .int (X.2.2.1.2.2 (i + 3))] w) fk_v_X7_death (Or.inl (fb_mT 422 (by decide +kernel) (by decide +kernel))) rfl rfl rfl (by decide +kernel) (Nat.le_of_ble_eq_true rfl) (show decode code 602 = .ok (.invokevirtual 58, 3) by decide +kernel) rfl (fun x w1 h1 => ?_) rfl
  refine fl_ald2 (nx := 606) h (show decode code 605 = .ok (.aload_n 2, 1) by decide +kernel) ?_ rfl
  refine fl_arg (k := 1) (nx := 611) h hi (by decide) (by decide +kernel : fl_dA 606 1 = true) ?_ rfl
  refine fl_arg (k := 2) (nx := 616) h hi (by decide) (by decide +kernel : fl_dA 611 2 = true) ?_ rfl
  refine fl_arg (k := 3) (nx := 621) h hi (by decide) (by decide +kernel : fl_dA 616 3 = true) ?_ rfl
  refine fl_callI (nx := 624) (T2 := tX8_death) (q := 46) (As := [.int (X.2.2.1.2.2 (i + 1)), .int (X.2.2.1.2.2 (i + 2)), .int (X.2.2.1.2.2 (i + 3))]) (idx := 61) (rest := [.int x]) h h1 fk_v_X8_death (Or.inl (fb_mT 1066 (by decide +kernel) (by decide +kernel))) rfl rfl rfl (by decide +kernel) (Nat.le_of_ble_eq_true rfl) (show decode code 621 = .ok (.invokevirtual 61, 3) by decide +kernel) rfl (fun y w2 h2 => ?_) rfl
  exact fl_eq h (show decode code 624 = .ok (.if_icmp .eq 1129, 3) by decide +kernel) (by decide) h2.1 (kk w2 h2.2)
theorem fl_c_act {X : fl_X} {i : Nat} {w : fb_Wd} (h : fl_Ok X) (hi : i + 7 ≤ X.2.2.1.2.1) (hR : fR w) (kk : ∀ w2, fR w2 → fl_AW X 1753 i [] w2) : fl_AW X 629 i [] w := by
  refine fl_ald1 (nx := 630) h (show decode code 629 = .ok (.aload_n 1, 1) by decide +kernel) ?_ rfl
  refine fl_arg (k := 1) (nx := 635) h hi (by decide) (by decide +kernel : fl_dA 630 1 = true) ?_ rfl
  refine fl_arg (k := 2) (nx := 640) h hi (by decide) (by decide +kernel : fl_dA 635 2 = true) ?_ rfl
  refine fl_arg (k := 3) (nx := 645) h hi (by decide) (by decide +kernel : fl_dA 640 3 = true) ?_ rfl
  refine fl_arg (k := 4) (nx := 650) h hi (by decide) (by decide +kernel : fl_dA 645 4 = true) ?_ rfl
  refine fl_arg (k := 5) (nx := 655) h hi (by decide) (by decide +kernel : fl_dA 650 5 = true) ?_ rfl
  refine fl_bool (nx := 663) h (by decide +kernel : fl_dB 655 = true) ?_ rfl
  refine fl_callI (nx := 666) (T2 := tX7_act) (q := 0) (As := [.int (X.2.2.1.2.2 (i + 1)), .int (X.2.2.1.2.2 (i + 2)), .int (X.2.2.1.2.2 (i + 3)), .int (X.2.2.1.2.2 (i + 4)), .int (fl_z (X.2.2.1.2.2 (i + 5)))]) (idx := 62) (rest := []) h (r_act hR (fl_z01 (X.2.2.1.2.2 (i + 5))) : fPair _ _ _ [.int (X.2.2.1.2.2 (i + 1)), .int (X.2.2.1.2.2 (i + 2)), .int (X.2.2.1.2.2 (i + 3)), .int (X.2.2.1.2.2 (i + 4)), .int (fl_z (X.2.2.1.2.2 (i + 5)))] w) fk_v_X7_act (Or.inl (fb_mT 437 (by decide +kernel) (by decide +kernel))) rfl rfl rfl (by decide +kernel) (Nat.le_of_ble_eq_true rfl) (show decode code 663 = .ok (.invokevirtual 62, 3) by decide +kernel) rfl (fun x w1 h1 => ?_) rfl
  refine fl_ald2 (nx := 667) h (show decode code 666 = .ok (.aload_n 2, 1) by decide +kernel) ?_ rfl
  refine fl_arg (k := 1) (nx := 672) h hi (by decide) (by decide +kernel : fl_dA 667 1 = true) ?_ rfl
  refine fl_arg (k := 2) (nx := 677) h hi (by decide) (by decide +kernel : fl_dA 672 2 = true) ?_ rfl
  refine fl_arg (k := 3) (nx := 682) h hi (by decide) (by decide +kernel : fl_dA 677 3 = true) ?_ rfl
  refine fl_arg (k := 4) (nx := 687) h hi (by decide) (by decide +kernel : fl_dA 682 4 = true) ?_ rfl
  refine fl_arg (k := 5) (nx := 692) h hi (by decide) (by decide +kernel : fl_dA 687 5 = true) ?_ rfl
  refine fl_bool (nx := 700) h (by decide +kernel : fl_dB 692 = true) ?_ rfl
  refine fl_callI (nx := 703) (T2 := tX8_act) (q := 46) (As := [.int (X.2.2.1.2.2 (i + 1)), .int (X.2.2.1.2.2 (i + 2)), .int (X.2.2.1.2.2 (i + 3)), .int (X.2.2.1.2.2 (i + 4)), .int (fl_z (X.2.2.1.2.2 (i + 5)))]) (idx := 66) (rest := [.int x]) h h1 fk_v_X8_act (Or.inl (fb_mT 1080 (by decide +kernel) (by decide +kernel))) rfl rfl rfl (by decide +kernel) (Nat.le_of_ble_eq_true rfl) (show decode code 700 = .ok (.invokevirtual 66, 3) by decide +kernel) rfl (fun y w2 h2 => ?_) rfl
  exact fl_eq h (show decode code 703 = .ok (.if_icmp .eq 1050, 3) by decide +kernel) (by decide) h2.1 (kk w2 h2.2)
theorem fl_c_acts {X : fl_X} {i : Nat} {w : fb_Wd} (h : fl_Ok X) (hi : i + 7 ≤ X.2.2.1.2.1) (hR : fR w) (kk : ∀ w2, fR w2 → fl_AW X 1753 i [] w2) : fl_AW X 708 i [] w := by
  refine fl_ald1 (nx := 709) h (show decode code 708 = .ok (.aload_n 1, 1) by decide +kernel) ?_ rfl
  refine fl_arg (k := 1) (nx := 714) h hi (by decide) (by decide +kernel : fl_dA 709 1 = true) ?_ rfl
  refine fl_arg (k := 2) (nx := 719) h hi (by decide) (by decide +kernel : fl_dA 714 2 = true) ?_ rfl
  refine fl_callI (nx := 722) (T2 := tX7_acts) (q := 0) (As := [.int (X.2.2.1.2.2 (i + 1)), .int (X.2.2.1.2.2 (i + 2))]) (idx := 67) (rest := []) h (r_acts hR : fPair _ _ _ [.int (X.2.2.1.2.2 (i + 1)), .int (X.2.2.1.2.2 (i + 2))] w) fk_v_X7_acts (Or.inl (fb_mT 454 (by decide +kernel) (by decide +kernel))) rfl rfl rfl (by decide +kernel) (Nat.le_of_ble_eq_true rfl) (show decode code 719 = .ok (.invokevirtual 67, 3) by decide +kernel) rfl (fun x w1 h1 => ?_) rfl
  refine fl_ald2 (nx := 723) h (show decode code 722 = .ok (.aload_n 2, 1) by decide +kernel) ?_ rfl
  refine fl_arg (k := 1) (nx := 728) h hi (by decide) (by decide +kernel : fl_dA 723 1 = true) ?_ rfl
  refine fl_arg (k := 2) (nx := 733) h hi (by decide) (by decide +kernel : fl_dA 728 2 = true) ?_ rfl
  refine fl_callI (nx := 736) (T2 := tX8_acts) (q := 46) (As := [.int (X.2.2.1.2.2 (i + 1)), .int (X.2.2.1.2.2 (i + 2))]) (idx := 70) (rest := [.int x]) h h1 fk_v_X8_acts (Or.inl (fb_mT 1100 (by decide +kernel) (by decide +kernel))) rfl rfl rfl (by decide +kernel) (Nat.le_of_ble_eq_true rfl) (show decode code 733 = .ok (.invokevirtual 70, 3) by decide +kernel) rfl (fun y w2 h2 => ?_) rfl
  exact fl_eq h (show decode code 736 = .ok (.if_icmp .eq 1017, 3) by decide +kernel) (by decide) h2.1 (kk w2 h2.2)
theorem fl_c_deathTold {X : fl_X} {i : Nat} {w : fb_Wd} (h : fl_Ok X) (hi : i + 7 ≤ X.2.2.1.2.1) (hR : fR w) (kk : ∀ w2, fR w2 → fl_AW X 1753 i [] w2) : fl_AW X 741 i [] w := by
  refine fl_ald1 (nx := 742) h (show decode code 741 = .ok (.aload_n 1, 1) by decide +kernel) ?_ rfl
  refine fl_arg (k := 1) (nx := 747) h hi (by decide) (by decide +kernel : fl_dA 742 1 = true) ?_ rfl
  refine fl_arg (k := 2) (nx := 752) h hi (by decide) (by decide +kernel : fl_dA 747 2 = true) ?_ rfl
  refine fl_callI (nx := 755) (T2 := tX7_deathTold) (q := 0) (As := [.int (X.2.2.1.2.2 (i + 1)), .int (X.2.2.1.2.2 (i + 2))]) (idx := 71) (rest := []) h (r_deathTold hR : fPair _ _ _ [.int (X.2.2.1.2.2 (i + 1)), .int (X.2.2.1.2.2 (i + 2))] w) fk_v_X7_deathTold (Or.inl (fb_mT 466 (by decide +kernel) (by decide +kernel))) rfl rfl rfl (by decide +kernel) (Nat.le_of_ble_eq_true rfl) (show decode code 752 = .ok (.invokevirtual 71, 3) by decide +kernel) rfl (fun x w1 h1 => ?_) rfl
  refine fl_ald2 (nx := 756) h (show decode code 755 = .ok (.aload_n 2, 1) by decide +kernel) ?_ rfl
  refine fl_arg (k := 1) (nx := 761) h hi (by decide) (by decide +kernel : fl_dA 756 1 = true) ?_ rfl
  refine fl_arg (k := 2) (nx := 766) h hi (by decide) (by decide +kernel : fl_dA 761 2 = true) ?_ rfl
  refine fl_callI (nx := 769) (T2 := tX8_deathTold) (q := 46) (As := [.int (X.2.2.1.2.2 (i + 1)), .int (X.2.2.1.2.2 (i + 2))]) (idx := 74) (rest := [.int x]) h h1 fk_v_X8_deathTold (Or.inl (fb_mT 1104 (by decide +kernel) (by decide +kernel))) rfl rfl rfl (by decide +kernel) (Nat.le_of_ble_eq_true rfl) (show decode code 766 = .ok (.invokevirtual 74, 3) by decide +kernel) rfl (fun y w2 h2 => ?_) rfl
  exact fl_eq h (show decode code 769 = .ok (.if_icmp .eq 984, 3) by decide +kernel) (by decide) h2.1 (kk w2 h2.2)
