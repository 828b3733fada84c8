theorem fl_c_moving {X : fl_X} {i : Nat} {w : fb_Wd} (h : fl_Ok X) (hi : i + 7 ≤ X.2.2.1.2.1) (hR : fR w) (kk : ∀ w2, fR w2 → fl_AW X 1753 i [] w2) : fl_AW X 774 i [] w := by
  refine fl_ald1 (nx := 775) h (show decode code 774 = .ok (.aload_n 1, 1) by decide +kernel) ?_ rfl
  refine fl_arg (k := 1) (nx := 780) h hi (by decide) (by decide +kernel : fl_dA 775 1 = true) ?_ rfl
  refine fl_arg (k := 2) (nx := 785) h hi (by decide) (by decide +kernel : fl_dA 780 2 = true) ?_ rfl
  refine fl_callI (nx := 788) (T2 := tX7_moving) (q := 0) (As := [.int (X.2.2.1.2.2 (i + 1)), .int (X.2.2.1.2.2 (i + 2))]) (idx := 75) (rest := []) h (r_moving hR : fPair _ _ _ [.int (X.2.2.1.2.2 (i + 1)), .int (X.2.2.1.2.2 (i + 2))] w) fk_v_X7_moving (Or.inl (fb_mT 478 (by decide +kernel) (by decide +kernel))) rfl rfl rfl (by decide +kernel) (Nat.le_of_ble_eq_true rfl) (show decode code 785 = .ok (.invokevirtual 75, 3) by decide +kernel) rfl (fun x w1 h1 => ?_) rfl
  refine fl_ald2 (nx := 789) h (show decode code 788 = .ok (.aload_n 2, 1) by decide +kernel) ?_ rfl
  refine fl_arg (k := 1) (nx := 794) h hi (by decide) (by decide +kernel : fl_dA 789 1 = true) ?_ rfl
  refine fl_arg (k := 2) (nx := 799) h hi (by decide) (by decide +kernel : fl_dA 794 2 = true) ?_ rfl
  refine fl_callI (nx := 802) (T2 := tX8_moving) (q := 46) (As := [.int (X.2.2.1.2.2 (i + 1)), .int (X.2.2.1.2.2 (i + 2))]) (idx := 78) (rest := [.int x]) h h1 fk_v_X8_moving (Or.inl (fb_mT 1116 (by decide +kernel) (by decide +kernel))) rfl rfl rfl (by decide +kernel) (Nat.le_of_ble_eq_true rfl) (show decode code 799 = .ok (.invokevirtual 78, 3) by decide +kernel) rfl (fun y w2 h2 => ?_) rfl
  exact fl_eq h (show decode code 802 = .ok (.if_icmp .eq 951, 3) by decide +kernel) (by decide) h2.1 (kk w2 h2.2)
theorem fl_c_blame {X : fl_X} {i : Nat} {w : fb_Wd} (h : fl_Ok X) (hi : i + 7 ≤ X.2.2.1.2.1) (hR : fR w) (kk : ∀ w2, fR w2 → fl_AW X 1753 i [] w2) : fl_AW X 807 i [] w := by
  refine fl_ald1 (nx := 808) h (show decode code 807 = .ok (.aload_n 1, 1) by decide +kernel) ?_ rfl
  refine fl_arg (k := 1) (nx := 813) h hi (by decide) (by decide +kernel : fl_dA 808 1 = true) ?_ rfl
  refine fl_arg (k := 2) (nx := 818) h hi (by decide) (by decide +kernel : fl_dA 813 2 = true) ?_ rfl
  refine fl_callI (nx := 821) (T2 := tX7_blame) (q := 0) (As := [.int (X.2.2.1.2.2 (i + 1)), .int (X.2.2.1.2.2 (i + 2))]) (idx := 79) (rest := []) h (r_blame hR : fPair _ _ _ [.int (X.2.2.1.2.2 (i + 1)), .int (X.2.2.1.2.2 (i + 2))] w) fk_v_X7_blame (Or.inl (fb_mT 537 (by decide +kernel) (by decide +kernel))) rfl rfl rfl (by decide +kernel) (Nat.le_of_ble_eq_true rfl) (show decode code 818 = .ok (.invokevirtual 79, 3) by decide +kernel) rfl (fun x w1 h1 => ?_) rfl
  refine fl_ald2 (nx := 822) h (show decode code 821 = .ok (.aload_n 2, 1) by decide +kernel) ?_ rfl
  refine fl_arg (k := 1) (nx := 827) h hi (by decide) (by decide +kernel : fl_dA 822 1 = true) ?_ rfl
  refine fl_arg (k := 2) (nx := 832) h hi (by decide) (by decide +kernel : fl_dA 827 2 = true) ?_ rfl
  refine fl_callI (nx := 835) (T2 := tX8_blame) (q := 46) (As := [.int (X.2.2.1.2.2 (i + 1)), .int (X.2.2.1.2.2 (i + 2))]) (idx := 82) (rest := [.int x]) h h1 fk_v_X8_blame (Or.inl (fb_mT 1154 (by decide +kernel) (by decide +kernel))) rfl rfl rfl (by decide +kernel) (Nat.le_of_ble_eq_true rfl) (show decode code 832 = .ok (.invokevirtual 82, 3) by decide +kernel) rfl (fun y w2 h2 => ?_) rfl
  exact fl_eq h (show decode code 835 = .ok (.if_icmp .eq 918, 3) by decide +kernel) (by decide) h2.1 (kk w2 h2.2)
theorem fl_c_text {X : fl_X} {i : Nat} {w : fb_Wd} (h : fl_Ok X) (hi : i + 7 ≤ X.2.2.1.2.1) (hR : fR w) (kk : ∀ w2, fR w2 → fl_AW X 1753 i [] w2) : fl_AW X 840 i [] w := by
  refine fl_ald1 (nx := 841) h (show decode code 840 = .ok (.aload_n 1, 1) by decide +kernel) ?_ rfl
  refine fl_arg (k := 1) (nx := 846) h hi (by decide) (by decide +kernel : fl_dA 841 1 = true) ?_ rfl
  refine fl_arg (k := 2) (nx := 851) h hi (by decide) (by decide +kernel : fl_dA 846 2 = true) ?_ rfl
  refine fl_arg (k := 3) (nx := 856) h hi (by decide) (by decide +kernel : fl_dA 851 3 = true) ?_ rfl
  refine fl_bool (nx := 864) h (by decide +kernel : fl_dB 856 = true) ?_ rfl
  refine fl_arg (k := 4) (nx := 869) h hi (by decide) (by decide +kernel : fl_dA 864 4 = true) ?_ rfl
  refine fl_callI (nx := 872) (T2 := tX7_text) (q := 0) (As := [.int (X.2.2.1.2.2 (i + 1)), .int (X.2.2.1.2.2 (i + 2)), .int (fl_z (X.2.2.1.2.2 (i + 3))), .int (X.2.2.1.2.2 (i + 4))]) (idx := 83) (rest := []) h (r_text hR (fl_z01 (X.2.2.1.2.2 (i + 3))) : fPair _ _ _ [.int (X.2.2.1.2.2 (i + 1)), .int (X.2.2.1.2.2 (i + 2)), .int (fl_z (X.2.2.1.2.2 (i + 3))), .int (X.2.2.1.2.2 (i + 4))] w) fk_v_X7_text (Or.inl (fb_mT 541 (by decide +kernel) (by decide +kernel))) rfl rfl rfl (by decide +kernel) (Nat.le_of_ble_eq_true rfl) (show decode code 869 = .ok (.invokevirtual 83, 3) by decide +kernel) rfl (fun x w1 h1 => ?_) rfl
  refine fl_ald2 (nx := 873) h (show decode code 872 = .ok (.aload_n 2, 1) by decide +kernel) ?_ rfl
  refine fl_arg (k := 1) (nx := 878) h hi (by decide) (by decide +kernel : fl_dA 873 1 = true) ?_ rfl
  refine fl_arg (k := 2) (nx := 883) h hi (by decide) (by decide +kernel : fl_dA 878 2 = true) ?_ rfl
  refine fl_arg (k := 3) (nx := 888) h hi (by decide) (by decide +kernel : fl_dA 883 3 = true) ?_ rfl
  refine fl_bool (nx := 896) h (by decide +kernel : fl_dB 888 = true) ?_ rfl
  refine fl_arg (k := 4) (nx := 901) h hi (by decide) (by decide +kernel : fl_dA 896 4 = true) ?_ rfl
  refine fl_callI (nx := 904) (T2 := tX8_text) (q := 46) (As := [.int (X.2.2.1.2.2 (i + 1)), .int (X.2.2.1.2.2 (i + 2)), .int (fl_z (X.2.2.1.2.2 (i + 3))), .int (X.2.2.1.2.2 (i + 4))]) (idx := 87) (rest := [.int x]) h h1 fk_v_X8_text (Or.inl (fb_mT 1158 (by decide +kernel) (by decide +kernel))) rfl rfl rfl (by decide +kernel) (Nat.le_of_ble_eq_true rfl) (show decode code 901 = .ok (.invokevirtual 87, 3) by decide +kernel) rfl (fun y w2 h2 => ?_) rfl
  exact fl_eq h (show decode code 904 = .ok (.if_icmp .eq 849, 3) by decide +kernel) (by decide) h2.1 (kk w2 h2.2)
theorem fl_c_inForce {X : fl_X} {i : Nat} {w : fb_Wd} (h : fl_Ok X) (hi : i + 7 ≤ X.2.2.1.2.1) (hR : fR w) (kk : ∀ w2, fR w2 → fl_AW X 1753 i [] w2) : fl_AW X 909 i [] w := by
  refine fl_ald1 (nx := 910) h (show decode code 909 = .ok (.aload_n 1, 1) by decide +kernel) ?_ rfl
  refine fl_arg (k := 1) (nx := 915) h hi (by decide) (by decide +kernel : fl_dA 910 1 = true) ?_ rfl
  refine fl_callI (nx := 918) (T2 := tX7_inForce) (q := 0) (As := [.int (X.2.2.1.2.2 (i + 1))]) (idx := 88) (rest := []) h (r_inForce hR : fPair _ _ _ [.int (X.2.2.1.2.2 (i + 1))] w) fk_v_X7_inForce (Or.inl (fb_mT 555 (by decide +kernel) (by decide +kernel))) rfl rfl rfl (by decide +kernel) (Nat.le_of_ble_eq_true rfl) (show decode code 915 = .ok (.invokevirtual 88, 3) by decide +kernel) rfl (fun x w1 h1 => ?_) rfl
  refine fl_ald2 (nx := 919) h (show decode code 918 = .ok (.aload_n 2, 1) by decide +kernel) ?_ rfl
  refine fl_arg (k := 1) (nx := 924) h hi (by decide) (by decide +kernel : fl_dA 919 1 = true) ?_ rfl
  refine fl_callI (nx := 927) (T2 := tX8_inForce) (q := 46) (As := [.int (X.2.2.1.2.2 (i + 1))]) (idx := 91) (rest := [.int x]) h h1 fk_v_X8_inForce (Or.inl (fb_mT 1169 (by decide +kernel) (by decide +kernel))) rfl rfl rfl (by decide +kernel) (Nat.le_of_ble_eq_true rfl) (show decode code 924 = .ok (.invokevirtual 91, 3) by decide +kernel) rfl (fun y w2 h2 => ?_) rfl
  exact fl_eq h (show decode code 927 = .ok (.if_icmp .eq 826, 3) by decide +kernel) (by decide) h2.1 (kk w2 h2.2)
theorem fl_c_forfeit {X : fl_X} {i : Nat} {w : fb_Wd} (h : fl_Ok X) (hi : i + 7 ≤ X.2.2.1.2.1) (hR : fR w) (kk : ∀ w2, fR w2 → fl_AW X 1753 i [] w2) : fl_AW X 932 i [] w := by
  refine fl_ald1 (nx := 933) h (show decode code 932 = .ok (.aload_n 1, 1) by decide +kernel) ?_ rfl
  refine fl_arg (k := 1) (nx := 938) h hi (by decide) (by decide +kernel : fl_dA 933 1 = true) ?_ rfl
  refine fl_arg (k := 2) (nx := 943) h hi (by decide) (by decide +kernel : fl_dA 938 2 = true) ?_ rfl
  refine fl_arg (k := 3) (nx := 948) h hi (by decide) (by decide +kernel : fl_dA 943 3 = true) ?_ rfl
  refine fl_callI (nx := 951) (T2 := tX7_forfeit) (q := 0) (As := [.int (X.2.2.1.2.2 (i + 1)), .int (X.2.2.1.2.2 (i + 2)), .int (X.2.2.1.2.2 (i + 3))]) (idx := 92) (rest := []) h (r_forfeit hR : fPair _ _ _ [.int (X.2.2.1.2.2 (i + 1)), .int (X.2.2.1.2.2 (i + 2)), .int (X.2.2.1.2.2 (i + 3))] w) fk_v_X7_forfeit (Or.inl (fb_mT 563 (by decide +kernel) (by decide +kernel))) rfl rfl rfl (by decide +kernel) (Nat.le_of_ble_eq_true rfl) (show decode code 948 = .ok (.invokevirtual 92, 3) by decide +kernel) rfl (fun x w1 h1 => ?_) rfl
  refine fl_ald2 (nx := 952) h (show decode code 951 = .ok (.aload_n 2, 1) by decide +kernel) ?_ rfl
  refine fl_arg (k := 1) (nx := 957) h hi (by decide) (by decide +kernel : fl_dA 952 1 = true) ?_ rfl
  refine fl_arg (k := 2) (nx := 962) h hi (by decide) (by decide +kernel : fl_dA 957 2 = true) ?_ rfl
  refine fl_arg (k := 3) (nx := 967) h hi (by decide) (by decide +kernel : fl_dA 962 3 = true) ?_ rfl
  refine fl_callI (nx := 970) (T2 := tX8_forfeit) (q := 46) (As := [.int (X.2.2.1.2.2 (i + 1)), .int (X.2.2.1.2.2 (i + 2)), .int (X.2.2.1.2.2 (i + 3))]) (idx := 95) (rest := [.int x]) h h1 fk_v_X8_forfeit (Or.inl (fb_mT 1177 (by decide +kernel) (by decide +kernel))) rfl rfl rfl (by decide +kernel) (Nat.le_of_ble_eq_true rfl) (show decode code 967 = .ok (.invokevirtual 95, 3) by decide +kernel) rfl (fun y w2 h2 => ?_) rfl
  exact fl_eq h (show decode code 970 = .ok (.if_icmp .eq 783, 3) by decide +kernel) (by decide) h2.1 (kk w2 h2.2)
theorem fl_c_value {X : fl_X} {i : Nat} {w : fb_Wd} (h : fl_Ok X) (hi : i + 7 ≤ X.2.2.1.2.1) (hR : fR w) (kk : ∀ w2, fR w2 → fl_AW X 1753 i [] w2) : fl_AW X 975 i [] w := by
  refine fl_ald1 (nx := 976) h (show decode code 975 = .ok (.aload_n 1, 1) by decide +kernel) ?_ rfl
  refine fl_arg (k := 1) (nx := 981) h hi (by decide) (by decide +kernel : fl_dA 976 1 = true) ?_ rfl
  refine fl_arg (k := 2) (nx := 986) h hi (by decide) (by decide +kernel : fl_dA 981 2 = true) ?_ rfl
  refine fl_callI (nx := 989) (T2 := tX7_value) (q := 0) (As := [.int (X.2.2.1.2.2 (i + 1)), .int (X.2.2.1.2.2 (i + 2))]) (idx := 96) (rest := []) h (r_value hR : fPair _ _ _ [.int (X.2.2.1.2.2 (i + 1)), .int (X.2.2.1.2.2 (i + 2))] w) fk_v_X7_value (Or.inl (fb_mT 588 (by decide +kernel) (by decide +kernel))) rfl rfl rfl (by decide +kernel) (Nat.le_of_ble_eq_true rfl) (show decode code 986 = .ok (.invokevirtual 96, 3) by decide +kernel) rfl (fun x w1 h1 => ?_) rfl
  refine fl_ald2 (nx := 990) h (show decode code 989 = .ok (.aload_n 2, 1) by decide +kernel) ?_ rfl
  refine fl_arg (k := 1) (nx := 995) h hi (by decide) (by decide +kernel : fl_dA 990 1 = true) ?_ rfl
  refine fl_arg (k := 2) (nx := 1000) h hi (by decide) (by decide +kernel : fl_dA 995 2 = true) ?_ rfl
  refine fl_callI (nx := 1003) (T2 := tX8_value) (q := 46) (As := [.int (X.2.2.1.2.2 (i + 1)), .int (X.2.2.1.2.2 (i + 2))]) (idx := 99) (rest := [.int x]) h h1 fk_v_X8_value (Or.inl (fb_mT 1185 (by decide +kernel) (by decide +kernel))) rfl rfl rfl (by decide +kernel) (Nat.le_of_ble_eq_true rfl) (show decode code 1000 = .ok (.invokevirtual 99, 3) by decide +kernel) rfl (fun y w2 h2 => ?_) rfl
  exact fl_eq h (show decode code 1003 = .ok (.if_icmp .eq 750, 3) by decide +kernel) (by decide) h2.1 (kk w2 h2.2)
theorem fl_c_sure {X : fl_X} {i : Nat} {w : fb_Wd} (h : fl_Ok X) (hi : i + 7 ≤ X.2.2.1.2.1) (hR : fR w) (kk : ∀ w2, fR w2 → fl_AW X 1753 i [] w2) : fl_AW X 1008 i [] w := by
  refine fl_ald1 (nx := 1009) h (show decode code 1008 = .ok (.aload_n 1, 1) by decide +kernel) ?_ rfl
  refine fl_arg (k := 1) (nx := 1014) h hi (by decide) (by decide +kernel : fl_dA 1009 1 = true) ?_ rfl
  refine fl_arg (k := 2) (nx := 1019) h hi (by decide) (by decide +kernel : fl_dA 1014 2 = true) ?_ rfl
  refine fl_bool (nx := 1027) h (by decide +kernel : fl_dB 1019 = true) ?_ rfl
  refine fl_callI (nx := 1030) (T2 := tX7_sure) (q := 0) (As := [.int (X.2.2.1.2.2 (i + 1)), .int (fl_z (X.2.2.1.2.2 (i + 2)))]) (idx := 100) (rest := []) h (r_sure hR : fPair _ _ _ [.int (X.2.2.1.2.2 (i + 1)), .int (fl_z (X.2.2.1.2.2 (i + 2)))] w) fk_v_X7_sure (Or.inl (fb_mT 616 (by decide +kernel) (by decide +kernel))) rfl rfl rfl (by decide +kernel) (Nat.le_of_ble_eq_true rfl) (show decode code 1027 = .ok (.invokevirtual 100, 3) by decide +kernel) rfl (fun x w1 h1 => ?_) rfl
  refine fl_ald2 (nx := 1031) h (show decode code 1030 = .ok (.aload_n 2, 1) by decide +kernel) ?_ rfl
  refine fl_arg (k := 1) (nx := 1036) h hi (by decide) (by decide +kernel : fl_dA 1031 1 = true) ?_ rfl
  refine fl_arg (k := 2) (nx := 1041) h hi (by decide) (by decide +kernel : fl_dA 1036 2 = true) ?_ rfl
  refine fl_bool (nx := 1049) h (by decide +kernel : fl_dB 1041 = true) ?_ rfl
  refine fl_callI (nx := 1052) (T2 := tX8_sure) (q := 46) (As := [.int (X.2.2.1.2.2 (i + 1)), .int (fl_z (X.2.2.1.2.2 (i + 2)))]) (idx := 104) (rest := [.int x]) h h1 fk_v_X8_sure (Or.inl (fb_mT 1193 (by decide +kernel) (by decide +kernel))) rfl rfl rfl (by decide +kernel) (Nat.le_of_ble_eq_true rfl) (show decode code 1049 = .ok (.invokevirtual 104, 3) by decide +kernel) rfl (fun y w2 h2 => ?_) rfl
  exact fl_eq h (show decode code 1052 = .ok (.if_icmp .eq 701, 3) by decide +kernel) (by decide) h2.1 (kk w2 h2.2)
