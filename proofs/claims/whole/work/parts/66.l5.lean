theorem fl_c_due {X : fl_X} {i : Nat} {w : fb_Wd} (h : fl_Ok X) (hi : i + 7 ≤ X.2.2.1.2.1) (hR : fR w) (kk : ∀ w2, fR w2 → fl_AW X 1753 i [] w2) : fl_AW X 1057 i [] w := by
  refine fl_ald1 (nx := 1058) h (show decode code 1057 = .ok (.aload_n 1, 1) by decide +kernel) ?_ rfl
  refine fl_arg (k := 1) (nx := 1063) h hi (by decide) (by decide +kernel : fl_dA 1058 1 = true) ?_ rfl
  refine fl_callI (nx := 1066) (T2 := tX7_due) (q := 0) (As := [.int (X.2.2.1.2.2 (i + 1))]) (idx := 105) (rest := []) h (r_due hR : fPair _ _ _ [.int (X.2.2.1.2.2 (i + 1))] w) fk_v_X7_due (Or.inl (fb_mT 628 (by decide +kernel) (by decide +kernel))) rfl rfl rfl (by decide +kernel) (Nat.le_of_ble_eq_true rfl) (show decode code 1063 = .ok (.invokevirtual 105, 3) by decide +kernel) rfl (fun x w1 h1 => ?_) rfl
  refine fl_ald2 (nx := 1067) h (show decode code 1066 = .ok (.aload_n 2, 1) by decide +kernel) ?_ rfl
  refine fl_arg (k := 1) (nx := 1072) h hi (by decide) (by decide +kernel : fl_dA 1067 1 = true) ?_ rfl
  refine fl_callI (nx := 1075) (T2 := tX8_due) (q := 46) (As := [.int (X.2.2.1.2.2 (i + 1))]) (idx := 108) (rest := [.int x]) h h1 fk_v_X8_due (Or.inl (fb_mT 1197 (by decide +kernel) (by decide +kernel))) rfl rfl rfl (by decide +kernel) (Nat.le_of_ble_eq_true rfl) (show decode code 1072 = .ok (.invokevirtual 108, 3) by decide +kernel) rfl (fun y w2 h2 => ?_) rfl
  exact fl_eq h (show decode code 1075 = .ok (.if_icmp .eq 678, 3) by decide +kernel) (by decide) h2.1 (kk w2 h2.2)
theorem fl_c_unlike {X : fl_X} {i : Nat} {w : fb_Wd} (h : fl_Ok X) (hi : i + 7 ≤ X.2.2.1.2.1) (hR : fR w) (kk : ∀ w2, fR w2 → fl_AW X 1753 i [] w2) : fl_AW X 1080 i [] w := by
  refine fl_ald1 (nx := 1081) h (show decode code 1080 = .ok (.aload_n 1, 1) by decide +kernel) ?_ rfl
  refine fl_arg (k := 1) (nx := 1086) h hi (by decide) (by decide +kernel : fl_dA 1081 1 = true) ?_ rfl
  refine fl_callI (nx := 1089) (T2 := tX7_unlike) (q := 0) (As := [.int (X.2.2.1.2.2 (i + 1))]) (idx := 109) (rest := []) h (r_unlike hR : fPair _ _ _ [.int (X.2.2.1.2.2 (i + 1))] w) fk_v_X7_unlike (Or.inl (fb_mT 632 (by decide +kernel) (by decide +kernel))) rfl rfl rfl (by decide +kernel) (Nat.le_of_ble_eq_true rfl) (show decode code 1086 = .ok (.invokevirtual 109, 3) by decide +kernel) rfl (fun x w1 h1 => ?_) rfl
  refine fl_ald2 (nx := 1090) h (show decode code 1089 = .ok (.aload_n 2, 1) by decide +kernel) ?_ rfl
  refine fl_arg (k := 1) (nx := 1095) h hi (by decide) (by decide +kernel : fl_dA 1090 1 = true) ?_ rfl
  refine fl_callI (nx := 1098) (T2 := tX8_unlike) (q := 46) (As := [.int (X.2.2.1.2.2 (i + 1))]) (idx := 112) (rest := [.int x]) h h1 fk_v_X8_unlike (Or.inl (fb_mT 1209 (by decide +kernel) (by decide +kernel))) rfl rfl rfl (by decide +kernel) (Nat.le_of_ble_eq_true rfl) (show decode code 1095 = .ok (.invokevirtual 112, 3) by decide +kernel) rfl (fun y w2 h2 => ?_) rfl
  exact fl_eq h (show decode code 1098 = .ok (.if_icmp .eq 655, 3) by decide +kernel) (by decide) h2.1 (kk w2 h2.2)
theorem fl_c_settle {X : fl_X} {i : Nat} {w : fb_Wd} (h : fl_Ok X) (hi : i + 7 ≤ X.2.2.1.2.1) (hR : fR w) (kk : ∀ w2, fR w2 → fl_AW X 1753 i [] w2) : fl_AW X 1103 i [] w := by
  refine fl_ald1 (nx := 1104) h (show decode code 1103 = .ok (.aload_n 1, 1) by decide +kernel) ?_ rfl
  refine fl_arg (k := 1) (nx := 1109) h hi (by decide) (by decide +kernel : fl_dA 1104 1 = true) ?_ rfl
  refine fl_callI (nx := 1112) (T2 := tX7_settle) (q := 0) (As := [.int (X.2.2.1.2.2 (i + 1))]) (idx := 113) (rest := []) h (r_settle hR : fPair _ _ _ [.int (X.2.2.1.2.2 (i + 1))] w) fk_v_X7_settle (Or.inl (fb_mT 644 (by decide +kernel) (by decide +kernel))) rfl rfl rfl (by decide +kernel) (Nat.le_of_ble_eq_true rfl) (show decode code 1109 = .ok (.invokevirtual 113, 3) by decide +kernel) rfl (fun x w1 h1 => ?_) rfl
  refine fl_ald2 (nx := 1113) h (show decode code 1112 = .ok (.aload_n 2, 1) by decide +kernel) ?_ rfl
  refine fl_arg (k := 1) (nx := 1118) h hi (by decide) (by decide +kernel : fl_dA 1113 1 = true) ?_ rfl
  refine fl_callI (nx := 1121) (T2 := tX8_settle) (q := 46) (As := [.int (X.2.2.1.2.2 (i + 1))]) (idx := 116) (rest := [.int x]) h h1 fk_v_X8_settle (Or.inl (fb_mT 1221 (by decide +kernel) (by decide +kernel))) rfl rfl rfl (by decide +kernel) (Nat.le_of_ble_eq_true rfl) (show decode code 1118 = .ok (.invokevirtual 116, 3) by decide +kernel) rfl (fun y w2 h2 => ?_) rfl
  exact fl_eq h (show decode code 1121 = .ok (.if_icmp .eq 632, 3) by decide +kernel) (by decide) h2.1 (kk w2 h2.2)
theorem fl_c_jury {X : fl_X} {i : Nat} {w : fb_Wd} (h : fl_Ok X) (hi : i + 7 ≤ X.2.2.1.2.1) (hR : fR w) (kk : ∀ w2, fR w2 → fl_AW X 1753 i [] w2) : fl_AW X 1126 i [] w := by
  refine fl_ald1 (nx := 1127) h (show decode code 1126 = .ok (.aload_n 1, 1) by decide +kernel) ?_ rfl
  refine fl_arg (k := 1) (nx := 1132) h hi (by decide) (by decide +kernel : fl_dA 1127 1 = true) ?_ rfl
  refine fl_arg (k := 2) (nx := 1137) h hi (by decide) (by decide +kernel : fl_dA 1132 2 = true) ?_ rfl
  refine fl_callI (nx := 1140) (T2 := tX7_jury) (q := 0) (As := [.int (X.2.2.1.2.2 (i + 1)), .int (X.2.2.1.2.2 (i + 2))]) (idx := 117) (rest := []) h (r_jury hR : fPair _ _ _ [.int (X.2.2.1.2.2 (i + 1)), .int (X.2.2.1.2.2 (i + 2))] w) fk_v_X7_jury (Or.inl (fb_mT 655 (by decide +kernel) (by decide +kernel))) rfl rfl rfl (by decide +kernel) (Nat.le_of_ble_eq_true rfl) (show decode code 1137 = .ok (.invokevirtual 117, 3) by decide +kernel) rfl (fun x w1 h1 => ?_) rfl
  refine fl_ald2 (nx := 1141) h (show decode code 1140 = .ok (.aload_n 2, 1) by decide +kernel) ?_ rfl
  refine fl_arg (k := 1) (nx := 1146) h hi (by decide) (by decide +kernel : fl_dA 1141 1 = true) ?_ rfl
  refine fl_arg (k := 2) (nx := 1151) h hi (by decide) (by decide +kernel : fl_dA 1146 2 = true) ?_ rfl
  refine fl_callI (nx := 1154) (T2 := tX8_jury) (q := 46) (As := [.int (X.2.2.1.2.2 (i + 1)), .int (X.2.2.1.2.2 (i + 2))]) (idx := 120) (rest := [.int x]) h h1 fk_v_X8_jury (Or.inl (fb_mT 1225 (by decide +kernel) (by decide +kernel))) rfl rfl rfl (by decide +kernel) (Nat.le_of_ble_eq_true rfl) (show decode code 1151 = .ok (.invokevirtual 120, 3) by decide +kernel) rfl (fun y w2 h2 => ?_) rfl
  exact fl_eq h (show decode code 1154 = .ok (.if_icmp .eq 599, 3) by decide +kernel) (by decide) h2.1 (kk w2 h2.2)
theorem fl_c_habit {X : fl_X} {i : Nat} {w : fb_Wd} (h : fl_Ok X) (hi : i + 7 ≤ X.2.2.1.2.1) (hR : fR w) (kk : ∀ w2, fR w2 → fl_AW X 1753 i [] w2) : fl_AW X 1159 i [] w := by
  refine fl_ald1 (nx := 1160) h (show decode code 1159 = .ok (.aload_n 1, 1) by decide +kernel) ?_ rfl
  refine fl_arg (k := 1) (nx := 1165) h hi (by decide) (by decide +kernel : fl_dA 1160 1 = true) ?_ rfl
  refine fl_arg (k := 2) (nx := 1170) h hi (by decide) (by decide +kernel : fl_dA 1165 2 = true) ?_ rfl
  refine fl_arg (k := 3) (nx := 1175) h hi (by decide) (by decide +kernel : fl_dA 1170 3 = true) ?_ rfl
  refine fl_callI (nx := 1178) (T2 := tX7_habit) (q := 0) (As := [.int (X.2.2.1.2.2 (i + 1)), .int (X.2.2.1.2.2 (i + 2)), .int (X.2.2.1.2.2 (i + 3))]) (idx := 121) (rest := []) h (r_habit hR : fPair _ _ _ [.int (X.2.2.1.2.2 (i + 1)), .int (X.2.2.1.2.2 (i + 2)), .int (X.2.2.1.2.2 (i + 3))] w) fk_v_X7_habit (Or.inl (fb_mT 659 (by decide +kernel) (by decide +kernel))) rfl rfl rfl (by decide +kernel) (Nat.le_of_ble_eq_true rfl) (show decode code 1175 = .ok (.invokevirtual 121, 3) by decide +kernel) rfl (fun x w1 h1 => ?_) rfl
  refine fl_ald2 (nx := 1179) h (show decode code 1178 = .ok (.aload_n 2, 1) by decide +kernel) ?_ rfl
  refine fl_arg (k := 1) (nx := 1184) h hi (by decide) (by decide +kernel : fl_dA 1179 1 = true) ?_ rfl
  refine fl_arg (k := 2) (nx := 1189) h hi (by decide) (by decide +kernel : fl_dA 1184 2 = true) ?_ rfl
  refine fl_arg (k := 3) (nx := 1194) h hi (by decide) (by decide +kernel : fl_dA 1189 3 = true) ?_ rfl
  refine fl_callI (nx := 1197) (T2 := tX8_habit) (q := 46) (As := [.int (X.2.2.1.2.2 (i + 1)), .int (X.2.2.1.2.2 (i + 2)), .int (X.2.2.1.2.2 (i + 3))]) (idx := 124) (rest := [.int x]) h h1 fk_v_X8_habit (Or.inl (fb_mT 1229 (by decide +kernel) (by decide +kernel))) rfl rfl rfl (by decide +kernel) (Nat.le_of_ble_eq_true rfl) (show decode code 1194 = .ok (.invokevirtual 124, 3) by decide +kernel) rfl (fun y w2 h2 => ?_) rfl
  exact fl_eq h (show decode code 1197 = .ok (.if_icmp .eq 556, 3) by decide +kernel) (by decide) h2.1 (kk w2 h2.2)
theorem fl_c_worstPlace {X : fl_X} {i : Nat} {w : fb_Wd} (h : fl_Ok X) (hi : i + 7 ≤ X.2.2.1.2.1) (hR : fR w) (kk : ∀ w2, fR w2 → fl_AW X 1753 i [] w2) : fl_AW X 1202 i [] w := by
  refine fl_ald1 (nx := 1203) h (show decode code 1202 = .ok (.aload_n 1, 1) by decide +kernel) ?_ rfl
  refine fl_arg (k := 1) (nx := 1208) h hi (by decide) (by decide +kernel : fl_dA 1203 1 = true) ?_ rfl
  refine fl_arg (k := 2) (nx := 1213) h hi (by decide) (by decide +kernel : fl_dA 1208 2 = true) ?_ rfl
  refine fl_callI (nx := 1216) (T2 := tX7_worstPlace) (q := 0) (As := [.int (X.2.2.1.2.2 (i + 1)), .int (X.2.2.1.2.2 (i + 2))]) (idx := 125) (rest := []) h (r_worstPlace hR : fPair _ _ _ [.int (X.2.2.1.2.2 (i + 1)), .int (X.2.2.1.2.2 (i + 2))] w) fk_v_X7_worstPlace (Or.inl (fb_mT 683 (by decide +kernel) (by decide +kernel))) rfl rfl rfl (by decide +kernel) (Nat.le_of_ble_eq_true rfl) (show decode code 1213 = .ok (.invokevirtual 125, 3) by decide +kernel) rfl (fun x w1 h1 => ?_) rfl
  refine fl_ald2 (nx := 1217) h (show decode code 1216 = .ok (.aload_n 2, 1) by decide +kernel) ?_ rfl
  refine fl_arg (k := 1) (nx := 1222) h hi (by decide) (by decide +kernel : fl_dA 1217 1 = true) ?_ rfl
  refine fl_arg (k := 2) (nx := 1227) h hi (by decide) (by decide +kernel : fl_dA 1222 2 = true) ?_ rfl
  refine fl_callI (nx := 1230) (T2 := tX8_worstPlace) (q := 46) (As := [.int (X.2.2.1.2.2 (i + 1)), .int (X.2.2.1.2.2 (i + 2))]) (idx := 128) (rest := [.int x]) h h1 fk_v_X8_worstPlace (Or.inl (fb_mT 1248 (by decide +kernel) (by decide +kernel))) rfl rfl rfl (by decide +kernel) (Nat.le_of_ble_eq_true rfl) (show decode code 1227 = .ok (.invokevirtual 128, 3) by decide +kernel) rfl (fun y w2 h2 => ?_) rfl
  exact fl_eq h (show decode code 1230 = .ok (.if_icmp .eq 523, 3) by decide +kernel) (by decide) h2.1 (kk w2 h2.2)
theorem fl_c_shortfall {X : fl_X} {i : Nat} {w : fb_Wd} (h : fl_Ok X) (hi : i + 7 ≤ X.2.2.1.2.1) (hR : fR w) (kk : ∀ w2, fR w2 → fl_AW X 1753 i [] w2) : fl_AW X 1235 i [] w := by
  refine fl_ald1 (nx := 1236) h (show decode code 1235 = .ok (.aload_n 1, 1) by decide +kernel) ?_ rfl
  refine fl_arg (k := 1) (nx := 1241) h hi (by decide) (by decide +kernel : fl_dA 1236 1 = true) ?_ rfl
  refine fl_arg (k := 2) (nx := 1246) h hi (by decide) (by decide +kernel : fl_dA 1241 2 = true) ?_ rfl
  refine fl_callI (nx := 1249) (T2 := tX7_shortfall) (q := 0) (As := [.int (X.2.2.1.2.2 (i + 1)), .int (X.2.2.1.2.2 (i + 2))]) (idx := 129) (rest := []) h (r_shortfall hR : fPair _ _ _ [.int (X.2.2.1.2.2 (i + 1)), .int (X.2.2.1.2.2 (i + 2))] w) fk_v_X7_shortfall (Or.inl (fb_mT 687 (by decide +kernel) (by decide +kernel))) rfl rfl rfl (by decide +kernel) (Nat.le_of_ble_eq_true rfl) (show decode code 1246 = .ok (.invokevirtual 129, 3) by decide +kernel) rfl (fun x w1 h1 => ?_) rfl
  refine fl_ald2 (nx := 1250) h (show decode code 1249 = .ok (.aload_n 2, 1) by decide +kernel) ?_ rfl
  refine fl_arg (k := 1) (nx := 1255) h hi (by decide) (by decide +kernel : fl_dA 1250 1 = true) ?_ rfl
  refine fl_arg (k := 2) (nx := 1260) h hi (by decide) (by decide +kernel : fl_dA 1255 2 = true) ?_ rfl
  refine fl_callI (nx := 1263) (T2 := tX8_shortfall) (q := 46) (As := [.int (X.2.2.1.2.2 (i + 1)), .int (X.2.2.1.2.2 (i + 2))]) (idx := 132) (rest := [.int x]) h h1 fk_v_X8_shortfall (Or.inl (fb_mT 1252 (by decide +kernel) (by decide +kernel))) rfl rfl rfl (by decide +kernel) (Nat.le_of_ble_eq_true rfl) (show decode code 1260 = .ok (.invokevirtual 132, 3) by decide +kernel) rfl (fun y w2 h2 => ?_) rfl
  exact fl_eq h (show decode code 1263 = .ok (.if_icmp .eq 490, 3) by decide +kernel) (by decide) h2.1 (kk w2 h2.2)
