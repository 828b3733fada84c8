theorem fl_c_grant {X : fl_X} {i : Nat} {w : fb_Wd} (h : fl_Ok X) (hi : i + 7 ≤ X.2.2.1.2.1) (hR : fR w) (kk : ∀ w2, fR w2 → fl_AW X 1753 i [] w2) : fl_AW X 1268 i [] w := by
  refine fl_ald1 (nx := 1269) h (show decode code 1268 = .ok (.aload_n 1, 1) by decide +kernel) ?_ rfl
  refine fl_arg (k := 1) (nx := 1274) h hi (by decide) (by decide +kernel : fl_dA 1269 1 = true) ?_ rfl
  refine fl_arg (k := 2) (nx := 1279) h hi (by decide) (by decide +kernel : fl_dA 1274 2 = true) ?_ rfl
  refine fl_arg (k := 3) (nx := 1284) h hi (by decide) (by decide +kernel : fl_dA 1279 3 = true) ?_ rfl
  refine fl_arg (k := 4) (nx := 1289) h hi (by decide) (by decide +kernel : fl_dA 1284 4 = true) ?_ rfl
  refine fl_arg (k := 5) (nx := 1294) h hi (by decide) (by decide +kernel : fl_dA 1289 5 = true) ?_ rfl
  refine fl_arg6 (k := 6) (nx := 1300) h hi (by decide) (by decide +kernel : fl_dA6 1294 6 = true) ?_ rfl
  refine fl_callI (nx := 1303) (T2 := tX7_grant) (q := 0) (As := [.int (X.2.2.1.2.2 (i + 1)), .int (X.2.2.1.2.2 (i + 2)), .int (X.2.2.1.2.2 (i + 3)), .int (X.2.2.1.2.2 (i + 4)), .int (X.2.2.1.2.2 (i + 5)), .int (X.2.2.1.2.2 (i + 6))]) (idx := 133) (rest := []) h (r_grant hR : fPair _ _ _ [.int (X.2.2.1.2.2 (i + 1)), .int (X.2.2.1.2.2 (i + 2)), .int (X.2.2.1.2.2 (i + 3)), .int (X.2.2.1.2.2 (i + 4)), .int (X.2.2.1.2.2 (i + 5)), .int (X.2.2.1.2.2 (i + 6))] w) fk_v_X7_grant (Or.inl (fb_mT 691 (by decide +kernel) (by decide +kernel))) rfl rfl rfl (by decide +kernel) (Nat.le_of_ble_eq_true rfl) (show decode code 1300 = .ok (.invokevirtual 133, 3) by decide +kernel) rfl (fun x w1 h1 => ?_) rfl
  refine fl_ald2 (nx := 1304) h (show decode code 1303 = .ok (.aload_n 2, 1) by decide +kernel) ?_ rfl
  refine fl_arg (k := 1) (nx := 1309) h hi (by decide) (by decide +kernel : fl_dA 1304 1 = true) ?_ rfl
  refine fl_arg (k := 2) (nx := 1314) h hi (by decide) (by decide +kernel : fl_dA 1309 2 = true) ?_ rfl
  refine fl_arg (k := 3) (nx := 1319) h hi (by decide) (by decide +kernel : fl_dA 1314 3 = true) ?_ rfl
  refine fl_arg (k := 4) (nx := 1324) h hi (by decide) (by decide +kernel : fl_dA 1319 4 = true) ?_ rfl
  refine fl_arg (k := 5) (nx := 1329) h hi (by decide) (by decide +kernel : fl_dA 1324 5 = true) ?_ rfl
  refine fl_arg6 (k := 6) (nx := 1335) h hi (by decide) (by decide +kernel : fl_dA6 1329 6 = true) ?_ rfl
  refine fl_callI (nx := 1338) (T2 := tX8_grant) (q := 46) (As := [.int (X.2.2.1.2.2 (i + 1)), .int (X.2.2.1.2.2 (i + 2)), .int (X.2.2.1.2.2 (i + 3)), .int (X.2.2.1.2.2 (i + 4)), .int (X.2.2.1.2.2 (i + 5)), .int (X.2.2.1.2.2 (i + 6))]) (idx := 137) (rest := [.int x]) h h1 fk_v_X8_grant (Or.inl (fb_mT 1256 (by decide +kernel) (by decide +kernel))) rfl rfl rfl (by decide +kernel) (Nat.le_of_ble_eq_true rfl) (show decode code 1335 = .ok (.invokevirtual 137, 3) by decide +kernel) rfl (fun y w2 h2 => ?_) rfl
  exact fl_eq h (show decode code 1338 = .ok (.if_icmp .eq 415, 3) by decide +kernel) (by decide) h2.1 (kk w2 h2.2)
theorem fl_c_taker {X : fl_X} {i : Nat} {w : fb_Wd} (h : fl_Ok X) (hi : i + 7 ≤ X.2.2.1.2.1) (hR : fR w) (kk : ∀ w2, fR w2 → fl_AW X 1753 i [] w2) : fl_AW X 1343 i [] w := by
  refine fl_ald1 (nx := 1344) h (show decode code 1343 = .ok (.aload_n 1, 1) by decide +kernel) ?_ rfl
  refine fl_arg (k := 1) (nx := 1349) h hi (by decide) (by decide +kernel : fl_dA 1344 1 = true) ?_ rfl
  refine fl_arg (k := 2) (nx := 1354) h hi (by decide) (by decide +kernel : fl_dA 1349 2 = true) ?_ rfl
  refine fl_callI (nx := 1357) (T2 := tX7_taker) (q := 0) (As := [.int (X.2.2.1.2.2 (i + 1)), .int (X.2.2.1.2.2 (i + 2))]) (idx := 138) (rest := []) h (r_taker hR : fPair _ _ _ [.int (X.2.2.1.2.2 (i + 1)), .int (X.2.2.1.2.2 (i + 2))] w) fk_v_X7_taker (Or.inl (fb_mT 699 (by decide +kernel) (by decide +kernel))) rfl rfl rfl (by decide +kernel) (Nat.le_of_ble_eq_true rfl) (show decode code 1354 = .ok (.invokevirtual 138, 3) by decide +kernel) rfl (fun x w1 h1 => ?_) rfl
  refine fl_ald2 (nx := 1358) h (show decode code 1357 = .ok (.aload_n 2, 1) by decide +kernel) ?_ rfl
  refine fl_arg (k := 1) (nx := 1363) h hi (by decide) (by decide +kernel : fl_dA 1358 1 = true) ?_ rfl
  refine fl_arg (k := 2) (nx := 1368) h hi (by decide) (by decide +kernel : fl_dA 1363 2 = true) ?_ rfl
  refine fl_callI (nx := 1371) (T2 := tX8_taker) (q := 46) (As := [.int (X.2.2.1.2.2 (i + 1)), .int (X.2.2.1.2.2 (i + 2))]) (idx := 141) (rest := [.int x]) h h1 fk_v_X8_taker (Or.inl (fb_mT 1260 (by decide +kernel) (by decide +kernel))) rfl rfl rfl (by decide +kernel) (Nat.le_of_ble_eq_true rfl) (show decode code 1368 = .ok (.invokevirtual 141, 3) by decide +kernel) rfl (fun y w2 h2 => ?_) rfl
  exact fl_eq h (show decode code 1371 = .ok (.if_icmp .eq 382, 3) by decide +kernel) (by decide) h2.1 (kk w2 h2.2)
theorem fl_c_takes {X : fl_X} {i : Nat} {w : fb_Wd} (h : fl_Ok X) (hi : i + 7 ≤ X.2.2.1.2.1) (hR : fR w) (kk : ∀ w2, fR w2 → fl_AW X 1753 i [] w2) : fl_AW X 1376 i [] w := by
  refine fl_ald1 (nx := 1377) h (show decode code 1376 = .ok (.aload_n 1, 1) by decide +kernel) ?_ rfl
  refine fl_arg (k := 1) (nx := 1382) h hi (by decide) (by decide +kernel : fl_dA 1377 1 = true) ?_ rfl
  refine fl_arg (k := 2) (nx := 1387) h hi (by decide) (by decide +kernel : fl_dA 1382 2 = true) ?_ rfl
  refine fl_arg (k := 3) (nx := 1392) h hi (by decide) (by decide +kernel : fl_dA 1387 3 = true) ?_ rfl
  refine fl_callI (nx := 1395) (T2 := tX7_takes) (q := 0) (As := [.int (X.2.2.1.2.2 (i + 1)), .int (X.2.2.1.2.2 (i + 2)), .int (X.2.2.1.2.2 (i + 3))]) (idx := 142) (rest := []) h (r_takes hR : fPair _ _ _ [.int (X.2.2.1.2.2 (i + 1)), .int (X.2.2.1.2.2 (i + 2)), .int (X.2.2.1.2.2 (i + 3))] w) fk_v_X7_takes (Or.inl (fb_mT 721 (by decide +kernel) (by decide +kernel))) rfl rfl rfl (by decide +kernel) (Nat.le_of_ble_eq_true rfl) (show decode code 1392 = .ok (.invokevirtual 142, 3) by decide +kernel) rfl (fun x w1 h1 => ?_) rfl
  refine fl_ald2 (nx := 1396) h (show decode code 1395 = .ok (.aload_n 2, 1) by decide +kernel) ?_ rfl
  refine fl_arg (k := 1) (nx := 1401) h hi (by decide) (by decide +kernel : fl_dA 1396 1 = true) ?_ rfl
  refine fl_arg (k := 2) (nx := 1406) h hi (by decide) (by decide +kernel : fl_dA 1401 2 = true) ?_ rfl
  refine fl_arg (k := 3) (nx := 1411) h hi (by decide) (by decide +kernel : fl_dA 1406 3 = true) ?_ rfl
  refine fl_callI (nx := 1414) (T2 := tX8_takes) (q := 46) (As := [.int (X.2.2.1.2.2 (i + 1)), .int (X.2.2.1.2.2 (i + 2)), .int (X.2.2.1.2.2 (i + 3))]) (idx := 145) (rest := [.int x]) h h1 fk_v_X8_takes (Or.inl (fb_mT 1268 (by decide +kernel) (by decide +kernel))) rfl rfl rfl (by decide +kernel) (Nat.le_of_ble_eq_true rfl) (show decode code 1411 = .ok (.invokevirtual 145, 3) by decide +kernel) rfl (fun y w2 h2 => ?_) rfl
  exact fl_eq h (show decode code 1414 = .ok (.if_icmp .eq 339, 3) by decide +kernel) (by decide) h2.1 (kk w2 h2.2)
theorem fl_c_otherwise {X : fl_X} {i : Nat} {w : fb_Wd} (h : fl_Ok X) (hi : i + 7 ≤ X.2.2.1.2.1) (hR : fR w) (kk : ∀ w2, fR w2 → fl_AW X 1753 i [] w2) : fl_AW X 1419 i [] w := by
  refine fl_ald1 (nx := 1420) h (show decode code 1419 = .ok (.aload_n 1, 1) by decide +kernel) ?_ rfl
  refine fl_arg (k := 1) (nx := 1425) h hi (by decide) (by decide +kernel : fl_dA 1420 1 = true) ?_ rfl
  refine fl_arg (k := 2) (nx := 1430) h hi (by decide) (by decide +kernel : fl_dA 1425 2 = true) ?_ rfl
  refine fl_bool (nx := 1438) h (by decide +kernel : fl_dB 1430 = true) ?_ rfl
  refine fl_arg (k := 3) (nx := 1443) h hi (by decide) (by decide +kernel : fl_dA 1438 3 = true) ?_ rfl
  refine fl_callI (nx := 1446) (T2 := tX7_otherwise) (q := 0) (As := [.int (X.2.2.1.2.2 (i + 1)), .int (fl_z (X.2.2.1.2.2 (i + 2))), .int (X.2.2.1.2.2 (i + 3))]) (idx := 146) (rest := []) h (r_otherwise hR (fl_z01 (X.2.2.1.2.2 (i + 2))) : fPair _ _ _ [.int (X.2.2.1.2.2 (i + 1)), .int (fl_z (X.2.2.1.2.2 (i + 2))), .int (X.2.2.1.2.2 (i + 3))] w) fk_v_X7_otherwise (Or.inl (fb_mT 729 (by decide +kernel) (by decide +kernel))) rfl rfl rfl (by decide +kernel) (Nat.le_of_ble_eq_true rfl) (show decode code 1443 = .ok (.invokevirtual 146, 3) by decide +kernel) rfl (fun x w1 h1 => ?_) rfl
  refine fl_ald2 (nx := 1447) h (show decode code 1446 = .ok (.aload_n 2, 1) by decide +kernel) ?_ rfl
  refine fl_arg (k := 1) (nx := 1452) h hi (by decide) (by decide +kernel : fl_dA 1447 1 = true) ?_ rfl
  refine fl_arg (k := 2) (nx := 1457) h hi (by decide) (by decide +kernel : fl_dA 1452 2 = true) ?_ rfl
  refine fl_bool (nx := 1465) h (by decide +kernel : fl_dB 1457 = true) ?_ rfl
  refine fl_arg (k := 3) (nx := 1470) h hi (by decide) (by decide +kernel : fl_dA 1465 3 = true) ?_ rfl
  refine fl_callI (nx := 1473) (T2 := tX8_otherwise) (q := 46) (As := [.int (X.2.2.1.2.2 (i + 1)), .int (fl_z (X.2.2.1.2.2 (i + 2))), .int (X.2.2.1.2.2 (i + 3))]) (idx := 150) (rest := [.int x]) h h1 fk_v_X8_otherwise (Or.inl (fb_mT 1272 (by decide +kernel) (by decide +kernel))) rfl rfl rfl (by decide +kernel) (Nat.le_of_ble_eq_true rfl) (show decode code 1470 = .ok (.invokevirtual 150, 3) by decide +kernel) rfl (fun y w2 h2 => ?_) rfl
  exact fl_eq h (show decode code 1473 = .ok (.if_icmp .eq 280, 3) by decide +kernel) (by decide) h2.1 (kk w2 h2.2)
theorem fl_c_freed {X : fl_X} {i : Nat} {w : fb_Wd} (h : fl_Ok X) (hi : i + 7 ≤ X.2.2.1.2.1) (hR : fR w) (kk : ∀ w2, fR w2 → fl_AW X 1753 i [] w2) : fl_AW X 1478 i [] w := by
  refine fl_ald1 (nx := 1479) h (show decode code 1478 = .ok (.aload_n 1, 1) by decide +kernel) ?_ rfl
  refine fl_arg (k := 1) (nx := 1484) h hi (by decide) (by decide +kernel : fl_dA 1479 1 = true) ?_ rfl
  refine fl_arg (k := 2) (nx := 1489) h hi (by decide) (by decide +kernel : fl_dA 1484 2 = true) ?_ rfl
  refine fl_bool (nx := 1497) h (by decide +kernel : fl_dB 1489 = true) ?_ rfl
  refine fl_arg (k := 3) (nx := 1502) h hi (by decide) (by decide +kernel : fl_dA 1497 3 = true) ?_ rfl
  refine fl_callI (nx := 1505) (T2 := tX7_freed) (q := 0) (As := [.int (X.2.2.1.2.2 (i + 1)), .int (fl_z (X.2.2.1.2.2 (i + 2))), .int (X.2.2.1.2.2 (i + 3))]) (idx := 151) (rest := []) h (r_freed hR (fl_z01 (X.2.2.1.2.2 (i + 2))) : fPair _ _ _ [.int (X.2.2.1.2.2 (i + 1)), .int (fl_z (X.2.2.1.2.2 (i + 2))), .int (X.2.2.1.2.2 (i + 3))] w) fk_v_X7_freed (Or.inl (fb_mT 737 (by decide +kernel) (by decide +kernel))) rfl rfl rfl (by decide +kernel) (Nat.le_of_ble_eq_true rfl) (show decode code 1502 = .ok (.invokevirtual 151, 3) by decide +kernel) rfl (fun x w1 h1 => ?_) rfl
  refine fl_ald2 (nx := 1506) h (show decode code 1505 = .ok (.aload_n 2, 1) by decide +kernel) ?_ rfl
  refine fl_arg (k := 1) (nx := 1511) h hi (by decide) (by decide +kernel : fl_dA 1506 1 = true) ?_ rfl
  refine fl_arg (k := 2) (nx := 1516) h hi (by decide) (by decide +kernel : fl_dA 1511 2 = true) ?_ rfl
  refine fl_bool (nx := 1524) h (by decide +kernel : fl_dB 1516 = true) ?_ rfl
  refine fl_arg (k := 3) (nx := 1529) h hi (by decide) (by decide +kernel : fl_dA 1524 3 = true) ?_ rfl
  refine fl_callI (nx := 1532) (T2 := tX8_freed) (q := 46) (As := [.int (X.2.2.1.2.2 (i + 1)), .int (fl_z (X.2.2.1.2.2 (i + 2))), .int (X.2.2.1.2.2 (i + 3))]) (idx := 154) (rest := [.int x]) h h1 fk_v_X8_freed (Or.inl (fb_mT 1280 (by decide +kernel) (by decide +kernel))) rfl rfl rfl (by decide +kernel) (Nat.le_of_ble_eq_true rfl) (show decode code 1529 = .ok (.invokevirtual 154, 3) by decide +kernel) rfl (fun y w2 h2 => ?_) rfl
  exact fl_eq h (show decode code 1532 = .ok (.if_icmp .eq 221, 3) by decide +kernel) (by decide) h2.1 (kk w2 h2.2)
theorem fl_c_shift {X : fl_X} {i : Nat} {w : fb_Wd} (h : fl_Ok X) (hi : i + 7 ≤ X.2.2.1.2.1) (hR : fR w) (kk : ∀ w2, fR w2 → fl_AW X 1753 i [] w2) : fl_AW X 1537 i [] w := by
  refine fl_ald1 (nx := 1538) h (show decode code 1537 = .ok (.aload_n 1, 1) by decide +kernel) ?_ rfl
  refine fl_arg (k := 1) (nx := 1543) h hi (by decide) (by decide +kernel : fl_dA 1538 1 = true) ?_ rfl
  refine fl_arg (k := 2) (nx := 1548) h hi (by decide) (by decide +kernel : fl_dA 1543 2 = true) ?_ rfl
  refine fl_bool (nx := 1556) h (by decide +kernel : fl_dB 1548 = true) ?_ rfl
  refine fl_arg (k := 3) (nx := 1561) h hi (by decide) (by decide +kernel : fl_dA 1556 3 = true) ?_ rfl
  refine fl_arg (k := 4) (nx := 1566) h hi (by decide) (by decide +kernel : fl_dA 1561 4 = true) ?_ rfl
  refine fl_callI (nx := 1569) (T2 := tX7_shift) (q := 0) (As := [.int (X.2.2.1.2.2 (i + 1)), .int (fl_z (X.2.2.1.2.2 (i + 2))), .int (X.2.2.1.2.2 (i + 3)), .int (X.2.2.1.2.2 (i + 4))]) (idx := 155) (rest := []) h (r_shift hR (fl_z01 (X.2.2.1.2.2 (i + 2))) : fPair _ _ _ [.int (X.2.2.1.2.2 (i + 1)), .int (fl_z (X.2.2.1.2.2 (i + 2))), .int (X.2.2.1.2.2 (i + 3)), .int (X.2.2.1.2.2 (i + 4))] w) fk_v_X7_shift (Or.inl (fb_mT 741 (by decide +kernel) (by decide +kernel))) rfl rfl rfl (by decide +kernel) (Nat.le_of_ble_eq_true rfl) (show decode code 1566 = .ok (.invokevirtual 155, 3) by decide +kernel) rfl (fun x w1 h1 => ?_) rfl
  refine fl_ald2 (nx := 1570) h (show decode code 1569 = .ok (.aload_n 2, 1) by decide +kernel) ?_ rfl
  refine fl_arg (k := 1) (nx := 1575) h hi (by decide) (by decide +kernel : fl_dA 1570 1 = true) ?_ rfl
  refine fl_arg (k := 2) (nx := 1580) h hi (by decide) (by decide +kernel : fl_dA 1575 2 = true) ?_ rfl
  refine fl_bool (nx := 1588) h (by decide +kernel : fl_dB 1580 = true) ?_ rfl
  refine fl_arg (k := 3) (nx := 1593) h hi (by decide) (by decide +kernel : fl_dA 1588 3 = true) ?_ rfl
  refine fl_arg (k := 4) (nx := 1598) h hi (by decide) (by decide +kernel : fl_dA 1593 4 = true) ?_ rfl
  refine fl_callI (nx := 1601) (T2 := tX8_shift) (q := 46) (As := [.int (X.2.2.1.2.2 (i + 1)), .int (fl_z (X.2.2.1.2.2 (i + 2))), .int (X.2.2.1.2.2 (i + 3)), .int (X.2.2.1.2.2 (i + 4))]) (idx := 159) (rest := [.int x]) h h1 fk_v_X8_shift (Or.inl (fb_mT 1284 (by decide +kernel) (by decide +kernel))) rfl rfl rfl (by decide +kernel) (Nat.le_of_ble_eq_true rfl) (show decode code 1598 = .ok (.invokevirtual 159, 3) by decide +kernel) rfl (fun y w2 h2 => ?_) rfl
  exact fl_eq h (show decode code 1601 = .ok (.if_icmp .eq 152, 3) by decide +kernel) (by decide) h2.1 (kk w2 h2.2)
theorem fl_c_leastChange {X : fl_X} {i : Nat} {w : fb_Wd} (h : fl_Ok X) (hi : i + 7 ≤ X.2.2.1.2.1) (hR : fR w) (kk : ∀ w2, fR w2 → fl_AW X 1753 i [] w2) : fl_AW X 1606 i [] w := by
  refine fl_ald1 (nx := 1607) h (show decode code 1606 = .ok (.aload_n 1, 1) by decide +kernel) ?_ rfl
  refine fl_arg (k := 1) (nx := 1612) h hi (by decide) (by decide +kernel : fl_dA 1607 1 = true) ?_ rfl
  refine fl_arg (k := 2) (nx := 1617) h hi (by decide) (by decide +kernel : fl_dA 1612 2 = true) ?_ rfl
  refine fl_callI (nx := 1620) (T2 := tX7_leastChange) (q := 0) (As := [.int (X.2.2.1.2.2 (i + 1)), .int (X.2.2.1.2.2 (i + 2))]) (idx := 160) (rest := []) h (r_leastChange hR : fPair _ _ _ [.int (X.2.2.1.2.2 (i + 1)), .int (X.2.2.1.2.2 (i + 2))] w) fk_v_X7_leastChange (Or.inl (fb_mT 745 (by decide +kernel) (by decide +kernel))) rfl rfl rfl (by decide +kernel) (Nat.le_of_ble_eq_true rfl) (show decode code 1617 = .ok (.invokevirtual 160, 3) by decide +kernel) rfl (fun x w1 h1 => ?_) rfl
  refine fl_ald2 (nx := 1621) h (show decode code 1620 = .ok (.aload_n 2, 1) by decide +kernel) ?_ rfl
  refine fl_arg (k := 1) (nx := 1626) h hi (by decide) (by decide +kernel : fl_dA 1621 1 = true) ?_ rfl
  refine fl_arg (k := 2) (nx := 1631) h hi (by decide) (by decide +kernel : fl_dA 1626 2 = true) ?_ rfl
  refine fl_callI (nx := 1634) (T2 := tX8_leastChange) (q := 46) (As := [.int (X.2.2.1.2.2 (i + 1)), .int (X.2.2.1.2.2 (i + 2))]) (idx := 163) (rest := [.int x]) h h1 fk_v_X8_leastChange (Or.inl (fb_mT 1292 (by decide +kernel) (by decide +kernel))) rfl rfl rfl (by decide +kernel) (Nat.le_of_ble_eq_true rfl) (show decode code 1631 = .ok (.invokevirtual 163, 3) by decide +kernel) rfl (fun y w2 h2 => ?_) rfl
  exact fl_eq h (show decode code 1634 = .ok (.if_icmp .eq 119, 3) by decide +kernel) (by decide) h2.1 (kk w2 h2.2)
