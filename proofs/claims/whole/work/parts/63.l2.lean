theorem fl_c_row {X : fl_X} {i : Nat} {w : fb_Wd} (h : fl_Ok X) (hi : i + 7 ≤ X.2.2.1.2.1) (hR : fR w) (kk : ∀ w2, fR w2 → fl_AW X 1753 i [] w2) : fl_AW X 216 i [] w := by
  refine fl_ald1 (nx := 217) h (show decode code 216 = .ok (.aload_n 1, 1) by decide +kernel) ?_ rfl
  refine fl_arg (k := 1) (nx := 222) h hi (by decide) (by decide +kernel : fl_dA 217 1 = true) ?_ rfl
  refine fl_arg (k := 2) (nx := 227) h hi (by decide) (by decide +kernel : fl_dA 222 2 = true) ?_ rfl
  refine fl_callI (nx := 230) (T2 := tX7_row) (q := 0) (As := [.int (X.2.2.1.2.2 (i + 1)), .int (X.2.2.1.2.2 (i + 2))]) (idx := 13) (rest := []) h (r_row hR : fPair _ _ _ [.int (X.2.2.1.2.2 (i + 1)), .int (X.2.2.1.2.2 (i + 2))] w) fk_v_X7_row (Or.inl (fb_mT 283 (by decide +kernel) (by decide +kernel))) rfl rfl rfl (by decide +kernel) (Nat.le_of_ble_eq_true rfl) (show decode code 227 = .ok (.invokevirtual 13, 3) by decide +kernel) rfl (fun x w1 h1 => ?_) rfl
  refine fl_ald2 (nx := 231) h (show decode code 230 = .ok (.aload_n 2, 1) by decide +kernel) ?_ rfl
  refine fl_arg (k := 1) (nx := 236) h hi (by decide) (by decide +kernel : fl_dA 231 1 = true) ?_ rfl
  refine fl_arg (k := 2) (nx := 241) h hi (by decide) (by decide +kernel : fl_dA 236 2 = true) ?_ rfl
  refine fl_callI (nx := 244) (T2 := tX8_row) (q := 46) (As := [.int (X.2.2.1.2.2 (i + 1)), .int (X.2.2.1.2.2 (i + 2))]) (idx := 17) (rest := [.int x]) h h1 fk_v_X8_row (Or.inl (fb_mT 985 (by decide +kernel) (by decide +kernel))) rfl rfl rfl (by decide +kernel) (Nat.le_of_ble_eq_true rfl) (show decode code 241 = .ok (.invokevirtual 17, 3) by decide +kernel) rfl (fun y w2 h2 => ?_) rfl
  exact fl_eq h (show decode code 244 = .ok (.if_icmp .eq 1509, 3) by decide +kernel) (by decide) h2.1 (kk w2 h2.2)
theorem fl_c_lay {X : fl_X} {i : Nat} {w : fb_Wd} (h : fl_Ok X) (hi : i + 7 ≤ X.2.2.1.2.1) (hR : fR w) (kk : ∀ w2, fR w2 → fl_AW X 1753 i [] w2) : fl_AW X 249 i [] w := by
  refine fl_ald1 (nx := 250) h (show decode code 249 = .ok (.aload_n 1, 1) by decide +kernel) ?_ rfl
  refine fl_arg (k := 1) (nx := 255) h hi (by decide) (by decide +kernel : fl_dA 250 1 = true) ?_ rfl
  refine fl_arg (k := 2) (nx := 260) h hi (by decide) (by decide +kernel : fl_dA 255 2 = true) ?_ rfl
  refine fl_arg (k := 3) (nx := 265) h hi (by decide) (by decide +kernel : fl_dA 260 3 = true) ?_ rfl
  refine fl_callI (nx := 268) (T2 := tX7_lay) (q := 0) (As := [.int (X.2.2.1.2.2 (i + 1)), .int (X.2.2.1.2.2 (i + 2)), .int (X.2.2.1.2.2 (i + 3))]) (idx := 18) (rest := []) h (r_lay hR : fPair _ _ _ [.int (X.2.2.1.2.2 (i + 1)), .int (X.2.2.1.2.2 (i + 2)), .int (X.2.2.1.2.2 (i + 3))] w) fk_v_X7_lay (Or.inl (fb_mT 302 (by decide +kernel) (by decide +kernel))) rfl rfl rfl (by decide +kernel) (Nat.le_of_ble_eq_true rfl) (show decode code 265 = .ok (.invokevirtual 18, 3) by decide +kernel) rfl (fun x w1 h1 => ?_) rfl
  refine fl_ald2 (nx := 269) h (show decode code 268 = .ok (.aload_n 2, 1) by decide +kernel) ?_ rfl
  refine fl_arg (k := 1) (nx := 274) h hi (by decide) (by decide +kernel : fl_dA 269 1 = true) ?_ rfl
  refine fl_arg (k := 2) (nx := 279) h hi (by decide) (by decide +kernel : fl_dA 274 2 = true) ?_ rfl
  refine fl_arg (k := 3) (nx := 284) h hi (by decide) (by decide +kernel : fl_dA 279 3 = true) ?_ rfl
  refine fl_callI (nx := 287) (T2 := tX8_lay) (q := 46) (As := [.int (X.2.2.1.2.2 (i + 1)), .int (X.2.2.1.2.2 (i + 2)), .int (X.2.2.1.2.2 (i + 3))]) (idx := 22) (rest := [.int x]) h h1 fk_v_X8_lay (Or.inl (fb_mT 999 (by decide +kernel) (by decide +kernel))) rfl rfl rfl (by decide +kernel) (Nat.le_of_ble_eq_true rfl) (show decode code 284 = .ok (.invokevirtual 22, 3) by decide +kernel) rfl (fun y w2 h2 => ?_) rfl
  exact fl_eq h (show decode code 287 = .ok (.if_icmp .eq 1466, 3) by decide +kernel) (by decide) h2.1 (kk w2 h2.2)
theorem fl_c_tear {X : fl_X} {i : Nat} {w : fb_Wd} (h : fl_Ok X) (hi : i + 7 ≤ X.2.2.1.2.1) (hR : fR w) (kk : ∀ w2, fR w2 → fl_AW X 1753 i [] w2) : fl_AW X 292 i [] w := by
  refine fl_ald1 (nx := 293) h (show decode code 292 = .ok (.aload_n 1, 1) by decide +kernel) ?_ rfl
  refine fl_arg (k := 1) (nx := 298) h hi (by decide) (by decide +kernel : fl_dA 293 1 = true) ?_ rfl
  refine fl_callI (nx := 301) (T2 := tX7_tear) (q := 0) (As := [.int (X.2.2.1.2.2 (i + 1))]) (idx := 23) (rest := []) h (r_tear hR : fPair _ _ _ [.int (X.2.2.1.2.2 (i + 1))] w) fk_v_X7_tear (Or.inl (fb_mT 323 (by decide +kernel) (by decide +kernel))) rfl rfl rfl (by decide +kernel) (Nat.le_of_ble_eq_true rfl) (show decode code 298 = .ok (.invokevirtual 23, 3) by decide +kernel) rfl (fun x w1 h1 => ?_) rfl
  refine fl_ald2 (nx := 302) h (show decode code 301 = .ok (.aload_n 2, 1) by decide +kernel) ?_ rfl
  refine fl_arg (k := 1) (nx := 307) h hi (by decide) (by decide +kernel : fl_dA 302 1 = true) ?_ rfl
  refine fl_callI (nx := 310) (T2 := tX8_tear) (q := 46) (As := [.int (X.2.2.1.2.2 (i + 1))]) (idx := 27) (rest := [.int x]) h h1 fk_v_X8_tear (Or.inl (fb_mT 1007 (by decide +kernel) (by decide +kernel))) rfl rfl rfl (by decide +kernel) (Nat.le_of_ble_eq_true rfl) (show decode code 307 = .ok (.invokevirtual 27, 3) by decide +kernel) rfl (fun y w2 h2 => ?_) rfl
  exact fl_eq h (show decode code 310 = .ok (.if_icmp .eq 1443, 3) by decide +kernel) (by decide) h2.1 (kk w2 h2.2)
theorem fl_c_copy {X : fl_X} {i : Nat} {w : fb_Wd} (h : fl_Ok X) (hi : i + 7 ≤ X.2.2.1.2.1) (hR : fR w) (kk : ∀ w2, fR w2 → fl_AW X 1753 i [] w2) : fl_AW X 315 i [] w := by
  refine fl_ald1 (nx := 316) h (show decode code 315 = .ok (.aload_n 1, 1) by decide +kernel) ?_ rfl
  refine fl_arg (k := 1) (nx := 321) h hi (by decide) (by decide +kernel : fl_dA 316 1 = true) ?_ rfl
  refine fl_arg (k := 2) (nx := 326) h hi (by decide) (by decide +kernel : fl_dA 321 2 = true) ?_ rfl
  refine fl_arg (k := 3) (nx := 331) h hi (by decide) (by decide +kernel : fl_dA 326 3 = true) ?_ rfl
  refine fl_arg (k := 4) (nx := 336) h hi (by decide) (by decide +kernel : fl_dA 331 4 = true) ?_ rfl
  refine fl_arg (k := 5) (nx := 341) h hi (by decide) (by decide +kernel : fl_dA 336 5 = true) ?_ rfl
  refine fl_callI (nx := 344) (T2 := tX7_copy) (q := 0) (As := [.int (X.2.2.1.2.2 (i + 1)), .int (X.2.2.1.2.2 (i + 2)), .int (X.2.2.1.2.2 (i + 3)), .int (X.2.2.1.2.2 (i + 4)), .int (X.2.2.1.2.2 (i + 5))]) (idx := 28) (rest := []) h (r_copy hR : fPair _ _ _ [.int (X.2.2.1.2.2 (i + 1)), .int (X.2.2.1.2.2 (i + 2)), .int (X.2.2.1.2.2 (i + 3)), .int (X.2.2.1.2.2 (i + 4)), .int (X.2.2.1.2.2 (i + 5))] w) fk_v_X7_copy (Or.inl (fb_mT 331 (by decide +kernel) (by decide +kernel))) rfl rfl rfl (by decide +kernel) (Nat.le_of_ble_eq_true rfl) (show decode code 341 = .ok (.invokevirtual 28, 3) by decide +kernel) rfl (fun x w1 h1 => ?_) rfl
  refine fl_ald2 (nx := 345) h (show decode code 344 = .ok (.aload_n 2, 1) by decide +kernel) ?_ rfl
  refine fl_arg (k := 1) (nx := 350) h hi (by decide) (by decide +kernel : fl_dA 345 1 = true) ?_ rfl
  refine fl_arg (k := 2) (nx := 355) h hi (by decide) (by decide +kernel : fl_dA 350 2 = true) ?_ rfl
  refine fl_arg (k := 3) (nx := 360) h hi (by decide) (by decide +kernel : fl_dA 355 3 = true) ?_ rfl
  refine fl_arg (k := 4) (nx := 365) h hi (by decide) (by decide +kernel : fl_dA 360 4 = true) ?_ rfl
  refine fl_arg (k := 5) (nx := 370) h hi (by decide) (by decide +kernel : fl_dA 365 5 = true) ?_ rfl
  refine fl_callI (nx := 373) (T2 := tX8_copy) (q := 46) (As := [.int (X.2.2.1.2.2 (i + 1)), .int (X.2.2.1.2.2 (i + 2)), .int (X.2.2.1.2.2 (i + 3)), .int (X.2.2.1.2.2 (i + 4)), .int (X.2.2.1.2.2 (i + 5))]) (idx := 32) (rest := [.int x]) h h1 fk_v_X8_copy (Or.inl (fb_mT 1011 (by decide +kernel) (by decide +kernel))) rfl rfl rfl (by decide +kernel) (Nat.le_of_ble_eq_true rfl) (show decode code 370 = .ok (.invokevirtual 32, 3) by decide +kernel) rfl (fun y w2 h2 => ?_) rfl
  exact fl_eq h (show decode code 373 = .ok (.if_icmp .eq 1380, 3) by decide +kernel) (by decide) h2.1 (kk w2 h2.2)
theorem fl_c_thing {X : fl_X} {i : Nat} {w : fb_Wd} (h : fl_Ok X) (hi : i + 7 ≤ X.2.2.1.2.1) (hR : fR w) (kk : ∀ w2, fR w2 → fl_AW X 1753 i [] w2) : fl_AW X 378 i [] w := by
  refine fl_ald1 (nx := 379) h (show decode code 378 = .ok (.aload_n 1, 1) by decide +kernel) ?_ rfl
  refine fl_arg (k := 1) (nx := 384) h hi (by decide) (by decide +kernel : fl_dA 379 1 = true) ?_ rfl
  refine fl_arg (k := 2) (nx := 389) h hi (by decide) (by decide +kernel : fl_dA 384 2 = true) ?_ rfl
  refine fl_arg (k := 3) (nx := 394) h hi (by decide) (by decide +kernel : fl_dA 389 3 = true) ?_ rfl
  refine fl_arg (k := 4) (nx := 399) h hi (by decide) (by decide +kernel : fl_dA 394 4 = true) ?_ rfl
  refine fl_callI (nx := 402) (T2 := tX7_thing) (q := 0) (As := [.int (X.2.2.1.2.2 (i + 1)), .int (X.2.2.1.2.2 (i + 2)), .int (X.2.2.1.2.2 (i + 3)), .int (X.2.2.1.2.2 (i + 4))]) (idx := 33) (rest := []) h (r_thing hR : fPair _ _ _ [.int (X.2.2.1.2.2 (i + 1)), .int (X.2.2.1.2.2 (i + 2)), .int (X.2.2.1.2.2 (i + 3)), .int (X.2.2.1.2.2 (i + 4))] w) fk_v_X7_thing (Or.inl (fb_mT 342 (by decide +kernel) (by decide +kernel))) rfl rfl rfl (by decide +kernel) (Nat.le_of_ble_eq_true rfl) (show decode code 399 = .ok (.invokevirtual 33, 3) by decide +kernel) rfl (fun x w1 h1 => ?_) rfl
  refine fl_ald2 (nx := 403) h (show decode code 402 = .ok (.aload_n 2, 1) by decide +kernel) ?_ rfl
  refine fl_arg (k := 1) (nx := 408) h hi (by decide) (by decide +kernel : fl_dA 403 1 = true) ?_ rfl
  refine fl_arg (k := 2) (nx := 413) h hi (by decide) (by decide +kernel : fl_dA 408 2 = true) ?_ rfl
  refine fl_arg (k := 3) (nx := 418) h hi (by decide) (by decide +kernel : fl_dA 413 3 = true) ?_ rfl
  refine fl_arg (k := 4) (nx := 423) h hi (by decide) (by decide +kernel : fl_dA 418 4 = true) ?_ rfl
  refine fl_callI (nx := 426) (T2 := tX8_thing) (q := 46) (As := [.int (X.2.2.1.2.2 (i + 1)), .int (X.2.2.1.2.2 (i + 2)), .int (X.2.2.1.2.2 (i + 3)), .int (X.2.2.1.2.2 (i + 4))]) (idx := 37) (rest := [.int x]) h h1 fk_v_X8_thing (Or.inl (fb_mT 1015 (by decide +kernel) (by decide +kernel))) rfl rfl rfl (by decide +kernel) (Nat.le_of_ble_eq_true rfl) (show decode code 423 = .ok (.invokevirtual 37, 3) by decide +kernel) rfl (fun y w2 h2 => ?_) rfl
  exact fl_eq h (show decode code 426 = .ok (.if_icmp .eq 1327, 3) by decide +kernel) (by decide) h2.1 (kk w2 h2.2)
theorem fl_c_on {X : fl_X} {i : Nat} {w : fb_Wd} (h : fl_Ok X) (hi : i + 7 ≤ X.2.2.1.2.1) (hR : fR w) (kk : ∀ w2, fR w2 → fl_AW X 1753 i [] w2) : fl_AW X 431 i [] w := by
  refine fl_ald1 (nx := 432) h (show decode code 431 = .ok (.aload_n 1, 1) by decide +kernel) ?_ rfl
  refine fl_arg (k := 1) (nx := 437) h hi (by decide) (by decide +kernel : fl_dA 432 1 = true) ?_ rfl
  refine fl_arg (k := 2) (nx := 442) h hi (by decide) (by decide +kernel : fl_dA 437 2 = true) ?_ rfl
  refine fl_callI (nx := 445) (T2 := tX7_on) (q := 0) (As := [.int (X.2.2.1.2.2 (i + 1)), .int (X.2.2.1.2.2 (i + 2))]) (idx := 38) (rest := []) h (r_on hR : fPair _ _ _ [.int (X.2.2.1.2.2 (i + 1)), .int (X.2.2.1.2.2 (i + 2))] w) fk_v_X7_on (Or.inl (fb_mT 372 (by decide +kernel) (by decide +kernel))) rfl rfl rfl (by decide +kernel) (Nat.le_of_ble_eq_true rfl) (show decode code 442 = .ok (.invokevirtual 38, 3) by decide +kernel) rfl (fun x w1 h1 => ?_) rfl
  refine fl_ald2 (nx := 446) h (show decode code 445 = .ok (.aload_n 2, 1) by decide +kernel) ?_ rfl
  refine fl_arg (k := 1) (nx := 451) h hi (by decide) (by decide +kernel : fl_dA 446 1 = true) ?_ rfl
  refine fl_arg (k := 2) (nx := 456) h hi (by decide) (by decide +kernel : fl_dA 451 2 = true) ?_ rfl
  refine fl_callI (nx := 459) (T2 := tX8_on) (q := 46) (As := [.int (X.2.2.1.2.2 (i + 1)), .int (X.2.2.1.2.2 (i + 2))]) (idx := 41) (rest := [.int x]) h h1 fk_v_X8_on (Or.inl (fb_mT 1026 (by decide +kernel) (by decide +kernel))) rfl rfl rfl (by decide +kernel) (Nat.le_of_ble_eq_true rfl) (show decode code 456 = .ok (.invokevirtual 41, 3) by decide +kernel) rfl (fun y w2 h2 => ?_) rfl
  exact fl_eq h (show decode code 459 = .ok (.if_icmp .eq 1294, 3) by decide +kernel) (by decide) h2.1 (kk w2 h2.2)
theorem fl_c_told {X : fl_X} {i : Nat} {w : fb_Wd} (h : fl_Ok X) (hi : i + 7 ≤ X.2.2.1.2.1) (hR : fR w) (kk : ∀ w2, fR w2 → fl_AW X 1753 i [] w2) : fl_AW X 464 i [] w := by
  refine fl_ald1 (nx := 465) h (show decode code 464 = .ok (.aload_n 1, 1) by decide +kernel) ?_ rfl
  refine fl_arg (k := 1) (nx := 470) h hi (by decide) (by decide +kernel : fl_dA 465 1 = true) ?_ rfl
  refine fl_arg (k := 2) (nx := 475) h hi (by decide) (by decide +kernel : fl_dA 470 2 = true) ?_ rfl
  refine fl_callI (nx := 478) (T2 := tX7_told) (q := 0) (As := [.int (X.2.2.1.2.2 (i + 1)), .int (X.2.2.1.2.2 (i + 2))]) (idx := 42) (rest := []) h (r_told hR : fPair _ _ _ [.int (X.2.2.1.2.2 (i + 1)), .int (X.2.2.1.2.2 (i + 2))] w) fk_v_X7_told (Or.inl (fb_mT 384 (by decide +kernel) (by decide +kernel))) rfl rfl rfl (by decide +kernel) (Nat.le_of_ble_eq_true rfl) (show decode code 475 = .ok (.invokevirtual 42, 3) by decide +kernel) rfl (fun x w1 h1 => ?_) rfl
  refine fl_ald2 (nx := 479) h (show decode code 478 = .ok (.aload_n 2, 1) by decide +kernel) ?_ rfl
  refine fl_arg (k := 1) (nx := 484) h hi (by decide) (by decide +kernel : fl_dA 479 1 = true) ?_ rfl
  refine fl_arg (k := 2) (nx := 489) h hi (by decide) (by decide +kernel : fl_dA 484 2 = true) ?_ rfl
  refine fl_callI (nx := 492) (T2 := tX8_told) (q := 46) (As := [.int (X.2.2.1.2.2 (i + 1)), .int (X.2.2.1.2.2 (i + 2))]) (idx := 45) (rest := [.int x]) h h1 fk_v_X8_told (Or.inl (fb_mT 1030 (by decide +kernel) (by decide +kernel))) rfl rfl rfl (by decide +kernel) (Nat.le_of_ble_eq_true rfl) (show decode code 489 = .ok (.invokevirtual 45, 3) by decide +kernel) rfl (fun y w2 h2 => ?_) rfl
  exact fl_eq h (show decode code 492 = .ok (.if_icmp .eq 1261, 3) by decide +kernel) (by decide) h2.1 (kk w2 h2.2)
