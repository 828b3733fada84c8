theorem c_X7_asked {l : Launch} {w : fb_Wd} {P : Int32 → fb_Wd → Prop} (hp : P (w.1 0 10) w) : fb_Can l tX7_asked [.ref 0] w (fb_kI P) := by
  refine fb_intro 0 fk_t_X7_asked (by decide) rfl (fun X hX h => ?_)
  subst hX
  change fb_AW tX7_asked X 0 [some (.ref 0)] [] w
  refine fw_aload_n h rfl rfl ?_
  refine fw_getI h rfl fk_g_X7_73 rfl rfl ?_
  exact fw_iret h rfl rfl ⟨_, rfl, hp⟩
theorem c_X7_finding {l : Launch} {w : fb_Wd} {P : Int32 → fb_Wd → Prop} (hp : P (w.1 0 9) w) : fb_Can l tX7_finding [.ref 0] w (fb_kI P) := by
  refine fb_intro 0 fk_t_X7_finding (by decide) rfl (fun X hX h => ?_)
  subst hX
  change fb_AW tX7_finding X 0 [some (.ref 0)] [] w
  refine fw_aload_n h rfl rfl ?_
  refine fw_getI h rfl fk_g_X7_69 rfl rfl ?_
  exact fw_iret h rfl rfl ⟨_, rfl, hp⟩
theorem c_X7_upper {l : Launch} {w : fb_Wd} {P : Int64 → fb_Wd → Prop} (hp : P (w.2 0 11) w) : fb_Can l tX7_upper [.ref 0] w (fb_kL P) := by
  refine fb_intro 0 fk_t_X7_upper (by decide) rfl (fun X hX h => ?_)
  subst hX
  change fb_AW tX7_upper X 0 [some (.ref 0)] [] w
  refine fw_aload_n h rfl rfl ?_
  refine fw_getL h rfl fk_g_X7_76 rfl rfl ?_
  exact fw_lret h rfl rfl ⟨_, rfl, hp⟩
theorem c_X7_lower {l : Launch} {w : fb_Wd} {P : Int64 → fb_Wd → Prop} (hp : P (w.2 0 12) w) : fb_Can l tX7_lower [.ref 0] w (fb_kL P) := by
  refine fb_intro 0 fk_t_X7_lower (by decide) rfl (fun X hX h => ?_)
  subst hX
  change fb_AW tX7_lower X 0 [some (.ref 0)] [] w
  refine fw_aload_n h rfl rfl ?_
  refine fw_getL h rfl fk_g_X7_80 rfl rfl ?_
  exact fw_lret h rfl rfl ⟨_, rfl, hp⟩
theorem c_X7_findings {l : Launch} {w : fb_Wd} {P : Int32 → fb_Wd → Prop} {f : Int32} (hb : ¬ (1 ≤ f ∧ f ≤ 5) → P (-1) w) (hp : 1 ≤ f → f ≤ 5 → P (w.1 9 f.toNatClampNeg) w) : fb_Can l tX7_findings [.ref 0, .int f] w (fb_kI P) := by
  refine fb_intro 0 fk_t_X7_findings (by decide) rfl (fun X hX h => ?_)
  subst hX
  change fb_AW tX7_findings X 0 [some (.ref 0), some (.int f)] [] w
  refine fw_iload_n h rfl rfl ?_
  refine fw_iconst h (nI 1) rfl (by decide) ?_
  refine fw_iconst h (nI 5) rfl (by decide) ?_
  refine fw_s3I h rfl fk_s_X7_isBetween fk_l_X7_122 rfl rfl ?_
  refine c_X7_isBetween (fun c3a c3b => ?_) (fun c3 => ?_)
  · refine fw_if_ne h rfl (fun _ => ?_) (fun c => absurd c (by decide))
    obtain ⟨j, hj, e⟩ := nI_ofle (n := 5) (Int32.le_trans (by decide) c3a) c3b (by decide)
    subst e
    refine fw_aload_n h rfl rfl ?_
    refine fw_getR _ h rfl fk_g_X7_65 rfl rfl ?_
    refine fw_iload_n h rfl rfl ?_
    refine fn_iald h rfl rfl (by omega) rfl ?_
    exact fw_iret h rfl rfl ⟨_, rfl, by have z := hp c3a c3b; rw [nI_clamp (by omega)] at z; exact z⟩
  · refine fw_if_ne h rfl (fun c => absurd c (by decide)) (fun _ => ?_)
    refine fw_iconst h (-1) rfl (by decide) ?_
    exact fw_iret h rfl rfl ⟨_, rfl, hb c3⟩
theorem c_X7_count_0 {l : Launch} {w : fb_Wd} {P : Int32 → fb_Wd → Prop} {nt nd nx ng : Nat} (hX : XI w nt nd nx ng) (hp : P (fs_ct (xD w) nd (fp_cnt (fun r => !decide (w.1 10 r = -1)) 6) 0) w) : fb_Can l tX7_count [.ref 0, .int (nI 0)] w (fb_kI P) := by
  refine fb_intro 0 fk_t_X7_count (by decide) rfl (fun X hX h => ?_)
  subst hX
  change fb_AW tX7_count X 0 [some (.ref 0), some (.int (nI 0))] [] w
  refine fw_iload_n h rfl rfl ?_
  refine fw_swI h (t := 40) rfl (by decide) ?_
  refine fw_aload_n h rfl rfl ?_
  refine fw_getR _ h rfl fk_g_X7_19 rfl rfl ?_
  refine fw_getI h rfl fk_g_X7_128 rfl rfl ?_
  exact fw_iret h rfl rfl ⟨_, rfl, hp⟩
theorem c_X7_count_1 {l : Launch} {w : fb_Wd} {P : Int32 → fb_Wd → Prop} {nt nd nx ng : Nat} (hX : XI w nt nd nx ng) (hp : P (fs_ct (xD w) nd (fp_cnt (fun r => !decide (w.1 10 r = -1)) 6) 1) w) : fb_Can l tX7_count [.ref 0, .int (nI 1)] w (fb_kI P) := by
  refine fb_intro 0 fk_t_X7_count (by decide) rfl (fun X hX h => ?_)
  subst hX
  change fb_AW tX7_count X 0 [some (.ref 0), some (.int (nI 1))] [] w
  refine fw_iload_n h rfl rfl ?_
  refine fw_swI h (t := 48) rfl (by decide) ?_
  refine fw_aload_n h rfl rfl ?_
  refine fw_getR _ h rfl fk_g_X7_26 rfl rfl ?_
  refine fw_getI h rfl fk_g_X7_150 rfl rfl ?_
  exact fw_iret h rfl rfl ⟨_, rfl, hp⟩
theorem c_X7_count_2 {l : Launch} {w : fb_Wd} {P : Int32 → fb_Wd → Prop} {nt nd nx ng : Nat} (hX : XI w nt nd nx ng) (hp : P (fs_ct (xD w) nd (fp_cnt (fun r => !decide (w.1 10 r = -1)) 6) 2) w) : fb_Can l tX7_count [.ref 0, .int (nI 2)] w (fb_kI P) := by
  refine fb_intro 0 fk_t_X7_count (by decide) rfl (fun X hX h => ?_)
  subst hX
  change fb_AW tX7_count X 0 [some (.ref 0), some (.int (nI 2))] [] w
  refine fw_iload_n h rfl rfl ?_
  refine fw_swI h (t := 56) rfl (by decide) ?_
  refine fw_aload_n h rfl rfl ?_
  refine fw_getR _ h rfl fk_g_X7_26 rfl rfl ?_
  refine fw_v0I h rfl fk_v_X0_actsInAll fk_l_X7_362 rfl rfl rfl rfl ?_
  refine c_X0_actsInAll hX.1.2.1.1 hX.1.2.1.2 ?_
  exact fw_iret h rfl rfl ⟨_, rfl, hp⟩
theorem c_X7_count_3 {l : Launch} {w : fb_Wd} {P : Int32 → fb_Wd → Prop} {nt nd nx ng : Nat} (hX : XI w nt nd nx ng) (hp : P (fs_ct (xD w) nd (fp_cnt (fun r => !decide (w.1 10 r = -1)) 6) 3) w) : fb_Can l tX7_count [.ref 0, .int (nI 3)] w (fb_kI P) := by
  refine fb_intro 0 fk_t_X7_count (by decide) rfl (fun X hX h => ?_)
  subst hX
  change fb_AW tX7_count X 0 [some (.ref 0), some (.int (nI 3))] [] w
  refine fw_iload_n h rfl rfl ?_
  refine fw_swI h (t := 64) rfl (by decide) ?_
  refine fw_aload_n h rfl rfl ?_
  refine fw_getR _ h rfl fk_g_X7_33 rfl rfl ?_
  refine fw_getI h rfl fk_g_X7_223 rfl rfl ?_
  exact fw_iret h rfl rfl ⟨_, rfl, hp⟩
theorem c_X7_count_4 {l : Launch} {w : fb_Wd} {P : Int32 → fb_Wd → Prop} {nt nd nx ng : Nat} (hX : XI w nt nd nx ng) (hp : P (fs_ct (xD w) nd (fp_cnt (fun r => !decide (w.1 10 r = -1)) 6) 4) w) : fb_Can l tX7_count [.ref 0, .int (nI 4)] w (fb_kI P) := by
  refine fb_intro 0 fk_t_X7_count (by decide) rfl (fun X hX h => ?_)
  subst hX
  change fb_AW tX7_count X 0 [some (.ref 0), some (.int (nI 4))] [] w
  refine fw_iload_n h rfl rfl ?_
  refine fw_swI h (t := 72) rfl (by decide) ?_
  refine fw_aload_n h rfl rfl ?_
  refine fw_getR _ h rfl fk_g_X7_40 rfl rfl ?_
  refine fw_getI h rfl fk_g_X7_317 rfl rfl ?_
  exact fw_iret h rfl rfl ⟨_, rfl, hp⟩
theorem c_X7_count_5 {l : Launch} {w : fb_Wd} {P : Int32 → fb_Wd → Prop} {nt nd nx ng : Nat} (hX : XI w nt nd nx ng) (hp : P (fs_ct (xD w) nd (fp_cnt (fun r => !decide (w.1 10 r = -1)) 6) 5) w) : fb_Can l tX7_count [.ref 0, .int (nI 5)] w (fb_kI P) := by
  refine fb_intro 0 fk_t_X7_count (by decide) rfl (fun X hX h => ?_)
  subst hX
  change fb_AW tX7_count X 0 [some (.ref 0), some (.int (nI 5))] [] w
  refine fw_iload_n h rfl rfl ?_
  refine fw_swI h (t := 80) rfl (by decide) ?_
  refine fw_aload_n h rfl rfl ?_
  refine fw_getR _ h rfl fk_g_X7_12 rfl rfl ?_
  refine fw_v0I h rfl fk_v_X3_there fk_l_X7_365 rfl rfl rfl rfl ?_
  refine c_X3_there ?_
  exact fw_iret h rfl rfl ⟨_, rfl, hp⟩
theorem c_X7_countN {l : Launch} {w : fb_Wd} {P : Int32 → fb_Wd → Prop} {nt nd nx ng : Nat} (hX : XI w nt nd nx ng) {q : Nat} (hq : q ≤ 5) (hp : P (fs_ct (xD w) nd (fp_cnt (fun r => !decide (w.1 10 r = -1)) 6) q) w) : fb_Can l tX7_count [.ref 0, .int (nI q)] w (fb_kI P) := by
  rcases (show q = 0 ∨ q = 1 ∨ q = 2 ∨ q = 3 ∨ q = 4 ∨ q = 5 by omega) with rfl | rfl | rfl | rfl | rfl | rfl
  · exact c_X7_count_0 hX hp
  · exact c_X7_count_1 hX hp
  · exact c_X7_count_2 hX hp
  · exact c_X7_count_3 hX hp
  · exact c_X7_count_4 hX hp
  · exact c_X7_count_5 hX hp
theorem c_X7_count_b {l : Launch} {w : fb_Wd} {P : Int32 → fb_Wd → Prop} {q : Int32} (hq : q.toInt < 0 ∨ 5 < q.toInt) (hp : P (-1) w) : fb_Can l tX7_count [.ref 0, .int q] w (fb_kI P) := by
  refine fb_intro 0 fk_t_X7_count (by decide) rfl (fun X hX h => ?_)
  subst hX
  change fb_AW tX7_count X 0 [some (.ref 0), some (.int q)] [] w
  refine fw_iload_n h rfl rfl ?_
  refine fw_swO h rfl ⟨rfl, hq⟩ ?_
  refine fw_iconst h (-1) rfl (by decide) ?_
  exact fw_iret h rfl rfl ⟨_, rfl, hp⟩
theorem c_X7_count {l : Launch} {w : fb_Wd} {P : Int32 → fb_Wd → Prop} {nt nd nx ng : Nat} (hX : XI w nt nd nx ng) {q : Int32} (hb : ¬ (0 ≤ q ∧ q ≤ 5) → P (-1) w) (hg : ∀ k, k ≤ 5 → q = nI k → P (fs_ct (xD w) nd (fp_cnt (fun r => !decide (w.1 10 r = -1)) 6) k) w) : fb_Can l tX7_count [.ref 0, .int q] w (fb_kI P) := by
  by_cases h : 0 ≤ q ∧ q ≤ 5
  · obtain ⟨k, hk, ek⟩ := nI_ofle (n := 5) h.1 h.2 (by decide)
    subst ek
    exact c_X7_countN hX hk (hg k hk rfl)
  · refine c_X7_count_b ?_ (hb h)
    rw [Int32.le_iff_toInt_le, Int32.le_iff_toInt_le] at h
    have h0 : (0 : Int32).toInt = 0 := by decide
    have h5 : (5 : Int32).toInt = 5 := by decide
    rw [h0, h5] at h
    omega
theorem c_X7_digest {l : Launch} {w : fb_Wd} {P : Int64 → fb_Wd → Prop} {nt nd nx ng : Nat} (hX : XI w nt nd nx ng) (hz : xZ w) (hp : P (fs_dg (xD w) nt nd nx ng (fp_cnt (fun r => !decide (w.1 10 r = -1)) 6) (w.1 10) (w.1 11)) w) : fb_Can l tX7_digest [.ref 0] w (fb_kL P) := by
  refine fb_intro 3 fk_t_X7_digest (by decide) rfl (fun X hX h => ?_)
  subst hX
  change fb_AW tX7_digest X 0 [some (.ref 0), none, none, none] [] w
  refine fw_ldc2 h 17 rfl (fb_mT 800 (by decide +kernel) (by decide +kernel)) ?_
  refine fw_lstore_n h [_, _, _, _] rfl rfl rfl rfl ?_
  refine fw_iconst h (nI 0) rfl (by decide) ?_
  refine fw_istore_n h [_, _, _, _] rfl rfl rfl rfl ?_
  refine fb_loop (fun i => fb_AW tX7_digest X 6 [some (.ref 0), some (.long (fs_mxF 17 (fs_ct (xD w) nd (fp_cnt (fun r => !decide (w.1 10 r = -1)) 6)) i)), none, some (.int (nI i))] [] w) (6) ?_ (fun i hi ih => ?_) 0 (Nat.zero_le _)
  · refine fw_iload_n h rfl rfl ?_
    refine fw_iconst h (nI 5) rfl (by decide) ?_
    refine fw_icmp_gt h rfl (fun c8 => ?_) (fun c8 => False.elim (c8 (by decide)))
    refine fw_aload_n h rfl rfl ?_
    refine fw_getR _ h rfl fk_g_X7_19 rfl rfl ?_
    refine fw_lload_n h rfl rfl ?_
    refine fw_v1L h rfl fk_v_X6_mixInto fk_l_X7_376 rfl rfl rfl rfl ?_
    refine c_X6_mixInto hX.1.1.1 hX.1.1.2 (fun t ht => ⟨hX.2.2.2.1.1 t ht, hX.2.2.2.1.2.2.1 t ht⟩) ?_
    generalize eh1 : fs_it (fs_e2 (xD w) nt) _ nt = h1
    refine fw_lstore_n h [_, _, _, _] rfl rfl rfl rfl ?_
    refine fw_aload_n h rfl rfl ?_
    refine fw_getR _ h rfl fk_g_X7_26 rfl rfl ?_
    refine fw_lload_n h rfl rfl ?_
    refine fw_v1L h rfl fk_v_X0_mixInto fk_l_X7_380 rfl rfl rfl rfl ?_
    refine c_X0_mixInto hX.1.2.1.1 hX.1.2.1.2 (fun d hd => ⟨fd_m (xD w) d, (hX.2.2.1 d hd).1, (hX.kq d hd).1, (hX.2.2.1 d hd).2.1⟩) ?_
    generalize eh2 : fs_it (fs_e3 (xD w)) _ nd = h2
    refine fw_lstore_n h [_, _, _, _] rfl rfl rfl rfl ?_
    refine fw_aload_n h rfl rfl ?_
    refine fw_getR _ h rfl fk_g_X7_33 rfl rfl ?_
    refine fw_lload_n h rfl rfl ?_
    refine fw_v1L h rfl fk_v_X5_mixInto fk_l_X7_381 rfl rfl rfl rfl ?_
    refine c_X5_mixInto hX.1.2.2.1.1 hX.1.2.2.1.2 ?_
    generalize eh3 : fs_it (fs_e4 (xD w)) _ nx = h3
    refine fw_lstore_n h [_, _, _, _] rfl rfl rfl rfl ?_
    refine fw_aload_n h rfl rfl ?_
    refine fw_getR _ h rfl fk_g_X7_40 rfl rfl ?_
    refine fw_lload_n h rfl rfl ?_
    refine fw_v1L h rfl fk_v_X1_mixInto fk_l_X7_382 rfl rfl rfl rfl ?_
    refine c_X1_mixInto hX.1.2.2.2.1 hX.1.2.2.2.2 ?_
    generalize eh4 : fs_it (fs_e5 (xD w)) _ ng = h4
    refine fw_lstore_n h [_, _, _, _] rfl rfl rfl rfl ?_
    refine fw_aload_n h rfl rfl ?_
    refine fw_getR _ h rfl fk_g_X7_12 rfl rfl ?_
    refine fw_lload_n h rfl rfl ?_
    refine fw_v1L h rfl fk_v_X3_mixInto fk_l_X7_383 rfl rfl rfl rfl ?_
    refine c_X3_mixInto hz ?_
    exact fw_lret h rfl rfl ⟨_, rfl, by unfold fs_dg fs_d1 at hp; rw [eh1, eh2, eh3, eh4] at hp; exact hp⟩
  · refine fw_iload_n h rfl rfl ?_
    refine fw_iconst h (nI 5) rfl (by decide) ?_
    refine fw_icmp_gt h rfl (fun c8 => False.elim (absurd c8 (nI_nlt (by omega) (by decide)))) (fun c8 => ?_)
    refine fw_lload_n h rfl rfl ?_
    refine fw_aload_n h rfl rfl ?_
    refine fw_iload_n h rfl rfl ?_
    refine fw_v1I h rfl fk_v_X7_count fk_l_X7_370 rfl rfl rfl rfl ?_
    refine c_X7_countN hX (by omega) ?_
    refine fw_i2l h rfl ?_
    refine fw_s2L h rfl fk_s_X7_mixed fk_l_X7_372 rfl rfl ?_
    refine c_X7_mixed ?_
    refine fw_lstore_n h [_, _, _, _] rfl rfl rfl rfl ?_
    first | refine fn_iinc h [_, _, _, _] rfl rfl rfl rfl rfl ?_ | refine fw_iinc h 1 [_, _, _, _] rfl (by decide) rfl rfl rfl rfl ?_
    refine fw_goto h rfl ?_
    exact ih
theorem c_X7_grant {l : Launch} {w : fb_Wd} {P : Int32 → fb_Wd → Prop} {nt nd nx ng : Nat} (hX : XI w nt nd nx ng) {lo p a b s q12 : Int32} (hb : ¬ ((∃ q, q < 8 ∧ lo = nI q) ∧ (∃ q, q < 8 ∧ p = nI q) ∧ (1000 ≤ a ∧ a ≤ 1900 ∧ a ≤ b ∧ b ≤ 1900) ∧ (0 ≤ s ∧ s ≤ 1023) ∧ (1 ≤ q12 ∧ q12 ≤ 12)) → P (-1) w) (hf : ng = 10 → ((∃ q, q < 8 ∧ lo = nI q) ∧ (∃ q, q < 8 ∧ p = nI q) ∧ (1000 ≤ a ∧ a ≤ 1900 ∧ a ≤ b ∧ b ≤ 1900) ∧ (0 ≤ s ∧ s ≤ 1023) ∧ (1 ≤ q12 ∧ q12 ≤ 12)) → P (-2) w) (hg : ng < 10 → ((∃ q, q < 8 ∧ lo = nI q) ∧ (∃ q, q < 8 ∧ p = nI q) ∧ (1000 ≤ a ∧ a ≤ 1900 ∧ a ≤ b ∧ b ≤ 1900) ∧ (0 ≤ s ∧ s ≤ 1023) ∧ (1 ≤ q12 ∧ q12 ≤ 12)) → P (nI (ng + 1)) (fb_up (fb_up (fb_up (fb_up (fb_up (fb_up (fb_up w 5 6 (nI (ng + 1))) 35 ng lo) 36 ng p) 37 ng a) 38 ng b) 39 ng s) 40 ng q12)) : fb_Can l tX7_grant [.ref 0, .int lo, .int p, .int a, .int b, .int s, .int q12] w (fb_kI P) := by
  refine fb_intro 0 fk_t_X7_grant (by decide) rfl (fun X hX h => ?_)
  subst hX
  change fb_AW tX7_grant X 0 [some (.ref 0), some (.int lo), some (.int p), some (.int a), some (.int b), some (.int s), some (.int q12)] [] w
  refine fw_iload_n h rfl rfl ?_
  refine fw_bipush h (nI 8) rfl (by decide) ?_
  refine fw_s2I h rfl fk_s_X7_isBelow fk_l_X7_83 rfl rfl ?_
  refine c_X7_isBelow (by decide) (fun q hq eq => ?_) (fun c3 => ?_)
  · refine fw_if_eq h rfl (fun c => absurd c (by decide)) (fun _ => ?_)
    refine fw_iload_n h rfl rfl ?_
    refine fw_bipush h (nI 8) rfl (by decide) ?_
    refine fw_s2I h rfl fk_s_X7_isBelow fk_l_X7_83 rfl rfl ?_
    refine c_X7_isBelow (by decide) (fun p1 hp1 ep1 => ?_) (fun c12 => ?_)
    · refine fw_if_eq h rfl (fun c => absurd c (by decide)) (fun _ => ?_)
      refine fw_iload_n h rfl rfl ?_
      refine fw_iload h rfl rfl ?_
      refine fw_s2I h rfl fk_s_X7_areYears fk_l_X7_296 rfl rfl ?_
      refine c_X7_areYears (fun c21a c21b c21c c21d => ?_) (fun c21 => ?_)
      · refine fw_if_ne h rfl (fun _ => ?_) (fun c => absurd c (by decide))
        refine fw_iload h rfl rfl ?_
        refine fw_s1I h rfl fk_s_X7_areSorts fk_l_X7_314 rfl rfl ?_
        refine c_X7_areSorts (fun c31a c31b => ?_) (fun c31 => ?_)
        · refine fw_if_eq h rfl (fun c => absurd c (by decide)) (fun _ => ?_)
          refine fw_iload h rfl rfl ?_
          refine fw_iconst h (nI 1) rfl (by decide) ?_
          refine fw_bipush h (nI 12) rfl (by decide) ?_
          refine fw_s3I h rfl fk_s_X7_isBetween fk_l_X7_122 rfl rfl ?_
          refine c_X7_isBetween (fun c42a c42b => ?_) (fun c42 => ?_)
          · refine fw_if_ne h rfl (fun _ => ?_) (fun c => absurd c (by decide))
            have hng := hX.1.2.2.2.2
            refine fw_aload_n h rfl rfl ?_
            refine fw_getR _ h rfl fk_g_X7_40 rfl rfl ?_
            refine fw_getI h rfl fk_g_X7_317 rfl rfl ?_
            rw [show w.1 5 6 = nI ng from hX.1.2.2.2.1]
            refine fw_bipush h (nI 10) rfl (by decide) ?_
            refine fw_icmp_lt h rfl (fun c59 => ?_) (fun c59 => ?_)
            · have hlt : ng < 10 := (nI_ltI (by omega) (by decide)).mp c59
              refine fw_aload_n h rfl rfl ?_
              refine fw_getR _ h rfl fk_g_X7_40 rfl rfl ?_
              refine fw_iload_n h rfl rfl ?_
              refine fw_iload_n h rfl rfl ?_
              refine fw_iload_n h rfl rfl ?_
              refine fw_iload h rfl rfl ?_
              refine fw_iload h rfl rfl ?_
              refine fw_iload h rfl rfl ?_
              refine fw_v6V h rfl fk_v_X1_add fk_l_X7_318 rfl rfl rfl rfl ?_
              refine c_X1_add hX.1.2.2.2.1 hlt ?_
              refine fw_aload_n h rfl rfl ?_
              refine fw_getR _ h rfl fk_g_X7_40 rfl rfl ?_
              refine fw_getI h rfl fk_g_X7_317 rfl rfl ?_
              exact fw_iret h rfl rfl ⟨_, rfl, hg hlt ⟨⟨q, hq, eq⟩, ⟨p1, hp1, ep1⟩, ⟨c21a, c21b, c21c, c21d⟩, ⟨c31a, c31b⟩, ⟨c42a, c42b⟩⟩⟩
            · refine fw_bipush h (-2) rfl (by decide) ?_
              exact fw_iret h rfl rfl ⟨_, rfl, hf (by have := fx_nlt (b := 10) (by omega) (by decide) c59; omega) ⟨⟨q, hq, eq⟩, ⟨p1, hp1, ep1⟩, ⟨c21a, c21b, c21c, c21d⟩, ⟨c31a, c31b⟩, ⟨c42a, c42b⟩⟩⟩
          · refine fw_if_ne h rfl (fun c => absurd c (by decide)) (fun _ => ?_)
            refine fw_iconst h (-1) rfl (by decide) ?_
            exact fw_iret h rfl rfl ⟨_, rfl, hb (fun z => by first | exact c31 z.2.2.2.1 | exact c42 z.2.2.2.2)⟩
        · refine fw_if_eq h rfl (fun _ => ?_) (fun c => absurd c (by decide))
          refine fw_iconst h (-1) rfl (by decide) ?_
          exact fw_iret h rfl rfl ⟨_, rfl, hb (fun z => by first | exact c31 z.2.2.2.1 | exact c42 z.2.2.2.2)⟩
      · refine fw_if_ne h rfl (fun c => absurd c (by decide)) (fun _ => ?_)
        refine fw_iconst h (-1) rfl (by decide) ?_
        exact fw_iret h rfl rfl ⟨_, rfl, hb (fun z => by first | exact c3 z.1 | exact c12 z.2.1 | exact c21 z.2.2.1)⟩
    · refine fw_if_eq h rfl (fun _ => ?_) (fun c => absurd c (by decide))
      refine fw_iconst h (-1) rfl (by decide) ?_
      exact fw_iret h rfl rfl ⟨_, rfl, hb (fun z => by first | exact c3 z.1 | exact c12 z.2.1 | exact c21 z.2.2.1)⟩
  · refine fw_if_eq h rfl (fun _ => ?_) (fun c => absurd c (by decide))
    refine fw_iconst h (-1) rfl (by decide) ?_
    exact fw_iret h rfl rfl ⟨_, rfl, hb (fun z => by first | exact c3 z.1 | exact c12 z.2.1 | exact c21 z.2.2.1)⟩
theorem fx_g_eq {w : fb_Wd} {ng d t s : Nat} (e : w.1 13 t = nI s) (hs : s < 10) : fp_fst (fx_gr (w.1 22 d) (w.1 23 d) s (w.1 36) (w.1 37) (w.1 38) (w.1 39)) ng = fs_g (xD w) ng d t := by
  have : fx_gr (w.1 22 d) (w.1 23 d) s (w.1 36) (w.1 37) (w.1 38) (w.1 39) = fp_gr (xD w 5) (xD w 6) (xD w 1) (xD w 18) (xD w 19) (xD w 20) (xD w 21) d t := by
    funext g
    show (decide _ && decide _ && decide _ && bt (w.1 39 g) s) = (decide _ && decide _ && decide _ && bt (w.1 39 g) (w.1 13 t).toNatClampNeg)
    rw [e, nI_clamp (by omega)]
    rfl
  unfold fs_g
  rw [this]
def fd_G (D : Nat → Nat → Int32) (ng : Nat) : Prop := ∀ g, g < ng → ∃ q, q < 8 ∧ D 17 g = nI q
theorem c_X7_grantOver {l : Launch} {w : fb_Wd} {P : Int32 → fb_Wd → Prop} {nt nd nx ng : Nat} (hX : XI w nt nd nx ng) {d t : Nat} (hd : d < nd) (ht : t < nt) (hp : P (fs_g (xD w) ng d t) w) : fb_Can l tX7_grantOver [.ref 0, .int (nI d), .int (nI t)] w (fb_kI P) := by
  refine fb_intro 0 fk_t_X7_grantOver (by decide) rfl (fun X hX h => ?_)
  subst hX
  change fb_AW tX7_grantOver X 0 [some (.ref 0), some (.int (nI d)), some (.int (nI t))] [] w
  have hnd := hX.1.2.1.2
  have hnt := hX.1.1.2
  obtain ⟨s, hs, es⟩ := (hX.2.1 t ht).2.1
  have es : w.1 13 t = nI s := es
  refine fw_aload_n h rfl rfl ?_
  refine fw_getR _ h rfl fk_g_X7_40 rfl rfl ?_
  refine fw_aload_n h rfl rfl ?_
  refine fw_getR _ h rfl fk_g_X7_26 rfl rfl ?_
  refine fw_getR _ h rfl fk_g_X7_305 rfl rfl ?_
  refine fw_iload_n h rfl rfl ?_
  refine fn_iald h rfl rfl (by omega) rfl ?_
  refine fw_aload_n h rfl rfl ?_
  refine fw_getR _ h rfl fk_g_X7_26 rfl rfl ?_
  refine fw_getR _ h rfl fk_g_X7_283 rfl rfl ?_
  refine fw_iload_n h rfl rfl ?_
  refine fn_iald h rfl rfl (by omega) rfl ?_
  refine fw_aload_n h rfl rfl ?_
  refine fw_getR _ h rfl fk_g_X7_19 rfl rfl ?_
  refine fw_getR _ h rfl fk_g_X7_170 rfl rfl ?_
  refine fw_iload_n h rfl rfl ?_
  refine fn_iald h rfl rfl (by omega) rfl ?_
  rw [es]
  refine fw_v3I h rfl fk_v_X1_firstFor fk_l_X7_342 rfl rfl rfl rfl ?_
  refine c_X1_firstFor (by omega) hX.1.2.2.2.1 hX.1.2.2.2.2 ?_
  rw [fx_g_eq es hs]
  exact fw_iret h rfl rfl ⟨_, rfl, hp⟩
theorem c_X7_shareOf {l : Launch} {w : fb_Wd} {P : Int32 → fb_Wd → Prop} {nt nd nx ng : Nat} (hX : XI w nt nd nx ng) {lo : Int32} {d t : Nat} (hd : d < nd) (ht : t < nt) (hp : P (fs_sh (xD w) nt ng lo d t) w) : fb_Can l tX7_shareOf [.ref 0, .int lo, .int (nI d), .int (nI t)] w (fb_kI P) := by
  refine fb_intro 3 fk_t_X7_shareOf (by decide) rfl (fun X hX h => ?_)
  subst hX
  change fb_AW tX7_shareOf X 0 [some (.ref 0), some (.int lo), some (.int (nI d)), some (.int (nI t)), none, none, none] [] w
  have hnt := hX.1.1.2
  have hng := hX.1.2.2.2.2
  refine fw_aload_n h rfl rfl ?_
  refine fw_getR _ h rfl fk_g_X7_19 rfl rfl ?_
  refine fw_getR _ h rfl fk_g_X7_336 rfl rfl ?_
  refine fw_iload_n h rfl rfl ?_
  refine fn_iald h rfl rfl (by omega) rfl ?_
  rw [show w.1 19 t = fs_pr (xD w) nt t from hX.2.2.2.1.2.2.1 t ht]
  refine fw_istore h [_, _, _, _, _, _, _] rfl rfl rfl rfl ?_
  refine fw_aload_n h rfl rfl ?_
  refine fw_iload_n h rfl rfl ?_
  refine fw_iload_n h rfl rfl ?_
  refine fw_v2I h rfl fk_v_X7_grantOver fk_l_X7_324 rfl rfl rfl rfl ?_
  refine c_X7_grantOver hX hd ht ?_
  refine fw_istore h [_, _, _, _, _, _, _] rfl rfl rfl rfl ?_
  refine fw_iload h rfl rfl ?_
  refine fw_bipush h (-9) rfl (by decide) ?_
  refine fw_icmp_ne h rfl (fun c23 => ?_) (fun c23 => ?_)
  · obtain ⟨g, hg2, eg⟩ := (fs_g_in (xD w) ng d t).resolve_left c23
    rw [eg]
    · refine fw_iload h rfl rfl ?_
      refine fw_aload_n h rfl rfl ?_
      refine fw_getR _ h rfl fk_g_X7_40 rfl rfl ?_
      refine fw_getR _ h rfl fk_g_X7_339 rfl rfl ?_
      refine fw_iload h rfl rfl ?_
      refine fn_iald h rfl rfl (by omega) rfl ?_
      first | refine fn_imul h rfl ?_ | refine fw_imul h rfl ?_
      refine fw_bipush h (nI 12) rfl (by decide) ?_
      refine fw_idiv h rfl (by decide) ?_
      refine fw_istore h [_, _, _, _, _, _, _] rfl rfl rfl rfl ?_
      refine fw_iload_n h rfl rfl ?_
      refine fw_bipush h (nI 9) rfl (by decide) ?_
      refine fw_icmp_ne h rfl (fun c51 => ?_) (fun c51 => ?_)
      · refine fw_iload h rfl rfl ?_
        refine fw_bipush h (-9) rfl (by decide) ?_
        refine fw_icmp_eq h rfl (fun c64 => False.elim (absurd c64 (nI_ne9 (by omega)))) (fun c64 => ?_)
        refine fw_aload_n h rfl rfl ?_
        refine fw_getR _ h rfl fk_g_X7_40 rfl rfl ?_
        refine fw_getR _ h rfl fk_g_X7_327 rfl rfl ?_
        refine fw_iload h rfl rfl ?_
        refine fn_iald h rfl rfl (by omega) rfl ?_
        refine fw_iload_n h rfl rfl ?_
        refine fw_icmp_ne h rfl (fun c78 => ?_) (fun c78 => ?_)
        · refine fw_iconst h (nI 0) rfl (by decide) ?_
          exact fw_iret h rfl rfl ⟨_, rfl, by have z := hp; rw [fs_sh_2 c51 eg (by omega) c78] at z; exact z⟩
        · refine fw_iload h rfl rfl ?_
          refine fw_goto h rfl ?_
          exact fw_iret h rfl rfl ⟨_, rfl, by have z := hp; rw [fs_sh_1 c51 eg (by omega) c78, fs_pt_1 eg (by omega)] at z; exact z⟩
      · refine fw_iload h rfl rfl ?_
        refine fw_iload h rfl rfl ?_
        refine fw_isub h rfl ?_
        exact fw_iret h rfl rfl ⟨_, rfl, by have z := hp; rw [fs_sh_k c51, fs_pt_1 eg (by omega)] at z; exact z⟩
  · have c23n : fs_g (xD w) ng d t < 0 := by rw [c23]; decide
    · refine fw_iconst h (nI 0) rfl (by decide) ?_
      refine fw_goto h rfl ?_
      refine fw_istore h [_, _, _, _, _, _, _] rfl rfl rfl rfl ?_
      refine fw_iload_n h rfl rfl ?_
      refine fw_bipush h (nI 9) rfl (by decide) ?_
      refine fw_icmp_ne h rfl (fun c51 => ?_) (fun c51 => ?_)
      · refine fw_iload h rfl rfl ?_
        refine fw_bipush h (-9) rfl (by decide) ?_
        refine fw_icmp_eq h rfl (fun c64 => ?_) (fun c64 => False.elim (c64 c23))
        refine fw_iconst h (nI 0) rfl (by decide) ?_
        exact fw_iret h rfl rfl ⟨_, rfl, by have z := hp; rw [fs_sh_0 c51 c23n] at z; exact z⟩
      · refine fw_iload h rfl rfl ?_
        refine fw_iload h rfl rfl ?_
        refine fw_isub h rfl ?_
        exact fw_iret h rfl rfl ⟨_, rfl, by have z := hp; rw [fs_sh_k c51, fs_pt_0 c23n] at z; exact z⟩
theorem c_X7_taker {l : Launch} {w : fb_Wd} {P : Int32 → fb_Wd → Prop} {nt nd nx ng : Nat} (hX : XI w nt nd nx ng) (hx : fd_X (xD w) nx) {d t : Int32} (hG : fd_G (xD w) ng) (hb : ¬ ((∃ j, j < nd ∧ d = nI j) ∧ ∃ u, u < nt ∧ t = nI u) → P (-1) w) (hn : ∀ j u, j < nd → d = nI j → u < nt → t = nI u → bt (fs_ds (xD w) nt nx j) u = false → ∀ w', xSL [6, 7, 8, 41, 42, 43, 44, 45] w w' → P (-9) w') (hk : ∀ j u, j < nd → d = nI j → u < nt → t = nI u → bt (fs_ds (xD w) nt nx j) u = true → fs_g (xD w) ng j u < 0 → ∀ w', xSL [6, 7, 8, 41, 42, 43, 44, 45] w w' → P (nI 9) (fb_up w' 0 10 (fs_pr (xD w) nt u))) (hg : ∀ j u g, j < nd → d = nI j → u < nt → t = nI u → bt (fs_ds (xD w) nt nx j) u = true → g < ng → fs_g (xD w) ng j u = nI g → ∀ w', xSL [6, 7, 8, 41, 42, 43, 44, 45] w w' → P (xD w 17 g) (fb_up w' 0 10 (fs_pr (xD w) nt u * xD w 22 g / nI 12))) : fb_Can l tX7_taker [.ref 0, .int d, .int t] w (fb_kI P) := by
  refine fb_intro 2 fk_t_X7_taker (by decide) rfl (fun X hX h => ?_)
  subst hX
  change fb_AW tX7_taker X 0 [some (.ref 0), some (.int d), some (.int t), none, none] [] w
  refine fw_aload_n h rfl rfl ?_
  refine fw_getR _ h rfl fk_g_X7_26 rfl rfl ?_
  refine fw_iload_n h rfl rfl ?_
  refine fw_v1I h rfl fk_v_X0_has fk_l_X7_181 rfl rfl rfl rfl ?_
  refine c_X0_has hX.1.2.1.1 hX.1.2.1.2 (fun j hj ej => ?_) (fun c5 => ?_)
  · refine fw_if_eq h rfl (fun c => absurd c (by decide)) (fun _ => ?_)
    refine fw_aload_n h rfl rfl ?_
    refine fw_getR _ h rfl fk_g_X7_19 rfl rfl ?_
    refine fw_iload_n h rfl rfl ?_
    refine fw_v1I h rfl fk_v_X6_has fk_l_X7_125 rfl rfl rfl rfl ?_
    refine c_X6_has hX.1.1.1 hX.1.1.2 (fun u hu eu => ?_) (fun c16 => ?_)
    · refine fw_if_ne h rfl (fun _ => ?_) (fun c => absurd c (by decide))
      refine fw_aload_n h rfl rfl ?_
      refine fw_iload_n h rfl rfl ?_
      refine fw_v1V h rfl fk_v_X7_ruleNow fk_l_X7_247 rfl rfl rfl rfl ?_
      subst ej; subst eu
      have hnt := hX.1.1.2
      have hng := hX.1.2.2.2.2
      refine c_X7_ruleNowS hX hx (xSL.rf _ w) hj (fun w2 hs2 g3 g44 g4 => ?_)
      have hX2 := hs2.keep (by decide) hX
      have eD2 : xD w2 = xD w := hs2.eD (by decide)
      refine fw_aload_n h rfl rfl ?_
      refine fw_getR _ h rfl fk_g_X7_58 rfl rfl ?_
      refine fw_v0I h rfl fk_v_X4_dueSet fk_l_X7_321 rfl rfl rfl rfl ?_
      refine c_X4_dueSet_n g3.1 g3.2 ?_
      rw [g44]
      refine fw_iload_n h rfl rfl ?_
      refine fw_s2I h rfl fk_s_X7_isIn fk_l_X7_154 rfl rfl ?_
      refine c_X7_isIn rfl (by omega) (fun c37 => ?_) (fun c37 => ?_)
      · refine fw_if_ne h rfl (fun _ => ?_) (fun c => absurd c (by decide))
        refine fw_aload_n h rfl rfl ?_
        refine fw_iload_n h rfl rfl ?_
        refine fw_iload_n h rfl rfl ?_
        refine fw_v2I h rfl fk_v_X7_grantOver fk_l_X7_324 rfl rfl rfl rfl ?_
        refine c_X7_grantOver hX2 hj hu ?_
        rw [eD2]
        refine fw_istore_n h [_, _, _, _, _] rfl rfl rfl rfl ?_
        refine fw_iload_n h rfl rfl ?_
        refine fw_bipush h (-9) rfl (by decide) ?_
        refine fw_icmp_ne h rfl (fun c56 => ?_) (fun c56 => ?_)
        · obtain ⟨g, hg2, eg⟩ := (fs_g_in (xD w) ng j u).resolve_left c56
          obtain ⟨q, hq8, eq⟩ := hG g hg2
          rw [eg]
          have e35 : w2.1 35 g = xD w 17 g := congrFun (hs2.1 35 (by decide)) g
          · refine fw_aload_n h rfl rfl ?_
            refine fw_getR _ h rfl fk_g_X7_40 rfl rfl ?_
            refine fw_getR _ h rfl fk_g_X7_327 rfl rfl ?_
            refine fw_iload_n h rfl rfl ?_
            refine fn_iald h rfl rfl (by omega) rfl ?_
            rw [e35]
            refine fw_istore h [_, _, _, _, _] rfl rfl rfl rfl ?_
            refine fw_aload_n h rfl rfl ?_
            refine fw_aload_n h rfl rfl ?_
            refine fw_iload h rfl rfl ?_
            refine fw_iload_n h rfl rfl ?_
            refine fw_iload_n h rfl rfl ?_
            refine fw_v3I h rfl fk_v_X7_shareOf fk_l_X7_330 rfl rfl rfl rfl ?_
            refine c_X7_shareOf hX2 hj hu ?_
            rw [eD2, fs_sh_1 (by rw [eq]; exact fun z => by have := (nI_eq (by omega) (by decide)).mp z; omega) eg (by omega) rfl, fs_pt_1 eg (by omega)]
            refine fw_iload h rfl rfl ?_
            refine fw_v2I h rfl fk_v_X7_tell fk_l_X7_111 rfl rfl rfl rfl ?_
            refine c_X7_tell ?_
            exact fw_iret h rfl rfl ⟨_, rfl, hg j u g hj rfl hu rfl c37 hg2 eg w2 hs2⟩
        · have c56n : fs_g (xD w) ng j u < 0 := by rw [c56]; decide
          · refine fw_bipush h (nI 9) rfl (by decide) ?_
            refine fw_goto h rfl ?_
            refine fw_istore h [_, _, _, _, _] rfl rfl rfl rfl ?_
            refine fw_aload_n h rfl rfl ?_
            refine fw_aload_n h rfl rfl ?_
            refine fw_iload h rfl rfl ?_
            refine fw_iload_n h rfl rfl ?_
            refine fw_iload_n h rfl rfl ?_
            refine fw_v3I h rfl fk_v_X7_shareOf fk_l_X7_330 rfl rfl rfl rfl ?_
            refine c_X7_shareOf hX2 hj hu ?_
            rw [eD2, fs_sh_k rfl, fs_pt_0 c56n, nI_0, Int32.sub_zero]
            refine fw_iload h rfl rfl ?_
            refine fw_v2I h rfl fk_v_X7_tell fk_l_X7_111 rfl rfl rfl rfl ?_
            refine c_X7_tell ?_
            exact fw_iret h rfl rfl ⟨_, rfl, hk j u hj rfl hu rfl c37 c56n w2 hs2⟩
      · refine fw_if_ne h rfl (fun c => absurd c (by decide)) (fun _ => ?_)
        refine fw_bipush h (-9) rfl (by decide) ?_
        exact fw_iret h rfl rfl ⟨_, rfl, hn j u hj rfl hu rfl c37 w2 hs2⟩
    · refine fw_if_ne h rfl (fun c => absurd c (by decide)) (fun _ => ?_)
      refine fw_iconst h (-1) rfl (by decide) ?_
      exact fw_iret h rfl rfl ⟨_, rfl, hb (fun z => by first | exact c5 z.1 | exact c16 z.2)⟩
  · refine fw_if_eq h rfl (fun _ => ?_) (fun c => absurd c (by decide))
    refine fw_iconst h (-1) rfl (by decide) ?_
    exact fw_iret h rfl rfl ⟨_, rfl, hb (fun z => by first | exact c5 z.1 | exact c16 z.2)⟩
theorem c_X7_takenOf {l : Launch} {w : fb_Wd} {P : Int32 → fb_Wd → Prop} {lo : Int32} {w0 : fb_Wd} {d : Nat} {nt nd nx ng : Nat} (hX : XI w nt nd nx ng) (hx : fd_X (xD w) nx) (hs0 : xSL [6, 7, 8, 41, 42, 43, 44, 45] w w0) (hdn : d < nd) (hp : ∀ w', xSL [6, 7, 8, 41, 42, 43, 44, 45] w w' → P (fs_he (xD w) nt nx ng lo d) w') : fb_Can l tX7_takenOf [.ref 0, .int (nI d), .int lo] w0 (fb_kI P) := by
  refine fb_intro 2 fk_t_X7_takenOf (by decide) rfl (fun X hX h => ?_)
  subst hX
  change fb_AW tX7_takenOf X 0 [some (.ref 0), some (.int (nI d)), some (.int lo), none, none] [] w0
  have hnt := hX.1.1.2
  refine fw_aload_n h rfl rfl ?_
  refine fw_iload_n h rfl rfl ?_
  refine fw_v1V h rfl fk_v_X7_ruleNow fk_l_X7_247 rfl rfl rfl rfl ?_
  refine c_X7_ruleNowS hX hx hs0 hdn (fun w2 hs2 g3 g44 g4 => ?_)
  have hX2 := hs2.keep (by decide) hX
  have eD2 : xD w2 = xD w := hs2.eD (by decide)
  refine fw_iconst h (nI 0) rfl (by decide) ?_
  refine fw_istore_n h [_, _, _, _, _] rfl rfl rfl rfl ?_
  refine fw_iconst h (nI 0) rfl (by decide) ?_
  refine fw_istore h [_, _, _, _, _] rfl rfl rfl rfl ?_
  refine fb_loop (fun i => fb_AW tX7_takenOf X 10 [some (.ref 0), some (.int (nI d)), some (.int lo), some (.int (fp_sum (fun t => if bt (fs_ds (xD w) nt nx d) t = true then fs_sh (xD w) nt ng lo d t else nI 0) i)), some (.int (nI i))] [] w2) (nt) ?_ (fun i hi ih => ?_) 0 (Nat.zero_le _)
  · refine fw_iload h rfl rfl ?_
    refine fw_aload_n h rfl rfl ?_
    refine fw_getR _ h rfl fk_g_X7_19 rfl rfl ?_
    refine fw_getI h rfl fk_g_X7_128 rfl rfl ?_
    refine fw_icmp_ge h rfl (fun c19 => ?_) (fun c19 => False.elim (c19 (by rw [show w2.1 2 12 = nI nt from hX2.1.1.1]; exact Int32.le_refl _)))
    refine fw_iload_n h rfl rfl ?_
    exact fw_iret h rfl rfl ⟨_, rfl, hp w2 hs2⟩
  · refine fw_iload h rfl rfl ?_
    refine fw_aload_n h rfl rfl ?_
    refine fw_getR _ h rfl fk_g_X7_19 rfl rfl ?_
    refine fw_getI h rfl fk_g_X7_128 rfl rfl ?_
    refine fw_icmp_ge h rfl (fun c19 => False.elim (nI_ge hi (by omega) (by rw [← show w2.1 2 12 = nI nt from hX2.1.1.1]; exact c19))) (fun c19 => ?_)
    refine fw_aload_n h rfl rfl ?_
    refine fw_getR _ h rfl fk_g_X7_58 rfl rfl ?_
    refine fw_v0I h rfl fk_v_X4_dueSet fk_l_X7_321 rfl rfl rfl rfl ?_
    refine c_X4_dueSet_n g3.1 g3.2 ?_
    rw [g44]
    refine fw_iload h rfl rfl ?_
    refine fw_s2I h rfl fk_s_X7_isIn fk_l_X7_154 rfl rfl ?_
    refine c_X7_isIn rfl (by omega) (fun c31 => ?_) (fun c31 => ?_)
    · refine fw_if_eq h rfl (fun c => absurd c (by decide)) (fun _ => ?_)
      skip
      · refine fw_iload_n h rfl rfl ?_
        refine fw_aload_n h rfl rfl ?_
        refine fw_iload_n h rfl rfl ?_
        refine fw_iload_n h rfl rfl ?_
        refine fw_iload h rfl rfl ?_
        refine fw_v3I h rfl fk_v_X7_shareOf fk_l_X7_330 rfl rfl rfl rfl ?_
        refine c_X7_shareOf hX2 hdn hi ?_
        rw [eD2]
        first | refine fn_iadd h rfl ?_ | refine fw_iadd h rfl ?_
        refine fw_istore_n h [_, _, _, _, _] rfl rfl rfl rfl ?_
        first | refine fn_iinc h [_, _, _, _, _] rfl rfl rfl rfl rfl ?_ | refine fw_iinc h 1 [_, _, _, _, _] rfl (by decide) rfl rfl rfl rfl ?_
        refine fw_goto h rfl ?_
        have es : fp_sum (fun t => if bt (fs_ds (xD w) nt nx d) t = true then fs_sh (xD w) nt ng lo d t else nI 0) (i + 1) = fp_sum (fun t => if bt (fs_ds (xD w) nt nx d) t = true then fs_sh (xD w) nt ng lo d t else nI 0) i + fs_sh (xD w) nt ng lo d i := fp_sum_s (if_pos c31)
        rw [es] at ih
        exact ih
    · refine fw_if_eq h rfl (fun _ => ?_) (fun c => absurd c (by decide))
      first | refine fn_iinc h [_, _, _, _, _] rfl rfl rfl rfl rfl ?_ | refine fw_iinc h 1 [_, _, _, _, _] rfl (by decide) rfl rfl rfl rfl ?_
      refine fw_goto h rfl ?_
      have es : fp_sum (fun t => if bt (fs_ds (xD w) nt nx d) t = true then fs_sh (xD w) nt ng lo d t else nI 0) (i + 1) = fp_sum (fun t => if bt (fs_ds (xD w) nt nx d) t = true then fs_sh (xD w) nt ng lo d t else nI 0) i := fp_sum_z (fx_ifb c31)
      rw [es] at ih
      exact ih
theorem c_X7_takes {l : Launch} {w : fb_Wd} {P : Int32 → fb_Wd → Prop} {nt nd nx ng : Nat} (hX : XI w nt nd nx ng) (hx : fd_X (xD w) nx) {lo fr to : Int32} (hb : ¬ (((∃ q, q < 8 ∧ lo = nI q) ∨ lo = nI 9) ∧ (1000 ≤ fr ∧ fr ≤ 1900 ∧ fr ≤ to ∧ to ≤ 1900)) → P (-1) w) (hg : ((∃ q, q < 8 ∧ lo = nI q) ∨ lo = nI 9) → (1000 ≤ fr ∧ fr ≤ 1900 ∧ fr ≤ to ∧ to ≤ 1900) → ∀ w', xSL [6, 7, 8, 41, 42, 43, 44, 45] w w' → P (nI (fp_cnt (fun q => decide (fr ≤ xD w 6 q ∧ xD w 6 q ≤ to) && !decide (fs_he (xD w) nt nx ng lo q ≤ 0)) nd)) (fb_up w' 0 10 (fp_sum (fun q => if (fr ≤ xD w 6 q ∧ xD w 6 q ≤ to) then fs_he (xD w) nt nx ng lo q else nI 0) nd))) : fb_Can l tX7_takes [.ref 0, .int lo, .int fr, .int to] w (fb_kI P) := by
  refine fb_intro 4 fk_t_X7_takes (by decide) rfl (fun X hX h => ?_)
  subst hX
  change fb_AW tX7_takes X 0 [some (.ref 0), some (.int lo), some (.int fr), some (.int to), none, none, none, none] [] w
  refine fw_iload_n h rfl rfl ?_
  refine fw_bipush h (nI 8) rfl (by decide) ?_
  refine fw_s2I h rfl fk_s_X7_isBelow fk_l_X7_83 rfl rfl ?_
  refine c_X7_isBelow (by decide) (fun q hq eq => ?_) (fun c3 => ?_)
  · refine fw_if_ne h rfl (fun _ => ?_) (fun c => absurd c (by decide))
    refine fw_iload_n h rfl rfl ?_
    refine fw_iload_n h rfl rfl ?_
    refine fw_s2I h rfl fk_s_X7_areYears fk_l_X7_296 rfl rfl ?_
    refine c_X7_areYears (fun c17a c17b c17c c17d => ?_) (fun c17 => ?_)
    · refine fw_if_ne h rfl (fun _ => ?_) (fun c => absurd c (by decide))
      have hnd := hX.1.2.1.2
      have hc : ((∃ q, q < 8 ∧ lo = nI q) ∨ lo = nI 9) := by first | exact Or.inr c12 | exact Or.inl ⟨q, hq, eq⟩
      refine fw_iconst h (nI 0) rfl (by decide) ?_
      refine fw_istore h [_, _, _, _, _, _, _, _] rfl rfl rfl rfl ?_
      refine fw_iconst h (nI 0) rfl (by decide) ?_
      refine fw_istore h [_, _, _, _, _, _, _, _] rfl rfl rfl rfl ?_
      refine fw_iconst h (nI 0) rfl (by decide) ?_
      refine fw_istore h [_, _, _, _, _, _, _, _] rfl rfl rfl rfl ?_
      refine (?_ : ∀ w1, xSL [6, 7, 8, 41, 42, 43, 44, 45] w w1 → fb_AW tX7_takes X 34 [some (.ref 0), some (.int lo), some (.int fr), some (.int to), some (.int (fp_sum (fun q => if (fr ≤ xD w 6 q ∧ xD w 6 q ≤ to) then fs_he (xD w) nt nx ng lo q else nI 0) 0)), some (.int (nI (fp_cnt (fun q => decide (fr ≤ xD w 6 q ∧ xD w 6 q ≤ to) && !decide (fs_he (xD w) nt nx ng lo q ≤ 0)) 0))), some (.int (nI 0)), none] [] w1) w (xSL.rf _ w)
      refine fb_loop (fun i => ∀ w1, xSL [6, 7, 8, 41, 42, 43, 44, 45] w w1 → fb_AW tX7_takes X 34 [some (.ref 0), some (.int lo), some (.int fr), some (.int to), some (.int (fp_sum (fun q => if (fr ≤ xD w 6 q ∧ xD w 6 q ≤ to) then fs_he (xD w) nt nx ng lo q else nI 0) i)), some (.int (nI (fp_cnt (fun q => decide (fr ≤ xD w 6 q ∧ xD w 6 q ≤ to) && !decide (fs_he (xD w) nt nx ng lo q ≤ 0)) i))), some (.int (nI i)), none] [] w1) (nd) ?_ (fun i hi ih => ?_) 0 (Nat.zero_le _)
      · intro w1 hs
        have eD : xD w1 = xD w := hs.eD (by decide)
        have hX1 := hs.keep (by decide) hX
        refine fw_iload h rfl rfl ?_
        refine fw_aload_n h rfl rfl ?_
        refine fw_getR _ h rfl fk_g_X7_26 rfl rfl ?_
        refine fw_getIv (nI nd) h rfl fk_g_X7_150 rfl rfl (hX1.1.2.1.1) ?_
        refine fw_icmp_ge h rfl (fun c43 => ?_) (fun c43 => False.elim (c43 (Int32.le_refl _)))
        refine fw_aload_n h rfl rfl ?_
        refine fw_iload h rfl rfl ?_
        refine fw_iload h rfl rfl ?_
        refine fw_v2I h rfl fk_v_X7_tell fk_l_X7_111 rfl rfl rfl rfl ?_
        refine c_X7_tell ?_
        exact fw_iret h rfl rfl ⟨_, rfl, hg hc ⟨c17a, c17b, c17c, c17d⟩ w1 hs⟩
      · intro w1 hs
        have eD : xD w1 = xD w := hs.eD (by decide)
        have hX1 := hs.keep (by decide) hX
        refine fw_iload h rfl rfl ?_
        refine fw_aload_n h rfl rfl ?_
        refine fw_getR _ h rfl fk_g_X7_26 rfl rfl ?_
        refine fw_getIv (nI nd) h rfl fk_g_X7_150 rfl rfl (hX1.1.2.1.1) ?_
        refine fw_icmp_ge h rfl (fun c43 => False.elim (nI_ge hi (by omega) c43)) (fun c43 => ?_)
        refine fw_aload_n h rfl rfl ?_
        refine fw_getR _ h rfl fk_g_X7_26 rfl rfl ?_
        refine fw_iload h rfl rfl ?_
        refine fw_iload_n h rfl rfl ?_
        refine fw_iload_n h rfl rfl ?_
        refine fw_v3I h rfl fk_v_X0_isWithin fk_l_X7_308 rfl rfl rfl rfl ?_
        refine c_X0_isWithinS (w := w) (hs.1 23 (by decide)) (by omega) (fun c54a c54b => ?_) (fun c54 => ?_)
        · refine fw_if_ne h rfl (fun _ => ?_) (fun c => absurd c (by decide))
          refine fw_aload_n h rfl rfl ?_
          refine fw_iload h rfl rfl ?_
          refine fw_iload_n h rfl rfl ?_
          refine fw_v2I h rfl fk_v_X7_takenOf fk_l_X7_333 rfl rfl rfl rfl ?_
          refine c_X7_takenOf hX hx hs hi (fun w2 hs2 => ?_)
          have es : fp_sum (fun q => if (fr ≤ xD w 6 q ∧ xD w 6 q ≤ to) then fs_he (xD w) nt nx ng lo q else nI 0) (i + 1) = fp_sum (fun q => if (fr ≤ xD w 6 q ∧ xD w 6 q ≤ to) then fs_he (xD w) nt nx ng lo q else nI 0) i + fs_he (xD w) nt nx ng lo i := fp_sum_s (if_pos (And.intro c54a c54b))
          refine fw_istore h [_, _, _, _, _, _, _, _] rfl rfl rfl rfl ?_
          refine fw_iload h rfl rfl ?_
          refine fw_iload h rfl rfl ?_
          first | refine fn_iadd h rfl ?_ | refine fw_iadd h rfl ?_
          refine fw_istore h [_, _, _, _, _, _, _, _] rfl rfl rfl rfl ?_
          refine fw_iload h rfl rfl ?_
          refine fw_if_le h rfl (fun c81 => ?_) (fun c81 => ?_)
          · first | refine fn_iinc h [_, _, _, _, _, _, _, _] rfl rfl rfl rfl rfl ?_ | refine fw_iinc h 1 [_, _, _, _, _, _, _, _] rfl (by decide) rfl rfl rfl rfl ?_
            refine fw_goto h rfl ?_
            have en : fp_cnt (fun q => decide (fr ≤ xD w 6 q ∧ xD w 6 q ≤ to) && !decide (fs_he (xD w) nt nx ng lo q ≤ 0)) (i + 1) = fp_cnt (fun q => decide (fr ≤ xD w 6 q ∧ xD w 6 q ≤ to) && !decide (fs_he (xD w) nt nx ng lo q ≤ 0)) i + 0 := fp_cnt_0 (fx_df2 c81)
            refine fw_sub (fb_pad_c (Or.inr rfl) (fb_pad_c (Or.inr rfl) (fb_pad_c (Or.inr rfl) (fb_pad_c (Or.inr rfl) (fb_pad_c (Or.inr rfl) (fb_pad_c (Or.inr rfl) (fb_pad_c (Or.inr rfl) (fb_pad_c (Or.inl rfl) (fb_pad_n))))))))) ?_
            rw [en, es] at ih
            exact ih w2 hs2
          · have en : fp_cnt (fun q => decide (fr ≤ xD w 6 q ∧ xD w 6 q ≤ to) && !decide (fs_he (xD w) nt nx ng lo q ≤ 0)) (i + 1) = fp_cnt (fun q => decide (fr ≤ xD w 6 q ∧ xD w 6 q ≤ to) && !decide (fs_he (xD w) nt nx ng lo q ≤ 0)) i + 1 := fp_cnt_1 (fx_dt (And.intro c54a c54b) c81)
            · first | refine fn_iinc h [_, _, _, _, _, _, _, _] rfl rfl rfl rfl rfl ?_ | refine fw_iinc h 1 [_, _, _, _, _, _, _, _] rfl (by decide) rfl rfl rfl rfl ?_
              first | refine fn_iinc h [_, _, _, _, _, _, _, _] rfl rfl rfl rfl rfl ?_ | refine fw_iinc h 1 [_, _, _, _, _, _, _, _] rfl (by decide) rfl rfl rfl rfl ?_
              refine fw_goto h rfl ?_
              refine fw_sub (fb_pad_c (Or.inr rfl) (fb_pad_c (Or.inr rfl) (fb_pad_c (Or.inr rfl) (fb_pad_c (Or.inr rfl) (fb_pad_c (Or.inr rfl) (fb_pad_c (Or.inr rfl) (fb_pad_c (Or.inr rfl) (fb_pad_c (Or.inl rfl) (fb_pad_n))))))))) ?_
              rw [en, es] at ih
              exact ih w2 hs2
        · refine fw_if_ne h rfl (fun c => absurd c (by decide)) (fun _ => ?_)
          have es : fp_sum (fun q => if (fr ≤ xD w 6 q ∧ xD w 6 q ≤ to) then fs_he (xD w) nt nx ng lo q else nI 0) (i + 1) = fp_sum (fun q => if (fr ≤ xD w 6 q ∧ xD w 6 q ≤ to) then fs_he (xD w) nt nx ng lo q else nI 0) i := fp_sum_z (if_neg c54)
          have en : fp_cnt (fun q => decide (fr ≤ xD w 6 q ∧ xD w 6 q ≤ to) && !decide (fs_he (xD w) nt nx ng lo q ≤ 0)) (i + 1) = fp_cnt (fun q => decide (fr ≤ xD w 6 q ∧ xD w 6 q ≤ to) && !decide (fs_he (xD w) nt nx ng lo q ≤ 0)) i + 0 := fp_cnt_0 (fx_df1 c54)
          · refine fw_goto h rfl ?_
            first | refine fn_iinc h [_, _, _, _, _, _, _, _] rfl rfl rfl rfl rfl ?_ | refine fw_iinc h 1 [_, _, _, _, _, _, _, _] rfl (by decide) rfl rfl rfl rfl ?_
            refine fw_goto h rfl ?_
            rw [en, es] at ih
            exact ih w1 hs
    · refine fw_if_ne h rfl (fun c => absurd c (by decide)) (fun _ => ?_)
      refine fw_iconst h (-1) rfl (by decide) ?_
      exact fw_iret h rfl rfl ⟨_, rfl, hb (fun z => by first | exact c17 z.2 | exact z.1.elim c3 c12)⟩
  · refine fw_if_ne h rfl (fun c => absurd c (by decide)) (fun _ => ?_)
    refine fw_iload_n h rfl rfl ?_
    refine fw_bipush h (nI 9) rfl (by decide) ?_
    refine fw_icmp_ne h rfl (fun c12 => ?_) (fun c12 => ?_)
    · refine fw_iconst h (-1) rfl (by decide) ?_
      exact fw_iret h rfl rfl ⟨_, rfl, hb (fun z => by first | exact c17 z.2 | exact z.1.elim c3 c12)⟩
    · refine fw_iload_n h rfl rfl ?_
      refine fw_iload_n h rfl rfl ?_
      refine fw_s2I h rfl fk_s_X7_areYears fk_l_X7_296 rfl rfl ?_
      refine c_X7_areYears (fun c17a c17b c17c c17d => ?_) (fun c17 => ?_)
      · refine fw_if_ne h rfl (fun _ => ?_) (fun c => absurd c (by decide))
        have hnd := hX.1.2.1.2
        have hc : ((∃ q, q < 8 ∧ lo = nI q) ∨ lo = nI 9) := by first | exact Or.inr c12 | exact Or.inl ⟨q, hq, eq⟩
        refine fw_iconst h (nI 0) rfl (by decide) ?_
        refine fw_istore h [_, _, _, _, _, _, _, _] rfl rfl rfl rfl ?_
        refine fw_iconst h (nI 0) rfl (by decide) ?_
        refine fw_istore h [_, _, _, _, _, _, _, _] rfl rfl rfl rfl ?_
        refine fw_iconst h (nI 0) rfl (by decide) ?_
        refine fw_istore h [_, _, _, _, _, _, _, _] rfl rfl rfl rfl ?_
        refine (?_ : ∀ w1, xSL [6, 7, 8, 41, 42, 43, 44, 45] w w1 → fb_AW tX7_takes X 34 [some (.ref 0), some (.int lo), some (.int fr), some (.int to), some (.int (fp_sum (fun q => if (fr ≤ xD w 6 q ∧ xD w 6 q ≤ to) then fs_he (xD w) nt nx ng lo q else nI 0) 0)), some (.int (nI (fp_cnt (fun q => decide (fr ≤ xD w 6 q ∧ xD w 6 q ≤ to) && !decide (fs_he (xD w) nt nx ng lo q ≤ 0)) 0))), some (.int (nI 0)), none] [] w1) w (xSL.rf _ w)
        refine fb_loop (fun i => ∀ w1, xSL [6, 7, 8, 41, 42, 43, 44, 45] w w1 → fb_AW tX7_takes X 34 [some (.ref 0), some (.int lo), some (.int fr), some (.int to), some (.int (fp_sum (fun q => if (fr ≤ xD w 6 q ∧ xD w 6 q ≤ to) then fs_he (xD w) nt nx ng lo q else nI 0) i)), some (.int (nI (fp_cnt (fun q => decide (fr ≤ xD w 6 q ∧ xD w 6 q ≤ to) && !decide (fs_he (xD w) nt nx ng lo q ≤ 0)) i))), some (.int (nI i)), none] [] w1) (nd) ?_ (fun i hi ih => ?_) 0 (Nat.zero_le _)
        · intro w1 hs
          have eD : xD w1 = xD w := hs.eD (by decide)
          have hX1 := hs.keep (by decide) hX
          refine fw_iload h rfl rfl ?_
          refine fw_aload_n h rfl rfl ?_
          refine fw_getR _ h rfl fk_g_X7_26 rfl rfl ?_
          refine fw_getIv (nI nd) h rfl fk_g_X7_150 rfl rfl (hX1.1.2.1.1) ?_
          refine fw_icmp_ge h rfl (fun c43 => ?_) (fun c43 => False.elim (c43 (Int32.le_refl _)))
          refine fw_aload_n h rfl rfl ?_
          refine fw_iload h rfl rfl ?_
          refine fw_iload h rfl rfl ?_
          refine fw_v2I h rfl fk_v_X7_tell fk_l_X7_111 rfl rfl rfl rfl ?_
          refine c_X7_tell ?_
          exact fw_iret h rfl rfl ⟨_, rfl, hg hc ⟨c17a, c17b, c17c, c17d⟩ w1 hs⟩
        · intro w1 hs
          have eD : xD w1 = xD w := hs.eD (by decide)
          have hX1 := hs.keep (by decide) hX
          refine fw_iload h rfl rfl ?_
          refine fw_aload_n h rfl rfl ?_
          refine fw_getR _ h rfl fk_g_X7_26 rfl rfl ?_
          refine fw_getIv (nI nd) h rfl fk_g_X7_150 rfl rfl (hX1.1.2.1.1) ?_
          refine fw_icmp_ge h rfl (fun c43 => False.elim (nI_ge hi (by omega) c43)) (fun c43 => ?_)
          refine fw_aload_n h rfl rfl ?_
          refine fw_getR _ h rfl fk_g_X7_26 rfl rfl ?_
          refine fw_iload h rfl rfl ?_
          refine fw_iload_n h rfl rfl ?_
          refine fw_iload_n h rfl rfl ?_
          refine fw_v3I h rfl fk_v_X0_isWithin fk_l_X7_308 rfl rfl rfl rfl ?_
          refine c_X0_isWithinS (w := w) (hs.1 23 (by decide)) (by omega) (fun c54a c54b => ?_) (fun c54 => ?_)
          · refine fw_if_ne h rfl (fun _ => ?_) (fun c => absurd c (by decide))
            refine fw_aload_n h rfl rfl ?_
            refine fw_iload h rfl rfl ?_
            refine fw_iload_n h rfl rfl ?_
            refine fw_v2I h rfl fk_v_X7_takenOf fk_l_X7_333 rfl rfl rfl rfl ?_
            refine c_X7_takenOf hX hx hs hi (fun w2 hs2 => ?_)
            have es : fp_sum (fun q => if (fr ≤ xD w 6 q ∧ xD w 6 q ≤ to) then fs_he (xD w) nt nx ng lo q else nI 0) (i + 1) = fp_sum (fun q => if (fr ≤ xD w 6 q ∧ xD w 6 q ≤ to) then fs_he (xD w) nt nx ng lo q else nI 0) i + fs_he (xD w) nt nx ng lo i := fp_sum_s (if_pos (And.intro c54a c54b))
            refine fw_istore h [_, _, _, _, _, _, _, _] rfl rfl rfl rfl ?_
            refine fw_iload h rfl rfl ?_
            refine fw_iload h rfl rfl ?_
            first | refine fn_iadd h rfl ?_ | refine fw_iadd h rfl ?_
            refine fw_istore h [_, _, _, _, _, _, _, _] rfl rfl rfl rfl ?_
            refine fw_iload h rfl rfl ?_
            refine fw_if_le h rfl (fun c81 => ?_) (fun c81 => ?_)
            · first | refine fn_iinc h [_, _, _, _, _, _, _, _] rfl rfl rfl rfl rfl ?_ | refine fw_iinc h 1 [_, _, _, _, _, _, _, _] rfl (by decide) rfl rfl rfl rfl ?_
              refine fw_goto h rfl ?_
              have en : fp_cnt (fun q => decide (fr ≤ xD w 6 q ∧ xD w 6 q ≤ to) && !decide (fs_he (xD w) nt nx ng lo q ≤ 0)) (i + 1) = fp_cnt (fun q => decide (fr ≤ xD w 6 q ∧ xD w 6 q ≤ to) && !decide (fs_he (xD w) nt nx ng lo q ≤ 0)) i + 0 := fp_cnt_0 (fx_df2 c81)
              refine fw_sub (fb_pad_c (Or.inr rfl) (fb_pad_c (Or.inr rfl) (fb_pad_c (Or.inr rfl) (fb_pad_c (Or.inr rfl) (fb_pad_c (Or.inr rfl) (fb_pad_c (Or.inr rfl) (fb_pad_c (Or.inr rfl) (fb_pad_c (Or.inl rfl) (fb_pad_n))))))))) ?_
              rw [en, es] at ih
              exact ih w2 hs2
            · have en : fp_cnt (fun q => decide (fr ≤ xD w 6 q ∧ xD w 6 q ≤ to) && !decide (fs_he (xD w) nt nx ng lo q ≤ 0)) (i + 1) = fp_cnt (fun q => decide (fr ≤ xD w 6 q ∧ xD w 6 q ≤ to) && !decide (fs_he (xD w) nt nx ng lo q ≤ 0)) i + 1 := fp_cnt_1 (fx_dt (And.intro c54a c54b) c81)
              · first | refine fn_iinc h [_, _, _, _, _, _, _, _] rfl rfl rfl rfl rfl ?_ | refine fw_iinc h 1 [_, _, _, _, _, _, _, _] rfl (by decide) rfl rfl rfl rfl ?_
                first | refine fn_iinc h [_, _, _, _, _, _, _, _] rfl rfl rfl rfl rfl ?_ | refine fw_iinc h 1 [_, _, _, _, _, _, _, _] rfl (by decide) rfl rfl rfl rfl ?_
                refine fw_goto h rfl ?_
                refine fw_sub (fb_pad_c (Or.inr rfl) (fb_pad_c (Or.inr rfl) (fb_pad_c (Or.inr rfl) (fb_pad_c (Or.inr rfl) (fb_pad_c (Or.inr rfl) (fb_pad_c (Or.inr rfl) (fb_pad_c (Or.inr rfl) (fb_pad_c (Or.inl rfl) (fb_pad_n))))))))) ?_
                rw [en, es] at ih
                exact ih w2 hs2
          · refine fw_if_ne h rfl (fun c => absurd c (by decide)) (fun _ => ?_)
            have es : fp_sum (fun q => if (fr ≤ xD w 6 q ∧ xD w 6 q ≤ to) then fs_he (xD w) nt nx ng lo q else nI 0) (i + 1) = fp_sum (fun q => if (fr ≤ xD w 6 q ∧ xD w 6 q ≤ to) then fs_he (xD w) nt nx ng lo q else nI 0) i := fp_sum_z (if_neg c54)
            have en : fp_cnt (fun q => decide (fr ≤ xD w 6 q ∧ xD w 6 q ≤ to) && !decide (fs_he (xD w) nt nx ng lo q ≤ 0)) (i + 1) = fp_cnt (fun q => decide (fr ≤ xD w 6 q ∧ xD w 6 q ≤ to) && !decide (fs_he (xD w) nt nx ng lo q ≤ 0)) i + 0 := fp_cnt_0 (fx_df1 c54)
            · refine fw_goto h rfl ?_
              first | refine fn_iinc h [_, _, _, _, _, _, _, _] rfl rfl rfl rfl rfl ?_ | refine fw_iinc h 1 [_, _, _, _, _, _, _, _] rfl (by decide) rfl rfl rfl rfl ?_
              refine fw_goto h rfl ?_
              rw [en, es] at ih
              exact ih w1 hs
      · refine fw_if_ne h rfl (fun c => absurd c (by decide)) (fun _ => ?_)
        refine fw_iconst h (-1) rfl (by decide) ?_
        exact fw_iret h rfl rfl ⟨_, rfl, hb (fun z => by first | exact c17 z.2 | exact z.1.elim c3 c12)⟩
theorem c_X7_otherwise {l : Launch} {w : fb_Wd} {P : Int32 → fb_Wd → Prop} {nt nd nx ng : Nat} (hX : XI w nt nd nx ng) (hx : fd_X (xD w) nx) {r z f : Int32} (hb : ¬ (0 ≤ r ∧ r ≤ 3 ∧ 0 ≤ f ∧ f ≤ 1023) → P (-1) w) (hg : ∀ q, q ≤ 3 → r = nI q → 0 ≤ r → r ≤ 3 → 0 ≤ f → f ≤ 1023 → ∀ w', xSL [6, 7, 8, 41, 42, 43, 44, 45] w w' → P (fp_bits (fp_mk (fs_ot (xD w) nt nx (nI q) z f) nd) 20) (fb_up w' 0 10 (fp_mk (fs_ot (xD w) nt nx (nI q) z f) nd))) : fb_Can l tX7_otherwise [.ref 0, .int r, .int z, .int f] w (fb_kI P) := by
  refine fb_intro 2 fk_t_X7_otherwise (by decide) rfl (fun X hX h => ?_)
  subst hX
  change fb_AW tX7_otherwise X 0 [some (.ref 0), some (.int r), some (.int z), some (.int f), none, none] [] w
  refine fw_iload_n h rfl rfl ?_
  refine fw_iload_n h rfl rfl ?_
  refine fw_s2I h rfl fk_s_X7_isLaw fk_l_X7_220 rfl rfl ?_
  refine c_X7_isLaw (fun c2a c2b c2c c2d => ?_) (fun c2 => ?_)
  · refine fw_if_ne h rfl (fun _ => ?_) (fun c => absurd c (by decide))
    have hnd := hX.1.2.1.2
    obtain ⟨q, hq3, eq⟩ := nI_ofle (n := 3) c2a c2b (by decide)
    subst eq
    refine fw_iconst h (nI 0) rfl (by decide) ?_
    refine fw_istore h [_, _, _, _, _, _] rfl rfl rfl rfl ?_
    refine fw_iconst h (nI 0) rfl (by decide) ?_
    refine fw_istore h [_, _, _, _, _, _] rfl rfl rfl rfl ?_
    refine (?_ : ∀ w1, xSL [6, 7, 8, 41, 42, 43, 44, 45] w w1 → fb_AW tX7_otherwise X 16 [some (.ref 0), some (.int (nI q)), some (.int z), some (.int f), some (.int (fp_mk (fs_ot (xD w) nt nx (nI q) z f) 0)), some (.int (nI 0))] [] w1) w (xSL.rf _ w)
    refine fb_loop (fun i => ∀ w1, xSL [6, 7, 8, 41, 42, 43, 44, 45] w w1 → fb_AW tX7_otherwise X 16 [some (.ref 0), some (.int (nI q)), some (.int z), some (.int f), some (.int (fp_mk (fs_ot (xD w) nt nx (nI q) z f) i)), some (.int (nI i))] [] w1) (nd) ?_ (fun i hi ih => ?_) 0 (Nat.zero_le _)
    · intro w1 hs
      have eD : xD w1 = xD w := hs.eD (by decide)
      have hX1 := hs.keep (by decide) hX
      refine fw_iload h rfl rfl ?_
      refine fw_aload_n h rfl rfl ?_
      refine fw_getR _ h rfl fk_g_X7_26 rfl rfl ?_
      refine fw_getIv (nI nd) h rfl fk_g_X7_150 rfl rfl (hX1.1.2.1.1) ?_
      refine fw_icmp_ge h rfl (fun c25 => ?_) (fun c25 => False.elim (c25 (Int32.le_refl _)))
      refine fw_aload_n h rfl rfl ?_
      refine fw_iload h rfl rfl ?_
      refine fw_v1I h rfl fk_v_X7_tellSet fk_l_X7_214 rfl rfl rfl rfl ?_
      refine c_X7_tellSet (fp_lt_le (fp_mk_lt _ (by omega)) (by omega)) ?_
      exact fw_iret h rfl rfl ⟨_, rfl, hg q hq3 rfl c2a c2b c2c c2d w1 hs⟩
    · intro w1 hs
      have eD : xD w1 = xD w := hs.eD (by decide)
      have hX1 := hs.keep (by decide) hX
      refine fw_iload h rfl rfl ?_
      refine fw_aload_n h rfl rfl ?_
      refine fw_getR _ h rfl fk_g_X7_26 rfl rfl ?_
      refine fw_getIv (nI nd) h rfl fk_g_X7_150 rfl rfl (hX1.1.2.1.1) ?_
      refine fw_icmp_ge h rfl (fun c25 => False.elim (nI_ge hi (by omega) c25)) (fun c25 => ?_)
      refine fw_aload_n h rfl rfl ?_
      refine fw_iload h rfl rfl ?_
      refine fw_iload_n h rfl rfl ?_
      refine fw_iload_n h rfl rfl ?_
      refine fw_iload_n h rfl rfl ?_
      refine fw_v4V h rfl fk_v_X7_ruleBoth fk_l_X7_345 rfl rfl rfl rfl ?_
      refine c_X7_ruleBothS hX hx hs hi hq3 (fun w2 hb2 => ?_)
      refine fw_aload_n h rfl rfl ?_
      refine fw_getR _ h rfl fk_g_X7_58 rfl rfl ?_
      refine fw_v0I h rfl fk_v_X4_dueSet fk_l_X7_321 rfl rfl rfl rfl ?_
      refine c_X4_dueSet_n hb2.2.1.1 hb2.2.1.2 ?_
      rw [hb2.2.2.1]
      refine fw_aload_n h rfl rfl ?_
      refine fw_getR _ h rfl fk_g_X7_62 rfl rfl ?_
      refine fw_v0I h rfl fk_v_X4_dueSet fk_l_X7_321 rfl rfl rfl rfl ?_
      refine c_X4_dueSet_c hb2.2.2.2.1.1 hb2.2.2.2.1.2 ?_
      rw [hb2.2.2.2.2]
      refine fw_icmp_eq h rfl (fun c51 => ?_) (fun c51 => ?_)
      · first | refine fn_iinc h [_, _, _, _, _, _] rfl rfl rfl rfl rfl ?_ | refine fw_iinc h 1 [_, _, _, _, _, _] rfl (by decide) rfl rfl rfl rfl ?_
        refine fw_goto h rfl ?_
        have en : fp_mk (fs_ot (xD w) nt nx (nI q) z f) (i + 1) = fp_mk (fs_ot (xD w) nt nx (nI q) z f) i := fp_mk_s0 (decide_eq_false (fun z2 => z2 c51.symm))
        rw [en] at ih
        exact ih w2 hb2.1
      · skip
        · refine fw_iload h rfl rfl ?_
          refine fw_iconst h (nI 1) rfl (by decide) ?_
          refine fw_iload h rfl rfl ?_
          refine fw_ishl h rfl ?_
          refine fw_ior h rfl ?_
          refine fw_istore h [_, _, _, _, _, _] rfl rfl rfl rfl ?_
          first | refine fn_iinc h [_, _, _, _, _, _] rfl rfl rfl rfl rfl ?_ | refine fw_iinc h 1 [_, _, _, _, _, _] rfl (by decide) rfl rfl rfl rfl ?_
          refine fw_goto h rfl ?_
          have en : fp_mk (fs_ot (xD w) nt nx (nI q) z f) (i + 1) = fp_mk (fs_ot (xD w) nt nx (nI q) z f) i ||| nI 1 <<< (nI i &&& 31) := fp_mk_s1 (decide_eq_true (fun z2 => c51 z2.symm))
          rw [en] at ih
          exact ih w2 hb2.1
  · refine fw_if_ne h rfl (fun c => absurd c (by decide)) (fun _ => ?_)
    refine fw_iconst h (-1) rfl (by decide) ?_
    exact fw_iret h rfl rfl ⟨_, rfl, hb c2⟩
theorem c_X7_freed {l : Launch} {w : fb_Wd} {P : Int32 → fb_Wd → Prop} {nt nd nx ng : Nat} (hX : XI w nt nd nx ng) (hx : fd_X (xD w) nx) {r z f : Int32} (hb : ¬ (0 ≤ r ∧ r ≤ 3 ∧ 0 ≤ f ∧ f ≤ 1023) → P (-1) w) (hg : ∀ q, q ≤ 3 → r = nI q → 0 ≤ r → r ≤ 3 → 0 ≤ f → f ≤ 1023 → ∀ w', xSL [6, 7, 8, 41, 42, 43, 44, 45] w w' → P (fp_bits (fp_mk (fs_fr (xD w) nt nx (nI q) z f) nd) 20) (fb_up w' 0 10 (fp_mk (fs_fr (xD w) nt nx (nI q) z f) nd))) : fb_Can l tX7_freed [.ref 0, .int r, .int z, .int f] w (fb_kI P) := by
  refine fb_intro 2 fk_t_X7_freed (by decide) rfl (fun X hX h => ?_)
  subst hX
  change fb_AW tX7_freed X 0 [some (.ref 0), some (.int r), some (.int z), some (.int f), none, none] [] w
  refine fw_iload_n h rfl rfl ?_
  refine fw_iload_n h rfl rfl ?_
  refine fw_s2I h rfl fk_s_X7_isLaw fk_l_X7_220 rfl rfl ?_
  refine c_X7_isLaw (fun c2a c2b c2c c2d => ?_) (fun c2 => ?_)
  · refine fw_if_ne h rfl (fun _ => ?_) (fun c => absurd c (by decide))
    have hnd := hX.1.2.1.2
    obtain ⟨q, hq3, eq⟩ := nI_ofle (n := 3) c2a c2b (by decide)
    subst eq
    refine fw_iconst h (nI 0) rfl (by decide) ?_
    refine fw_istore h [_, _, _, _, _, _] rfl rfl rfl rfl ?_
    refine fw_iconst h (nI 0) rfl (by decide) ?_
    refine fw_istore h [_, _, _, _, _, _] rfl rfl rfl rfl ?_
    refine (?_ : ∀ w1, xSL [6, 7, 8, 41, 42, 43, 44, 45] w w1 → fb_AW tX7_freed X 16 [some (.ref 0), some (.int (nI q)), some (.int z), some (.int f), some (.int (fp_mk (fs_fr (xD w) nt nx (nI q) z f) 0)), some (.int (nI 0))] [] w1) w (xSL.rf _ w)
    refine fb_loop (fun i => ∀ w1, xSL [6, 7, 8, 41, 42, 43, 44, 45] w w1 → fb_AW tX7_freed X 16 [some (.ref 0), some (.int (nI q)), some (.int z), some (.int f), some (.int (fp_mk (fs_fr (xD w) nt nx (nI q) z f) i)), some (.int (nI i))] [] w1) (nd) ?_ (fun i hi ih => ?_) 0 (Nat.zero_le _)
    · intro w1 hs
      have eD : xD w1 = xD w := hs.eD (by decide)
      have hX1 := hs.keep (by decide) hX
      refine fw_iload h rfl rfl ?_
      refine fw_aload_n h rfl rfl ?_
      refine fw_getR _ h rfl fk_g_X7_26 rfl rfl ?_
      refine fw_getIv (nI nd) h rfl fk_g_X7_150 rfl rfl (hX1.1.2.1.1) ?_
      refine fw_icmp_ge h rfl (fun c25 => ?_) (fun c25 => False.elim (c25 (Int32.le_refl _)))
      refine fw_aload_n h rfl rfl ?_
      refine fw_iload h rfl rfl ?_
      refine fw_v1I h rfl fk_v_X7_tellSet fk_l_X7_214 rfl rfl rfl rfl ?_
      refine c_X7_tellSet (fp_lt_le (fp_mk_lt _ (by omega)) (by omega)) ?_
      exact fw_iret h rfl rfl ⟨_, rfl, hg q hq3 rfl c2a c2b c2c c2d w1 hs⟩
    · intro w1 hs
      have eD : xD w1 = xD w := hs.eD (by decide)
      have hX1 := hs.keep (by decide) hX
      refine fw_iload h rfl rfl ?_
      refine fw_aload_n h rfl rfl ?_
      refine fw_getR _ h rfl fk_g_X7_26 rfl rfl ?_
      refine fw_getIv (nI nd) h rfl fk_g_X7_150 rfl rfl (hX1.1.2.1.1) ?_
      refine fw_icmp_ge h rfl (fun c25 => False.elim (nI_ge hi (by omega) c25)) (fun c25 => ?_)
      refine fw_aload_n h rfl rfl ?_
      refine fw_iload h rfl rfl ?_
      refine fw_iload_n h rfl rfl ?_
      refine fw_iload_n h rfl rfl ?_
      refine fw_iload_n h rfl rfl ?_
      refine fw_v4V h rfl fk_v_X7_ruleBoth fk_l_X7_345 rfl rfl rfl rfl ?_
      refine c_X7_ruleBothS hX hx hs hi hq3 (fun w2 hb2 => ?_)
      refine fw_aload_n h rfl rfl ?_
      refine fw_getR _ h rfl fk_g_X7_58 rfl rfl ?_
      refine fw_v0I h rfl fk_v_X4_dueSet fk_l_X7_321 rfl rfl rfl rfl ?_
      refine c_X4_dueSet_n hb2.2.1.1 hb2.2.1.2 ?_
      rw [hb2.2.2.1]
      refine fw_if_eq h rfl (fun c44 => ?_) (fun c44 => ?_)
      · first | refine fn_iinc h [_, _, _, _, _, _] rfl rfl rfl rfl rfl ?_ | refine fw_iinc h 1 [_, _, _, _, _, _] rfl (by decide) rfl rfl rfl rfl ?_
        refine fw_goto h rfl ?_
        have en : fp_mk (fs_fr (xD w) nt nx (nI q) z f) (i + 1) = fp_mk (fs_fr (xD w) nt nx (nI q) z f) i := fp_mk_s0 (decide_eq_false (by first | exact (fun z2 => z2.1 c44) | exact (fun z2 => c54 z2.2)))
        rw [en] at ih
        exact ih w2 hb2.1
      · refine fw_aload_n h rfl rfl ?_
        refine fw_getR _ h rfl fk_g_X7_62 rfl rfl ?_
        refine fw_v0I h rfl fk_v_X4_dueSet fk_l_X7_321 rfl rfl rfl rfl ?_
        refine c_X4_dueSet_c hb2.2.2.2.1.1 hb2.2.2.2.1.2 ?_
        rw [hb2.2.2.2.2]
        refine fw_if_ne h rfl (fun c54 => ?_) (fun c54 => ?_)
        · first | refine fn_iinc h [_, _, _, _, _, _] rfl rfl rfl rfl rfl ?_ | refine fw_iinc h 1 [_, _, _, _, _, _] rfl (by decide) rfl rfl rfl rfl ?_
          refine fw_goto h rfl ?_
          have en : fp_mk (fs_fr (xD w) nt nx (nI q) z f) (i + 1) = fp_mk (fs_fr (xD w) nt nx (nI q) z f) i := fp_mk_s0 (decide_eq_false (by first | exact (fun z2 => z2.1 c44) | exact (fun z2 => c54 z2.2)))
          rw [en] at ih
          exact ih w2 hb2.1
        · skip
          · refine fw_iload h rfl rfl ?_
            refine fw_iconst h (nI 1) rfl (by decide) ?_
            refine fw_iload h rfl rfl ?_
            refine fw_ishl h rfl ?_
            refine fw_ior h rfl ?_
            refine fw_istore h [_, _, _, _, _, _] rfl rfl rfl rfl ?_
            first | refine fn_iinc h [_, _, _, _, _, _] rfl rfl rfl rfl rfl ?_ | refine fw_iinc h 1 [_, _, _, _, _, _] rfl (by decide) rfl rfl rfl rfl ?_
            refine fw_goto h rfl ?_
            have en : fp_mk (fs_fr (xD w) nt nx (nI q) z f) (i + 1) = fp_mk (fs_fr (xD w) nt nx (nI q) z f) i ||| nI 1 <<< (nI i &&& 31) := fp_mk_s1 (decide_eq_true (And.intro c44 c54))
            rw [en] at ih
            exact ih w2 hb2.1
  · refine fw_if_ne h rfl (fun c => absurd c (by decide)) (fun _ => ?_)
    refine fw_iconst h (-1) rfl (by decide) ?_
    exact fw_iret h rfl rfl ⟨_, rfl, hb c2⟩
theorem fx_1s : ∀ s, s < 10 → ∀ k, k < 10 → bt (nI 1 <<< (nI s &&& 31)) k = decide (k = s) := by decide +kernel
theorem fx_vs_eq {w : fb_Wd} {nt : Nat} (hD : fd_T (xD w) nt) (hn : nt ≤ 20) (hT : xT w nt) {so so2 : Int32} (h : (so = nI 10 ∧ so2 = nI 1023) ∨ (∃ q, q < 10 ∧ so = nI q ∧ so2 = nI 1 <<< (nI q &&& 31))) (s : Int32) : fx_pv (w.1 19) (s &&& fx_os (w.1 13) so2 nt) nt = fs_vs (xD w) nt so s := fp_sum_cg (fun i hi => by
  show (if bt (s &&& fx_os (w.1 13) so2 nt) i = true then w.1 19 i else nI 0) = (if bt s i = true ∧ (so = nI 10 ∨ xD w 1 i = so) then fp_price (xD w 3) (xD w 2) nt i else nI 0)
  rw [hT.2.2.1 i hi, b_and, fx_os_bt (by omega) (by omega), decide_eq_true hi, Bool.true_and]
  obtain ⟨k, hk, ek⟩ := (hD i hi).2.1
  have ek2 : w.1 13 i = nI k := ek
  rw [ek2, nI_clamp (by omega), ek]
  have hiff : (bt s i && bt so2 k) = true ↔ bt s i = true ∧ (so = nI 10 ∨ nI k = so) := by
    rw [Bool.and_eq_true]
    rcases h with ⟨e1, e2⟩ | ⟨q, hq, e1, e2⟩
    · rw [e2, fx_1023 k hk]
      exact ⟨fun z => ⟨z.1, Or.inl e1⟩, fun z => ⟨z.1, rfl⟩⟩
    · rw [e2, fx_1s q hq k hk, decide_eq_true_eq]
      constructor
      · rintro ⟨z1, rfl⟩
        exact ⟨z1, Or.inr e1.symm⟩
      · rintro ⟨z1, z2⟩
        refine ⟨z1, ?_⟩
        rcases z2 with z2 | z2
        · rw [e1] at z2
          have := (nI_eq (by omega) (by decide)).mp z2
          omega
        · rw [e1] at z2
          exact (nI_eq (by omega) (by omega)).mp z2
  by_cases hc : (bt s i && bt so2 k) = true
  · rw [if_pos hc, if_pos (hiff.mp hc)]; rfl
  · rw [if_neg hc, if_neg (fun z => hc (hiff.mpr z))])
theorem fp_sum_d2 {g h : Nat → Int32} {i : Nat} : fp_sum (fun q => g q - h q) i + (g i - h i) = fp_sum (fun q => g q - h q) (i + 1) := rfl
theorem lp_shift {X : fb_Cx} {w : fb_Wd} {P : Int32 → fb_Wd → Prop} {q nt nd nx ng : Nat} {z f so so2 : Int32} (hX : XI w nt nd nx ng) (hx : fd_X (xD w) nx) (hq3 : q ≤ 3) (hso : (so = nI 10 ∧ so2 = nI 1023) ∨ (∃ q, q < 10 ∧ so = nI q ∧ so2 = nI 1 <<< (nI q &&& 31))) (h : fb_Ok tX7_shift X (fb_kI P)) (hp : ∀ w', xSL [6, 7, 8, 41, 42, 43, 44, 45] w w' → P 1 (fb_up w' 0 10 (fp_sum (fun j => fs_vs (xD w) nt so (fs_cs (xD w) nt j (nI q) z f) - fs_vs (xD w) nt so (fs_ds (xD w) nt nx j)) nd))) : fb_AW tX7_shift X 53 [some (.ref 0), some (.int (nI q)), some (.int z), some (.int f), some (.int so), some (.int (fx_os (w.1 13) so2 nt)), some (.int (nI 0)), some (.int (nI 0))] [] w := by
  have hnd := hX.1.2.1.2
  refine (?_ : ∀ w1, xSL [6, 7, 8, 41, 42, 43, 44, 45] w w1 → fb_AW tX7_shift X 53 [some (.ref 0), some (.int (nI q)), some (.int z), some (.int f), some (.int so), some (.int (fx_os (w.1 13) so2 nt)), some (.int (fp_sum (fun j => fs_vs (xD w) nt so (fs_cs (xD w) nt j (nI q) z f) - fs_vs (xD w) nt so (fs_ds (xD w) nt nx j)) 0)), some (.int (nI 0))] [] w1) w (xSL.rf _ w)
  refine fb_loop (fun i => ∀ w1, xSL [6, 7, 8, 41, 42, 43, 44, 45] w w1 → fb_AW tX7_shift X 53 [some (.ref 0), some (.int (nI q)), some (.int z), some (.int f), some (.int so), some (.int (fx_os (w.1 13) so2 nt)), some (.int (fp_sum (fun j => fs_vs (xD w) nt so (fs_cs (xD w) nt j (nI q) z f) - fs_vs (xD w) nt so (fs_ds (xD w) nt nx j)) i)), some (.int (nI i))] [] w1) (nd) ?_ (fun i hi ih => ?_) 0 (Nat.zero_le _)
  · intro w1 hs
    have eD : xD w1 = xD w := hs.eD (by decide)
    have hX1 := hs.keep (by decide) hX
    refine fw_iload h rfl rfl ?_
    refine fw_aload_n h rfl rfl ?_
    refine fw_getR _ h rfl fk_g_X7_26 rfl rfl ?_
    refine fw_getIv (nI nd) h rfl fk_g_X7_150 rfl rfl (hX1.1.2.1.1) ?_
    refine fw_icmp_ge h rfl (fun c62 => ?_) (fun c62 => False.elim (c62 (Int32.le_refl _)))
    refine fw_aload_n h rfl rfl ?_
    refine fw_iload h rfl rfl ?_
    refine fw_iconst h (nI 1) rfl (by decide) ?_
    refine fw_v2I h rfl fk_v_X7_tell fk_l_X7_111 rfl rfl rfl rfl ?_
    refine c_X7_tell ?_
    exact fw_iret h rfl rfl ⟨_, rfl, hp w1 hs⟩
  · intro w1 hs
    have eD : xD w1 = xD w := hs.eD (by decide)
    have hX1 := hs.keep (by decide) hX
    refine fw_iload h rfl rfl ?_
    refine fw_aload_n h rfl rfl ?_
    refine fw_getR _ h rfl fk_g_X7_26 rfl rfl ?_
    refine fw_getIv (nI nd) h rfl fk_g_X7_150 rfl rfl (hX1.1.2.1.1) ?_
    refine fw_icmp_ge h rfl (fun c62 => False.elim (nI_ge hi (by omega) c62)) (fun c62 => ?_)
    refine fw_aload_n h rfl rfl ?_
    refine fw_iload h rfl rfl ?_
    refine fw_iload_n h rfl rfl ?_
    refine fw_iload_n h rfl rfl ?_
    refine fw_iload_n h rfl rfl ?_
    refine fw_v4V h rfl fk_v_X7_ruleBoth fk_l_X7_345 rfl rfl rfl rfl ?_
    refine c_X7_ruleBothS hX hx hs hi hq3 (fun w2 hb2 => ?_)
    have hX2 := hb2.1.keep (by decide) hX
    have eD2 : xD w2 = xD w := hb2.1.eD (by decide)
    have e13 : w2.1 13 = w.1 13 := hb2.1.1 13 (by decide)
    refine fw_iload h rfl rfl ?_
    refine fw_aload_n h rfl rfl ?_
    refine fw_getR _ h rfl fk_g_X7_19 rfl rfl ?_
    refine fw_aload_n h rfl rfl ?_
    refine fw_getR _ h rfl fk_g_X7_62 rfl rfl ?_
    refine fw_v0I h rfl fk_v_X4_dueSet fk_l_X7_321 rfl rfl rfl rfl ?_
    refine c_X4_dueSet_c hb2.2.2.2.1.1 hb2.2.2.2.1.2 ?_
    rw [hb2.2.2.2.2]
    refine fw_iload h rfl rfl ?_
    refine fw_iand h rfl ?_
    refine fw_v1I h rfl fk_v_X6_priceOf fk_l_X7_253 rfl rfl rfl rfl ?_
    refine c_X6_priceOf hX2.1.1.1 hX2.1.1.2 ?_
    rw [← e13, fx_vs_eq hX2.2.1 hX.1.1.2 hX2.2.2.2.1 hso, eD2]
    refine fw_aload_n h rfl rfl ?_
    refine fw_getR _ h rfl fk_g_X7_19 rfl rfl ?_
    refine fw_aload_n h rfl rfl ?_
    refine fw_getR _ h rfl fk_g_X7_58 rfl rfl ?_
    refine fw_v0I h rfl fk_v_X4_dueSet fk_l_X7_321 rfl rfl rfl rfl ?_
    refine c_X4_dueSet_n hb2.2.1.1 hb2.2.1.2 ?_
    rw [hb2.2.2.1]
    refine fw_iload h rfl rfl ?_
    refine fw_iand h rfl ?_
    refine fw_v1I h rfl fk_v_X6_priceOf fk_l_X7_253 rfl rfl rfl rfl ?_
    refine c_X6_priceOf hX2.1.1.1 hX2.1.1.2 ?_
    rw [fx_vs_eq hX2.2.1 hX.1.1.2 hX2.2.2.2.1 hso, eD2]
    refine fw_isub h rfl ?_
    first | refine fn_iadd h rfl ?_ | refine fw_iadd h rfl ?_
    refine fw_istore h [_, _, _, _, _, _, _, _] rfl rfl rfl rfl ?_
    first | refine fn_iinc h [_, _, _, _, _, _, _, _] rfl rfl rfl rfl rfl ?_ | refine fw_iinc h 1 [_, _, _, _, _, _, _, _] rfl (by decide) rfl rfl rfl rfl ?_
    refine fw_goto h rfl ?_
    rw [e13]
    exact ih w2 hb2.1
theorem c_X7_shift {l : Launch} {w : fb_Wd} {P : Int32 → fb_Wd → Prop} {nt nd nx ng : Nat} (hX : XI w nt nd nx ng) (hx : fd_X (xD w) nx) {r z f so : Int32} (hb : ¬ ((0 ≤ r ∧ r ≤ 3 ∧ 0 ≤ f ∧ f ≤ 1023) ∧ (0 ≤ so ∧ so ≤ 10)) → P (-1) w) (hg : ∀ q, q ≤ 3 → r = nI q → 0 ≤ r → r ≤ 3 → 0 ≤ f → f ≤ 1023 → 0 ≤ so → so ≤ 10 → ∀ w', xSL [6, 7, 8, 41, 42, 43, 44, 45] w w' → P 1 (fb_up w' 0 10 (fp_sum (fun j => fs_vs (xD w) nt so (fs_cs (xD w) nt j (nI q) z f) - fs_vs (xD w) nt so (fs_ds (xD w) nt nx j)) nd))) : fb_Can l tX7_shift [.ref 0, .int r, .int z, .int f, .int so] w (fb_kI P) := by
  refine fb_intro 3 fk_t_X7_shift (by decide) rfl (fun X hX h => ?_)
  subst hX
  change fb_AW tX7_shift X 0 [some (.ref 0), some (.int r), some (.int z), some (.int f), some (.int so), none, none, none] [] w
  refine fw_iload_n h rfl rfl ?_
  refine fw_iload_n h rfl rfl ?_
  refine fw_s2I h rfl fk_s_X7_isLaw fk_l_X7_220 rfl rfl ?_
  refine c_X7_isLaw (fun c2a c2b c2c c2d => ?_) (fun c2 => ?_)
  · refine fw_if_eq h rfl (fun c => absurd c (by decide)) (fun _ => ?_)
    refine fw_iload h rfl rfl ?_
    refine fw_iconst h (nI 0) rfl (by decide) ?_
    refine fw_bipush h (nI 10) rfl (by decide) ?_
    refine fw_s3I h rfl fk_s_X7_isBetween fk_l_X7_122 rfl rfl ?_
    refine c_X7_isBetween (fun c13a c13b => ?_) (fun c13 => ?_)
    · refine fw_if_ne h rfl (fun _ => ?_) (fun c => absurd c (by decide))
      have hnd := hX.1.2.1.2
      obtain ⟨q, hq3, eq⟩ := nI_ofle (n := 3) c2a c2b (by decide)
      subst eq
      obtain ⟨u, hu, eu⟩ := nI_ofle (n := 10) c13a c13b (by decide)
      refine fw_aload_n h rfl rfl ?_
      refine fw_getR _ h rfl fk_g_X7_19 rfl rfl ?_
      refine fw_iload h rfl rfl ?_
      refine fw_bipush h (nI 10) rfl (by decide) ?_
      refine fw_icmp_ne h rfl (fun c29 => ?_) (fun c29 => ?_)
      · skip
        · refine fw_iconst h (nI 1) rfl (by decide) ?_
          refine fw_iload h rfl rfl ?_
          refine fw_ishl h rfl ?_
          refine fw_v1I h rfl fk_v_X6_ofSorts fk_l_X7_234 rfl rfl rfl rfl ?_
          refine c_X6_ofSorts hX.1.1.1 hX.1.1.2 (fun t ht => (hX.2.1 t ht).2.1) ?_
          refine fw_istore h [_, _, _, _, _, _, _, _] rfl rfl rfl rfl ?_
          refine fw_iconst h (nI 0) rfl (by decide) ?_
          refine fw_istore h [_, _, _, _, _, _, _, _] rfl rfl rfl rfl ?_
          refine fw_iconst h (nI 0) rfl (by decide) ?_
          refine fw_istore h [_, _, _, _, _, _, _, _] rfl rfl rfl rfl ?_
          have hso : (so = nI 10 ∧ nI 1 <<< (so &&& 31) = nI 1023) ∨ (∃ q, q < 10 ∧ so = nI q ∧ nI 1 <<< (so &&& 31) = nI 1 <<< (nI q &&& 31)) := Or.inr ⟨u, by
            rcases Nat.eq_or_lt_of_le hu with e | e
            · exact absurd (by rw [eu, e]) c29
            · exact e, eu, by rw [eu]⟩
          exact lp_shift hX hx hq3 hso h (fun w1 hs => hg q hq3 rfl c2a c2b c2c c2d c13a c13b w1 hs)
      · skip
        · refine fw_sipush h (nI 1023) rfl (by decide) ?_
          refine fw_goto h rfl ?_
          refine fw_v1I h rfl fk_v_X6_ofSorts fk_l_X7_234 rfl rfl rfl rfl ?_
          refine c_X6_ofSorts hX.1.1.1 hX.1.1.2 (fun t ht => (hX.2.1 t ht).2.1) ?_
          refine fw_istore h [_, _, _, _, _, _, _, _] rfl rfl rfl rfl ?_
          refine fw_iconst h (nI 0) rfl (by decide) ?_
          refine fw_istore h [_, _, _, _, _, _, _, _] rfl rfl rfl rfl ?_
          refine fw_iconst h (nI 0) rfl (by decide) ?_
          refine fw_istore h [_, _, _, _, _, _, _, _] rfl rfl rfl rfl ?_
          have hso : (so = nI 10 ∧ nI 1023 = nI 1023) ∨ (∃ q, q < 10 ∧ so = nI q ∧ nI 1023 = nI 1 <<< (nI q &&& 31)) := Or.inl ⟨c29, rfl⟩
          exact lp_shift hX hx hq3 hso h (fun w1 hs => hg q hq3 rfl c2a c2b c2c c2d c13a c13b w1 hs)
    · refine fw_if_ne h rfl (fun c => absurd c (by decide)) (fun _ => ?_)
      refine fw_iconst h (-1) rfl (by decide) ?_
      exact fw_iret h rfl rfl ⟨_, rfl, hb (fun z => by first | exact c2 z.1 | exact c13 z.2)⟩
  · refine fw_if_eq h rfl (fun _ => ?_) (fun c => absurd c (by decide))
    refine fw_iconst h (-1) rfl (by decide) ?_
    exact fw_iret h rfl rfl ⟨_, rfl, hb (fun z => by first | exact c2 z.1 | exact c13 z.2)⟩
