theorem fx_of32 (x : Int32) : ∃ n, n < 2 ^ 32 ∧ x = nI n := ⟨x.toBitVec.toNat, x.toBitVec.isLt, Int32.toBitVec_inj.mp (by show _ = BitVec.ofNat 32 _; simp)⟩
theorem fx_bt {n : Nat} {i : Nat} (hi : i < 32) : bt (nI n) i = n.testBit i := by
  show (BitVec.ofNat 32 n).getLsbD i = _
  rw [BitVec.getLsbD_ofNat, decide_eq_true hi]; rfl
theorem fx_m1 {n : Nat} (h : 0 < n) : nI n - nI 1 = nI (n - 1) := by
  obtain ⟨m, rfl⟩ : ∃ m, n = m + 1 := ⟨n - 1, by omega⟩
  have : nI (m + 1) = nI m + nI 1 := by
    apply Int32.toBitVec_inj.mp
    show BitVec.ofNat 32 (m + 1) = BitVec.ofNat 32 m + BitVec.ofNat 32 1
    rw [BitVec.ofNat_add]
  rw [this]
  simp
theorem fx_low {x : Int32} {k : Nat} (hk : k < 31) (h1 : bt x k = true) (h0 : ∀ i, i < k → bt x i = false) : (x ^^^ -1) &&& (x - nI 1) = nI (2 ^ k - 1) := by
  obtain ⟨n, hn, rfl⟩ := fx_of32 x
  rw [fx_bt (by omega)] at h1
  have h0 : ∀ i, i < k → n.testBit i = false := fun i hi => by rw [← fx_bt (by omega)]; exact h0 i hi
  have hz : n % 2 ^ k = 0 := by
    apply Nat.eq_of_testBit_eq
    intro i
    rw [Nat.testBit_mod_two_pow, Nat.zero_testBit]
    by_cases e : i < k
    · rw [h0 i e]; simp
    · simp [e]
  have ho : n / 2 ^ k % 2 = 1 := by
    rw [Nat.testBit_eq_decide_div_mod_eq] at h1
    exact of_decide_eq_true h1
  obtain ⟨q, hq⟩ : ∃ q, n / 2 ^ k = 2 * q + 1 := ⟨n / 2 ^ k / 2, by omega⟩
  have hp := Nat.two_pow_pos k
  have en : n = 2 ^ k * (2 * q + 1) := by
    have := Nat.div_add_mod n (2 ^ k)
    rw [hz, hq] at this
    omega
  have en1 : n - 1 = 2 ^ k * (2 * q) + (2 ^ k - 1) := by
    rw [en, Nat.mul_add]
    omega
  have hpos : 0 < n := by
    rw [en]
    exact Nat.mul_pos hp (by omega)
  rw [fx_m1 hpos]
  apply b_ext
  intro i hi
  rw [b_and, b_xor, b_m1 i hi, fx_bt hi, fx_bt hi, fx_bt hi, en1, Nat.testBit_two_pow_mul_add _ (by omega), Nat.testBit_two_pow_sub_one]
  by_cases e : i < k
  · rw [h0 i e, if_pos e]; simp [e]
  · rw [if_neg e, decide_eq_false e]
    have e2 : n.testBit i = (2 * q + 1).testBit (i - k) := by
      have := Nat.testBit_two_pow_mul_add (2 * q + 1) (i := k) (b := 0) hp i
      rw [Nat.add_zero, ← en, if_neg e] at this
      exact this
    rw [e2]
    cases hik : i - k with
    | zero => simp
    | succ j =>
      rw [Nat.testBit_succ, Nat.testBit_succ, show (2 * q + 1) / 2 = q by omega, show 2 * q / 2 = q by omega]
      cases q.testBit j <;> rfl
def fx_f1 (m x : Nat) : Nat := x - ((x / 2) &&& m)
def fx_f2 (m x : Nat) : Nat := (x &&& m) + ((x / 4) &&& m)
def fx_f3 (m x : Nat) : Nat := (x + x / 16) &&& m
theorem fx_and {a b c d : Nat} (hb : b < 256) (hd : d < 256) : (b + 256 * a) &&& (d + 256 * c) = (b &&& d) + 256 * (a &&& c) := by
  apply Nat.eq_of_testBit_eq
  intro i
  have e1 := Nat.testBit_two_pow_mul_add a (i := 8) (b := b) hb i
  have e2 := Nat.testBit_two_pow_mul_add c (i := 8) (b := d) hd i
  have e3 := Nat.testBit_two_pow_mul_add (a &&& c) (i := 8) (b := b &&& d) (Nat.and_lt_two_pow _ hd) i
  rw [Nat.testBit_and, show b + 256 * a = 2 ^ 8 * a + b by omega, show d + 256 * c = 2 ^ 8 * c + d by omega, show (b &&& d) + 256 * (a &&& c) = 2 ^ 8 * (a &&& c) + (b &&& d) by omega, e1, e2, e3]
  by_cases h : i < 8
  · rw [if_pos h, if_pos h, if_pos h, Nat.testBit_and]
  · rw [if_neg h, if_neg h, if_neg h, Nat.testBit_and]
theorem fx_mk {x m k : Nat} (hm : m < 2 ^ k) (a : Nat) : (x + 2 ^ k * a) &&& m = x &&& m := by
  apply Nat.eq_of_testBit_eq
  intro i
  rw [Nat.testBit_and, Nat.testBit_and]
  by_cases h : i < k
  · have : (x + 2 ^ k * a).testBit i = x.testBit i := by
      have h1 := Nat.testBit_mod_two_pow (x + 2 ^ k * a) k i
      have h2 := Nat.testBit_mod_two_pow x k i
      rw [Nat.add_mul_mod_self_left, decide_eq_true h, Bool.true_and] at h1
      rw [decide_eq_true h, Bool.true_and] at h2
      rw [← h1, h2]
    rw [this]
  · rw [Nat.testBit_lt_two_pow (Nat.lt_of_lt_of_le hm (Nat.pow_le_pow_right (by decide) (Nat.not_lt.mp h)))]
    simp
theorem fx_s1 {b c : Nat} (hb : b < 256) : fx_f1 (85 + 256 * 5592405) (b + 256 * c) = fx_f1 85 b + 256 * fx_f1 5592405 c := by
  unfold fx_f1
  have e : (b + 256 * c) / 2 = (b / 2 + 128 * (c % 2)) + 256 * (c / 2) := by omega
  rw [e, fx_and (by omega) (by decide), fx_mk (k := 7) (by decide)]
  have h1 : (b / 2) &&& 85 ≤ b / 2 := Nat.and_le_left
  have h2 : (c / 2) &&& 5592405 ≤ c / 2 := Nat.and_le_left
  omega
theorem fx_s2 {b c : Nat} (hb : b < 256) : fx_f2 (51 + 256 * 3355443) (b + 256 * c) = fx_f2 51 b + 256 * fx_f2 3355443 c := by
  unfold fx_f2
  have e : (b + 256 * c) / 4 = (b / 4 + 64 * (c % 4)) + 256 * (c / 4) := by omega
  rw [e, fx_and (b := b / 4 + 64 * (c % 4)) (a := c / 4) (by omega) (by decide), fx_and hb (by decide), fx_mk (k := 6) (by decide)]
  omega
theorem fx_s3 {b c : Nat} (hb : b < 100) (hc : c % 16 ≤ 4) : fx_f3 (15 + 256 * 986895) (b + 256 * c) = fx_f3 15 b + 256 * fx_f3 986895 c := by
  unfold fx_f3
  have e : (b + 256 * c) + (b + 256 * c) / 16 = (b + b / 16 + 16 * (c % 16)) + 256 * (c + c / 16) := by omega
  rw [e, fx_and (by omega) (by decide), fx_mk (k := 4) (by decide)]
theorem fx_cadd (p : Nat → Bool) (a : Nat) : ∀ n, fp_cnt p (a + n) = fp_cnt p a + fp_cnt (fun i => p (a + i)) n
  | 0 => rfl
  | n + 1 => by rw [← Nat.add_assoc, fp_cnt, fp_cnt, fx_cadd p a n]; omega
theorem fx_d1 : (List.range 256).all (fun b => decide (fx_f2 51 (fx_f1 85 b) < 100 ∧ fx_f3 15 (fx_f2 51 (fx_f1 85 b)) = fp_cnt b.testBit 8)) = true := by decide +kernel
theorem fx_d2 : (List.range 4096).all (fun c => decide (fx_f2 3355443 (fx_f1 5592405 c) % 16 ≤ 4 ∧ fx_f3 986895 (fx_f2 3355443 (fx_f1 5592405 c)) % 256 + fx_f3 986895 (fx_f2 3355443 (fx_f1 5592405 c)) / 256 = fp_cnt c.testBit 12 ∧ fx_f3 986895 (fx_f2 3355443 (fx_f1 5592405 c)) / 256 ≤ 4 ∧ fx_f3 986895 (fx_f2 3355443 (fx_f1 5592405 c)) % 256 ≤ 8)) = true := by decide +kernel
def fx_f4 (x : Nat) : Nat := (x + x / 256 + (x + x / 256) / 65536) % 64
def fx_pc (n : Nat) : Nat := fx_f4 (fx_f3 252645135 (fx_f2 858993459 (fx_f1 1431655765 n)))
theorem fx_pc_eq {n : Nat} (h : n < 2 ^ 20) : fx_pc n = fp_cnt n.testBit 20 := by
  obtain ⟨b, c, hb, hc, rfl⟩ : ∃ b c, b < 256 ∧ c < 4096 ∧ n = b + 256 * c := ⟨n % 256, n / 256, by omega, by omega, by omega⟩
  have h1 := of_decide_eq_true (List.all_eq_true.mp fx_d1 b (List.mem_range.mpr hb))
  have h2 := of_decide_eq_true (List.all_eq_true.mp fx_d2 c (List.mem_range.mpr hc))
  have ea : fx_f1 1431655765 (b + 256 * c) = fx_f1 85 b + 256 * fx_f1 5592405 c := fx_s1 hb
  have l1 : fx_f1 85 b < 256 := by
    have : fx_f1 85 b ≤ b := Nat.sub_le _ _
    omega
  have eb : fx_f2 858993459 (fx_f1 85 b + 256 * fx_f1 5592405 c) = fx_f2 51 (fx_f1 85 b) + 256 * fx_f2 3355443 (fx_f1 5592405 c) := fx_s2 l1
  have ec : fx_f3 252645135 (fx_f2 51 (fx_f1 85 b) + 256 * fx_f2 3355443 (fx_f1 5592405 c)) = fx_f3 15 (fx_f2 51 (fx_f1 85 b)) + 256 * fx_f3 986895 (fx_f2 3355443 (fx_f1 5592405 c)) := fx_s3 h1.1 h2.1
  have e8 : fp_cnt (b + 256 * c).testBit 20 = fp_cnt b.testBit 8 + fp_cnt c.testBit 12 := by
    rw [show 20 = 8 + 12 from rfl, fx_cadd]
    congr 1
    · apply fp_cnt_cg
      intro i hi
      have := Nat.testBit_two_pow_mul_add c (i := 8) (b := b) hb i
      rw [show b + 256 * c = 2 ^ 8 * c + b by omega, this, if_pos hi]
    · apply fp_cnt_cg
      intro i hi
      have := Nat.testBit_two_pow_mul_add c (i := 8) (b := b) hb (8 + i)
      rw [show b + 256 * c = 2 ^ 8 * c + b by omega, this, if_neg (by omega), show 8 + i - 8 = i by omega]
  have hb8 := fp_cnt_le b.testBit 8
  have hc12 := fp_cnt_le c.testBit 12
  unfold fx_pc
  rw [ea, eb, ec, e8, h1.2]
  generalize fx_f3 986895 (fx_f2 3355443 (fx_f1 5592405 c)) = v at h2
  generalize fp_cnt b.testBit 8 = s at *
  generalize fp_cnt c.testBit 12 = t at *
  obtain ⟨c0, c1, h0, h1', rfl⟩ : ∃ c0 c1, c0 ≤ 8 ∧ c1 ≤ 4 ∧ v = c0 + 256 * c1 := ⟨v % 256, v / 256, by omega, by omega, by omega⟩
  have et : t = c0 + c1 := by omega
  unfold fx_f4
  have e1 : (s + 256 * (c0 + 256 * c1)) / 256 = c0 + 256 * c1 := by omega
  have e2 : (s + 256 * (c0 + 256 * c1) + (c0 + 256 * c1)) / 65536 = c1 := by omega
  rw [e1, e2, show s + 256 * (c0 + 256 * c1) + (c0 + 256 * c1) + c1 = (s + t) + 64 * (4 * (c0 + 256 * c1) + 4 * c1) by omega, Nat.add_mul_mod_self_left, Nat.mod_eq_of_lt (by omega)]

theorem fx_an {a b : Nat} (ha : a < 2 ^ 32) (hb : b < 2 ^ 32) : nI a &&& nI b = nI (a &&& b) := by
  apply Int32.toBitVec_inj.mp
  apply BitVec.eq_of_toNat_eq
  rw [Int32.toBitVec_and, BitVec.toNat_and, pk_tn ha, pk_tn hb, pk_tn (Nat.and_lt_two_pow _ hb)]

theorem fp_bits_c (s : Int32) : ∀ n, n ≤ 32 → fp_bits s n = nI (fp_cnt (bt s) n)
  | 0, _ => rfl
  | n + 1, h => by
    rw [fp_bits, fp_cnt, fp_bits_c s n (by omega)]
    by_cases e : bt s n = true
    · rw [(fp_has (by omega)).mpr e, if_pos e, nI_1]
    · have e0 : bt s n = false := by cases hb : bt s n with
        | true => exact absurd hb e
        | false => rfl
      rw [if_neg e, Nat.add_zero]
      have : (s >>> (nI n &&& 31)) &&& 1 = 0 := by
        apply b_ext
        intro i hi
        rw [b_and, fp_one i hi, b_sshr n (by omega) s hi, b_0]
        by_cases z : i = 0
        · subst z
          rw [if_pos (by omega), Nat.add_zero, e0]; rfl
        · rw [decide_eq_false z]; simp
      rw [this, Int32.add_zero]
