def bt (x : Int32) (i : Nat) : Bool := x.toBitVec.getLsbD i
theorem b_ext {x y : Int32} (h : ∀ i, i < 32 → bt x i = bt y i) : x = y := Int32.toBitVec_inj.mp (BitVec.eq_of_getLsbD_eq (fun i hi => h i hi))
theorem b_or (x y : Int32) (i : Nat) : bt (x ||| y) i = (bt x i || bt y i) := by unfold bt; rw [Int32.toBitVec_or, BitVec.getLsbD_or]
theorem b_and (x y : Int32) (i : Nat) : bt (x &&& y) i = (bt x i && bt y i) := by unfold bt; rw [Int32.toBitVec_and, BitVec.getLsbD_and]
theorem b_xor (x y : Int32) (i : Nat) : bt (x ^^^ y) i = (bt x i ^^ bt y i) := by unfold bt; rw [Int32.toBitVec_xor, BitVec.getLsbD_xor]
theorem b_big {x : Int32} {i : Nat} (h : 32 ≤ i) : bt x i = false := BitVec.getLsbD_of_ge _ _ h
theorem b_255 (i : Nat) : bt 255 i = decide (i < 8) := by
  rcases Nat.lt_or_ge i 32 with h | h
  · exact (by decide +kernel : ∀ i, i < 32 → bt 255 i = decide (i < 8)) i h
  · rw [b_big h, decide_eq_false (by omega)]
theorem b_65535 (i : Nat) : bt 65535 i = decide (i < 16) := by
  rcases Nat.lt_or_ge i 32 with h | h
  · exact (by decide +kernel : ∀ i, i < 32 → bt 65535 i = decide (i < 16)) i h
  · rw [b_big h, decide_eq_false (by omega)]
theorem b_m1 : ∀ i, i < 32 → bt (-1) i = true := by decide +kernel
theorem b_0 (i : Nat) : bt 0 i = false := BitVec.getLsbD_zero
theorem s_l : ∀ n, n < 32 → ((nI n &&& 31).toBitVec.smod 32).toNat = n := by decide +kernel
theorem s_u : ∀ n, n < 32 → (((nI n).toUInt32 &&& Int32.toUInt32 31).toBitVec % 32).toNat = n := by decide +kernel
theorem b_shl (n : Nat) (hn : n < 32) (x : Int32) {i : Nat} (hi : i < 32) : bt (x <<< (nI n &&& 31)) i = (decide (n ≤ i) && bt x (i - n)) := by
  unfold bt
  rw [Int32.toBitVec_shiftLeft]
  show (x.toBitVec <<< ((nI n &&& 31).toBitVec.smod 32).toNat).getLsbD i = _
  rw [s_l n hn, BitVec.getLsbD_shiftLeft]
  rcases Nat.lt_or_ge i n with h | h
  · simp [h, Nat.not_le.mpr h]
  · simp [hi, h, Nat.not_lt.mpr h]
theorem b_ushr (n : Nat) (hn : n < 32) (x : Int32) (i : Nat) : bt ((x.toUInt32 >>> ((nI n).toUInt32 &&& Int32.toUInt32 31)).toInt32) i = bt x (n + i) := by
  show (x.toUInt32 >>> ((nI n).toUInt32 &&& Int32.toUInt32 31)).toBitVec.getLsbD i = x.toUInt32.toBitVec.getLsbD (n + i)
  rw [UInt32.toBitVec_shiftRight]
  show (x.toUInt32.toBitVec >>> (((nI n).toUInt32 &&& Int32.toUInt32 31).toBitVec % 32).toNat).getLsbD i = _
  rw [s_u n hn, BitVec.getLsbD_ushiftRight]
theorem b_sshr (n : Nat) (hn : n < 32) (x : Int32) {i : Nat} (hi : i < 32) : bt (x >>> (nI n &&& 31)) i = if n + i < 32 then bt x (n + i) else bt x 31 := by
  unfold bt
  rw [Int32.toBitVec_shiftRight]
  show (x.toBitVec.sshiftRight ((nI n &&& 31).toBitVec.smod 32).toNat).getLsbD i = _
  rw [s_l n hn, BitVec.getLsbD_sshiftRight, BitVec.msb_eq_getLsbD_last]
  simp [hi]
theorem fp_b1 : ∀ k, k < 32 → ∀ i, i < 32 → bt (nI 1 <<< (nI k &&& 31)) i = decide (i = k) := by decide +kernel
theorem fp_one : ∀ i, i < 32 → bt (1 : Int32) i = decide (i = 0) := by decide +kernel
theorem fp_has {s : Int32} {k : Nat} (hk : k < 32) : (s >>> (nI k &&& 31)) &&& 1 = 1 ↔ bt s k = true := by
  constructor
  · intro h
    have h1 := congrArg (fun x => bt x 0) h
    simp only [b_and] at h1
    rw [b_sshr k hk s (by decide), fp_one 0 (by decide)] at h1
    simp only [Nat.add_zero, if_pos hk] at h1
    simpa using h1
  · intro h
    apply b_ext
    intro i hi
    rw [b_and, fp_one i hi, b_sshr k hk s hi]
    by_cases e : i = 0
    · subst e
      simp [hk, h]
    · simp [e]
theorem fp_hasn {s : Int32} {k : Nat} (hk : k < 32) : ¬ (s >>> (nI k &&& 31)) &&& 1 = 1 ↔ bt s k = false := by
  rw [fp_has hk]
  cases bt s k <;> simp
theorem fp_pow : ∀ k, k < 31 → nI 1 <<< (nI k &&& 31) = nI (2 ^ k) := by decide +kernel
theorem fp_or1 {s : Int32} {k i : Nat} (hk : k < 32) (hi : i < 32) : bt (s ||| (nI 1 <<< (nI k &&& 31))) i = (bt s i || decide (i = k)) := by rw [b_or, fp_b1 k hk i hi]
def fp_lt (n : Nat) (s : Int32) : Prop := ∀ i, n ≤ i → i < 32 → bt s i = false
theorem fp_lt_0 (n : Nat) : fp_lt n 0 := fun i _ _ => b_0 i
theorem fp_lt_or {n : Nat} {a b : Int32} (ha : fp_lt n a) (hb : fp_lt n b) : fp_lt n (a ||| b) := fun i h1 h2 => by rw [b_or, ha i h1 h2, hb i h1 h2]; rfl
theorem fp_lt_and {n : Nat} {a : Int32} (b : Int32) (ha : fp_lt n a) : fp_lt n (a &&& b) := fun i h1 h2 => by rw [b_and, ha i h1 h2]; rfl
theorem fp_lt_1 {n k : Nat} (hk : k < n) (hn : n ≤ 32) : fp_lt n (nI 1 <<< (nI k &&& 31)) := fun i h1 h2 => by rw [fp_b1 k (by omega) i h2]; exact decide_eq_false (by omega)
theorem fp_ext {n : Nat} {a b : Int32} (ha : fp_lt n a) (hb : fp_lt n b) (h : ∀ i, i < n → bt a i = bt b i) : a = b := by
  apply b_ext
  intro i hi
  by_cases e : i < n
  · exact h i e
  · rw [ha i (by omega) hi, hb i (by omega) hi]
def fp_mk (f : Nat → Bool) : Nat → Int32
  | 0 => 0
  | n + 1 => fp_mk f n ||| (if f n = true then nI 1 <<< (nI n &&& 31) else 0)
theorem fp_mk_bt (f : Nat → Bool) : ∀ (n : Nat), n ≤ 32 → ∀ i, i < 32 → bt (fp_mk f n) i = (decide (i < n) && f i)
  | 0, _, i, _ => by rw [fp_mk, b_0]; simp
  | n + 1, hn, i, hi => by
    rw [fp_mk, b_or, fp_mk_bt f n (by omega) i hi]
    by_cases e : i = n
    · subst e
      cases hf : f i
      · simp [b_0]
      · simp [fp_b1 i hi i hi]
    · have : decide (i < n + 1) = decide (i < n) := decide_eq_decide.mpr (by omega)
      rw [this]
      cases hf : f n
      · simp [b_0]
      · simp [fp_b1 n (by omega) i hi, e]
theorem fp_mk_lt (f : Nat → Bool) {n : Nat} (hn : n ≤ 32) : fp_lt n (fp_mk f n) := fun i h1 h2 => by rw [fp_mk_bt f n hn i h2, decide_eq_false (by omega)]; rfl
theorem fp_mk_eq {n : Nat} (hn : n ≤ 32) {s : Int32} (hs : fp_lt n s) {f : Nat → Bool} (h : ∀ i, i < n → bt s i = f i) : s = fp_mk f n :=
  fp_ext hs (fp_mk_lt f hn) (fun i hi => by rw [fp_mk_bt f n hn i (by omega), h i hi, decide_eq_true hi]; rfl)
theorem fp_mk_cg {n : Nat} {f g : Nat → Bool} (h : ∀ i, i < n → f i = g i) : fp_mk f n = fp_mk g n := by
  induction n with
  | zero => rfl
  | succ n ih => rw [fp_mk, fp_mk, ih (fun i hi => h i (by omega)), h n (by omega)]
def fp_sum (g : Nat → Int32) : Nat → Int32
  | 0 => 0
  | n + 1 => fp_sum g n + g n
def fp_cnt (p : Nat → Bool) : Nat → Nat
  | 0 => 0
  | n + 1 => fp_cnt p n + (if p n = true then 1 else 0)
theorem fp_cnt_le (p : Nat → Bool) : ∀ n, fp_cnt p n ≤ n
  | 0 => Nat.le_refl _
  | n + 1 => by
    have := fp_cnt_le p n
    rw [fp_cnt]
    split <;> omega
theorem fp_sum_cg {g g' : Nat → Int32} : ∀ {n : Nat}, (∀ i, i < n → g i = g' i) → fp_sum g n = fp_sum g' n
  | 0, _ => rfl
  | n + 1, h => by rw [fp_sum, fp_sum, fp_sum_cg (n := n) (fun i hi => h i (by omega)), h n (by omega)]
theorem fp_cnt_cg {g g' : Nat → Bool} : ∀ {n : Nat}, (∀ i, i < n → g i = g' i) → fp_cnt g n = fp_cnt g' n
  | 0, _ => rfl
  | n + 1, h => by rw [fp_cnt, fp_cnt, fp_cnt_cg (n := n) (fun i hi => h i (by omega)), h n (by omega)]
