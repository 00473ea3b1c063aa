/-! ===== lN n to 2^64: shifts, and, or, masks, one bit ===== -/
theorem wb_tb (n : Nat) : (lN n).toBitVec = BitVec.ofNat 64 n := rfl
theorem wb_inj {a b : Int64} (h : a.toBitVec = b.toBitVec) : a = b := Int64.toBitVec_inj.mp h
theorem wb_tn {n : Nat} (h : n < 2 ^ 64) : (lN n).toBitVec.toNat = n := by rw [wb_tb, BitVec.toNat_ofNat, Nat.mod_eq_of_lt h]
theorem wb_of (x : Int64) : ∃ n, n < 2 ^ 64 ∧ x = lN n := ⟨x.toBitVec.toNat, x.toBitVec.isLt, wb_inj (by rw [wb_tb]; simp)⟩
theorem wb_of32 (x : Int32) : ∃ n, n < 2 ^ 32 ∧ x = nI n := ⟨x.toBitVec.toNat, x.toBitVec.isLt, Int32.toBitVec_inj.mp (by show _ = BitVec.ofNat 32 _; simp)⟩
theorem wb_c : ∀ k, k < 64 → ((nI k).toInt64 &&& 63) = lN k := by decide +kernel
theorem wb_cu : ∀ k, k < 64 → ((nI k).toInt64.toUInt64 &&& Int64.toUInt64 63) = UInt64.ofNat k := by decide +kernel
theorem wb_sm : ∀ k, k < 64 → (BitVec.ofNat 64 k).smod 64 = BitVec.ofNat 64 k := by decide +kernel
theorem wb_pw {a b : Nat} (h : a ≤ b) : 2 ^ b = 2 ^ a * 2 ^ (b - a) := by rw [← Nat.pow_add]; congr 1; omega
theorem wb_lt2 {a b : Nat} (h : a < b) : 2 ^ a < 2 ^ b := Nat.pow_lt_pow_right (by decide) h
theorem wb_mod (n : Nat) : lN n = lN (n % 2 ^ 64) := wb_inj (by rw [wb_tb, wb_tb]; apply BitVec.eq_of_toNat_eq; rw [BitVec.toNat_ofNat, BitVec.toNat_ofNat, Nat.mod_mod])
theorem wb_shr {n k : Nat} (hn : n < 2 ^ 64) (hk : k < 64) : ((lN n).toUInt64 >>> ((nI k).toInt64.toUInt64 &&& Int64.toUInt64 63)).toInt64 = lN (n / 2 ^ k) := by
  rw [wb_cu k hk]
  apply wb_inj
  apply BitVec.eq_of_toNat_eq
  show ((lN n).toUInt64 >>> UInt64.ofNat k).toNat = (BitVec.ofNat 64 _).toNat
  have h1 : (UInt64.ofNat k).toNat = k := by
    show (BitVec.ofNat 64 k).toNat = k
    rw [BitVec.toNat_ofNat, Nat.mod_eq_of_lt (by omega)]
  have h2 : (lN n).toUInt64.toNat = n := wb_tn hn
  rw [UInt64.toNat_shiftRight, h1, h2, Nat.mod_eq_of_lt hk, Nat.shiftRight_eq_div_pow, BitVec.toNat_ofNat, Nat.mod_eq_of_lt (Nat.lt_of_le_of_lt (Nat.div_le_self _ _) hn)]
theorem wb_shl (n : Nat) {k : Nat} (hk : k < 64) : lN n <<< ((nI k).toInt64 &&& 63) = lN (n * 2 ^ k) := by
  rw [wb_c k hk]
  apply wb_inj
  rw [Int64.toBitVec_shiftLeft, wb_tb, wb_tb, wb_tb, wb_sm k hk]
  apply BitVec.eq_of_toNat_eq
  rw [BitVec.shiftLeft_eq', BitVec.toNat_shiftLeft, BitVec.toNat_ofNat, BitVec.toNat_ofNat, BitVec.toNat_ofNat, Nat.mod_eq_of_lt (show k < 2 ^ 64 by omega), Nat.shiftLeft_eq, Nat.mul_mod, Nat.mod_mod, ← Nat.mul_mod]
theorem wb_and {a b : Nat} (ha : a < 2 ^ 64) (hb : b < 2 ^ 64) : lN a &&& lN b = lN (a &&& b) := by
  apply wb_inj
  rw [Int64.toBitVec_and, wb_tb, wb_tb, wb_tb]
  apply BitVec.eq_of_toNat_eq
  rw [BitVec.toNat_and, BitVec.toNat_ofNat, BitVec.toNat_ofNat, BitVec.toNat_ofNat, Nat.mod_eq_of_lt ha, Nat.mod_eq_of_lt hb, Nat.mod_eq_of_lt (Nat.and_lt_two_pow _ hb)]
theorem wb_or {a b : Nat} (ha : a < 2 ^ 64) (hb : b < 2 ^ 64) : lN a ||| lN b = lN (a ||| b) := by
  apply wb_inj
  rw [Int64.toBitVec_or, wb_tb, wb_tb, wb_tb]
  apply BitVec.eq_of_toNat_eq
  rw [BitVec.toNat_or, BitVec.toNat_ofNat, BitVec.toNat_ofNat, BitVec.toNat_ofNat, Nat.mod_eq_of_lt ha, Nat.mod_eq_of_lt hb, Nat.mod_eq_of_lt (Nat.or_lt_two_pow ha hb)]
theorem wb_mask {n k : Nat} (hn : n < 2 ^ 64) (hk : k < 64) : lN n &&& lN (2 ^ k - 1) = lN (n % 2 ^ k) := by
  rw [wb_and hn (by have := wb_lt2 hk; omega), Nat.and_two_pow_sub_one_eq_mod]
theorem wb_a1 {n : Nat} (hn : n < 2 ^ 64) : lN n &&& 1 = lN (n % 2) := wb_mask (k := 1) hn (by decide)
theorem wb_bit {n k : Nat} (hn : n < 2 ^ 64) (hk : k < 64) : ((lN n).toUInt64 >>> ((nI k).toInt64.toUInt64 &&& Int64.toUInt64 63)).toInt64 &&& 1 = lN (n / 2 ^ k % 2) := by
  rw [wb_shr hn hk, wb_a1 (Nat.lt_of_le_of_lt (Nat.div_le_self _ _) hn)]
/-! counting bits: the JDK's way of counting them (by bytes) -/
section POP
/-- how many of the lowest n bits are set -/
def pb_cnt : Nat → Nat → Nat
  | 0, _ => 0
  | n + 1, x => x % 2 + pb_cnt n (x / 2)
theorem pb_cnt_add (m n x : Nat) : pb_cnt (m + n) x = pb_cnt m x + pb_cnt n (x / 2 ^ m) := by
  induction m generalizing x with
  | zero => simp [pb_cnt]
  | succ k ih =>
    rw [Nat.succ_add, pb_cnt, pb_cnt, ih, Nat.div_div_eq_div_mul, Nat.pow_succ, Nat.mul_comm (2 ^ k) 2]
    omega
theorem pb_cnt_mod (n x : Nat) : pb_cnt n (x % 2 ^ n) = pb_cnt n x := by
  induction n generalizing x with
  | zero => rfl
  | succ k ih =>
    rw [pb_cnt, pb_cnt]
    have h1 : x % 2 ^ (k + 1) % 2 = x % 2 := by
      rw [Nat.pow_succ, Nat.mul_comm]
      exact Nat.mod_mul_right_mod x 2 (2 ^ k)
    have h2 : x % 2 ^ (k + 1) / 2 = x / 2 % 2 ^ k := by
      rw [Nat.pow_succ, Nat.mul_comm]
      exact Nat.mod_mul_right_div_self x 2 (2 ^ k)
    rw [h1, h2, ih]
theorem pb_split (a m y M : Nat) (ha : a < 256) (hm : m < 256) : (a + 256 * y) &&& (m + 256 * M) = (a &&& m) + 256 * (y &&& M) := by
  have h1 : ((a + 256 * y) &&& (m + 256 * M)) / 2 ^ 8 = y &&& M := by
    rw [Nat.and_div_two_pow]
    congr 1 <;> omega
  have h2 : ((a + 256 * y) &&& (m + 256 * M)) % 2 ^ 8 = a &&& m := by
    rw [Nat.and_mod_two_pow]
    congr 1 <;> omega
  omega
def pb_m (k : Nat) : Nat → Nat
  | 0 => 0
  | n + 1 => k + 256 * pb_m k n
def pb_1 (n x : Nat) : Nat := x - (x / 2 &&& pb_m 85 n)
def pb_2 (n x : Nat) : Nat := (x &&& pb_m 51 n) + (x / 4 &&& pb_m 51 n)
def pb_3 (n x : Nat) : Nat := (x + x / 16) &&& pb_m 15 n
theorem pb_b1 : ∀ a, a < 256 → ∀ c, c < 2 → (a / 2 + 128 * c) &&& 85 = a / 2 &&& 85 ∧ a / 2 &&& 85 ≤ a := by decide +kernel
theorem pb_b2 : ∀ a, a < 256 → ∀ c, c < 4 → (a / 4 + 64 * c) &&& 51 = a / 4 &&& 51 := by decide +kernel
theorem pb_b3 : ∀ a, a < 69 → ∀ c, c < 5 → (a + a / 16 + 16 * c) &&& 15 = (a + a / 16) % 16 := by decide +kernel
/-- what the first two steps make of a byte, and the third -/
theorem pb_by : ∀ a, a < 256 → (((a - (a / 2 &&& 85)) &&& 51) + ((a - (a / 2 &&& 85)) / 4 &&& 51)) < 69 ∧ (((a - (a / 2 &&& 85)) &&& 51) + ((a - (a / 2 &&& 85)) / 4 &&& 51)) % 16 < 5 ∧
    ((((a - (a / 2 &&& 85)) &&& 51) + ((a - (a / 2 &&& 85)) / 4 &&& 51)) + (((a - (a / 2 &&& 85)) &&& 51) + ((a - (a / 2 &&& 85)) / 4 &&& 51)) / 16) % 16 = pb_cnt 8 a ∧ pb_cnt 8 a ≤ 8 := by decide +kernel
theorem pb_s1 (n a y : Nat) (ha : a < 256) (hy : y / 2 &&& pb_m 85 n ≤ y) : pb_1 (n + 1) (a + 256 * y) = (a - (a / 2 &&& 85)) + 256 * pb_1 n y ∧ (a + 256 * y) / 2 &&& pb_m 85 (n + 1) ≤ a + 256 * y := by
  have e : (a + 256 * y) / 2 = (a / 2 + 128 * (y % 2)) + 256 * (y / 2) := by omega
  have h1 := pb_b1 a ha (y % 2) (by omega)
  have e2 : (a + 256 * y) / 2 &&& pb_m 85 (n + 1) = (a / 2 &&& 85) + 256 * (y / 2 &&& pb_m 85 n) := by
    rw [e, show pb_m 85 (n + 1) = 85 + 256 * pb_m 85 n from rfl, pb_split _ _ _ _ (by omega) (by omega), h1.1]
  constructor
  · unfold pb_1
    rw [e2]
    omega
  · rw [e2]
    omega
theorem pb_s2 (n a y : Nat) (ha : a < 256) : pb_2 (n + 1) (a + 256 * y) = ((a &&& 51) + (a / 4 &&& 51)) + 256 * pb_2 n y := by
  have e : (a + 256 * y) / 4 = (a / 4 + 64 * (y % 4)) + 256 * (y / 4) := by omega
  unfold pb_2
  rw [e, show pb_m 51 (n + 1) = 51 + 256 * pb_m 51 n from rfl, pb_split _ _ _ _ ha (by omega), pb_split _ _ _ _ (by omega) (by omega), pb_b2 a ha (y % 4) (by omega)]
  omega
theorem pb_s3 (n a y : Nat) (ha : a < 69) (hy : y % 16 < 5) : pb_3 (n + 1) (a + 256 * y) = (a + a / 16) % 16 + 256 * pb_3 n y := by
  have e : a + 256 * y + (a + 256 * y) / 16 = (a + a / 16 + 16 * (y % 16)) + 256 * (y + y / 16) := by omega
  unfold pb_3
  rw [e, show pb_m 15 (n + 1) = 15 + 256 * pb_m 15 n from rfl, pb_split _ _ _ _ (by omega) (by omega), pb_b3 a ha (y % 16) hy]
/-- each byte holds its own number -/
def pb_E : Nat → Nat → Nat
  | 0, _ => 0
  | n + 1, x => pb_cnt 8 (x % 256) + 256 * pb_E n (x / 256)
theorem pb_all (n : Nat) : ∀ x, x < 256 ^ n → x / 2 &&& pb_m 85 n ≤ x ∧ pb_2 n (pb_1 n x) % 16 < 5 ∧ pb_3 n (pb_2 n (pb_1 n x)) = pb_E n x := by
  induction n with
  | zero =>
    intro x hx
    have : x = 0 := by simpa using hx
    subst this
    decide
  | succ k ih =>
    intro x hx
    have hy : x / 256 < 256 ^ k := by
      rw [Nat.pow_succ] at hx
      exact Nat.div_lt_of_lt_mul (by rw [Nat.mul_comm]; exact hx)
    obtain ⟨h1, h2, h3⟩ := ih (x / 256) hy
    have ha : x % 256 < 256 := Nat.mod_lt _ (by omega)
    have e : x % 256 + 256 * (x / 256) = x := Nat.mod_add_div x 256
    obtain ⟨s1, s1'⟩ := pb_s1 k (x % 256) (x / 256) ha h1
    rw [e] at s1 s1'
    obtain ⟨b1, b2, b3, b4⟩ := pb_by (x % 256) ha
    refine ⟨s1', ?_, ?_⟩
    · rw [s1, pb_s2 _ _ _ (by omega)]
      omega
    · rw [s1, pb_s2 _ _ _ (by omega), pb_s3 _ _ _ b1 h2, h3, b3]
      rfl
theorem pb_c8 (x : Nat) : pb_cnt 8 (x % 256) ≤ 8 := (pb_by (x % 256) (Nat.mod_lt _ (by omega))).2.2.2
theorem pb_64 (x : Nat) : pb_cnt 64 x = pb_cnt 8 (x % 256) + pb_cnt 8 (x / 256 % 256) + pb_cnt 8 (x / 256 / 256 % 256) + pb_cnt 8 (x / 256 / 256 / 256 % 256) + pb_cnt 8 (x / 256 / 256 / 256 / 256 % 256) + pb_cnt 8 (x / 256 / 256 / 256 / 256 / 256 % 256) + pb_cnt 8 (x / 256 / 256 / 256 / 256 / 256 / 256 % 256) + pb_cnt 8 (x / 256 / 256 / 256 / 256 / 256 / 256 / 256 % 256) := by
  have h : ∀ n y, pb_cnt (8 + n) y = pb_cnt 8 (y % 256) + pb_cnt n (y / 256) := fun n y => by
    rw [pb_cnt_add]
    have := pb_cnt_mod 8 y
    rw [← this]
  rw [show 64 = 8 + (8 + (8 + (8 + (8 + (8 + (8 + (8 + 0))))))) from rfl, h, h, h, h, h, h, h, h]
  simp only [pb_cnt]
  omega
/-- the JDK's last steps -/
theorem pb_end (x : Nat) (hx : x < 256 ^ 8) : ∃ z, pb_3 8 (pb_2 8 (pb_1 8 x)) = z ∧ z + z / 256 + (z + z / 256) / 65536 + (z + z / 256 + (z + z / 256) / 65536) / 4294967296 < 2 ^ 63 ∧ (z + z / 256 + (z + z / 256) / 65536 + (z + z / 256 + (z + z / 256) / 65536) / 4294967296) % 128 = pb_cnt 64 x ∧ pb_cnt 64 x ≤ 64 := by
  refine ⟨pb_E 8 x, (pb_all 8 x hx).2.2, ?_⟩
  have c0 := pb_c8 x
  have c1 := pb_c8 (x / 256)
  have c2 := pb_c8 (x / 256 / 256)
  have c3 := pb_c8 (x / 256 / 256 / 256)
  have c4 := pb_c8 (x / 256 / 256 / 256 / 256)
  have c5 := pb_c8 (x / 256 / 256 / 256 / 256 / 256)
  have c6 := pb_c8 (x / 256 / 256 / 256 / 256 / 256 / 256)
  have c7 := pb_c8 (x / 256 / 256 / 256 / 256 / 256 / 256 / 256)
  rw [pb_64]
  simp only [pb_E]
  generalize pb_cnt 8 (x % 256) = a0 at *
  generalize pb_cnt 8 (x / 256 % 256) = a1 at *
  generalize pb_cnt 8 (x / 256 / 256 % 256) = a2 at *
  generalize pb_cnt 8 (x / 256 / 256 / 256 % 256) = a3 at *
  generalize pb_cnt 8 (x / 256 / 256 / 256 / 256 % 256) = a4 at *
  generalize pb_cnt 8 (x / 256 / 256 / 256 / 256 / 256 % 256) = a5 at *
  generalize pb_cnt 8 (x / 256 / 256 / 256 / 256 / 256 / 256 % 256) = a6 at *
  generalize pb_cnt 8 (x / 256 / 256 / 256 / 256 / 256 / 256 / 256 % 256) = a7 at *
  simp only [Nat.mul_zero, Nat.add_zero]
  generalize h7 : a7 = z7 at *
  generalize h6 : a6 + 256 * z7 = z6 at *
  generalize h5 : a5 + 256 * z6 = z5 at *
  generalize h4 : a4 + 256 * z5 = z4 at *
  generalize h3 : a3 + 256 * z4 = z3 at *
  generalize h2 : a2 + 256 * z3 = z2 at *
  generalize h1 : a1 + 256 * z2 = z1 at *
  generalize h0 : a0 + 256 * z1 = z at *
  have d1 : z / 256 = z1 := by omega
  rw [d1]
  have d2 : (z + z1) / 65536 = z2 + z3 := by omega
  rw [d2]
  have d3 : (z + z1 + (z2 + z3)) / 4294967296 = z4 + z5 + z6 + z7 := by omega
  rw [d3]
  refine ⟨?_, ?_, ?_⟩ <;> omega
theorem pb_lu {y : Nat} (hy : y < 2 ^ 64) (k : Nat) (hk : k < 64) : j_lu (lN y) (nI k) = lN (y / 2 ^ k) := wb_shr hy hk
theorem pb_q1 {y : Nat} (hy : y < 2 ^ 64) : j_l1 (lN y) = lN (pb_1 8 y) ∧ pb_1 8 y < 2 ^ 64 := by
  have h := (pb_all 8 y (by simpa using hy)).1
  refine ⟨?_, by unfold pb_1; omega⟩
  unfold j_l1 pb_1
  rw [show j_lu (lN y) 1 = lN (y / 2 ^ 1) from pb_lu hy 1 (by decide), show (6148914691236517205 : Int64) = lN (pb_m 85 8) from by decide +kernel, wb_and (by omega) (by decide), show y / 2 ^ 1 = y / 2 from rfl, lN_sub h]
theorem pb_q2 {y : Nat} (hy : y < 2 ^ 64) : j_l2 (lN y) = lN (pb_2 8 y) ∧ pb_2 8 y < 2 ^ 63 := by
  have a1 : y &&& pb_m 51 8 ≤ pb_m 51 8 := Nat.and_le_right
  have a2 : y / 4 &&& pb_m 51 8 ≤ pb_m 51 8 := Nat.and_le_right
  have e : pb_m 51 8 = 3689348814741910323 := by decide +kernel
  refine ⟨?_, by unfold pb_2; omega⟩
  unfold j_l2 pb_2
  rw [show j_lu (lN y) 2 = lN (y / 2 ^ 2) from pb_lu hy 2 (by decide), show (3689348814741910323 : Int64) = lN (pb_m 51 8) from by decide +kernel, wb_and hy (by decide), wb_and (a := y / 2 ^ 2) (by omega) (by decide), lN_add]
theorem pb_q3 {y : Nat} (hy : y < 2 ^ 63) : j_l3 (lN y) = lN (pb_3 8 y) ∧ pb_3 8 y < 2 ^ 64 := by
  have a1 : (y + y / 16) &&& pb_m 15 8 ≤ pb_m 15 8 := Nat.and_le_right
  have e : pb_m 15 8 = 1085102592571150095 := by decide +kernel
  refine ⟨?_, by unfold pb_3; omega⟩
  unfold j_l3 pb_3
  rw [show j_lu (lN y) 4 = lN (y / 2 ^ 4) from pb_lu (by omega) 4 (by decide), show (1085102592571150095 : Int64) = lN (pb_m 15 8) from by decide +kernel, lN_add, wb_and (by omega) (by decide)]
/-- the JDK's Long.bitCount counts the bits -/
theorem pb_lb {y : Nat} (hy : y < 2 ^ 64) : j_lb (lN y) = nI (pb_cnt 64 y) ∧ pb_cnt 64 y ≤ 64 := by
  obtain ⟨z, hz, hb, hm, hc⟩ := pb_end y (by simpa using hy)
  refine ⟨?_, hc⟩
  obtain ⟨q1, r1⟩ := pb_q1 hy
  obtain ⟨q2, r2⟩ := pb_q2 r1
  obtain ⟨q3, r3⟩ := pb_q3 r2
  unfold j_lb
  rw [q1, q2, q3, hz]
  rw [hz] at r3
  have e4 : j_l4 (lN z) = lN (z + z / 256) := by
    unfold j_l4
    rw [show j_lu (lN z) 8 = lN (z / 2 ^ 8) from pb_lu r3 8 (by decide), lN_add]
  rw [e4]
  have e5 : j_l5 (lN (z + z / 256)) = lN (z + z / 256 + (z + z / 256) / 65536) := by
    unfold j_l5
    rw [show j_lu (lN (z + z / 256)) 16 = lN ((z + z / 256) / 2 ^ 16) from pb_lu (by omega) 16 (by decide), lN_add]
  rw [e5]
  have e6 : j_l6 (lN (z + z / 256 + (z + z / 256) / 65536)) = lN (z + z / 256 + (z + z / 256) / 65536 + (z + z / 256 + (z + z / 256) / 65536) / 4294967296) := by
    unfold j_l6
    rw [show j_lu (lN (z + z / 256 + (z + z / 256) / 65536)) 32 = lN ((z + z / 256 + (z + z / 256) / 65536) / 2 ^ 32) from pb_lu (by omega) 32 (by decide), lN_add]
  rw [e6, lN_i, pk_and _ (m := 127) 7 (by decide)]
  rw [← hm]
  congr 1
  show (BitVec.ofNat 32 _).toNat % 2 ^ 7 = _
  rw [BitVec.toNat_ofNat]
  omega
/-- Integer.bitCount, of 13 bits -/
theorem pb_ib0 : ∀ x, x < 128 → ∀ y, y < 64 → j_ib (nI (64 * x + y)) = nI (pb_cnt 13 (64 * x + y)) := by decide +kernel
theorem pb_ib (x : Nat) (h : x < 8192) : j_ib (nI x) = nI (pb_cnt 13 x) := by
  have := pb_ib0 (x / 64) (by omega) (x % 64) (by omega)
  rw [show 64 * (x / 64) + x % 64 = x by omega] at this
  exact this
end POP
