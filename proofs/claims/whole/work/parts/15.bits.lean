/-! single bits of a word: the lowest one, taking it out -/
section BITS2
theorem bt_pred (n : Nat) : ∀ x, 0 < x → x < 2 ^ n → ∃ t, t < n ∧ x.testBit t = true ∧ (∀ i, i < t → x.testBit i = false) ∧ (∀ i, (x - 1).testBit i = (if i < t then true else if i = t then false else x.testBit i)) := by
  induction n with
  | zero => intro x h0 hx; simp at hx; omega
  | succ n ih =>
    intro x h0 hx
    by_cases ho : x % 2 = 1
    · refine ⟨0, by omega, ?_, fun i hi => by omega, fun i => ?_⟩
      · rw [Nat.testBit_zero]; simp [ho]
      · cases i with
        | zero =>
          rw [Nat.testBit_zero]
          have : (x - 1) % 2 = 0 := by omega
          simp [this]
        | succ j =>
          rw [Nat.testBit_succ, Nat.testBit_succ, show (x - 1) / 2 = x / 2 by omega]
          simp
    · have hx2 : x / 2 < 2 ^ n := by rw [Nat.pow_succ] at hx; omega
      obtain ⟨t, h1, h2, h3, h4⟩ := ih (x / 2) (by omega) hx2
      refine ⟨t + 1, by omega, by rw [Nat.testBit_succ]; exact h2, fun i hi => ?_, fun i => ?_⟩
      · cases i with
        | zero => rw [Nat.testBit_zero]; simp [ho]
        | succ j => rw [Nat.testBit_succ]; exact h3 j (by omega)
      · cases i with
        | zero =>
          rw [Nat.testBit_zero]
          have : (x - 1) % 2 = 1 := by omega
          simp [this]
        | succ j =>
          rw [Nat.testBit_succ, Nat.testBit_succ, show (x - 1) / 2 = x / 2 - 1 by omega, h4 j]
          simp
def bt_c (x : Nat) : Nat := x &&& (x - 1)
theorem bt_c_lt {x : Nat} (h : x < 2 ^ 64) : bt_c x < 2 ^ 64 := Nat.lt_of_le_of_lt Nat.and_le_left h
theorem bt_cl {x : Nat} (h : x < 2 ^ 64) : lN x &&& (lN x - 1) = lN (bt_c x) := by
  by_cases h0 : x = 0
  · subst h0; decide
  · rw [show (1 : Int64) = lN 1 from rfl, lN_sub (by omega), wb_and h (by omega)]
    rfl
def bt_i : Nat → Nat → Nat
  | 0, x => x
  | n + 1, x => bt_c (bt_i n x)
theorem bt_i_lt {x : Nat} (h : x < 2 ^ 64) (n : Nat) : bt_i n x < 2 ^ 64 := by
  induction n with
  | zero => exact h
  | succ n ih => exact bt_c_lt ih
theorem bt_s_cl {x : Nat} (h : x < 2 ^ 64) (n : Nat) : s_cl (lN x) n = lN (bt_i n x) := by
  induction n with
  | zero => rfl
  | succ n ih =>
    rw [s_cl, ih, bt_cl (bt_i_lt h n)]
    rfl
theorem bt_neg {x : Nat} (h0 : 0 < x) (h : x < 2 ^ 64) : -lN x = lN (2 ^ 64 - x) := by
  apply wb_inj
  rw [Int64.toBitVec_neg, wb_tb, wb_tb]
  apply BitVec.eq_of_toNat_eq
  rw [BitVec.toNat_neg, BitVec.toNat_ofNat, BitVec.toNat_ofNat, Nat.mod_eq_of_lt h]
theorem bt_p1 : ∀ t, t < 64 → pb_cnt 64 (2 ^ t - 1) = t := by decide +kernel
/-- the lowest bit: where it is, and that the JDK's way finds it -/
theorem bt_low {x : Nat} (h0 : 0 < x) (h : x < 2 ^ 64) : ∃ t, t < 64 ∧ j_lb ((lN x &&& -lN x) - 1) = nI t ∧ x.testBit t = true ∧ (∀ i, i < t → x.testBit i = false) ∧ (∀ i, (bt_c x).testBit i = (x.testBit i && decide (i ≠ t))) := by
  obtain ⟨t, h1, h2, h3, h4⟩ := bt_pred 64 x h0 h
  have key : x &&& (2 ^ 64 - x) = 2 ^ t := by
    apply Nat.eq_of_testBit_eq
    intro i
    rw [Nat.testBit_and, show 2 ^ 64 - x = 2 ^ 64 - ((x - 1) + 1) by omega, Nat.testBit_two_pow_sub_succ (by omega), h4 i, Nat.testBit_two_pow]
    by_cases hi : i < t
    · rw [h3 i hi, Bool.false_and, decide_eq_false (show ¬ t = i by omega)]
    · by_cases hi2 : i = t
      · subst hi2
        simp [h2, h1]
      · have hti : ¬ t = i := fun q => hi2 q.symm
        rw [if_neg hi, if_neg hi2]
        cases x.testBit i <;> simp [hti]
  refine ⟨t, h1, ?_, h2, h3, fun i => ?_⟩
  · have hp : 2 ^ t < 2 ^ 64 := Nat.pow_lt_pow_right (by decide) h1
    have hp0 : 0 < 2 ^ t := Nat.two_pow_pos t
    rw [bt_neg h0 h, wb_and h (by omega), key, show (1 : Int64) = lN 1 from rfl, lN_sub hp0, (pb_lb (by omega)).1, bt_p1 t h1]
  · unfold bt_c
    rw [Nat.testBit_and, h4 i]
    by_cases hi : i < t
    · rw [h3 i hi]; simp
    · by_cases hi2 : i = t
      · subst hi2; simp
      · rw [if_neg hi, if_neg hi2]
        simp [hi2]
end BITS2
