/-! sets of states, as pictures -/
section C15
variable {g : q_G}
def ss_A (a : Nat) (M : Nat → Bool) (hp : List va_E) : Prop := ∃ (l : Nat) (y : Nat → Nat), hp[a]? = some (o_Ss a (nI l)) ∧ hp[a + 1]? = some (a_S y) ∧ (∀ j, y j < 2 ^ 64) ∧ l ≤ 469 ∧ (∀ j, j < l → y j = 0) ∧ ∀ m, m < 30016 → ss_m y m = M m
def F_2 (a : Nat) (hp hp' : List va_E) : Prop := hp'.length = hp.length ∧ ∀ k, k ≠ a → k ≠ a + 1 → hp'[k]? = hp[k]?
theorem F_2.two {a : Nat} {x y : va_E} (hp : List va_E) : F_2 a hp ((hp.set (a + 1) x).set a y) := ⟨by simp, fun k h1 h2 => by rw [List.getElem?_set_ne (fun h => h1 h.symm), List.getElem?_set_ne (fun h => h2 h.symm)]⟩
theorem ss_A.ob {a : Nat} {M : Nat → Bool} {hp : List va_E} (h : ss_A a M hp) : ∃ l, hp[a]? = some (o_Ss a l) := by
  obtain ⟨l, y, h1, _⟩ := h
  exact ⟨_, h1⟩
theorem ss_A.keep {a : Nat} {M : Nat → Bool} {hp hp' : List va_E} (h : ss_A a M hp) (h1 : hp'[a]? = hp[a]?) (h2 : hp'[a + 1]? = hp[a + 1]?) : ss_A a M hp' := by
  obtain ⟨l, y, a1, a2, a3⟩ := h
  exact ⟨l, y, h1.trans a1, h2.trans a2, a3⟩
theorem ss_A.eq {a : Nat} {M M' : Nat → Bool} {hp : List va_E} (h : ss_A a M hp) (e : ∀ m, m < 30016 → M m = M' m) : ss_A a M' hp := by
  obtain ⟨l, y, a1, a2, a3, a4, a5, a6⟩ := h
  exact ⟨l, y, a1, a2, a3, a4, a5, fun m hm => (a6 m hm).trans (e m hm)⟩
theorem k_contains (hG : q_GG g) {hp : List va_E} {a n : Nat} {M : Nat → Bool} (h : ss_A a M hp) (hn : n < 30000) : q_C g m_Ss_contains false (q_R 0 0 0 0) [.ref a, .int (nI n)] hp (q_ret (some (.int (if M n then 1 else 0))) hp) := by
  obtain ⟨l, y, a1, a2, a3, a4, a5, a6⟩ := h
  rw [← a6 n (by omega)]
  exact c_Ss_contains hG a1 a2 a3 hn
theorem k_add (hG : q_GG g) {hp : List va_E} {a n : Nat} {M : Nat → Bool} (h : ss_A a M hp) (hn : n < 30000) : q_C g m_Ss_add true (q_R 0 0 0 0) [.ref a, .int (nI n)] hp (q_ho none (fun hp2 => ss_A a (fun m => M m || decide (m = n)) hp2 ∧ F_2 a hp hp2)) := by
  obtain ⟨l, y, a1, a2, a3, a4, a5, a6⟩ := h
  refine (c_Ss_add hG a1 a2 a3 hn (by omega)).post ?_
  intro r hp' ⟨e1, e2⟩
  subst e1; subst e2
  have hb : ∀ j, ss_add y n j < 2 ^ 64 := by
    intro j
    unfold ss_add va_up
    split
    · exact Nat.or_lt_two_pow (a3 _) (Nat.pow_lt_pow_right (by decide) (Nat.mod_lt _ (by decide)))
    · exact a3 j
  refine ⟨_, rfl, rfl, ⟨_, ss_add y n, q_self (q_keep rfl a1 (by omega)), q_keep rfl (q_self a2) (by omega), hb, ?_, ?_, ?_⟩, F_2.two hp⟩
  · split <;> omega
  · intro j hj
    have h2 : j < l ∧ j < n / 64 := by
      split at hj <;> omega
    show va_up _ _ _ j = 0
    unfold va_up
    rw [if_neg (by omega)]
    exact a5 j h2.1
  · intro m hm
    rw [ss_add_m, a6 m hm]
theorem k_empty (hG : q_GG g) {hp : List va_E} {a : Nat} {M : Nat → Bool} (h : ss_A a M hp) : q_C g m_Ss_empty true (q_R 1 16 0 0) [.ref a] hp (q_ho none (fun hp2 => ss_A a (fun _ => false) hp2 ∧ F_2 a hp hp2)) := by
  obtain ⟨l, y, a1, a2, a3, a4, a5, a6⟩ := h
  refine (c_Ss_empty hG a1 a2).post ?_
  intro r hp' ⟨e1, e2⟩
  subst e1; subst e2
  have e : (fun j => if j < 469 then 0 else lN (y j)) = fun j => lN (if j < 469 then 0 else y j) := by
    funext j
    split <;> rfl
  rw [e]
  refine ⟨_, rfl, rfl, ⟨469, fun j => if j < 469 then 0 else y j, q_self (q_keep rfl a1 (by omega)), q_keep rfl (q_self a2) (by omega), ?_, Nat.le_refl _, ?_, ?_⟩, F_2.two hp⟩
  · intro j
    show (if j < 469 then 0 else y j) < 2 ^ 64
    split
    · decide
    · exact a3 j
  · intro j hj
    exact if_pos hj
  · intro m hm
    show (if m / 64 < 469 then 0 else y (m / 64)).testBit (m % 64) = false
    rw [if_pos (by omega)]
    exact Nat.zero_testBit _
/-- what takeLowest makes, as a picture -/
def tk_ok (a : Nat) (M : Nat → Bool) (hp : List va_E) (z : Option Nat × List va_E) : Prop := F_2 a hp z.2 ∧ match z.1 with
  | none => (∀ m, m < 30016 → M m = false) ∧ ss_A a M z.2
  | some n => n < 30016 ∧ M n = true ∧ ss_A a (fun m => M m && decide (m ≠ n)) z.2
theorem k_take (hG : q_GG g) {hp : List va_E} {a : Nat} {M : Nat → Bool} (h : ss_A a M hp) : q_C g m_Ss_takeLowest true (q_R 2 32 0 0) [.ref a] hp (q_rel (Z := Option Nat × List va_E) (fun z => some (.int (match z.1 with | none => -1 | some n => nI n))) (fun z => z.2) (tk_ok a M hp)) := by
  obtain ⟨l, y, a1, a2, a3, a4, a5, a6⟩ := h
  refine (c_Ss_takeLowest hG a3 a1 a2 a4 a5).post ?_
  intro r hp' ⟨z, e1, e2, h1, h2, h3, h4, h5⟩
  refine ⟨(z.1, hp'), e1, rfl, by rw [e2]; exact F_2.two hp, ?_⟩
  obtain ⟨zo, zl, zy⟩ := z
  have g1 : hp'[a]? = some (o_Ss a (nI zl)) := by rw [e2]; exact q_self (q_keep rfl a1 (by omega))
  have g2 : hp'[a + 1]? = some (a_S zy) := by rw [e2]; exact q_keep rfl (q_self a2) (by omega)
  cases zo with
  | none =>
    refine ⟨fun m hm => ?_, ⟨zl, zy, g1, g2, h2, h1, h3, fun m hm => ?_⟩⟩
    · rw [← a6 m hm]
      show (y (m / 64)).testBit _ = false
      rw [h5.1 _ (by omega)]
      exact Nat.zero_testBit _
    · have e : zy = y := h5.2
      rw [e]
      exact a6 m hm
  | some n =>
    have h51 : n < 30016 := h5.1
    refine ⟨h51, ?_, ⟨zl, zy, g1, g2, h2, h1, h3, fun m hm => ?_⟩⟩
    · rw [← a6 n h51]; exact h5.2.1
    · have e : ss_m zy m = (ss_m y m && decide (m ≠ n)) := h5.2.2.2 m
      rw [e, a6 m hm]
/-- how many are below -/
def cn (M : Nat → Bool) : Nat → Nat
  | 0 => 0
  | k + 1 => cn M k + if M k then 1 else 0
theorem cn_eq {M M' : Nat → Bool} : ∀ (k : Nat), (∀ m, m < k → M m = M' m) → cn M k = cn M' k := by
  intro k
  induction k with
  | zero => exact fun _ => rfl
  | succ k ih =>
    intro h
    show cn M k + _ = cn M' k + _
    rw [ih (fun m hm => h m (by omega)), h k (by omega)]
theorem cn_le (M : Nat → Bool) : ∀ k, cn M k ≤ k := by
  intro k
  induction k with
  | zero => exact Nat.le_refl _
  | succ k ih =>
    show cn M k + _ ≤ k + 1
    split <;> omega
theorem ss_r_cn (y : Nat → Nat) : ∀ n, ss_r y n = cn (ss_m y) n := by
  intro n
  induction n with
  | zero => rfl
  | succ n ih =>
    show _ = cn (ss_m y) n + _
    rw [← ih]
    unfold ss_r ss_m
    by_cases h : n % 64 = 63
    · have e1 : (n + 1) / 64 = n / 64 + 1 := by omega
      have e2 : (n + 1) % 64 = 0 := by omega
      rw [e1, e2, h]
      show ss_c y (n / 64) + pb_cnt 64 (y (n / 64)) + 0 = _
      rw [pb_cnt_s 63]
      omega
    · have e1 : (n + 1) / 64 = n / 64 := by omega
      have e2 : (n + 1) % 64 = n % 64 + 1 := by omega
      rw [e1, e2, pb_cnt_s (n % 64)]
      omega
theorem k_nth (hG : q_GG g) {hp : List va_E} {a k : Nat} {M : Nat → Bool} (h : ss_A a M hp) (hk : k < cn M 30016) : q_C g m_Ss_nth false (q_R 2 34 0 0) [.ref a, .int (nI k)] hp (q_rel (Z := Nat) (fun z => some (.int (nI z))) (fun _ => hp) (fun z => z < 30016 ∧ M z = true ∧ cn M z = k)) := by
  obtain ⟨l, y, a1, a2, a3, a4, a5, a6⟩ := h
  have e : cn M 30016 = ss_c y 469 := by
    rw [← cn_eq 30016 a6, ← ss_r_cn]
    unfold ss_r
    rw [show 30016 / 64 = 469 from rfl, show 30016 % 64 = 0 from rfl]
    generalize ss_c y 469 = q
    generalize y 469 = q2
    exact Nat.add_zero q
  have hk2 : k < 2 ^ 30 := Nat.lt_of_lt_of_le hk (Nat.le_trans (cn_le M 30016) (by decide))
  refine (c_Ss_nth hG a3 a1 a2 (by omega) hk2).post ?_
  intro r hp' ⟨z, e1, e2, h1, h2, h3⟩
  refine ⟨z, e1, e2, h1, by rw [← a6 z h1]; exact h2, ?_⟩
  rw [← cn_eq z (fun m hm => a6 m (by omega)), ← ss_r_cn]
  exact h3
end C15
