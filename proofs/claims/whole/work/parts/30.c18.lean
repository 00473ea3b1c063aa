/-! numbers of states as sums -/
section C18
def s_p (w : w_T) (pl : Nat → Nat) : Nat → Nat
  | 0 => 0
  | r + 1 => s_p w pl r + pl r * w_pw w r
def s_v (w : w_T) (vl : Nat → Nat) : Nat → Nat
  | 0 => 0
  | r + 1 => s_v w vl r + vl r * w_vw w r
theorem s_1 (w : w_T) (pl : Nat → Nat) : ∀ r, r ≤ w_p w → w_u1 w pl r * w_pk w (w_p w - r) = s_p w pl r := by
  intro r
  induction r with
  | zero => intro _; exact Nat.zero_mul _
  | succ r ih =>
    intro hr
    have e : w_pk w (w_p w - r) = w_pk w (w_p w - (r + 1)) * c_n (w_c w r) := by
      rw [show w_p w - r = (w_p w - (r + 1)) + 1 by omega]
      show w_pk w _ * c_n (w_c w (w_p w - 1 - (w_p w - (r + 1)))) = _
      rw [show w_p w - 1 - (w_p w - (r + 1)) = r by omega]
    have h := ih (by omega)
    rw [e] at h
    show (w_u1 w pl r * c_n (w_c w r) + pl r) * _ = s_p w pl r + pl r * w_pk w (w_p w - 1 - r)
    rw [show w_p w - 1 - r = w_p w - (r + 1) by omega, Nat.add_mul, ← h]
    congr 1
    rw [Nat.mul_assoc, Nat.mul_comm (c_n _)]
theorem s_2 (w : w_T) (pl vl : Nat → Nat) : ∀ r, r ≤ 5 → w_u2 w pl vl r * w_vk w (5 - r) = w_u1 w pl (w_p w) * w_vk w 5 + s_v w vl r := by
  intro r
  induction r with
  | zero => intro _; rfl
  | succ r ih =>
    intro hr
    have e : w_vk w (5 - r) = w_vk w (5 - (r + 1)) * w_z w r := by
      rw [show 5 - r = (5 - (r + 1)) + 1 by omega]
      show w_vk w _ * w_z w (4 - (5 - (r + 1))) = _
      rw [show 4 - (5 - (r + 1)) = r by omega]
    have h := ih (by omega)
    rw [e] at h
    show (w_u2 w pl vl r * w_z w r + vl r) * _ = _ + (s_v w vl r + vl r * w_vk w (4 - r))
    rw [show 4 - r = 5 - (r + 1) by omega, Nat.add_mul, ← Nat.add_assoc, ← h]
    congr 1
    rw [Nat.mul_assoc, Nat.mul_comm (w_z _ _)]
theorem s_u (w : w_T) (pl vl : Nat → Nat) : w_u w pl vl = s_p w pl (w_p w) + s_v w vl 5 := by
  have h1 := s_1 w pl (w_p w) (Nat.le_refl _)
  have h2 := s_2 w pl vl 5 (Nat.le_refl _)
  rw [Nat.sub_self] at h1 h2
  have h1' : w_u1 w pl (w_p w) * w_vk w 5 = s_p w pl (w_p w) := h1
  have h2' : w_u2 w pl vl 5 * 1 = w_u1 w pl (w_p w) * w_vk w 5 + s_v w vl 5 := h2
  rw [h1', Nat.mul_one] at h2'
  exact h2'
theorem s_p_up {w : w_T} {pl : Nat → Nat} {q j : Nat} : ∀ r, s_p w (va_up pl q j) r + (if q < r then pl q * w_pw w q else 0) = s_p w pl r + (if q < r then j * w_pw w q else 0) := by
  intro r
  induction r with
  | zero => rfl
  | succ r ih =>
    show s_p w (va_up pl q j) r + va_up pl q j r * w_pw w r + _ = s_p w pl r + pl r * w_pw w r + _
    by_cases h : q = r
    · subst h
      rw [if_neg (by omega), if_neg (by omega)] at ih
      rw [if_pos (by omega), if_pos (by omega), show va_up pl q j q = j from if_pos rfl]
      omega
    · rw [show va_up pl q j r = pl r from if_neg (fun e => h e.symm)]
      by_cases h2 : q < r
      · rw [if_pos h2, if_pos h2] at ih
        rw [if_pos (by omega), if_pos (by omega)]
        omega
      · rw [if_neg h2, if_neg h2] at ih
        rw [if_neg (by omega), if_neg (by omega)]
        omega
theorem s_v_up {w : w_T} {vl : Nat → Nat} {q j : Nat} : ∀ r, s_v w (va_up vl q j) r + (if q < r then vl q * w_vw w q else 0) = s_v w vl r + (if q < r then j * w_vw w q else 0) := by
  intro r
  induction r with
  | zero => rfl
  | succ r ih =>
    show s_v w (va_up vl q j) r + va_up vl q j r * w_vw w r + _ = s_v w vl r + vl r * w_vw w r + _
    by_cases h : q = r
    · subst h
      rw [if_neg (by omega), if_neg (by omega)] at ih
      rw [if_pos (by omega), if_pos (by omega), show va_up vl q j q = j from if_pos rfl]
      omega
    · rw [show va_up vl q j r = vl r from if_neg (fun e => h e.symm)]
      by_cases h2 : q < r
      · rw [if_pos h2, if_pos h2] at ih
        rw [if_pos (by omega), if_pos (by omega)]
        omega
      · rw [if_neg h2, if_neg h2] at ih
        rw [if_neg (by omega), if_neg (by omega)]
        omega
/-- the number of the state after a step -/
theorem s_step {w : w_T} {pl vl : Nat → Nat} {q j v y : Nat} (hq : q < w_p w) (hv : v < 5) : w_u w (va_up pl q j) (va_up vl v y) + pl q * w_pw w q + vl v * w_vw w v = w_u w pl vl + j * w_pw w q + y * w_vw w v := by
  have h1 := s_p_up (w := w) (pl := pl) (q := q) (j := j) (w_p w)
  have h2 := s_v_up (w := w) (vl := vl) (q := v) (j := y) 5
  rw [if_pos hq, if_pos hq] at h1
  rw [if_pos hv, if_pos hv] at h2
  rw [s_u, s_u]
  omega
theorem s_int {n n' x y a i j b : Nat} (h : n' + i * b + x * a = n + j * b + y * a) : nI n + (nI y - nI x) * nI a + (nI j - nI i) * nI b = nI n' := by
  have e : nI n' + nI i * nI b + nI x * nI a = nI n + nI j * nI b + nI y * nI a := by
    rw [pk_mul, pk_mul, pk_mul, pk_mul, nI_add, nI_add, nI_add, nI_add, h]
  grind
/-- numbers are below the product -/
theorem s_lt1 {w : w_T} {pl : Nat → Nat} (h : ∀ q, q < w_p w → pl q < c_n (w_c w q)) : ∀ r, r ≤ w_p w → w_u1 w pl r < w_q1 w r := by
  intro r
  induction r with
  | zero => intro _; exact Nat.zero_lt_one
  | succ r ih =>
    intro hr
    have h1 := ih (by omega)
    have h2 := h r (by omega)
    show w_u1 w pl r * c_n (w_c w r) + pl r < w_q1 w r * c_n (w_c w r)
    have h3 : (w_u1 w pl r + 1) * c_n (w_c w r) ≤ w_q1 w r * c_n (w_c w r) := Nat.mul_le_mul_right _ h1
    rw [Nat.add_mul, Nat.one_mul] at h3
    omega
theorem s_lt2 {w : w_T} {pl vl : Nat → Nat} (h : ∀ q, q < w_p w → pl q < c_n (w_c w q)) (hv : ∀ v, v < 5 → vl v < w_z w v) : ∀ r, r ≤ 5 → w_u2 w pl vl r < w_q2 w r := by
  intro r
  induction r with
  | zero => intro _; exact s_lt1 h _ (Nat.le_refl _)
  | succ r ih =>
    intro hr
    have h1 := ih (by omega)
    have h2 := hv r (by omega)
    show w_u2 w pl vl r * w_z w r + vl r < w_q2 w r * w_z w r
    have h3 : (w_u2 w pl vl r + 1) * w_z w r ≤ w_q2 w r * w_z w r := Nat.mul_le_mul_right _ h1
    rw [Nat.add_mul, Nat.one_mul] at h3
    omega
theorem s_lt {w : w_T} {pl vl : Nat → Nat} (h : s_ok w pl vl) : w_u w pl vl < w_q w := s_lt2 h.1 h.2.2 5 (Nat.le_refl _)
/-- a number's state has that number -/
theorem d_2 (w : w_T) (n : Nat) (vl : Nat → Nat) (hv : ∀ v, v < 5 → vl v = w_dv w n v) (pl : Nat → Nat) (h0 : w_u1 w pl (w_p w) = w_r2 w n 5) : ∀ r, r ≤ 5 → w_u2 w pl vl r = w_r2 w n (5 - r) := by
  intro r
  induction r with
  | zero => intro _; exact h0
  | succ r ih =>
    intro hr
    show w_u2 w pl vl r * w_z w r + vl r = _
    rw [ih (by omega), hv r (by omega)]
    unfold w_dv
    have e : w_r2 w n (5 - r) = w_r2 w n (5 - (r + 1)) / w_z w r := by
      rw [show 5 - r = (5 - (r + 1)) + 1 by omega]
      show _ / w_z w (4 - (5 - (r + 1))) = _
      rw [show 4 - (5 - (r + 1)) = r by omega]
    rw [e, show 4 - r = 5 - (r + 1) by omega]
    exact Nat.div_add_mod' _ _
theorem d_1 (w : w_T) (n : Nat) (pl : Nat → Nat) (hp : ∀ q, q < w_p w → pl q = w_dp w n q) (h0 : w_r1 w n (w_p w) = 0) : ∀ r, r ≤ w_p w → w_u1 w pl r = w_r1 w n (w_p w - r) := by
  intro r
  induction r with
  | zero => intro _; exact h0.symm
  | succ r ih =>
    intro hr
    show w_u1 w pl r * c_n (w_c w r) + pl r = _
    rw [ih (by omega), hp r (by omega)]
    unfold w_dp
    have e : w_r1 w n (w_p w - r) = w_r1 w n (w_p w - (r + 1)) / c_n (w_c w r) := by
      rw [show w_p w - r = (w_p w - (r + 1)) + 1 by omega]
      show _ / c_n (w_c w (w_p w - 1 - (w_p w - (r + 1)))) = _
      rw [show w_p w - 1 - (w_p w - (r + 1)) = r by omega]
    rw [e, show w_p w - 1 - r = w_p w - (r + 1) by omega]
    exact Nat.div_add_mod' _ _
theorem d_lt2 (w : w_T) (n : Nat) (hn : n < w_q w) : ∀ k, k ≤ 5 → w_r2 w n k < w_q2 w (5 - k) := by
  intro k
  induction k with
  | zero => intro _; exact hn
  | succ k ih =>
    intro hk
    have h := ih (by omega)
    rw [show 5 - k = (5 - (k + 1)) + 1 by omega] at h
    have h' : w_r2 w n k < w_q2 w (5 - (k + 1)) * w_z w (5 - (k + 1)) := h
    show w_r2 w n k / w_z w (4 - k) < _
    rw [show 4 - k = 5 - (k + 1) by omega]
    exact Nat.div_lt_of_lt_mul (by rw [Nat.mul_comm]; exact h')
theorem d_lt1 (w : w_T) (n : Nat) (hn : n < w_q w) : ∀ k, k ≤ w_p w → w_r1 w n k < w_q1 w (w_p w - k) := by
  intro k
  induction k with
  | zero => intro _; exact d_lt2 w n hn 5 (Nat.le_refl _)
  | succ k ih =>
    intro hk
    have h := ih (by omega)
    rw [show w_p w - k = (w_p w - (k + 1)) + 1 by omega] at h
    have h' : w_r1 w n k < w_q1 w (w_p w - (k + 1)) * c_n (w_c w (w_p w - (k + 1))) := h
    show w_r1 w n k / c_n (w_c w (w_p w - 1 - k)) < _
    rw [show w_p w - 1 - k = w_p w - (k + 1) by omega]
    exact Nat.div_lt_of_lt_mul (by rw [Nat.mul_comm]; exact h')
theorem d_u {w : w_T} {n : Nat} {pl vl : Nat → Nat} (hn : n < w_q w) (hp : ∀ q, q < w_p w → pl q = w_dp w n q) (hv : ∀ v, v < 5 → vl v = w_dv w n v) : w_u w pl vl = n := by
  have h1 := d_lt1 w n hn (w_p w) (Nat.le_refl _)
  rw [Nat.sub_self] at h1
  have h1' : w_r1 w n (w_p w) < 1 := h1
  have h2 := d_1 w n pl hp (by omega) (w_p w) (Nat.le_refl _)
  rw [Nat.sub_self] at h2
  exact d_2 w n vl hv pl h2 5 (Nat.le_refl _)
theorem d_ok {w : w_T} {n : Nat} {pl vl : Nat → Nat} (hok : w_ok w) (hp : ∀ q, q < w_p w → pl q = w_dp w n q) (hv : ∀ v, v < 5 → vl v = w_dv w n v) (h13 : ∀ q, q < 6 → pl q < 13) : s_ok w pl vl := by
  refine ⟨fun q hq => ?_, h13, fun v hv5 => ?_⟩
  · rw [hp q hq]
    have := (hok.2.2.2 q (by have := hok.2.1; omega)).1
    exact Nat.mod_lt _ (by omega)
  · rw [hv v hv5]
    have := (hok.2.2.1 v hv5).1
    exact Nat.mod_lt _ (by omega)
end C18
