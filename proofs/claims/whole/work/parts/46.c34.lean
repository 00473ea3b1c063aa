/-! figures stay below sizes -/
section C34
def c_fy (nv : Nat) (z : Nat → Nat) (C : c_T) : Prop := ∀ j, 1 ≤ j → j < c_n C → (c_v C j < nv ∧ c_f C j < z (c_v C j)) ∨ (c_v C j = 0 ∧ c_f C j = 0)
def w_fy (w : w_T) : Prop := ∀ q, q < w_p w → c_fy (w_n w) (w_z w) (w_c w q)
theorem w_fy.fz {w : w_T} (hok : w_ok w) (h : w_fy w) : w_fz w := by
  intro q hq j h1 h2
  rcases h q hq j h1 h2 with a | a
  · exact a.2
  · rw [a.1, a.2]
    exact (hok.2.2.1 0 (by decide)).1
theorem w_fy.av {w : w_T} {x y : Nat} (h : w_fy w) (hx : 2 ≤ x) : w_fy (w_av w x y) := by
  intro q hq j h1 h2
  rcases h q hq j h1 h2 with a | a
  · refine Or.inl ⟨Nat.lt_succ_of_lt a.1, ?_⟩
    show c_f (w_c w q) j < va_up (w_z w) (w_n w) x (c_v (w_c w q) j)
    unfold va_up
    rw [if_neg (by omega)]
    exact a.2
  · exact Or.inr a
theorem w_fy.cl {w : w_T} : w_fy (w_cl w) := fun q hq => absurd hq (Nat.not_lt_zero q)
section
variable {nv : Nat} {z : Nat → Nat} {n : Nat} {tb : Nat → Nat}
theorem fy_star {o : Option Nat} {S : x_S} (h : c_fy nv z (x_C S)) : c_fy nv z (x_C (x_star o S)) := by
  cases o with
  | none => exact h
  | some i => exact h
theorem fy_sl {o : Option Nat} : ∀ (k : Nat) (S : x_S), c_fy nv z (x_C S) → c_fy nv z (x_C (x_sl n tb o k S)) := by
  intro k
  induction k with
  | zero => exact fun S h => h
  | succ k ih =>
    intro S h
    unfold x_sl
    split
    · exact ih _ (fy_star h)
    · exact h
theorem fy_add {o : Option Nat} {S : x_S} (h : c_fy nv z (x_C S)) : c_fy nv z (x_C (x_add n tb o S)) := fy_sl (n := n) (tb := tb) (o := o) _ S h
theorem fy_pt {kd ow fg : Nat} {S : x_S} (h : c_fy nv z (x_C S)) (hy : (ow < nv ∧ fg < z ow) ∨ (ow = 0 ∧ fg = 0)) : c_fy nv z (x_C (x_pt n tb kd ow fg S)) := by
  refine fy_add ?_
  intro j h1 h2
  have h2 : j < c_n (x_C S) + 1 := h2
  show (va_up (c_v (x_C S)) (c_n (x_C S)) ow j < nv ∧ va_up (c_f (x_C S)) (c_n (x_C S)) fg j < z (va_up (c_v (x_C S)) (c_n (x_C S)) ow j)) ∨ (va_up (c_v (x_C S)) (c_n (x_C S)) ow j = 0 ∧ va_up (c_f (x_C S)) (c_n (x_C S)) fg j = 0)
  unfold va_up
  by_cases e : j = c_n (x_C S)
  · rw [if_pos e, if_pos e]
    exact hy
  · rw [if_neg e, if_neg e]
    exact h j h1 (by omega)
theorem fy_ra {S : x_S} (hz : ∀ v, v < nv → 1 ≤ z v) (h : c_fy nv z (x_C S)) : c_fy nv z (x_C (x_ra n tb nv z S)) := by
  unfold x_ra
  split
  · split
    · exact h
    · exact fy_pt (S := x_at1 S) h (Or.inr ⟨rfl, rfl⟩)
  · split
    · next h1 =>
      have hv : t_b n tb (x_a S) - 97 < nv := by omega
      split
      · exact h
      · split
        · split
          · split
            · next h5 => exact fy_pt (S := x_at1 (x_at1 (x_at1 S))) h (Or.inl ⟨hv, by omega⟩)
            · exact h
          · exact fy_pt (S := x_at1 (x_at1 S)) h (Or.inl ⟨hv, hz _ hv⟩)
        · exact h
    · exact h
theorem fy_rn {S : x_S} (hz : ∀ v, v < nv → 1 ≤ z v) (h : c_fy nv z (x_C S)) : c_fy nv z (x_C (x_rn n tb nv z S)) := by
  unfold x_rn
  split
  · exact h
  · split
    · unfold x_ot
      split
      · exact h
      · exact h
    · split
      · unfold x_ct
        split
        · exact h
        · exact fy_add (S := x_cl S) h
      · exact fy_ra hz h
theorem fy_rl (hz : ∀ v, v < nv → 1 ≤ z v) : ∀ (k : Nat) (S : x_S), c_fy nv z (x_C S) → c_fy nv z (x_C (x_rl n tb nv z k S)) := by
  intro k
  induction k with
  | zero => exact fun S h => h
  | succ k ih =>
    intro S h
    unfold x_rl
    split
    · exact ih _ (fy_rn hz h)
    · exact h
theorem fy_rd {S : x_S} (hz : ∀ v, v < nv → 1 ≤ z v) : c_fy nv z (x_C (x_rd n tb nv z S)) := by
  have h0 : c_fy nv z (x_C (x_b0 S)) := fun j h1 h2 => by
    have h2 : j < 1 := h2
    omega
  have h1 : c_fy nv z (x_C (x_ld n tb nv z S)) := by
    have := fy_rl (n := n) (tb := tb) hz 100 _ h0
    unfold x_ld x_cl1
    split
    · exact this
    · exact this
  unfold x_rd
  split
  · exact h1
  · exact h1
end
theorem w_fy.sc {w : w_T} {C : c_T} (h : w_fy w) : w_fy (w_sc w (w_p w) C) := by
  intro q hq
  have hq : q < w_p w := hq
  show c_fy (w_n w) (w_z w) (if q = w_p w then C else w_c w q)
  rw [if_neg (by omega)]
  exact h q hq
theorem w_fy.in {w : w_T} {C : c_T} (h : w_fy w) (hC : c_fy (w_n w) (w_z w) C) : w_fy (w_in (w_sc w (w_p w) C)) := by
  intro q hq
  have hq : q < w_p w + 1 := hq
  show c_fy (w_n w) (w_z w) (if q = w_p w then C else w_c w q)
  by_cases e : q = w_p w
  · rw [if_pos e]; exact hC
  · rw [if_neg e]; exact h q (by omega)
end C34
