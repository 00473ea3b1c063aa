/-! bits stay below the number of places; each round goes on -/
section M6
def p_lt (N : Nat) (t : p_T) : Prop := t.2.1 < 2 ^ N ∧ t.2.2 < 2 ^ N
theorem p_lt.mono {N N' : Nat} {t : p_T} (h : p_lt N t) (hN : N ≤ N') : p_lt N' t := ⟨Nat.lt_of_lt_of_le h.1 (Nat.pow_le_pow_right (by decide) hN), Nat.lt_of_lt_of_le h.2 (Nat.pow_le_pow_right (by decide) hN)⟩
theorem p_lt.or {N : Nat} {s t : p_T} (h : p_lt N s) (k : p_lt N t) : p_lt N (p_or s t) := ⟨Nat.or_lt_two_pow h.1 k.1, Nat.or_lt_two_pow h.2 k.2⟩
theorem p_lt.seq {N : Nat} {s t : p_T} (h : p_lt N s) (k : p_lt N t) : p_lt N (p_seq s t) := by
  have h0 : 0 < 2 ^ N := Nat.two_pow_pos N
  refine ⟨Nat.or_lt_two_pow h.1 ?_, Nat.or_lt_two_pow k.2 ?_⟩
  · split
    · exact h0
    · exact k.1
  · split
    · exact h0
    · exact h.2
theorem p_lt.z {N b : Nat} : p_lt N (b, 0, 0) := ⟨Nat.two_pow_pos N, Nat.two_pow_pos N⟩
def x_bz (S : x_S) : Prop := (∀ j, c_n (x_C S) ≤ j → j < 13 → c_s (x_C S) j = 0) ∧ (∀ j, j < 13 → c_s (x_C S) j < 2 ^ c_n (x_C S)) ∧ ∀ i, i ≤ x_d S → p_lt (c_n (x_C S)) (x_ch S i) ∧ p_lt (c_n (x_C S)) (x_rw S i)
theorem as_0 {fm to n j : Nat} {s : Nat → Nat} (h : n ≤ j) : c_as fm to n s j = s j := by
  unfold c_as
  rw [if_neg (by omega)]
theorem as_lt {fm to n j N : Nat} {s : Nat → Nat} (h : s j < 2 ^ N) (ht : to < 2 ^ N) : c_as fm to n s j < 2 ^ N := by
  unfold c_as
  split
  · exact Nat.or_lt_two_pow h ht
  · exact h
theorem x_bz.star {o : Option Nat} {S : x_S} (h : x_bz S) (ht : p_lt (c_n (x_C S)) (x_tg S o)) (ho : ∀ i, o = some i → x_d S < i) : x_bz (x_star o S) ∧ p_lt (c_n (x_C (x_star o S))) (x_tg (x_star o S) o) := by
  cases o with
  | none => exact ⟨⟨fun j h1 h2 => (as_0 h1).trans (h.1 j h1 h2), fun j h1 => as_lt (h.2.1 j h1) ht.1, h.2.2⟩, ht⟩
  | some i =>
    have hi := ho i rfl
    refine ⟨⟨fun j h1 h2 => (as_0 h1).trans (h.1 j h1 h2), fun j h1 => as_lt (h.2.1 j h1) ht.1, fun j hj => ?_⟩, ?_⟩
    · have hj : j ≤ x_d S := hj
      refine ⟨?_, (h.2.2 j hj).2⟩
      show p_lt (c_n (x_C S)) (va_up (x_ch S) i _ j)
      rw [va_up_ne _ _ (by omega)]
      exact (h.2.2 j hj).1
    · show p_lt (c_n (x_C S)) (va_up (x_ch S) i _ i)
      rw [va_up_self]
      exact ht
theorem x_bz.sl {n : Nat} {tb : Nat → Nat} {o : Option Nat} : ∀ (k : Nat) (S : x_S), x_bz S → p_lt (c_n (x_C S)) (x_tg S o) → (∀ i, o = some i → x_d S < i) → x_bz (x_sl n tb o k S) ∧ p_lt (c_n (x_C (x_sl n tb o k S))) (x_tg (x_sl n tb o k S) o) := by
  intro k
  induction k with
  | zero => exact fun S h ht _ => ⟨h, ht⟩
  | succ k ih =>
    intro S h ht ho
    unfold x_sl
    split
    · have q := h.star ht ho
      exact ih _ q.1 q.2 (fun i hi => by rw [x_star_d]; exact ho i hi)
    · exact ⟨h, ht⟩
theorem x_bz.fin {o : Option Nat} {S : x_S} (h : x_bz S) (ht : p_lt (c_n (x_C S)) (x_tg S o)) : x_bz (x_end o S) := by
  refine ⟨fun j h1 h2 => (as_0 h1).trans (h.1 j h1 h2), fun j h1 => as_lt (h.2.1 j h1) ht.1, fun i hi => ?_⟩
  have hi : i ≤ x_d S := hi
  refine ⟨(h.2.2 i hi).1, ?_⟩
  show p_lt (c_n (x_C S)) (va_up (x_rw S) (x_d S) (p_seq (x_rw S (x_d S)) (x_tg S o)) i)
  by_cases e : i = x_d S
  · subst e
    rw [va_up_self]
    exact (h.2.2 (x_d S) hi).2.seq ht
  · rw [va_up_ne _ _ e]
    exact (h.2.2 i hi).2
theorem x_bz.add {n : Nat} {tb : Nat → Nat} {o : Option Nat} {S : x_S} (h : x_bz S) (ht : p_lt (c_n (x_C S)) (x_tg S o)) (ho : ∀ i, o = some i → x_d S < i) : x_bz (x_add n tb o S) := by
  have q := x_bz.sl (n := n) (tb := tb) (o := o) (n - x_a S) S h ht ho
  exact q.1.fin q.2
theorem x_bz.pt {n : Nat} {tb : Nat → Nat} {S : x_S} {kd ow fg : Nat} (h : x_bz S) : x_bz (x_pt n tb kd ow fg S) := by
  have hp : 2 ^ c_n (x_C S) < 2 ^ (c_n (x_C S) + 1) := Nat.pow_lt_pow_right (by decide) (Nat.lt_succ_self _)
  refine x_bz.add (o := none) (S := x_pre kd ow fg S) ⟨fun j h1 h2 => h.1 j (Nat.le_of_succ_le h1) h2, fun j h1 => Nat.lt_trans (h.2.1 j h1) hp, fun i hi => ⟨(h.2.2 i hi).1.mono (Nat.le_succ _), (h.2.2 i hi).2.mono (Nat.le_succ _)⟩⟩ ⟨hp, hp⟩ (fun i hi => by cases hi)
theorem x_bz.ra {n : Nat} {tb : Nat → Nat} {nv : Nat} {z : Nat → Nat} {S : x_S} (h : x_bz S) : x_bz (x_ra n tb nv z S) := by
  unfold x_ra
  split
  · split
    · exact h
    · exact x_bz.pt (S := x_at1 S) h
  · split
    · split
      · exact h
      · split
        · split
          · split
            · exact x_bz.pt (S := x_at1 (x_at1 (x_at1 S))) h
            · exact h
          · exact x_bz.pt (S := x_at1 (x_at1 S)) h
        · exact h
    · exact h
theorem x_bz.ec {S : x_S} (h : x_bz S) : x_bz (x_ec S) := by
  refine ⟨h.1, h.2.1, fun i hi => ?_⟩
  have hi : i ≤ x_d S := hi
  show p_lt (c_n (x_C S)) (va_up (x_ch S) (x_d S) (p_or (x_ch S (x_d S)) (x_rw S (x_d S))) i) ∧ p_lt (c_n (x_C S)) (va_up (x_rw S) (x_d S) (1, 0, 0) i)
  by_cases e : i = x_d S
  · subst e
    rw [va_up_self, va_up_self]
    exact ⟨(h.2.2 (x_d S) hi).1.or (h.2.2 (x_d S) hi).2, p_lt.z⟩
  · rw [va_up_ne _ _ e, va_up_ne _ _ e]
    exact h.2.2 i hi
theorem x_bz.rn {n : Nat} {tb : Nat → Nat} {nv : Nat} {z : Nat → Nat} {S : x_S} (h : x_bz S) : x_bz (x_rn n tb nv z S) := by
  unfold x_rn
  split
  · exact x_bz.ec (S := x_at1 S) h
  · split
    · unfold x_ot
      split
      · exact h
      · refine ⟨h.1, h.2.1, fun i hi => ?_⟩
        have hi : i ≤ x_d S + 1 := hi
        show p_lt (c_n (x_C S)) (va_up (x_ch S) (x_d S + 1) (0, 0, 0) i) ∧ p_lt (c_n (x_C S)) (va_up (x_rw S) (x_d S + 1) (1, 0, 0) i)
        by_cases e : i = x_d S + 1
        · subst e
          rw [va_up_self, va_up_self]
          exact ⟨p_lt.z, p_lt.z⟩
        · rw [va_up_ne _ _ e, va_up_ne _ _ e]
          exact h.2.2 i (by omega)
    · split
      · unfold x_ct
        split
        · exact h
        · next q =>
          have q1 := x_bz.ec (S := x_at1 S) h
          refine x_bz.add (o := some (x_d S)) (S := x_cl S) ⟨h.1, h.2.1, fun i hi => q1.2.2 i (Nat.le_trans hi (Nat.sub_le _ _))⟩ (q1.2.2 (x_d S) (Nat.le_refl _)).1 (fun i hi => ?_)
          cases hi
          show x_d S - 1 < x_d S
          omega
      · exact h.ra
theorem x_bz.rl {n : Nat} {tb : Nat → Nat} {nv : Nat} {z : Nat → Nat} : ∀ (k : Nat) (S : x_S), x_bz S → x_bz (x_rl n tb nv z k S) := by
  intro k
  induction k with
  | zero => exact fun S h => h
  | succ k ih =>
    intro S h
    unfold x_rl
    split
    · exact ih _ h.rn
    · exact h
theorem x_bz.b0 (S : x_S) : x_bz (x_b0 S) := by
  refine ⟨fun j _ h2 => if_pos h2, fun j h1 => ?_, fun i hi => ?_⟩
  · show (if j < 13 then 0 else _) < _
    rw [if_pos h1]
    exact Nat.two_pow_pos _
  · have hi : i ≤ 0 := hi
    obtain rfl : i = 0 := by omega
    show p_lt 1 (va_up (x_ch S) 0 (0, 0, 0) 0) ∧ p_lt 1 (va_up (x_rw S) 0 (1, 0, 0) 0)
    rw [va_up_self, va_up_self]
    exact ⟨p_lt.z, p_lt.z⟩
theorem x_bz.ld {n : Nat} {tb : Nat → Nat} {nv : Nat} {z : Nat → Nat} (S : x_S) : x_bz (x_ld n tb nv z S) := by
  have q := x_bz.rl (n := n) (tb := tb) (nv := nv) (z := z) 100 _ (x_bz.b0 S)
  unfold x_ld x_cl1
  split
  · exact q
  · exact q
/-- what a text leaves of its course -/
def c_bz (C : c_T) : Prop := ∀ j, j < 13 → c_s C j < 2 ^ c_n C
theorem x_bz.rd {n : Nat} {tb : Nat → Nat} {nv : Nat} {z : Nat → Nat} (S : x_S) : c_bz (x_C (x_rd n tb nv z S)) := by
  have q := x_bz.ld (n := n) (tb := tb) (nv := nv) (z := z) S
  unfold x_rd
  split
  · intro j hj
    have q2 := q.ec
    show va_up (c_s (x_C (x_ld n tb nv z S))) 0 _ j < 2 ^ c_n (x_C (x_ld n tb nv z S))
    by_cases e : j = 0
    · subst e
      rw [va_up_self]
      exact (q2.2.2 _ (Nat.le_refl _)).1.1
    · rw [va_up_ne _ _ e]
      exact q.2.1 j hj
  · exact q.2.1
theorem x_sl_a {n : Nat} {tb : Nat → Nat} {o : Option Nat} : ∀ (k : Nat) (S : x_S), x_a S ≤ x_a (x_sl n tb o k S) := by
  intro k
  induction k with
  | zero => exact fun S => Nat.le_refl _
  | succ k ih =>
    intro S
    unfold x_sl
    split
    · have := ih (x_star o S)
      rw [x_star_a] at this
      omega
    · exact Nat.le_refl _
theorem x_add_a {n : Nat} {tb : Nat → Nat} {o : Option Nat} {S : x_S} : x_a S ≤ x_a (x_add n tb o S) := x_sl_a _ _
theorem x_pt_a {n : Nat} {tb : Nat → Nat} {kd ow fg : Nat} {S : x_S} : x_a S ≤ x_a (x_pt n tb kd ow fg S) := x_add_a (S := x_pre kd ow fg S)
theorem x_rn_a {n : Nat} {tb : Nat → Nat} {nv : Nat} {z : Nat → Nat} {S : x_S} : ¬ x_k (x_rn n tb nv z S) = 0 ∨ x_a S + 1 ≤ x_a (x_rn n tb nv z S) := by
  unfold x_rn
  split
  · exact Or.inr (Nat.le_refl _)
  · split
    · unfold x_ot
      split
      · exact Or.inl (by show ¬ 3 = 0; decide)
      · exact Or.inr (Nat.le_refl _)
    · split
      · unfold x_ct
        split
        · exact Or.inl (by show ¬ 1 = 0; decide)
        · exact Or.inr (x_add_a (S := x_cl S))
      · unfold x_ra
        split
        · split
          · exact Or.inl (by show ¬ 2 = 0; decide)
          · exact Or.inr (x_pt_a (S := x_at1 S))
        · split
          · split
            · exact Or.inl (by show ¬ 2 = 0; decide)
            · split
              · split
                · split
                  · exact Or.inr (Nat.le_trans (by show x_a S + 1 ≤ x_a S + 1 + 1 + 1; omega) (x_pt_a (S := x_at1 (x_at1 (x_at1 S)))))
                  · exact Or.inl (by show ¬ 1 = 0; decide)
                · exact Or.inr (Nat.le_trans (by show x_a S + 1 ≤ x_a S + 1 + 1; omega) (x_pt_a (S := x_at1 (x_at1 S))))
              · exact Or.inl (by show ¬ 1 = 0; decide)
          · exact Or.inl (by show ¬ 1 = 0; decide)
def c_ky (nv : Nat) (z : Nat → Nat) (C : c_T) : Prop := ∀ j, 1 ≤ j → j < c_n C → (b_kd (c_k C j) = true ∧ c_v C j < nv ∧ c_f C j < z (c_v C j)) ∨ (c_k C j = 46 ∧ c_v C j = 0 ∧ c_f C j = 0)
def w_ky (w : w_T) : Prop := ∀ q, q < w_p w → c_ky (w_n w) (w_z w) (w_c w q)
theorem w_ky.av {w : w_T} {x y : Nat} (h : w_ky w) (hx : 2 ≤ x) : w_ky (w_av w x y) := by
  intro q hq j h1 h2
  rcases h q hq j h1 h2 with a | a
  · refine Or.inl ⟨a.1, Nat.lt_succ_of_lt a.2.1, ?_⟩
    show c_f (w_c w q) j < va_up (w_z w) (w_n w) x (c_v (w_c w q) j)
    unfold va_up
    rw [if_neg (by omega)]
    exact a.2.2
  · exact Or.inr a
theorem w_ky.cl {w : w_T} : w_ky (w_cl w) := fun q hq => absurd hq (Nat.not_lt_zero q)
section
variable {nv : Nat} {z : Nat → Nat} {n : Nat} {tb : Nat → Nat}
theorem ky_star {o : Option Nat} {S : x_S} (h : c_ky nv z (x_C S)) : c_ky nv z (x_C (x_star o S)) := by
  cases o with
  | none => exact h
  | some i => exact h
theorem ky_sl {o : Option Nat} : ∀ (k : Nat) (S : x_S), c_ky nv z (x_C S) → c_ky nv z (x_C (x_sl n tb o k S)) := by
  intro k
  induction k with
  | zero => exact fun S h => h
  | succ k ih =>
    intro S h
    unfold x_sl
    split
    · exact ih _ (ky_star h)
    · exact h
theorem ky_add {o : Option Nat} {S : x_S} (h : c_ky nv z (x_C S)) : c_ky nv z (x_C (x_add n tb o S)) := ky_sl (n := n) (tb := tb) (o := o) _ S h
theorem ky_pt {kd ow fg : Nat} {S : x_S} (h : c_ky nv z (x_C S)) (hy : (b_kd kd = true ∧ ow < nv ∧ fg < z ow) ∨ (kd = 46 ∧ ow = 0 ∧ fg = 0)) : c_ky nv z (x_C (x_pt n tb kd ow fg S)) := by
  refine ky_add ?_
  intro j h1 h2
  have h2 : j < c_n (x_C S) + 1 := h2
  show (b_kd (va_up (c_k (x_C S)) (c_n (x_C S)) kd j) = true ∧ va_up (c_v (x_C S)) (c_n (x_C S)) ow j < nv ∧ va_up (c_f (x_C S)) (c_n (x_C S)) fg j < z (va_up (c_v (x_C S)) (c_n (x_C S)) ow j)) ∨ (va_up (c_k (x_C S)) (c_n (x_C S)) kd j = 46 ∧ va_up (c_v (x_C S)) (c_n (x_C S)) ow j = 0 ∧ va_up (c_f (x_C S)) (c_n (x_C S)) fg j = 0)
  unfold va_up
  by_cases e : j = c_n (x_C S)
  · rw [if_pos e, if_pos e, if_pos e]
    exact hy
  · rw [if_neg e, if_neg e, if_neg e]
    exact h j h1 (by omega)
theorem ky_ra {S : x_S} (hz : ∀ v, v < nv → 1 ≤ z v) (h : c_ky nv z (x_C S)) : c_ky nv z (x_C (x_ra n tb nv z S)) := by
  unfold x_ra
  split
  · split
    · exact h
    · exact ky_pt (S := x_at1 S) h (Or.inr ⟨rfl, rfl, rfl⟩)
  · split
    · next h1 =>
      have hv : t_b n tb (x_a S) - 97 < nv := by omega
      split
      · exact h
      · split
        · next hb =>
          split
          · split
            · next h5 => exact ky_pt (S := x_at1 (x_at1 (x_at1 S))) h (Or.inl ⟨hb, hv, by omega⟩)
            · exact h
          · exact ky_pt (S := x_at1 (x_at1 S)) h (Or.inl ⟨hb, hv, hz _ hv⟩)
        · exact h
    · exact h
theorem ky_rn {S : x_S} (hz : ∀ v, v < nv → 1 ≤ z v) (h : c_ky nv z (x_C S)) : c_ky nv z (x_C (x_rn n tb nv z S)) := by
  unfold x_rn
  split
  · exact h
  · split
    · unfold x_ot
      split
      · exact h
      · exact h
    · split
      · unfold x_ct
        split
        · exact h
        · exact ky_add (S := x_cl S) h
      · exact ky_ra hz h
theorem ky_rl (hz : ∀ v, v < nv → 1 ≤ z v) : ∀ (k : Nat) (S : x_S), c_ky nv z (x_C S) → c_ky nv z (x_C (x_rl n tb nv z k S)) := by
  intro k
  induction k with
  | zero => exact fun S h => h
  | succ k ih =>
    intro S h
    unfold x_rl
    split
    · exact ih _ (ky_rn hz h)
    · exact h
theorem ky_rd {S : x_S} (hz : ∀ v, v < nv → 1 ≤ z v) : c_ky nv z (x_C (x_rd n tb nv z S)) := by
  have h0 : c_ky nv z (x_C (x_b0 S)) := fun j h1 h2 => by
    have h2 : j < 1 := h2
    omega
  have h1 : c_ky nv z (x_C (x_ld n tb nv z S)) := by
    have := ky_rl (n := n) (tb := tb) hz 100 _ h0
    unfold x_ld x_cl1
    split
    · exact this
    · exact this
  unfold x_rd
  split
  · exact h1
  · exact h1
end
theorem w_ky.sc {w : w_T} {C : c_T} (h : w_ky w) : w_ky (w_sc w (w_p w) C) := by
  intro q hq
  have hq : q < w_p w := hq
  show c_ky (w_n w) (w_z w) (if q = w_p w then C else w_c w q)
  rw [if_neg (by omega)]
  exact h q hq
theorem w_ky.in {w : w_T} {C : c_T} (h : w_ky w) (hC : c_ky (w_n w) (w_z w) C) : w_ky (w_in (w_sc w (w_p w) C)) := by
  intro q hq
  have hq : q < w_p w + 1 := hq
  show c_ky (w_n w) (w_z w) (if q = w_p w then C else w_c w q)
  by_cases e : q = w_p w
  · rw [if_pos e]; exact hC
  · rw [if_neg e]; exact h q (by omega)
end M6
