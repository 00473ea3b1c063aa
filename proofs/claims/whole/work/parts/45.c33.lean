/-! the spare course does not matter -/
section C33
def w_eq (w w' : w_T) : Prop := w_z w' = w_z w ∧ w_f w' = w_f w ∧ w_p w' = w_p w ∧ (∀ q, q < w_p w → w_c w' q = w_c w q)
theorem e_q1 {w w' : w_T} (e : w_eq w w') : ∀ r, r ≤ w_p w → w_q1 w' r = w_q1 w r := by
  intro r
  induction r with
  | zero => intro _; rfl
  | succ r ih =>
    intro hr
    show w_q1 w' r * c_n (w_c w' r) = w_q1 w r * c_n (w_c w r)
    rw [ih (by omega), e.2.2.2 r (by omega)]
theorem e_q2 {w w' : w_T} (e : w_eq w w') : ∀ r, w_q2 w' r = w_q2 w r := by
  intro r
  induction r with
  | zero =>
    show w_q1 w' (w_p w') = w_q1 w (w_p w)
    rw [e.2.2.1, e_q1 e _ (Nat.le_refl _)]
  | succ r ih =>
    show w_q2 w' r * w_z w' r = w_q2 w r * w_z w r
    rw [ih, e.1]
theorem e_q {w w' : w_T} (e : w_eq w w') : w_q w' = w_q w := e_q2 e 5
theorem e_u1 {w w' : w_T} (e : w_eq w w') (pl : Nat → Nat) : ∀ r, r ≤ w_p w → w_u1 w' pl r = w_u1 w pl r := by
  intro r
  induction r with
  | zero => intro _; rfl
  | succ r ih =>
    intro hr
    show w_u1 w' pl r * c_n (w_c w' r) + pl r = w_u1 w pl r * c_n (w_c w r) + pl r
    rw [ih (by omega), e.2.2.2 r (by omega)]
theorem e_u2 {w w' : w_T} (e : w_eq w w') (pl vl : Nat → Nat) : ∀ r, w_u2 w' pl vl r = w_u2 w pl vl r := by
  intro r
  induction r with
  | zero =>
    show w_u1 w' pl (w_p w') = w_u1 w pl (w_p w)
    rw [e.2.2.1, e_u1 e pl _ (Nat.le_refl _)]
  | succ r ih =>
    show w_u2 w' pl vl r * w_z w' r + vl r = w_u2 w pl vl r * w_z w r + vl r
    rw [ih, e.1]
theorem e_u {w w' : w_T} (e : w_eq w w') (pl vl : Nat → Nat) : w_u w' pl vl = w_u w pl vl := e_u2 e pl vl 5
theorem e_r2 {w w' : w_T} (e : w_eq w w') (n : Nat) : ∀ k, w_r2 w' n k = w_r2 w n k := by
  intro k
  induction k with
  | zero => rfl
  | succ k ih =>
    show w_r2 w' n k / w_z w' (4 - k) = w_r2 w n k / w_z w (4 - k)
    rw [ih, e.1]
theorem e_r1 {w w' : w_T} (e : w_eq w w') (n : Nat) : ∀ k, k ≤ w_p w → w_r1 w' n k = w_r1 w n k := by
  intro k
  induction k with
  | zero => intro _; exact e_r2 e n 5
  | succ k ih =>
    intro hk
    show w_r1 w' n k / c_n (w_c w' (w_p w' - 1 - k)) = w_r1 w n k / c_n (w_c w (w_p w - 1 - k))
    rw [ih (by omega), e.2.2.1, e.2.2.2 _ (by omega)]
theorem e_vk {w w' : w_T} (e : w_eq w w') : ∀ k, w_vk w' k = w_vk w k := by
  intro k
  induction k with
  | zero => rfl
  | succ k ih =>
    show w_vk w' k * w_z w' (4 - k) = w_vk w k * w_z w (4 - k)
    rw [ih, e.1]
theorem e_pk {w w' : w_T} (e : w_eq w w') : ∀ k, k ≤ w_p w → w_pk w' k = w_pk w k := by
  intro k
  induction k with
  | zero => intro _; exact e_vk e 5
  | succ k ih =>
    intro hk
    show w_pk w' k * c_n (w_c w' (w_p w' - 1 - k)) = w_pk w k * c_n (w_c w (w_p w - 1 - k))
    rw [ih (by omega), e.2.2.1, e.2.2.2 _ (by omega)]
theorem e_pl {w w' : w_T} (e : w_eq w w') (n : Nat) (f : Nat → Nat) : w_pl w' n f = w_pl w n f := by
  funext j
  unfold w_pl
  rw [e.2.2.1]
  by_cases h : j < w_p w
  · rw [if_pos h, if_pos h]
    unfold w_dp
    rw [e.2.2.1, e_r1 e n _ (by omega), e.2.2.2 j h]
  · rw [if_neg h, if_neg h]
theorem e_vv {w w' : w_T} (e : w_eq w w') (n : Nat) (f : Nat → Nat) : w_vv w' n f = w_vv w n f := by
  funext j
  unfold w_vv w_dv
  rw [e_r2 e, e.1]
theorem e_can {w w' : w_T} (e : w_eq w w') (pl vl : Nat → Nat) {q : Nat} (hq : q < w_p w) (j : Nat) : w_can w' pl vl q j = w_can w pl vl q j := by
  unfold w_can
  rw [e.2.2.2 q hq, e.1]
theorem e_nx {w w' : w_T} (e : w_eq w w') (pl vl : Nat → Nat) {q : Nat} (hq : q < w_p w) (j : Nat) : w_nx w' pl vl q j = w_nx w pl vl q j := by
  unfold w_nx
  rw [e_u e, e.2.2.2 q hq]
  unfold w_oc
  rw [e.2.2.2 q hq, e.1]
theorem e_sp {w w' : w_T} (e : w_eq w w') (pl vl : Nat → Nat) {q : Nat} (hq : q < w_p w) (m : Nat) : ∀ k, sp w' pl vl q k m = sp w pl vl q k m := by
  intro k
  induction k with
  | zero => rfl
  | succ k ih =>
    show (sp w' pl vl q k m || (w_can w' pl vl q (k + 1) && decide (m = w_nx w' pl vl q (k + 1)))) = (sp w pl vl q k m || (w_can w pl vl q (k + 1) && decide (m = w_nx w pl vl q (k + 1))))
    rw [ih, e_can e pl vl hq, e_nx e pl vl hq]
theorem e_op {w w' : w_T} (e : w_eq w w') (pl vl : Nat → Nat) {q : Nat} (hq : q < w_p w) : ∀ k, w_op w' pl vl q k = w_op w pl vl q k := by
  intro k
  induction k with
  | zero => rfl
  | succ k ih =>
    unfold w_op
    rw [ih, e_can e pl vl hq]
theorem e_spa {w w' : w_T} (e : w_eq w w') (pl vl : Nat → Nat) (m : Nat) : ∀ q, q ≤ w_p w → spa w' pl vl q m = spa w pl vl q m := by
  intro q
  induction q with
  | zero => intro _; rfl
  | succ q ih =>
    intro hq
    show (spa w' pl vl q m || sp w' pl vl q (c_n (w_c w' q) - 1) m) = (spa w pl vl q m || sp w pl vl q (c_n (w_c w q) - 1) m)
    rw [ih (by omega), e_sp e pl vl hq, e.2.2.2 q hq]
theorem e_st {w w' : w_T} (e : w_eq w w') (pl vl : Nat → Nat) : ∀ q, q ≤ w_p w → w_st w' pl vl q = w_st w pl vl q := by
  intro q
  induction q with
  | zero => intro _; rfl
  | succ q ih =>
    intro hq
    show (w_st w' pl vl q && decide (w_op w' pl vl q (c_n (w_c w' q) - 1) = 0)) = (w_st w pl vl q && decide (w_op w pl vl q (c_n (w_c w q) - 1) = 0))
    rw [ih (by omega), e_op e pl vl hq, e.2.2.2 q hq]
theorem e_ae {w w' : w_T} (e : w_eq w w') (pl : Nat → Nat) : ∀ q, q ≤ w_p w → w_ae w' pl q = w_ae w pl q := by
  intro q
  induction q with
  | zero => intro _; rfl
  | succ q ih =>
    intro hq
    show (w_ae w' pl q && (c_e (w_c w' q)).testBit (pl q)) = (w_ae w pl q && (c_e (w_c w q)).testBit (pl q))
    rw [ih (by omega), e.2.2.2 q hq]
theorem e_Nsc {w w' : w_T} (e : w_eq w w') : N_sc w' = N_sc w := by
  funext n m
  unfold N_sc
  rw [e_pl e, e_vv e, e.2.2.1, e_spa e _ _ m _ (Nat.le_refl _)]
theorem e_Nst {w w' : w_T} (e : w_eq w w') : N_st w' = N_st w := by
  funext n
  unfold N_st
  rw [e_pl e, e_vv e, e.2.2.1, e_st e _ _ _ (Nat.le_refl _)]
theorem e_Nae {w w' : w_T} (e : w_eq w w') : N_ae w' = N_ae w := by
  funext n
  unfold N_ae
  rw [e_pl e, e.2.2.1, e_ae e _ _ (Nat.le_refl _)]
theorem e_S {w w' : w_T} (e : w_eq w w') : w_S w' = w_S w := by
  funext x y
  unfold w_S
  rw [e_q e, e_Nsc e]
theorem e_0 {w w' : w_T} (e : w_eq w w') : w_0 w' = w_0 w := by
  unfold w_0
  rw [e_u e, e.2.1]
theorem e_W {w w' : w_T} (e : w_eq w w') {hp : List va_E} (h : S_W w hp) : S_W w' hp := by
  obtain ⟨⟨f1, a1, a2⟩, ⟨f2, b1, b2⟩⟩ := h
  refine ⟨⟨f1, a1, fun q hq => ?_⟩, ⟨f2, b1, fun v hv => ?_⟩⟩
  · rw [e.2.2.1] at hq
    rw [a2 q hq]
    unfold w_pw
    rw [e.2.2.1, e_pk e _ (by omega)]
  · rw [b2 v hv]
    unfold w_vw
    rw [e_vk e]
theorem e_K {w w' : w_T} (e : w_eq w w') {R St : Nat → Bool} {o : Nat × Nat × Nat × Nat} (h : S_K w R St o) : S_K w' R St o := by
  unfold S_K w_R at *
  rw [e_S e, e_0 e, e_Nst e, e_Nae e]
  exact h
theorem e_M {w w' : w_T} (e : w_eq w w') {Fa : Nat → Bool} (h : S_M w Fa) : S_M w' Fa := by
  unfold S_M w_R at *
  rw [e_S e, e_0 e, e_Nst e]
  exact h
/-- the search's knowledge stays, when the courses of the processes stay -/
theorem e_z {w w' : w_T} (e : w_eq w w') {B : z_S} {hp : List va_E} (h : z_K w B hp) : z_K w' B hp := by
  refine ⟨h.1, ?_⟩
  rcases h.2 with q | ⟨a, b, c, d, f⟩
  · exact Or.inl q
  · refine Or.inr ⟨a, e_W e b, e_K e c, by rw [e_q e]; exact d, ?_⟩
    rcases f with f | ⟨f1, f2⟩
    · exact Or.inl f
    · exact Or.inr ⟨f1, e_M e f2⟩
theorem e_sc (w : w_T) (C : c_T) : w_eq w (w_sc w (w_p w) C) := ⟨rfl, rfl, rfl, fun q hq => if_neg (by omega)⟩
theorem w_sc_ok {w : w_T} {C : c_T} (h : w_ok w) (hC : c_ok C) : w_ok (w_sc w (w_p w) C) := by
  refine ⟨h.1, h.2.1, h.2.2.1, fun q hq => ?_⟩
  show c_ok (if q = w_p w then C else w_c w q)
  split
  · exact hC
  · exact h.2.2.2 q hq
theorem w_in_ok {w : w_T} (h : w_ok w) (hp : w_p w < 6) : w_ok (w_in w) := ⟨h.1, hp, h.2.2.1, h.2.2.2⟩
theorem w_av_ok {w : w_T} {x y : Nat} (h : w_ok w) (hn : w_n w < 5) (hx2 : 2 ≤ x) (hx5 : x ≤ 5) (hyx : y < x) : w_ok (w_av w x y) := by
  refine ⟨hn, h.2.1, fun v hv => ?_, h.2.2.2⟩
  show 1 ≤ va_up (w_z w) (w_n w) x v ∧ va_up (w_z w) (w_n w) x v ≤ 5 ∧ va_up (w_f w) (w_n w) y v < va_up (w_z w) (w_n w) x v
  unfold va_up
  split
  · omega
  · exact h.2.2.1 v hv
theorem c_first {w : w_T} {cp cv : Nat → Nat} (h : w_ok w) : s_ok w (cp0 cp) (cv0 (w_f w) cv) := by
  refine ⟨fun q hq => ?_, fun q hq => ?_, fun v hv => ?_⟩
  · have := (h.2.2.2 q (by have := h.2.1; omega)).1
    unfold cp0
    rw [if_pos (by have := h.2.1; omega)]
    omega
  · unfold cp0
    rw [if_pos hq]
    decide
  · unfold cv0
    rw [if_pos hv]
    exact (h.2.2.1 v hv).2.2
theorem w_cl_fz {w : w_T} : w_fz (w_cl w) := fun q hq => absurd hq (Nat.not_lt_zero q)
end C33
