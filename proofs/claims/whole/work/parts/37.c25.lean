/-! Search: steps forth and back -/
section C25
variable {g : q_G}
theorem i_2 {w : w_T} {pl vl : Nat → Nat} (hv : ∀ v, v < 5 → vl v < w_z w v) : ∀ k, k ≤ 5 → w_r2 w (w_u w pl vl) k = w_u2 w pl vl (5 - k) := by
  intro k
  induction k with
  | zero => intro _; rfl
  | succ k ih =>
    intro hk
    have h := hv (4 - k) (by omega)
    show w_r2 w _ k / w_z w (4 - k) = _
    rw [ih (by omega), show 5 - k = (4 - k) + 1 by omega, show 5 - (k + 1) = 4 - k by omega]
    show (w_u2 w pl vl (4 - k) * w_z w (4 - k) + vl (4 - k)) / w_z w (4 - k) = _
    rw [Nat.add_comm, Nat.add_mul_div_right _ _ (by omega), Nat.div_eq_of_lt h, Nat.zero_add]
theorem i_1 {w : w_T} {pl vl : Nat → Nat} (hv : ∀ v, v < 5 → vl v < w_z w v) (h : ∀ q, q < w_p w → pl q < c_n (w_c w q)) : ∀ k, k ≤ w_p w → w_r1 w (w_u w pl vl) k = w_u1 w pl (w_p w - k) := by
  intro k
  induction k with
  | zero => intro _; exact i_2 hv 5 (Nat.le_refl _)
  | succ k ih =>
    intro hk
    have h := h (w_p w - 1 - k) (by omega)
    show w_r1 w _ k / c_n (w_c w (w_p w - 1 - k)) = _
    rw [ih (by omega), show w_p w - k = (w_p w - 1 - k) + 1 by omega, show w_p w - (k + 1) = w_p w - 1 - k by omega]
    show (w_u1 w pl (w_p w - 1 - k) * c_n (w_c w (w_p w - 1 - k)) + pl (w_p w - 1 - k)) / c_n (w_c w (w_p w - 1 - k)) = _
    rw [Nat.add_comm, Nat.add_mul_div_right _ _ (by omega), Nat.div_eq_of_lt h, Nat.zero_add]
theorem i_v {w : w_T} {pl vl : Nat → Nat} (hs : s_ok w pl vl) {v : Nat} (hv : v < 5) : w_dv w (w_u w pl vl) v = vl v := by
  unfold w_dv
  rw [i_2 hs.2.2 _ (by omega), show 5 - (4 - v) = v + 1 by omega]
  show (w_u2 w pl vl v * w_z w v + vl v) % w_z w v = _
  rw [Nat.add_comm, Nat.add_mul_mod_self_right, Nat.mod_eq_of_lt (hs.2.2 v hv)]
theorem i_p {w : w_T} {pl vl : Nat → Nat} (hs : s_ok w pl vl) {q : Nat} (hq : q < w_p w) : w_dp w (w_u w pl vl) q = pl q := by
  unfold w_dp
  rw [i_1 hs.2.2 hs.1 _ (by omega), show w_p w - (w_p w - 1 - q) = q + 1 by omega]
  show (w_u1 w pl q * c_n (w_c w q) + pl q) % c_n (w_c w q) = _
  rw [Nat.add_comm, Nat.add_mul_mod_self_right, Nat.mod_eq_of_lt (hs.1 q hq)]
theorem or_tt {a b : Bool} : (a || b) = true ↔ a = true ∨ b = true := by cases a <;> cases b <;> simp
theorem and_tt {a b : Bool} : (a && b) = true ↔ a = true ∧ b = true := by cases a <;> cases b <;> simp
theorem sp_iff {w : w_T} {pl vl : Nat → Nat} {q m : Nat} : ∀ k, sp w pl vl q k m = true ↔ ∃ j, 1 ≤ j ∧ j ≤ k ∧ w_can w pl vl q j = true ∧ m = w_nx w pl vl q j := by
  intro k
  induction k with
  | zero => exact ⟨fun h => (by cases h), fun ⟨j, a, b, _⟩ => by omega⟩
  | succ k ih =>
    show (sp w pl vl q k m || (w_can w pl vl q (k + 1) && decide (m = w_nx w pl vl q (k + 1)))) = true ↔ _
    rw [or_tt, and_tt, ih, decide_eq_true_iff]
    refine ⟨fun h => ?_, fun ⟨j, a, b, c, d⟩ => ?_⟩
    · rcases h with ⟨j, a, b, c⟩ | ⟨a, b⟩
      · exact ⟨j, a, by omega, c⟩
      · exact ⟨k + 1, by omega, Nat.le_refl _, a, b⟩
    · by_cases e : j = k + 1
      · subst e; exact Or.inr ⟨c, d⟩
      · exact Or.inl ⟨j, a, by omega, c, d⟩
theorem spa_iff {w : w_T} {pl vl : Nat → Nat} {m : Nat} : ∀ n, spa w pl vl n m = true ↔ ∃ q, q < n ∧ sp w pl vl q (c_n (w_c w q) - 1) m = true := by
  intro n
  induction n with
  | zero => exact ⟨fun h => (by cases h), fun ⟨q, a, _⟩ => by omega⟩
  | succ n ih =>
    show (spa w pl vl n m || sp w pl vl n (c_n (w_c w n) - 1) m) = true ↔ _
    rw [or_tt, ih]
    refine ⟨fun h => ?_, fun ⟨q, a, b⟩ => ?_⟩
    · rcases h with ⟨q, a, b⟩ | h
      · exact ⟨q, by omega, b⟩
      · exact ⟨n, by omega, h⟩
    · by_cases e : q = n
      · subst e; exact Or.inr b
      · exact Or.inl ⟨q, by omega, b⟩
theorem pf_iff {w : w_T} {pl vl : Nat → Nat} {q j m : Nat} : ∀ k, pf w pl vl q j k m = true ↔ ∃ f, f < k ∧ (c_s (w_c w q) f).testBit j = true ∧ m = w_u w (va_up pl q f) vl := by
  intro k
  induction k with
  | zero => exact ⟨fun h => (by cases h), fun ⟨q, a, _⟩ => by omega⟩
  | succ k ih =>
    show (pf w pl vl q j k m || ((c_s (w_c w q) k).testBit j && decide (m = w_u w (va_up pl q k) vl))) = true ↔ _
    rw [or_tt, and_tt, ih, decide_eq_true_iff]
    refine ⟨fun h => ?_, fun ⟨f, a, b, c⟩ => ?_⟩
    · rcases h with ⟨f, a, b⟩ | ⟨a, b⟩
      · exact ⟨f, by omega, b⟩
      · exact ⟨k, by omega, a, b⟩
    · by_cases e : f = k
      · subst e; exact Or.inr ⟨b, c⟩
      · exact Or.inl ⟨f, by omega, b, c⟩
theorem pv_iff {w : w_T} {pl vl : Nat → Nat} {q j m : Nat} : ∀ k, pv w pl vl q j k m = true ↔ ∃ b, b < k ∧ wo_o (c_k (w_c w q) j) (c_f (w_c w q) j) b (w_z w (c_v (w_c w q) j)) = some (vl (c_v (w_c w q) j)) ∧ pf w pl (va_up vl (c_v (w_c w q) j) b) q j (c_n (w_c w q)) m = true := by
  intro k
  induction k with
  | zero => exact ⟨fun h => (by cases h), fun ⟨q, a, _⟩ => by omega⟩
  | succ k ih =>
    show (pv w pl vl q j k m || (decide (wo_o (c_k (w_c w q) j) (c_f (w_c w q) j) k (w_z w (c_v (w_c w q) j)) = some (vl (c_v (w_c w q) j))) && pf w pl (va_up vl (c_v (w_c w q) j) k) q j (c_n (w_c w q)) m)) = true ↔ _
    rw [or_tt, and_tt, ih, decide_eq_true_iff]
    refine ⟨fun h => ?_, fun ⟨f, a, b, c⟩ => ?_⟩
    · rcases h with ⟨f, a, b⟩ | ⟨a, b⟩
      · exact ⟨f, by omega, b⟩
      · exact ⟨k, by omega, a, b⟩
    · by_cases e : f = k
      · subst e; exact Or.inr ⟨b, c⟩
      · exact Or.inl ⟨f, by omega, b, c⟩
theorem pb_iff {w : w_T} {pl vl : Nat → Nat} {m : Nat} : ∀ n, pb w pl vl n m = true ↔ ∃ q, q < n ∧ pl q ≠ 0 ∧ pv w pl vl q (pl q) (w_z w (c_v (w_c w q) (pl q))) m = true := by
  intro n
  induction n with
  | zero => exact ⟨fun h => (by cases h), fun ⟨q, a, _⟩ => by omega⟩
  | succ n ih =>
    show (pb w pl vl n m || (decide (pl n ≠ 0) && pv w pl vl n (pl n) (w_z w (c_v (w_c w n) (pl n))) m)) = true ↔ _
    rw [or_tt, and_tt, ih, decide_eq_true_iff]
    refine ⟨fun h => ?_, fun ⟨q, a, b, c⟩ => ?_⟩
    · rcases h with ⟨q, a, b⟩ | ⟨a, b⟩
      · exact ⟨q, by omega, b⟩
      · exact ⟨n, by omega, a, b⟩
    · by_cases e : q = n
      · subst e; exact Or.inr ⟨b, c⟩
      · exact Or.inl ⟨q, by omega, b, c⟩
theorem pl_i {w : w_T} {pl vl : Nat → Nat} (hs : s_ok w pl vl) : ∀ q, q < w_p w → w_pl w (w_u w pl vl) (fun _ => 0) q = pl q := fun q hq => by
  unfold w_pl
  rw [if_pos hq, i_p hs hq]
theorem vv_i {w : w_T} {pl vl : Nat → Nat} (hs : s_ok w pl vl) : ∀ v, v < 5 → w_vv w (w_u w pl vl) (fun _ => 0) v = vl v := fun v hv => by
  unfold w_vv
  rw [if_pos hv, i_v hs hv]
/-- one step, of a state -/
theorem sc_iff {w : w_T} {pl vl : Nat → Nat} {m : Nat} (hok : w_ok w) (hs : s_ok w pl vl) : N_sc w (w_u w pl vl) m = true ↔ ∃ q j y, q < w_p w ∧ 1 ≤ j ∧ j < c_n (w_c w q) ∧ (c_s (w_c w q) (pl q)).testBit j = true ∧ w_oc w vl q j = some y ∧ m = w_u w (va_up pl q j) (va_up vl (c_v (w_c w q) j) y) := by
  unfold N_sc
  rw [spa_congr hok (pl_i hs) (vv_i hs) m _ (Nat.le_refl _), spa_iff]
  refine ⟨fun ⟨q, a, b⟩ => ?_, fun ⟨q, j, y, a, b, c, d, e, f⟩ => ⟨q, a, (sp_iff _).mpr ⟨j, b, by omega, ?_, ?_⟩⟩⟩
  · obtain ⟨j, b1, b2, b3, b4⟩ := (sp_iff _).mp b
    unfold w_can at b3
    obtain ⟨c1, c2⟩ := and_tt.mp b3
    obtain ⟨y, hy⟩ := Option.isSome_iff_exists.mp c2
    have hc := (hok.2.2.2 q (by have := hok.2.1; omega)).1
    refine ⟨q, j, y, a, b1, by omega, c1, hy, ?_⟩
    rw [b4]
    unfold w_nx
    rw [show w_oc w vl q j = some y from hy]
    rfl
  · unfold w_can
    rw [d, show wo_o _ _ _ _ = some y from e]
    rfl
  · unfold w_nx
    rw [e]
    exact f
theorem pr_iff {w : w_T} {pl vl : Nat → Nat} {m : Nat} (hok : w_ok w) (hs : s_ok w pl vl) : N_pr w (w_u w pl vl) m = true ↔ ∃ q f b, q < w_p w ∧ pl q ≠ 0 ∧ b < w_z w (c_v (w_c w q) (pl q)) ∧ wo_o (c_k (w_c w q) (pl q)) (c_f (w_c w q) (pl q)) b (w_z w (c_v (w_c w q) (pl q))) = some (vl (c_v (w_c w q) (pl q))) ∧ f < c_n (w_c w q) ∧ (c_s (w_c w q) f).testBit (pl q) = true ∧ m = w_u w (va_up pl q f) (va_up vl (c_v (w_c w q) (pl q)) b) := by
  unfold N_pr
  rw [pb_congr hok (pl_i hs) (vv_i hs) (fun q hq => by rw [pl_i hs q hq]; exact hs.2.1 q (by have := hok.2.1; omega)) m _ (Nat.le_refl _), pb_iff]
  refine ⟨fun ⟨q, a, b, c⟩ => ?_, fun ⟨q, f, b, a, h1, h2, h3, h4, h5, h6⟩ => ⟨q, a, h1, (pv_iff _).mpr ⟨b, h2, h3, (pf_iff _).mpr ⟨f, h4, h5, h6⟩⟩⟩⟩
  obtain ⟨b', d1, d2, d3⟩ := (pv_iff _).mp c
  obtain ⟨f, e1, e2, e3⟩ := (pf_iff _).mp d3
  exact ⟨q, f, b', a, b, d1, d2, e1, e2, e3⟩
theorem up_up {f : Nat → Nat} {k x : Nat} : va_up (va_up f k x) k (f k) = f := by
  funext j
  unfold va_up
  by_cases e : j = k
  · subst e; rw [if_pos rfl]
  · rw [if_neg e, if_neg e]
theorem up_at {f : Nat → Nat} {k x : Nat} : va_up f k x k = x := if_pos rfl
theorem pr_sc {w : w_T} {x y : Nat} (hok : w_ok w) (hy : y < w_q w) (h : N_pr w y x = true) : x < w_q w ∧ N_sc w x y = true := by
  have hs : s_ok w (w_pl w y (fun _ => 0)) (w_vv w y (fun _ => 0)) := w_pl_ok hok (fun _ _ => by decide)
  have hu := w_pl_u (pl := fun _ => 0) (vl := fun _ => 0) hy
  generalize w_pl w y (fun _ => 0) = pl at *
  generalize w_vv w y (fun _ => 0) = vl at *
  rw [← hu] at h
  obtain ⟨q, f, b, h1, h2, h3, h4, h5, h6, h7⟩ := (pr_iff hok hs).mp h
  have hs2 := up_ok2 (up_ok1 (k := f) hok hs h1 h5) h3
  subst h7
  refine ⟨s_lt hs2, (sc_iff hok hs2).mpr ⟨q, pl q, vl (c_v (w_c w q) (pl q)), h1, by omega, hs.1 q h1, ?_, ?_, ?_⟩⟩
  · rw [up_at]; exact h6
  · show wo_o _ _ (va_up vl (c_v (w_c w q) (pl q)) b (c_v (w_c w q) (pl q))) _ = _
    rw [up_at]; exact h4
  · rw [up_up, up_up]; exact hu.symm
theorem sc_pr {w : w_T} {x y : Nat} (hok : w_ok w) (hfz : w_fz w) (hx : x < w_q w) (h : N_sc w x y = true) : N_pr w y x = true := by
  have hs : s_ok w (w_pl w x (fun _ => 0)) (w_vv w x (fun _ => 0)) := w_pl_ok hok (fun _ _ => by decide)
  have hu := w_pl_u (pl := fun _ => 0) (vl := fun _ => 0) hx
  generalize w_pl w x (fun _ => 0) = pl at *
  generalize w_vv w x (fun _ => 0) = vl at *
  rw [← hu] at h
  obtain ⟨q, j, y', h1, h2, h3, h4, h5, h6⟩ := (sc_iff hok hs).mp h
  have hs2 := nx_ok hok hfz hs h1 h2 h3 h5
  have hc := (hok.2.2.2 q (by have := hok.2.1; omega)).2.1
  have hv := ((hok.2.2.2 q (by have := hok.2.1; omega)).2.2.2 j (by omega)).2.2.1
  subst h6
  refine (pr_iff hok hs2).mpr ⟨q, pl q, vl (c_v (w_c w q) j), h1, ?_, ?_, ?_, hs.1 q h1, ?_, ?_⟩
  · rw [up_at]; omega
  · rw [up_at]; exact hs.2.2 _ hv
  · rw [up_at, up_at]; exact h5
  · rw [up_at]; exact h4
  · rw [up_at, up_up, up_up]; exact hu.symm
/-- what is known of those that fall -/
def S_M (w : w_T) (Fa : Nat → Bool) : Prop := ∀ m, m < 30016 → (Fa m = true ↔ w_R w m ∧ ∃ u, N_st w u = true ∧ rr_R (w_S w) m u)
def S_G (w : w_T) (R St Fa Wa : Nat → Bool) (r : Nat) : Prop :=
  (∀ m, m < 30016 → St m = true → Fa m = true) ∧ (∀ m, m < 30016 → Fa m = true → R m = true ∧ ∃ u, N_st w u = true ∧ rr_R (w_S w) m u) ∧ (∀ m, m < 30016 → Wa m = true → Fa m = true) ∧ (∀ y x, y < 30016 → x < 30016 → Fa y = true → Wa y = false → R x = true → N_pr w y x = true → Fa x = true) ∧ cn (fun m => Fa m && !Wa m) 30016 = r
theorem R_lt {w : w_T} (hok : w_ok w) (hfz : w_fz w) {m : Nat} (h : w_R w m) : m < w_q w := h (fun t => t < w_q w) (w_0_lt hok) (fun _ _ _ s => N_sc_lt hok hfz s.2)
theorem S_G.done {w : w_T} {R St Fa Wa : Nat → Bool} {o : Nat × Nat × Nat × Nat} {r : Nat} (hok : w_ok w) (hfz : w_fz w) (hN : w_q w ≤ 30000) (hK : S_K w R St o) (h : S_G w R St Fa Wa r) (hW : ∀ m, m < 30016 → Wa m = false) : S_M w Fa := by
  obtain ⟨h1, h2, h3, h4, h5⟩ := h
  intro m hm
  refine ⟨fun q => ⟨(hK.1 m hm).mp (h2 m hm q).1, (h2 m hm q).2⟩, fun ⟨q1, q2⟩ => ?_⟩
  refine ((rr_back (S := w_S w) (C := w_R w) (F := fun t => t < 30016 ∧ Fa t = true) (K := fun t => N_st w t = true) ?_ ?_ ?_ ?_ m q1).mpr q2).2
  · exact fun x y hx hs => rr_step hx hs
  · intro x hx hk
    have := R_lt hok hfz hx
    have hx2 : x < 30016 := by omega
    refine ⟨hx2, h1 x hx2 ?_⟩
    rw [hK.2.1 x hx2, (hK.1 x hx2).mpr hx, hk]
    rfl
  · exact fun x hx => (h2 x hx.1 hx.2).2
  · intro x y hx hs hy
    have := R_lt hok hfz hx
    have hx2 : x < 30016 := by omega
    exact ⟨hx2, h4 y x hy.1 hx2 hy.2 (hW y hy.1) ((hK.1 x hx2).mpr hx) (sc_pr hok hfz hs.1 hs.2)⟩
theorem S_G.full {w : w_T} {R St Fa Wa : Nat → Bool} {o : Nat × Nat × Nat × Nat} (hok : w_ok w) (hfz : w_fz w) (hN : w_q w ≤ 30000) (hK : S_K w R St o) (h : S_G w R St Fa Wa 30000) : ∀ m, m < 30016 → Wa m = false := by
  obtain ⟨h1, h2, h3, h4, h5⟩ := h
  have hb : ∀ x, x < 30016 → Fa x = true → x < w_q w := fun x hx q => R_lt hok hfz ((hK.1 x hx).mp (h2 x hx q).1)
  intro m hm
  by_cases q : Wa m = true
  · have hF := h3 m hm q
    have e := cn_add (M := fun m => Fa m && !Wa m) (n := m) (by simp [q]) 30016
    rw [if_pos hm, h5] at e
    have b := cn_bound (M := fun x => (Fa x && !Wa x) || decide (x = m)) (N := w_q w) 30016 (fun x hx hq => by
      rcases Bool.or_eq_true_iff.mp hq with a | a
      · exact hb x hx (Bool.and_eq_true_iff.mp a).1
      · rw [of_decide_eq_true a]; exact hb m hm hF)
    have e' : cn (fun x => (Fa x && !Wa x) || decide (x = m)) 30016 = 30000 + 1 := e
    omega
  · exact Bool.eq_false_iff.mpr q
theorem S_G.step {w : w_T} {R St Fa Wa : Nat → Bool} {o : Nat × Nat × Nat × Nat} {r n : Nat} (hok : w_ok w) (hfz : w_fz w) (hK : S_K w R St o) (h : S_G w R St Fa Wa r) (hn : n < 30016) (hW : Wa n = true) :
    S_G w R St (fa_u R Fa (N_pr w n)) (wa_u R Fa (fun m => Wa m && decide (m ≠ n)) (N_pr w n)) (r + 1) := by
  obtain ⟨h1, h2, h3, h4, h5⟩ := h
  have hF := h3 n hn hW
  obtain ⟨hR, u, hu1, hu2⟩ := h2 n hn hF
  have hlt := R_lt hok hfz ((hK.1 n hn).mp hR)
  have hpr : ∀ m, m < 30016 → (fa_u R Fa (N_pr w n) m && !(wa_u R Fa (fun m => Wa m && decide (m ≠ n)) (N_pr w n) m)) = ((Fa m && !Wa m) || decide (m = n)) := by
    intro m hm
    unfold fa_u wa_u
    by_cases e : m = n
    · subst e
      simp [hF, hW]
    · have e2 : decide (m ≠ n) = true := decide_eq_true e
      have e3 : decide (m = n) = false := decide_eq_false e
      have := h3 m hm
      show ((Fa m || (N_pr w n m && R m)) && !((Wa m && decide (m ≠ n)) || ((N_pr w n m && R m) && !Fa m))) = ((Fa m && !Wa m) || decide (m = n))
      rw [e2, e3]
      clear h1 h2 h3 h4 h5 hu1 hu2 hK hF hW hR hlt
      cases a : Fa m <;> cases b : Wa m <;> cases N_pr w n m <;> cases R m <;> simp_all
  refine ⟨?_, ?_, ?_, ?_, ?_⟩
  · intro m hm q
    show (Fa m || _) = true
    rw [h1 m hm q]; rfl
  · intro m hm q
    rcases or_tt.mp q with q | q
    · exact h2 m hm q
    · obtain ⟨q1, q2⟩ := and_tt.mp q
      have hs := pr_sc hok hlt q1
      exact ⟨q2, u, hu1, rr_trans (rr_step (rr_self _ m) ⟨hs.1, hs.2⟩) hu2⟩
  · intro m hm q
    rcases or_tt.mp q with q | q
    · show (Fa m || _) = true
      rw [h3 m hm (and_tt.mp q).1]; rfl
    · show (Fa m || (N_pr w n m && R m)) = true
      rw [(and_tt.mp q).1, Bool.or_true]
  · intro y x hy hx q1 q2 q3 q4
    have hp := hpr y hy
    rw [q1, q2] at hp
    show (Fa x || (N_pr w n x && R x)) = true
    rcases or_tt.mp hp.symm with a | a
    · obtain ⟨a1, a2⟩ := and_tt.mp a
      rw [h4 y x hy hx a1 (by simpa using a2) q3 q4]; rfl
    · rw [of_decide_eq_true a] at q4
      rw [q4, q3, Bool.true_and, Bool.or_true]
  · rw [cn_eq 30016 hpr, cn_add (M := fun m => Fa m && !Wa m) (by simp [hW]), if_pos hn, h5]
theorem S_G.start {w : w_T} {R St : Nat → Bool} {o : Nat × Nat × Nat × Nat} (hK : S_K w R St o) : S_G w R St St St 0 := by
  refine ⟨fun _ _ h => h, fun m hm h => ?_, fun _ _ h => h, fun y x _ _ a b => ?_, ?_⟩
  · rw [hK.2.1 m hm] at h
    obtain ⟨a, b⟩ := and_tt.mp h
    exact ⟨a, m, b, rr_self _ m⟩
  · rw [a] at b; cases b
  · rw [cn_eq (M' := fun _ => false) 30016 (fun m _ => by cases St m <;> rfl)]
    exact cn_0 _
set_option maxRecDepth 10000 in
set_option maxHeartbeats 2000000 in
theorem l_Se_ffE {w : w_T} {R St Fa Wa : Nat → Bool} {pl vl : Nat → Nat} {o : Nat × Nat × Nat × Nat} {hpb hp : List va_E} {z1 z2 : Option Value} (h : S_A w R St Fa Wa pl vl o hp) (hK : S_K w R St o) (hM : S_M w Fa) (h13 : ∀ q, q < 6 → pl q < 13) (ho : o.2.2.1 = 1) (hF : F_S hpb hp) : q_J g m_Se_findFalling true (q_R 5 110 0 0) (q_ho none (fun hp2 => (∃ (R2 St2 Fa2 Wa2 : Nat → Bool) (pl2 vl2 : Nat → Nat) (o2 : Nat × Nat × Nat × Nat), S_A w R2 St2 Fa2 Wa2 pl2 vl2 o2 hp2 ∧ S_K w R2 St2 o2 ∧ S_M w Fa2 ∧ (∀ q, q < 6 → pl2 q < 13) ∧ o2.2.2 = (1, 1)) ∧ F_S hpb hp2)) 70 [some (.ref 67), z1, z2] [] hp 0 0 true := by
  have h_s := h.2.1
  refine q_aload_n d_Se_findFalling_70 rfl rfl ?_
  refine q_iconst (v := 1) d_Se_findFalling_71 (by decide) ?_
  refine x_put d_Se_findFalling_72 f_Se_49 h_s (Nat.le_of_ble_eq_true rfl) rfl rfl (fun hp1 e1 h_s => ?_)
  refine q_vret d_Se_findFalling_75 rfl ?_ (Nat.le_of_ble_eq_true rfl) (Nat.le_of_ble_eq_true rfl) (by decide)
  refine ⟨_, rfl, rfl, ⟨R, St, Fa, Wa, pl, vl, (o.1, o.2.1, 1, 1), ?_, hK, hM, h13, rfl⟩, ?_⟩
  · rw [e1, ho]
    exact h.se (o' := (o.1, o.2.1, 1, 1))
  · rw [e1]
    exact hF.trans (F_S.set _ (by omega))
set_option maxRecDepth 10000 in
set_option maxHeartbeats 2000000 in
theorem l_Se_ff (hG : q_GG g) {w : w_T} {R St : Nat → Bool} {o : Nat × Nat × Nat × Nat} {hpb : List va_E} (hok : w_ok w) (hfz : w_fz w) (hN : w_q w ≤ 30000) (hK : S_K w R St o) (ho : o.2.2.1 = 1) : ∀ (k r : Nat), r + k = 30000 → ∀ (Fa Wa : Nat → Bool) (pl vl : Nat → Nat) (hp : List va_E) (z2 : Option Value), S_A w R St Fa Wa pl vl o hp → S_G w R St Fa Wa r → (∀ q, q < 6 → pl q < 13) → F_S hpb hp → q_J g m_Se_findFalling true (q_R 5 110 0 0) (q_ho none (fun hp2 => (∃ (R2 St2 Fa2 Wa2 : Nat → Bool) (pl2 vl2 : Nat → Nat) (o2 : Nat × Nat × Nat × Nat), S_A w R2 St2 Fa2 Wa2 pl2 vl2 o2 hp2 ∧ S_K w R2 St2 o2 ∧ S_M w Fa2 ∧ (∀ q, q < 6 → pl2 q < 13) ∧ o2.2.2 = (1, 1)) ∧ F_S hpb hp2)) 36 [some (.ref 67), some (.int (nI r)), z2] [] hp 0 0 true := by
  intro k
  induction k with
  | zero =>
    intro r hr Fa Wa pl vl hp z2 h hL h13 hF
    refine q_iload_n d_Se_findFalling_36 rfl ?_
    refine q_sipush (v := 30000) d_Se_findFalling_37 (by decide) ?_
    refine q_icmp_ge (tgt := 70) d_Se_findFalling_40 (by decide) (fun b40 => ?_) (fun b40 => ?_)
    · skip
      have e : r = 30000 := by omega
      subst e
      exact l_Se_ffE h hK (hL.done hok hfz hN hK (hL.full hok hfz hN hK)) h13 ho hF
    · skip
      exact absurd (show nI 30000 ≤ nI r from nI_le (by omega) (by omega)) b40
  | succ k ih =>
    intro r hr Fa Wa pl vl hp z2 h hL h13 hF
    have h_s := h.2.1
    obtain ⟨lw, h_wa⟩ := h.2.2.2.2.2.1.ob
    refine q_iload_n d_Se_findFalling_36 rfl ?_
    refine q_sipush (v := 30000) d_Se_findFalling_37 (by decide) ?_
    refine q_icmp_ge (tgt := 70) d_Se_findFalling_40 (by decide) (fun b40 => ?_) (fun b40 => ?_)
    · skip
      exact absurd b40 (show ¬ nI 30000 ≤ nI r from nI_ge (by omega) (by omega))
    · skip
      refine q_aload_n d_Se_findFalling_43 rfl rfl ?_
      refine q_get d_Se_findFalling_44 f_Se_24 h_s rfl ?_
      refine x_callVr d_Se_findFalling_47 l_Se_79 i_Ss_takeLowest v_Ss_takeLowest rfl h_wa (k_take hG h.2.2.2.2.2.1) rfl rfl (Nat.le_of_ble_eq_true rfl) (Nat.le_of_ble_eq_true rfl) (Nat.le_of_ble_eq_true rfl) (Nat.le_of_ble_eq_true rfl) (fun z hz => ?_)
      obtain ⟨zo, hp1⟩ := z
      obtain ⟨hf2, hz⟩ := hz
      cases zo with
      | none =>
        have hz : (∀ m, m < 30016 → Wa m = false) ∧ ss_A 74 Wa hp1 := hz
        have g1 := h.wa hf2 hz.2
        have h_s := g1.2.1
        show q_J _ _ _ _ _ _ _ (.int (-1) :: []) _ _ _ _
        refine q_istore_n d_Se_findFalling_50 rfl (by decide) rfl ?_
        refine q_iload_n d_Se_findFalling_51 rfl ?_
        refine q_iconst (v := (-1)) d_Se_findFalling_52 (by decide) ?_
        refine q_icmp_ne (tgt := 59) d_Se_findFalling_53 (by decide) (fun b53 => ?_) (fun b53 => ?_)
        · skip
          exact absurd rfl b53
        · skip
          refine q_goto (tgt := 70) d_Se_findFalling_56 (by decide) ?_
          exact l_Se_ffE g1 hK (hL.done hok hfz hN hK hz.1) h13 ho (hF.trans (hf2.s (by omega)))
      | some n =>
        have hz : n < 30016 ∧ Wa n = true ∧ ss_A 74 (fun m => Wa m && decide (m ≠ n)) hp1 := hz
        have g1 := h.wa hf2 hz.2.2
        have h_s := g1.2.1
        have hlt := R_lt hok hfz ((hK.1 n hz.1).mp (hL.2.1 n hz.1 (hL.2.2.1 n hz.1 hz.2.1)).1)
        show q_J _ _ _ _ _ _ _ (.int (nI n) :: []) _ _ _ _
        refine q_istore_n d_Se_findFalling_50 rfl (by decide) rfl ?_
        refine q_iload_n d_Se_findFalling_51 rfl ?_
        refine q_iconst (v := (-1)) d_Se_findFalling_52 (by decide) ?_
        refine q_icmp_ne (tgt := 59) d_Se_findFalling_53 (by decide) (fun b53 => ?_) (fun b53 => ?_)
        · skip
          refine q_aload_n d_Se_findFalling_59 rfl rfl ?_
          refine q_iload_n d_Se_findFalling_60 rfl ?_
          refine x_callVr d_Se_findFalling_61 l_Se_93 i_Se_lookBack v_Se_lookBack rfl g1.2.1 (c_Se_lookBack hG hok hfz hN hlt h13 g1) rfl rfl (Nat.le_of_ble_eq_true rfl) (Nat.le_of_ble_eq_true rfl) (Nat.le_of_ble_eq_true rfl) (Nat.le_of_ble_eq_true rfl) (fun hp3 h3 => ?_)
          refine q_iinc d_Se_findFalling_64 rfl (show _ + Int32.ofInt 1 = _ + 1 from rfl) (by decide) rfl ?_
          rw [nI_1]
          refine q_goto (tgt := 36) d_Se_findFalling_67 (by decide) ?_
          have hL2 := hL.step hok hfz hK hz.1 hz.2.1
          exact ih (r + 1) (by omega) _ _ _ _ _ _ h3.1 hL2 (w_pl_ok (vl := vl) (n := n) hok h13).2.1 (hF.trans ((hf2.s (by omega)).trans h3.2))
        · skip
          exact absurd b53 (fun e => tb_m1 (show n < 2 ^ 31 by omega) e)
set_option maxRecDepth 10000 in
set_option maxHeartbeats 2000000 in
theorem l_Se_ff0 (hG : q_GG g) {w : w_T} {R St Fa Wa : Nat → Bool} {pl vl : Nat → Nat} {o : Nat × Nat × Nat × Nat} {hpb hp : List va_E} (hok : w_ok w) (hfz : w_fz w) (hN : w_q w ≤ 30000) (h : S_A w R St Fa Wa pl vl o hp) (hK : S_K w R St o) (h13 : ∀ q, q < 6 → pl q < 13) (ho : o.2.2.1 = 1) (hfk : o.2.2.2 = 0) (hF : F_S hpb hp) : q_J g m_Se_findFalling true (q_R 5 110 0 0) (q_ho none (fun hp2 => (∃ (R2 St2 Fa2 Wa2 : Nat → Bool) (pl2 vl2 : Nat → Nat) (o2 : Nat × Nat × Nat × Nat), S_A w R2 St2 Fa2 Wa2 pl2 vl2 o2 hp2 ∧ S_K w R2 St2 o2 ∧ S_M w Fa2 ∧ (∀ q, q < 6 → pl2 q < 13) ∧ o2.2.2 = (1, 1)) ∧ F_S hpb hp2)) 4 [some (.ref 67), none, none] [] hp 0 0 true := by
  have h_s := h.2.1
  obtain ⟨lf, h_f⟩ := h.2.2.2.2.1.ob
  refine q_aload_n d_Se_findFalling_4 rfl rfl ?_
  refine q_get d_Se_findFalling_5 f_Se_49 h_s rfl ?_
  refine q_if_eq (tgt := 12) d_Se_findFalling_8 (by decide) (fun b8 => ?_) (fun b8 => ?_)
  · skip
    refine q_aload_n d_Se_findFalling_12 rfl rfl ?_
    refine q_get d_Se_findFalling_13 f_Se_21 h_s rfl ?_
    refine q_aload_n d_Se_findFalling_16 rfl rfl ?_
    refine q_get d_Se_findFalling_17 f_Se_18 h_s rfl ?_
    refine x_callVr d_Se_findFalling_20 l_Se_89 i_Ss_copyFrom v_Ss_copyFrom rfl h_f (k_copy hG h.2.2.2.2.1 h.2.2.2.1 (by decide) (by decide)) rfl rfl (Nat.le_of_ble_eq_true rfl) (Nat.le_of_ble_eq_true rfl) (Nat.le_of_ble_eq_true rfl) (Nat.le_of_ble_eq_true rfl) (fun hp1 k1 => ?_)
    have g1 := h.fa k1.2 k1.1
    have h_s := g1.2.1
    obtain ⟨lw, h_wa⟩ := g1.2.2.2.2.2.1.ob
    refine q_aload_n d_Se_findFalling_23 rfl rfl ?_
    refine q_get d_Se_findFalling_24 f_Se_24 h_s rfl ?_
    refine q_aload_n d_Se_findFalling_27 rfl rfl ?_
    refine q_get d_Se_findFalling_28 f_Se_18 h_s rfl ?_
    refine x_callVr d_Se_findFalling_31 l_Se_89 i_Ss_copyFrom v_Ss_copyFrom rfl h_wa (k_copy hG g1.2.2.2.2.2.1 g1.2.2.2.1 (by decide) (by decide)) rfl rfl (Nat.le_of_ble_eq_true rfl) (Nat.le_of_ble_eq_true rfl) (Nat.le_of_ble_eq_true rfl) (Nat.le_of_ble_eq_true rfl) (fun hp2 k2 => ?_)
    have g2 := g1.wa k2.2 k2.1
    refine q_iconst (v := 0) d_Se_findFalling_34 (by decide) ?_
    refine q_istore_n d_Se_findFalling_35 rfl (by decide) rfl ?_
    exact l_Se_ff hG hok hfz hN hK ho 30000 0 rfl _ _ _ _ hp2 _ g2 (S_G.start hK) h13 (hF.trans ((k1.2.s (by omega)).trans (k2.2.s (by omega))))
  · skip
    exact absurd (by rw [hfk]; rfl) b8
set_option maxRecDepth 10000 in
set_option maxHeartbeats 2000000 in
theorem l_Se_ff1 {w : w_T} {R St Fa Wa : Nat → Bool} {pl vl : Nat → Nat} {o : Nat × Nat × Nat × Nat} {hpb hp : List va_E} (h : S_A w R St Fa Wa pl vl o hp) (hK : S_K w R St o) (hM : S_M w Fa) (h13 : ∀ q, q < 6 → pl q < 13) (ho : o.2.2 = (1, 1)) (hF : F_S hpb hp) : q_J g m_Se_findFalling true (q_R 5 110 0 0) (q_ho none (fun hp2 => (∃ (R2 St2 Fa2 Wa2 : Nat → Bool) (pl2 vl2 : Nat → Nat) (o2 : Nat × Nat × Nat × Nat), S_A w R2 St2 Fa2 Wa2 pl2 vl2 o2 hp2 ∧ S_K w R2 St2 o2 ∧ S_M w Fa2 ∧ (∀ q, q < 6 → pl2 q < 13) ∧ o2.2.2 = (1, 1)) ∧ F_S hpb hp2)) 4 [some (.ref 67), none, none] [] hp 0 0 true := by
  have h_s := h.2.1
  have hfk : o.2.2.2 = 1 := by rw [ho]
  refine q_aload_n d_Se_findFalling_4 rfl rfl ?_
  refine q_get d_Se_findFalling_5 f_Se_49 h_s rfl ?_
  refine q_if_eq (tgt := 12) d_Se_findFalling_8 (by decide) (fun b8 => ?_) (fun b8 => ?_)
  · skip
    exact absurd b8 (by rw [hfk]; decide)
  · skip
    refine q_vret d_Se_findFalling_11 rfl ?_ (Nat.le_of_ble_eq_true rfl) (Nat.le_of_ble_eq_true rfl) (by decide)
    exact ⟨hp, rfl, rfl, ⟨R, St, Fa, Wa, pl, vl, o, h, hK, hM, h13, ho⟩, hF⟩
set_option maxRecDepth 10000 in
set_option maxHeartbeats 2000000 in
theorem c_Se_findFalling0 (hG : q_GG g) {w : w_T} {R St Fa Wa : Nat → Bool} {pl vl : Nat → Nat} {o : Nat × Nat × Nat × Nat} {hp : List va_E} (hok : w_ok w) (hfz : w_fz w) (hN : w_q w ≤ 30000) (hB : S_B w R St Fa Wa pl vl o hp) (hsk : o.2.2.1 = 0) (ho : o.2.2.2 = 0) : q_C g m_Se_findFalling true (q_R 5 110 0 0) [.ref 67] hp (q_ho none (fun hp2 => (∃ (R2 St2 Fa2 Wa2 : Nat → Bool) (pl2 vl2 : Nat → Nat) (o2 : Nat × Nat × Nat × Nat), S_A w R2 St2 Fa2 Wa2 pl2 vl2 o2 hp2 ∧ S_K w R2 St2 o2 ∧ S_M w Fa2 ∧ (∀ q, q < 6 → pl2 q < 13) ∧ o2.2.2 = (1, 1)) ∧ F_S hp hp2)) := by
  refine q_C.of hG (by decide) (Nat.le_of_ble_eq_true rfl) ?_
  have h_s := hB.2.1
  refine q_aload_n d_Se_findFalling_0 rfl rfl ?_
  refine x_callVr d_Se_findFalling_1 l_Se_86 i_Se_findStanding v_Se_findStanding rfl h_s (c_Se_findStanding0 hG hok hfz hN hB hsk ho) rfl rfl (Nat.le_of_ble_eq_true rfl) (Nat.le_of_ble_eq_true rfl) (Nat.le_of_ble_eq_true rfl) (Nat.le_of_ble_eq_true rfl) (fun hp1 k1 => ?_)
  obtain ⟨⟨R2, St2, Wa2, pl2, vl2, o2, g1, g2, g3, g4⟩, g5⟩ := k1
  exact l_Se_ff0 hG hok hfz hN g1 g2 g3 (by rw [g4]) (by rw [g4]) g5
set_option maxRecDepth 10000 in
set_option maxHeartbeats 2000000 in
theorem c_Se_findFalling1 (hG : q_GG g) {w : w_T} {R St Fa Wa : Nat → Bool} {pl vl : Nat → Nat} {o : Nat × Nat × Nat × Nat} {hp : List va_E} (hok : w_ok w) (hfz : w_fz w) (hN : w_q w ≤ 30000) (h : S_A w R St Fa Wa pl vl o hp) (hK : S_K w R St o) (h13 : ∀ q, q < 6 → pl q < 13) (hsk : o.2.2.1 = 1) (ho : o.2.2.2 = 0) : q_C g m_Se_findFalling true (q_R 5 110 0 0) [.ref 67] hp (q_ho none (fun hp2 => (∃ (R2 St2 Fa2 Wa2 : Nat → Bool) (pl2 vl2 : Nat → Nat) (o2 : Nat × Nat × Nat × Nat), S_A w R2 St2 Fa2 Wa2 pl2 vl2 o2 hp2 ∧ S_K w R2 St2 o2 ∧ S_M w Fa2 ∧ (∀ q, q < 6 → pl2 q < 13) ∧ o2.2.2 = (1, 1)) ∧ F_S hp hp2)) := by
  refine q_C.of hG (by decide) (Nat.le_of_ble_eq_true rfl) ?_
  have h_s := h.2.1
  refine q_aload_n d_Se_findFalling_0 rfl rfl ?_
  refine x_callVr d_Se_findFalling_1 l_Se_86 i_Se_findStanding v_Se_findStanding rfl h_s (c_Se_findStanding1 hG h hK h13 hsk ho) rfl rfl (Nat.le_of_ble_eq_true rfl) (Nat.le_of_ble_eq_true rfl) (Nat.le_of_ble_eq_true rfl) (Nat.le_of_ble_eq_true rfl) (fun hp1 k1 => ?_)
  obtain ⟨⟨R2, St2, Wa2, pl2, vl2, o2, g1, g2, g3, g4⟩, g5⟩ := k1
  exact l_Se_ff0 hG hok hfz hN g1 g2 g3 (by rw [g4]) (by rw [g4]) g5
set_option maxRecDepth 10000 in
set_option maxHeartbeats 2000000 in
theorem c_Se_findFalling2 (hG : q_GG g) {w : w_T} {R St Fa Wa : Nat → Bool} {pl vl : Nat → Nat} {o : Nat × Nat × Nat × Nat} {hp : List va_E} (h : S_A w R St Fa Wa pl vl o hp) (hK : S_K w R St o) (hM : S_M w Fa) (h13 : ∀ q, q < 6 → pl q < 13) (hsk : o.2.2.1 = 1) (ho : o.2.2.2 = 1) : q_C g m_Se_findFalling true (q_R 5 110 0 0) [.ref 67] hp (q_ho none (fun hp2 => (∃ (R2 St2 Fa2 Wa2 : Nat → Bool) (pl2 vl2 : Nat → Nat) (o2 : Nat × Nat × Nat × Nat), S_A w R2 St2 Fa2 Wa2 pl2 vl2 o2 hp2 ∧ S_K w R2 St2 o2 ∧ S_M w Fa2 ∧ (∀ q, q < 6 → pl2 q < 13) ∧ o2.2.2 = (1, 1)) ∧ F_S hp hp2)) := by
  refine q_C.of hG (by decide) (Nat.le_of_ble_eq_true rfl) ?_
  have h_s := h.2.1
  refine q_aload_n d_Se_findFalling_0 rfl rfl ?_
  refine x_callVr d_Se_findFalling_1 l_Se_86 i_Se_findStanding v_Se_findStanding rfl h_s (c_Se_findStanding1 hG h hK h13 hsk ho) rfl rfl (Nat.le_of_ble_eq_true rfl) (Nat.le_of_ble_eq_true rfl) (Nat.le_of_ble_eq_true rfl) (Nat.le_of_ble_eq_true rfl) (fun hp1 k1 => ?_)
  obtain ⟨⟨R2, St2, Wa2, pl2, vl2, o2, g1, g2, g3, g4⟩, g5⟩ := k1
  exact l_Se_ff1 g1 g2 hM g3 g4 g5
end C25
