/-! the claim, 1: what the engine needs at the entry -/
section W9
set_option maxRecDepth 10000 in
theorem q_inst : ∀ (c : Nat) (q : vw_C), q_cl[c]? = some q → ∃ n, Jvm.Cond.instantiable q.1 n ∈ q_gw := by
  intro c q h
  match c, h with
  | 0, h => cases h; exact ⟨6, q_i 23 (by rfl)⟩
  | 1, h => cases h; exact ⟨2, q_i 31 (by rfl)⟩
  | 2, h => cases h; exact ⟨5, q_i 47 (by rfl)⟩
  | 3, h => cases h; exact ⟨6, q_i 57 (by rfl)⟩
  | 4, h => cases h; exact ⟨9, q_i 115 (by rfl)⟩
  | 5, h => cases h; exact ⟨3, q_i 122 (by rfl)⟩
  | 6, h => cases h; exact ⟨12, q_i 174 (by rfl)⟩
  | 7, h => cases h; exact ⟨2, q_i 180 (by rfl)⟩
  | 8, h => cases h; exact ⟨2, q_i 194 (by rfl)⟩
  | 9, h => cases h; exact ⟨41, q_i 749 (by rfl)⟩
  | 10, h => cases h; exact ⟨6, q_i 524 (by rfl)⟩
  | 11, h => cases h; exact ⟨6, q_i 618 (by rfl)⟩
  | 12, h => cases h; exact ⟨6, q_i 652 (by rfl)⟩
  | n + 13, h => cases h
theorem q_tyA {s : State} {args : Array Value} (hw : ∀ w ∈ q_gw, w.before args s = true) : ∀ t : Nat, ∃ cA : ClassId, ∀ ty, q_ty[t]? = some ty → ArrOfT s cA ty ∧ va_RA s cA ty := by
  intro t
  match t with
  | 0 =>
    obtain ⟨c, k, comp, h1, h2, h3⟩ := Cond.arrayClass_spec (hw _ a_i)
    exact ⟨c, fun ty h => by cases h; exact ⟨fun N z => ⟨(fun k h => by cases h), k, h2, comp, h3⟩, h1⟩⟩
  | 1 =>
    obtain ⟨c, k, comp, h1, h2, h3⟩ := Cond.arrayClass_spec (hw _ a_l)
    exact ⟨c, fun ty h => by cases h; exact ⟨fun N z => ⟨(fun k h => by cases h), k, h2, comp, h3⟩, h1⟩⟩
  | 2 =>
    obtain ⟨c, k, comp, h1, h2, h3⟩ := Cond.arrayClass_spec (hw _ a_b)
    exact ⟨c, fun ty h => by cases h; exact ⟨fun N z => ⟨(fun k h => by cases h), k, h2, comp, h3⟩, h1⟩⟩
  | 3 =>
    obtain ⟨c, k, comp, h1, h2, h3⟩ := Cond.arrayClass_spec (hw _ a_z)
    exact ⟨c, fun ty h => by cases h; exact ⟨fun N z => ⟨(fun k h => by cases h), k, h2, comp, h3⟩, h1⟩⟩
  | 4 =>
    obtain ⟨comp, c, k, h1, -, h3, h4, h5⟩ := Cond.arrayOver_spec (hw _ a_Co)
    exact ⟨c, fun ty h => by cases h; exact ⟨fun N z => ⟨(fun k h => by cases h), k, h3, comp, h4⟩, ⟨k, comp, h3, h4, h1, h5⟩⟩⟩
  | 5 =>
    obtain ⟨comp, c, k, h1, -, h3, h4, h5⟩ := Cond.arrayOver_spec (hw _ a_Pa)
    exact ⟨c, fun ty h => by cases h; exact ⟨fun N z => ⟨(fun k h => by cases h), k, h3, comp, h4⟩, ⟨k, comp, h3, h4, h1, h5⟩⟩⟩
  | n + 6 => exact ⟨0, fun ty h => by cases h⟩
theorem q_GG_of {l : Launch} {s : State} {b L : Nat} {xs : Nat → Int32} (hw : ∀ w ∈ q_gw, w.before #[Value.ref b] s = true) (hX : va_X b L xs s s.heap) (hl : l.stackTraces = false) : ∃ (D : va_G) (t : Nat → ClassId), q_GG (l, s, #[Value.ref b], (b, L, xs), D, t) := by
  have hK : ∀ c : Nat, ∃ p : ClassId × (Nat → Nat), ∀ q, q_cl[c]? = some q → u_Kn s q.1 q.2.1 q.2.2 p.1 p.2 := by
    intro c
    cases hc : q_cl[c]? with
    | none => exact ⟨(0, id), fun q h => by cases h⟩
    | some q0 =>
      obtain ⟨n, hn⟩ := q_inst c q0 hc
      obtain ⟨cC, iS, h⟩ := u_known hw (q_cl_in c q0 hc) (hw _ hn)
      exact ⟨(cC, iS), fun q h' => by cases h'; exact h⟩
  obtain ⟨F, hF⟩ := Classical.axiomOfChoice hK
  obtain ⟨t, ht⟩ := Classical.axiomOfChoice (q_tyA hw)
  exact ⟨(fun c => (F c).1, fun c => (F c).2), t, hw, fun c q h => hF c q h, fun k ty h => ht k ty h, hX, hl⟩
theorem q_notcast {s : State} {args : Array Value} {X Y : String} {c d : ClassId} (h : (Jvm.Cond.not (.castable X Y)).before args s = true) (hx : s.vm.findClass X = some c) (hy : s.vm.findClass Y = some d) : s.vm.assignable c d = false := by
  have hv := Cond.holds_not_iff.mp h
  simp only [Cond.value, hx, hy] at hv
  simpa using hv
theorem same_new {s t : State} {L : List Loc} {c n : Nat} (h : s.sameButNew t L c n) (hL : ∀ q ∈ L, s.heap.size ≤ q.base) : s.sameButNew t [] c n := by
  obtain ⟨h1, h2, h3, h4, h5, h6⟩ := h
  refine ⟨h1, h2, h3, h4, h5, fun a ce ha => ?_⟩
  obtain ⟨c', k1, k2, k3, k4⟩ := h6 a ce ha
  exact ⟨c', k1, k2, k3, fun i _ => k4 i (fun hm => by
    have e1 : s.heap.size ≤ a := hL _ hm
    have e2 := (Array.getElem?_eq_some_iff.mp ha).1
    omega)⟩
end W9
