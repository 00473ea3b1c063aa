/-! The engine, 5: throwing -/
section ENG5
theorem q_reset {p : Program} {l : Launch} {e : Env} {R : Room} {u : State} {m : MethodId} {args : Array Value} {below : List Frame} {meth : Method} {co : Code} {T : State} {c s : Nat} (X : Stand p l e R u m args below meth co T [] c s) (hT : T.heap = u.heap) : Stand p l e R u m args below meth co T [] 0 0 := by
  obtain ⟨a1, a2, a3, a4, a5, a6⟩ := X.same
  have e1 : (T.setVm u.vm).heap = u.heap := hT
  refine ⟨X.admits, X.cas, X.clock, X.frames, X.room, X.hears, X.method, X.code, X.here, X.tail, X.warmed, X.limits, X.bytes, a1, a2, ?_, a4, ?_, a6⟩
  · rw [e1]; exact Nat.le_refl _
  · rw [e1]
    have : u.heap.toList.drop u.heap.size = [] := List.drop_eq_nil_of_le (by simp)
    rw [this]
    exact Nat.le_refl _
/-- words of the Throwable's statics: they speak of cells below the law's own -/
theorem q_static {g : q_G} (hG : q_GG g) {u : State} (hu : (q_s g).WarmedH u.vm) (hh : ∀ q : Nat, q < q_b g → u.heap[q]? = (q_s g).heap[q]?) {args : Array Value} {C n d : String} (hl : Jvm.Cond.laysStatic C n d ∈ q_gw) : (Jvm.Cond.laysStatic C n d).before args u = true := by
  have h0 := Cond.before_shiftedFace (State.Shifted.of_warmed hu) _ (rfl : (Jvm.Cond.laysStatic C n d).keepsFace = true) (hG.1 _ hl)
  obtain ⟨c, k, i, f, a, cell, h1, h2, h3, h4, h5, h6, h7, h8, h9⟩ := Cond.laysStatic_spec h0
  have h5' : u.heap[a]? = some cell := by
    have h5 : (q_s g).heap[a]? = some cell := h5
    rw [hh a (Array.getElem?_eq_some_iff.mp h5).1]
    exact h5
  have h1' : u.vm.findClass C = some c := h1
  have h2' : u.fieldFound? C n d = some (c, k, i, f) := h2
  simp only [Cond.before, Cond.holds, Cond.value, h1', h2']
  simp [h3, h4, h5', h6, h7, h8, h9]
theorem q_staticR {g : q_G} (hG : q_GG g) {u : State} (hu : (q_s g).WarmedH u.vm) (hh : ∀ q : Nat, q < q_b g → u.heap[q]? = (q_s g).heap[q]?) {args : Array Value} {C n d : String} (hl : Jvm.Cond.laysStatic C n d ∈ q_gw) (hr : Jvm.Cond.isRef (.static C n d) ∈ q_gw) : (Jvm.Cond.isRef (.static C n d)).before args u = true := by
  have h0 := Cond.before_shiftedFace (State.Shifted.of_warmed hu) _ (rfl : (Jvm.Cond.laysStatic C n d).keepsFace = true) (hG.1 _ hl)
  have hx := Cond.before_shiftedFace (State.Shifted.of_warmed hu) _ (rfl : (Jvm.Cond.isRef (.static C n d)).keepsFace = true) (hG.1 _ hr)
  obtain ⟨c, k, i, f, a, cell, h1, h2, h3, h4, h5, h6, h7, h8, h9⟩ := Cond.laysStatic_spec h0
  have h5' : u.heap[a]? = some cell := by
    have h5 : (q_s g).heap[a]? = some cell := h5
    rw [hh a (Array.getElem?_eq_some_iff.mp h5).1]
    exact h5
  have h2' : u.fieldFound? C n d = some (c, k, i, f) := h2
  have e1 : ∀ (o : Option Outcome) (ar : Array Value) (fi : State), (Term.static C n d).eval ar fi o [] u = cell.slots[f.slot]? := by
    intro o ar fi
    simp [Term.eval, State.fieldNamed?, h2', h3, h4, h5', h6]
  simp only [Cond.before, Cond.holds, Cond.value] at hx ⊢
  rw [e1]
  simp [Term.eval, State.fieldNamed?, h2, h3, h4] at hx
  rw [show (q_s g).heap[a]? = some cell from h5] at hx
  simp [h6] at hx
  simpa using hx
end ENG5
