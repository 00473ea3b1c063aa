/-! The engine, 11: an exception is caught -/
section ENG11
variable {g : q_G} {M : q_Me} {fr : Bool} {rm : Room} {P : Outcome → List va_E → Prop} {pc : Nat} {ls : List (Option Value)} {hp : List va_E} {c s : Nat}
/-- the cell of an object in the list -/
theorem q_obj {hp : List va_E} {H : Heap} (hH : q_H g hp H) {x ci : Nat} {fs : List Value} (hx : hp[x]? = some (.inr (ci, fs))) : ∃ cell : Cell, H[q_b g + x]? = some cell ∧ cell.cls = (q_D g).1 ci ∧ cell.vm = .none := by
  obtain ⟨r, h1, cell, h2, h3, h4, -⟩ := hH.2.2 x _ hx
  exact ⟨cell, h2, h3, h4⟩
theorem q_cls {u : State} (hG : q_GG g) (hu : (q_s g).WarmedH u.vm) {ci : Nat} {q : vw_C} (hq : q_cl[ci]? = some q) : u.vm.findClass q.1 = some ((q_D g).1 ci) := (u_Kn_moved hu.alike (hG.2.1 ci q hq)).2.1
theorem q_self_cast {u : State} (hG : q_GG g) (hu : (q_s g).WarmedH u.vm) {ci : Nat} {q : vw_C} (hq : q_cl[ci]? = some q) (hw : Jvm.Cond.castable q.1 q.1 ∈ q_gw) : u.vm.assignable ((q_D g).1 ci) ((q_D g).1 ci) = true := by
  have h := Cond.onTables_atFace (args' := (#[] : Array Value)) hu (rfl : ((Jvm.Cond.castable q.1 q.1).onTables && (Jvm.Cond.castable q.1 q.1).keepsFace) = true) (hG.1 _ hw)
  obtain ⟨c1, c2, h1, h2, h3⟩ := Cond.castable_spec h
  have h4 := q_cls hG hu hq
  cases h4.symm.trans h1
  cases h4.symm.trans h2
  exact h3
theorem q_T.catch1 {x ci a0 b0 h0 t0 : Nat} {rest : List (Nat × Nat × Nat × Nat)} {q : vw_C} {fs : List Value} (hM : M.2.2.2.2 = (a0, b0, h0, t0) :: rest) (hcov : a0 ≤ pc ∧ pc < b0) (ht : t0 ≠ 0) (hq : q_cl[ci]? = some q) (hlink : Jvm.Cond.classLink M.1.cls t0 q.1 ∈ q_gw) (hcast : Jvm.Cond.castable q.1 q.1 ∈ q_gw) (hx : hp[x]? = some (.inr (ci, fs))) (k : q_J g M fr rm P h0 ls [.ref x] hp c s true) : q_T g M fr rm P pc ls hp c s true x := by
  intro p e R u m args below meth co locs la T st E hL hH h1 X
  have hu := E.2.2.2.2.2.1
  have hmap := E.2.2.2.2.2.2.2.2.2.2.2.2.2
  rw [hM] at hmap
  obtain ⟨y, ys, hsplit, hy, -⟩ := List.map_eq_cons_iff.mp hmap
  have hy1 : y.startPc = a0 := congrArg (fun z => z.1) hy
  have hy2 : y.endPc = b0 := congrArg (fun z => z.2.1) hy
  have hy3 : y.handlerPc = h0 := congrArg (fun z => z.2.2.1) hy
  have hy4 : y.catchType = t0 := congrArg (fun z => z.2.2.2) hy
  obtain ⟨cell, hc1, hc2, hc3⟩ := q_obj hH hx
  obtain ⟨hend, hk0⟩ := X.catches_of_link (own := M.1.cls) E.2.2.2.2.1 (x := y) (by rw [hy4]; exact ht) (by rw [hy4]; exact q_word E.1 hu hlink rfl) (q_cls E.1 hu hq) (q_self_cast E.1 hu hq hcast)
  rw [← hc2] at hend hk0
  obtain ⟨vm', X', hst⟩ := X.caughtThrough (q_b g + x) (g := F0 m pc la st) rfl hc1 (by rw [hc3]; rfl) hk0 [] y ys hsplit (fun z hz => by cases hz) (by
    show (decide (y.startPc ≤ pc) && decide (pc < y.endPc)) = true
    rw [hy1, hy2]
    simp [hcov.1, hcov.2]) hend
  obtain ⟨t, b1, b2⟩ := k p e R u m args below meth co T.heap locs la E hL hH h1 (fun h => by cases h) (T.setVm vm') rfl X'
  refine ⟨t, ?_, b2⟩
  rw [X.pushThrowing_eq]
  refine hst t ?_
  rw [hy3]
  exact b1
theorem q_T.catch2 {x ci cj a0 b0 h0 t0 a1 b1 h1 t1 : Nat} {rest : List (Nat × Nat × Nat × Nat)} {q r : vw_C} {fs : List Value} (hM : M.2.2.2.2 = (a0, b0, h0, t0) :: (a1, b1, h1, t1) :: rest) (hcov : a1 ≤ pc ∧ pc < b1) (ht0 : t0 ≠ 0) (ht : t1 ≠ 0) (hq : q_cl[ci]? = some q) (hr : q_cl[cj]? = some r) (hlink0 : Jvm.Cond.classLink M.1.cls t0 r.1 ∈ q_gw) (hno : (q_s g).vm.assignable ((q_D g).1 ci) ((q_D g).1 cj) = false) (hlink : Jvm.Cond.classLink M.1.cls t1 q.1 ∈ q_gw) (hcast : Jvm.Cond.castable q.1 q.1 ∈ q_gw) (hx : hp[x]? = some (.inr (ci, fs))) (k : q_J g M fr rm P h1 ls [.ref x] hp c s true) : q_T g M fr rm P pc ls hp c s true x := by
  intro p e R u m args below meth co locs la T st E hL hH hl X
  have hu := E.2.2.2.2.2.1
  have hmap := E.2.2.2.2.2.2.2.2.2.2.2.2.2
  rw [hM] at hmap
  obtain ⟨z, zs, hsplit, hz, hzs⟩ := List.map_eq_cons_iff.mp hmap
  obtain ⟨y, ys, hsplit2, hy, -⟩ := List.map_eq_cons_iff.mp hzs
  have hz4 : z.catchType = t0 := congrArg (fun z => z.2.2.2) hz
  have hy1 : y.startPc = a1 := congrArg (fun z => z.1) hy
  have hy2 : y.endPc = b1 := congrArg (fun z => z.2.1) hy
  have hy3 : y.handlerPc = h1 := congrArg (fun z => z.2.2.1) hy
  have hy4 : y.catchType = t1 := congrArg (fun z => z.2.2.2) hy
  obtain ⟨cell, hc1, hc2, hc3⟩ := q_obj hH hx
  obtain ⟨hend, hk0⟩ := X.catches_of_link (own := M.1.cls) E.2.2.2.2.1 (x := y) (by rw [hy4]; exact ht) (by rw [hy4]; exact q_word E.1 hu hlink rfl) (q_cls E.1 hu hq) (q_self_cast E.1 hu hq hcast)
  rw [← hc2] at hend hk0
  have hpl : e.platform.magicAccessors = ({} : Platform).magicAccessors := by rw [X.admits.platform]
  obtain ⟨c', hc', hcl⟩ := Cond.classLink_spec (args := args) E.2.2.2.2.1 (q_word E.1 hu hlink0 rfl) e.platform hpl
  cases (q_cls E.1 hu hr).symm.trans hc'
  have hpass : RowPassed e.platform u m.cls (F0 m pc la st).pc cell.cls z := Or.inr ⟨by rw [hz4]; exact ht0, (q_D g).1 cj, by rw [hz4]; exact hcl, by rw [hc2, hu.alike.assignable]; exact hno⟩
  obtain ⟨vm', X', hst⟩ := X.caughtThrough (q_b g + x) (g := F0 m pc la st) rfl hc1 (by rw [hc3]; rfl) hk0 [z] y ys (by rw [hsplit, hsplit2]; rfl) (fun w hw => by
    rw [List.mem_singleton] at hw
    subst hw
    exact hpass) (by
    show (decide (y.startPc ≤ pc) && decide (pc < y.endPc)) = true
    rw [hy1, hy2]
    simp [hcov.1, hcov.2]) hend
  obtain ⟨t, b1, b2⟩ := k p e R u m args below meth co T.heap locs la E hL hH hl (fun h => by cases h) (T.setVm vm') rfl X'
  refine ⟨t, ?_, b2⟩
  rw [X.pushThrowing_eq]
  refine hst t ?_
  rw [hy3]
  exact b1
end ENG11
