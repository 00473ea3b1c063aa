/-! The engine, 11: an exception is caught -/
section ENG11A
variable {e : Env} {f : JFrame} {a : Addr} {x : ExceptionTableEntry} {xs : List ExceptionTableEntry} {ci : ClassId} {cell : Cell}
/-- A row's first look may link her class. It is the same look as the one behind the linking. -/
theorem q_first {Q : Handler → Pre} {E : CtlPost} {d : Bool} {acts : List Action} {u : State} (hx : covers x f.pc = true) (h0 : x.catchType ≠ 0) (hl : u.vm.ClassLinks e.platform f.method.cls x.catchType ci) :
    wp (findHandler.go f a (x :: xs)) Q E e d acts u ↔ wp (findHandler.go f a (x :: xs)) Q E e d acts (u.setVm (u.vm.noted f.method.cls x.catchType (.cls ci))) := by
  have hx' : (decide (x.startPc ≤ f.pc) && decide (f.pc < x.endPc)) = true := hx
  obtain ⟨k, hk, hres⟩ := hl.ready
  have cold := (resolveClass_links e.toSetting hl).op (op := VmOp.resolveClass f.method.cls x.catchType) rfl
  have warm := resolveClass_memo e hk hres
  simp [findHandler.go, hx', h0, cold.1, cold.2, warm.1, warm.2, VmOp.dirties, VmOp.acts]
  exact Iff.rfl
/-- what a walk's tables are known by: the link stands in them, and they stay warm when it is noted -/
theorem q_links {u : State} {vm : Vm} {d i : Nat} (hl : u.vm.ClassLinks e.platform d i ci) (hW : u.WarmedH vm) : vm.ClassLinks e.platform d i ci ∧ u.WarmedH (vm.noted d i (.cls ci)) := by
  obtain ⟨dk, -, -, -, hd, -, -, -, -, -, -, ho⟩ := hl.here
  exact ⟨hW.classLinks hl, hW.noted hd ho (State.rightAt_cls hl)⟩
theorem q_there {u : State} {vm : Vm} (hW : u.WarmedH vm) {n : String} (h : u.vm.findClass n = some ci) : ∃ k, vm.classes[ci]? = some k := by
  obtain ⟨k, hk⟩ := Vm.classAt_of_findClass h
  obtain ⟨k', hk', -⟩ := hW.alike.2.2 _ _ hk
  exact ⟨k', hk'⟩
/-- one row that covers the place, her class linked or not: she takes the object, or the look goes on at the next -/
theorem q_row {Q : Handler → Pre} {E : CtlPost} {d : Bool} {acts : List Action} {u w : State} {n n' : String} (hW : u.WarmedH w.vm) (hx : covers x f.pc = true) (h0 : x.catchType ≠ 0) (hl : u.vm.ClassLinks e.platform f.method.cls x.catchType ci) (hcell : w.heap[a]? = some cell) (hvm : cell.vm = .none) (hn : u.vm.findClass n = some cell.cls) (hn' : u.vm.findClass n' = some ci) :
    wp (findHandler.go f a (x :: xs)) Q E e d acts w ↔ if u.vm.assignable cell.cls ci = true then Q (.found x.handlerPc) d acts (w.setVm (w.vm.noted f.method.cls x.catchType (.cls ci))) else wp (findHandler.go f a xs) Q E e d acts (w.setVm (w.vm.noted f.method.cls x.catchType (.cls ci))) := by
  obtain ⟨h1, h2⟩ := q_links hl hW
  rw [q_first hx h0 h1, W.findHandler_go_class (s := w.setVm (w.vm.noted f.method.cls x.catchType (.cls ci))) hx h0 h1.ready hcell (fun k hk => by rw [hvm] at hk; cases hk) (q_there h2 hn) (q_there h2 hn')]
  have h3 : (w.setVm (w.vm.noted f.method.cls x.catchType (.cls ci))).vm.assignable cell.cls ci = u.vm.assignable cell.cls ci := h2.alike.assignable ..
  rw [h3]
/-- a look that ends at a handler: the walk goes on there -/
theorem q_into {p : Program} {l : Launch} {R : Room} {u T : State} {args : Array Value} {below : List Frame} {meth : Method} {co : Code} {locs : List Loc} {c s : Nat} {h : Nat} {vm : Vm} (X : Stand p l e R u f.method args below meth co T locs c s) (hW : u.WarmedH vm)
    (hf : ∀ (Q : Handler → Pre) (E : CtlPost) (d : Bool) (acts : List Action), wp (findHandler.go f a co.exceptionTable.toList) Q E e d acts ((T.setTop f).pushFrame (.throwing a)) ↔ Q (.found h) d acts (((T.setTop f).pushFrame (.throwing a)).setVm vm)) {t : State}
    (ht : Steps p.tables e below ((T.setVm vm).setTop { f with pc := h, stack := [.ref a] }) t) : Steps p.tables e below ((T.setTop f).pushFrame (.throwing a)) t := by
  obtain ⟨f0, hfr⟩ := X.frames_eq
  obtain ⟨b1, b2⟩ := X.here.throwing a
  have hS : (T.setTop f).pushFrame (.throwing a) = T.setFrames (.throwing a :: .java f :: below) := by
    rw [State.pushFrame, State.frames_setTop f hfr, State.setTop_of_frames f hfr, State.setFrames_setFrames]
  have hR : (T.setVm vm).setTop { f with pc := h, stack := [.ref a] } = (((T.setTop f).pushFrame (.throwing a)).setVm vm).setFrames (.java { f with pc := h, stack := [.ref a] } :: below) := by
    rw [hS, State.setTop_of_frames (s := T.setVm vm) _ hfr]
    exact (State.setFrames_setFrames (T.setVm vm) (.throwing a :: .java f :: below) _).symm
  have hend : (stepThrowing e ((T.setTop f).pushFrame (.throwing a)) a (.java f :: below)).Is ((((T.setTop f).pushFrame (.throwing a)).setVm vm).setFrames (.java { f with pc := h, stack := [.ref a] } :: below)) [] := by
    simp only [stepThrowing, searchFrame, vmDo]
    generalize hr : Sem.go _ e false [] ((T.setTop f).pushFrame (.throwing a)) = res
    obtain ⟨as, rfl, ha⟩ := Sem.eq_ok_of hr (a := Handler.found h) (s' := ((T.setTop f).pushFrame (.throwing a)).setVm vm) (acts' := []) (by
      simp [W.findHandler_eq (s := (T.setTop f).pushFrame (.throwing a)) (f := f) X.method' X.code, hf])
    exact ⟨rfl, ha⟩
  refine Steps.head b1 b2 ?_
  have hfr2 : ((T.setTop f).pushFrame (.throwing a)).frames = .throwing a :: .java f :: below := by rw [frames_entered X.here.top, X.tail]
  rw [stepThread_throwing hfr2, hend.1, ← hR]
  exact ht
end ENG11A
section ENG11
variable {g : q_G} {M : q_Me} {fr : Bool} {rm : Room} {P : Outcome → List va_E → Prop} {pc : Nat} {ls : List (Option Value)} {hp : List va_E} {c s : Nat}
/-- the cell of an object in the list -/
theorem q_obj {hp : List va_E} {H : Heap} (hH : q_H g hp H) {x ci : Nat} {fs : List Value} (hx : hp[x]? = some (.inr (ci, fs))) : ∃ cell : Cell, H[q_b g + x]? = some cell ∧ cell.cls = (q_D g).1 ci ∧ cell.vm = .none := by
  obtain ⟨r, h1, cell, h2, h3, h4, -⟩ := hH.2.2 x _ hx
  exact ⟨cell, h2, h3, h4⟩
theorem q_cls {u : State} (hG : q_GG g) (hu : (q_s g).WarmedH u.vm) {ci : Nat} {q : vw_C} (hq : q_cl[ci]? = some q) : u.vm.findClass q.1 = some ((q_D g).1 ci) := (u_Kn_moved hu.alike (hG.2.1 ci q hq)).2.1
theorem q_self_cast {u : State} (hG : q_GG g) (hu : (q_s g).WarmedH u.vm) {ci : Nat} {q : vw_C} (hq : q_cl[ci]? = some q) (hw : Jvm.Cond.castable q.1 q.1 ∈ q_gw) : u.vm.assignable ((q_D g).1 ci) ((q_D g).1 ci) = true := by
  have h := q_face (args' := (#[] : Array Value)) hu (rfl : ((Jvm.Cond.castable q.1 q.1).onTables && (Jvm.Cond.castable q.1 q.1).keepsFace) = true) (hG.1 _ hw)
  obtain ⟨c1, c2, h1, h2, h3⟩ := Cond.castable_spec h
  have h4 := q_cls hG hu hq
  cases h4.symm.trans h1
  cases h4.symm.trans h2
  exact h3
/-- a row's class, out of her word -/
theorem q_rowlink {p : Program} {l : Launch} {e : Env} {R : Room} {u T : State} {m : MethodId} {args : Array Value} {below : List Frame} {meth : Method} {co : Code} {locs : List Loc} {c s : Nat} (hG : q_GG g) (hu : (q_s g).WarmedH u.vm) (X : Stand p l e R u m args below meth co T locs c s) {own : String} (hown : u.vm.findClass own = some m.cls) {ci i : Nat} {q : vw_C} (hq : q_cl[ci]? = some q) (hlink : Jvm.Cond.classLink own i q.1 ∈ q_gw) : u.vm.ClassLinks e.platform m.cls i ((q_D g).1 ci) := by
  obtain ⟨c', h1, h2⟩ := Cond.classLink_spec (args := args) hown (q_word hG hu hlink rfl) e.platform (by rw [X.admits.platform])
  cases (q_cls hG hu hq).symm.trans h1
  exact h2
theorem q_T.catch1 {x ci a0 b0 h0 t0 : Nat} {rest : List (Nat × Nat × Nat × Nat)} {q : vw_C} {fs : List Value} (hM : M.2.2.2.2 = (a0, b0, h0, t0) :: rest) (hcov : a0 ≤ pc ∧ pc < b0) (ht : t0 ≠ 0) (hq : q_cl[ci]? = some q) (hlink : Jvm.Cond.classLink M.1.cls t0 q.1 ∈ q_gw) (hcast : Jvm.Cond.castable q.1 q.1 ∈ q_gw) (hx : hp[x]? = some (.inr (ci, fs))) (k : q_J g M fr rm P h0 ls [.ref x] hp c s true) : q_T g M fr rm P pc ls hp c s true x := by
  intro p e R u m args below meth co locs la T st E hL hH h1 X
  have hu := E.2.2.2.2.2.1
  have hmap := E.2.2.2.2.2.2.2.2.2.2.2.2.2
  rw [hM] at hmap
  obtain ⟨y, ys, hsplit, hy, -⟩ := List.map_eq_cons_iff.mp hmap
  cases y with
  | mk y1 y2 y3 y4 =>
  cases hy
  obtain ⟨cell, hc1, hc2, hc3⟩ := q_obj hH hx
  have hl := q_rowlink E.1 hu X E.2.2.2.2.1 hq hlink
  have hfit := q_self_cast E.1 hu hq hcast
  have hn := q_cls E.1 hu hq
  rw [← hc2] at hl hfit hn
  have hW := (q_links hl X.warmed).2
  obtain ⟨t, b1, b2⟩ := k p e R u m args below meth co T.heap locs la E hL hH h1 (fun h => by cases h) _ (by rfl) (X.noted hW)
  refine ⟨t, q_into (f := F0 m pc la st) X hW (fun Q E' d acts => ?_) b1, b2⟩
  rw [hsplit, q_row (u := u) (f := F0 m pc la st) (w := (T.setTop (F0 m pc la st)).pushFrame (.throwing (q_b g + x))) X.warmed (by
    show (decide (y1 ≤ pc) && decide (pc < y2)) = true
    simp [hcov.1, hcov.2]) ht hl hc1 hc3 hn hn, if_pos hfit]
  exact Iff.rfl
theorem q_T.catch2 {x ci cj a0 b0 h0 t0 a1 b1 h1 t1 : Nat} {rest : List (Nat × Nat × Nat × Nat)} {q r : vw_C} {fs : List Value} (hM : M.2.2.2.2 = (a0, b0, h0, t0) :: (a1, b1, h1, t1) :: rest) (hcov : a1 ≤ pc ∧ pc < b1) (ht0 : t0 ≠ 0) (ht : t1 ≠ 0) (hq : q_cl[ci]? = some q) (hr : q_cl[cj]? = some r) (hlink0 : Jvm.Cond.classLink M.1.cls t0 r.1 ∈ q_gw) (hno : (q_s g).vm.assignable ((q_D g).1 ci) ((q_D g).1 cj) = false) (hlink : Jvm.Cond.classLink M.1.cls t1 q.1 ∈ q_gw) (hcast : Jvm.Cond.castable q.1 q.1 ∈ q_gw) (hx : hp[x]? = some (.inr (ci, fs))) (k : q_J g M fr rm P h1 ls [.ref x] hp c s true) : q_T g M fr rm P pc ls hp c s true x := by
  intro p e R u m args below meth co locs la T st E hL hH hl X
  have hu := E.2.2.2.2.2.1
  have hmap := E.2.2.2.2.2.2.2.2.2.2.2.2.2
  rw [hM] at hmap
  obtain ⟨z, zs, hsplit, hz, hzs⟩ := List.map_eq_cons_iff.mp hmap
  obtain ⟨y, ys, hsplit2, hy, -⟩ := List.map_eq_cons_iff.mp hzs
  cases y with
  | mk y1 y2 y3 y4 =>
  cases z with
  | mk z1 z2 z3 z4 =>
  cases hy
  cases hz
  obtain ⟨cell, hc1, hc2, hc3⟩ := q_obj hH hx
  have hly := q_rowlink E.1 hu X E.2.2.2.2.1 hq hlink
  have hlz := q_rowlink E.1 hu X E.2.2.2.2.1 hr hlink0
  have hfit := q_self_cast E.1 hu hq hcast
  have hn := q_cls E.1 hu hq
  have hnz := q_cls E.1 hu hr
  have hno' : ¬ u.vm.assignable ((q_D g).1 ci) ((q_D g).1 cj) = true := by rw [hu.alike.assignable, hno]; decide
  rw [← hc2] at hly hfit hn hno'
  have hcy : covers ⟨y1, y2, y3, y4⟩ (F0 m pc la st).pc = true := by
    show (decide (y1 ≤ pc) && decide (pc < y2)) = true
    simp [hcov.1, hcov.2]
  cases hcz : covers ⟨z1, z2, z3, z4⟩ (F0 m pc la st).pc with
  | false =>
    have hW := (q_links hly X.warmed).2
    obtain ⟨t, b1, b2⟩ := k p e R u m args below meth co T.heap locs la E hL hH hl (fun h => by cases h) _ (by rfl) (X.noted hW)
    refine ⟨t, q_into (f := F0 m pc la st) X hW (fun Q E' d acts => ?_) b1, b2⟩
    rw [hsplit, hsplit2, W.findHandler_go_skip hcz, q_row (u := u) (f := F0 m pc la st) (w := (T.setTop (F0 m pc la st)).pushFrame (.throwing (q_b g + x))) X.warmed hcy ht hly hc1 hc3 hn hn, if_pos hfit]
    exact Iff.rfl
  | true =>
    have hW1 := (q_links hlz X.warmed).2
    have hW := (q_links hly hW1).2
    obtain ⟨t, b1, b2⟩ := k p e R u m args below meth co T.heap locs la E hL hH hl (fun h => by cases h) _ (by rfl) (X.noted hW)
    refine ⟨t, q_into (f := F0 m pc la st) X hW (fun Q E' d acts => ?_) b1, b2⟩
    rw [hsplit, hsplit2, q_row (u := u) (f := F0 m pc la st) (w := (T.setTop (F0 m pc la st)).pushFrame (.throwing (q_b g + x))) X.warmed hcz ht0 hlz hc1 hc3 hn hnz, if_neg hno']
    refine (q_row (u := u) (f := F0 m pc la st) (w := ((T.setTop (F0 m pc la st)).pushFrame (.throwing (q_b g + x))).setVm _) hW1 hcy ht hly hc1 hc3 hn hn).trans ?_
    rw [if_pos hfit]
    exact Iff.rfl
end ENG11
