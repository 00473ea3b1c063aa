/-! The engine, 2: the judgement and the rows of the instructions that touch no cell -/
section ENG2
/-- what a walk of M knows of its surroundings -/
def q_E (g : q_G) (M : q_Me) (rm : Room) (p : Program) (e : Env) (R : Room) (u : State) (m : MethodId) (meth : Method) (co : Code) : Prop :=
  q_GG g ∧ p.tables.exec = Jvm.exec ∧ co.code = M.2.1 ∧ co.maxLocals = M.2.2.1 ∧ u.vm.findClass M.1.cls = some m.cls ∧ (q_s g).WarmedH u.vm ∧ meth.sig.returnType = M.2.2.2.1 ∧ meth.locks = false ∧ meth.name = M.1.name ∧
  rm.frames ≤ R.frames ∧ rm.locals ≤ R.locals ∧ rm.cells ≤ R.cells ∧ rm.slots ≤ R.slots ∧ co.exceptionTable.toList.map (fun h => (h.startPc, h.endPc, h.handlerPc, h.catchType)) = M.2.2.2.2
/-- an end: outcome and cells -/
def q_Q (g : q_G) (fr : Bool) (P : Outcome → List va_E → Prop) (u : State) (o : Outcome) (t : State) : Prop := ∃ (r : Outcome) (hp : List va_E), o = q_eo g r ∧ q_H g hp t.heap ∧ P r hp ∧ (fr = false → (∃ v, r = .returned v) → t.heap = u.heap)
def q_M (below : List Frame) (Qc : State → Outcome → State → Prop) (u : State) (mc ms : Nat) (free : Addr → Prop) : State → Prop := fun t =>
  ∃ o, t.status = .running ∧ Ended t below o ∧ Qc u o t ∧ ∃ L, (u.WarmedH t.vm ∧ u.sameButNew ({ t with vm := u.vm } : State) L mc ms) ∧ ∀ q ∈ L, free q.base
def q_J (g : q_G) (M : q_Me) (fr : Bool) (rm : Room) (P : Outcome → List va_E → Prop) (pc : Nat) (ls : List (Option Value)) (st : List Value) (hp : List va_E) (c s : Nat) (w : Bool) : Prop :=
  ∀ (p : Program) (e : Env) (R : Room) (u : State) (m : MethodId) (args : Array Value) (below : List Frame) (meth : Method) (co : Code) (H : Heap) (locs : List Loc) (la : Array Slot),
    q_E g M rm p e R u m meth co → q_L g M.2.2.1 la ls → q_H g hp H → (∀ q ∈ locs, w = true ∧ q_b g ≤ q.base) → (w = false → H = u.heap) →
    W p (q_l g) e R u m args below meth co H locs c s (q_M below (q_Q g fr P) u rm.cells rm.slots (fun q => fr = true ∧ q_b g ≤ q)) (F0 m pc la (st.map (q_ev g)))
theorem q_mono {p : Program} {l : Launch} {e : Env} {R : Room} {s : State} {m : MethodId} {args : Array Value} {below : List Frame} {meth : Method} {c : Code} {H : Heap} {locs : List Loc} {cells slots : Nat} {Q Q' : State → Prop} {f : JFrame} (h : ∀ t, Q t → Q' t) (k : W p l e R s m args below meth c H locs cells slots Q f) : W p l e R s m args below meth c H locs cells slots Q' f := by
  intro T hT X
  obtain ⟨t, a, b⟩ := k T hT X
  exact ⟨t, a, h t b⟩
theorem q_ofMQ {below : List Frame} {Qc : State → Outcome → State → Prop} {a : Array Value} {u : State} {mc ms : Nat} {free : Addr → Prop} : ∀ t, MQ below (fun _ => Qc) a u mc ms free t → q_M below Qc u mc ms free t := fun t ⟨o, a1, a2, a3, L, a4, a5⟩ => ⟨o, a1, a2, a3, L, a4.2, a5⟩
variable {g : q_G} {M : q_Me} {fr : Bool} {rm : Room} {P : Outcome → List va_E → Prop} {pc : Nat} {ls : List (Option Value)} {st : List Value} {hp : List va_E} {c s : Nat} {w : Bool}
theorem q_more {c' s' : Nat} (h1 : c ≤ c') (h2 : s ≤ s') (k : q_J g M fr rm P pc ls st hp c' s' w) : q_J g M fr rm P pc ls st hp c s w :=
  fun p e R u m args below meth co H locs la E hL hH h3 h4 => W.widen h1 h2 (k p e R u m args below meth co H locs la E hL hH h3 h4)
theorem q_wrote (k : q_J g M fr rm P pc ls st hp c s true) : q_J g M fr rm P pc ls st hp c s w :=
  fun p e R u m args below meth co H locs la E hL hH h3 _ => k p e R u m args below meth co H locs la E hL hH (fun q hq => ⟨rfl, (h3 q hq).2⟩) (fun h => by cases h)
theorem q_post {P' : Outcome → List va_E → Prop} (h : ∀ r hp', P' r hp' → P r hp') (k : q_J g M fr rm P' pc ls st hp c s w) : q_J g M fr rm P pc ls st hp c s w :=
  fun p e R u m args below meth co H locs la E hL hH h3 h4 => q_mono (fun t ⟨o, a1, a2, ⟨r, hp', b1, b2, b3, b4⟩, a4⟩ => ⟨o, a1, a2, ⟨r, hp', b1, b2, h r hp' b3, b4⟩, a4⟩) (k p e R u m args below meth co H locs la E hL hH h3 h4)

theorem q_iconst {n : Int} {v : Int32} (hd : decode M.2.1 pc = .ok (.iconst n, 1)) (hv : Int32.ofInt n = v) (k : q_J g M fr rm P (pc + 1) ls (.int v :: st) hp c s w) : q_J g M fr rm P pc ls st hp c s w :=
  fun p e R u m args below meth co H locs la E hL hH h1 h2 => lv_iconst E.2.1 E.2.2.1 hd hv (k p e R u m args below meth co H locs la E hL hH h1 h2)
theorem q_bipush {n : Int} {v : Int32} (hd : decode M.2.1 pc = .ok (.bipush n, 2)) (hv : (Int8.ofInt n).toInt32 = v) (k : q_J g M fr rm P (pc + 2) ls (.int v :: st) hp c s w) : q_J g M fr rm P pc ls st hp c s w :=
  fun p e R u m args below meth co H locs la E hL hH h1 h2 => lv_bipush E.2.1 E.2.2.1 hd hv (k p e R u m args below meth co H locs la E hL hH h1 h2)
theorem q_sipush {n : Int} {v : Int32} (hd : decode M.2.1 pc = .ok (.sipush n, 3)) (hv : (Int16.ofInt n).toInt32 = v) (k : q_J g M fr rm P (pc + 3) ls (.int v :: st) hp c s w) : q_J g M fr rm P pc ls st hp c s w :=
  fun p e R u m args below meth co H locs la E hL hH h1 h2 => lv_sipush E.2.1 E.2.2.1 hd hv (k p e R u m args below meth co H locs la E hL hH h1 h2)
theorem q_lconst {n : Fin 2} {v : Int64} (hd : decode M.2.1 pc = .ok (.lconst n, 1)) (hv : Int64.ofNat (n : Nat) = v) (k : q_J g M fr rm P (pc + 1) ls (.long v :: st) hp c s w) : q_J g M fr rm P pc ls st hp c s w :=
  fun p e R u m args below meth co H locs la E hL hH h1 h2 => lv_lconst E.2.1 E.2.2.1 hd hv (k p e R u m args below meth co H locs la E hL hH h1 h2)
theorem q_null (hd : decode M.2.1 pc = .ok (.aconst_null, 1)) (k : q_J g M fr rm P (pc + 1) ls (.null :: st) hp c s w) : q_J g M fr rm P pc ls st hp c s w :=
  fun p e R u m args below meth co H locs la E hL hH h1 h2 => lv_null E.2.1 E.2.2.1 hd (k p e R u m args below meth co H locs la E hL hH h1 h2)
theorem q_iload_n {k : Fin 4} {x : Int32} (hd : decode M.2.1 pc = .ok (.iload_n k, 1)) (hl : ls[(k : Nat)]? = some (some (.int x))) (kk : q_J g M fr rm P (pc + 1) ls (.int x :: st) hp c s w) : q_J g M fr rm P pc ls st hp c s w :=
  fun p e R u m args below meth co H locs la E hL hH h1 h2 => lv_iload_n E.2.1 E.2.2.1 hd rfl (hL.2.2 _ _ hl) (kk p e R u m args below meth co H locs la E hL hH h1 h2)
theorem q_iload {i : Nat} {x : Int32} (hd : decode M.2.1 pc = .ok (.iload i, 2)) (hl : ls[i]? = some (some (.int x))) (kk : q_J g M fr rm P (pc + 2) ls (.int x :: st) hp c s w) : q_J g M fr rm P pc ls st hp c s w :=
  fun p e R u m args below meth co H locs la E hL hH h1 h2 => lv_iload E.2.1 E.2.2.1 hd (hL.2.2 _ _ hl) (kk p e R u m args below meth co H locs la E hL hH h1 h2)
theorem q_istore_n {k : Fin 4} {i : Nat} {x : Int32} {ls' : List (Option Value)} (hd : decode M.2.1 pc = .ok (.istore_n k, 1)) (hi : (k : Nat) = i) (hn : i < M.2.2.1) (hl : q_st1 ls i (.int x) = ls') (kk : q_J g M fr rm P (pc + 1) ls' st hp c s w) : q_J g M fr rm P pc ls (.int x :: st) hp c s w :=
  fun p e R u m args below meth co H locs la E hL hH h1 h2 => lv_istore_n E.2.1 E.2.2.1 hd hi hL.has hn rfl (fun la' h' => kk p e R u m args below meth co H locs la' E (hl ▸ q_L.st1 h') hH h1 h2)
theorem q_istore {i : Nat} {x : Int32} {ls' : List (Option Value)} (hd : decode M.2.1 pc = .ok (.istore i, 2)) (hn : i < M.2.2.1) (hl : q_st1 ls i (.int x) = ls') (kk : q_J g M fr rm P (pc + 2) ls' st hp c s w) : q_J g M fr rm P pc ls (.int x :: st) hp c s w :=
  fun p e R u m args below meth co H locs la E hL hH h1 h2 => lv_istore E.2.1 E.2.2.1 hd hL.has hn rfl (fun la' h' => kk p e R u m args below meth co H locs la' E (hl ▸ q_L.st1 h') hH h1 h2)
theorem q_lload_n {k : Fin 4} {x : Int64} (hd : decode M.2.1 pc = .ok (.lload_n k, 1)) (hl : ls[(k : Nat)]? = some (some (.long x))) (kk : q_J g M fr rm P (pc + 1) ls (.long x :: st) hp c s w) : q_J g M fr rm P pc ls st hp c s w :=
  fun p e R u m args below meth co H locs la E hL hH h1 h2 => lv_lload_n E.2.1 E.2.2.1 hd rfl (hL.2.2 _ _ hl) (kk p e R u m args below meth co H locs la E hL hH h1 h2)
theorem q_lload {i : Nat} {x : Int64} (hd : decode M.2.1 pc = .ok (.lload i, 2)) (hl : ls[i]? = some (some (.long x))) (kk : q_J g M fr rm P (pc + 2) ls (.long x :: st) hp c s w) : q_J g M fr rm P pc ls st hp c s w :=
  fun p e R u m args below meth co H locs la E hL hH h1 h2 => lv_lload E.2.1 E.2.2.1 hd (hL.2.2 _ _ hl) (kk p e R u m args below meth co H locs la E hL hH h1 h2)
theorem q_lstore_n {k : Fin 4} {i : Nat} {x : Int64} {ls' : List (Option Value)} (hd : decode M.2.1 pc = .ok (.lstore_n k, 1)) (hi : (k : Nat) = i) (hn : i + 1 < M.2.2.1) (hl : q_st2 ls i (.long x) = ls') (kk : q_J g M fr rm P (pc + 1) ls' st hp c s w) : q_J g M fr rm P pc ls (.long x :: st) hp c s w :=
  fun p e R u m args below meth co H locs la E hL hH h1 h2 => lv_lstore_n E.2.1 E.2.2.1 hd hi hL.has hn rfl (fun la' h' => kk p e R u m args below meth co H locs la' E (hl ▸ q_L.st2 h') hH h1 h2)
theorem q_lstore {i : Nat} {x : Int64} {ls' : List (Option Value)} (hd : decode M.2.1 pc = .ok (.lstore i, 2)) (hn : i + 1 < M.2.2.1) (hl : q_st2 ls i (.long x) = ls') (kk : q_J g M fr rm P (pc + 2) ls' st hp c s w) : q_J g M fr rm P pc ls (.long x :: st) hp c s w :=
  fun p e R u m args below meth co H locs la E hL hH h1 h2 => lv_lstore E.2.1 E.2.2.1 hd hL.has hn rfl (fun la' h' => kk p e R u m args below meth co H locs la' E (hl ▸ q_L.st2 h') hH h1 h2)
def q_isr : Value → Bool
  | .null | .ref _ | .retAddr _ => true
  | _ => false
theorem q_aload_n {k : Fin 4} {v : Value} (hd : decode M.2.1 pc = .ok (.aload_n k, 1)) (hl : ls[(k : Nat)]? = some (some v)) (hv : q_isr v = true) (kk : q_J g M fr rm P (pc + 1) ls (v :: st) hp c s w) : q_J g M fr rm P pc ls st hp c s w := by
  intro p e R u m args below meth co H locs la E hL hH h1 h2
  have h3 := hL.2.2 _ _ hl
  have h4 := kk p e R u m args below meth co H locs la E hL hH h1 h2
  cases v <;> first | (exact lv_aload_n E.2.1 E.2.2.1 hd rfl h3 h4) | (exact lv_aload_nN E.2.1 E.2.2.1 hd rfl h3 h4) | (exact absurd hv (by simp [q_isr]))
theorem q_aload {i : Nat} {v : Value} (hd : decode M.2.1 pc = .ok (.aload i, 2)) (hl : ls[i]? = some (some v)) (hv : q_isr v = true) (kk : q_J g M fr rm P (pc + 2) ls (v :: st) hp c s w) : q_J g M fr rm P pc ls st hp c s w := by
  intro p e R u m args below meth co H locs la E hL hH h1 h2
  have h3 := hL.2.2 _ _ hl
  have h4 := kk p e R u m args below meth co H locs la E hL hH h1 h2
  cases v <;> first | (exact lv_aload E.2.1 E.2.2.1 hd h3 h4) | (exact lv_aloadN E.2.1 E.2.2.1 hd h3 h4) | (exact absurd hv (by simp [q_isr]))
theorem q_astore_n {k : Fin 4} {i : Nat} {v : Value} {ls' : List (Option Value)} (hd : decode M.2.1 pc = .ok (.astore_n k, 1)) (hi : (k : Nat) = i) (hv : q_isr v = true) (hn : i < M.2.2.1) (hl : q_st1 ls i v = ls') (kk : q_J g M fr rm P (pc + 1) ls' st hp c s w) : q_J g M fr rm P pc ls (v :: st) hp c s w := by
  intro p e R u m args below meth co H locs la E hL hH h1 h2
  have h3 : ∀ la' : Array Slot, lv_has la' M.2.2.1 ((i, q_ev g v) :: (q_pr g ls).filter (fun q => !(q.1 == i) && !(q.1 + 1 == i && q.2.category == 2))) → W p (q_l g) e R u m args below meth co H locs c s (q_M below (q_Q g fr P) u rm.cells rm.slots (fun q => fr = true ∧ q_b g ≤ q)) (F0 m (pc + 1) la' (st.map (q_ev g))) := fun la' h' => kk p e R u m args below meth co H locs la' E (hl ▸ q_L.st1 h') hH h1 h2
  cases v <;> first | (exact lv_astore_n E.2.1 E.2.2.1 hd hi hL.has hn rfl h3) | (exact lv_astore_nN E.2.1 E.2.2.1 hd hi hL.has hn rfl h3) | (exact absurd hv (by simp [q_isr]))
theorem q_astore {i : Nat} {v : Value} {ls' : List (Option Value)} (hd : decode M.2.1 pc = .ok (.astore i, 2)) (hv : q_isr v = true) (hn : i < M.2.2.1) (hl : q_st1 ls i v = ls') (kk : q_J g M fr rm P (pc + 2) ls' st hp c s w) : q_J g M fr rm P pc ls (v :: st) hp c s w := by
  intro p e R u m args below meth co H locs la E hL hH h1 h2
  have h3 : ∀ la' : Array Slot, lv_has la' M.2.2.1 ((i, q_ev g v) :: (q_pr g ls).filter (fun q => !(q.1 == i) && !(q.1 + 1 == i && q.2.category == 2))) → W p (q_l g) e R u m args below meth co H locs c s (q_M below (q_Q g fr P) u rm.cells rm.slots (fun q => fr = true ∧ q_b g ≤ q)) (F0 m (pc + 2) la' (st.map (q_ev g))) := fun la' h' => kk p e R u m args below meth co H locs la' E (hl ▸ q_L.st1 h') hH h1 h2
  cases v <;> first | (exact lv_astore E.2.1 E.2.2.1 hd hL.has hn rfl h3) | (exact lv_astoreN E.2.1 E.2.2.1 hd hL.has hn rfl h3) | (exact absurd hv (by simp [q_isr]))
theorem q_iinc {i : Nat} {n : Int} {x v : Int32} {ls' : List (Option Value)} (hd : decode M.2.1 pc = .ok (.iinc i n, 3)) (hx : ls[i]? = some (some (.int x))) (hv : x + Int32.ofInt n = v) (hn : i < M.2.2.1) (hl : q_st1 ls i (.int v) = ls') (kk : q_J g M fr rm P (pc + 3) ls' st hp c s w) : q_J g M fr rm P pc ls st hp c s w := by
  intro p e R u m args below meth co H locs la E hL hH h1 h2
  obtain ⟨k, hk⟩ := List.getElem?_of_mem (q_pr_in (g := g) hx)
  exact lv_iinc E.2.1 E.2.2.1 hd hL.has hk hv hn rfl (fun la' h' => kk p e R u m args below meth co H locs la' E (hl ▸ q_L.st1 h') hH h1 h2)
theorem q_iadd {x y : Int32} (hd : decode M.2.1 pc = .ok (.iadd, 1)) (k : q_J g M fr rm P (pc + 1) ls (.int (x + y) :: st) hp c s w) : q_J g M fr rm P pc ls (.int y :: .int x :: st) hp c s w :=
  fun p e R u m args below meth co H locs la E hL hH h1 h2 => lv_iadd E.2.1 E.2.2.1 hd (k p e R u m args below meth co H locs la E hL hH h1 h2)
theorem q_isub {x y : Int32} (hd : decode M.2.1 pc = .ok (.isub, 1)) (k : q_J g M fr rm P (pc + 1) ls (.int (x - y) :: st) hp c s w) : q_J g M fr rm P pc ls (.int y :: .int x :: st) hp c s w :=
  fun p e R u m args below meth co H locs la E hL hH h1 h2 => lv_isub E.2.1 E.2.2.1 hd (k p e R u m args below meth co H locs la E hL hH h1 h2)
theorem q_imul {x y : Int32} (hd : decode M.2.1 pc = .ok (.imul, 1)) (k : q_J g M fr rm P (pc + 1) ls (.int (x * y) :: st) hp c s w) : q_J g M fr rm P pc ls (.int y :: .int x :: st) hp c s w :=
  fun p e R u m args below meth co H locs la E hL hH h1 h2 => lv_imul E.2.1 E.2.2.1 hd (k p e R u m args below meth co H locs la E hL hH h1 h2)
theorem q_iand {x y : Int32} (hd : decode M.2.1 pc = .ok (.iand, 1)) (k : q_J g M fr rm P (pc + 1) ls (.int (x &&& y) :: st) hp c s w) : q_J g M fr rm P pc ls (.int y :: .int x :: st) hp c s w :=
  fun p e R u m args below meth co H locs la E hL hH h1 h2 => lv_iand E.2.1 E.2.2.1 hd (k p e R u m args below meth co H locs la E hL hH h1 h2)
theorem q_ior {x y : Int32} (hd : decode M.2.1 pc = .ok (.ior, 1)) (k : q_J g M fr rm P (pc + 1) ls (.int (x ||| y) :: st) hp c s w) : q_J g M fr rm P pc ls (.int y :: .int x :: st) hp c s w :=
  fun p e R u m args below meth co H locs la E hL hH h1 h2 => lv_ior E.2.1 E.2.2.1 hd (k p e R u m args below meth co H locs la E hL hH h1 h2)
theorem q_ixor {x y : Int32} (hd : decode M.2.1 pc = .ok (.ixor, 1)) (k : q_J g M fr rm P (pc + 1) ls (.int (x ^^^ y) :: st) hp c s w) : q_J g M fr rm P pc ls (.int y :: .int x :: st) hp c s w :=
  fun p e R u m args below meth co H locs la E hL hH h1 h2 => lv_ixor E.2.1 E.2.2.1 hd (k p e R u m args below meth co H locs la E hL hH h1 h2)
theorem q_ishl {x y : Int32} (hd : decode M.2.1 pc = .ok (.ishl, 1)) (k : q_J g M fr rm P (pc + 1) ls (.int (x <<< (y &&& 31)) :: st) hp c s w) : q_J g M fr rm P pc ls (.int y :: .int x :: st) hp c s w :=
  fun p e R u m args below meth co H locs la E hL hH h1 h2 => lv_ishl E.2.1 E.2.2.1 hd (k p e R u m args below meth co H locs la E hL hH h1 h2)
theorem q_ishr {x y : Int32} (hd : decode M.2.1 pc = .ok (.ishr, 1)) (k : q_J g M fr rm P (pc + 1) ls (.int (x >>> (y &&& 31)) :: st) hp c s w) : q_J g M fr rm P pc ls (.int y :: .int x :: st) hp c s w :=
  fun p e R u m args below meth co H locs la E hL hH h1 h2 => lv_ishr E.2.1 E.2.2.1 hd (k p e R u m args below meth co H locs la E hL hH h1 h2)
theorem q_iushr {x y : Int32} (hd : decode M.2.1 pc = .ok (.iushr, 1)) (k : q_J g M fr rm P (pc + 1) ls (.int ((x.toUInt32 >>> (y.toUInt32 &&& Int32.toUInt32 31)).toInt32) :: st) hp c s w) : q_J g M fr rm P pc ls (.int y :: .int x :: st) hp c s w :=
  fun p e R u m args below meth co H locs la E hL hH h1 h2 => lv_iushr E.2.1 E.2.2.1 hd rfl (k p e R u m args below meth co H locs la E hL hH h1 h2)
theorem q_idiv {x y : Int32} (hd : decode M.2.1 pc = .ok (.idiv, 1)) (hne : ¬ y = 0) (k : q_J g M fr rm P (pc + 1) ls (.int (x / y) :: st) hp c s w) : q_J g M fr rm P pc ls (.int y :: .int x :: st) hp c s w :=
  fun p e R u m args below meth co H locs la E hL hH h1 h2 => lv_idiv E.2.1 E.2.2.1 hd hne (k p e R u m args below meth co H locs la E hL hH h1 h2)
theorem q_irem {x y : Int32} (hd : decode M.2.1 pc = .ok (.irem, 1)) (hne : ¬ y = 0) (k : q_J g M fr rm P (pc + 1) ls (.int (x - x / y * y) :: st) hp c s w) : q_J g M fr rm P pc ls (.int y :: .int x :: st) hp c s w :=
  fun p e R u m args below meth co H locs la E hL hH h1 h2 => lv_irem E.2.1 E.2.2.1 hd hne (k p e R u m args below meth co H locs la E hL hH h1 h2)
theorem q_ineg {x : Int32} (hd : decode M.2.1 pc = .ok (.ineg, 1)) (k : q_J g M fr rm P (pc + 1) ls (.int (-x) :: st) hp c s w) : q_J g M fr rm P pc ls (.int x :: st) hp c s w :=
  fun p e R u m args below meth co H locs la E hL hH h1 h2 => lv_ineg E.2.1 E.2.2.1 hd (k p e R u m args below meth co H locs la E hL hH h1 h2)
theorem q_ladd {x y : Int64} (hd : decode M.2.1 pc = .ok (.ladd, 1)) (k : q_J g M fr rm P (pc + 1) ls (.long (x + y) :: st) hp c s w) : q_J g M fr rm P pc ls (.long y :: .long x :: st) hp c s w :=
  fun p e R u m args below meth co H locs la E hL hH h1 h2 => lv_ladd E.2.1 E.2.2.1 hd (k p e R u m args below meth co H locs la E hL hH h1 h2)
theorem q_lsub {x y : Int64} (hd : decode M.2.1 pc = .ok (.lsub, 1)) (k : q_J g M fr rm P (pc + 1) ls (.long (x - y) :: st) hp c s w) : q_J g M fr rm P pc ls (.long y :: .long x :: st) hp c s w :=
  fun p e R u m args below meth co H locs la E hL hH h1 h2 => lv_lsub E.2.1 E.2.2.1 hd (k p e R u m args below meth co H locs la E hL hH h1 h2)
theorem q_lmul {x y : Int64} (hd : decode M.2.1 pc = .ok (.lmul, 1)) (k : q_J g M fr rm P (pc + 1) ls (.long (x * y) :: st) hp c s w) : q_J g M fr rm P pc ls (.long y :: .long x :: st) hp c s w :=
  fun p e R u m args below meth co H locs la E hL hH h1 h2 => lv_lmul E.2.1 E.2.2.1 hd (k p e R u m args below meth co H locs la E hL hH h1 h2)
theorem q_land {x y : Int64} (hd : decode M.2.1 pc = .ok (.land, 1)) (k : q_J g M fr rm P (pc + 1) ls (.long (x &&& y) :: st) hp c s w) : q_J g M fr rm P pc ls (.long y :: .long x :: st) hp c s w :=
  fun p e R u m args below meth co H locs la E hL hH h1 h2 => lv_land E.2.1 E.2.2.1 hd (k p e R u m args below meth co H locs la E hL hH h1 h2)
theorem q_lor {x y : Int64} (hd : decode M.2.1 pc = .ok (.lor, 1)) (k : q_J g M fr rm P (pc + 1) ls (.long (x ||| y) :: st) hp c s w) : q_J g M fr rm P pc ls (.long y :: .long x :: st) hp c s w :=
  fun p e R u m args below meth co H locs la E hL hH h1 h2 => lv_lor E.2.1 E.2.2.1 hd (k p e R u m args below meth co H locs la E hL hH h1 h2)
theorem q_lxor {x y : Int64} (hd : decode M.2.1 pc = .ok (.lxor, 1)) (k : q_J g M fr rm P (pc + 1) ls (.long (x ^^^ y) :: st) hp c s w) : q_J g M fr rm P pc ls (.long y :: .long x :: st) hp c s w :=
  fun p e R u m args below meth co H locs la E hL hH h1 h2 => lv_lxor E.2.1 E.2.2.1 hd (k p e R u m args below meth co H locs la E hL hH h1 h2)
theorem q_ldiv {x y : Int64} (hd : decode M.2.1 pc = .ok (.ldiv, 1)) (hne : ¬ y = 0) (k : q_J g M fr rm P (pc + 1) ls (.long (x / y) :: st) hp c s w) : q_J g M fr rm P pc ls (.long y :: .long x :: st) hp c s w :=
  fun p e R u m args below meth co H locs la E hL hH h1 h2 => lv_ldiv E.2.1 E.2.2.1 hd hne (k p e R u m args below meth co H locs la E hL hH h1 h2)
theorem q_lrem {x y : Int64} (hd : decode M.2.1 pc = .ok (.lrem, 1)) (hne : ¬ y = 0) (k : q_J g M fr rm P (pc + 1) ls (.long (x - x / y * y) :: st) hp c s w) : q_J g M fr rm P pc ls (.long y :: .long x :: st) hp c s w :=
  fun p e R u m args below meth co H locs la E hL hH h1 h2 => lv_lrem E.2.1 E.2.2.1 hd hne (k p e R u m args below meth co H locs la E hL hH h1 h2)
theorem q_lneg {x : Int64} (hd : decode M.2.1 pc = .ok (.lneg, 1)) (k : q_J g M fr rm P (pc + 1) ls (.long (-x) :: st) hp c s w) : q_J g M fr rm P pc ls (.long x :: st) hp c s w :=
  fun p e R u m args below meth co H locs la E hL hH h1 h2 => lv_lneg E.2.1 E.2.2.1 hd (k p e R u m args below meth co H locs la E hL hH h1 h2)
theorem q_lushr {x : Int64} {y : Int32} (hd : decode M.2.1 pc = .ok (.lushr, 1)) (k : q_J g M fr rm P (pc + 1) ls (.long ((x.toUInt64 >>> (y.toInt64.toUInt64 &&& Int64.toUInt64 63)).toInt64) :: st) hp c s w) : q_J g M fr rm P pc ls (.int y :: .long x :: st) hp c s w :=
  fun p e R u m args below meth co H locs la E hL hH h1 h2 => lv_lushr E.2.1 E.2.2.1 hd rfl (k p e R u m args below meth co H locs la E hL hH h1 h2)
theorem q_lshl {x : Int64} {y : Int32} (hd : decode M.2.1 pc = .ok (.lshl, 1)) (k : q_J g M fr rm P (pc + 1) ls (.long (x <<< (y.toInt64 &&& 63)) :: st) hp c s w) : q_J g M fr rm P pc ls (.int y :: .long x :: st) hp c s w :=
  fun p e R u m args below meth co H locs la E hL hH h1 h2 => lv_lshl E.2.1 E.2.2.1 hd rfl (k p e R u m args below meth co H locs la E hL hH h1 h2)
theorem q_lshr {x : Int64} {y : Int32} (hd : decode M.2.1 pc = .ok (.lshr, 1)) (k : q_J g M fr rm P (pc + 1) ls (.long (x >>> (y.toInt64 &&& 63)) :: st) hp c s w) : q_J g M fr rm P pc ls (.int y :: .long x :: st) hp c s w :=
  fun p e R u m args below meth co H locs la E hL hH h1 h2 => lv_lshr E.2.1 E.2.2.1 hd rfl (k p e R u m args below meth co H locs la E hL hH h1 h2)
theorem q_i2l {x : Int32} (hd : decode M.2.1 pc = .ok (.i2l, 1)) (k : q_J g M fr rm P (pc + 1) ls (.long x.toInt64 :: st) hp c s w) : q_J g M fr rm P pc ls (.int x :: st) hp c s w :=
  fun p e R u m args below meth co H locs la E hL hH h1 h2 => lv_i2l E.2.1 E.2.2.1 hd rfl (k p e R u m args below meth co H locs la E hL hH h1 h2)
theorem q_l2i {x : Int64} (hd : decode M.2.1 pc = .ok (.l2i, 1)) (k : q_J g M fr rm P (pc + 1) ls (.int x.toInt32 :: st) hp c s w) : q_J g M fr rm P pc ls (.long x :: st) hp c s w :=
  fun p e R u m args below meth co H locs la E hL hH h1 h2 => lv_l2i E.2.1 E.2.2.1 hd rfl (k p e R u m args below meth co H locs la E hL hH h1 h2)
theorem q_i2b {x : Int32} (hd : decode M.2.1 pc = .ok (.i2b, 1)) (k : q_J g M fr rm P (pc + 1) ls (.int x.toInt8.toInt32 :: st) hp c s w) : q_J g M fr rm P pc ls (.int x :: st) hp c s w :=
  fun p e R u m args below meth co H locs la E hL hH h1 h2 => lv_i2b E.2.1 E.2.2.1 hd rfl (k p e R u m args below meth co H locs la E hL hH h1 h2)
theorem q_lcmp {x y : Int64} (hd : decode M.2.1 pc = .ok (.lcmp, 1)) (k : q_J g M fr rm P (pc + 1) ls (.int (lg_cmp x y) :: st) hp c s w) : q_J g M fr rm P pc ls (.long y :: .long x :: st) hp c s w :=
  fun p e R u m args below meth co H locs la E hL hH h1 h2 => W.lcmp E.2.1 E.2.2.1 hd (k p e R u m args below meth co H locs la E hL hH h1 h2)
theorem q_dup {va : Value} (hd : decode M.2.1 pc = .ok (.dup, 1)) (hva : va.category = 1) (k : q_J g M fr rm P (pc + 1) ls (va :: va :: st) hp c s w) : q_J g M fr rm P pc ls (va :: st) hp c s w :=
  fun p e R u m args below meth co H locs la E hL hH h1 h2 => lv_dup E.2.1 E.2.2.1 hd (by rw [q_ev_cat]; exact hva) (k p e R u m args below meth co H locs la E hL hH h1 h2)
theorem q_pop {va : Value} (hd : decode M.2.1 pc = .ok (.pop, 1)) (hva : va.category = 1) (k : q_J g M fr rm P (pc + 1) ls st hp c s w) : q_J g M fr rm P pc ls (va :: st) hp c s w :=
  fun p e R u m args below meth co H locs la E hL hH h1 h2 => lv_pop E.2.1 E.2.2.1 hd (by rw [q_ev_cat]; exact hva) (k p e R u m args below meth co H locs la E hL hH h1 h2)
theorem q_dup_x1 {va vb : Value} (hd : decode M.2.1 pc = .ok (.dup_x1, 1)) (hva : va.category = 1) (hvb : vb.category = 1) (k : q_J g M fr rm P (pc + 1) ls (va :: vb :: va :: st) hp c s w) : q_J g M fr rm P pc ls (va :: vb :: st) hp c s w :=
  fun p e R u m args below meth co H locs la E hL hH h1 h2 => lv_dup_x1 E.2.1 E.2.2.1 hd (by rw [q_ev_cat]; exact hva) (by rw [q_ev_cat]; exact hvb) (k p e R u m args below meth co H locs la E hL hH h1 h2)
theorem q_dup_x2 {va vb vd : Value} (hd : decode M.2.1 pc = .ok (.dup_x2, 1)) (hva : va.category = 1) (hvb : vb.category = 1) (hvd : vd.category = 1) (k : q_J g M fr rm P (pc + 1) ls (va :: vb :: vd :: va :: st) hp c s w) : q_J g M fr rm P pc ls (va :: vb :: vd :: st) hp c s w :=
  fun p e R u m args below meth co H locs la E hL hH h1 h2 => lv_dup_x2 E.2.1 E.2.2.1 hd (by rw [q_ev_cat]; exact hva) (by rw [q_ev_cat]; exact hvb) (by rw [q_ev_cat]; exact hvd) (k p e R u m args below meth co H locs la E hL hH h1 h2)
theorem q_dup2 {va vb : Value} (hd : decode M.2.1 pc = .ok (.dup2, 1)) (hva : va.category = 1) (hvb : vb.category = 1) (k : q_J g M fr rm P (pc + 1) ls (va :: vb :: va :: vb :: st) hp c s w) : q_J g M fr rm P pc ls (va :: vb :: st) hp c s w :=
  fun p e R u m args below meth co H locs la E hL hH h1 h2 => lv_dup2_11 E.2.1 E.2.2.1 hd (by rw [q_ev_cat]; exact hva) (by rw [q_ev_cat]; exact hvb) (k p e R u m args below meth co H locs la E hL hH h1 h2)
theorem q_dup2_2 {va : Value} (hd : decode M.2.1 pc = .ok (.dup2, 1)) (hva : va.category = 2) (k : q_J g M fr rm P (pc + 1) ls (va :: va :: st) hp c s w) : q_J g M fr rm P pc ls (va :: st) hp c s w :=
  fun p e R u m args below meth co H locs la E hL hH h1 h2 => lv_dup2_2 E.2.1 E.2.2.1 hd (by rw [q_ev_cat]; exact hva) (k p e R u m args below meth co H locs la E hL hH h1 h2)
theorem q_pop2_2 {va : Value} (hd : decode M.2.1 pc = .ok (.pop2, 1)) (hva : va.category = 2) (k : q_J g M fr rm P (pc + 1) ls st hp c s w) : q_J g M fr rm P pc ls (va :: st) hp c s w :=
  fun p e R u m args below meth co H locs la E hL hH h1 h2 => lv_pop2_2 E.2.1 E.2.2.1 hd (by rw [q_ev_cat]; exact hva) (k p e R u m args below meth co H locs la E hL hH h1 h2)
theorem q_dup2_x1_2 {va vb : Value} (hd : decode M.2.1 pc = .ok (.dup2_x1, 1)) (hva : va.category = 2) (hvb : vb.category = 1) (k : q_J g M fr rm P (pc + 1) ls (va :: vb :: va :: st) hp c s w) : q_J g M fr rm P pc ls (va :: vb :: st) hp c s w :=
  fun p e R u m args below meth co H locs la E hL hH h1 h2 => lv_dup2_x1_2 E.2.1 E.2.2.1 hd (by rw [q_ev_cat]; exact hva) (by rw [q_ev_cat]; exact hvb) (k p e R u m args below meth co H locs la E hL hH h1 h2)
theorem q_dup2_x2_2 {va vb vd : Value} (hd : decode M.2.1 pc = .ok (.dup2_x2, 1)) (hva : va.category = 2) (hvb : vb.category = 1) (hvd : vd.category = 1) (k : q_J g M fr rm P (pc + 1) ls (va :: vb :: vd :: va :: st) hp c s w) : q_J g M fr rm P pc ls (va :: vb :: vd :: st) hp c s w :=
  fun p e R u m args below meth co H locs la E hL hH h1 h2 => lv_dup2_x2_2 E.2.1 E.2.2.1 hd (by rw [q_ev_cat]; exact hva) (by rw [q_ev_cat]; exact hvb) (by rw [q_ev_cat]; exact hvd) (k p e R u m args below meth co H locs la E hL hH h1 h2)
theorem q_if_eq {x : Int32} {off : Int} {tgt : Nat} (hd : decode M.2.1 pc = .ok (.ifCond .eq off, 3)) (ht : (pc : Int) + off = (tgt : Int)) (kt : x = 0 → q_J g M fr rm P tgt ls st hp c s w) (kf : ¬ x = 0 → q_J g M fr rm P (pc + 3) ls st hp c s w) : q_J g M fr rm P pc ls (.int x :: st) hp c s w :=
  fun p e R u m args below meth co H locs la E hL hH h1 h2 => lv_if_eq E.2.1 E.2.2.1 hd ht (fun h => kt h p e R u m args below meth co H locs la E hL hH h1 h2) (fun h => kf h p e R u m args below meth co H locs la E hL hH h1 h2)
theorem q_icmp_eq {x y : Int32} {off : Int} {tgt : Nat} (hd : decode M.2.1 pc = .ok (.if_icmp .eq off, 3)) (ht : (pc : Int) + off = (tgt : Int)) (kt : x = y → q_J g M fr rm P tgt ls st hp c s w) (kf : ¬ x = y → q_J g M fr rm P (pc + 3) ls st hp c s w) : q_J g M fr rm P pc ls (.int y :: .int x :: st) hp c s w :=
  fun p e R u m args below meth co H locs la E hL hH h1 h2 => lv_icmp_eq E.2.1 E.2.2.1 hd ht (fun h => kt h p e R u m args below meth co H locs la E hL hH h1 h2) (fun h => kf h p e R u m args below meth co H locs la E hL hH h1 h2)
theorem q_if_ne {x : Int32} {off : Int} {tgt : Nat} (hd : decode M.2.1 pc = .ok (.ifCond .ne off, 3)) (ht : (pc : Int) + off = (tgt : Int)) (kt : ¬ x = 0 → q_J g M fr rm P tgt ls st hp c s w) (kf : x = 0 → q_J g M fr rm P (pc + 3) ls st hp c s w) : q_J g M fr rm P pc ls (.int x :: st) hp c s w :=
  fun p e R u m args below meth co H locs la E hL hH h1 h2 => lv_if_ne E.2.1 E.2.2.1 hd ht (fun h => kt h p e R u m args below meth co H locs la E hL hH h1 h2) (fun h => kf h p e R u m args below meth co H locs la E hL hH h1 h2)
theorem q_icmp_ne {x y : Int32} {off : Int} {tgt : Nat} (hd : decode M.2.1 pc = .ok (.if_icmp .ne off, 3)) (ht : (pc : Int) + off = (tgt : Int)) (kt : ¬ x = y → q_J g M fr rm P tgt ls st hp c s w) (kf : x = y → q_J g M fr rm P (pc + 3) ls st hp c s w) : q_J g M fr rm P pc ls (.int y :: .int x :: st) hp c s w :=
  fun p e R u m args below meth co H locs la E hL hH h1 h2 => lv_icmp_ne E.2.1 E.2.2.1 hd ht (fun h => kt h p e R u m args below meth co H locs la E hL hH h1 h2) (fun h => kf h p e R u m args below meth co H locs la E hL hH h1 h2)
theorem q_if_lt {x : Int32} {off : Int} {tgt : Nat} (hd : decode M.2.1 pc = .ok (.ifCond .lt off, 3)) (ht : (pc : Int) + off = (tgt : Int)) (kt : x < 0 → q_J g M fr rm P tgt ls st hp c s w) (kf : ¬ x < 0 → q_J g M fr rm P (pc + 3) ls st hp c s w) : q_J g M fr rm P pc ls (.int x :: st) hp c s w :=
  fun p e R u m args below meth co H locs la E hL hH h1 h2 => lv_if_lt E.2.1 E.2.2.1 hd ht (fun h => kt h p e R u m args below meth co H locs la E hL hH h1 h2) (fun h => kf h p e R u m args below meth co H locs la E hL hH h1 h2)
theorem q_icmp_lt {x y : Int32} {off : Int} {tgt : Nat} (hd : decode M.2.1 pc = .ok (.if_icmp .lt off, 3)) (ht : (pc : Int) + off = (tgt : Int)) (kt : x < y → q_J g M fr rm P tgt ls st hp c s w) (kf : ¬ x < y → q_J g M fr rm P (pc + 3) ls st hp c s w) : q_J g M fr rm P pc ls (.int y :: .int x :: st) hp c s w :=
  fun p e R u m args below meth co H locs la E hL hH h1 h2 => lv_icmp_lt E.2.1 E.2.2.1 hd ht (fun h => kt h p e R u m args below meth co H locs la E hL hH h1 h2) (fun h => kf h p e R u m args below meth co H locs la E hL hH h1 h2)
theorem q_if_ge {x : Int32} {off : Int} {tgt : Nat} (hd : decode M.2.1 pc = .ok (.ifCond .ge off, 3)) (ht : (pc : Int) + off = (tgt : Int)) (kt : 0 ≤ x → q_J g M fr rm P tgt ls st hp c s w) (kf : ¬ 0 ≤ x → q_J g M fr rm P (pc + 3) ls st hp c s w) : q_J g M fr rm P pc ls (.int x :: st) hp c s w :=
  fun p e R u m args below meth co H locs la E hL hH h1 h2 => lv_if_ge E.2.1 E.2.2.1 hd ht (fun h => kt h p e R u m args below meth co H locs la E hL hH h1 h2) (fun h => kf h p e R u m args below meth co H locs la E hL hH h1 h2)
theorem q_icmp_ge {x y : Int32} {off : Int} {tgt : Nat} (hd : decode M.2.1 pc = .ok (.if_icmp .ge off, 3)) (ht : (pc : Int) + off = (tgt : Int)) (kt : y ≤ x → q_J g M fr rm P tgt ls st hp c s w) (kf : ¬ y ≤ x → q_J g M fr rm P (pc + 3) ls st hp c s w) : q_J g M fr rm P pc ls (.int y :: .int x :: st) hp c s w :=
  fun p e R u m args below meth co H locs la E hL hH h1 h2 => lv_icmp_ge E.2.1 E.2.2.1 hd ht (fun h => kt h p e R u m args below meth co H locs la E hL hH h1 h2) (fun h => kf h p e R u m args below meth co H locs la E hL hH h1 h2)
theorem q_if_gt {x : Int32} {off : Int} {tgt : Nat} (hd : decode M.2.1 pc = .ok (.ifCond .gt off, 3)) (ht : (pc : Int) + off = (tgt : Int)) (kt : 0 < x → q_J g M fr rm P tgt ls st hp c s w) (kf : ¬ 0 < x → q_J g M fr rm P (pc + 3) ls st hp c s w) : q_J g M fr rm P pc ls (.int x :: st) hp c s w :=
  fun p e R u m args below meth co H locs la E hL hH h1 h2 => lv_if_gt E.2.1 E.2.2.1 hd ht (fun h => kt h p e R u m args below meth co H locs la E hL hH h1 h2) (fun h => kf h p e R u m args below meth co H locs la E hL hH h1 h2)
theorem q_icmp_gt {x y : Int32} {off : Int} {tgt : Nat} (hd : decode M.2.1 pc = .ok (.if_icmp .gt off, 3)) (ht : (pc : Int) + off = (tgt : Int)) (kt : y < x → q_J g M fr rm P tgt ls st hp c s w) (kf : ¬ y < x → q_J g M fr rm P (pc + 3) ls st hp c s w) : q_J g M fr rm P pc ls (.int y :: .int x :: st) hp c s w :=
  fun p e R u m args below meth co H locs la E hL hH h1 h2 => lv_icmp_gt E.2.1 E.2.2.1 hd ht (fun h => kt h p e R u m args below meth co H locs la E hL hH h1 h2) (fun h => kf h p e R u m args below meth co H locs la E hL hH h1 h2)
theorem q_if_le {x : Int32} {off : Int} {tgt : Nat} (hd : decode M.2.1 pc = .ok (.ifCond .le off, 3)) (ht : (pc : Int) + off = (tgt : Int)) (kt : x ≤ 0 → q_J g M fr rm P tgt ls st hp c s w) (kf : ¬ x ≤ 0 → q_J g M fr rm P (pc + 3) ls st hp c s w) : q_J g M fr rm P pc ls (.int x :: st) hp c s w :=
  fun p e R u m args below meth co H locs la E hL hH h1 h2 => lv_if_le E.2.1 E.2.2.1 hd ht (fun h => kt h p e R u m args below meth co H locs la E hL hH h1 h2) (fun h => kf h p e R u m args below meth co H locs la E hL hH h1 h2)
theorem q_icmp_le {x y : Int32} {off : Int} {tgt : Nat} (hd : decode M.2.1 pc = .ok (.if_icmp .le off, 3)) (ht : (pc : Int) + off = (tgt : Int)) (kt : x ≤ y → q_J g M fr rm P tgt ls st hp c s w) (kf : ¬ x ≤ y → q_J g M fr rm P (pc + 3) ls st hp c s w) : q_J g M fr rm P pc ls (.int y :: .int x :: st) hp c s w :=
  fun p e R u m args below meth co H locs la E hL hH h1 h2 => lv_icmp_le E.2.1 E.2.2.1 hd ht (fun h => kt h p e R u m args below meth co H locs la E hL hH h1 h2) (fun h => kf h p e R u m args below meth co H locs la E hL hH h1 h2)
theorem q_goto {off : Int} {tgt : Nat} (hd : decode M.2.1 pc = .ok (.goto off, 3)) (ht : (pc : Int) + off = (tgt : Int)) (k : q_J g M fr rm P tgt ls st hp c s w) : q_J g M fr rm P pc ls st hp c s w :=
  fun p e R u m args below meth co H locs la E hL hH h1 h2 => lv_goto E.2.1 E.2.2.1 hd ht (k p e R u m args below meth co H locs la E hL hH h1 h2)
theorem q_ifnull_t {off : Int} {tgt : Nat} (hd : decode M.2.1 pc = .ok (.ifnull off, 3)) (ht : (pc : Int) + off = (tgt : Int)) (k : q_J g M fr rm P tgt ls st hp c s w) : q_J g M fr rm P pc ls (.null :: st) hp c s w :=
  fun p e R u m args below meth co H locs la E hL hH h1 h2 => lv_ifnullN E.2.1 E.2.2.1 hd ht (k p e R u m args below meth co H locs la E hL hH h1 h2)
theorem q_ifnull_f {a : Nat} {off : Int} (hd : decode M.2.1 pc = .ok (.ifnull off, 3)) (k : q_J g M fr rm P (pc + 3) ls st hp c s w) : q_J g M fr rm P pc ls (.ref a :: st) hp c s w :=
  fun p e R u m args below meth co H locs la E hL hH h1 h2 => lv_ifnull E.2.1 E.2.2.1 hd (k p e R u m args below meth co H locs la E hL hH h1 h2)
theorem q_ifnonnull_t {a : Nat} {off : Int} {tgt : Nat} (hd : decode M.2.1 pc = .ok (.ifnonnull off, 3)) (ht : (pc : Int) + off = (tgt : Int)) (k : q_J g M fr rm P tgt ls st hp c s w) : q_J g M fr rm P pc ls (.ref a :: st) hp c s w :=
  fun p e R u m args below meth co H locs la E hL hH h1 h2 => lv_ifnonnull E.2.1 E.2.2.1 hd ht (k p e R u m args below meth co H locs la E hL hH h1 h2)
theorem q_ifnonnull_f {off : Int} (hd : decode M.2.1 pc = .ok (.ifnonnull off, 3)) (k : q_J g M fr rm P (pc + 3) ls st hp c s w) : q_J g M fr rm P pc ls (.null :: st) hp c s w :=
  fun p e R u m args below meth co H locs la E hL hH h1 h2 => lv_ifnonnullN E.2.1 E.2.2.1 hd (k p e R u m args below meth co H locs la E hL hH h1 h2)
theorem q_lookup {dflt : Int} {ps : Array (Int × Int)} {len : Nat} {x : Int32} {off : Int} {tgt : Nat} (hd : decode M.2.1 pc = .ok (.lookupswitch dflt ps, len)) (hp' : (ps.toList.zip (ps.toList.drop 1)).all (fun (a, next) => a.1 < next.1) = true) (ho : Op.lookupswitch.offset ps.toList dflt x.toInt = off) (ht : (pc : Int) + off = (tgt : Int)) (k : q_J g M fr rm P tgt ls st hp c s w) : q_J g M fr rm P pc ls (.int x :: st) hp c s w :=
  fun p e R u m args below meth co H locs la E hL hH h1 h2 => lv_lookup E.2.1 E.2.2.1 hd hp' ho ht (k p e R u m args below meth co H locs la E hL hH h1 h2)
theorem q_tableOut {dflt lo hi : Int} {offs : Array Int} {len : Nat} {x : Int32} {tgt : Nat} (hd : decode M.2.1 pc = .ok (.tableswitch dflt lo hi offs, len)) (h : x.toInt < lo ∨ hi < x.toInt) (ht : (pc : Int) + dflt = (tgt : Int)) (k : q_J g M fr rm P tgt ls st hp c s w) : q_J g M fr rm P pc ls (.int x :: st) hp c s w :=
  fun p e R u m args below meth co H locs la E hL hH h1 h2 => lv_tableOut E.2.1 E.2.2.1 hd h ht (k p e R u m args below meth co H locs la E hL hH h1 h2)
theorem q_tableIn {dflt lo hi : Int} {offs : Array Int} {len : Nat} {x : Int32} {off : Int} {tgt : Nat} (hd : decode M.2.1 pc = .ok (.tableswitch dflt lo hi offs, len)) (h3 : ¬ x.toInt < lo) (h4 : ¬ hi < x.toInt) (ho : offs[(x.toInt - lo).toNat]? = some off) (ht : (pc : Int) + off = (tgt : Int)) (k : q_J g M fr rm P tgt ls st hp c s w) : q_J g M fr rm P pc ls (.int x :: st) hp c s w :=
  fun p e R u m args below meth co H locs la E hL hH h1 h2 => lv_tableIn E.2.1 E.2.2.1 hd h3 h4 ho ht (k p e R u m args below meth co H locs la E hL hH h1 h2)
theorem q_ldc {index : Nat} {v : Int32} (hd : decode M.2.1 pc = .ok (.ldc index, 2)) (hw : Jvm.Cond.constant M.1.cls index v ∈ q_gw) (k : q_J g M fr rm P (pc + 2) ls (.int v :: st) hp c s w) : q_J g M fr rm P pc ls st hp c s w :=
  fun p e R u m args below meth co H locs la E hL hH h1 h2 => lv_ldc E.2.1 E.2.2.1 E.2.2.2.2.1 (q_word E.1 E.2.2.2.2.2.1 hw rfl) hd (k p e R u m args below meth co H locs la E hL hH h1 h2)
theorem q_ldc2 {index : Nat} {v : Int64} (hd : decode M.2.1 pc = .ok (.ldc2_w index, 3)) (hw : Jvm.Cond.constantLong M.1.cls index v ∈ q_gw) (k : q_J g M fr rm P (pc + 3) ls (.long v :: st) hp c s w) : q_J g M fr rm P pc ls st hp c s w :=
  fun p e R u m args below meth co H locs la E hL hH h1 h2 => lv_ldc2 E.2.1 E.2.2.1 E.2.2.2.2.1 (q_word E.1 E.2.2.2.2.2.1 hw rfl) hd (k p e R u m args below meth co H locs la E hL hH h1 h2)
theorem q_iret {v : Int32} (hd : decode M.2.1 pc = .ok (.ireturn, 1)) (hr : M.2.2.2.1 = some .int) (hP : P (.returned (some (.int v))) hp) (hc : c ≤ rm.cells) (hs : s ≤ rm.slots) (hw : w = true → fr = true) : q_J g M fr rm P pc ls [.int v] hp c s w := by
  intro p e R u m args below meth co H locs la E hL hH h1 h2
  have hlk := E.2.2.2.2.2.2.2.1
  have hrt := E.2.2.2.2.2.2.1
  refine W.widen hc hs (q_mono q_ofMQ (W.iret (Qc := fun _ => q_Q g fr P) E.2.1 E.2.2.1 (hrt.trans hr) (fun t ht _ => ?_) (fun q hq => ⟨hw (h1 q hq).1, (h1 q hq).2⟩) hd hlk))
  refine ⟨.returned (some (.int v)), hp, rfl, by rw [ht]; exact hH, hP, fun hf _ => ?_⟩
  rw [ht]
  refine h2 ?_
  cases w with
  | true => rw [hw rfl] at hf; cases hf
  | false => rfl
theorem q_zret {v : Int32} (hd : decode M.2.1 pc = .ok (.ireturn, 1)) (hr : M.2.2.2.1 = some .boolean) (hn : narrow .boolean (.int v) = .int v) (hP : P (.returned (some (.int v))) hp) (hc : c ≤ rm.cells) (hs : s ≤ rm.slots) (hw : w = true → fr = true) : q_J g M fr rm P pc ls [.int v] hp c s w := by
  intro p e R u m args below meth co H locs la E hL hH h1 h2
  have hlk := E.2.2.2.2.2.2.2.1
  have hrt := E.2.2.2.2.2.2.1
  refine W.widen hc hs (q_mono q_ofMQ (W.zret (Qc := fun _ => q_Q g fr P) E.2.1 E.2.2.1 (hrt.trans hr) hn (fun t ht _ => ?_) (fun q hq => ⟨hw (h1 q hq).1, (h1 q hq).2⟩) hd hlk))
  refine ⟨.returned (some (.int v)), hp, rfl, by rw [ht]; exact hH, hP, fun hf _ => ?_⟩
  rw [ht]
  refine h2 ?_
  cases w with
  | true => rw [hw rfl] at hf; cases hf
  | false => rfl
theorem q_lret {v : Int64} (hd : decode M.2.1 pc = .ok (.lreturn, 1)) (hr : M.2.2.2.1 = some .long) (hP : P (.returned (some (.long v))) hp) (hc : c ≤ rm.cells) (hs : s ≤ rm.slots) (hw : w = true → fr = true) : q_J g M fr rm P pc ls [.long v] hp c s w := by
  intro p e R u m args below meth co H locs la E hL hH h1 h2
  have hlk := E.2.2.2.2.2.2.2.1
  have hrt := E.2.2.2.2.2.2.1
  refine W.widen hc hs (q_mono q_ofMQ (W.lret (Qc := fun _ => q_Q g fr P) E.2.1 E.2.2.1 (hrt.trans hr) (fun t ht _ => ?_) (fun q hq => ⟨hw (h1 q hq).1, (h1 q hq).2⟩) hd hlk))
  refine ⟨.returned (some (.long v)), hp, rfl, by rw [ht]; exact hH, hP, fun hf _ => ?_⟩
  rw [ht]
  refine h2 ?_
  cases w with
  | true => rw [hw rfl] at hf; cases hf
  | false => rfl
theorem q_vret (hd : decode M.2.1 pc = .ok (.return_, 1)) (hr : M.2.2.2.1 = none) (hP : P (.returned none) hp) (hc : c ≤ rm.cells) (hs : s ≤ rm.slots) (hw : w = true → fr = true) : q_J g M fr rm P pc ls [] hp c s w := by
  intro p e R u m args below meth co H locs la E hL hH h1 h2
  have hlk := E.2.2.2.2.2.2.2.1
  have hrt := E.2.2.2.2.2.2.1
  refine W.widen hc hs (q_mono q_ofMQ (W.vret (Qc := fun _ => q_Q g fr P) E.2.1 E.2.2.1 (hrt.trans hr) (fun t ht _ => ?_) (fun q hq => ⟨hw (h1 q hq).1, (h1 q hq).2⟩) hd hlk))
  refine ⟨.returned none, hp, rfl, by rw [ht]; exact hH, hP, fun hf _ => ?_⟩
  rw [ht]
  refine h2 ?_
  cases w with
  | true => rw [hw rfl] at hf; cases hf
  | false => rfl
theorem q_aret {v : Value} {n : String} (hd : decode M.2.1 pc = .ok (.areturn, 1)) (hr : M.2.2.2.1 = some (.object n)) (hv : q_isr v = true) (hP : P (.returned (some v)) hp) (hc : c ≤ rm.cells) (hs : s ≤ rm.slots) (hw : w = true → fr = true) : q_J g M fr rm P pc ls [v] hp c s w := by
  intro p e R u m args below meth co H locs la E hL hH h1 h2
  have hlk := E.2.2.2.2.2.2.2.1
  have hrt := E.2.2.2.2.2.2.1
  refine W.widen hc hs (q_mono q_ofMQ (W.aret (Qc := fun _ => q_Q g fr P) E.2.1 E.2.2.1 (hrt.trans hr) (Or.inl ⟨n, rfl⟩) ?_ (fun t ht _ => ?_) (fun q hq => ⟨hw (h1 q hq).1, (h1 q hq).2⟩) hd hlk))
  · cases v <;> first | (exact Or.inl rfl) | (exact Or.inr ⟨_, rfl⟩) | (exact absurd hv (by simp [q_isr]))
  · refine ⟨.returned (some v), hp, rfl, by rw [ht]; exact hH, hP, fun hf _ => ?_⟩
    rw [ht]
    refine h2 ?_
    cases w with
    | true => rw [hw rfl] at hf; cases hf
    | false => rfl
end ENG2
