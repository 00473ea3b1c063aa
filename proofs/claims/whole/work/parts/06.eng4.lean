/-! The engine, 4: contracts and calls -/
section ENG4
theorem q_w_spec {M : q_Me} {args : Array Value} {s : State} {m : MethodId} (hn : s.methodNamed? M.1 = some m) (h : (q_w M).before args s = true) : ∃ meth c, s.vm.method? m = some meth ∧ meth.code = some c ∧ c.code = M.2.1 ∧ c.maxLocals = M.2.2.1 ∧ meth.sig.returnType = M.2.2.2.1 ∧ meth.locks = false ∧ c.exceptionTable.toList.map (fun h => (h.startPc, h.endPc, h.handlerPc, h.catchType)) = M.2.2.2.2 ∧ parseMethodDescriptor M.1.desc = some meth.sig := by
  unfold q_w at h
  split at h
  · next he =>
    obtain ⟨meth, c, h1, h2, h3, h4, h5, h6, h7, h8⟩ := Cond.code_spec hn h
    refine ⟨meth, c, h1, h2, h3, h4, h5, h6, ?_, h8⟩
    rw [he, Array.isEmpty_iff.mp h7]
    rfl
  · next he =>
    obtain ⟨m', meth, c, h0, h1, h2, h3, h4, h5, h6, h7, h8⟩ := Cond.codeWith_spec h
    cases hn.symm.trans h0
    exact ⟨meth, c, h1, h2, h3, h4, h6, h7, h5, h8⟩
theorem q_w_good (M : q_Me) : goodWord (q_w M) = true := by
  unfold q_w
  split <;> rfl
def q_Pc (g : q_G) (as : List Value) (hp : List va_E) : Array Value → State → Prop := fun a U => a = (as.map (q_ev g)).toArray ∧ q_H g hp U.heap ∧ (q_s g).WarmedH U.vm
def q_Qc (g : q_G) (fr : Bool) (P : Outcome → List va_E → Prop) (mc ms : Nat) : Array Value → State → Outcome → State → Prop := fun _ st o t => q_Q g fr P st o t ∧ ∃ L, (st.WarmedH t.vm ∧ st.sameButNew ({ t with vm := st.vm } : State) L mc ms) ∧ ∀ q ∈ L, fr = true ∧ q_b g ≤ q.base
/-- a contract: on these arguments, with these cells, at depth d, M ends as P says; at most mc cells of ms slots are new; fr: it may write -/
def q_C (g : q_G) (M : q_Me) (fr : Bool) (rm : Room) (as : List Value) (hp : List va_E) (P : Outcome → List va_E → Prop) : Prop :=
  MetFree (q_l g) M.1 (headSpec [q_w M] rm) (q_Pc g as hp) (fun _ _ _ _ _ => True) (q_Qc g fr P rm.cells rm.slots)
theorem q_C.of {g : q_G} {M : q_Me} {fr : Bool} {rm : Room} {as : List Value} {hp : List va_E} {P : Outcome → List va_E → Prop} (hG : q_GG g) (hy : plainName M.1.cls = true) (has : (q_sl as).length ≤ M.2.2.1) (k : q_J g M fr rm P 0 (q_en as M.2.2.1) [] hp 0 0 false) : q_C g M fr rm as hp P := by
  refine MetFree.of_bodyS (code := M.2.1) (maxLocals := M.2.2.1) (ret := M.2.2.2.1) hy ?_ ?_
  · intro args s m h hn
    obtain ⟨meth, c, h1, h2, h3, h4, h5, h6, -, -⟩ := q_w_spec hn (atoms_spec (ws := [q_w M]) h _ List.mem_cons_self)
    exact ⟨meth, c, h1, h2, h3, h4, h5, h6⟩
  · intro p e s m args below meth c s₁ B hml hP _
    obtain ⟨rfl, hH, hu⟩ := hP
    have hh0 : s₁.heap = s.heap := by rw [B.state]; rfl
    have X := Stand.of_body B
    obtain ⟨meth', c', h1, h2, -, -, -, -, h7, -⟩ := q_w_spec B.named (atoms_spec (ws := [q_w M]) B.pre _ List.mem_cons_self)
    cases B.method.symm.trans h1
    cases X.code.symm.trans h2
    have hE : q_E g M rm p e (headSpec [q_w M] rm).room s m meth c :=
      ⟨hG, B.exec, B.bytes, hml, findClass_of_methodNamed B.named, hu, B.returns, B.notSynchronized, (name_of_methodNamed B.named B.method).1, Nat.le_refl _, Nat.le_refl _, Nat.le_refl _, Nat.le_refl _, h7⟩
    obtain ⟨t, a1, o, b1, b2, b3, L, b4, b5⟩ := k p e _ s m ((as.map (q_ev g)).toArray) below meth c s.heap [] _ hE (q_L.entry has) hH (fun q hq => by cases hq) (fun _ => rfl) s₁ hh0 X
    exact ⟨t, o, by rw [lg_entry_eq]; exact a1, b1, b2, b3, L, b4, b5⟩
theorem q_C.post {g : q_G} {M : q_Me} {fr : Bool} {rm : Room} {as : List Value} {hp : List va_E} {P P' : Outcome → List va_E → Prop} (h : q_C g M fr rm as hp P) (hP : ∀ r hp', P r hp' → P' r hp') : q_C g M fr rm as hp P' := by
  intro p e h1 h2 h3 s m args below h4 h5 h6 h7
  obtain ⟨n, o, a1, a2, a3, ⟨r, hp', b1, b2, b3, b4⟩, a4⟩ := h p e h1 h2 h3 s m args below h4 h5 h6 h7
  exact ⟨n, o, a1, a2, a3, ⟨r, hp', b1, b2, hP r hp' b3, b4⟩, a4⟩
/-- a call, from the caller's state at the invoking instruction (its arguments popped) to its end: returned or threw -/
theorem q_enter {g : q_G} {M : q_Me} {fr : Bool} {rm : Room} {as : List Value} {hp : List va_E} {P : Outcome → List va_E → Prop} (hM : q_C g M fr rm as hp P)
    {p : Program} {e : Env} {R : Room} {u : State} {m : MethodId} {args : Array Value} {below : List Frame} {meth : Method} {c : Code} {T : State} {locs : List Loc} {cells slots : Nat}
    (X : Stand p (q_l g) e R u m args below meth c T locs cells slots) {f : JFrame} {ig : Instr} {len : Nat} {mk : MethodId} (hg : f.method = m) (hsize : f.locals.size = c.maxLocals) (hdg : decode c.code f.pc = .ok (ig, len))
    (hW : 2 * f.monitorRoom + (f.stack.map fun v => v.category).sum + (M.2.2.1 + 11) + rm.locals ≤ R.locals) (hn : T.methodNamed? M.1 = some mk) (hcode : (q_w M).before (as.map (q_ev g)).toArray T = true) (hini : (Jvm.Cond.initialized M.1.cls).before (as.map (q_ev g)).toArray T = true)
    (hframes : rm.frames + 1 ≤ R.frames) (hcells : cells + rm.cells ≤ R.cells) (hslots : slots + rm.slots ≤ R.slots) (hH : q_H g hp T.heap) (hw : (q_s g).WarmedH T.vm) :
    ∃ (r : Outcome) (hp' : List va_E) (T' : State) (L : List Loc), Stand p (q_l g) e R u m args below meth c T' (locs ++ L) (cells + rm.cells) (slots + rm.slots) ∧ (∀ q ∈ L, fr = true ∧ q_b g ≤ q.base) ∧ q_H g hp' T'.heap ∧ P r hp' ∧ (fr = false → (∃ v, r = .returned v) → T'.heap = T.heap) ∧
      (∀ v, r = .returned v → Steps p.tables e below (doInvoke e (T.setTop f) [] mk (as.map (q_ev g)).toArray).1 (T'.setTop { f with pc := f.pc + len, stack := (v.map (q_ev g)).toList ++ f.stack })) ∧
      (∀ x, r = .threw x → Steps p.tables e below (doInvoke e (T.setTop f) [] mk (as.map (q_ev g)).toArray).1 ((T'.setTop f).pushFrame (.throwing (q_b g + x)))) := by
  obtain ⟨methY, cY, hmY, hcY, -, hlY, -, -, -, -⟩ := q_w_spec hn hcode
  obtain ⟨kY, hkY, -⟩ := className_of_methodNamed hn
  have hinitY : kY.init = .initialized := Cond.initialized_spec (findClass_of_methodNamed hn) hkY hini
  have h : At T f.method c below := by rw [hg]; exact X.here
  have hpre : (headSpec [q_w M] rm).pre.before (as.map (q_ev g)).toArray T = true := atoms_intro fun w hw => by rw [List.mem_singleton.mp hw]; exact hcode
  have happ : (headSpec [q_w M] rm).appliesLoose M.1 e.platform (T.calling f mk (as.map (q_ev g)).toArray) = true :=
    Spec.appliesLoose_calling (g := f) h hdg hn hkY hinitY
      (X.room_calling (g := f) (R' := rm) hsize hmY hcY hframes (by rw [hlY]; omega) hcells hslots) hpre
  obtain ⟨mid, hmid⟩ := h.above
  have hfr : (T.setTop f).frames = (.java f :: mid) ++ below := by rw [State.frames_setTop' f h.top, hmid]; rfl
  obtain ⟨o, s₂, hsteps, -, hend, hq⟩ := Steps.callFree hM p X.admits X.cas X.clock (acts := []) hfr happ ⟨rfl, hH, hw⟩ trivial
  have hq : q_Qc g fr P rm.cells rm.slots (as.map (q_ev g)).toArray (T.calling f mk (as.map (q_ev g)).toArray) o s₂ := hq
  rw [State.frames_setTop' f h.top] at hend
  obtain ⟨⟨r, hp', rfl, hH', hP, hpure⟩, L, ⟨hW₂, e2, q2, q3, q4, q5, q6⟩, hL⟩ := hq
  have hW' : T.WarmedH s₂.vm := hW₂
  have e3 : s₂ = ({ (T.calling f mk (as.map (q_ev g)).toArray).setFrames s₂.frames with heap := s₂.heap, slotsUsed := s₂.slotsUsed } : State).setVm s₂.vm := by
    have : s₂ = ({ s₂ with vm := (T.calling f mk (as.map (q_ev g)).toArray).vm } : State).setVm s₂.vm := rfl
    rw [e2] at this
    exact this
  obtain ⟨g₀, hg0⟩ := Option.isSome_iff_exists.mp h.top
  obtain ⟨rr, hr⟩ := State.topJava?_eq_some.mp hg0
  have hr' : (({ T with heap := s₂.heap, slotsUsed := s₂.slotsUsed } : State).setVm s₂.vm).frames = .java g₀ :: rr := hr
  have hsame : T.sameButNew ({ T with heap := s₂.heap, slotsUsed := s₂.slotsUsed } : State) L rm.cells rm.slots := by
    refine ⟨?_, q2, q3, q4, q5, q6⟩
    obtain ⟨t, ht, -⟩ := State.frames_cons hr
    show ({ T with heap := s₂.heap, slotsUsed := s₂.slotsUsed } : State) = { T.setFrames T.frames with heap := s₂.heap, slotsUsed := s₂.slotsUsed }
    rw [State.setFrames_self ht]
  subst hg
  refine ⟨r, hp', ({ T with heap := s₂.heap, slotsUsed := s₂.slotsUsed } : State).setVm s₂.vm, L,
    ⟨X.admits, X.cas, X.clock, X.frames, X.room, X.hears, X.method, X.code, (X.here.setHeapUsed s₂.heap s₂.slotsUsed).setVm hW'.alike, X.tail, State.WarmedH.trans X.warmed hW', X.limits, X.bytes, X.same.trans (hsame.setVm u.vm)⟩,
    hL, hH', hP, hpure, fun v hv => ?_, fun x hx => ?_⟩
  · subst hv
    obtain ⟨c₂, i₂, len₂, hc₂, hd₂, hf₂⟩ := hend
    have hcc : c₂ = c := by
      have h1 : s₂.code? f.method = T.code? f.method := by
        rw [State.code?_eq, State.code?_eq, hW'.alike.method?]
      exact Option.some.inj (hc₂.symm.trans (h1.trans h.code))
    subst hcc
    have hlen : len₂ = len := by rw [hdg] at hd₂; cases hd₂; rfl
    subst hlen
    have hs₂ : s₂ = (({ T with heap := s₂.heap, slotsUsed := s₂.slotsUsed } : State).setVm s₂.vm).setTop { f with pc := f.pc + len₂, stack := (v.map (q_ev g)).toList ++ f.stack } := by
      refine e3.trans ?_
      rw [hf₂, State.calling_eq h.top, State.setFrames_setFrames, State.setTop_of_frames _ hr', hr]
      rfl
    rw [← hs₂]
    exact hsteps
  · subst hx
    have hf₂ : s₂.frames = .throwing (q_b g + x) :: .java f :: T.frames.tail := hend
    have hs₂ : s₂ = ((({ T with heap := s₂.heap, slotsUsed := s₂.slotsUsed } : State).setVm s₂.vm).setTop f).pushFrame (.throwing (q_b g + x)) := by
      refine e3.trans ?_
      rw [hf₂, State.calling_eq h.top, State.setFrames_setFrames, State.pushFrame, State.frames_setTop _ hr', State.setTop_of_frames _ hr', State.setFrames_setFrames, hr]
      rfl
    rw [← hs₂]
    exact hsteps
/-- an exception lies over the frame -/
def q_T (g : q_G) (M : q_Me) (fr : Bool) (rm : Room) (P : Outcome → List va_E → Prop) (pc : Nat) (ls : List (Option Value)) (hp : List va_E) (c s : Nat) (w : Bool) (x : Nat) : Prop :=
  ∀ (p : Program) (e : Env) (R : Room) (u : State) (m : MethodId) (args : Array Value) (below : List Frame) (meth : Method) (co : Code) (locs : List Loc) (la : Array Slot) (T : State) (st : List Value),
    q_E g M rm p e R u m meth co → q_L g M.2.2.1 la ls → q_H g hp T.heap → (∀ q ∈ locs, w = true ∧ q_b g ≤ q.base) → Stand p (q_l g) e R u m args below meth co T locs c s →
    ∃ t, Steps p.tables e below ((T.setTop (F0 m pc la st)).pushFrame (.throwing (q_b g + x))) t ∧ q_M below (q_Q g fr P) u rm.cells rm.slots (fun q => fr = true ∧ q_b g ≤ q) t
/-- it leaves the method -/
theorem q_T.leave {g : q_G} {M : q_Me} {fr : Bool} {rm : Room} {P : Outcome → List va_E → Prop} {pc : Nat} {ls : List (Option Value)} {hp : List va_E} {c s : Nat} {w : Bool} {x : Nat} (hM : M.2.2.2.2 = []) (hP : P (.threw x) hp) (hc : c ≤ rm.cells) (hs : s ≤ rm.slots) (hw : w = true → fr = true) : q_T g M fr rm P pc ls hp c s w x := by
  intro p e R u m args below meth co locs la T st E hL hH h1 X
  have hlk := E.2.2.2.2.2.2.2.1
  have hno : co.exceptionTable.toList = [] := by
    have := E.2.2.2.2.2.2.2.2.2.2.2.2.2
    rw [hM] at this
    exact List.map_eq_nil_iff.mp this
  obtain ⟨a1, a2, a3, a4, a5⟩ := (stand_widen X hc hs).leaveThrown (q_b g + x) (g := F0 m pc la st) rfl rfl rfl (fun y hy => by rw [hno] at hy; cases hy) hlk
  exact ⟨_, a1, .threw (q_b g + x), a2, a3, ⟨.threw x, hp, rfl, hH, hP, fun _ ⟨v, hv⟩ => by cases hv⟩, locs, ⟨a4, a5⟩, fun q hq => ⟨hw (h1 q hq).1, (h1 q hq).2⟩⟩
variable {g : q_G} {M : q_Me} {fr : Bool} {rm : Room} {P : Outcome → List va_E → Prop} {pc : Nat} {ls : List (Option Value)} {st : List Value} {hp : List va_E} {c s : Nat} {w : Bool}
/-- behind the instruction's own linking: the callee, and both of its ends -/
theorem q_after {N : q_Me} {fr' : Bool} {rm' : Room} {as : List Value} {P' : Outcome → List va_E → Prop} (hC : q_C g N fr' rm' as hp P')
    (hd' : rm'.frames + 1 ≤ rm.frames) (hN : (st.map fun v => v.category).sum + (N.2.2.1 + 11) + rm'.locals ≤ rm.locals) (hmc : c + rm'.cells ≤ rm.cells) (hms : s + rm'.slots ≤ rm.slots)
    (kr : ∀ v hp', P' (.returned v) hp' → q_J g M fr rm P (pc + 3) ls (v.toList ++ st) hp' (c + rm'.cells) (s + rm'.slots) (w || fr'))
    (kt : ∀ x hp', P' (.threw x) hp' → q_T g M fr rm P pc ls hp' (c + rm'.cells) (s + rm'.slots) true x)
    {p : Program} {e : Env} {R : Room} {u : State} {m : MethodId} {args : Array Value} {below : List Frame} {meth : Method} {co : Code} {locs : List Loc} {la : Array Slot} {T : State} (E : q_E g M rm p e R u m meth co) (hL : q_L g M.2.2.1 la ls) (hH : q_H g hp T.heap) (h1 : ∀ q ∈ locs, w = true ∧ q_b g ≤ q.base) (h2 : w = false → T.heap = u.heap)
    (X : Stand p (q_l g) e R u m args below meth co T locs c s) {ig : Instr} {mk : MethodId} (hdg : decode co.code pc = .ok (ig, 3)) (hn : T.methodNamed? N.1 = some mk) (hwN : q_w N ∈ q_gw) (hini : Jvm.Cond.initialized N.1.cls ∈ q_gw) :
    ∃ t, Steps p.tables e below (doInvoke e (T.setTop (F0 m pc la (st.map (q_ev g)))) [] mk (as.map (q_ev g)).toArray).1 t ∧ q_M below (q_Q g fr P) u rm.cells rm.slots (fun q => fr = true ∧ q_b g ≤ q) t := by
  have hu : (q_s g).WarmedH T.vm := State.WarmedH.trans E.2.2.2.2.2.1 X.warmed
  have hR1 := E.2.2.2.2.2.2.2.2.2.1
  have hR2 := E.2.2.2.2.2.2.2.2.2.2.1
  have hR3 := E.2.2.2.2.2.2.2.2.2.2.2.1
  have hR4 := E.2.2.2.2.2.2.2.2.2.2.2.2.1
  have hcat : ((st.map (q_ev g)).map fun v => v.category).sum = (st.map fun v => v.category).sum := by
    have : (st.map (q_ev g)).map (fun v => v.category) = st.map (fun v => v.category) := by
      rw [List.map_map]
      exact List.map_congr_left (fun v _ => q_ev_cat g v)
    rw [this]
  obtain ⟨r, hp', T', L, X', hL', hH', hP', hpure, sr, sx⟩ := q_enter hC X (f := F0 m pc la (st.map (q_ev g))) (ig := ig) (len := 3) (mk := mk) rfl (by rw [E.2.2.2.1]; exact hL.1) hdg (by show 2 * 0 + ((st.map (q_ev g)).map fun v => v.category).sum + _ + _ ≤ _; omega) hn (q_word E.1 hu hwN (q_w_good N)) (q_word E.1 hu hini rfl) (by omega) (by omega) (by omega) hH hu
  have hlocs : ∀ q ∈ locs ++ L, (w || fr') = true ∧ q_b g ≤ q.base := by
    intro q hq
    rcases List.mem_append.mp hq with h | h
    · rw [(h1 q h).1]
      exact ⟨rfl, (h1 q h).2⟩
    · rw [(hL' q h).1, Bool.or_true]
      exact ⟨rfl, (hL' q h).2⟩
  cases r with
  | returned v =>
    have h3 := kr v hp' hP' p e R u m args below meth co T'.heap (locs ++ L) la E hL hH' hlocs (fun h => by
      have hw0 : w = false ∧ fr' = false := by cases w <;> cases fr' <;> simp_all
      rw [hpure hw0.2 ⟨v, rfl⟩]
      exact h2 hw0.1)
    obtain ⟨t, a1, a2⟩ := h3 T' rfl X'
    refine ⟨t, (sr v rfl).trans ?_, a2⟩
    have he : (v.toList ++ st).map (q_ev g) = (v.map (q_ev g)).toList ++ st.map (q_ev g) := by cases v <;> rfl
    rw [he] at a1
    exact a1
  | threw x =>
    obtain ⟨t, a1, a2⟩ := kt x hp' hP' p e R u m args below meth co (locs ++ L) la T' (st.map (q_ev g)) E hL hH' (fun q hq => ⟨rfl, (hlocs q hq).2⟩) X'
    exact ⟨t, (sx x rfl).trans a1, a2⟩
/-- what a call needs of the tables: the entry's link, the method; n arguments -/
def q_ML (own : String) (idx : Nat) (N : q_Me) (n : Nat) : Prop := (Jvm.Cond.methodLink own idx N.1 ∈ q_gw ∨ ∃ host, Jvm.Cond.methodLinkNest own idx N.1 host ∈ q_gw) ∧ q_w N ∈ q_gw ∧ Jvm.Cond.initialized N.1.cls ∈ q_gw ∧ (N.1.cls ≠ "java/lang/invoke/MethodHandle" ∧ N.1.cls ≠ "java/lang/invoke/VarHandle") ∧ (parseMethodDescriptor N.1.desc).map (fun d => d.parameters.length) = some n
theorem q_ML.len {own : String} {idx : Nat} {N : q_Me} {n : Nat} (h : q_ML own idx N n) : ∀ sig, parseMethodDescriptor N.1.desc = some sig → n = sig.parameters.length := by
  intro sig hs
  have h2 := h.2.2.2.2
  rw [hs] at h2
  exact (Option.some.inj h2).symm

theorem q_callS {N : q_Me} {fr' : Bool} {rm' : Room} {idx n : Nat} {as : List Value} {P' : Outcome → List va_E → Prop} (hd : decode M.2.1 pc = .ok (.invokestatic idx, 3)) (hl : q_ML M.1.cls idx N n) (hsta : Jvm.Cond.static N.1 ∈ q_gw) (hn : as.length = n) (hC : q_C g N fr' rm' as hp P') (hd' : rm'.frames + 1 ≤ rm.frames) (hN : (st.map fun v => v.category).sum + (N.2.2.1 + 11) + rm'.locals ≤ rm.locals) (hmc : c + rm'.cells ≤ rm.cells) (hms : s + rm'.slots ≤ rm.slots)
    (kr : ∀ v hp', P' (.returned v) hp' → q_J g M fr rm P (pc + 3) ls (v.toList ++ st) hp' (c + rm'.cells) (s + rm'.slots) (w || fr')) (kt : ∀ x hp', P' (.threw x) hp' → q_T g M fr rm P pc ls hp' (c + rm'.cells) (s + rm'.slots) true x) : q_J g M fr rm P pc ls (as.reverse ++ st) hp c s w := by
  intro p e R u m args below meth co H locs la E hL hH h1 h2
  intro T hT X
  subst hT
  have hu := E.2.2.2.2.2.1
  have hlen := hl.len
  obtain ⟨hlk, hwN, hini, hy, -⟩ := hl
  have hcode : (q_w N).before args u = true := q_word E.1 hu hwN (q_w_good N)
  have hnm : ∃ mk, u.methodNamed? N.1 = some mk := by
    unfold q_w at hcode
    split at hcode
    · exact Cond.code_named hcode
    · obtain ⟨mk, _, _, h0, -⟩ := Cond.codeWith_spec hcode
      exact ⟨mk, h0⟩
  obtain ⟨mk, hnamed⟩ := hnm
  obtain ⟨methM, cM, hmethM, -, -, -, -, -, -, hsigM⟩ := q_w_spec hnamed hcode
  have hstatic : methM.isStatic = true := Cond.static_spec hnamed hmethM (q_word (args := args) E.1 hu hsta rfl)
  obtain ⟨kP, hkP, -⟩ := className_of_methodNamed hnamed
  have hinitP : kP.init = .initialized := Cond.initialized_spec (findClass_of_methodNamed hnamed) hkP (q_word (args := args) E.1 hu hini rfl)
  have hstk : (F0 m pc la ((as.reverse ++ st).map (q_ev g))).stack = (as.map (q_ev g)).reverse ++ st.map (q_ev g) := by
    show (as.reverse ++ st).map (q_ev g) = _
    rw [List.map_append, List.map_reverse]
  have hln : (as.map (q_ev g)).length = methM.sig.parameters.length := by
    rw [List.length_map, hn]
    exact hlen _ hsigM
  have hdc : decode co.code (F0 m pc la ((as.reverse ++ st).map (q_ev g))).pc = .ok (.invokestatic idx, 3) := by rw [E.2.2.1]; exact hd
  have go : ∃ vm₁, u.WarmedH vm₁ ∧ Stand p (q_l g) e R u m args below meth co (T.setVm vm₁) locs c s ∧ ∀ target, (∀ acts, Steps p.tables e below (doInvoke e ((T.setVm vm₁).setTop { F0 m pc la ((as.reverse ++ st).map (q_ev g)) with stack := st.map (q_ev g) }) acts mk (as.map (q_ev g)).toArray).1 target) → Steps p.tables e below (T.setTop (F0 m pc la ((as.reverse ++ st).map (q_ev g)))) target := by
    rcases hlk with hlk | ⟨host, hlk⟩
    · obtain ⟨vm₁, X₁, hstep₁⟩ := X.invokestatic E.2.1 E.2.2.2.2.1 (q_word E.1 hu hlk rfl) hnamed hmethM hstatic hkP hinitP hy (g := F0 m pc la ((as.reverse ++ st).map (q_ev g))) rfl hln hstk hdc
      exact ⟨vm₁, X₁.warmed, X₁, hstep₁⟩
    · obtain ⟨vm₁, X₁, hstep₁⟩ := X.invokestaticNest E.2.1 E.2.2.2.2.1 (q_nestM E.1 hu hlk) hnamed hmethM hstatic hkP hinitP hy (g := F0 m pc la ((as.reverse ++ st).map (q_ev g))) rfl hln hstk hdc
      exact ⟨vm₁, X₁.warmed, X₁, hstep₁⟩
  obtain ⟨vm₁, hW₁, X₁, hstep₁⟩ := go
  obtain ⟨t, a1, a2⟩ := q_after hC hd' hN hmc hms kr kt (T := T.setVm vm₁) E hL hH h1 h2 X₁ (ig := .invokestatic idx) (mk := mk) (by rw [E.2.2.1]; exact hd) (X₁.named hnamed) hwN hini
  exact ⟨t, hstep₁ t (fun acts => by rw [doInvoke_state]; exact a1), a2⟩
theorem q_callI {N : q_Me} {fr' : Bool} {rm' : Room} {idx n : Nat} {as : List Value} {P' : Outcome → List va_E → Prop} {a : Nat} (hd : decode M.2.1 pc = .ok (.invokespecial idx, 3)) (hl : q_ML M.1.cls idx N n) (hnh : N.2.2.2 = (none, [])) (hin : N.1.name = "<init>") (hins : Jvm.Cond.instanceMethod N.1 ∈ q_gw) (hn : as.length = n) (hC : q_C g N fr' rm' (.ref a :: as) hp P') (hd' : rm'.frames + 1 ≤ rm.frames) (hN : (st.map fun v => v.category).sum + (N.2.2.1 + 11) + rm'.locals ≤ rm.locals) (hmc : c + rm'.cells ≤ rm.cells) (hms : s + rm'.slots ≤ rm.slots)
    (kr : ∀ v hp', P' (.returned v) hp' → q_J g M fr rm P (pc + 3) ls (v.toList ++ st) hp' (c + rm'.cells) (s + rm'.slots) (w || fr')) (kt : ∀ x hp', P' (.threw x) hp' → q_T g M fr rm P pc ls hp' (c + rm'.cells) (s + rm'.slots) true x) : q_J g M fr rm P pc ls (as.reverse ++ .ref a :: st) hp c s w := by
  intro p e R u m args below meth co H locs la E hL hH h1 h2
  intro T hT X
  subst hT
  have hu := E.2.2.2.2.2.1
  have hlen := hl.len
  obtain ⟨hlk, hwN, hini, hy, -⟩ := hl
  have hcode : (Jvm.Cond.code N.1 N.2.1 N.2.2.1 none).before args u = true := by
    have h0 : (q_w N).before args u = true := q_word E.1 hu hwN (q_w_good N)
    unfold q_w at h0
    rw [hnh] at h0
    exact h0
  have hstk : (F0 m pc la ((as.reverse ++ .ref a :: st).map (q_ev g))).stack = (as.map (q_ev g)).reverse ++ .ref (q_b g + a) :: st.map (q_ev g) := by
    show (as.reverse ++ .ref a :: st).map (q_ev g) = _
    rw [List.map_append, List.map_reverse]
    rfl
  have hln : ∀ sig, parseMethodDescriptor N.1.desc = some sig → (as.map (q_ev g)).length = sig.parameters.length := by
    intro sig hs
    rw [List.length_map, hn]
    exact hlen _ hs
  have hpl : e.platform.magicAccessors = ({} : Platform).magicAccessors := by rw [X.admits.platform]
  have hdc : decode co.code (F0 m pc la ((as.reverse ++ .ref a :: st).map (q_ev g))).pc = .ok (.invokespecial idx, 3) := by rw [E.2.2.1]; exact hd
  have go : ∃ mk vm₁, u.methodNamed? N.1 = some mk ∧ u.WarmedH vm₁ ∧ ∀ target, (∀ acts, Steps p.tables e below (doInvoke e ((T.setVm vm₁).setTop { F0 m pc la ((as.reverse ++ .ref a :: st).map (q_ev g)) with stack := st.map (q_ev g) }) acts mk (Value.ref (q_b g + a) :: as.map (q_ev g)).toArray).1 target) → Steps p.tables e below (T.setTop (F0 m pc la ((as.reverse ++ .ref a :: st).map (q_ev g)))) target := by
    rcases hlk with hlk | ⟨host, hlk⟩
    · obtain ⟨mk, methM, cM, kP, vm₁, hnamed, hmethM, hcodeM, -, hlocalsM, -, hkP, -, hW₁, hstep₁⟩ := Steps.initColdArgs (e := e) X.here E.2.1 X.warmed hpl E.2.2.2.2.1 hin hy (q_word E.1 hu hlk rfl) (q_word E.1 hu hins rfl) hcode (f := F0 m pc la ((as.reverse ++ .ref a :: st).map (q_ev g))) rfl hln hstk hdc
      exact ⟨mk, vm₁, hnamed, hW₁, hstep₁⟩
    · obtain ⟨mk, methM, cM, kP, vm₁, hnamed, hmethM, hcodeM, -, hlocalsM, -, hkP, -, hW₁, hstep₁⟩ := Steps.initColdArgsNest (e := e) X.here E.2.1 X.warmed hpl E.2.2.2.2.1 hin hy (q_nestM E.1 hu hlk) (q_word E.1 hu hins rfl) hcode (f := F0 m pc la ((as.reverse ++ .ref a :: st).map (q_ev g))) rfl hln hstk hdc
      exact ⟨mk, vm₁, hnamed, hW₁, hstep₁⟩
  obtain ⟨mk, vm₁, hnamed, hW₁, hstep₁⟩ := go
  have X₁ := X.noted hW₁
  obtain ⟨t, a1, a2⟩ := q_after hC hd' hN hmc hms kr kt (T := T.setVm vm₁) E hL hH h1 h2 X₁ (ig := .invokespecial idx) (mk := mk) (by rw [E.2.2.1]; exact hd) (X₁.named hnamed) hwN hini
  exact ⟨t, hstep₁ t (fun acts => by rw [doInvoke_state]; exact a1), a2⟩
theorem q_callV {N : q_Me} {fr' : Bool} {rm' : Room} {idx n : Nat} {as : List Value} {P' : Outcome → List va_E → Prop} {a ci : Nat} {fs : List Value} {q : vw_C} (hd : decode M.2.1 pc = .ok (.invokevirtual idx, 3)) (hl : q_ML M.1.cls idx N n) (hins : Jvm.Cond.instanceMethod N.1 ∈ q_gw) (hsel : Jvm.Cond.selects q.1 N.1 N.1 ∈ q_gw) (hq : q_cl[ci]? = some q) (he : hp[a]? = some (.inr (ci, fs))) (hn : as.length = n) (hC : q_C g N fr' rm' (.ref a :: as) hp P') (hd' : rm'.frames + 1 ≤ rm.frames) (hN : (st.map fun v => v.category).sum + (N.2.2.1 + 11) + rm'.locals ≤ rm.locals) (hmc : c + rm'.cells ≤ rm.cells) (hms : s + rm'.slots ≤ rm.slots)
    (kr : ∀ v hp', P' (.returned v) hp' → q_J g M fr rm P (pc + 3) ls (v.toList ++ st) hp' (c + rm'.cells) (s + rm'.slots) (w || fr')) (kt : ∀ x hp', P' (.threw x) hp' → q_T g M fr rm P pc ls hp' (c + rm'.cells) (s + rm'.slots) true x) : q_J g M fr rm P pc ls (as.reverse ++ .ref a :: st) hp c s w := by
  intro p e R u m args below meth co H locs la E hL hH h1 h2
  intro T hT X
  subst hT
  have hu := E.2.2.2.2.2.1
  have hlen := hl.len
  obtain ⟨hlk, hwN, hini, hy, -⟩ := hl
  obtain ⟨mk, methM, hnamed, hmethM, hstM, habM⟩ := Cond.instanceMethod_spec (q_word (args := args) E.1 hu hins rfl)
  obtain ⟨methM', cM, hmethM', -, -, -, -, -, -, hsigM⟩ := q_w_spec hnamed (q_word (args := args) E.1 hu hwN (q_w_good N))
  cases hmethM.symm.trans hmethM'
  obtain ⟨r', hr', cellB, hcB, hclB, hvmB, -⟩ := hH.2.2 a _ he
  have hKn := (q_K0 E.1 hu).1 ci _ hq
  have hcls : u.vm.findClass q.1 = some cellB.cls := by rw [hclB]; exact hKn.2.1
  obtain ⟨c2, r2, m2, q1, q2, q3, q4, kP, hkP, hkPi⟩ := Cond.selects_spec (q_word (args := args) E.1 hu hsel rfl)
  cases hcls.symm.trans q1
  cases (State.methodFound?_of_named hnamed hy).symm.trans q2
  cases hnamed.symm.trans q3
  have hselP : selectMethod e.platform u.vm cellB.cls mk = .method mk := by rw [Launch.admits_selectMethod X.admits]; exact q4
  have hstk : (F0 m pc la ((as.reverse ++ .ref a :: st).map (q_ev g))).stack = (as.map (q_ev g)).reverse ++ .ref (q_b g + a) :: st.map (q_ev g) := by
    show (as.reverse ++ .ref a :: st).map (q_ev g) = _
    rw [List.map_append, List.map_reverse]
    rfl
  have hln : (as.map (q_ev g)).length = methM.sig.parameters.length := by
    rw [List.length_map, hn]
    exact hlen _ hsigM
  have hdc : decode co.code (F0 m pc la ((as.reverse ++ .ref a :: st).map (q_ev g))).pc = .ok (.invokevirtual idx, 3) := by rw [E.2.2.1]; exact hd
  have hno : ∀ z, cellB.vm ≠ .statics z := fun z h => by rw [hvmB] at h; cases h
  have go : ∃ vm₁, u.WarmedH vm₁ ∧ Stand p (q_l g) e R u m args below meth co (T.setVm vm₁) locs c s ∧ ∀ target, (∀ acts, Steps p.tables e below (doInvoke e ((T.setVm vm₁).setTop { F0 m pc la ((as.reverse ++ .ref a :: st).map (q_ev g)) with stack := st.map (q_ev g) }) acts mk (Value.ref (q_b g + a) :: as.map (q_ev g)).toArray).1 target) → Steps p.tables e below (T.setTop (F0 m pc la ((as.reverse ++ .ref a :: st).map (q_ev g)))) target := by
    rcases hlk with hlk | ⟨host, hlk⟩
    · obtain ⟨vm₁, X₁, hstep₁⟩ := X.invokevirtual E.2.1 E.2.2.2.2.1 (q_word E.1 hu hlk rfl) hnamed hmethM hstM hkP hkPi hy (a := q_b g + a) (cell := cellB) hcB hno hselP hmethM habM hkP hkPi (g := F0 m pc la ((as.reverse ++ .ref a :: st).map (q_ev g))) rfl (argsL := as.map (q_ev g)) (rest := st.map (q_ev g)) hln hstk hdc
      exact ⟨vm₁, X₁.warmed, X₁, hstep₁⟩
    · obtain ⟨vm₁, X₁, hstep₁⟩ := X.invokevirtualNest E.2.1 E.2.2.2.2.1 (q_nestM E.1 hu hlk) hnamed hmethM hstM hkP hkPi hy (a := q_b g + a) (cell := cellB) hcB hno hselP hmethM habM hkP hkPi (g := F0 m pc la ((as.reverse ++ .ref a :: st).map (q_ev g))) rfl (argsL := as.map (q_ev g)) (rest := st.map (q_ev g)) hln hstk hdc
      exact ⟨vm₁, X₁.warmed, X₁, hstep₁⟩
  obtain ⟨vm₁, hW₁, X₁, hstep₁⟩ := go
  obtain ⟨t, a1, a2⟩ := q_after hC hd' hN hmc hms kr kt (T := T.setVm vm₁) E hL hH h1 h2 X₁ (ig := .invokevirtual idx) (mk := mk) (by rw [E.2.2.1]; exact hd) (X₁.named hnamed) hwN hini
  exact ⟨t, hstep₁ t (fun acts => by rw [doInvoke_state]; exact a1), a2⟩
/-- an end that is known: it returns v, the cells are hp2 -/
def q_ret (v : Option Value) (hp2 : List va_E) : Outcome → List va_E → Prop := fun r h => r = .returned v ∧ h = hp2
def q_thr (x : Nat) (hp2 : List va_E) : Outcome → List va_E → Prop := fun r h => r = .threw x ∧ h = hp2
theorem q_kr {v0 : Option Value} {hp2 : List va_E} {D : Option Value → List va_E → Prop} (k : D v0 hp2) : ∀ v hp', q_ret v0 hp2 (.returned v) hp' → D v hp' := by
  intro v hp' ⟨e1, e2⟩
  cases e1
  subst e2
  exact k
theorem q_kt {v0 : Option Value} {hp2 : List va_E} {D : Nat → List va_E → Prop} : ∀ x hp', q_ret v0 hp2 (.threw x) hp' → D x hp' := by
  intro x hp' ⟨e1, e2⟩
  cases e1
/-- Object.<init> -/
theorem q_objInit {idx a : Nat} (hd : decode M.2.1 pc = .ok (.invokespecial idx, 3)) (hw1 : Jvm.Cond.methodLink M.1.cls idx Lib.objectInit ∈ q_gw) (hw2 : Jvm.Cond.instanceMethod Lib.objectInit ∈ q_gw) (hw3 : Jvm.Cond.code Lib.objectInit ⟨#[0xb1]⟩ 1 none ∈ q_gw) (hd1 : 1 ≤ rm.frames) (hst : (st.map fun v => v.category).sum + 12 ≤ rm.locals) (kk : q_J g M fr rm P (pc + 3) ls st hp c s w) : q_J g M fr rm P pc ls (.ref a :: st) hp c s w := by
  intro p e R u m args below meth co H locs la E hL hH h1 h2
  have hu := E.2.2.2.2.2.1
  have hR1 := E.2.2.2.2.2.2.2.2.2.1
  have hR2 := E.2.2.2.2.2.2.2.2.2.2.1
  have hcat : ((st.map (q_ev g)).map fun v => v.category).sum = (st.map fun v => v.category).sum := by
    have : (st.map (q_ev g)).map (fun v => v.category) = st.map (fun v => v.category) := by
      rw [List.map_map]
      exact List.map_congr_left (fun v _ => q_ev_cat g v)
    rw [this]
  exact W.objInit E.2.1 E.2.2.1 E.2.2.2.2.1 (q_word E.1 hu hw1 rfl) (q_word E.1 hu hw2 rfl) (q_word E.1 hu hw3 rfl) rfl (by rw [E.2.2.2.1]; exact hL.1) rfl hd (by omega) (by show 2 * 0 + _ + 12 ≤ _; omega) (kk p e R u m args below meth co H locs la E hL hH h1 h2)
end ENG4
