/-! The engine, 6: an exception of the platform is thrown -/
section ENG6
variable {g : q_G} {M : q_Me} {fr : Bool} {rm : Room} {P : Outcome → List va_E → Prop} {pc : Nat} {ls : List (Option Value)} {hp : List va_E} {c s : Nat}
set_option maxHeartbeats 1000000 in
theorem q_throwS {idx ci si ic : Nat} {Ex text : String} {tf : List (String × String × FieldType)} (names : List String) (hnm : names = ["java/lang/RuntimeException", "java/lang/Exception"])
    (hd0 : decode M.2.1 pc = .ok (.new idx, 3)) (hd1 : decode M.2.1 (pc + 3) = .ok (.dup, 1)) (hd2 : decode M.2.1 (pc + 4) = .ok (.ldc si, 2)) (hd3 : decode M.2.1 (pc + 6) = .ok (.invokespecial ic, 3)) (hd4 : decode M.2.1 (pc + 9) = .ok (.athrow, 1))
    (hw1 : Jvm.Cond.classLink M.1.cls idx Ex ∈ q_gw) (hw2 : Jvm.Cond.instantiable Ex 6 ∈ q_gw) (hw3 : Jvm.Cond.initialized Ex ∈ q_gw) (hw4 : Jvm.Cond.stringRef M.1.cls si text ∈ q_gw) (hfit : Bundle.fit Ex = true) (hfits : ∀ n ∈ names, Bundle.fit n = true)
    (hA : ∀ (u : State) (args : Array Value), (q_s g).WarmedH u.vm → (∀ q : Nat, q < q_b g → u.heap[q]? = (q_s g).heap[q]?) → ∀ a ∈ Bundle.ownAtoms M.1.cls ic Ex names, a.before args u = true)
    (hst : (q_l g).stackTraces = false) (hnh : M.2.2.2.2 = []) (hfr : 5 < rm.frames) (hlo : 82 ≤ rm.locals) (hce : 1 ≤ rm.cells) (hsl : 6 ≤ rm.slots)
    (hP : P (.threw hp.length) (hp ++ [.inr (ci, [])])) (hX : ∀ (u : State), (q_s g).WarmedH u.vm → ∀ cX, u.vm.findClass Ex = some cX → cX = (q_D g).1 ci) (hq : ∃ r : vw_C, q_cl[ci]? = some r ∧ r.2.2 = 0) : q_J g M fr rm P pc ls [] hp c s false := by
  intro p e R u m args below meth co H locs la E hL hH h1 h2
  have hu := E.2.2.2.2.2.1
  have hloc : locs = [] := by
    cases locs with
    | nil => rfl
    | cons q _ => exact absurd (h1 q List.mem_cons_self).1 (by decide)
  subst hloc
  have hHu := h2 rfl
  subst hHu
  have hlow : ∀ q : Nat, q < q_b g → u.heap[q]? = (q_s g).heap[q]? := hH.2.1
  intro T hT X
  have X0 := q_reset X hT
  have htr : e.platform.stackTraces = false := by rw [X0.admits.platform]; exact hst
  have hR := E.2.2.2.2.2.2.2.2.2
  obtain ⟨vm1, cX, kX, hfX, hkX, -, -, X1, st1⟩ := X0.newCold E.2.1 (own := M.1.cls) (C := Ex) (index := idx) (n := 6) E.2.2.2.2.1 (q_word E.1 hu hw1 rfl) (q_word E.1 hu hw2 rfl) (q_word E.1 hu hw3 rfl) (g := F0 m pc la []) rfl (by rw [E.2.2.1]; exact hd0) (by have := hR.2.2.1; omega) (by have := hR.2.2.2.1; omega)
  generalize hT1 : (T.setVm vm1).pushCell { cls := cX, slots := kX.instanceTypes.map defaultValue, vm := .none } = T1 at X1 st1
  have hcell : T1.heap[T.heap.size]? = some (freshCell cX kX) := by rw [← hT1]; exact State.heap_pushCell_size _ _
  have hc0 : (Jvm.Cond.stringRef M.1.cls si text).before (q_a g) ((q_s g).setVm u.vm) = true := Cond.stringRef_warmed hu (E.1.1 _ hw4)
  obtain ⟨-, -, -, sa, -, -, -, -, -, hev⟩ := Cond.stringRef_spec (show ((q_s g).setVm u.vm).vm.findClass M.1.cls = some m.cls from E.2.2.2.2.1) hc0
  have hvk : vk_R M.1.cls si text sa u := vk_R.same (u := (q_s g).setVm u.vm) rfl (vk_R.of hc0 hev)
  have hlk : meth.locks = false := E.2.2.2.2.2.2.2.1
  have htab : co.exceptionTable.toList = [] := by
    have := hR.2.2.2.2
    rw [hnh] at this
    exact List.map_eq_nil_iff.mp this
  obtain ⟨U, hsteps, hrun, hend, hW, hsame, ce, hce', K⟩ := X1.ctorThrowS E.2.1 htr (own := M.1.cls) (cls := Ex) (names := names) (ic := ic) E.2.2.2.2.1 hfit hfits (hA u args hu hlow) (fun y hy => by cases hy) hfX hkX hcell (by rw [hT]; exact Nat.le_refl _) (msg := .ref sa) rfl
    (g := F0 m (pc + 6) la [.ref sa, .ref T.heap.size, .ref T.heap.size]) rfl (by rw [E.2.2.2.1]; exact hL.1) rfl rfl (rest := []) rfl (by rw [E.2.2.1]; exact hd3) (by rw [E.2.2.1]; exact hd4) (by rw [htab]; exact fun x hx => by cases hx) (by rw [hnm]; show 2 + 3 < R.frames; have := hR.1; omega) (by rw [hnm]; show 2 * 0 + 1 + (13 * (2 + 1) + 42) ≤ R.locals; have := hR.2.1; omega)
  refine ⟨U, ?_, .threw T.heap.size, hrun, hend, ?_, [], ⟨hW, ?_⟩, fun q hq => by cases hq⟩
  · refine st1 _ ?_
    show Steps p.tables e below (T1.setTop (F0 m (pc + 3) la [.ref T.heap.size])) _
    jvm_step X1.here [X1.here.top, E.2.1, E.2.2.1, hd1, Value.category]
    exact X1.ldcString E.2.1 (own := M.1.cls) (text := text) (index := si) (a := sa) E.2.2.2.2.1 hvk.1 hvk.2 (g := F0 m (pc + 4) la [.ref T.heap.size, .ref T.heap.size]) rfl (by rw [E.2.2.1]; exact hd2) _ hsteps
  · refine ⟨.threw hp.length, hp ++ [.inr (ci, [])], ?_, ?_, hP, fun _ ⟨v, hv⟩ => by cases hv⟩
    · show Outcome.threw T.heap.size = Outcome.threw (q_b g + hp.length)
      rw [hT, hH.1]
    · obtain ⟨a1, a2, a3, a4, a5, a6⟩ := hsame
      have hsz : U.heap.size = u.heap.size + 1 := by
        have b1 : U.heap.size ≤ u.heap.size + (0 + 1) := a3
        have b2 := (Array.getElem?_eq_some_iff.mp hce').1
        rw [hT] at b2
        omega
      refine hH.push hsz (fun x hx => ?_) ?_
      · have b1 : u.heap[x]? = some u.heap[x] := Array.getElem?_eq_some_iff.mpr ⟨hx, rfl⟩
        obtain ⟨c', d1, d2, d3, d4⟩ := a6 x _ b1
        have d1 : U.heap[x]? = some c' := d1
        rw [d1, b1, d2]
        have : c'.slots = u.heap[x].slots := Array.ext' (by
          apply List.ext_getElem?
          intro k
          have := d4 k (by simp)
          simpa using this)
        rw [this]
      · obtain ⟨r, hr1, hr2⟩ := hq
        refine ⟨r, hr1, ce, ?_, ?_, K.vm, fun k hk => by rw [hr2] at hk; omega⟩
        · rw [hT] at hce'
          exact hce'
        · exact hX u hu _ K.cls
  · obtain ⟨a1, a2, a3, a4, a5, a6⟩ := hsame
    exact ⟨a1, a2, by omega, a4, by omega, a6⟩
end ENG6
