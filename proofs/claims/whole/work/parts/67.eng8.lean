/-! The engine, 8: throwing an exception of our own -/
section ENG8
/-- a word that speaks of the tables alone goes on holding, whatever was linked meanwhile -/
theorem q_face {args args' : Array Value} {s0 u : State} (hu : s0.WarmedH u.vm) {w : Jvm.Cond} (hw : (w.onTables && w.keepsFace) = true) (h : w.before args s0 = true) : w.before args' u = true := by
  have h1 : w.onTables = true ∧ w.keepsFace = true := by simpa using hw
  have h2 := Cond.onTables_vm (A := args') (A' := args) (U := u) (U' := s0) u.vm w h1.1
  have h3 := Cond.before_shiftedFace (args := args) (State.Shifted.of_warmed hu) w h1.2 h
  rw [State.setVm_self] at h2
  exact h2.trans h3
theorem q_own2 {g : q_G} (hG : q_GG g) {u : State} (hu : (q_s g).WarmedH u.vm) (hh : ∀ q : Nat, q < q_b g → u.heap[q]? = (q_s g).heap[q]?) {args : Array Value} {L : List Jvm.Cond} (h1 : ∀ a ∈ L, a ∈ q_gw) (h2 : ∀ a ∈ L, (a.onTables && a.keepsFace) = true ∨ a = .laysStatic "java/lang/Throwable" "UNASSIGNED_STACK" "[Ljava/lang/StackTraceElement;" ∨ a = .laysStatic "java/lang/Throwable" "SUPPRESSED_SENTINEL" "Ljava/util/List;" ∨ a = .isRef (.static "java/lang/Throwable" "UNASSIGNED_STACK" "[Ljava/lang/StackTraceElement;") ∨ a = .isRef (.static "java/lang/Throwable" "SUPPRESSED_SENTINEL" "Ljava/util/List;")) : ∀ a ∈ L, a.before args u = true := by
  intro a ha
  rcases h2 a ha with q | q | q | q | q
  · exact q_face hu q (hG.1 a (h1 a ha))
  · subst q; exact q_static hG hu hh os_1
  · subst q; exact q_static hG hu hh os_2
  · have := h1 a ha
    subst q; exact q_staticR hG hu hh os_1 this
  · have := h1 a ha
    subst q; exact q_staticR hG hu hh os_2 this
set_option maxRecDepth 100000 in
theorem ot_1 : ∀ a ∈ Bundle.ownAtoms "StuckSearch" 52 "java/lang/IllegalArgumentException" ["java/lang/RuntimeException", "java/lang/Exception"], (a.onTables && a.keepsFace) = true ∨ a = .laysStatic "java/lang/Throwable" "UNASSIGNED_STACK" "[Ljava/lang/StackTraceElement;" ∨ a = .laysStatic "java/lang/Throwable" "SUPPRESSED_SENTINEL" "Ljava/util/List;" ∨ a = .isRef (.static "java/lang/Throwable" "UNASSIGNED_STACK" "[Ljava/lang/StackTraceElement;") ∨ a = .isRef (.static "java/lang/Throwable" "SUPPRESSED_SENTINEL" "Ljava/util/List;") := by decide +kernel
set_option maxRecDepth 100000 in
theorem ot_2 : ∀ a ∈ Bundle.ownAtoms "StuckSearch" 168 "java/lang/IndexOutOfBoundsException" ["java/lang/RuntimeException", "java/lang/Exception"], (a.onTables && a.keepsFace) = true ∨ a = .laysStatic "java/lang/Throwable" "UNASSIGNED_STACK" "[Ljava/lang/StackTraceElement;" ∨ a = .laysStatic "java/lang/Throwable" "SUPPRESSED_SENTINEL" "Ljava/util/List;" ∨ a = .isRef (.static "java/lang/Throwable" "UNASSIGNED_STACK" "[Ljava/lang/StackTraceElement;") ∨ a = .isRef (.static "java/lang/Throwable" "SUPPRESSED_SENTINEL" "Ljava/util/List;") := by decide +kernel
set_option maxRecDepth 100000 in
theorem ot_3 : ∀ a ∈ Bundle.ownAtoms "StuckSearch" 200 "java/lang/IllegalStateException" ["java/lang/RuntimeException", "java/lang/Exception"], (a.onTables && a.keepsFace) = true ∨ a = .laysStatic "java/lang/Throwable" "UNASSIGNED_STACK" "[Ljava/lang/StackTraceElement;" ∨ a = .laysStatic "java/lang/Throwable" "SUPPRESSED_SENTINEL" "Ljava/util/List;" ∨ a = .isRef (.static "java/lang/Throwable" "UNASSIGNED_STACK" "[Ljava/lang/StackTraceElement;") ∨ a = .isRef (.static "java/lang/Throwable" "SUPPRESSED_SENTINEL" "Ljava/util/List;") := by decide +kernel
end ENG8
