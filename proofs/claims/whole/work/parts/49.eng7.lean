/-! The engine, 7: the words of the exceptions -/
section ENG7
theorem q_own {g : q_G} (hG : q_GG g) {u : State} (hu : (q_s g).WarmedH u.vm) (hh : ∀ q : Nat, q < q_b g → u.heap[q]? = (q_s g).heap[q]?) {args : Array Value} {L : List Jvm.Cond} (h1 : ∀ a ∈ L, a ∈ q_gw) (h2 : ∀ a ∈ L, goodWord a = true ∨ a = .laysStatic "java/lang/Throwable" "UNASSIGNED_STACK" "[Ljava/lang/StackTraceElement;" ∨ a = .laysStatic "java/lang/Throwable" "SUPPRESSED_SENTINEL" "Ljava/util/List;" ∨ a = .isRef (.static "java/lang/Throwable" "UNASSIGNED_STACK" "[Ljava/lang/StackTraceElement;") ∨ a = .isRef (.static "java/lang/Throwable" "SUPPRESSED_SENTINEL" "Ljava/util/List;")) (h3 : Jvm.Cond.laysStatic "java/lang/Throwable" "UNASSIGNED_STACK" "[Ljava/lang/StackTraceElement;" ∈ q_gw) (h4 : Jvm.Cond.laysStatic "java/lang/Throwable" "SUPPRESSED_SENTINEL" "Ljava/util/List;" ∈ q_gw) : ∀ a ∈ L, a.before args u = true := by
  intro a ha
  rcases h2 a ha with q | q | q | q | q
  · exact q_word hG hu (h1 a ha) q
  · subst q; exact q_static hG hu hh h3
  · subst q; exact q_static hG hu hh h4
  · have := h1 a ha
    subst q; exact q_staticR hG hu hh h3 this
  · have := h1 a ha
    subst q; exact q_staticR hG hu hh h4 this
set_option maxRecDepth 100000 in
theorem ow_1 : ∀ a ∈ Bundle.ownAtoms "StuckSearch" 52 "java/lang/IllegalArgumentException" ["java/lang/RuntimeException", "java/lang/Exception"], a ∈ q_gw := by decide +kernel
set_option maxRecDepth 100000 in
theorem ow_2 : ∀ a ∈ Bundle.ownAtoms "StuckSearch" 168 "java/lang/IndexOutOfBoundsException" ["java/lang/RuntimeException", "java/lang/Exception"], a ∈ q_gw := by decide +kernel
set_option maxRecDepth 100000 in
theorem ow_3 : ∀ a ∈ Bundle.ownAtoms "StuckSearch" 200 "java/lang/IllegalStateException" ["java/lang/RuntimeException", "java/lang/Exception"], a ∈ q_gw := by decide +kernel
set_option maxRecDepth 100000 in
theorem os_1 : Jvm.Cond.laysStatic "java/lang/Throwable" "UNASSIGNED_STACK" "[Ljava/lang/StackTraceElement;" ∈ q_gw := by decide +kernel
set_option maxRecDepth 100000 in
theorem os_2 : Jvm.Cond.laysStatic "java/lang/Throwable" "SUPPRESSED_SENTINEL" "Ljava/util/List;" ∈ q_gw := by decide +kernel
end ENG7
