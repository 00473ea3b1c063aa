/-! names, printed by gen/names.py out of the Statement: words, classes, methods -/
section NAMES
theorem q_by {big ws : List Jvm.Cond} (ps : List Nat) (hp : ws = ps.filterMap (fun i => big[i]?)) : ∀ w ∈ ws, w ∈ big := by
  intro w hw
  rw [hp] at hw
  obtain ⟨i, -, hi⟩ := List.mem_filterMap.mp hw
  exact List.mem_of_getElem? hi
def q_gz : List Jvm.Cond := [.isRef (.static "java/lang/Throwable" "UNASSIGNED_STACK" "[Ljava/lang/StackTraceElement;"), .isRef (.static "java/lang/Throwable" "SUPPRESSED_SENTINEL" "Ljava/util/List;")]
def q_gw : List Jvm.Cond := tables_1 ++ (k2_sels lw_privs ++ q_gz)
theorem q_i {w : Jvm.Cond} (i : Nat) (h : tables_1[i]? = some w) : w ∈ q_gw := List.mem_append_left _ (List.mem_of_getElem? h)
theorem q_iz {w : Jvm.Cond} (i : Nat) (h : q_gz[i]? = some w) : w ∈ q_gw := List.mem_append_right _ (List.mem_append_right _ (List.mem_of_getElem? h))
theorem q_is {w : Jvm.Cond} (i : Nat) (h : (k2_sels lw_privs)[i]? = some w) : w ∈ q_gw := List.mem_append_right _ (List.mem_append_left _ (List.mem_of_getElem? h))
def q_T0 : u_T := fun k => match k with
  | 0 => ("StuckSearch", "tape", "LStuckSearch$Tape;", true)
  | 1 => ("StuckSearch", "world", "LStuckSearch$World;", true)
  | 2 => ("StuckSearch", "reader", "LStuckSearch$TextReader;", true)
  | 3 => ("StuckSearch", "search", "LStuckSearch$Search;", true)
  | 4 => ("StuckSearch", "current", "LStuckSearch$State;", true)
  | _ => ("StuckSearch", "stepsGone", "I", false)
def q_f0 : Nat → FieldType := fun k => match k with
  | 0 => (.object "StuckSearch$Tape")
  | 1 => (.object "StuckSearch$World")
  | 2 => (.object "StuckSearch$TextReader")
  | 3 => (.object "StuckSearch$Search")
  | 4 => (.object "StuckSearch$State")
  | _ => .int
theorem q_n0 : ∀ a, a < 6 → ∀ b, b < 6 → a ≠ b → (q_T0 a).2.1 ≠ (q_T0 b).2.1 := by decide +kernel
theorem q_y0 : ∀ k, k < 6 → parseFieldDescriptor (q_T0 k).2.2.1 = some (q_f0 k) := by decide +kernel
set_option maxRecDepth 100000 in
theorem q_u0 : ∀ w ∈ u_ws "StuckSearch" q_T0 6, w ∈ q_gw := fun w hw => List.mem_append_left _ (q_by [260, 262, 264, 266, 268, 270] (by rfl) w hw)
def q_T1 : u_T := fun k => match k with
  | 0 => ("StuckSearch$Tape", "bytes", "[B", true)
  | _ => ("StuckSearch$Tape", "length", "I", false)
def q_f1 : Nat → FieldType := fun k => match k with
  | 0 => (.array .byte)
  | _ => .int
theorem q_n1 : ∀ a, a < 2 → ∀ b, b < 2 → a ≠ b → (q_T1 a).2.1 ≠ (q_T1 b).2.1 := by decide +kernel
theorem q_y1 : ∀ k, k < 2 → parseFieldDescriptor (q_T1 k).2.2.1 = some (q_f1 k) := by decide +kernel
set_option maxRecDepth 100000 in
theorem q_u1 : ∀ w ∈ u_ws "StuckSearch$Tape" q_T1 2, w ∈ q_gw := fun w hw => List.mem_append_left _ (q_by [40, 42] (by rfl) w hw)
def q_T2 : u_T := fun k => match k with
  | 0 => ("StuckSearch$World", "sizes", "[I", true)
  | 1 => ("StuckSearch$World", "firsts", "[I", true)
  | 2 => ("StuckSearch$World", "variableCount", "I", false)
  | 3 => ("StuckSearch$World", "courses", "[LStuckSearch$Course;", true)
  | _ => ("StuckSearch$World", "processCount", "I", false)
def q_f2 : Nat → FieldType := fun k => match k with
  | 0 => (.array .int)
  | 1 => (.array .int)
  | 2 => .int
  | 3 => (.array (.object "StuckSearch$Course"))
  | _ => .int
theorem q_n2 : ∀ a, a < 5 → ∀ b, b < 5 → a ≠ b → (q_T2 a).2.1 ≠ (q_T2 b).2.1 := by decide +kernel
theorem q_y2 : ∀ k, k < 5 → parseFieldDescriptor (q_T2 k).2.2.1 = some (q_f2 k) := by decide +kernel
set_option maxRecDepth 100000 in
theorem q_u2 : ∀ w ∈ u_ws "StuckSearch$World" q_T2 5, w ∈ q_gw := fun w hw => List.mem_append_left _ (q_by [103, 105, 107, 109, 111] (by rfl) w hw)
def q_T3 : u_T := fun k => match k with
  | 0 => ("StuckSearch$Course", "placeCount", "I", false)
  | 1 => ("StuckSearch$Course", "ends", "I", false)
  | 2 => ("StuckSearch$Course", "steps", "[I", true)
  | 3 => ("StuckSearch$Course", "kinds", "[I", true)
  | 4 => ("StuckSearch$Course", "variables", "[I", true)
  | _ => ("StuckSearch$Course", "figures", "[I", true)
def q_f3 : Nat → FieldType := fun k => match k with
  | 0 => .int
  | 1 => .int
  | 2 => (.array .int)
  | 3 => (.array .int)
  | 4 => (.array .int)
  | _ => (.array .int)
theorem q_n3 : ∀ a, a < 6 → ∀ b, b < 6 → a ≠ b → (q_T3 a).2.1 ≠ (q_T3 b).2.1 := by decide +kernel
theorem q_y3 : ∀ k, k < 6 → parseFieldDescriptor (q_T3 k).2.2.1 = some (q_f3 k) := by decide +kernel
set_option maxRecDepth 100000 in
theorem q_u3 : ∀ w ∈ u_ws "StuckSearch$Course" q_T3 6, w ∈ q_gw := fun w hw => List.mem_append_left _ (q_by [76, 78, 80, 82, 84, 86] (by rfl) w hw)
def q_T4 : u_T := fun k => match k with
  | 0 => ("StuckSearch$TextReader", "tape", "LStuckSearch$Tape;", true)
  | 1 => ("StuckSearch$TextReader", "world", "LStuckSearch$World;", true)
  | 2 => ("StuckSearch$TextReader", "choices", "[LStuckSearch$Part;", true)
  | 3 => ("StuckSearch$TextReader", "rows", "[LStuckSearch$Part;", true)
  | 4 => ("StuckSearch$TextReader", "act", "LStuckSearch$Part;", true)
  | 5 => ("StuckSearch$TextReader", "depth", "I", false)
  | 6 => ("StuckSearch$TextReader", "at", "I", false)
  | 7 => ("StuckSearch$TextReader", "faultKind", "I", false)
  | _ => ("StuckSearch$TextReader", "faultPlace", "I", false)
def q_f4 : Nat → FieldType := fun k => match k with
  | 0 => (.object "StuckSearch$Tape")
  | 1 => (.object "StuckSearch$World")
  | 2 => (.array (.object "StuckSearch$Part"))
  | 3 => (.array (.object "StuckSearch$Part"))
  | 4 => (.object "StuckSearch$Part")
  | 5 => .int
  | 6 => .int
  | 7 => .int
  | _ => .int
theorem q_n4 : ∀ a, a < 9 → ∀ b, b < 9 → a ≠ b → (q_T4 a).2.1 ≠ (q_T4 b).2.1 := by decide +kernel
theorem q_y4 : ∀ k, k < 9 → parseFieldDescriptor (q_T4 k).2.2.1 = some (q_f4 k) := by decide +kernel
set_option maxRecDepth 100000 in
theorem q_u4 : ∀ w ∈ u_ws "StuckSearch$TextReader" q_T4 9, w ∈ q_gw := fun w hw => List.mem_append_left _ (q_by [154, 156, 158, 160, 162, 164, 166, 168, 170] (by rfl) w hw)
def q_T5 : u_T := fun k => match k with
  | 0 => ("StuckSearch$Part", "canBeNothing", "Z", false)
  | 1 => ("StuckSearch$Part", "first", "I", false)
  | _ => ("StuckSearch$Part", "last", "I", false)
def q_f5 : Nat → FieldType := fun k => match k with
  | 0 => .boolean
  | 1 => .int
  | _ => .int
theorem q_n5 : ∀ a, a < 3 → ∀ b, b < 3 → a ≠ b → (q_T5 a).2.1 ≠ (q_T5 b).2.1 := by decide +kernel
theorem q_y5 : ∀ k, k < 3 → parseFieldDescriptor (q_T5 k).2.2.1 = some (q_f5 k) := by decide +kernel
set_option maxRecDepth 100000 in
theorem q_u5 : ∀ w ∈ u_ws "StuckSearch$Part" q_T5 3, w ∈ q_gw := fun w hw => List.mem_append_left _ (q_by [136, 138, 140] (by rfl) w hw)
def q_T6 : u_T := fun k => match k with
  | 0 => ("StuckSearch$Search", "world", "LStuckSearch$World;", true)
  | 1 => ("StuckSearch$Search", "reached", "LStuckSearch$StateSet;", true)
  | 2 => ("StuckSearch$Search", "standing", "LStuckSearch$StateSet;", true)
  | 3 => ("StuckSearch$Search", "falling", "LStuckSearch$StateSet;", true)
  | 4 => ("StuckSearch$Search", "waiting", "LStuckSearch$StateSet;", true)
  | 5 => ("StuckSearch$Search", "seen", "LStuckSearch$State;", true)
  | 6 => ("StuckSearch$Search", "placeWeights", "[I", true)
  | 7 => ("StuckSearch$Search", "valueWeights", "[I", true)
  | 8 => ("StuckSearch$Search", "standingCount", "I", false)
  | 9 => ("StuckSearch$Search", "endedCount", "I", false)
  | 10 => ("StuckSearch$Search", "standingKnown", "Z", false)
  | _ => ("StuckSearch$Search", "fallingKnown", "Z", false)
def q_f6 : Nat → FieldType := fun k => match k with
  | 0 => (.object "StuckSearch$World")
  | 1 => (.object "StuckSearch$StateSet")
  | 2 => (.object "StuckSearch$StateSet")
  | 3 => (.object "StuckSearch$StateSet")
  | 4 => (.object "StuckSearch$StateSet")
  | 5 => (.object "StuckSearch$State")
  | 6 => (.array .int)
  | 7 => (.array .int)
  | 8 => .int
  | 9 => .int
  | 10 => .boolean
  | _ => .boolean
theorem q_n6 : ∀ a, a < 12 → ∀ b, b < 12 → a ≠ b → (q_T6 a).2.1 ≠ (q_T6 b).2.1 := by decide +kernel
theorem q_y6 : ∀ k, k < 12 → parseFieldDescriptor (q_T6 k).2.2.1 = some (q_f6 k) := by decide +kernel
set_option maxRecDepth 100000 in
theorem q_u6 : ∀ w ∈ u_ws "StuckSearch$Search" q_T6 12, w ∈ q_gw := fun w hw => List.mem_append_left _ (q_by [227, 229, 231, 233, 235, 237, 239, 241, 243, 245, 247, 249] (by rfl) w hw)
def q_T7 : u_T := fun k => match k with
  | 0 => ("StuckSearch$StateSet", "words", "[J", true)
  | _ => ("StuckSearch$StateSet", "lowest", "I", false)
def q_f7 : Nat → FieldType := fun k => match k with
  | 0 => (.array .long)
  | _ => .int
theorem q_n7 : ∀ a, a < 2 → ∀ b, b < 2 → a ≠ b → (q_T7 a).2.1 ≠ (q_T7 b).2.1 := by decide +kernel
theorem q_y7 : ∀ k, k < 2 → parseFieldDescriptor (q_T7 k).2.2.1 = some (q_f7 k) := by decide +kernel
set_option maxRecDepth 100000 in
theorem q_u7 : ∀ w ∈ u_ws "StuckSearch$StateSet" q_T7 2, w ∈ q_gw := fun w hw => List.mem_append_left _ (q_by [187, 189] (by rfl) w hw)
def q_T8 : u_T := fun k => match k with
  | 0 => ("StuckSearch$State", "places", "[I", true)
  | _ => ("StuckSearch$State", "values", "[I", true)
def q_f8 : Nat → FieldType := fun k => match k with
  | 0 => (.array .int)
  | _ => (.array .int)
theorem q_n8 : ∀ a, a < 2 → ∀ b, b < 2 → a ≠ b → (q_T8 a).2.1 ≠ (q_T8 b).2.1 := by decide +kernel
theorem q_y8 : ∀ k, k < 2 → parseFieldDescriptor (q_T8 k).2.2.1 = some (q_f8 k) := by decide +kernel
set_option maxRecDepth 100000 in
theorem q_u8 : ∀ w ∈ u_ws "StuckSearch$State" q_T8 2, w ∈ q_gw := fun w hw => List.mem_append_left _ (q_by [207, 209] (by rfl) w hw)
def q_T9 : u_T := fun k => match k with
  | 0 => ("StuckSearchModel", "thrown", "I", false)
  | 1 => ("StuckSearchModel", "tape", "[I", true)
  | 2 => ("StuckSearchModel", "size", "I", false)
  | 3 => ("StuckSearchModel", "fault", "I", false)
  | 4 => ("StuckSearchModel", "faultPlace", "I", false)
  | 5 => ("StuckSearchModel", "variables", "I", false)
  | 6 => ("StuckSearchModel", "sizes", "[I", true)
  | 7 => ("StuckSearchModel", "firsts", "[I", true)
  | 8 => ("StuckSearchModel", "processes", "I", false)
  | 9 => ("StuckSearchModel", "places", "[I", true)
  | 10 => ("StuckSearchModel", "ends", "[I", true)
  | 11 => ("StuckSearchModel", "follow", "[I", true)
  | 12 => ("StuckSearchModel", "acts", "[I", true)
  | 13 => ("StuckSearchModel", "actVariables", "[I", true)
  | 14 => ("StuckSearchModel", "actFigures", "[I", true)
  | 15 => ("StuckSearchModel", "at", "I", false)
  | 16 => ("StuckSearchModel", "count", "I", false)
  | 17 => ("StuckSearchModel", "newFollow", "[I", true)
  | 18 => ("StuckSearchModel", "newActs", "[I", true)
  | 19 => ("StuckSearchModel", "newVariables", "[I", true)
  | 20 => ("StuckSearchModel", "newFigures", "[I", true)
  | 21 => ("StuckSearchModel", "open", "I", false)
  | 22 => ("StuckSearchModel", "choicesNothing", "[Z", true)
  | 23 => ("StuckSearchModel", "choicesFirst", "[I", true)
  | 24 => ("StuckSearchModel", "choicesLast", "[I", true)
  | 25 => ("StuckSearchModel", "rowNothing", "[Z", true)
  | 26 => ("StuckSearchModel", "rowFirst", "[I", true)
  | 27 => ("StuckSearchModel", "rowLast", "[I", true)
  | 28 => ("StuckSearchModel", "nothing", "Z", false)
  | 29 => ("StuckSearchModel", "first", "I", false)
  | 30 => ("StuckSearchModel", "last", "I", false)
  | 31 => ("StuckSearchModel", "now", "[I", true)
  | 32 => ("StuckSearchModel", "state", "[I", true)
  | 33 => ("StuckSearchModel", "next", "[I", true)
  | 34 => ("StuckSearchModel", "gone", "I", false)
  | 35 => ("StuckSearchModel", "seen", "[Z", true)
  | 36 => ("StuckSearchModel", "queue", "[I", true)
  | 37 => ("StuckSearchModel", "known", "Z", false)
  | 38 => ("StuckSearchModel", "found", "[I", true)
  | 39 => ("StuckSearchModel", "foundCount", "I", false)
  | _ => ("StuckSearchModel", "endedCount", "I", false)
def q_f9 : Nat → FieldType := fun k => match k with
  | 0 => .int
  | 1 => (.array .int)
  | 2 => .int
  | 3 => .int
  | 4 => .int
  | 5 => .int
  | 6 => (.array .int)
  | 7 => (.array .int)
  | 8 => .int
  | 9 => (.array .int)
  | 10 => (.array .int)
  | 11 => (.array .int)
  | 12 => (.array .int)
  | 13 => (.array .int)
  | 14 => (.array .int)
  | 15 => .int
  | 16 => .int
  | 17 => (.array .int)
  | 18 => (.array .int)
  | 19 => (.array .int)
  | 20 => (.array .int)
  | 21 => .int
  | 22 => (.array .boolean)
  | 23 => (.array .int)
  | 24 => (.array .int)
  | 25 => (.array .boolean)
  | 26 => (.array .int)
  | 27 => (.array .int)
  | 28 => .boolean
  | 29 => .int
  | 30 => .int
  | 31 => (.array .int)
  | 32 => (.array .int)
  | 33 => (.array .int)
  | 34 => .int
  | 35 => (.array .boolean)
  | 36 => (.array .int)
  | 37 => .boolean
  | 38 => (.array .int)
  | 39 => .int
  | _ => .int
theorem q_n9 : ∀ a, a < 41 → ∀ b, b < 41 → a ≠ b → (q_T9 a).2.1 ≠ (q_T9 b).2.1 := by decide +kernel
theorem q_y9 : ∀ k, k < 41 → parseFieldDescriptor (q_T9 k).2.2.1 = some (q_f9 k) := by decide +kernel
set_option maxRecDepth 100000 in
theorem q_u9 : ∀ w ∈ u_ws "StuckSearchModel" q_T9 41, w ∈ q_gw := fun w hw => List.mem_append_left _ (q_by [795, 797, 799, 801, 803, 805, 807, 809, 811, 813, 815, 817, 819, 821, 823, 825, 827, 829, 831, 833, 835, 837, 839, 841, 843, 845, 847, 849, 851, 853, 855, 857, 859, 861, 863, 865, 867, 869, 871, 873, 875] (by rfl) w hw)
def q_T10 : u_T := fun k => match k with
  | _ => ("", "", "", false)
def q_f10 : Nat → FieldType := fun k => match k with
  | _ => .int
theorem q_n10 : ∀ a, a < 0 → ∀ b, b < 0 → a ≠ b → (q_T10 a).2.1 ≠ (q_T10 b).2.1 := by decide +kernel
theorem q_y10 : ∀ k, k < 0 → parseFieldDescriptor (q_T10 k).2.2.1 = some (q_f10 k) := by decide +kernel
set_option maxRecDepth 100000 in
theorem q_u10 : ∀ w ∈ u_ws "java/lang/IllegalArgumentException" q_T10 0, w ∈ q_gw := fun w hw => List.mem_append_left _ (q_by [] (by rfl) w hw)
def q_T11 : u_T := fun k => match k with
  | _ => ("", "", "", false)
def q_f11 : Nat → FieldType := fun k => match k with
  | _ => .int
theorem q_n11 : ∀ a, a < 0 → ∀ b, b < 0 → a ≠ b → (q_T11 a).2.1 ≠ (q_T11 b).2.1 := by decide +kernel
theorem q_y11 : ∀ k, k < 0 → parseFieldDescriptor (q_T11 k).2.2.1 = some (q_f11 k) := by decide +kernel
set_option maxRecDepth 100000 in
theorem q_u11 : ∀ w ∈ u_ws "java/lang/IndexOutOfBoundsException" q_T11 0, w ∈ q_gw := fun w hw => List.mem_append_left _ (q_by [] (by rfl) w hw)
def q_T12 : u_T := fun k => match k with
  | _ => ("", "", "", false)
def q_f12 : Nat → FieldType := fun k => match k with
  | _ => .int
theorem q_n12 : ∀ a, a < 0 → ∀ b, b < 0 → a ≠ b → (q_T12 a).2.1 ≠ (q_T12 b).2.1 := by decide +kernel
theorem q_y12 : ∀ k, k < 0 → parseFieldDescriptor (q_T12 k).2.2.1 = some (q_f12 k) := by decide +kernel
set_option maxRecDepth 100000 in
theorem q_u12 : ∀ w ∈ u_ws "java/lang/IllegalStateException" q_T12 0, w ∈ q_gw := fun w hw => List.mem_append_left _ (q_by [] (by rfl) w hw)
def q_cl : List vw_C := [("StuckSearch", q_T0, 6), ("StuckSearch$Tape", q_T1, 2), ("StuckSearch$World", q_T2, 5), ("StuckSearch$Course", q_T3, 6), ("StuckSearch$TextReader", q_T4, 9), ("StuckSearch$Part", q_T5, 3), ("StuckSearch$Search", q_T6, 12), ("StuckSearch$StateSet", q_T7, 2), ("StuckSearch$State", q_T8, 2), ("StuckSearchModel", q_T9, 41), ("java/lang/IllegalArgumentException", q_T10, 0), ("java/lang/IndexOutOfBoundsException", q_T11, 0), ("java/lang/IllegalStateException", q_T12, 0)]
def q_tf (c : Nat) : Nat → FieldType := match c with
  | 0 => q_f0
  | 1 => q_f1
  | 2 => q_f2
  | 3 => q_f3
  | 4 => q_f4
  | 5 => q_f5
  | 6 => q_f6
  | 7 => q_f7
  | 8 => q_f8
  | 9 => q_f9
  | 10 => q_f10
  | 11 => q_f11
  | _ => q_f12
theorem q_cl_in : ∀ (c : Nat) (q : vw_C), q_cl[c]? = some q → ∀ w ∈ u_ws q.1 q.2.1 q.2.2, w ∈ q_gw := by
  intro c q h
  have hl : c < 13 := (List.getElem?_eq_some_iff.mp h).1
  match c, hl, h with
  | 0, _, h => cases h; exact q_u0
  | 1, _, h => cases h; exact q_u1
  | 2, _, h => cases h; exact q_u2
  | 3, _, h => cases h; exact q_u3
  | 4, _, h => cases h; exact q_u4
  | 5, _, h => cases h; exact q_u5
  | 6, _, h => cases h; exact q_u6
  | 7, _, h => cases h; exact q_u7
  | 8, _, h => cases h; exact q_u8
  | 9, _, h => cases h; exact q_u9
  | 10, _, h => cases h; exact q_u10
  | 11, _, h => cases h; exact q_u11
  | 12, _, h => cases h; exact q_u12
  | k + 13, hl, _ => omega
theorem q_cl_ty : ∀ (c : Nat) (q : vw_C), q_cl[c]? = some q → ∀ k, k < q.2.2 → parseFieldDescriptor (q.2.1 k).2.2.1 = some (q_tf c k) := by
  intro c q h
  have hl : c < 13 := (List.getElem?_eq_some_iff.mp h).1
  match c, hl, h with
  | 0, _, h => cases h; exact q_y0
  | 1, _, h => cases h; exact q_y1
  | 2, _, h => cases h; exact q_y2
  | 3, _, h => cases h; exact q_y3
  | 4, _, h => cases h; exact q_y4
  | 5, _, h => cases h; exact q_y5
  | 6, _, h => cases h; exact q_y6
  | 7, _, h => cases h; exact q_y7
  | 8, _, h => cases h; exact q_y8
  | 9, _, h => cases h; exact q_y9
  | 10, _, h => cases h; exact q_y10
  | 11, _, h => cases h; exact q_y11
  | 12, _, h => cases h; exact q_y12
  | k + 13, hl, _ => omega
theorem q_cl_nm : ∀ (c : Nat) (q : vw_C), q_cl[c]? = some q → ∀ a, a < q.2.2 → ∀ b, b < q.2.2 → a ≠ b → (q.2.1 a).2.1 ≠ (q.2.1 b).2.1 := by
  intro c q h
  have hl : c < 13 := (List.getElem?_eq_some_iff.mp h).1
  match c, hl, h with
  | 0, _, h => cases h; exact q_n0
  | 1, _, h => cases h; exact q_n1
  | 2, _, h => cases h; exact q_n2
  | 3, _, h => cases h; exact q_n3
  | 4, _, h => cases h; exact q_n4
  | 5, _, h => cases h; exact q_n5
  | 6, _, h => cases h; exact q_n6
  | 7, _, h => cases h; exact q_n7
  | 8, _, h => cases h; exact q_n8
  | 9, _, h => cases h; exact q_n9
  | 10, _, h => cases h; exact q_n10
  | 11, _, h => cases h; exact q_n11
  | 12, _, h => cases h; exact q_n12
  | k + 13, hl, _ => omega
def q_ty : List FieldType := [.int, .long, .byte, .boolean, .object "StuckSearch$Course", .object "StuckSearch$Part"]
end NAMES
