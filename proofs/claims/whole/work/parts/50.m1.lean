/-! the reference: its picture, the smallest methods of its reader -/
section M1
def mo_l (m : Nat → Int32) : List Value := [.int (m 0), .ref 85, .int (m 2), .int (m 3), .int (m 4), .int (m 5), .ref 86, .ref 87, .int (m 8), .ref 88, .ref 89, .ref 90, .ref 91, .ref 92, .ref 93, .int (m 15), .int (m 16), .ref 94, .ref 95, .ref 96, .ref 97, .int (m 21), .ref 98, .ref 99, .ref 100, .ref 101, .ref 102, .ref 103, .int (m 28), .int (m 29), .int (m 30), .ref 104, .ref 105, .ref 106, .int (m 34), .ref 107, .ref 108, .int (m 37), .ref 109, .int (m 39), .int (m 40)]
abbrev o_Mo (m : Nat → Int32) : va_E := .inr (9, mo_l m)
def mo_c (k : Nat) (f : Nat → Int32) : va_E := match k with
  | 0 => a_I 100 f
  | 1 => a_I 5 f
  | 2 => a_I 5 f
  | 3 => a_I 6 f
  | 4 => a_I 6 f
  | 5 => a_I 78 f
  | 6 => a_I 78 f
  | 7 => a_I 78 f
  | 8 => a_I 78 f
  | 9 => a_I 13 f
  | 10 => a_I 13 f
  | 11 => a_I 13 f
  | 12 => a_I 13 f
  | 13 => a_Z 14 f
  | 14 => a_I 14 f
  | 15 => a_I 14 f
  | 16 => a_Z 14 f
  | 17 => a_I 14 f
  | 18 => a_I 14 f
  | 19 => a_I 11 f
  | 20 => a_I 11 f
  | 21 => a_I 11 f
  | 22 => a_Z 30001 f
  | 23 => a_I 30001 f
  | _ => a_I 30001 f
def F_M (hp hp' : List va_E) : Prop := hp'.length = hp.length ∧ ∀ k, k < 84 ∨ 109 < k → hp'[k]? = hp[k]?
def M_A (b : List va_E) (m : Nat → Int32) (A : Nat → Nat → Int32) (hp : List va_E) : Prop := hp[84]? = some (o_Mo m) ∧ (∀ k, k < 25 → hp[85 + k]? = some (mo_c k (A k))) ∧ F_M b hp
abbrev m_Z := (Nat → Int32) × (Nat → Nat → Int32) × List va_E
abbrev q_mo (v : Option Value) (b : List va_E) (φ : (Nat → Int32) → (Nat → Nat → Int32) → Prop) : Outcome → List va_E → Prop := q_rel (Z := m_Z) (fun _ => v) (fun z => z.2.2) (fun z => M_A b z.1 z.2.1 z.2.2 ∧ φ z.1 z.2.1)
def mo_K {α : Type} (L : List Nat) (f0 f : Nat → α) : Prop := ∀ k, k ∉ L → f k = f0 k
theorem mo_K.put {α : Type} {L : List Nat} {f0 f f' : Nat → α} {k : Nat} (h : mo_K L f0 f) (n : ∀ j, j ≠ k → f' j = f j) (hk : k ∈ L) : mo_K L f0 f' := fun j hj => (n j (fun e => hj (e ▸ hk))).trans (h j hj)
theorem mo_K.sub {α : Type} {L L' : List Nat} {f0 f f' : Nat → α} (h : mo_K L f0 f) (n : mo_K L' f f') (hk : ∀ x ∈ L', x ∈ L) : mo_K L f0 f' := fun j hj => (n j (fun e => hj (hk j e))).trans (h j hj)
theorem mo_K.rfl {α : Type} {L : List Nat} {f : Nat → α} : mo_K L f f := fun _ _ => Eq.refl _
theorem mo_set (m : Nat → Int32) (x : Int32) : ∀ k, k ∈ [0, 2, 3, 4, 5, 8, 15, 16, 21, 28, 29, 30, 34, 37, 39, 40] → (mo_l m).set k (.int x) = mo_l (va_up m k x) := by
  intro k hk
  simp only [List.mem_cons, List.not_mem_nil, or_false] at hk
  rcases hk with rfl | rfl | rfl | rfl | rfl | rfl | rfl | rfl | rfl | rfl | rfl | rfl | rfl | rfl | rfl | rfl <;> rfl
theorem F_M.set {b hp hp' : List va_E} {a : Nat} {x : va_E} (h : F_M b hp) (e : hp' = hp.set a x) (h1 : 84 ≤ a) (h2 : a ≤ 109) : F_M b hp' := by
  subst e
  exact ⟨by rw [List.length_set]; exact h.1, fun k hk => by rw [List.getElem?_set_ne (by omega)]; exact h.2 k hk⟩
theorem F_M.refl (hp : List va_E) : F_M hp hp := ⟨rfl, fun _ _ => rfl⟩
theorem F_M.trans {a b c : List va_E} (h : F_M a b) (k : F_M b c) : F_M a c := ⟨k.1.trans h.1, fun i hi => (k.2 i hi).trans (h.2 i hi)⟩
theorem M_A.put {b hp hp' : List va_E} {m : Nat → Int32} {A : Nat → Nat → Int32} {k : Nat} {x : Int32} (h : M_A b m A hp) (hk : k ∈ [0, 2, 3, 4, 5, 8, 15, 16, 21, 28, 29, 30, 34, 37, 39, 40]) (e : hp' = hp.set 84 (.inr (9, (mo_l m).set k (.int x)))) : ∃ m', M_A b m' A hp' ∧ m' k = x ∧ ∀ j, j ≠ k → m' j = m j := by
  refine ⟨va_up m k x, ⟨?_, fun j hj => q_keep e (h.2.1 j hj) (by omega), h.2.2.set e (by omega) (by omega)⟩, va_up_self _ _ _, fun j hj => va_up_ne _ _ hj⟩
  rw [e, mo_set m x k hk]
  exact q_self h.1
theorem M_A.st {b hp hp' : List va_E} {m : Nat → Int32} {A : Nat → Nat → Int32} {f : Nat → Int32} (h : M_A b m A hp) (k : Nat) (hk : k < 25) (e : hp' = hp.set (85 + k) (mo_c k f)) : ∃ A', M_A b m A' hp' ∧ A' k = f ∧ ∀ j, j ≠ k → A' j = A j := by
  refine ⟨va_up A k f, ⟨q_keep e h.1 (by omega), fun j hj => ?_, h.2.2.set e (by omega) (by omega)⟩, va_up_self _ _ _, fun j hj => va_up_ne _ _ hj⟩
  by_cases q : j = k
  · subst q
    rw [e, va_up_self]
    exact q_self (h.2.1 j hj)
  · rw [va_up_ne _ _ q]
    exact q_keep e (h.2.1 j hj) (by omega)
theorem M_A.a0 {b hp : List va_E} {m : Nat → Int32} {A : Nat → Nat → Int32} (h : M_A b m A hp) : hp[85]? = some (a_I 100 (A 0)) := h.2.1 0 (by decide)
theorem M_A.st0 {b hp hp' : List va_E} {m : Nat → Int32} {A : Nat → Nat → Int32} {f : Nat → Int32} (h : M_A b m A hp) (e : hp' = hp.set 85 (a_I 100 f)) : ∃ A', M_A b m A' hp' ∧ A' 0 = f ∧ ∀ j, j ≠ 0 → A' j = A j := h.st 0 (by decide) e
theorem M_A.a1 {b hp : List va_E} {m : Nat → Int32} {A : Nat → Nat → Int32} (h : M_A b m A hp) : hp[86]? = some (a_I 5 (A 1)) := h.2.1 1 (by decide)
theorem M_A.st1 {b hp hp' : List va_E} {m : Nat → Int32} {A : Nat → Nat → Int32} {f : Nat → Int32} (h : M_A b m A hp) (e : hp' = hp.set 86 (a_I 5 f)) : ∃ A', M_A b m A' hp' ∧ A' 1 = f ∧ ∀ j, j ≠ 1 → A' j = A j := h.st 1 (by decide) e
theorem M_A.a2 {b hp : List va_E} {m : Nat → Int32} {A : Nat → Nat → Int32} (h : M_A b m A hp) : hp[87]? = some (a_I 5 (A 2)) := h.2.1 2 (by decide)
theorem M_A.st2 {b hp hp' : List va_E} {m : Nat → Int32} {A : Nat → Nat → Int32} {f : Nat → Int32} (h : M_A b m A hp) (e : hp' = hp.set 87 (a_I 5 f)) : ∃ A', M_A b m A' hp' ∧ A' 2 = f ∧ ∀ j, j ≠ 2 → A' j = A j := h.st 2 (by decide) e
theorem M_A.a3 {b hp : List va_E} {m : Nat → Int32} {A : Nat → Nat → Int32} (h : M_A b m A hp) : hp[88]? = some (a_I 6 (A 3)) := h.2.1 3 (by decide)
theorem M_A.st3 {b hp hp' : List va_E} {m : Nat → Int32} {A : Nat → Nat → Int32} {f : Nat → Int32} (h : M_A b m A hp) (e : hp' = hp.set 88 (a_I 6 f)) : ∃ A', M_A b m A' hp' ∧ A' 3 = f ∧ ∀ j, j ≠ 3 → A' j = A j := h.st 3 (by decide) e
theorem M_A.a4 {b hp : List va_E} {m : Nat → Int32} {A : Nat → Nat → Int32} (h : M_A b m A hp) : hp[89]? = some (a_I 6 (A 4)) := h.2.1 4 (by decide)
theorem M_A.st4 {b hp hp' : List va_E} {m : Nat → Int32} {A : Nat → Nat → Int32} {f : Nat → Int32} (h : M_A b m A hp) (e : hp' = hp.set 89 (a_I 6 f)) : ∃ A', M_A b m A' hp' ∧ A' 4 = f ∧ ∀ j, j ≠ 4 → A' j = A j := h.st 4 (by decide) e
theorem M_A.a5 {b hp : List va_E} {m : Nat → Int32} {A : Nat → Nat → Int32} (h : M_A b m A hp) : hp[90]? = some (a_I 78 (A 5)) := h.2.1 5 (by decide)
theorem M_A.st5 {b hp hp' : List va_E} {m : Nat → Int32} {A : Nat → Nat → Int32} {f : Nat → Int32} (h : M_A b m A hp) (e : hp' = hp.set 90 (a_I 78 f)) : ∃ A', M_A b m A' hp' ∧ A' 5 = f ∧ ∀ j, j ≠ 5 → A' j = A j := h.st 5 (by decide) e
theorem M_A.a6 {b hp : List va_E} {m : Nat → Int32} {A : Nat → Nat → Int32} (h : M_A b m A hp) : hp[91]? = some (a_I 78 (A 6)) := h.2.1 6 (by decide)
theorem M_A.st6 {b hp hp' : List va_E} {m : Nat → Int32} {A : Nat → Nat → Int32} {f : Nat → Int32} (h : M_A b m A hp) (e : hp' = hp.set 91 (a_I 78 f)) : ∃ A', M_A b m A' hp' ∧ A' 6 = f ∧ ∀ j, j ≠ 6 → A' j = A j := h.st 6 (by decide) e
theorem M_A.a7 {b hp : List va_E} {m : Nat → Int32} {A : Nat → Nat → Int32} (h : M_A b m A hp) : hp[92]? = some (a_I 78 (A 7)) := h.2.1 7 (by decide)
theorem M_A.st7 {b hp hp' : List va_E} {m : Nat → Int32} {A : Nat → Nat → Int32} {f : Nat → Int32} (h : M_A b m A hp) (e : hp' = hp.set 92 (a_I 78 f)) : ∃ A', M_A b m A' hp' ∧ A' 7 = f ∧ ∀ j, j ≠ 7 → A' j = A j := h.st 7 (by decide) e
theorem M_A.a8 {b hp : List va_E} {m : Nat → Int32} {A : Nat → Nat → Int32} (h : M_A b m A hp) : hp[93]? = some (a_I 78 (A 8)) := h.2.1 8 (by decide)
theorem M_A.st8 {b hp hp' : List va_E} {m : Nat → Int32} {A : Nat → Nat → Int32} {f : Nat → Int32} (h : M_A b m A hp) (e : hp' = hp.set 93 (a_I 78 f)) : ∃ A', M_A b m A' hp' ∧ A' 8 = f ∧ ∀ j, j ≠ 8 → A' j = A j := h.st 8 (by decide) e
theorem M_A.a9 {b hp : List va_E} {m : Nat → Int32} {A : Nat → Nat → Int32} (h : M_A b m A hp) : hp[94]? = some (a_I 13 (A 9)) := h.2.1 9 (by decide)
theorem M_A.st9 {b hp hp' : List va_E} {m : Nat → Int32} {A : Nat → Nat → Int32} {f : Nat → Int32} (h : M_A b m A hp) (e : hp' = hp.set 94 (a_I 13 f)) : ∃ A', M_A b m A' hp' ∧ A' 9 = f ∧ ∀ j, j ≠ 9 → A' j = A j := h.st 9 (by decide) e
theorem M_A.a10 {b hp : List va_E} {m : Nat → Int32} {A : Nat → Nat → Int32} (h : M_A b m A hp) : hp[95]? = some (a_I 13 (A 10)) := h.2.1 10 (by decide)
theorem M_A.st10 {b hp hp' : List va_E} {m : Nat → Int32} {A : Nat → Nat → Int32} {f : Nat → Int32} (h : M_A b m A hp) (e : hp' = hp.set 95 (a_I 13 f)) : ∃ A', M_A b m A' hp' ∧ A' 10 = f ∧ ∀ j, j ≠ 10 → A' j = A j := h.st 10 (by decide) e
theorem M_A.a11 {b hp : List va_E} {m : Nat → Int32} {A : Nat → Nat → Int32} (h : M_A b m A hp) : hp[96]? = some (a_I 13 (A 11)) := h.2.1 11 (by decide)
theorem M_A.st11 {b hp hp' : List va_E} {m : Nat → Int32} {A : Nat → Nat → Int32} {f : Nat → Int32} (h : M_A b m A hp) (e : hp' = hp.set 96 (a_I 13 f)) : ∃ A', M_A b m A' hp' ∧ A' 11 = f ∧ ∀ j, j ≠ 11 → A' j = A j := h.st 11 (by decide) e
theorem M_A.a12 {b hp : List va_E} {m : Nat → Int32} {A : Nat → Nat → Int32} (h : M_A b m A hp) : hp[97]? = some (a_I 13 (A 12)) := h.2.1 12 (by decide)
theorem M_A.st12 {b hp hp' : List va_E} {m : Nat → Int32} {A : Nat → Nat → Int32} {f : Nat → Int32} (h : M_A b m A hp) (e : hp' = hp.set 97 (a_I 13 f)) : ∃ A', M_A b m A' hp' ∧ A' 12 = f ∧ ∀ j, j ≠ 12 → A' j = A j := h.st 12 (by decide) e
theorem M_A.a13 {b hp : List va_E} {m : Nat → Int32} {A : Nat → Nat → Int32} (h : M_A b m A hp) : hp[98]? = some (a_Z 14 (A 13)) := h.2.1 13 (by decide)
theorem M_A.st13 {b hp hp' : List va_E} {m : Nat → Int32} {A : Nat → Nat → Int32} {f : Nat → Int32} (h : M_A b m A hp) (e : hp' = hp.set 98 (a_Z 14 f)) : ∃ A', M_A b m A' hp' ∧ A' 13 = f ∧ ∀ j, j ≠ 13 → A' j = A j := h.st 13 (by decide) e
theorem M_A.a14 {b hp : List va_E} {m : Nat → Int32} {A : Nat → Nat → Int32} (h : M_A b m A hp) : hp[99]? = some (a_I 14 (A 14)) := h.2.1 14 (by decide)
theorem M_A.st14 {b hp hp' : List va_E} {m : Nat → Int32} {A : Nat → Nat → Int32} {f : Nat → Int32} (h : M_A b m A hp) (e : hp' = hp.set 99 (a_I 14 f)) : ∃ A', M_A b m A' hp' ∧ A' 14 = f ∧ ∀ j, j ≠ 14 → A' j = A j := h.st 14 (by decide) e
theorem M_A.a15 {b hp : List va_E} {m : Nat → Int32} {A : Nat → Nat → Int32} (h : M_A b m A hp) : hp[100]? = some (a_I 14 (A 15)) := h.2.1 15 (by decide)
theorem M_A.st15 {b hp hp' : List va_E} {m : Nat → Int32} {A : Nat → Nat → Int32} {f : Nat → Int32} (h : M_A b m A hp) (e : hp' = hp.set 100 (a_I 14 f)) : ∃ A', M_A b m A' hp' ∧ A' 15 = f ∧ ∀ j, j ≠ 15 → A' j = A j := h.st 15 (by decide) e
theorem M_A.a16 {b hp : List va_E} {m : Nat → Int32} {A : Nat → Nat → Int32} (h : M_A b m A hp) : hp[101]? = some (a_Z 14 (A 16)) := h.2.1 16 (by decide)
theorem M_A.st16 {b hp hp' : List va_E} {m : Nat → Int32} {A : Nat → Nat → Int32} {f : Nat → Int32} (h : M_A b m A hp) (e : hp' = hp.set 101 (a_Z 14 f)) : ∃ A', M_A b m A' hp' ∧ A' 16 = f ∧ ∀ j, j ≠ 16 → A' j = A j := h.st 16 (by decide) e
theorem M_A.a17 {b hp : List va_E} {m : Nat → Int32} {A : Nat → Nat → Int32} (h : M_A b m A hp) : hp[102]? = some (a_I 14 (A 17)) := h.2.1 17 (by decide)
theorem M_A.st17 {b hp hp' : List va_E} {m : Nat → Int32} {A : Nat → Nat → Int32} {f : Nat → Int32} (h : M_A b m A hp) (e : hp' = hp.set 102 (a_I 14 f)) : ∃ A', M_A b m A' hp' ∧ A' 17 = f ∧ ∀ j, j ≠ 17 → A' j = A j := h.st 17 (by decide) e
theorem M_A.a18 {b hp : List va_E} {m : Nat → Int32} {A : Nat → Nat → Int32} (h : M_A b m A hp) : hp[103]? = some (a_I 14 (A 18)) := h.2.1 18 (by decide)
theorem M_A.st18 {b hp hp' : List va_E} {m : Nat → Int32} {A : Nat → Nat → Int32} {f : Nat → Int32} (h : M_A b m A hp) (e : hp' = hp.set 103 (a_I 14 f)) : ∃ A', M_A b m A' hp' ∧ A' 18 = f ∧ ∀ j, j ≠ 18 → A' j = A j := h.st 18 (by decide) e
theorem M_A.a19 {b hp : List va_E} {m : Nat → Int32} {A : Nat → Nat → Int32} (h : M_A b m A hp) : hp[104]? = some (a_I 11 (A 19)) := h.2.1 19 (by decide)
theorem M_A.st19 {b hp hp' : List va_E} {m : Nat → Int32} {A : Nat → Nat → Int32} {f : Nat → Int32} (h : M_A b m A hp) (e : hp' = hp.set 104 (a_I 11 f)) : ∃ A', M_A b m A' hp' ∧ A' 19 = f ∧ ∀ j, j ≠ 19 → A' j = A j := h.st 19 (by decide) e
theorem M_A.a20 {b hp : List va_E} {m : Nat → Int32} {A : Nat → Nat → Int32} (h : M_A b m A hp) : hp[105]? = some (a_I 11 (A 20)) := h.2.1 20 (by decide)
theorem M_A.st20 {b hp hp' : List va_E} {m : Nat → Int32} {A : Nat → Nat → Int32} {f : Nat → Int32} (h : M_A b m A hp) (e : hp' = hp.set 105 (a_I 11 f)) : ∃ A', M_A b m A' hp' ∧ A' 20 = f ∧ ∀ j, j ≠ 20 → A' j = A j := h.st 20 (by decide) e
theorem M_A.a21 {b hp : List va_E} {m : Nat → Int32} {A : Nat → Nat → Int32} (h : M_A b m A hp) : hp[106]? = some (a_I 11 (A 21)) := h.2.1 21 (by decide)
theorem M_A.st21 {b hp hp' : List va_E} {m : Nat → Int32} {A : Nat → Nat → Int32} {f : Nat → Int32} (h : M_A b m A hp) (e : hp' = hp.set 106 (a_I 11 f)) : ∃ A', M_A b m A' hp' ∧ A' 21 = f ∧ ∀ j, j ≠ 21 → A' j = A j := h.st 21 (by decide) e
theorem M_A.a22 {b hp : List va_E} {m : Nat → Int32} {A : Nat → Nat → Int32} (h : M_A b m A hp) : hp[107]? = some (a_Z 30001 (A 22)) := h.2.1 22 (by decide)
theorem M_A.st22 {b hp hp' : List va_E} {m : Nat → Int32} {A : Nat → Nat → Int32} {f : Nat → Int32} (h : M_A b m A hp) (e : hp' = hp.set 107 (a_Z 30001 f)) : ∃ A', M_A b m A' hp' ∧ A' 22 = f ∧ ∀ j, j ≠ 22 → A' j = A j := h.st 22 (by decide) e
theorem M_A.a23 {b hp : List va_E} {m : Nat → Int32} {A : Nat → Nat → Int32} (h : M_A b m A hp) : hp[108]? = some (a_I 30001 (A 23)) := h.2.1 23 (by decide)
theorem M_A.st23 {b hp hp' : List va_E} {m : Nat → Int32} {A : Nat → Nat → Int32} {f : Nat → Int32} (h : M_A b m A hp) (e : hp' = hp.set 108 (a_I 30001 f)) : ∃ A', M_A b m A' hp' ∧ A' 23 = f ∧ ∀ j, j ≠ 23 → A' j = A j := h.st 23 (by decide) e
theorem M_A.a24 {b hp : List va_E} {m : Nat → Int32} {A : Nat → Nat → Int32} (h : M_A b m A hp) : hp[109]? = some (a_I 30001 (A 24)) := h.2.1 24 (by decide)
theorem M_A.st24 {b hp hp' : List va_E} {m : Nat → Int32} {A : Nat → Nat → Int32} {f : Nat → Int32} (h : M_A b m A hp) (e : hp' = hp.set 109 (a_I 30001 f)) : ∃ A', M_A b m A' hp' ∧ A' 24 = f ∧ ∀ j, j ≠ 24 → A' j = A j := h.st 24 (by decide) e
section
variable {g : q_G} {M : q_Me} {fr : Bool} {rm : Room} {P : Outcome → List va_E → Prop} {pc : Nat} {ls : List (Option Value)} {st : List Value} {hp : List va_E} {c s : Nat} {w : Bool}
theorem x_callVm {N : q_Me} {fr' : Bool} {rm' : Room} {idx n : Nat} {as stk : List Value} {v : Option Value} {b : List va_E} {φ : (Nat → Int32) → (Nat → Nat → Int32) → Prop} {a ci : Nat} {fs : List Value} {q : vw_C} (hd : decode M.2.1 pc = .ok (.invokevirtual idx, 3)) (hl : q_ML M.1.cls idx N n) (hins : Jvm.Cond.instanceMethod N.1 ∈ q_gw) (hsel : Jvm.Cond.selects q.1 N.1 N.1 ∈ q_gw) (hq : q_cl[ci]? = some q) (he : hp[a]? = some (.inr (ci, fs))) (hC : q_C g N fr' rm' (.ref a :: as) hp (q_mo v b φ)) (hn : as.length = n) (hstk : stk = as.reverse ++ .ref a :: st) (hd' : rm'.frames + 1 ≤ rm.frames) (hN : (st.map fun v => v.category).sum + (N.2.2.1 + 11) + rm'.locals ≤ rm.locals) (hmc : c + rm'.cells ≤ rm.cells) (hms : s + rm'.slots ≤ rm.slots) (k : ∀ m' A' hp', M_A b m' A' hp' → φ m' A' → q_J g M fr rm P (pc + 3) ls (v.toList ++ st) hp' (c + rm'.cells) (s + rm'.slots) (w || fr')) : q_J g M fr rm P pc ls stk hp c s w :=
  x_callVr hd hl hins hsel hq he hC hn hstk hd' hN hmc hms (fun z hz => k z.1 z.2.1 z.2.2 hz.1 hz.2)
theorem q_join {pc' : Nat} {st' : List Value} (e : Int32) (h1 : ∀ x, x = e → q_J g M fr rm P pc' ls (.int x :: st') hp c s w) (h2 : (∀ x, x = e → q_J g M fr rm P pc' ls (.int x :: st') hp c s w) → q_J g M fr rm P pc ls st hp c s w) : q_J g M fr rm P pc ls st hp c s w := h2 h1
end
variable {g : q_G}
theorem tb_3 {t j : Nat} (ht : t < 2 ^ 31) (hj : j < 32) : (nI t >>> (nI j &&& 31)) &&& 1 = nI (if t.testBit j then 1 else 0) := by
  rw [pk_shrN ht _ j (tb_s j hj), pk_andN (Nat.lt_of_le_of_lt (Nat.div_le_self _ _) (by omega)) (m := 1) 1 (by decide), Nat.testBit_eq_decide_div_mod_eq]
  congr 1
  have h := Nat.mod_lt (t / 2 ^ j) (y := 2) (by decide)
  by_cases q : t / 2 ^ j % 2 = 1
  · simp [q]
  · have : t / 2 ^ j % 2 = 0 := by omega
    simp [this]
theorem tb_31 {t j : Nat} (ht : t < 2 ^ 31) (hj : j < 32) : (nI t >>> (nI j &&& 31)) &&& 1 = 1 ↔ t.testBit j = true := by
  rw [tb_3 ht hj]
  cases t.testBit j
  · exact ⟨fun h => absurd h (by decide), fun h => by cases h⟩
  · exact ⟨fun _ => rfl, fun _ => rfl⟩
def m_K0 (m' m : Nat → Int32) : Prop := mo_K [] m m'
theorem m_b1 {n : Nat} {tb : Nat → Nat} {a : Nat} (h : a < n) (hb : ∀ j, j < n → tb j < 256) : nI (tb a) = b_v (t_b n tb a) := by
  unfold t_b b_v
  rw [if_pos h, if_neg (Nat.ne_of_lt (hb a h))]
theorem m_b2 {n : Nat} {tb : Nat → Nat} {a : Nat} (h : ¬ a < n) : (-1 : Int32) = b_v (t_b n tb a) := by
  unfold t_b b_v
  rw [if_neg h]
  rfl
set_option maxRecDepth 10000 in
set_option maxHeartbeats 2000000 in
theorem c_Mo_byteAt (hG : q_GG g) {b hp : List va_E} {m : Nat → Int32} {A : Nat → Nat → Int32} {n a : Nat} {tb : Nat → Nat} (hA : M_A b m A hp) (v2 : m 2 = nI n) (hn : n ≤ 100) (ht : ∀ j, j < n → A 0 j = nI (tb j)) (hb : ∀ j, j < n → tb j < 256) (ha : a < 2 ^ 31) : q_C g m_Mo_byteAt false (q_R 0 0 0 0) [.ref 84, .int (nI a)] hp (q_ret (some (.int (b_v (t_b n tb a)))) hp) := by
  refine q_C.of hG (by decide) (Nat.le_of_ble_eq_true rfl) ?_
  refine q_iload_n d_Mo_byteAt_0 rfl ?_
  refine q_aload_n d_Mo_byteAt_1 rfl rfl ?_
  refine q_get d_Mo_byteAt_2 f_Mo_93 hA.1 rfl ?_
  rw [v2]
  refine q_icmp_ge (tgt := 17) d_Mo_byteAt_5 (by decide) (fun b5 => ?_) (fun b5 => ?_)
  · skip
    have q : ¬ a < n := fun q => absurd b5 (nI_ge q (by omega))
    refine q_iconst (v := (-1)) d_Mo_byteAt_17 (by decide) ?_
    refine q_iret d_Mo_byteAt_18 rfl ?_ (Nat.le_of_ble_eq_true rfl) (Nat.le_of_ble_eq_true rfl) (by decide)
    refine ⟨?_, rfl⟩
    first
      | rw [ht a (by omega)]; exact congrArg (fun x => Outcome.returned (some (Value.int x))) (m_b1 q hb)
      | exact congrArg (fun x => Outcome.returned (some (Value.int x))) (m_b2 q)
  · skip
    have q : a < n := by
      by_cases q : a < n
      · exact q
      · exact absurd (nI_le (by omega) (by omega)) b5
    refine q_aload_n d_Mo_byteAt_8 rfl rfl ?_
    refine q_get d_Mo_byteAt_9 f_Mo_7 hA.1 rfl ?_
    refine q_iload_n d_Mo_byteAt_12 rfl ?_
    refine q_iald d_Mo_byteAt_13 hA.a0 rfl (vp_in_nI (by omega) (by decide)) ?_
    rw [nI_clamp (by omega)]
    refine q_goto (tgt := 18) d_Mo_byteAt_14 (by decide) ?_
    refine q_iret d_Mo_byteAt_18 rfl ?_ (Nat.le_of_ble_eq_true rfl) (Nat.le_of_ble_eq_true rfl) (by decide)
    refine ⟨?_, rfl⟩
    first
      | rw [ht a (by omega)]; exact congrArg (fun x => Outcome.returned (some (Value.int x))) (m_b1 q hb)
      | exact congrArg (fun x => Outcome.returned (some (Value.int x))) (m_b2 q)
set_option maxRecDepth 10000 in
set_option maxHeartbeats 2000000 in
theorem c_Mo_fail (hG : q_GG g) {b hp : List va_E} {m : Nat → Int32} {A : Nat → Nat → Int32} {x y : Int32} (hA : M_A b m A hp) (v3 : m 3 = 0) : q_C g m_Mo_fail true (q_R 0 0 0 0) [.ref 84, .int x, .int y] hp (q_mo none b (fun m' A' => m' 3 = x ∧ m' 4 = y ∧ mo_K [3, 4] m m' ∧ mo_K [] A A')) := by
  refine q_C.of hG (by decide) (Nat.le_of_ble_eq_true rfl) ?_
  have km : mo_K [3, 4] m m := mo_K.rfl
  refine q_aload_n d_Mo_fail_0 rfl rfl ?_
  refine q_get d_Mo_fail_1 f_Mo_114 hA.1 rfl ?_
  rw [v3]
  refine q_if_ne (tgt := 17) d_Mo_fail_4 (by decide) (fun b4 => ?_) (fun b4 => ?_)
  · skip
    exact absurd rfl b4
  · skip
    refine q_aload_n d_Mo_fail_7 rfl rfl ?_
    refine q_iload_n d_Mo_fail_8 rfl ?_
    refine x_put d_Mo_fail_9 f_Mo_114 hA.1 (Nat.le_of_ble_eq_true rfl) rfl rfl (fun hp1 e1 _ => ?_)
    obtain ⟨m, hA, v3, nn⟩ := hA.put (k := 3) (by decide) e1
    have km := km.put nn (by decide)
    refine q_aload_n d_Mo_fail_12 rfl rfl ?_
    refine q_iload_n d_Mo_fail_13 rfl ?_
    refine x_put d_Mo_fail_14 f_Mo_13 hA.1 (Nat.le_of_ble_eq_true rfl) rfl rfl (fun hp2 e2 _ => ?_)
    obtain ⟨m, hA, v4, nn⟩ := hA.put (k := 4) (by decide) e2
    have v3 := (nn 3 (by decide)).trans v3
    have km := km.put nn (by decide)
    refine q_vret d_Mo_fail_17 rfl ?_ (Nat.le_of_ble_eq_true rfl) (Nat.le_of_ble_eq_true rfl) (by decide)
    exact ⟨(m, A, _), rfl, rfl, hA, v3, v4, km, fun _ _ => rfl⟩
set_option maxRecDepth 10000 in
set_option maxHeartbeats 2000000 in
theorem c_Mo_beginRow (hG : q_GG g) {b hp : List va_E} {m : Nat → Int32} {A : Nat → Nat → Int32} {d : Nat} (hA : M_A b m A hp) (v21 : m 21 = nI d) (hd : d < 14) : q_C g m_Mo_beginRow true (q_R 0 0 0 0) [.ref 84] hp (q_mo none b (fun m' A' => A' 16 = upd (A 16) d 1 ∧ A' 17 = upd (A 17) d 0 ∧ A' 18 = upd (A 18) d 0 ∧ mo_K [] m m' ∧ mo_K [16, 17, 18] A A')) := by
  refine q_C.of hG (by decide) (Nat.le_of_ble_eq_true rfl) ?_
  have hin : vp_in (nI d) 14 := vp_in_nI hd (by decide)
  have hcl : (nI d).toNatClampNeg = d := nI_clamp (by omega)
  have km : mo_K [] m m := mo_K.rfl
  have kA : mo_K [16, 17, 18] A A := mo_K.rfl
  have a16 : A 16 = A 16 := rfl
  have a17 : A 17 = A 17 := rfl
  have a18 : A 18 = A 18 := rfl
  refine q_aload_n d_Mo_beginRow_0 rfl rfl ?_
  refine q_get d_Mo_beginRow_1 f_Mo_63 hA.1 rfl ?_
  refine q_aload_n d_Mo_beginRow_4 rfl rfl ?_
  refine q_get d_Mo_beginRow_5 f_Mo_117 hA.1 rfl ?_
  rw [v21]
  refine q_iconst (v := 1) d_Mo_beginRow_8 (by decide) ?_
  refine x_zast d_Mo_beginRow_9 hA.a16 rfl (by assumption) (fun hp1 e1 _ => ?_)
  obtain ⟨A, hA, u16, nn⟩ := hA.st16 e1
  rw [a16] at u16
  rw [hcl] at u16
  have a16 := u16
  have a17 := (nn 17 (by decide)).trans a17
  have a18 := (nn 18 (by decide)).trans a18
  have kA := kA.put nn (by decide)
  refine q_aload_n d_Mo_beginRow_10 rfl rfl ?_
  refine q_get d_Mo_beginRow_11 f_Mo_66 hA.1 rfl ?_
  refine q_aload_n d_Mo_beginRow_14 rfl rfl ?_
  refine q_get d_Mo_beginRow_15 f_Mo_117 hA.1 rfl ?_
  rw [v21]
  refine q_iconst (v := 0) d_Mo_beginRow_18 (by decide) ?_
  refine x_iast d_Mo_beginRow_19 hA.a17 rfl (by assumption) (fun hp2 e2 _ => ?_)
  obtain ⟨A, hA, u17, nn⟩ := hA.st17 e2
  rw [a17] at u17
  rw [hcl] at u17
  have a17 := u17
  have a16 := (nn 16 (by decide)).trans a16
  have a18 := (nn 18 (by decide)).trans a18
  have kA := kA.put nn (by decide)
  refine q_aload_n d_Mo_beginRow_20 rfl rfl ?_
  refine q_get d_Mo_beginRow_21 f_Mo_69 hA.1 rfl ?_
  refine q_aload_n d_Mo_beginRow_24 rfl rfl ?_
  refine q_get d_Mo_beginRow_25 f_Mo_117 hA.1 rfl ?_
  rw [v21]
  refine q_iconst (v := 0) d_Mo_beginRow_28 (by decide) ?_
  refine x_iast d_Mo_beginRow_29 hA.a18 rfl (by assumption) (fun hp3 e3 _ => ?_)
  obtain ⟨A, hA, u18, nn⟩ := hA.st18 e3
  rw [a18] at u18
  rw [hcl] at u18
  have a18 := u18
  have a16 := (nn 16 (by decide)).trans a16
  have a17 := (nn 17 (by decide)).trans a17
  have kA := kA.put nn (by decide)
  refine q_vret d_Mo_beginRow_30 rfl ?_ (Nat.le_of_ble_eq_true rfl) (Nat.le_of_ble_eq_true rfl) (by decide)
  exact ⟨(m, A, _), rfl, rfl, hA, a16, a17, a18, km, kA⟩
set_option maxRecDepth 10000 in
set_option maxHeartbeats 2000000 in
theorem c_Mo_beginChoices (hG : q_GG g) {b hp : List va_E} {m : Nat → Int32} {A : Nat → Nat → Int32} {d : Nat} (hA : M_A b m A hp) (v21 : m 21 = nI d) (hd : d < 14) : q_C g m_Mo_beginChoices true (q_R 1 20 0 0) [.ref 84] hp (q_mo none b (fun m' A' => A' 13 = upd (A 13) d 0 ∧ A' 14 = upd (A 14) d 0 ∧ A' 15 = upd (A 15) d 0 ∧ A' 16 = upd (A 16) d 1 ∧ A' 17 = upd (A 17) d 0 ∧ A' 18 = upd (A 18) d 0 ∧ mo_K [] m m' ∧ mo_K [13, 14, 15, 16, 17, 18] A A')) := by
  refine q_C.of hG (by decide) (Nat.le_of_ble_eq_true rfl) ?_
  have hin : vp_in (nI d) 14 := vp_in_nI hd (by decide)
  have hcl : (nI d).toNatClampNeg = d := nI_clamp (by omega)
  have km : mo_K [] m m := mo_K.rfl
  have kA : mo_K [13, 14, 15, 16, 17, 18] A A := mo_K.rfl
  have a13 : A 13 = A 13 := rfl
  have a14 : A 14 = A 14 := rfl
  have a15 : A 15 = A 15 := rfl
  have a16 : A 16 = A 16 := rfl
  have a17 : A 17 = A 17 := rfl
  have a18 : A 18 = A 18 := rfl
  refine q_aload_n d_Mo_beginChoices_0 rfl rfl ?_
  refine q_get d_Mo_beginChoices_1 f_Mo_53 hA.1 rfl ?_
  refine q_aload_n d_Mo_beginChoices_4 rfl rfl ?_
  refine q_get d_Mo_beginChoices_5 f_Mo_117 hA.1 rfl ?_
  rw [v21]
  refine q_iconst (v := 0) d_Mo_beginChoices_8 (by decide) ?_
  refine x_zast d_Mo_beginChoices_9 hA.a13 rfl (by assumption) (fun hp1 e1 _ => ?_)
  obtain ⟨A, hA, u13, nn⟩ := hA.st13 e1
  rw [a13] at u13
  rw [hcl] at u13
  have a13 := u13
  have a14 := (nn 14 (by decide)).trans a14
  have a15 := (nn 15 (by decide)).trans a15
  have a16 := (nn 16 (by decide)).trans a16
  have a17 := (nn 17 (by decide)).trans a17
  have a18 := (nn 18 (by decide)).trans a18
  have kA := kA.put nn (by decide)
  refine q_aload_n d_Mo_beginChoices_10 rfl rfl ?_
  refine q_get d_Mo_beginChoices_11 f_Mo_57 hA.1 rfl ?_
  refine q_aload_n d_Mo_beginChoices_14 rfl rfl ?_
  refine q_get d_Mo_beginChoices_15 f_Mo_117 hA.1 rfl ?_
  rw [v21]
  refine q_iconst (v := 0) d_Mo_beginChoices_18 (by decide) ?_
  refine x_iast d_Mo_beginChoices_19 hA.a14 rfl (by assumption) (fun hp2 e2 _ => ?_)
  obtain ⟨A, hA, u14, nn⟩ := hA.st14 e2
  rw [a14] at u14
  rw [hcl] at u14
  have a14 := u14
  have a13 := (nn 13 (by decide)).trans a13
  have a15 := (nn 15 (by decide)).trans a15
  have a16 := (nn 16 (by decide)).trans a16
  have a17 := (nn 17 (by decide)).trans a17
  have a18 := (nn 18 (by decide)).trans a18
  have kA := kA.put nn (by decide)
  refine q_aload_n d_Mo_beginChoices_20 rfl rfl ?_
  refine q_get d_Mo_beginChoices_21 f_Mo_60 hA.1 rfl ?_
  refine q_aload_n d_Mo_beginChoices_24 rfl rfl ?_
  refine q_get d_Mo_beginChoices_25 f_Mo_117 hA.1 rfl ?_
  rw [v21]
  refine q_iconst (v := 0) d_Mo_beginChoices_28 (by decide) ?_
  refine x_iast d_Mo_beginChoices_29 hA.a15 rfl (by assumption) (fun hp3 e3 _ => ?_)
  obtain ⟨A, hA, u15, nn⟩ := hA.st15 e3
  rw [a15] at u15
  rw [hcl] at u15
  have a15 := u15
  have a13 := (nn 13 (by decide)).trans a13
  have a14 := (nn 14 (by decide)).trans a14
  have a16 := (nn 16 (by decide)).trans a16
  have a17 := (nn 17 (by decide)).trans a17
  have a18 := (nn 18 (by decide)).trans a18
  have kA := kA.put nn (by decide)
  refine q_aload_n d_Mo_beginChoices_30 rfl rfl ?_
  refine x_callVm d_Mo_beginChoices_31 l_Mo_120 i_Mo_beginRow v_Mo_beginRow rfl hA.1 (c_Mo_beginRow hG hA v21 hd) rfl rfl (Nat.le_of_ble_eq_true rfl) (Nat.le_of_ble_eq_true rfl) (Nat.le_of_ble_eq_true rfl) (Nat.le_of_ble_eq_true rfl) (fun m A hp4 hA hz => ?_)
  obtain ⟨w16, w17, w18, nm, nA⟩ := hz
  have v21 := (nm 21 (by decide)).trans v21
  have a13 := (nA 13 (by decide)).trans a13
  have a14 := (nA 14 (by decide)).trans a14
  have a15 := (nA 15 (by decide)).trans a15
  have km := km.sub nm (by decide)
  have kA := kA.sub nA (by decide)
  refine q_vret d_Mo_beginChoices_34 rfl ?_ (Nat.le_of_ble_eq_true rfl) (Nat.le_of_ble_eq_true rfl) (by decide)
  exact ⟨(m, A, _), rfl, rfl, hA, a13, a14, a15, w16.trans (by rw [a16]), w17.trans (by rw [a17]), w18.trans (by rw [a18]), km, kA⟩
set_option maxRecDepth 10000 in
set_option maxHeartbeats 2000000 in
theorem c_Mo_endRow (hG : q_GG g) {b hp : List va_E} {m : Nat → Int32} {A : Nat → Nat → Int32} {d : Nat} (hA : M_A b m A hp) (v21 : m 21 = nI d) (hd : d < 14) : q_C g m_Mo_endRow true (q_R 0 0 0 0) [.ref 84] hp (q_mo none b (fun m' A' => A' 13 = upd (A 13) d (if A 13 d = 0 then (if A 16 d = 0 then 0 else 1) else 1) ∧ A' 14 = upd (A 14) d (A 14 d ||| A 17 d) ∧ A' 15 = upd (A 15) d (A 15 d ||| A 18 d) ∧ mo_K [] m m' ∧ mo_K [13, 14, 15] A A')) := by
  refine q_C.of hG (by decide) (Nat.le_of_ble_eq_true rfl) ?_
  have hin : vp_in (nI d) 14 := vp_in_nI hd (by decide)
  have hcl : (nI d).toNatClampNeg = d := nI_clamp (by omega)
  have km : mo_K [] m m := mo_K.rfl
  have kA : mo_K [13, 14, 15] A A := mo_K.rfl
  have a13 : A 13 = A 13 := rfl
  have a14 : A 14 = A 14 := rfl
  have a15 : A 15 = A 15 := rfl
  have a16 : A 16 = A 16 := rfl
  have a17 : A 17 = A 17 := rfl
  have a18 : A 18 = A 18 := rfl
  refine q_aload_n d_Mo_endRow_0 rfl rfl ?_
  refine q_get d_Mo_endRow_1 f_Mo_53 hA.1 rfl ?_
  refine q_aload_n d_Mo_endRow_4 rfl rfl ?_
  refine q_get d_Mo_endRow_5 f_Mo_117 hA.1 rfl ?_
  rw [v21]
  refine q_join (pc' := 37) (st' := [.int (nI d), .ref 98]) ((if A 13 d = 0 then (if A 16 d = 0 then 0 else 1) else 1)) (fun x37 hx37 => ?_) (fun J37 => ?_)
  · subst hx37
    refine x_zast d_Mo_endRow_37 hA.a13 rfl (by assumption) (fun hp1 e1 _ => ?_)
    obtain ⟨A, hA, u13, nn⟩ := hA.st13 e1
    rw [a13] at u13
    rw [hcl] at u13
    have a13 := u13
    have a14 := (nn 14 (by decide)).trans a14
    have a15 := (nn 15 (by decide)).trans a15
    have a16 := (nn 16 (by decide)).trans a16
    have a17 := (nn 17 (by decide)).trans a17
    have a18 := (nn 18 (by decide)).trans a18
    have kA := kA.put nn (by decide)
    refine q_aload_n d_Mo_endRow_38 rfl rfl ?_
    refine q_get d_Mo_endRow_39 f_Mo_57 hA.1 rfl ?_
    refine q_aload_n d_Mo_endRow_42 rfl rfl ?_
    refine q_get d_Mo_endRow_43 f_Mo_117 hA.1 rfl ?_
    rw [v21]
    refine q_aload_n d_Mo_endRow_46 rfl rfl ?_
    refine q_get d_Mo_endRow_47 f_Mo_57 hA.1 rfl ?_
    refine q_aload_n d_Mo_endRow_50 rfl rfl ?_
    refine q_get d_Mo_endRow_51 f_Mo_117 hA.1 rfl ?_
    rw [v21]
    refine q_iald d_Mo_endRow_54 hA.a14 rfl (by assumption) ?_
    rw [a14]
    rw [hcl]
    refine q_aload_n d_Mo_endRow_55 rfl rfl ?_
    refine q_get d_Mo_endRow_56 f_Mo_66 hA.1 rfl ?_
    refine q_aload_n d_Mo_endRow_59 rfl rfl ?_
    refine q_get d_Mo_endRow_60 f_Mo_117 hA.1 rfl ?_
    rw [v21]
    refine q_iald d_Mo_endRow_63 hA.a17 rfl (by assumption) ?_
    rw [a17]
    rw [hcl]
    refine q_ior d_Mo_endRow_64 ?_
    refine x_iast d_Mo_endRow_65 hA.a14 rfl (by assumption) (fun hp2 e2 _ => ?_)
    obtain ⟨A, hA, u14, nn⟩ := hA.st14 e2
    rw [a14] at u14
    rw [hcl] at u14
    have a14 := u14
    have a13 := (nn 13 (by decide)).trans a13
    have a15 := (nn 15 (by decide)).trans a15
    have a16 := (nn 16 (by decide)).trans a16
    have a17 := (nn 17 (by decide)).trans a17
    have a18 := (nn 18 (by decide)).trans a18
    have kA := kA.put nn (by decide)
    refine q_aload_n d_Mo_endRow_66 rfl rfl ?_
    refine q_get d_Mo_endRow_67 f_Mo_60 hA.1 rfl ?_
    refine q_aload_n d_Mo_endRow_70 rfl rfl ?_
    refine q_get d_Mo_endRow_71 f_Mo_117 hA.1 rfl ?_
    rw [v21]
    refine q_aload_n d_Mo_endRow_74 rfl rfl ?_
    refine q_get d_Mo_endRow_75 f_Mo_60 hA.1 rfl ?_
    refine q_aload_n d_Mo_endRow_78 rfl rfl ?_
    refine q_get d_Mo_endRow_79 f_Mo_117 hA.1 rfl ?_
    rw [v21]
    refine q_iald d_Mo_endRow_82 hA.a15 rfl (by assumption) ?_
    rw [a15]
    rw [hcl]
    refine q_aload_n d_Mo_endRow_83 rfl rfl ?_
    refine q_get d_Mo_endRow_84 f_Mo_69 hA.1 rfl ?_
    refine q_aload_n d_Mo_endRow_87 rfl rfl ?_
    refine q_get d_Mo_endRow_88 f_Mo_117 hA.1 rfl ?_
    rw [v21]
    refine q_iald d_Mo_endRow_91 hA.a18 rfl (by assumption) ?_
    rw [a18]
    rw [hcl]
    refine q_ior d_Mo_endRow_92 ?_
    refine x_iast d_Mo_endRow_93 hA.a15 rfl (by assumption) (fun hp3 e3 _ => ?_)
    obtain ⟨A, hA, u15, nn⟩ := hA.st15 e3
    rw [a15] at u15
    rw [hcl] at u15
    have a15 := u15
    have a13 := (nn 13 (by decide)).trans a13
    have a14 := (nn 14 (by decide)).trans a14
    have a16 := (nn 16 (by decide)).trans a16
    have a17 := (nn 17 (by decide)).trans a17
    have a18 := (nn 18 (by decide)).trans a18
    have kA := kA.put nn (by decide)
    refine q_vret d_Mo_endRow_94 rfl ?_ (Nat.le_of_ble_eq_true rfl) (Nat.le_of_ble_eq_true rfl) (by decide)
    refine ⟨(m, A, _), rfl, rfl, hA, a13.trans ?_, a14, a15, km, kA⟩
    exact congrArg (upd _ d) (by split <;> (try split) <;> rfl)
  · skip
    refine q_aload_n d_Mo_endRow_8 rfl rfl ?_
    refine q_get d_Mo_endRow_9 f_Mo_53 hA.1 rfl ?_
    refine q_aload_n d_Mo_endRow_12 rfl rfl ?_
    refine q_get d_Mo_endRow_13 f_Mo_117 hA.1 rfl ?_
    rw [v21]
    refine q_zald d_Mo_endRow_16 hA.a13 rfl (by assumption) ?_
    rw [a13]
    rw [hcl]
    refine q_if_ne (tgt := 32) d_Mo_endRow_17 (by decide) (fun b17 => ?_) (fun b17 => ?_)
    · skip
      refine q_iconst (v := 1) d_Mo_endRow_32 (by decide) ?_
      refine q_goto (tgt := 37) d_Mo_endRow_33 (by decide) ?_
      exact J37 _ (by simp [*])
    · skip
      refine q_aload_n d_Mo_endRow_20 rfl rfl ?_
      refine q_get d_Mo_endRow_21 f_Mo_63 hA.1 rfl ?_
      refine q_aload_n d_Mo_endRow_24 rfl rfl ?_
      refine q_get d_Mo_endRow_25 f_Mo_117 hA.1 rfl ?_
      rw [v21]
      refine q_zald d_Mo_endRow_28 hA.a16 rfl (by assumption) ?_
      rw [a16]
      rw [hcl]
      refine q_if_eq (tgt := 36) d_Mo_endRow_29 (by decide) (fun b29 => ?_) (fun b29 => ?_)
      · skip
        refine q_iconst (v := 0) d_Mo_endRow_36 (by decide) ?_
        exact J37 _ (by simp [*])
      · skip
        refine q_iconst (v := 1) d_Mo_endRow_32 (by decide) ?_
        refine q_goto (tgt := 37) d_Mo_endRow_33 (by decide) ?_
        exact J37 _ (by simp [*])
def la (fm to i : Nat) (s : Nat → Int32) : Nat → Int32 := fun j => if j < i ∧ fm.testBit j = true then s j ||| nI to else s j
theorem la_s {fm to i : Nat} {s : Nat → Int32} : upd (la fm to i s) i (if fm.testBit i = true then la fm to i s i ||| nI to else la fm to i s i) = la fm to (i + 1) s := by
  funext j
  unfold upd la
  by_cases h : j = i
  · subst h
    simp
  · have : j < i + 1 ↔ j < i := by omega
    simp [h, this]
theorem la_0 {fm to : Nat} {s : Nat → Int32} : la fm to 0 s = s := by
  funext j
  simp [la]
set_option maxRecDepth 10000 in
set_option maxHeartbeats 2000000 in
theorem l_Mo_lead {b : List va_E} {m : Nat → Int32} {A0 : Nat → Nat → Int32} {fm to : Nat} (h1 : fm < 8192) : ∀ (k i : Nat), i + k = 13 → ∀ (A : Nat → Nat → Int32) (hp : List va_E), M_A b m A hp → A 9 = la fm to i (A0 9) → mo_K [9] A0 A → q_J g m_Mo_lead true (q_R 0 0 0 0) (q_mo none b (fun m' A' => A' 9 = la fm to 13 (A0 9) ∧ mo_K [] m m' ∧ mo_K [9] A0 A')) 2 [some (.ref 84), some (.int (nI fm)), some (.int (nI to)), some (.int (nI i))] [] hp 0 0 true := by
  intro k
  induction k with
  | zero =>
    intro i hi A hp hA a9 kA
    obtain rfl : i = 13 := by omega
    refine q_iload_n d_Mo_lead_2 rfl ?_
    refine q_bipush (v := 13) d_Mo_lead_3 (by decide) ?_
    refine q_icmp_ge (tgt := 46) d_Mo_lead_5 (by decide) (fun b5 => ?_) (fun b5 => ?_)
    · skip
      refine q_vret d_Mo_lead_46 rfl ?_ (Nat.le_of_ble_eq_true rfl) (Nat.le_of_ble_eq_true rfl) (by decide)
      exact ⟨(m, A, _), rfl, rfl, hA, a9, fun _ _ => rfl, kA⟩
    · skip
      exact absurd (show (13 : Int32) ≤ nI 13 by decide) b5
  | succ k ih =>
    intro i hi A hp hA a9 kA
    have hin : vp_in (nI i) 13 := vp_in_nI (by omega) (by decide)
    have hcl : (nI i).toNatClampNeg = i := nI_clamp (by omega)
    refine q_iload_n d_Mo_lead_2 rfl ?_
    refine q_bipush (v := 13) d_Mo_lead_3 (by decide) ?_
    refine q_icmp_ge (tgt := 46) d_Mo_lead_5 (by decide) (fun b5 => ?_) (fun b5 => ?_)
    · skip
      exact absurd b5 (nI_ge (show i < 13 by omega) (by decide))
    · skip
      refine q_aload_n d_Mo_lead_8 rfl rfl ?_
      refine q_get d_Mo_lead_9 f_Mo_41 hA.1 rfl ?_
      refine q_iload_n d_Mo_lead_12 rfl ?_
      refine q_join (pc' := 39) (st' := [.int (nI i), .ref 94]) (if fm.testBit i = true then la fm to i (A0 9) i ||| nI to else la fm to i (A0 9) i) (fun x39 hx39 => ?_) (fun J39 => ?_)
      · subst hx39
        refine x_iast d_Mo_lead_39 hA.a9 rfl (by assumption) (fun hp1 e1 _ => ?_)
        obtain ⟨A, hA, u9, nn⟩ := hA.st9 e1
        rw [a9] at u9
        rw [hcl, la_s] at u9
        have a9 := u9
        have kA := kA.put nn (by decide)
        refine q_iinc d_Mo_lead_40 rfl (show _ + Int32.ofInt 1 = _ + 1 from rfl) (by decide) rfl ?_
        refine q_goto (tgt := 2) d_Mo_lead_43 (by decide) ?_
        rw [nI_1]
        exact ih (i + 1) (by omega) A _ hA a9 kA
      · skip
        refine q_iload_n d_Mo_lead_13 rfl ?_
        refine q_iload_n d_Mo_lead_14 rfl ?_
        refine q_ishr d_Mo_lead_15 ?_
        refine q_iconst (v := 1) d_Mo_lead_16 (by decide) ?_
        refine q_iand d_Mo_lead_17 ?_
        refine q_iconst (v := 1) d_Mo_lead_18 (by decide) ?_
        refine q_icmp_ne (tgt := 33) d_Mo_lead_19 (by decide) (fun b19 => ?_) (fun b19 => ?_)
        · skip
          have q : ¬ fm.testBit i = true := fun q => b19 ((tb_31 (by omega) (by omega)).mpr q)
          refine q_aload_n d_Mo_lead_33 rfl rfl ?_
          refine q_get d_Mo_lead_34 f_Mo_41 hA.1 rfl ?_
          refine q_iload_n d_Mo_lead_37 rfl ?_
          refine q_iald d_Mo_lead_38 hA.a9 rfl (by assumption) ?_
          rw [a9]
          try rw [hcl]
          exact J39 _ (by simp [q])
        · skip
          have q : fm.testBit i = true := (tb_31 (by omega) (by omega)).mp b19
          refine q_aload_n d_Mo_lead_22 rfl rfl ?_
          refine q_get d_Mo_lead_23 f_Mo_41 hA.1 rfl ?_
          refine q_iload_n d_Mo_lead_26 rfl ?_
          refine q_iald d_Mo_lead_27 hA.a9 rfl (by assumption) ?_
          rw [a9]
          rw [hcl]
          refine q_iload_n d_Mo_lead_28 rfl ?_
          refine q_ior d_Mo_lead_29 ?_
          refine q_goto (tgt := 39) d_Mo_lead_30 (by decide) ?_
          try rw [hcl]
          exact J39 _ (by simp [q])
set_option maxRecDepth 10000 in
set_option maxHeartbeats 2000000 in
theorem c_Mo_lead (hG : q_GG g) {b hp : List va_E} {m : Nat → Int32} {A : Nat → Nat → Int32} {fm to : Nat} (hA : M_A b m A hp) (h1 : fm < 8192) : q_C g m_Mo_lead true (q_R 0 0 0 0) [.ref 84, .int (nI fm), .int (nI to)] hp (q_mo none b (fun m' A' => A' 9 = la fm to 13 (A 9) ∧ mo_K [] m m' ∧ mo_K [9] A A')) := by
  refine q_C.of hG (by decide) (Nat.le_of_ble_eq_true rfl) ?_
  refine q_iconst (v := 0) d_Mo_lead_0 (by decide) ?_
  refine q_istore_n d_Mo_lead_1 rfl (by decide) rfl ?_
  refine q_wrote ?_
  exact l_Mo_lead h1 13 0 (by omega) A hp hA la_0.symm mo_K.rfl
end M1
