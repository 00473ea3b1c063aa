/-! The engine, 1: a walk of a method over a list of cells. Abstract addresses are places in the list; place k lies at address (heap size at the law's entry) + k. -/
section ENG1
/-- launch, the law's entry state and arguments, the script (address, length, values), class numbers and slots, array classes -/
abbrev q_G : Type := Launch × State × Array Value × (Nat × Nat × (Nat → Int32)) × va_G × (Nat → ClassId)
abbrev q_l (g : q_G) : Launch := g.1
abbrev q_s (g : q_G) : State := g.2.1
abbrev q_a (g : q_G) : Array Value := g.2.2.1
abbrev q_b (g : q_G) : Nat := g.2.1.heap.size
abbrev q_x (g : q_G) : Nat × Nat × (Nat → Int32) := g.2.2.2.1
abbrev q_D (g : q_G) : va_G := g.2.2.2.2.1
abbrev q_t (g : q_G) : Nat → ClassId := g.2.2.2.2.2
/-- a method: name, bytes, locals, result, handlers -/
abbrev q_Me : Type := MethodName × ByteArray × Nat × Option FieldType × List (Nat × Nat × Nat × Nat)
def q_w (M : q_Me) : Jvm.Cond := match M.2.2.2.2 with
  | [] => .code M.1 M.2.1 M.2.2.1 M.2.2.2.1
  | hs => .codeWith M.1 M.2.1 M.2.2.1 M.2.2.2.1 hs
def q_ev (g : q_G) : Value → Value
  | .int x => .int x
  | .long x => .long x
  | .float x => .float x
  | .double x => .double x
  | .null => .null
  | .ref a => .ref (q_b g + a)
  | .retAddr _ => .ref (q_x g).1
theorem q_ev_cat (g : q_G) (v : Value) : (q_ev g v).category = v.category := by cases v <;> rfl
def q_eo (g : q_G) : Outcome → Outcome
  | .returned v => .returned (v.map (q_ev g))
  | .threw a => .threw (q_b g + a)
def q_ex (g : q_G) : va_E → va_E
  | .inl (t, n, .inl f) => .inl (q_t g t, n, .inl f)
  | .inl (t, n, .inr (.inl f)) => .inl (q_t g t, n, .inr (.inl f))
  | .inl (t, n, .inr (.inr (.inl f))) => .inl (q_t g t, n, .inr (.inr (.inl f)))
  | .inl (t, n, .inr (.inr (.inr (.inl f)))) => .inl (q_t g t, n, .inr (.inr (.inr (.inl f))))
  | .inl (t, n, .inr (.inr (.inr (.inr f)))) => .inl (q_t g t, n, .inr (.inr (.inr (.inr (fun j => (f j).map (fun a => q_b g + a))))))
  | .inr (c, fs) => .inr (c, fs.map (q_ev g))
/-- the heap holds the list -/
def q_H (g : q_G) (hp : List va_E) (H : Heap) : Prop := H.size = q_b g + hp.length ∧ (∀ q : Nat, q < q_b g → H[q]? = (q_s g).heap[q]?) ∧ ∀ (k : Nat) (e : va_E), hp[k]? = some e → va_at (q_D g) q_cl (q_b g + k, q_ex g e) H
theorem q_H.set {g : q_G} {hp : List va_E} {H H1 : Heap} {k : Nat} {e0 e : va_E} (h : q_H g hp H) (hk : hp[k]? = some e0) (z : H1.size = H.size) (o : ∀ q : Nat, q ≠ q_b g + k → H1[q]? = H[q]?) (he : va_at (q_D g) q_cl (q_b g + k, q_ex g e) H1) : q_H g (hp.set k e) H1 := by
  have hl := (List.getElem?_eq_some_iff.mp hk).1
  refine ⟨by rw [z, h.1, List.length_set], fun q hq => by rw [o q (by omega)]; exact h.2.1 q hq, fun j x hj => ?_⟩
  by_cases hjk : j = k
  · subst hjk
    rw [List.getElem?_set_self hl] at hj
    cases hj
    exact he
  · rw [List.getElem?_set_ne (Ne.symm hjk)] at hj
    exact (h.2.2 j x hj).kept (o (q_b g + j) (by omega))
theorem q_H.push {g : q_G} {hp : List va_E} {H H1 : Heap} {e : va_E} (h : q_H g hp H) (z : H1.size = H.size + 1) (o : ∀ q : Nat, q < H.size → H1[q]? = H[q]?) (he : va_at (q_D g) q_cl (H.size, q_ex g e) H1) : q_H g (hp ++ [e]) H1 := by
  have hz := h.1
  refine ⟨by rw [z, hz, List.length_append]; rfl, fun q hq => by rw [o q (by omega)]; exact h.2.1 q hq, fun j x hj => ?_⟩
  by_cases hl : j < hp.length
  · rw [List.getElem?_append_left hl] at hj
    exact (h.2.2 j x hj).kept (o (q_b g + j) (by omega))
  · rw [List.getElem?_append_right (by omega)] at hj
    have h1 : j - hp.length < 1 := (List.getElem?_eq_some_iff.mp hj).1
    have h0 : j = hp.length := by omega
    subst h0
    rw [Nat.sub_self] at hj
    cases hj
    rw [← hz]
    exact he
/-- what holds at the law's entry, once for all -/
def q_GG (g : q_G) : Prop := (∀ w ∈ q_gw, w.before (q_a g) (q_s g) = true) ∧ (∀ (c : Nat) (q : vw_C), q_cl[c]? = some q → u_Kn (q_s g) q.1 q.2.1 q.2.2 ((q_D g).1 c) ((q_D g).2 c)) ∧
  (∀ (t : Nat) (ty : FieldType), q_ty[t]? = some ty → ArrOfT (q_s g) (q_t g t) ty ∧ va_RA (q_s g) (q_t g t) ty) ∧ va_X (q_x g).1 (q_x g).2.1 (q_x g).2.2 (q_s g) (q_s g).heap ∧ (q_l g).stackTraces = false
theorem q_word {g : q_G} (hG : q_GG g) {u : State} (hu : (q_s g).WarmedH u.vm) {args : Array Value} {w : Jvm.Cond} (hw : w ∈ q_gw) (hk : goodWord w = true) : w.before args u = true := word_at hu (good_of_word hk) (hG.1 w hw)
theorem q_K0 {g : q_G} (hG : q_GG g) {u : State} (hu : (q_s g).WarmedH u.vm) : va_K (q_D g) q_cl [] u := ⟨fun c q hq => u_Kn_moved hu.alike (hG.2.1 c q hq), fun k q hk => by simp at hk⟩
theorem q_K1 {g : q_G} (hG : q_GG g) {u : State} (hu : (q_s g).WarmedH u.vm) {t : Nat} {ty : FieldType} (ht : q_ty[t]? = some ty) : va_K (q_D g) q_cl [(q_t g t, ty)] u := by
  refine ⟨fun c q hq => u_Kn_moved hu.alike (hG.2.1 c q hq), fun k q hk => ?_⟩
  have hz : k < 1 := (List.getElem?_eq_some_iff.mp hk).1
  rw [show k = 0 by omega] at hk
  cases hk
  exact ⟨arrOfT_moved hu.alike (hG.2.2.1 t ty ht).1, (hG.2.2.1 t ty ht).2.moved hu.alike⟩
theorem q_P1 {g : q_G} {hp : List va_E} {H : Heap} (h : q_H g hp H) {k : Nat} {e : va_E} (hk : hp[k]? = some e) : va_P (q_D g) q_cl [(q_b g + k, q_ex g e)] H := by
  intro j q hj
  have hz : j < 1 := (List.getElem?_eq_some_iff.mp hj).1
  rw [show j = 0 by omega] at hj
  cases hj
  exact h.2.2 k e hk
/-- locals -/
def q_L (g : q_G) (nL : Nat) (la : Array Slot) (ls : List (Option Value)) : Prop := la.size = nL ∧ lv_wf la ∧ ∀ (i : Nat) (v : Value), ls[i]? = some (some v) → la[i]? = some (.val (q_ev g v))
def q_pr (g : q_G) (ls : List (Option Value)) : List (Nat × Value) := (List.range ls.length).filterMap (fun i => match ls[i]? with
  | some (some v) => some (i, q_ev g v)
  | _ => none)
theorem q_pr_in {g : q_G} {ls : List (Option Value)} {i : Nat} {v : Value} (h : ls[i]? = some (some v)) : (i, q_ev g v) ∈ q_pr g ls := by
  refine List.mem_filterMap.mpr ⟨i, List.mem_range.mpr (List.getElem?_eq_some_iff.mp h).1, ?_⟩
  simp [h]
theorem q_pr_of {g : q_G} {ls : List (Option Value)} {q : Nat × Value} (h : q ∈ q_pr g ls) : ∃ v, ls[q.1]? = some (some v) ∧ q.2 = q_ev g v := by
  obtain ⟨i, -, hi⟩ := List.mem_filterMap.mp h
  split at hi
  · next v hv => cases hi; exact ⟨v, hv, rfl⟩
  · cases hi
theorem q_L.has {g : q_G} {nL : Nat} {la : Array Slot} {ls : List (Option Value)} (h : q_L g nL la ls) : lv_has la nL (q_pr g ls) := ⟨h.1, h.2.1, fun q hq => by
  obtain ⟨v, h1, h2⟩ := q_pr_of hq
  rw [h2]
  exact h.2.2 _ _ h1⟩
/-- what a store at i leaves of the slot ahead of it -/
def q_cut (ls : List (Option Value)) : Nat → List (Option Value)
  | 0 => ls
  | j + 1 => match ls[j]? with
    | some (some w) => if w.category = 2 then ls.set j none else ls
    | _ => ls
theorem q_cut_at {ls : List (Option Value)} {i j : Nat} {v : Value} (h : (q_cut ls i)[j]? = some (some v)) : ls[j]? = some (some v) ∧ ¬ (j + 1 = i ∧ v.category = 2) := by
  cases i with
  | zero => exact ⟨h, fun q => by omega⟩
  | succ n =>
    simp only [q_cut] at h
    split at h
    · next w hw =>
      split at h
      · next hc =>
        by_cases hj : j = n
        · subst hj
          rw [List.getElem?_set_self (List.getElem?_eq_some_iff.mp hw).1] at h
          cases h
        · rw [List.getElem?_set_ne (fun q => hj q.symm)] at h
          exact ⟨h, fun q => hj (by omega)⟩
      · next hc =>
        refine ⟨h, fun q => ?_⟩
        have : j = n := by omega
        subst this
        rw [hw] at h
        cases h
        exact hc q.2
    · next hw =>
      refine ⟨h, fun q => ?_⟩
      have : j = n := by omega
      subst this
      exact hw v h
def q_st1 (ls : List (Option Value)) (i : Nat) (v : Value) : List (Option Value) := (q_cut ls i).set i (some v)
def q_st2 (ls : List (Option Value)) (i : Nat) (v : Value) : List (Option Value) := ((q_cut ls i).set (i + 1) none).set i (some v)
theorem q_set_at {ls : List (Option Value)} {i j : Nat} {v w : Value} (h : (ls.set i (some v))[j]? = some (some w)) : (j = i ∧ w = v) ∨ (j ≠ i ∧ ls[j]? = some (some w)) := by
  by_cases hj : j = i
  · subst hj
    by_cases hl : j < ls.length
    · rw [List.getElem?_set_self hl] at h
      cases h
      exact Or.inl ⟨rfl, rfl⟩
    · rw [List.set_eq_of_length_le (by omega)] at h
      exact absurd (List.getElem?_eq_some_iff.mp h).1 hl
  · rw [List.getElem?_set_ne (fun q => hj q.symm)] at h
    exact Or.inr ⟨hj, h⟩
theorem q_L.st1 {g : q_G} {nL i : Nat} {la : Array Slot} {ls : List (Option Value)} {v : Value} (h : lv_has la nL ((i, q_ev g v) :: (q_pr g ls).filter (fun q => !(q.1 == i) && !(q.1 + 1 == i && q.2.category == 2)))) : q_L g nL la (q_st1 ls i v) := by
  refine ⟨h.1, h.2.1, fun j w hj => ?_⟩
  rcases q_set_at hj with ⟨h1, h2⟩ | ⟨h1, h2⟩
  · subst h1; subst h2
    exact h.2.2 _ List.mem_cons_self
  · obtain ⟨h3, h4⟩ := q_cut_at h2
    refine h.2.2 (j, q_ev g w) (List.mem_cons_of_mem _ (List.mem_filter.mpr ⟨q_pr_in h3, ?_⟩))
    simp only [q_ev_cat, Bool.and_eq_true, Bool.not_eq_true', beq_eq_false_iff_ne, ne_eq, Bool.and_eq_false_iff]
    refine ⟨h1, ?_⟩
    by_cases h5 : j + 1 = i
    · exact Or.inr (fun q => h4 ⟨h5, q⟩)
    · exact Or.inl h5
theorem q_L.st2 {g : q_G} {nL i : Nat} {la : Array Slot} {ls : List (Option Value)} {v : Value} (h : lv_has la nL ((i, q_ev g v) :: (q_pr g ls).filter (fun q => !(q.1 == i) && (!(q.1 == i + 1) && !(q.1 + 1 == i && q.2.category == 2))))) : q_L g nL la (q_st2 ls i v) := by
  refine ⟨h.1, h.2.1, fun j w hj => ?_⟩
  rcases q_set_at hj with ⟨h1, h2⟩ | ⟨h1, h2⟩
  · subst h1; subst h2
    exact h.2.2 _ List.mem_cons_self
  · have h6 : j ≠ i + 1 ∧ (q_cut ls i)[j]? = some (some w) := by
      by_cases hj1 : j = i + 1
      · subst hj1
        by_cases hl : i + 1 < (q_cut ls i).length
        · rw [List.getElem?_set_self hl] at h2
          cases h2
        · rw [List.set_eq_of_length_le (by omega)] at h2
          exact absurd (List.getElem?_eq_some_iff.mp h2).1 hl
      · rw [List.getElem?_set_ne (fun q => hj1 q.symm)] at h2
        exact ⟨hj1, h2⟩
    obtain ⟨h3, h4⟩ := q_cut_at h6.2
    refine h.2.2 (j, q_ev g w) (List.mem_cons_of_mem _ (List.mem_filter.mpr ⟨q_pr_in h3, ?_⟩))
    simp only [q_ev_cat, Bool.and_eq_true, Bool.not_eq_true', beq_eq_false_iff_ne, ne_eq, Bool.and_eq_false_iff]
    refine ⟨h1, h6.1, ?_⟩
    by_cases h5 : j + 1 = i
    · exact Or.inr (fun q => h4 ⟨h5, q⟩)
    · exact Or.inl h5
/-- locals at the entry -/
def q_sl : List Value → List (Option Value)
  | [] => []
  | v :: vs => if v.category = 2 then some v :: none :: q_sl vs else some v :: q_sl vs
def q_en (as : List Value) (n : Nat) : List (Option Value) := q_sl as ++ List.replicate (n - (q_sl as).length) none
theorem q_sl_len (g : q_G) (as : List Value) : (lg_sl (as.map (q_ev g))).length = (q_sl as).length := by
  induction as with
  | nil => rfl
  | cons v vs ih =>
    unfold lg_sl at ih ⊢
    rw [List.map_cons, List.flatMap_cons, List.length_append, ih, q_ev_cat]
    simp only [q_sl]
    by_cases h : v.category = 2
    · rw [if_pos h, if_pos h]
      simp only [List.length_cons, List.length_nil]
      omega
    · rw [if_neg h, if_neg h]
      simp only [List.length_cons, List.length_nil]
      omega
theorem q_sl_in (g : q_G) (as : List Value) : ∀ (b i : Nat) (v : Value), (q_sl as)[i]? = some (some v) → (b + i, q_ev g v) ∈ lv_args b (as.map (q_ev g)) := by
  induction as with
  | nil => intro b i v h; simp [q_sl] at h
  | cons x xs ih =>
    intro b i v h
    rw [List.map_cons]
    simp only [lv_args, q_ev_cat]
    simp only [q_sl] at h
    by_cases hc : x.category = 2
    · rw [if_pos hc] at h ⊢
      match i, h with
      | 0, h =>
        cases h
        exact List.mem_cons_self
      | 1, h => cases h
      | n + 2, h =>
        have h1 := ih (b + 2) n v h
        rw [show b + (n + 2) = b + 2 + n by omega]
        exact List.mem_cons_of_mem _ h1
    · rw [if_neg hc] at h ⊢
      match i, h with
      | 0, h =>
        cases h
        exact List.mem_cons_self
      | n + 1, h =>
        have h1 := ih (b + 1) n v h
        rw [show b + (n + 1) = b + 1 + n by omega]
        exact List.mem_cons_of_mem _ h1
theorem q_L.entry {g : q_G} {as : List Value} {n : Nat} (h : (q_sl as).length ≤ n) : q_L g n ((lg_sl (as.map (q_ev g)) ++ List.replicate (n - (lg_sl (as.map (q_ev g))).length) Slot.unset).toArray) (q_en as n) := by
  obtain ⟨h1, h2, h3⟩ := lv_entry (as.map (q_ev g)) (n := n) (by rw [q_sl_len]; exact h)
  refine ⟨h1, h2, fun i v hi => ?_⟩
  unfold q_en at hi
  by_cases hl : i < (q_sl as).length
  · rw [List.getElem?_append_left hl] at hi
    have h4 := q_sl_in g as 0 i v hi
    rw [Nat.zero_add] at h4
    exact h3 _ h4
  · rw [List.getElem?_append_right (by omega)] at hi
    have h5 := List.mem_of_getElem? hi
    rw [List.mem_replicate] at h5
    exact absurd h5.2 (by simp)
end ENG1
