/-! the law: rows for its helpers -/
section W4
section
variable {g : q_G} {M : q_Me} {fr : Bool} {rm : Room} {P : Outcome → List va_E → Prop} {pc : Nat} {ls : List (Option Value)} {st : List Value} {hp : List va_E} {c s : Nat} {w : Bool}
theorem x_hok {N : q_Me} {idx n : Nat} {as stk : List Value} {Z : Type} {v : Z → Int32} {H : Z → List va_E} {φ : Z → Prop} (hd : decode M.2.1 pc = .ok (.invokestatic idx, 3)) (hl : q_ML M.1.cls idx N n) (hsta : Jvm.Cond.static N.1 ∈ q_gw) (hC : q_C g N true (q_R 8 200 1 6) as hp (h_ok v H φ)) (hn : as.length = n) (hstk : stk = as.reverse ++ st) (hd' : 8 + 1 ≤ rm.frames) (hN : (st.map fun v => v.category).sum + (N.2.2.1 + 11) + 200 ≤ rm.locals) (hmc : c + 1 ≤ rm.cells) (hms : s + 6 ≤ rm.slots) (k : ∀ z fo hpA, φ z → fo 0 = (v z).toInt64 → hpA = (H z).set 110 (a_J 1 fo) → q_J g M fr rm P (pc + 3) ls (.int 0 :: st) hpA (c + 1) (s + 6) true) : q_J g M fr rm P pc ls stk hp c s w :=
  x_callSr hd hl hsta hC hn hstk hd' hN hmc hms (fun z hz => by
    have := k z.1 z.2 _ hz.1 hz.2 rfl
    rw [Bool.or_true]
    exact this)
theorem x_her {N : q_Me} {idx n : Nat} {as stk : List Value} {Z : Type} {kk : Int32} {cj : Nat} {H : Z → List va_E} {φ : Z → Prop} (hd : decode M.2.1 pc = .ok (.invokestatic idx, 3)) (hl : q_ML M.1.cls idx N n) (hsta : Jvm.Cond.static N.1 ∈ q_gw) (hC : q_C g N true (q_R 8 200 1 6) as hp (h_er kk cj H φ)) (hn : as.length = n) (hstk : stk = as.reverse ++ st) (hd' : 8 + 1 ≤ rm.frames) (hN : (st.map fun v => v.category).sum + (N.2.2.1 + 11) + 200 ≤ rm.locals) (hmc : c + 1 ≤ rm.cells) (hms : s + 6 ≤ rm.slots) (k : ∀ z hpA, φ z → hpA = H z ++ [.inr (cj, [])] → q_J g M fr rm P (pc + 3) ls (.int kk :: st) hpA (c + 1) (s + 6) true) : q_J g M fr rm P pc ls stk hp c s w :=
  x_callSr hd hl hsta hC hn hstk hd' hN hmc hms (fun z hz => by
    have := k z _ hz rfl
    rw [Bool.or_true]
    exact this)
end
variable {g : q_G}
theorem set_110 {h hpA : List va_E} {fo : Nat → Int64} (e : hpA = h.set 110 (a_J 1 fo)) (hO : O_P h) : (∀ i, i < 110 → hpA[i]? = h[i]?) ∧ hpA[110]? = some (a_J 1 fo) := by
  subst e
  exact ⟨fun i hi => List.getElem?_set_ne (by omega), List.getElem?_set_self hO.len⟩
theorem app_110 {h hpA : List va_E} {x : va_E} (e : hpA = h ++ [x]) (hO : O_P h) : ∀ i, i ≤ 110 → hpA[i]? = h[i]? := by
  subst e
  intro i hi
  have := hO.len
  exact List.getElem?_append_left (by omega)
theorem sn_ex (w : w_T) : ∃ sn : Nat → Bool, ∀ k, sn k = true ↔ rr_R (w_S w) (w_0 w) k :=
  ⟨fun k => @decide (rr_R (w_S w) (w_0 w) k) (Classical.propDecidable _), fun k => @decide_eq_true_iff _ (Classical.propDecidable _)⟩
theorem sn_eq {w : w_T} {sn sn' : Nat → Bool} (h : ∀ k, sn k = true ↔ rr_R (w_S w) (w_0 w) k) (h' : ∀ k, sn' k = true ↔ rr_R (w_S w) (w_0 w) k) : sn' = sn := by
  funext k
  have a := (h k).trans (h' k).symm
  cases hs : sn k <;> cases hs' : sn' k
  · rfl
  · exact absurd (a.mpr hs') (by rw [hs]; exact Bool.false_ne_true)
  · exact absurd (a.mp hs) (by rw [hs']; exact Bool.false_ne_true)
  · rfl
/-- the script's ints at a call -/
abbrev sc (g : q_G) (j : Nat) : Int32 := (q_x g).2.2 j
theorem sc_in {g : q_G} {j k : Nat} (hj : j + 4 ≤ (q_x g).2.1) (hL : (q_x g).2.1 ≤ 2048) (hk : k < 4) : vp_in (nI (j + k)) (q_x g).2.1 := vp_in_nI (by omega) (by omega)
end W4
