/-! wrappers: rows as the walks use them -/
section WRAP
theorem q_keep {hp hp' : List va_E} {a b : Nat} {x y : va_E} (e : hp' = hp.set a y) (h : hp[b]? = some x) (hne : a ≠ b) : hp'[b]? = some x := by
  rw [e, List.getElem?_set_ne hne]
  exact h
theorem q_self {hp : List va_E} {a : Nat} {x y : va_E} (h : hp[a]? = some x) : (hp.set a y)[a]? = some y := List.getElem?_set_self (List.getElem?_eq_some_iff.mp h).1
theorem q_atn (hp : List va_E) (x : va_E) : (hp ++ [x])[hp.length]? = some x := by simp
theorem q_ato {hp : List va_E} {b : Nat} {x y : va_E} (h : hp[b]? = some x) : (hp ++ [y])[b]? = some x := by
  rw [List.getElem?_append_left (List.getElem?_eq_some_iff.mp h).1]
  exact h
variable {g : q_G} {M : q_Me} {fr : Bool} {rm : Room} {P : Outcome → List va_E → Prop} {pc : Nat} {ls : List (Option Value)} {st : List Value} {hp : List va_E} {c s : Nat} {w : Bool}
theorem x_put {idx ci k a : Nat} {fs : List Value} {v : Value} (hd : decode M.2.1 pc = .ok (.putfield idx, 3)) (hf : q_F M.1.cls idx ci k false) (he : hp[a]? = some (.inr (ci, fs))) (hl : k < fs.length) (hn : narrow (q_tf ci k) v = v) (ht : fits (q_tf ci k) v = true) (kk : ∀ hp', hp' = hp.set a (.inr (ci, fs.set k v)) → hp'[a]? = some (.inr (ci, fs.set k v)) → q_J g M fr rm P (pc + 3) ls st hp' c s true) : q_J g M fr rm P pc ls (v :: .ref a :: st) hp c s w :=
  q_put hd hf he hl hn ht (kk _ rfl (q_self he))
theorem x_putF {idx ci k a : Nat} {fs : List Value} {v : Value} (hd : decode M.2.1 pc = .ok (.putfield idx, 3)) (hf : q_F M.1.cls idx ci k true) (hin : M.1.name = "<init>") (hown : ∀ q : vw_C, q_cl[ci]? = some q → q.1 = M.1.cls) (he : hp[a]? = some (.inr (ci, fs))) (hl : k < fs.length) (hn : narrow (q_tf ci k) v = v) (ht : fits (q_tf ci k) v = true) (kk : ∀ hp', hp' = hp.set a (.inr (ci, fs.set k v)) → hp'[a]? = some (.inr (ci, fs.set k v)) → q_J g M fr rm P (pc + 3) ls st hp' c s true) : q_J g M fr rm P pc ls (v :: .ref a :: st) hp c s w :=
  q_putF hd hf hin hown he hl hn ht (kk _ rfl (q_self he))
theorem x_iast {a t n : Nat} {f : Nat → Int32} {i : Int32} {x : Int32} (hd : decode M.2.1 pc = .ok (.iastore, 1)) (he : hp[a]? = some (.inl (t, n, .inl f))) (ht : q_ty[t]? = some .int) (hin : vp_in i n) (kk : ∀ hp', hp' = hp.set a (.inl (t, n, .inl (upd f i.toNatClampNeg x))) → hp'[a]? = some (.inl (t, n, .inl (upd f i.toNatClampNeg x))) → q_J g M fr rm P (pc + 1) ls st hp' c s true) : q_J g M fr rm P pc ls (.int x :: .int i :: .ref a :: st) hp c s w :=
  q_iast hd he ht hin (kk _ rfl (q_self he))
theorem x_bast {a t n : Nat} {f : Nat → Int32} {i : Int32} {x : Int32} (hd : decode M.2.1 pc = .ok (.bastore, 1)) (he : hp[a]? = some (.inl (t, n, .inl f))) (ht : q_ty[t]? = some .byte) (hin : vp_in i n) (kk : ∀ hp', hp' = hp.set a (.inl (t, n, .inl (upd f i.toNatClampNeg (vp_nar .byte x)))) → hp'[a]? = some (.inl (t, n, .inl (upd f i.toNatClampNeg (vp_nar .byte x)))) → q_J g M fr rm P (pc + 1) ls st hp' c s true) : q_J g M fr rm P pc ls (.int x :: .int i :: .ref a :: st) hp c s w :=
  q_bast hd he ht hin (kk _ rfl (q_self he))
theorem x_zast {a t n : Nat} {f : Nat → Int32} {i : Int32} {x : Int32} (hd : decode M.2.1 pc = .ok (.bastore, 1)) (he : hp[a]? = some (.inl (t, n, .inl f))) (ht : q_ty[t]? = some .boolean) (hin : vp_in i n) (kk : ∀ hp', hp' = hp.set a (.inl (t, n, .inl (upd f i.toNatClampNeg (vp_nar .boolean x)))) → hp'[a]? = some (.inl (t, n, .inl (upd f i.toNatClampNeg (vp_nar .boolean x)))) → q_J g M fr rm P (pc + 1) ls st hp' c s true) : q_J g M fr rm P pc ls (.int x :: .int i :: .ref a :: st) hp c s w :=
  q_zast hd he ht hin (kk _ rfl (q_self he))
theorem x_last {a t n : Nat} {f : Nat → Int64} {i : Int32} {x : Int64} (hd : decode M.2.1 pc = .ok (.lastore, 1)) (he : hp[a]? = some (.inl (t, n, .inr (.inl f)))) (ht : q_ty[t]? = some .long) (hin : vp_in i n) (kk : ∀ hp', hp' = hp.set a (.inl (t, n, .inr (.inl (vp_updL f i.toNatClampNeg x)))) → hp'[a]? = some (.inl (t, n, .inr (.inl (vp_updL f i.toNatClampNeg x)))) → q_J g M fr rm P (pc + 1) ls st hp' c s true) : q_J g M fr rm P pc ls (.long x :: .int i :: .ref a :: st) hp c s w :=
  q_last hd he ht hin (kk _ rfl (q_self he))
theorem x_ldcw {index : Nat} {v : Int32} (hd : decode M.2.1 pc = .ok (.ldc_w index, 3)) (hw : Jvm.Cond.constant M.1.cls index v ∈ q_gw) (k : q_J g M fr rm P (pc + 3) ls (.int v :: st) hp c s w) : q_J g M fr rm P pc ls st hp c s w :=
  fun p e R u m args below meth co H locs la E hL hH h1 h2 => lv_ldcw E.2.1 E.2.2.1 E.2.2.2.2.1 (q_word E.1 E.2.2.2.2.2.1 hw rfl) hd (k p e R u m args below meth co H locs la E hL hH h1 h2)
/-- calls whose end is known -/
theorem x_callS {N : q_Me} {fr' : Bool} {rm' : Room} {idx n : Nat} {as stk : List Value} {v : Option Value} {hp2 : List va_E} (hd : decode M.2.1 pc = .ok (.invokestatic idx, 3)) (hl : q_ML M.1.cls idx N n) (hsta : Jvm.Cond.static N.1 ∈ q_gw) (hC : q_C g N fr' rm' as hp (q_ret v hp2)) (hn : as.length = n) (hstk : stk = as.reverse ++ st) (hd' : rm'.frames + 1 ≤ rm.frames) (hN : (st.map fun v => v.category).sum + (N.2.2.1 + 11) + rm'.locals ≤ rm.locals) (hmc : c + rm'.cells ≤ rm.cells) (hms : s + rm'.slots ≤ rm.slots) (k : q_J g M fr rm P (pc + 3) ls (v.toList ++ st) hp2 (c + rm'.cells) (s + rm'.slots) (w || fr')) : q_J g M fr rm P pc ls stk hp c s w := by
  subst hstk
  exact q_callS hd hl hsta hn hC hd' hN hmc hms (q_kr k) q_kt
theorem x_callI {N : q_Me} {fr' : Bool} {rm' : Room} {idx n : Nat} {as stk : List Value} {a : Nat} {v : Option Value} {hp2 : List va_E} (hd : decode M.2.1 pc = .ok (.invokespecial idx, 3)) (hl : q_ML M.1.cls idx N n) (hnh : N.2.2.2 = (none, [])) (hin : N.1.name = "<init>") (hins : Jvm.Cond.instanceMethod N.1 ∈ q_gw) (hC : q_C g N fr' rm' (.ref a :: as) hp (q_ret v hp2)) (hn : as.length = n) (hstk : stk = as.reverse ++ .ref a :: st) (hd' : rm'.frames + 1 ≤ rm.frames) (hN : (st.map fun v => v.category).sum + (N.2.2.1 + 11) + rm'.locals ≤ rm.locals) (hmc : c + rm'.cells ≤ rm.cells) (hms : s + rm'.slots ≤ rm.slots) (k : q_J g M fr rm P (pc + 3) ls (v.toList ++ st) hp2 (c + rm'.cells) (s + rm'.slots) (w || fr')) : q_J g M fr rm P pc ls stk hp c s w := by
  subst hstk
  exact q_callI hd hl hnh hin hins hn hC hd' hN hmc hms (q_kr k) q_kt
theorem x_callV {N : q_Me} {fr' : Bool} {rm' : Room} {idx n : Nat} {as stk : List Value} {a ci : Nat} {fs : List Value} {q : vw_C} {v : Option Value} {hp2 : List va_E} (hd : decode M.2.1 pc = .ok (.invokevirtual idx, 3)) (hl : q_ML M.1.cls idx N n) (hins : Jvm.Cond.instanceMethod N.1 ∈ q_gw) (hsel : Jvm.Cond.selects q.1 N.1 N.1 ∈ q_gw) (hq : q_cl[ci]? = some q) (he : hp[a]? = some (.inr (ci, fs))) (hC : q_C g N fr' rm' (.ref a :: as) hp (q_ret v hp2)) (hn : as.length = n) (hstk : stk = as.reverse ++ .ref a :: st) (hd' : rm'.frames + 1 ≤ rm.frames) (hN : (st.map fun v => v.category).sum + (N.2.2.1 + 11) + rm'.locals ≤ rm.locals) (hmc : c + rm'.cells ≤ rm.cells) (hms : s + rm'.slots ≤ rm.slots) (k : q_J g M fr rm P (pc + 3) ls (v.toList ++ st) hp2 (c + rm'.cells) (s + rm'.slots) (w || fr')) : q_J g M fr rm P pc ls stk hp c s w := by
  subst hstk
  exact q_callV hd hl hins hsel hq he hn hC hd' hN hmc hms (q_kr k) q_kt
/-- Math.max -/
theorem x_max {idx : Nat} {x y : Int32} (hd : decode M.2.1 pc = .ok (.invokestatic idx, 3)) (hlk : Jvm.Cond.methodLink M.1.cls idx Lib.Math.max.name ∈ q_gw) (hsta : Jvm.Cond.static Lib.Math.max.name ∈ q_gw) (hini : Jvm.Cond.initialized "java/lang/Math" ∈ q_gw) (hco : Jvm.Cond.code Lib.Math.max.name Lib.Math.max.code 2 (some .int) ∈ q_gw) (hf : 1 ≤ rm.frames) (hl : (st.map fun v => v.category).sum + 13 ≤ rm.locals) (hc : c ≤ rm.cells) (hs : s ≤ rm.slots) (k : q_J g M fr rm P (pc + 3) ls (.int (if x < y then y else x) :: st) hp c s w) : q_J g M fr rm P pc ls (.int y :: .int x :: st) hp c s w := by
  intro p e R u m args below meth co H locs la E hL hH h1 h2
  have hu := E.2.2.2.2.2.1
  have hR1 := E.2.2.2.2.2.2.2.2.2.1
  have hR2 := E.2.2.2.2.2.2.2.2.2.2.1
  have hR3 := E.2.2.2.2.2.2.2.2.2.2.2.1
  have hR4 := E.2.2.2.2.2.2.2.2.2.2.2.2.1
  have hcat : ((st.map (q_ev g)).map fun v => v.category).sum = (st.map fun v => v.category).sum := by
    rw [List.map_map]
    exact congrArg List.sum (List.map_congr_left (fun v _ => q_ev_cat g v))
  exact va_mmax E.2.1 E.2.2.1 (by rw [E.2.2.2.1]; exact hL.1.symm) E.2.2.2.2.1 (q_word E.1 hu hlk rfl) (q_word E.1 hu hsta rfl) (q_word E.1 hu hini rfl) (q_word E.1 hu hco rfl) (by omega) (by omega) (by omega) (by omega) hd (k p e R u m args below meth co H locs la E hL hH h1 h2)
end WRAP
