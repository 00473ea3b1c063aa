/-! The engine, 10: rows for constructors -/
section ENG10
theorem q_app {hp hp' : List va_E} {x y : va_E} {b : Nat} (e : hp' = hp ++ [x]) (h : hp[b]? = some y) : hp'[b]? = some y := by
  rw [e, List.getElem?_append_left (List.getElem?_eq_some_iff.mp h).1]
  exact h
theorem q_apl {hp hp' : List va_E} {x : va_E} {L : Nat} (e : hp' = hp ++ [x]) (hL : hp.length = L) : hp'[L]? = some x := by
  rw [e, ← hL]
  simp
theorem q_len {hp hp' : List va_E} {x : va_E} {L : Nat} (e : hp' = hp ++ [x]) (hL : hp.length = L) : hp'.length = L + 1 := by
  rw [e, List.length_append, hL]
  rfl
theorem q_lns {hp hp' : List va_E} {a L : Nat} {y : va_E} (e : hp' = hp.set a y) (hL : hp.length = L) : hp'.length = L := by
  rw [e, List.length_set]
  exact hL
/-- only a and cells from L on have changed -/
def K_n (a L : Nat) (hp h : List va_E) : Prop := L ≤ h.length ∧ hp.length = L ∧ ∀ k, k < L → k ≠ a → h[k]? = hp[k]?
theorem K_n.rfl {a L : Nat} {hp : List va_E} (hL : hp.length = L) : K_n a L hp hp := ⟨by omega, hL, fun _ _ _ => Eq.refl _⟩
theorem K_n.app {a L : Nat} {hp h h' : List va_E} {x : va_E} (hF : K_n a L hp h) (e : h' = h ++ [x]) : K_n a L hp h' := by
  refine ⟨by rw [e, List.length_append]; have := hF.1; omega, hF.2.1, fun k h1 h2 => ?_⟩
  rw [e, List.getElem?_append_left (by have := hF.1; omega)]
  exact hF.2.2 k h1 h2
theorem K_n.set {a b L : Nat} {hp h h' : List va_E} {y : va_E} (hF : K_n a L hp h) (e : h' = h.set b y) (hb : b = a ∨ L ≤ b) : K_n a L hp h' := by
  refine ⟨by rw [e, List.length_set]; exact hF.1, hF.2.1, fun k h1 h2 => ?_⟩
  rw [e, List.getElem?_set_ne (by omega)]
  exact hF.2.2 k h1 h2
theorem K_n.sub {a b L L2 : Nat} {hp h h' : List va_E} (hF : K_n a L hp h) (hK : K_n b L2 h h') (h1 : L ≤ L2) (hb : b = a ∨ L ≤ b) : K_n a L hp h' := by
  refine ⟨Nat.le_trans h1 hK.1, hF.2.1, fun k h2 h3 => ?_⟩
  rw [hK.2.2 k (by omega) (by omega)]
  exact hF.2.2 k h2 h3
section
variable {g : q_G} {M : q_Me} {fr : Bool} {rm : Room} {P : Outcome → List va_E → Prop} {pc : Nat} {ls : List (Option Value)} {st : List Value} {hp : List va_E} {c s : Nat} {w : Bool}
theorem x_callIr {N : q_Me} {fr' : Bool} {rm' : Room} {idx n : Nat} {as stk : List Value} {a : Nat} {φ : List va_E → Prop} (hd : decode M.2.1 pc = .ok (.invokespecial idx, 3)) (hl : q_ML M.1.cls idx N n) (hnh : N.2.2.2 = (none, [])) (hin : N.1.name = "<init>") (hins : Jvm.Cond.instanceMethod N.1 ∈ q_gw) (hC : q_C g N fr' rm' (.ref a :: as) hp (q_ho none φ)) (hn : as.length = n) (hstk : stk = as.reverse ++ .ref a :: st) (hd' : rm'.frames + 1 ≤ rm.frames) (hN : (st.map fun v => v.category).sum + (N.2.2.1 + 11) + rm'.locals ≤ rm.locals) (hmc : c + rm'.cells ≤ rm.cells) (hms : s + rm'.slots ≤ rm.slots) (k : ∀ z, φ z → q_J g M fr rm P (pc + 3) ls st z (c + rm'.cells) (s + rm'.slots) (w || fr')) : q_J g M fr rm P pc ls stk hp c s w := by
  subst hstk
  exact q_callI hd hl hnh hin hins hn hC hd' hN hmc hms (q_krr k) q_ktr
theorem x_new {idx ci N L : Nat} {fs : List Value} (hd : decode M.2.1 pc = .ok (.new idx, 3)) (hN : q_N M.1.cls idx ci N) (hfs : q_df ci N = fs) (hc : c + 1 ≤ rm.cells) (hs : s + N ≤ rm.slots) (hL : hp.length = L) (kk : ∀ hp', hp' = hp ++ [.inr (ci, fs)] → q_J g M fr rm P (pc + 3) ls (.ref L :: st) hp' (c + 1) (s + N) true) : q_J g M fr rm P pc ls st hp c s w := by
  subst hL
  exact q_new hd hN hfs hc hs (kk _ rfl)
theorem x_aast {a b t n ci : Nat} {r : vw_C} {vs : List Value} {f : Nat → Option Nat} {i : Int32} (hd : decode M.2.1 pc = .ok (.aastore, 1)) (he : hp[a]? = some (.inl (t, n, .inr (.inr (.inr (.inr f)))))) (ht : q_ty[t]? = some (.object r.1)) (hb : hp[b]? = some (.inr (ci, vs))) (hc : q_cl[ci]? = some r) (hin : vp_in i n) (kk : ∀ hp', hp' = hp.set a (.inl (t, n, .inr (.inr (.inr (.inr (va_up f i.toNatClampNeg (some b))))))) → hp'[a]? = some (.inl (t, n, .inr (.inr (.inr (.inr (va_up f i.toNatClampNeg (some b))))))) → q_J g M fr rm P (pc + 1) ls st hp' c s true) : q_J g M fr rm P pc ls (.ref b :: .int i :: .ref a :: st) hp c s w :=
  q_aast hd he ht hb hc hin (kk _ rfl (q_self he))
theorem x_newa_i {N L : Nat} {n : Int32} (hd : decode M.2.1 pc = .ok (.newarray .int, 2)) (hw : Jvm.Cond.arrayClass .int ∈ q_gw) (hn : ¬ n < 0) (hN : n.toNatClampNeg = N) (hb : N * 4 ≤ 536870912) (hc : c + 1 ≤ rm.cells) (hs : s + N ≤ rm.slots) (hL : hp.length = L) (kk : ∀ hp', hp' = hp ++ [.inl (0, N, .inl (fun _ => 0))] → q_J g M fr rm P (pc + 2) ls (.ref L :: st) hp' (c + 1) (s + N) true) : q_J g M fr rm P pc ls (.int n :: st) hp c s w := by
  subst hL
  exact q_newa_i (t := 0) hd rfl hw hn hN hb hc hs (kk _ rfl)
theorem x_newa_b {N L : Nat} {n : Int32} (hd : decode M.2.1 pc = .ok (.newarray .byte, 2)) (hw : Jvm.Cond.arrayClass .byte ∈ q_gw) (hn : ¬ n < 0) (hN : n.toNatClampNeg = N) (hb : N * 1 ≤ 536870912) (hc : c + 1 ≤ rm.cells) (hs : s + N ≤ rm.slots) (hL : hp.length = L) (kk : ∀ hp', hp' = hp ++ [.inl (2, N, .inl (fun _ => 0))] → q_J g M fr rm P (pc + 2) ls (.ref L :: st) hp' (c + 1) (s + N) true) : q_J g M fr rm P pc ls (.int n :: st) hp c s w := by
  subst hL
  exact q_newa_b (t := 2) hd rfl hw hn hN hb hc hs (kk _ rfl)
theorem x_newa_z {N L : Nat} {n : Int32} (hd : decode M.2.1 pc = .ok (.newarray .boolean, 2)) (hw : Jvm.Cond.arrayClass .boolean ∈ q_gw) (hn : ¬ n < 0) (hN : n.toNatClampNeg = N) (hb : N * 1 ≤ 536870912) (hc : c + 1 ≤ rm.cells) (hs : s + N ≤ rm.slots) (hL : hp.length = L) (kk : ∀ hp', hp' = hp ++ [.inl (3, N, .inl (fun _ => 0))] → q_J g M fr rm P (pc + 2) ls (.ref L :: st) hp' (c + 1) (s + N) true) : q_J g M fr rm P pc ls (.int n :: st) hp c s w := by
  subst hL
  exact q_newa_z (t := 3) hd rfl hw hn hN hb hc hs (kk _ rfl)
theorem x_newa_l {N L : Nat} {n : Int32} (hd : decode M.2.1 pc = .ok (.newarray .long, 2)) (hw : Jvm.Cond.arrayClass .long ∈ q_gw) (hn : ¬ n < 0) (hN : n.toNatClampNeg = N) (hb : N * 8 ≤ 536870912) (hc : c + 1 ≤ rm.cells) (hs : s + N ≤ rm.slots) (hL : hp.length = L) (kk : ∀ hp', hp' = hp ++ [.inl (1, N, .inr (.inl (fun _ => 0)))] → q_J g M fr rm P (pc + 2) ls (.ref L :: st) hp' (c + 1) (s + N) true) : q_J g M fr rm P pc ls (.int n :: st) hp c s w := by
  subst hL
  exact q_newa_l (t := 1) hd rfl hw hn hN hb hc hs (kk _ rfl)
theorem x_newq {idx t N L : Nat} {n : Int32} {C : String} (hd : decode M.2.1 pc = .ok (.anewarray idx, 3)) (ht : q_ty[t]? = some (.object C)) (hw : Jvm.Cond.classLink M.1.cls idx C ∈ q_gw) (ho : Jvm.Cond.arrayOver (.object C) ∈ q_gw) (hn : ¬ n < 0) (hN : n.toNatClampNeg = N) (hb : N * 4 ≤ 536870912) (hc : c + 1 ≤ rm.cells) (hs : s + N ≤ rm.slots) (hL : hp.length = L) (kk : ∀ hp', hp' = hp ++ [.inl (t, N, .inr (.inr (.inr (.inr (fun _ => none)))))] → q_J g M fr rm P (pc + 3) ls (.ref L :: st) hp' (c + 1) (s + N) true) : q_J g M fr rm P pc ls (.int n :: st) hp c s w := by
  subst hL
  exact q_newq hd ht hw ho hn hN hb hc hs (kk _ rfl)
end
end ENG10
