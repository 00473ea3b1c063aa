/-! The engine, 3: rows of the instructions that read, write and make cells -/
section ENG3
theorem q_fit_ok {g : q_G} {ty : FieldType} {v : Value} (h1 : narrow ty v = v) (h2 : fits ty v = true) : narrow ty (q_ev g v) = q_ev g v ∧ fits ty (q_ev g v) = true := by
  cases v with
  | ref a => cases ty <;> first | (exact ⟨rfl, rfl⟩) | (simp [fits] at h2)
  | retAddr a => cases ty <;> simp [fits] at h2
  | _ => exact ⟨h1, h2⟩
theorem q_lay_good {C : String} {T : u_T} {N : Nat} {w : Jvm.Cond} (h : w ∈ u_ws C T N) : goodWord w = true := by
  obtain ⟨k, -, rfl⟩ := List.mem_map.mp h
  unfold u_lay
  split <;> rfl
/-- a field's entry in a class's pool: the class's place, the field's place, final -/
def q_F (own : String) (idx ci k : Nat) (fl : Bool) : Prop := ∃ q : vw_C, q_cl[ci]? = some q ∧ k < q.2.2 ∧ (q.2.1 k).1 = q.1 ∧ (q.2.1 k).2.2.2 = fl ∧
  (Jvm.Cond.fieldLink own idx q.1 (q.2.1 k).2.1 (q.2.1 k).2.2.1 ∈ q_gw ∨ ∃ host, Jvm.Cond.fieldLinkNest own idx q.1 (q.2.1 k).2.1 (q.2.1 k).2.2.1 host ∈ q_gw)
theorem q_nestF {g : q_G} (hG : q_GG g) {u : State} (hu : (q_s g).WarmedH u.vm) {args : Array Value} {a : String} {i : Nat} {b n d h : String} (hw : Jvm.Cond.fieldLinkNest a i b n d h ∈ q_gw) : (Jvm.Cond.fieldLinkNest a i b n d h).before args u = true :=
  va_Nw.use rfl (va_Nw.warmF hu (va_Nw.of rfl (hG.1 _ hw)))
theorem q_nestM {g : q_G} (hG : q_GG g) {u : State} (hu : (q_s g).WarmedH u.vm) {args : Array Value} {a : String} {i : Nat} {x : MethodName} {h : String} (hw : Jvm.Cond.methodLinkNest a i x h ∈ q_gw) : (Jvm.Cond.methodLinkNest a i x h).before args u = true :=
  va_Nw.use rfl (va_Nw.warmM hu (va_Nw.of rfl (hG.1 _ hw)))
theorem q_lays {g : q_G} (hG : q_GG g) {u : State} (hu : (q_s g).WarmedH u.vm) {args : Array Value} {ci : Nat} {q : vw_C} (hc : q_cl[ci]? = some q) : ∀ w ∈ u_ws q.1 q.2.1 q.2.2, w.before args u = true := fun w hw => q_word hG hu (q_cl_in ci q hc w hw) (q_lay_good hw)
variable {g : q_G} {M : q_Me} {fr : Bool} {rm : Room} {P : Outcome → List va_E → Prop} {pc : Nat} {ls : List (Option Value)} {st : List Value} {hp : List va_E} {c s : Nat} {w : Bool}
theorem q_locs {g : q_G} {locs : List Loc} {w : Bool} {a i : Nat} (h1 : ∀ q ∈ locs, w = true ∧ q_b g ≤ q.base) : ∀ q ∈ locs ++ [⟨q_b g + a, i⟩], true = true ∧ q_b g ≤ q.base := by
  intro q hq
  rcases List.mem_append.mp hq with h | h
  · exact ⟨rfl, (h1 q h).2⟩
  · rw [List.mem_singleton.mp h]
    exact ⟨rfl, Nat.le_add_right _ _⟩
theorem q_get {idx ci k a : Nat} {fl : Bool} {fs : List Value} {v : Value} (hd : decode M.2.1 pc = .ok (.getfield idx, 3)) (hf : q_F M.1.cls idx ci k fl) (he : hp[a]? = some (.inr (ci, fs))) (hv : fs[k]? = some v) (kk : q_J g M fr rm P (pc + 3) ls (v :: st) hp c s w) : q_J g M fr rm P pc ls (.ref a :: st) hp c s w := by
  intro p e R u m args below meth co H locs la E hL hH h1 h2
  obtain ⟨q, hc, hk, hdl, -, hlk⟩ := hf
  have hu := E.2.2.2.2.2.1
  have hv' : (fs.map (q_ev g))[k]? = some (q_ev g v) := by rw [List.getElem?_map, hv]; rfl
  rcases hlk with hlk | ⟨host, hlk⟩
  · exact va_get (D := q_D g) (ci := ci) (v := q_ev g v) (C := q.1) (T := q.2.1) (N := q.2.2) (tys := []) E.2.1 E.2.2.1 (q_lays E.1 hu hc) (fun _ h => h) E.2.2.2.2.1 (q_K0 E.1 hu) (q_P1 hH he) 0 rfl hc k hk (q_word E.1 hu hlk rfl) (fun x hx => by rw [← hdl]; exact hx) hv' hd (kk p e R u m args below meth co H locs la E hL hH h1 h2)
  · exact va_getN (D := q_D g) (ci := ci) (v := q_ev g v) (C := q.1) (T := q.2.1) (N := q.2.2) (tys := []) E.2.1 E.2.2.1 (q_lays E.1 hu hc) (fun _ h => h) E.2.2.2.2.1 (q_K0 E.1 hu) (q_P1 hH he) 0 rfl hc k hk (q_nestF E.1 hu hlk) (fun x hx => by rw [← hdl]; exact hx) hv' hd (kk p e R u m args below meth co H locs la E hL hH h1 h2)
theorem q_put {idx ci k a : Nat} {fs : List Value} {v : Value} (hd : decode M.2.1 pc = .ok (.putfield idx, 3)) (hf : q_F M.1.cls idx ci k false) (he : hp[a]? = some (.inr (ci, fs))) (hl : k < fs.length) (hn : narrow (q_tf ci k) v = v) (ht : fits (q_tf ci k) v = true) (kk : q_J g M fr rm P (pc + 3) ls st (hp.set a (.inr (ci, fs.set k v))) c s true) : q_J g M fr rm P pc ls (v :: .ref a :: st) hp c s w := by
  intro p e R u m args below meth co H locs la E hL hH h1 h2
  obtain ⟨q, hc, hk, hdl, hfl, hlk⟩ := hf
  have hu := E.2.2.2.2.2.1
  have hlys := q_lays E.1 hu (args := args) hc
  have hKn := q_K0 E.1 hu
  have hap := va_apart (own := M.1.cls) hlys (fun _ h => h) (q_tf ci) (q_cl_ty ci q hc) (q_cl_nm ci q hc) hKn hc
  obtain ⟨r, h3, cell, q1, q2, q3, q4⟩ := hH.2.2 a _ he
  obtain ⟨hS, hfc, kC, hkC, hkind⟩ := hKn.1 ci _ hc
  have hr : r = q := Option.some.inj (h3.symm.trans hc)
  rw [hr] at q4
  obtain ⟨cf, kf, fi, f, hi, hsl⟩ := hS k hk
  have hlay := hlys _ (u_in_lay hk)
  unfold u_lay at hlay
  have hst := (u_facts hfc hkC (u_lays hlys (fun _ h => h) hk) hi).1
  obtain ⟨hn1, hn2⟩ := q_fit_ok (g := g) hn ht
  have key : ∀ H' : Heap, H'[q_b g + a]? = some (cell.setSlot f.slot (q_ev g v)) → H'.size = H.size → (∀ q, q ≠ q_b g + a → H'[q]? = H[q]?) → W p (q_l g) e R u m args below meth co H' (locs ++ [⟨q_b g + a, f.slot⟩]) c s (q_M below (q_Q g fr P) u rm.cells rm.slots (fun q => fr = true ∧ q_b g ≤ q)) (F0 m (pc + 3) la (st.map (q_ev g))) := by
    intro H' e1 e2 e3
    refine kk p e R u m args below meth co H' _ la E hL (hH.set he e2 e3 ?_) (q_locs h1) (fun h => by cases h)
    rw [hsl] at e1
    refine ⟨q, hc, t_OB.to (V := updV (vp_V (fs.map (q_ev g))) k (q_ev g v)) ⟨_, e1, q2, q3, t_set q4 hap hk _⟩ (fun j _ => ?_)⟩
    rw [vp_updV_set (by rw [List.length_map]; exact hl), List.map_set]
  have hlt : f.slot < cell.slots.size := by rw [hsl]; exact k2_hasslot (q4 k hk)
  have hi' : u.fieldFound? q.1 (q.2.1 k).2.1 (q.2.1 k).2.2.1 = some (cf, kf, fi, f) := by rw [← hdl]; exact hi
  rw [if_neg (by rw [hfl]; decide)] at hlay
  have h6 := u_store hfc hkC hkind hlay hi (q_cl_ty ci _ hc k hk) hn1 hn2
  rcases hlk with hlk | ⟨host, hlk⟩
  · exact W.putK E.2.1 E.2.2.1 (f := f) ⟨E.2.2.2.2.1, q_word E.1 hu hlk rfl, ⟨_, _, _, hi'⟩, hst⟩ (by rw [q2]; exact h6) q1 q3 hlt rfl rfl hd key
  · exact va_WputK E.2.1 E.2.2.1 (f := f) E.2.2.2.2.1 (q_nestF E.1 hu hlk) hi' hst (by rw [q2]; exact h6) q1 q3 hlt rfl rfl hd key
theorem q_putF {idx ci k a : Nat} {fs : List Value} {v : Value} (hd : decode M.2.1 pc = .ok (.putfield idx, 3)) (hf : q_F M.1.cls idx ci k true) (hin : M.1.name = "<init>") (hown : ∀ q : vw_C, q_cl[ci]? = some q → q.1 = M.1.cls) (he : hp[a]? = some (.inr (ci, fs))) (hl : k < fs.length) (hn : narrow (q_tf ci k) v = v) (ht : fits (q_tf ci k) v = true) (kk : q_J g M fr rm P (pc + 3) ls st (hp.set a (.inr (ci, fs.set k v))) c s true) : q_J g M fr rm P pc ls (v :: .ref a :: st) hp c s w := by
  intro p e R u m args below meth co H locs la E hL hH h1 h2
  obtain ⟨q, hc, hk, hdl, hfl, hlk⟩ := hf
  have hu := E.2.2.2.2.2.1
  have hlys := q_lays E.1 hu (args := args) hc
  have hKn := q_K0 E.1 hu
  have hap := va_apart (own := M.1.cls) hlys (fun _ h => h) (q_tf ci) (q_cl_ty ci q hc) (q_cl_nm ci q hc) hKn hc
  obtain ⟨r, h3, cell, q1, q2, q3, q4⟩ := hH.2.2 a _ he
  obtain ⟨hS, hfc, kC, hkC, hkind⟩ := hKn.1 ci _ hc
  have hr : r = q := Option.some.inj (h3.symm.trans hc)
  rw [hr] at q4
  obtain ⟨cf, kf, fi, f, hi, hsl⟩ := hS k hk
  have hlay := hlys _ (u_in_lay hk)
  unfold u_lay at hlay
  have hst := (u_facts hfc hkC (u_lays hlys (fun _ h => h) hk) hi).1
  obtain ⟨hn1, hn2⟩ := q_fit_ok (g := g) hn ht
  have key : ∀ H' : Heap, H'[q_b g + a]? = some (cell.setSlot f.slot (q_ev g v)) → H'.size = H.size → (∀ q, q ≠ q_b g + a → H'[q]? = H[q]?) → W p (q_l g) e R u m args below meth co H' (locs ++ [⟨q_b g + a, f.slot⟩]) c s (q_M below (q_Q g fr P) u rm.cells rm.slots (fun q => fr = true ∧ q_b g ≤ q)) (F0 m (pc + 3) la (st.map (q_ev g))) := by
    intro H' e1 e2 e3
    refine kk p e R u m args below meth co H' _ la E hL (hH.set he e2 e3 ?_) (q_locs h1) (fun h => by cases h)
    rw [hsl] at e1
    refine ⟨q, hc, t_OB.to (V := updV (vp_V (fs.map (q_ev g))) k (q_ev g v)) ⟨_, e1, q2, q3, t_set q4 hap hk _⟩ (fun j _ => ?_)⟩
    rw [vp_updV_set (by rw [List.length_map]; exact hl), List.map_set]
  have hlt : f.slot < cell.slots.size := by rw [hsl]; exact k2_hasslot (q4 k hk)
  have hi' : u.fieldFound? q.1 (q.2.1 k).2.1 (q.2.1 k).2.2.1 = some (cf, kf, fi, f) := by rw [← hdl]; exact hi
  rw [if_pos hfl] at hlay
  have hcf : m.cls = cf := by
    obtain ⟨_, _, c', _, _, _, -, -, hf', -, -, -, hown2, -⟩ := Cond.laysFinal_spec hlay
    have e1 : c' = cf := by have := hi.symm.trans hf'; simp at this; exact this.1.symm
    rw [hdl, hown q hc] at hown2
    rw [← e1]
    exact Option.some.inj (E.2.2.2.2.1.symm.trans hown2)
  have h6 := u_fits hfc hkC hkind (Or.inr hlay) hi (q_cl_ty ci _ hc k hk) hn1 hn2
  rcases hlk with hlk | ⟨host, hlk⟩
  · exact W.putFinK E.2.1 E.2.2.1 E.2.2.2.2.1 (q_word E.1 hu hlk rfl) hi' hst hcf (E.2.2.2.2.2.2.2.2.1.trans hin) (by rw [q2]; exact h6) q1 q3 hlt rfl rfl hd key
  · refine va_Wputf E.2.1 E.2.2.1 E.2.2.2.2.1 (q_nestF E.1 hu hlk) hi' hst (Or.inr ⟨hcf, E.2.2.2.2.2.2.2.2.1.trans hin⟩) q1 (by rw [q3]; exact fun h => by cases h) hlt h6.1 (by rw [q2, q3]; exact h6.2) rfl rfl hd ?_
    have ha : q_b g + a < H.size := (Array.getElem?_eq_some_iff.mp q1).1
    refine key _ ?_ ?_ ?_
    · simp [Array.getElem?_setIfInBounds, ha]
    · simp
    · intro q hq
      simp [Array.getElem?_setIfInBounds, Ne.symm hq]
theorem q_iald {a t n : Nat} {f : Nat → Int32} {i : Int32} (hd : decode M.2.1 pc = .ok (.iaload, 1)) (he : hp[a]? = some (.inl (t, n, .inl f))) (ht : q_ty[t]? = some .int) (hin : vp_in i n) (kk : q_J g M fr rm P (pc + 1) ls (.int (f i.toNatClampNeg) :: st) hp c s w) : q_J g M fr rm P pc ls (.int i :: .ref a :: st) hp c s w :=
  fun p e R u m args below meth co H locs la E hL hH h1 h2 => va_iald (D := q_D g) (cl := q_cl) E.2.1 E.2.2.1 (q_K1 E.1 E.2.2.2.2.2.1 ht) (q_P1 hH he) 0 0 rfl rfl hin hd (kk p e R u m args below meth co H locs la E hL hH h1 h2)
theorem q_bald {a t n : Nat} {f : Nat → Int32} {i : Int32} (hd : decode M.2.1 pc = .ok (.baload, 1)) (he : hp[a]? = some (.inl (t, n, .inl f))) (ht : q_ty[t]? = some .byte) (hin : vp_in i n) (kk : q_J g M fr rm P (pc + 1) ls (.int (f i.toNatClampNeg) :: st) hp c s w) : q_J g M fr rm P pc ls (.int i :: .ref a :: st) hp c s w :=
  fun p e R u m args below meth co H locs la E hL hH h1 h2 => va_bald (D := q_D g) (cl := q_cl) E.2.1 E.2.2.1 (q_K1 E.1 E.2.2.2.2.2.1 ht) (q_P1 hH he) 0 0 rfl rfl hin hd (kk p e R u m args below meth co H locs la E hL hH h1 h2)
theorem q_zald {a t n : Nat} {f : Nat → Int32} {i : Int32} (hd : decode M.2.1 pc = .ok (.baload, 1)) (he : hp[a]? = some (.inl (t, n, .inl f))) (ht : q_ty[t]? = some .boolean) (hin : vp_in i n) (kk : q_J g M fr rm P (pc + 1) ls (.int (f i.toNatClampNeg) :: st) hp c s w) : q_J g M fr rm P pc ls (.int i :: .ref a :: st) hp c s w :=
  fun p e R u m args below meth co H locs la E hL hH h1 h2 => va_zald (D := q_D g) (cl := q_cl) E.2.1 E.2.2.1 (q_K1 E.1 E.2.2.2.2.2.1 ht) (q_P1 hH he) 0 0 rfl rfl hin hd (kk p e R u m args below meth co H locs la E hL hH h1 h2)
theorem q_lald {a t n : Nat} {f : Nat → Int64} {i : Int32} (hd : decode M.2.1 pc = .ok (.laload, 1)) (he : hp[a]? = some (.inl (t, n, .inr (.inl f)))) (ht : q_ty[t]? = some .long) (hin : vp_in i n) (kk : q_J g M fr rm P (pc + 1) ls (.long (f i.toNatClampNeg) :: st) hp c s w) : q_J g M fr rm P pc ls (.int i :: .ref a :: st) hp c s w :=
  fun p e R u m args below meth co H locs la E hL hH h1 h2 => va_lald (D := q_D g) (cl := q_cl) E.2.1 E.2.2.1 (q_K1 E.1 E.2.2.2.2.2.1 ht) (q_P1 hH he) 0 0 rfl rfl hin hd (kk p e R u m args below meth co H locs la E hL hH h1 h2)
theorem q_ev_rf (g : q_G) (r : Option Nat) : va_rf (r.map (fun a => q_b g + a)) = q_ev g (va_rf r) := by cases r <;> rfl
theorem q_aald {a t n : Nat} {f : Nat → Option Nat} {i : Int32} {C : String} {v : Value} (hd : decode M.2.1 pc = .ok (.aaload, 1)) (he : hp[a]? = some (.inl (t, n, .inr (.inr (.inr (.inr f)))))) (ht : q_ty[t]? = some (.object C)) (hin : vp_in i n) (hv : va_rf (f i.toNatClampNeg) = v) (kk : q_J g M fr rm P (pc + 1) ls (v :: st) hp c s w) : q_J g M fr rm P pc ls (.int i :: .ref a :: st) hp c s w := by
  intro p e R u m args below meth co H locs la E hL hH h1 h2
  subst hv
  have h3 := kk p e R u m args below meth co H locs la E hL hH h1 h2
  rw [List.map_cons, ← q_ev_rf] at h3
  exact va_aldq (D := q_D g) (cl := q_cl) E.2.1 E.2.2.1 (q_K1 E.1 E.2.2.2.2.2.1 ht) (q_P1 hH he) 0 0 rfl rfl hin hd h3
theorem q_alen {a t : Nat} {x : vp_A} {ty : FieldType} {v : Int32} (hd : decode M.2.1 pc = .ok (.arraylength, 1)) (he : hp[a]? = some (.inl (t, x))) (ht : q_ty[t]? = some ty) (hv : Int32.ofNat x.1 = v) (kk : q_J g M fr rm P (pc + 1) ls (.int v :: st) hp c s w) : q_J g M fr rm P pc ls (.ref a :: st) hp c s w := by
  intro p e R u m args below meth co H locs la E hL hH h1 h2
  have hK := q_K1 E.1 E.2.2.2.2.2.1 ht
  have hP := q_P1 hH he
  have h3 := kk p e R u m args below meth co H locs la E hL hH h1 h2
  obtain ⟨n, f | f | f | f | f⟩ := x
  · exact va_alen (D := q_D g) (cl := q_cl) E.2.1 E.2.2.1 hK hP 0 0 rfl rfl hv hd h3
  · exact va_alen (D := q_D g) (cl := q_cl) E.2.1 E.2.2.1 hK hP 0 0 rfl rfl hv hd h3
  · exact va_alen (D := q_D g) (cl := q_cl) E.2.1 E.2.2.1 hK hP 0 0 rfl rfl hv hd h3
  · exact va_alen (D := q_D g) (cl := q_cl) E.2.1 E.2.2.1 hK hP 0 0 rfl rfl hv hd h3
  · exact va_alen (D := q_D g) (cl := q_cl) E.2.1 E.2.2.1 hK hP 0 0 rfl rfl hv hd h3
theorem q_sald {i : Int32} {z : Nat} (hd : decode M.2.1 pc = .ok (.iaload, 1)) (hin : vp_in i (q_x g).2.1) (kk : q_J g M fr rm P (pc + 1) ls (.int ((q_x g).2.2 i.toNatClampNeg) :: st) hp c s w) : q_J g M fr rm P pc ls (.int i :: .retAddr z :: st) hp c s w := by
  intro p e R u m args below meth co H locs la E hL hH h1 h2
  obtain ⟨scr, a1, a2, a3, a4, a5⟩ := E.1.2.2.2.1
  have hb : (q_x g).1 < q_b g := (Array.getElem?_eq_some_iff.mp a1).1
  have hlt : i.toNatClampNeg < (q_x g).2.1 := Nat.not_le.mp fun q => hin (Or.inr q)
  exact W.iald (v := .int ((q_x g).2.2 i.toNatClampNeg)) E.2.1 E.2.2.1 (by rw [hH.2.1 _ hb]; exact a1) (State.isArrayOf_alike E.2.2.2.2.2.1.alike a2) a3 (by rw [a4]; exact hin) (a5 _ hlt) rfl rfl hd (kk p e R u m args below meth co H locs la E hL hH h1 h2)
theorem q_slen {z : Nat} (hd : decode M.2.1 pc = .ok (.arraylength, 1)) (kk : q_J g M fr rm P (pc + 1) ls (.int (Int32.ofNat (q_x g).2.1) :: st) hp c s w) : q_J g M fr rm P pc ls (.retAddr z :: st) hp c s w := by
  intro p e R u m args below meth co H locs la E hL hH h1 h2
  obtain ⟨scr, a1, a2, a3, a4, a5⟩ := E.1.2.2.2.1
  have hb : (q_x g).1 < q_b g := (Array.getElem?_eq_some_iff.mp a1).1
  exact W.alen (n := Int32.ofNat (q_x g).2.1) E.2.1 E.2.2.1 (by rw [hH.2.1 _ hb]; exact a1) (State.isArrayOf_alike E.2.2.2.2.2.1.alike a2) (by rw [a4] <;> rfl) rfl rfl hd (kk p e R u m args below meth co H locs la E hL hH h1 h2)
theorem q_iast {a t n : Nat} {f : Nat → Int32} {i : Int32} {x : Int32} (hd : decode M.2.1 pc = .ok (.iastore, 1)) (he : hp[a]? = some (.inl (t, n, .inl f))) (ht : q_ty[t]? = some .int) (hin : vp_in i n) (kk : q_J g M fr rm P (pc + 1) ls st (hp.set a (.inl (t, n, .inl (upd f i.toNatClampNeg x)))) c s true) : q_J g M fr rm P pc ls (.int x :: .int i :: .ref a :: st) hp c s w := by
  intro p e R u m args below meth co H locs la E hL hH h1 h2
  refine W.iast E.2.1 E.2.2.1 (hH.2.2 a _ he) (((q_K1 E.1 E.2.2.2.2.2.1 ht).2 0 _ rfl).1 n (fun j => .int (f j))) (fun q => by cases q) (by show ¬ (i < 0 ∨ (arrV _ _ _).slots.size ≤ _); rw [arrV_size]; exact hin) rfl rfl hd fun H1 e1 z oq => ?_
  refine kk p e R u m args below meth co H1 _ la E hL (hH.set he z oq ?_) (q_locs h1) (fun h => by cases h)
  show H1[_]? = some (vp_cell _ _)
  rw [e1]
  rw [vp_cell_i]
  show some ((arrV _ _ _).setSlot _ _) = _
  rw [arrV_store]
  show some (arrV (q_t g t) n _) = some (arrV (q_t g t) n (fun j => .int (upd f i.toNatClampNeg x j)))
  refine congrArg (fun z => some (arrV (q_t g t) n z)) (funext fun q => ?_)
  by_cases hq : q = i.toNatClampNeg
  · subst hq
    simp [updV, upd]
  · simp [updV, upd, hq]
theorem q_bast {a t n : Nat} {f : Nat → Int32} {i : Int32} {x : Int32} (hd : decode M.2.1 pc = .ok (.bastore, 1)) (he : hp[a]? = some (.inl (t, n, .inl f))) (ht : q_ty[t]? = some .byte) (hin : vp_in i n) (kk : q_J g M fr rm P (pc + 1) ls st (hp.set a (.inl (t, n, .inl (upd f i.toNatClampNeg (vp_nar .byte x))))) c s true) : q_J g M fr rm P pc ls (.int x :: .int i :: .ref a :: st) hp c s w := by
  intro p e R u m args below meth co H locs la E hL hH h1 h2
  refine W.bast E.2.1 E.2.2.1 (hH.2.2 a _ he) (((q_K1 E.1 E.2.2.2.2.2.1 ht).2 0 _ rfl).1 n (fun j => .int (f j))) (fun q => by cases q) (by show ¬ (i < 0 ∨ (arrV _ _ _).slots.size ≤ _); rw [arrV_size]; exact hin) rfl rfl hd fun H1 e1 z oq => ?_
  refine kk p e R u m args below meth co H1 _ la E hL (hH.set he z oq ?_) (q_locs h1) (fun h => by cases h)
  show H1[_]? = some (vp_cell _ _)
  rw [e1]
  rw [vp_cell_i]
  show some ((arrV _ _ _).setSlot _ _) = _
  rw [arrV_store]
  show some (arrV (q_t g t) n _) = some (arrV (q_t g t) n (fun j => .int (upd f i.toNatClampNeg (vp_nar .byte x) j)))
  refine congrArg (fun z => some (arrV (q_t g t) n z)) (funext fun q => ?_)
  by_cases hq : q = i.toNatClampNeg
  · subst hq
    simp [updV, upd, vp_nar, narrow]
  · simp [updV, upd, hq]
theorem q_zast {a t n : Nat} {f : Nat → Int32} {i : Int32} {x : Int32} (hd : decode M.2.1 pc = .ok (.bastore, 1)) (he : hp[a]? = some (.inl (t, n, .inl f))) (ht : q_ty[t]? = some .boolean) (hin : vp_in i n) (kk : q_J g M fr rm P (pc + 1) ls st (hp.set a (.inl (t, n, .inl (upd f i.toNatClampNeg (vp_nar .boolean x))))) c s true) : q_J g M fr rm P pc ls (.int x :: .int i :: .ref a :: st) hp c s w := by
  intro p e R u m args below meth co H locs la E hL hH h1 h2
  refine W.zast E.2.1 E.2.2.1 (hH.2.2 a _ he) (((q_K1 E.1 E.2.2.2.2.2.1 ht).2 0 _ rfl).1 n (fun j => .int (f j))) (fun q => by cases q) (by show ¬ (i < 0 ∨ (arrV _ _ _).slots.size ≤ _); rw [arrV_size]; exact hin) rfl rfl hd fun H1 e1 z oq => ?_
  refine kk p e R u m args below meth co H1 _ la E hL (hH.set he z oq ?_) (q_locs h1) (fun h => by cases h)
  show H1[_]? = some (vp_cell _ _)
  rw [e1]
  rw [vp_cell_i]
  show some ((arrV _ _ _).setSlot _ _) = _
  rw [arrV_store]
  show some (arrV (q_t g t) n _) = some (arrV (q_t g t) n (fun j => .int (upd f i.toNatClampNeg (vp_nar .boolean x) j)))
  refine congrArg (fun z => some (arrV (q_t g t) n z)) (funext fun q => ?_)
  by_cases hq : q = i.toNatClampNeg
  · subst hq
    simp [updV, upd, vp_nar, narrow]
  · simp [updV, upd, hq]
theorem q_last {a t n : Nat} {f : Nat → Int64} {i : Int32} {x : Int64} (hd : decode M.2.1 pc = .ok (.lastore, 1)) (he : hp[a]? = some (.inl (t, n, .inr (.inl f)))) (ht : q_ty[t]? = some .long) (hin : vp_in i n) (kk : q_J g M fr rm P (pc + 1) ls st (hp.set a (.inl (t, n, .inr (.inl (vp_updL f i.toNatClampNeg x))))) c s true) : q_J g M fr rm P pc ls (.long x :: .int i :: .ref a :: st) hp c s w := by
  intro p e R u m args below meth co H locs la E hL hH h1 h2
  refine W.last E.2.1 E.2.2.1 (hH.2.2 a _ he) (((q_K1 E.1 E.2.2.2.2.2.1 ht).2 0 _ rfl).1 n (fun j => .long (f j))) (fun q => by cases q) (by show ¬ (i < 0 ∨ (arrV _ _ _).slots.size ≤ _); rw [arrV_size]; exact hin) rfl rfl hd fun H1 e1 z oq => ?_
  refine kk p e R u m args below meth co H1 _ la E hL (hH.set he z oq ?_) (q_locs h1) (fun h => by cases h)
  show H1[_]? = some (vp_cell _ _)
  rw [e1]
  rw [vp_cell_l]
  show some ((arrV _ _ _).setSlot _ _) = _
  rw [arrV_store]
  show some (arrV (q_t g t) n _) = some (arrV (q_t g t) n (fun j => .long (vp_updL f i.toNatClampNeg x j)))
  refine congrArg (fun z => some (arrV (q_t g t) n z)) (funext fun q => ?_)
  by_cases hq : q = i.toNatClampNeg
  · subst hq
    simp [updV, vp_updL]
  · simp [updV, vp_updL, hq]
theorem q_aast {a b t n ci : Nat} {r : vw_C} {vs : List Value} {f : Nat → Option Nat} {i : Int32} (hd : decode M.2.1 pc = .ok (.aastore, 1)) (he : hp[a]? = some (.inl (t, n, .inr (.inr (.inr (.inr f)))))) (ht : q_ty[t]? = some (.object r.1)) (hb : hp[b]? = some (.inr (ci, vs))) (hc : q_cl[ci]? = some r) (hin : vp_in i n) (kk : q_J g M fr rm P (pc + 1) ls st (hp.set a (.inl (t, n, .inr (.inr (.inr (.inr (va_up f i.toNatClampNeg (some b)))))))) c s true) : q_J g M fr rm P pc ls (.ref b :: .int i :: .ref a :: st) hp c s w := by
  intro p e R u m args below meth co H locs la E hL hH h1 h2
  have hlt : i.toNatClampNeg < n := Nat.not_le.mp fun q => hin (Or.inr q)
  have h0 : ¬ i < 0 := fun q => hin (Or.inl q)
  obtain ⟨r', hr', cellV, g1, g2, g3, -⟩ := hH.2.2 b _ hb
  have hK := q_K1 E.1 E.2.2.2.2.2.1 ht
  have hcls := (hK.1 ci r hc).2
  obtain ⟨kA, comp, k1, k2, k3, -⟩ := (hK.2 0 _ rfl).2
  have hcomp : comp = (q_D g).1 ci := Option.some.inj (k3.symm.trans hcls.1)
  subst hcomp
  obtain ⟨kC, hkC, -⟩ := hcls.2
  refine W.aast E.2.1 E.2.2.1 (hH.2.2 a _ he) (fun q h => by cases h) (fun h => by cases h) k1 k2 rfl hkC ⟨h0, by show _ < (arrV _ _ _).slots.size; rw [arrV_size]; exact hlt⟩ g1 (fun q h => by rw [g3] at h; cases h) (by rw [g2]; exact hkC) (by rw [g2]; exact va_assign hcls) rfl rfl hd fun H1 e1 z oq => ?_
  refine kk p e R u m args below meth co H1 _ la E hL (hH.set he z oq ?_) (q_locs h1) (fun h => by cases h)
  show H1[_]? = some (vp_cell _ _)
  rw [e1]
  rw [vp_cell_q]
  show some ((arrV _ _ _).setSlot _ _) = _
  rw [arrV_store]
  show some (arrV (q_t g t) n _) = some (arrV (q_t g t) n (fun j => va_rf ((va_up f i.toNatClampNeg (some b) j).map (fun a => q_b g + a))))
  refine congrArg (fun z => some (arrV (q_t g t) n z)) (funext fun q => ?_)
  by_cases hq : q = i.toNatClampNeg
  · subst hq
    simp [updV, va_up, va_rf]
  · simp [updV, va_up, hq]
/-- a class that 'new' names -/
def q_N (own : String) (idx ci N : Nat) : Prop := ∃ q : vw_C, q_cl[ci]? = some q ∧ q.2.2 = N ∧ Jvm.Cond.classLink own idx q.1 ∈ q_gw ∧ Jvm.Cond.instantiable q.1 q.2.2 ∈ q_gw ∧ Jvm.Cond.initialized q.1 ∈ q_gw
def q_df (ci N : Nat) : List Value := (List.range N).map (fun k => defaultValue (q_tf ci k))
theorem q_ev_df (g : q_G) (ty : FieldType) : q_ev g (defaultValue ty) = defaultValue ty := by cases ty <;> rfl
theorem q_new {idx ci N : Nat} {fs : List Value} (hd : decode M.2.1 pc = .ok (.new idx, 3)) (hN : q_N M.1.cls idx ci N) (hfs : q_df ci N = fs) (hc : c + 1 ≤ rm.cells) (hs : s + N ≤ rm.slots) (kk : q_J g M fr rm P (pc + 3) ls (.ref hp.length :: st) (hp ++ [.inr (ci, fs)]) (c + 1) (s + N) true) : q_J g M fr rm P pc ls st hp c s w := by
  intro p e R u m args below meth co H locs la E hL hH h1 h2
  obtain ⟨q, hq, rfl, k1, k2, k3⟩ := hN
  have hu := E.2.2.2.2.2.1
  have hKn := (q_K0 E.1 hu).1 ci _ hq
  refine W.newcK E.2.1 E.2.2.1 E.2.2.2.2.1 (q_word E.1 hu k1 rfl) (q_word E.1 hu k2 rfl) (q_word E.1 hu k3 rfl) rfl hd (Nat.le_trans hc E.2.2.2.2.2.2.2.2.2.2.2.1) (Nat.le_trans hs E.2.2.2.2.2.2.2.2.2.2.2.2.1) hKn.2.1 hH.1 fun H1 kC hkC e1 z1 o1 => ?_
  refine kk p e R u m args below meth co H1 locs la E hL (hH.push (by rw [z1, hH.1]) (fun x hx => o1 x (by rw [← hH.1]; exact hx)) ?_) (fun x hx => ⟨rfl, (h1 x hx).2⟩) (fun h => by cases h)
  rw [hH.1]
  refine ⟨q, hq, (u_born (q_tf ci) (q_lays E.1 hu (args := args) hq) (fun _ h => h) hKn hkC e1 (q_cl_ty ci q hq)).to fun k hk => ?_⟩
  subst hfs
  simp [vp_V, q_df, hk, q_ev_df]
theorem q_newa_i {t N : Nat} {n : Int32} (hd : decode M.2.1 pc = .ok (.newarray .int, 2)) (ht : q_ty[t]? = some .int) (hw : Jvm.Cond.arrayClass .int ∈ q_gw) (hn : ¬ n < 0) (hN : n.toNatClampNeg = N) (hb : N * 4 ≤ 536870912) (hc : c + 1 ≤ rm.cells) (hs : s + N ≤ rm.slots) (kk : q_J g M fr rm P (pc + 2) ls (.ref hp.length :: st) (hp ++ [.inl (t, N, .inl (fun _ => 0))]) (c + 1) (s + N) true) : q_J g M fr rm P pc ls (.int n :: st) hp c s w := by
  intro p e R u m args below meth co H locs la E hL hH h1 h2
  have hu := E.2.2.2.2.2.1
  refine va_newaK (atype := .int) E.2.1 E.2.2.1 (q_word E.1 hu hw rfl) rfl hd rfl hn hN hb (Nat.le_trans hc E.2.2.2.2.2.2.2.2.2.2.2.1) (Nat.le_trans hs E.2.2.2.2.2.2.2.2.2.2.2.2.1) hH.1 fun H1 cA e1 z1 o1 _ hNm => ?_
  have hcA : cA = q_t g t := Option.some.inj (hNm.symm.trans ((q_K1 E.1 hu ht).2 0 _ rfl).2)
  subst hcA
  refine kk p e R u m args below meth co H1 locs la E hL (hH.push (by rw [z1, hH.1]) (fun x hx => o1 x (by rw [← hH.1]; exact hx)) ?_) (fun x hx => ⟨rfl, (h1 x hx).2⟩) (fun h => by cases h)
  rw [hH.1]
  exact e1
theorem q_newa_b {t N : Nat} {n : Int32} (hd : decode M.2.1 pc = .ok (.newarray .byte, 2)) (ht : q_ty[t]? = some .byte) (hw : Jvm.Cond.arrayClass .byte ∈ q_gw) (hn : ¬ n < 0) (hN : n.toNatClampNeg = N) (hb : N * 1 ≤ 536870912) (hc : c + 1 ≤ rm.cells) (hs : s + N ≤ rm.slots) (kk : q_J g M fr rm P (pc + 2) ls (.ref hp.length :: st) (hp ++ [.inl (t, N, .inl (fun _ => 0))]) (c + 1) (s + N) true) : q_J g M fr rm P pc ls (.int n :: st) hp c s w := by
  intro p e R u m args below meth co H locs la E hL hH h1 h2
  have hu := E.2.2.2.2.2.1
  refine va_newaK (atype := .byte) E.2.1 E.2.2.1 (q_word E.1 hu hw rfl) rfl hd rfl hn hN hb (Nat.le_trans hc E.2.2.2.2.2.2.2.2.2.2.2.1) (Nat.le_trans hs E.2.2.2.2.2.2.2.2.2.2.2.2.1) hH.1 fun H1 cA e1 z1 o1 _ hNm => ?_
  have hcA : cA = q_t g t := Option.some.inj (hNm.symm.trans ((q_K1 E.1 hu ht).2 0 _ rfl).2)
  subst hcA
  refine kk p e R u m args below meth co H1 locs la E hL (hH.push (by rw [z1, hH.1]) (fun x hx => o1 x (by rw [← hH.1]; exact hx)) ?_) (fun x hx => ⟨rfl, (h1 x hx).2⟩) (fun h => by cases h)
  rw [hH.1]
  exact e1
theorem q_newa_z {t N : Nat} {n : Int32} (hd : decode M.2.1 pc = .ok (.newarray .boolean, 2)) (ht : q_ty[t]? = some .boolean) (hw : Jvm.Cond.arrayClass .boolean ∈ q_gw) (hn : ¬ n < 0) (hN : n.toNatClampNeg = N) (hb : N * 1 ≤ 536870912) (hc : c + 1 ≤ rm.cells) (hs : s + N ≤ rm.slots) (kk : q_J g M fr rm P (pc + 2) ls (.ref hp.length :: st) (hp ++ [.inl (t, N, .inl (fun _ => 0))]) (c + 1) (s + N) true) : q_J g M fr rm P pc ls (.int n :: st) hp c s w := by
  intro p e R u m args below meth co H locs la E hL hH h1 h2
  have hu := E.2.2.2.2.2.1
  refine va_newaK (atype := .boolean) E.2.1 E.2.2.1 (q_word E.1 hu hw rfl) rfl hd rfl hn hN hb (Nat.le_trans hc E.2.2.2.2.2.2.2.2.2.2.2.1) (Nat.le_trans hs E.2.2.2.2.2.2.2.2.2.2.2.2.1) hH.1 fun H1 cA e1 z1 o1 _ hNm => ?_
  have hcA : cA = q_t g t := Option.some.inj (hNm.symm.trans ((q_K1 E.1 hu ht).2 0 _ rfl).2)
  subst hcA
  refine kk p e R u m args below meth co H1 locs la E hL (hH.push (by rw [z1, hH.1]) (fun x hx => o1 x (by rw [← hH.1]; exact hx)) ?_) (fun x hx => ⟨rfl, (h1 x hx).2⟩) (fun h => by cases h)
  rw [hH.1]
  exact e1
theorem q_newa_l {t N : Nat} {n : Int32} (hd : decode M.2.1 pc = .ok (.newarray .long, 2)) (ht : q_ty[t]? = some .long) (hw : Jvm.Cond.arrayClass .long ∈ q_gw) (hn : ¬ n < 0) (hN : n.toNatClampNeg = N) (hb : N * 8 ≤ 536870912) (hc : c + 1 ≤ rm.cells) (hs : s + N ≤ rm.slots) (kk : q_J g M fr rm P (pc + 2) ls (.ref hp.length :: st) (hp ++ [.inl (t, N, .inr (.inl (fun _ => 0)))]) (c + 1) (s + N) true) : q_J g M fr rm P pc ls (.int n :: st) hp c s w := by
  intro p e R u m args below meth co H locs la E hL hH h1 h2
  have hu := E.2.2.2.2.2.1
  refine va_newaK (atype := .long) E.2.1 E.2.2.1 (q_word E.1 hu hw rfl) rfl hd rfl hn hN hb (Nat.le_trans hc E.2.2.2.2.2.2.2.2.2.2.2.1) (Nat.le_trans hs E.2.2.2.2.2.2.2.2.2.2.2.2.1) hH.1 fun H1 cA e1 z1 o1 _ hNm => ?_
  have hcA : cA = q_t g t := Option.some.inj (hNm.symm.trans ((q_K1 E.1 hu ht).2 0 _ rfl).2)
  subst hcA
  refine kk p e R u m args below meth co H1 locs la E hL (hH.push (by rw [z1, hH.1]) (fun x hx => o1 x (by rw [← hH.1]; exact hx)) ?_) (fun x hx => ⟨rfl, (h1 x hx).2⟩) (fun h => by cases h)
  rw [hH.1]
  exact e1
theorem q_newq {idx t N : Nat} {n : Int32} {C : String} (hd : decode M.2.1 pc = .ok (.anewarray idx, 3)) (ht : q_ty[t]? = some (.object C)) (hw : Jvm.Cond.classLink M.1.cls idx C ∈ q_gw) (ho : Jvm.Cond.arrayOver (.object C) ∈ q_gw) (hn : ¬ n < 0) (hN : n.toNatClampNeg = N) (hb : N * 4 ≤ 536870912) (hc : c + 1 ≤ rm.cells) (hs : s + N ≤ rm.slots) (kk : q_J g M fr rm P (pc + 3) ls (.ref hp.length :: st) (hp ++ [.inl (t, N, .inr (.inr (.inr (.inr (fun _ => none)))))]) (c + 1) (s + N) true) : q_J g M fr rm P pc ls (.int n :: st) hp c s w := by
  intro p e R u m args below meth co H locs la E hL hH h1 h2
  have hu := E.2.2.2.2.2.1
  subst hN
  refine W.anew E.2.1 E.2.2.1 E.2.2.2.2.1 (q_word E.1 hu hw rfl) (va_AO.use (va_AO.moved hu.alike (va_AO.of (E.1.1 _ ho)))) rfl hd rfl hn hb (Nat.le_trans hc E.2.2.2.2.2.2.2.2.2.2.2.1) (Nat.le_trans hs E.2.2.2.2.2.2.2.2.2.2.2.2.1) fun cA kA comp f1 f2 f3 f4 => ?_
  obtain ⟨kB, cB, -, -, -, f5⟩ := ((q_K1 E.1 hu ht).2 0 _ rfl).2
  have hcA : cA = q_t g t := Option.some.inj (f1.symm.trans f5)
  subst hcA
  generalize hH1 : H.push ({ cls := q_t g t, slots := Array.replicate n.toNatClampNeg .null, vm := .none } : Cell) = H1
  have z1 : H1.size = H.size + 1 := by rw [← hH1, Array.size_push]
  have e1 : H1[H.size]? = some (arrV (q_t g t) n.toNatClampNeg (fun _ => .null)) := by rw [← hH1, Array.getElem?_push_size, ← arrV_new]
  have o1 : ∀ q : Nat, q < H.size → H1[q]? = H[q]? := fun q hq => by rw [← hH1, Array.getElem?_push, if_neg (Nat.ne_of_lt hq)]
  have h3 := kk p e R u m args below meth co H1 locs la E hL (hH.push z1 o1 e1) (fun x hx => ⟨rfl, (h1 x hx).2⟩) (fun h => by cases h)
  rw [hH.1]
  exact h3
end ENG3
