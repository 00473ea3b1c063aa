/-! a set copied -/
section C16
set_option maxRecDepth 100000 in
theorem ac_1 : Jvm.Cond.methodLink "StuckSearch$StateSet" 25 arraycopyName ∈ q_gw := q_i 726 (by rfl)
set_option maxRecDepth 100000 in
theorem ac_2 : Jvm.Cond.native arraycopyName ∈ q_gw := q_i 728 (by rfl)
set_option maxRecDepth 100000 in
theorem ac_3 : Jvm.Cond.static arraycopyName ∈ q_gw := q_i 727 (by rfl)
set_option maxRecDepth 100000 in
theorem ac_4 : Jvm.Cond.initialized "java/lang/System" ∈ q_gw := q_i 21 (by rfl)
section
variable {g : q_G} {M : q_Me} {fr : Bool} {rm : Room} {P : Outcome → List va_E → Prop} {pc : Nat} {ls : List (Option Value)} {st : List Value} {hp : List va_E} {c s : Nat} {w : Bool}
set_option maxHeartbeats 1000000 in
theorem x_acopy {idx a b t n : Nat} {f h : Nat → Int64} {x : Int32} (hd : decode M.2.1 pc = .ok (.invokestatic idx, 3)) (hlk : Jvm.Cond.methodLink M.1.cls idx arraycopyName ∈ q_gw) (hnat : Jvm.Cond.native arraycopyName ∈ q_gw) (hsta : Jvm.Cond.static arraycopyName ∈ q_gw) (hini : Jvm.Cond.initialized "java/lang/System" ∈ q_gw) (ha : hp[a]? = some (.inl (t, n, .inr (.inl f)))) (hb : hp[b]? = some (.inl (t, n, .inr (.inl h)))) (ht : q_ty[t]? = some .long) (hx : x = nI n) (hn : n < 2 ^ 31) (hf : 1 ≤ rm.frames) (hl : (st.map fun v => v.category).sum + (nativeFrameWords "java/lang/System" "arraycopy" 5 + 11) ≤ rm.locals) (k : q_J g M fr rm P (pc + 3) ls st (hp.set b (.inl (t, n, .inr (.inl (va_cpy f h 0 0 n))))) c s true) : q_J g M fr rm P pc ls (.int x :: .int 0 :: .ref b :: .int 0 :: .ref a :: st) hp c s w := by
  subst hx
  intro p e R u m args below meth co H locs la E hL hH h1 h2
  have hu := E.2.2.2.2.2.1
  have hR1 := E.2.2.2.2.2.2.2.2.2.1
  have hR2 := E.2.2.2.2.2.2.2.2.2.2.1
  have hcat : ((st.map (q_ev g)).map fun v => v.category).sum = (st.map fun v => v.category).sum := by
    rw [List.map_map]
    exact congrArg List.sum (List.map_congr_left (fun v _ => q_ev_cat g v))
  have hK := (q_K1 E.1 hu ht).2 0 _ rfl
  obtain ⟨-, k0, hk0, cm0, hkk0⟩ := hK.1 n (fun j => .long (f j))
  obtain ⟨-, k1, hk1, cm1, hkk1⟩ := hK.1 n (fun j => .long (h j))
  have ca : H[q_b g + a]? = some (vp_cell (q_t g t) (n, .inr (.inl f))) := hH.2.2 a _ ha
  have cb : H[q_b g + b]? = some (vp_cell (q_t g t) (n, .inr (.inl h))) := hH.2.2 b _ hb
  have hz : (nI n).toNatClampNeg = n := nI_clamp hn
  intro T hT X
  obtain ⟨vm', X', step⟩ := X.arraycopy E.2.1 E.2.2.2.2.1 (q_word E.1 hu hlk rfl) (q_word E.1 hu hnat rfl) (q_word E.1 hu hsta rfl) (q_word E.1 hu hini rfl) (src := q_b g + a) (dst := q_b g + b) (cs := vp_cell (q_t g t) (n, .inr (.inl f))) (cd := vp_cell (q_t g t) (n, .inr (.inl h))) (srcPos := 0) (destPos := 0) (n := nI n) (by rw [hT]; exact ca) (by rw [hT]; exact cb)
    (fun _ h => by cases h) (fun _ h => by cases h) (fun h => by cases h) (fun h => by cases h) hk0 hk1 hkk0 hkk1 (show _ = _ from rfl) (by decide) (by decide) (nI_pos hn)
    (by rw [nI_toInt hn]; show ¬ (0 : Int) + _ > ((arrV (q_t g t) n (fun j => .long (f j))).slots.size : Int); rw [arrV_size]; omega)
    (by rw [nI_toInt hn]; show ¬ (0 : Int) + _ > ((arrV (q_t g t) n (fun j => .long (h j))).slots.size : Int); rw [arrV_size]; omega)
    (fun vm₁ _ i hi => by
      rw [hz] at hi
      have e1 : (vp_cell (q_t g t) (n, .inr (.inl f))).slots.getD ((0 : Int32).toNatClampNeg + i) .null = .long (f i) := by
        show (arrV (q_t g t) n (fun j => .long (f j))).slots.getD (0 + i) _ = _
        rw [Nat.zero_add, Array.getD_eq_getD_getElem?, arrV_read _ _ hi]
        rfl
      rw [e1]
      exact ⟨rfl, trivial⟩)
    (g := F0 m pc la (.int (nI n) :: .int 0 :: .ref (q_b g + b) :: .int 0 :: .ref (q_b g + a) :: st.map (q_ev g))) rfl (by rw [E.2.2.2.1]; exact hL.1) (rest := st.map (q_ev g)) rfl (by rw [E.2.2.1]; exact hd) (by omega) (by show 2 * 0 + _ + _ ≤ _; omega)
  have e1 : copied (vp_cell (q_t g t) (n, .inr (.inl f))) (vp_cell (q_t g t) (n, .inr (.inl h))) 0 0 (nI n) = vp_cell (q_t g t) (n, .inr (.inl (va_cpy f h 0 0 n))) := by
    have := va_copied (fun z => .long z) (q_t g t) (q_t g t) (sp := 0) (dp := 0) (n := n) (n0 := n) (n1 := n) f h (by omega)
    show (vp_cell (q_t g t) (n, .inr (.inl h))).storeRun 0 ((vp_cell (q_t g t) (n, .inr (.inl f))).stretch 0 (nI n).toNatClampNeg) = _
    rw [hz]
    exact this
  rw [e1] at X' step
  have hlt : q_b g + b < H.size := (Array.getElem?_eq_some_iff.mp cb).1
  have hheap : ((T.setVm vm').setCell (q_b g + b) (vp_cell (q_t g t) (n, .inr (.inl (va_cpy f h 0 0 n))))).heap = H.setIfInBounds (q_b g + b) (vp_cell (q_t g t) (n, .inr (.inl (va_cpy f h 0 0 n)))) := by rw [← hT]; rfl
  obtain ⟨t, a1, b1⟩ := k p e R u m args below meth co _ _ la E hL (hH.set hb (H1 := H.setIfInBounds (q_b g + b) (vp_cell (q_t g t) (n, .inr (.inl (va_cpy f h 0 0 n))))) (by simp) (fun q hq => by simp [Array.getElem?_setIfInBounds, Ne.symm hq]) (show (H.setIfInBounds (q_b g + b) _)[q_b g + b]? = some (vp_cell _ _) by simp [Array.getElem?_setIfInBounds, hlt])) (fun q hq => by
      rcases List.mem_append.mp hq with h | h
      · exact ⟨rfl, (h1 q h).2⟩
      · obtain ⟨z, -, hz⟩ := List.mem_map.mp h
        rw [← hz]
        exact ⟨rfl, Nat.le_add_right _ _⟩) (fun h => by cases h) _ hheap X'
  exact ⟨t, step t a1, b1⟩
end
variable {g : q_G}
theorem cpy_all {f h : Nat → Nat} {n : Nat} : va_cpy (fun j => lN (f j)) (fun j => lN (h j)) 0 0 n = fun j => lN (if j < n then f j else h j) := by
  funext j
  unfold va_cpy
  by_cases q : j < n
  · rw [if_pos (by omega), if_pos q]
    show lN (f _) = _
    congr 2
    omega
  · rw [if_neg (by omega), if_neg q]
set_option maxRecDepth 10000 in
set_option maxHeartbeats 2000000 in
theorem k_copy (hG : q_GG g) {hp : List va_E} {a b : Nat} {M N : Nat → Bool} (ha : ss_A a M hp) (hb : ss_A b N hp) (hab : a ≠ b) (hab2 : a + 1 ≠ b + 1): q_C g m_Ss_copyFrom true (q_R 1 20 0 0) [.ref a, .ref b] hp (q_ho none (fun hp2 => ss_A a N hp2 ∧ F_2 a hp hp2)) := by
  refine q_C.of hG (by decide) (Nat.le_of_ble_eq_true rfl) ?_
  obtain ⟨la, ya, h_s, h_x, a3, a4, a5, a6⟩ := ha
  obtain ⟨lb, yb, h_t, h_y, b3, b4, b5, b6⟩ := hb
  refine q_aload_n d_Ss_copyFrom_0 rfl rfl ?_
  refine q_get d_Ss_copyFrom_1 f_Ss_11 h_t rfl ?_
  refine q_iconst (v := 0) d_Ss_copyFrom_4 (by decide) ?_
  refine q_aload_n d_Ss_copyFrom_5 rfl rfl ?_
  refine q_get d_Ss_copyFrom_6 f_Ss_11 h_s rfl ?_
  refine q_iconst (v := 0) d_Ss_copyFrom_9 (by decide) ?_
  refine q_sipush (v := 469) d_Ss_copyFrom_10 (by decide) ?_
  refine x_acopy d_Ss_copyFrom_13 ac_1 ac_2 ac_3 ac_4 h_y h_x rfl rfl (by decide) (by decide) (by decide) ?_
  rw [cpy_all]
  have e0 : hp.set (a + 1) (a_S (fun j => if j < 469 then yb j else ya j)) = hp.set (a + 1) (a_S (fun j => if j < 469 then yb j else ya j)) := rfl
  have h_s := q_keep e0 h_s (show a + 1 ≠ a by omega)
  have h_x := q_self (hp := hp) (y := a_S (fun j => if j < 469 then yb j else ya j)) h_x
  refine q_aload_n d_Ss_copyFrom_16 rfl rfl ?_
  refine q_iconst (v := 0) d_Ss_copyFrom_17 (by decide) ?_
  refine x_put d_Ss_copyFrom_18 f_Ss_15 h_s (Nat.le_of_ble_eq_true rfl) rfl rfl (fun hp1 e1 h_s => ?_)
  have h_x := q_keep e1 h_x (by omega)
  refine q_vret d_Ss_copyFrom_21 rfl ?_ (Nat.le_of_ble_eq_true rfl) (Nat.le_of_ble_eq_true rfl) (by decide)
  subst e1
  refine ⟨_, rfl, rfl, ⟨0, fun j => if j < 469 then yb j else ya j, h_s, h_x, fun j => ?_, by omega, fun j hj => by omega, fun m hm => ?_⟩, F_2.two hp⟩
  · show (if j < 469 then yb j else ya j) < 2 ^ 64
    split
    · exact b3 j
    · exact a3 j
  · rw [← b6 m hm]
    show (if m / 64 < 469 then yb (m / 64) else ya (m / 64)).testBit _ = (yb (m / 64)).testBit _
    rw [if_pos (by omega)]
end C16
