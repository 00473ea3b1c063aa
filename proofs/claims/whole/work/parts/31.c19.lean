/-! Search: ahead -/
section C19
variable {g : q_G}
def S_W (w : w_T) (hp : List va_E) : Prop := (∃ f : Nat → Int32, hp[79]? = some (a_I 6 f) ∧ ∀ q, q < w_p w → f q = nI (w_pw w q)) ∧ ∃ f : Nat → Int32, hp[80]? = some (a_I 5 f) ∧ ∀ v, v < 5 → f v = nI (w_vw w v)
/-- the search: its sets, its state, its counts -/
def S_A (w : w_T) (R St Fa Wa : Nat → Bool) (pl vl : Nat → Nat) (o : Nat × Nat × Nat × Nat) (hp : List va_E) : Prop := w_A w hp ∧ hp[67]? = some (o_Se o.1 o.2.1 o.2.2.1 o.2.2.2) ∧ ss_A 68 R hp ∧ ss_A 70 St hp ∧ ss_A 72 Fa hp ∧ ss_A 74 Wa hp ∧ s_A 76 pl vl hp ∧ S_W w hp
def F_S (hp hp' : List va_E) : Prop := hp'.length = hp.length ∧ ∀ k, k < 67 ∨ 80 < k → hp'[k]? = hp[k]?
theorem F_S.refl (hp : List va_E) : F_S hp hp := ⟨rfl, fun _ _ => rfl⟩
theorem F_S.trans {h1 h2 h3 : List va_E} (a : F_S h1 h2) (b : F_S h2 h3) : F_S h1 h3 := ⟨b.1.trans a.1, fun k hk => (b.2 k hk).trans (a.2 k hk)⟩
theorem F_S.set {a : Nat} {x : va_E} (hp : List va_E) (h : 67 ≤ a ∧ a ≤ 80) : F_S hp (hp.set a x) := ⟨by simp, fun k hk => List.getElem?_set_ne (by omega)⟩
theorem F_2.s {a : Nat} {hp hp' : List va_E} (h : F_2 a hp hp') (ha : 67 ≤ a ∧ a ≤ 79) : F_S hp hp' := ⟨h.1, fun k hk => h.2 k (by omega) (by omega)⟩
theorem w_A.keep {w : w_T} {hp hp' : List va_E} (h : w_A w hp) (hk : ∀ k, k < 37 → hp'[k]? = hp[k]?) : w_A w hp' := by
  obtain ⟨h1, h2, h3, h4, h5⟩ := h
  refine ⟨(hk _ (by omega)).trans h1, (hk _ (by omega)).trans h2, (hk _ (by omega)).trans h3, (hk _ (by omega)).trans h4, fun q hq => ?_⟩
  obtain ⟨c1, c2, c3, c4, c5⟩ := h5 q hq
  exact ⟨(hk _ (by omega)).trans c1, (hk _ (by omega)).trans c2, (hk _ (by omega)).trans c3, (hk _ (by omega)).trans c4, (hk _ (by omega)).trans c5⟩
theorem s_A.keep {a : Nat} {pl vl : Nat → Nat} {hp hp' : List va_E} (h : s_A a pl vl hp) (hk : ∀ k, a ≤ k → k ≤ a + 2 → hp'[k]? = hp[k]?) : s_A a pl vl hp' :=
  ⟨(hk _ (by omega) (by omega)).trans h.1, (hk _ (by omega) (by omega)).trans h.2.1, (hk _ (by omega) (by omega)).trans h.2.2⟩
theorem S_W.keep {w : w_T} {hp hp' : List va_E} (h : S_W w hp) (h1 : hp'[79]? = hp[79]?) (h2 : hp'[80]? = hp[80]?) : S_W w hp' := by
  obtain ⟨⟨f1, a1, a2⟩, ⟨f2, b1, b2⟩⟩ := h
  exact ⟨⟨f1, h1.trans a1, a2⟩, ⟨f2, h2.trans b1, b2⟩⟩
section
variable {w : w_T} {R St Fa Wa M : Nat → Bool} {pl vl : Nat → Nat} {o : Nat × Nat × Nat × Nat} {hp hp' : List va_E}
theorem S_A.r (h : S_A w R St Fa Wa pl vl o hp) (hf : F_2 68 hp hp') (hM : ss_A 68 M hp') : S_A w M St Fa Wa pl vl o hp' := by
  obtain ⟨h1, h2, h3, h4, h5, h6, h7, h8⟩ := h
  exact ⟨h1.keep (fun k hk => hf.2 k (by omega) (by omega)), (hf.2 _ (by omega) (by omega)).trans h2, hM, h4.keep (hf.2 _ (by omega) (by omega)) (hf.2 _ (by omega) (by omega)), h5.keep (hf.2 _ (by omega) (by omega)) (hf.2 _ (by omega) (by omega)), h6.keep (hf.2 _ (by omega) (by omega)) (hf.2 _ (by omega) (by omega)), h7.keep (fun k _ _ => hf.2 k (by omega) (by omega)), h8.keep (hf.2 _ (by omega) (by omega)) (hf.2 _ (by omega) (by omega))⟩
theorem S_A.st (h : S_A w R St Fa Wa pl vl o hp) (hf : F_2 70 hp hp') (hM : ss_A 70 M hp') : S_A w R M Fa Wa pl vl o hp' := by
  obtain ⟨h1, h2, h3, h4, h5, h6, h7, h8⟩ := h
  exact ⟨h1.keep (fun k hk => hf.2 k (by omega) (by omega)), (hf.2 _ (by omega) (by omega)).trans h2, h3.keep (hf.2 _ (by omega) (by omega)) (hf.2 _ (by omega) (by omega)), hM, h5.keep (hf.2 _ (by omega) (by omega)) (hf.2 _ (by omega) (by omega)), h6.keep (hf.2 _ (by omega) (by omega)) (hf.2 _ (by omega) (by omega)), h7.keep (fun k _ _ => hf.2 k (by omega) (by omega)), h8.keep (hf.2 _ (by omega) (by omega)) (hf.2 _ (by omega) (by omega))⟩
theorem S_A.fa (h : S_A w R St Fa Wa pl vl o hp) (hf : F_2 72 hp hp') (hM : ss_A 72 M hp') : S_A w R St M Wa pl vl o hp' := by
  obtain ⟨h1, h2, h3, h4, h5, h6, h7, h8⟩ := h
  exact ⟨h1.keep (fun k hk => hf.2 k (by omega) (by omega)), (hf.2 _ (by omega) (by omega)).trans h2, h3.keep (hf.2 _ (by omega) (by omega)) (hf.2 _ (by omega) (by omega)), h4.keep (hf.2 _ (by omega) (by omega)) (hf.2 _ (by omega) (by omega)), hM, h6.keep (hf.2 _ (by omega) (by omega)) (hf.2 _ (by omega) (by omega)), h7.keep (fun k _ _ => hf.2 k (by omega) (by omega)), h8.keep (hf.2 _ (by omega) (by omega)) (hf.2 _ (by omega) (by omega))⟩
theorem S_A.wa (h : S_A w R St Fa Wa pl vl o hp) (hf : F_2 74 hp hp') (hM : ss_A 74 M hp') : S_A w R St Fa M pl vl o hp' := by
  obtain ⟨h1, h2, h3, h4, h5, h6, h7, h8⟩ := h
  exact ⟨h1.keep (fun k hk => hf.2 k (by omega) (by omega)), (hf.2 _ (by omega) (by omega)).trans h2, h3.keep (hf.2 _ (by omega) (by omega)) (hf.2 _ (by omega) (by omega)), h4.keep (hf.2 _ (by omega) (by omega)) (hf.2 _ (by omega) (by omega)), h5.keep (hf.2 _ (by omega) (by omega)) (hf.2 _ (by omega) (by omega)), hM, h7.keep (fun k _ _ => hf.2 k (by omega) (by omega)), h8.keep (hf.2 _ (by omega) (by omega)) (hf.2 _ (by omega) (by omega))⟩
theorem S_A.se {o' : Nat × Nat × Nat × Nat} (h : S_A w R St Fa Wa pl vl o hp) : S_A w R St Fa Wa pl vl o' (hp.set 67 (o_Se o'.1 o'.2.1 o'.2.2.1 o'.2.2.2)) := by
  obtain ⟨h1, h2, h3, h4, h5, h6, h7, h8⟩ := h
  have hk : ∀ k, k ≠ 67 → (hp.set 67 (o_Se o'.1 o'.2.1 o'.2.2.1 o'.2.2.2))[k]? = hp[k]? := fun k hk => List.getElem?_set_ne (fun e => hk e.symm)
  exact ⟨h1.keep (fun k q => hk k (by omega)), q_self h2, h3.keep (hk _ (by omega)) (hk _ (by omega)), h4.keep (hk _ (by omega)) (hk _ (by omega)), h5.keep (hk _ (by omega)) (hk _ (by omega)), h6.keep (hk _ (by omega)) (hk _ (by omega)), h7.keep (fun k _ _ => hk k (by omega)), h8.keep (hk _ (by omega)) (hk _ (by omega))⟩
theorem S_A.seen {pl' vl' : Nat → Nat} (h : S_A w R St Fa Wa pl vl o hp) (hf : ∀ k, k < 76 ∨ 78 < k → hp'[k]? = hp[k]?) (hs : s_A 76 pl' vl' hp') : S_A w R St Fa Wa pl' vl' o hp' := by
  obtain ⟨h1, h2, h3, h4, h5, h6, h7, h8⟩ := h
  exact ⟨h1.keep (fun k q => hf k (by omega)), (hf _ (by omega)).trans h2, h3.keep (hf _ (by omega)) (hf _ (by omega)), h4.keep (hf _ (by omega)) (hf _ (by omega)), h5.keep (hf _ (by omega)) (hf _ (by omega)), h6.keep (hf _ (by omega)) (hf _ (by omega)), hs, h8.keep (hf _ (by omega)) (hf _ (by omega))⟩
theorem S_A.eq {R' St' Fa' Wa' : Nat → Bool} (h : S_A w R St Fa Wa pl vl o hp) (e1 : ∀ m, m < 30016 → R m = R' m) (e2 : ∀ m, m < 30016 → St m = St' m) (e3 : ∀ m, m < 30016 → Fa m = Fa' m) (e4 : ∀ m, m < 30016 → Wa m = Wa' m) : S_A w R' St' Fa' Wa' pl vl o hp := by
  obtain ⟨h1, h2, h3, h4, h5, h6, h7, h8⟩ := h
  exact ⟨h1, h2, h3.eq e1, h4.eq e2, h5.eq e3, h6.eq e4, h7, h8⟩
end
def sc_add (M : Nat → Bool) (n : Nat) : Nat → Bool := fun m => M m || decide (m = n)
def sc_new (R W : Nat → Bool) (n : Nat) : Nat → Bool := fun m => W m || (decide (m = n) && !R m)
set_option maxRecDepth 10000 in
set_option maxHeartbeats 2000000 in
theorem c_Se_reach (hG : q_GG g) {w : w_T} {R St Fa Wa : Nat → Bool} {pl vl : Nat → Nat} {o : Nat × Nat × Nat × Nat} {hp : List va_E} {n : Nat} (h : S_A w R St Fa Wa pl vl o hp) (hn : n < 30000) : q_C g m_Se_reach true (q_R 1 20 0 0) [.ref 67, .int (nI n)] hp (q_ho none (fun hp2 => S_A w (sc_add R n) St Fa (sc_new R Wa n) pl vl o hp2 ∧ F_S hp hp2)) := by
  refine q_C.of hG (by decide) (Nat.le_of_ble_eq_true rfl) ?_
  have h_s := h.2.1
  obtain ⟨lr, h_r⟩ := h.2.2.1.ob
  refine q_aload_n d_Se_reach_0 rfl rfl ?_
  refine q_get d_Se_reach_1 f_Se_12 h_s rfl ?_
  refine q_iload_n d_Se_reach_4 rfl ?_
  refine x_callV d_Se_reach_5 l_Se_119 i_Ss_contains v_Ss_contains rfl h_r (k_contains hG h.2.2.1 hn) rfl rfl (Nat.le_of_ble_eq_true rfl) (Nat.le_of_ble_eq_true rfl) (Nat.le_of_ble_eq_true rfl) (Nat.le_of_ble_eq_true rfl) ?_
  refine q_if_ne (tgt := 27) d_Se_reach_8 (by decide) (fun b8 => ?_) (fun b8 => ?_)
  · skip
    have hR : R n = true := by
      by_cases q : R n = true
      · exact q
      · rw [if_neg q] at b8; exact absurd rfl b8
    refine q_vret d_Se_reach_27 rfl ?_ (Nat.le_of_ble_eq_true rfl) (Nat.le_of_ble_eq_true rfl) (by decide)
    refine ⟨hp, rfl, rfl, h.eq (fun m _ => ?_) (fun m _ => rfl) (fun m _ => rfl) (fun m _ => ?_), F_S.refl hp⟩
    · show R m = (R m || decide (m = n))
      by_cases q : m = n
      · subst q; simp [hR]
      · simp [q]
    · show Wa m = (Wa m || (decide (m = n) && !R m))
      by_cases q : m = n
      · subst q; simp [hR]
      · simp [q]
  · skip
    have hR : R n = false := by
      by_cases q : R n = true
      · rw [if_pos q] at b8; exact absurd b8 (by decide)
      · exact Bool.eq_false_iff.mpr q
    refine q_aload_n d_Se_reach_11 rfl rfl ?_
    refine q_get d_Se_reach_12 f_Se_12 h_s rfl ?_
    refine q_iload_n d_Se_reach_15 rfl ?_
    refine x_callVr d_Se_reach_16 l_Se_123 i_Ss_add v_Ss_add rfl h_r (k_add hG h.2.2.1 hn) rfl rfl (Nat.le_of_ble_eq_true rfl) (Nat.le_of_ble_eq_true rfl) (Nat.le_of_ble_eq_true rfl) (Nat.le_of_ble_eq_true rfl) (fun hp1 h1 => ?_)
    have g1 := h.r h1.2 h1.1
    have h_s := g1.2.1
    obtain ⟨lw, h_wa⟩ := g1.2.2.2.2.2.1.ob
    refine q_aload_n d_Se_reach_19 rfl rfl ?_
    refine q_get d_Se_reach_20 f_Se_24 h_s rfl ?_
    refine q_iload_n d_Se_reach_23 rfl ?_
    refine x_callVr d_Se_reach_24 l_Se_123 i_Ss_add v_Ss_add rfl h_wa (k_add hG g1.2.2.2.2.2.1 hn) rfl rfl (Nat.le_of_ble_eq_true rfl) (Nat.le_of_ble_eq_true rfl) (Nat.le_of_ble_eq_true rfl) (Nat.le_of_ble_eq_true rfl) (fun hp2 h2 => ?_)
    have g2 := g1.wa h2.2 h2.1
    refine q_vret d_Se_reach_27 rfl ?_ (Nat.le_of_ble_eq_true rfl) (Nat.le_of_ble_eq_true rfl) (by decide)
    refine ⟨hp2, rfl, rfl, g2.eq (fun m _ => rfl) (fun m _ => rfl) (fun m _ => rfl) (fun m _ => ?_), (h1.2.s (by omega)).trans (h2.2.s (by omega))⟩
    show (Wa m || decide (m = n)) = (Wa m || (decide (m = n) && !R m))
    by_cases q : m = n
    · subst q; simp [hR]
    · simp [q]
end C19
