/-! what can be come to: the least closed set -/
section REACH
def rr_R (S : Nat → Nat → Prop) (a t : Nat) : Prop := ∀ C : Nat → Prop, C a → (∀ x y, C x → S x y → C y) → C t
theorem rr_self (S : Nat → Nat → Prop) (a : Nat) : rr_R S a a := fun _ h _ => h
theorem rr_step {S : Nat → Nat → Prop} {a x y : Nat} (h : rr_R S a x) (s : S x y) : rr_R S a y := fun C h0 hc => hc x y (h C h0 hc) s
theorem rr_trans {S : Nat → Nat → Prop} {a x y : Nat} (h : rr_R S a x) (k : rr_R S x y) : rr_R S a y := fun C h0 hc => k C (h C h0 hc) hc
/-- a set that holds a, only what can be come to, and is closed, is what can be come to -/
theorem rr_is {S : Nat → Nat → Prop} {a : Nat} {C : Nat → Prop} (h0 : C a) (hs : ∀ x, C x → rr_R S a x) (hc : ∀ x y, C x → S x y → C y) (t : Nat) : C t ↔ rr_R S a t :=
  ⟨hs t, fun h => h C h0 hc⟩
/-- backwards: F holds the stuck ones of the closed set C, only such as come to a stuck one, and what in C steps into F -/
theorem rr_back {S : Nat → Nat → Prop} {C F K : Nat → Prop} (hc : ∀ x y, C x → S x y → C y) (hK : ∀ x, C x → K x → F x) (hF : ∀ x, F x → ∃ u, K u ∧ rr_R S x u) (hb : ∀ x y, C x → S x y → F y → F x) (x : Nat) (hx : C x) : F x ↔ ∃ u, K u ∧ rr_R S x u := by
  refine ⟨hF x, fun ⟨u, hu, hr⟩ => ?_⟩
  have h := hr (fun t => C t ∧ (F t → F x)) ⟨hx, fun h => h⟩ (fun t y ⟨h1, h2⟩ s => ⟨hc t y h1 s, fun h => h2 (hb t y h1 s h)⟩)
  exact h.2 (hK u h.1 hu)
end REACH

/-! Search: all that stand -/
section C22
variable {g : q_G}
theorem cn_bound {M : Nat → Bool} {N : Nat} : ∀ k, (∀ m, m < k → M m = true → m < N) → cn M k ≤ N := by
  intro k
  induction k with
  | zero => intro _; exact Nat.zero_le _
  | succ k ih =>
    intro h
    show cn M k + (if M k then 1 else 0) ≤ N
    split
    · next q =>
      have := h k (by omega) q
      have := cn_le M k
      omega
    · have := ih (fun m hm => h m (by omega))
      omega
theorem cn_add {M : Nat → Bool} {n : Nat} (hM : M n = false) : ∀ k, cn (fun m => M m || decide (m = n)) k = cn M k + if n < k then 1 else 0 := by
  intro k
  induction k with
  | zero => rfl
  | succ k ih =>
    show cn (fun m => M m || decide (m = n)) k + (if (M k || decide (k = n)) then 1 else 0) = cn M k + (if M k then 1 else 0) + _
    rw [ih]
    by_cases e : k = n
    · subst e
      rw [hM]
      simp
    · rw [show decide (k = n) = false from decide_eq_false e, Bool.or_false]
      by_cases h : n < k
      · rw [if_pos h, if_pos (show n < k + 1 by omega)]; omega
      · rw [if_neg h, if_neg (show ¬ n < k + 1 by omega), Nat.add_zero, Nat.add_zero]
/-- from a state to a state -/
def w_S (w : w_T) (x y : Nat) : Prop := x < w_q w ∧ N_sc w x y = true
def w_0 (w : w_T) : Nat := w_u w (fun _ => 0) (w_f w)
abbrev w_R (w : w_T) : Nat → Prop := rr_R (w_S w) (w_0 w)
/-- what is known of those that stand -/
def S_K (w : w_T) (R St : Nat → Bool) (o : Nat × Nat × Nat × Nat) : Prop := (∀ m, m < 30016 → (R m = true ↔ w_R w m)) ∧ (∀ m, m < 30016 → St m = (R m && N_st w m)) ∧ o.1 = cn St 30016 ∧ o.2.1 = cn (fun m => St m && N_ae w m) 30016
theorem sp_lt {w : w_T} {pl vl : Nat → Nat} {q : Nat} (hok : w_ok w) (hfz : w_fz w) (hs : s_ok w pl vl) (hq : q < w_p w) (m : Nat) : ∀ k, k < c_n (w_c w q) → sp w pl vl q k m = true → m < w_q w := by
  intro k
  induction k with
  | zero => intro _ h; cases h
  | succ k ih =>
    intro hk h
    have h : (sp w pl vl q k m || (w_can w pl vl q (k + 1) && decide (m = w_nx w pl vl q (k + 1)))) = true := h
    rcases Bool.or_eq_true_iff.mp h with h | h
    · exact ih (by omega) h
    · obtain ⟨h1, h2⟩ := Bool.and_eq_true_iff.mp h
      have h2 := of_decide_eq_true h2
      unfold w_can at h1
      obtain ⟨y, hy⟩ := Option.isSome_iff_exists.mp (Bool.and_eq_true_iff.mp h1).2
      have h3 := s_lt (nx_ok hok hfz hs hq (show 1 ≤ k + 1 by omega) hk hy)
      have e : w_nx w pl vl q (k + 1) = w_u w (va_up pl q (k + 1)) (va_up vl (c_v (w_c w q) (k + 1)) y) := by
        unfold w_nx
        rw [show w_oc w vl q (k + 1) = some y from hy]
        rfl
      rw [h2, e]
      exact h3
theorem spa_lt {w : w_T} {pl vl : Nat → Nat} (hok : w_ok w) (hfz : w_fz w) (hs : s_ok w pl vl) (m : Nat) : ∀ q, q ≤ w_p w → spa w pl vl q m = true → m < w_q w := by
  intro q
  induction q with
  | zero => intro _ h; cases h
  | succ q ih =>
    intro hq h
    have h : (spa w pl vl q m || sp w pl vl q (c_n (w_c w q) - 1) m) = true := h
    have hc := (hok.2.2.2 q (by have := hok.2.1; omega)).1
    rcases Bool.or_eq_true_iff.mp h with h | h
    · exact ih (by omega) h
    · exact sp_lt hok hfz hs hq m _ (by omega) h
theorem N_sc_lt {w : w_T} {n m : Nat} (hok : w_ok w) (hfz : w_fz w) (h : N_sc w n m = true) : m < w_q w := spa_lt hok hfz (w_pl_ok hok (fun _ _ => by decide)) m _ (Nat.le_refl _) h
theorem w_0_lt {w : w_T} (hok : w_ok w) : w_0 w < w_q w := s_lt ⟨fun q hq => by
    have := (hok.2.2.2 q (by have := hok.2.1; omega)).1
    show 0 < _
    omega, fun _ _ => by show 0 < 13; decide, fun v hv => (hok.2.2.1 v hv).2.2⟩
/-- what holds at each round -/
def S_L (w : w_T) (R St Wa : Nat → Bool) (o : Nat × Nat × Nat × Nat) (r : Nat) : Prop :=
  R (w_0 w) = true ∧ (∀ m, m < 30016 → R m = true → w_R w m ∧ m < w_q w) ∧ (∀ m, m < 30016 → Wa m = true → R m = true) ∧ (∀ n m, n < 30016 → R n = true → Wa n = false → N_sc w n m = true → R m = true) ∧ (∀ m, m < 30016 → St m = ((R m && !Wa m) && N_st w m)) ∧ o.1 = cn St 30016 ∧ o.2.1 = cn (fun m => St m && N_ae w m) 30016 ∧ cn (fun m => R m && !Wa m) 30016 = r
theorem S_L.done {w : w_T} {R St Wa : Nat → Bool} {o : Nat × Nat × Nat × Nat} {r : Nat} (hok : w_ok w) (hfz : w_fz w) (hN : w_q w ≤ 30000) (h : S_L w R St Wa o r) (hW : ∀ m, m < 30016 → Wa m = false) : S_K w R St o := by
  obtain ⟨h1, h2, h3, h4, h5, h6, h7, h8⟩ := h
  have h0 := w_0_lt hok
  refine ⟨fun m hm => ⟨fun q => (h2 m hm q).1, fun q => ?_⟩, fun m hm => ?_, h6, h7⟩
  · refine (q (fun t => t < 30016 ∧ R t = true) ⟨by omega, h1⟩ (fun x y hx hxy => ?_)).2
    have := N_sc_lt hok hfz hxy.2
    exact ⟨by omega, h4 x y hx.1 hx.2 (hW x hx.1) hxy.2⟩
  · rw [h5 m hm, hW m hm]
    simp
theorem S_L.full {w : w_T} {R St Wa : Nat → Bool} {o : Nat × Nat × Nat × Nat} (hN : w_q w ≤ 30000) (h : S_L w R St Wa o 30000) : ∀ m, m < 30016 → Wa m = false := by
  obtain ⟨h1, h2, h3, h4, h5, h6, h7, h8⟩ := h
  intro m hm
  by_cases q : Wa m = true
  · have hR := h3 m hm q
    have e := cn_add (M := fun m => R m && !Wa m) (n := m) (by simp [q]) 30016
    rw [if_pos hm, h8] at e
    have b := cn_bound (M := fun x => (R x && !Wa x) || decide (x = m)) (N := w_q w) 30016 (fun x hx hq => by
      rcases Bool.or_eq_true_iff.mp hq with a | a
      · exact (h2 x hx (Bool.and_eq_true_iff.mp a).1).2
      · rw [of_decide_eq_true a]; exact (h2 m hm hR).2)
    have e' : cn (fun x => (R x && !Wa x) || decide (x = m)) 30016 = 30000 + 1 := e
    omega
  · exact Bool.eq_false_iff.mpr q
theorem S_L.step {w : w_T} {R St Wa : Nat → Bool} {o : Nat × Nat × Nat × Nat} {r n : Nat} (hok : w_ok w) (hfz : w_fz w) (hN : w_q w ≤ 30000) (h : S_L w R St Wa o r) (hn : n < 30016) (hW : Wa n = true) :
    S_L w (fun m => R m || N_sc w n m) (if N_st w n then sc_add St n else St) (fun m => (Wa m && decide (m ≠ n)) || (N_sc w n m && !R m)) (if N_st w n then (o.1 + 1, o.2.1 + (if N_ae w n then 1 else 0), o.2.2.1, o.2.2.2) else o) (r + 1) := by
  obtain ⟨h1, h2, h3, h4, h5, h6, h7, h8⟩ := h
  have hR := h3 n hn hW
  obtain ⟨hr, hlt⟩ := h2 n hn hR
  have hSn : St n = false := by rw [h5 n hn, hW]; simp
  have hpr : ∀ m, m < 30016 → ((R m || N_sc w n m) && !((Wa m && decide (m ≠ n)) || (N_sc w n m && !R m))) = ((R m && !Wa m) || decide (m = n)) := by
    intro m hm
    by_cases e : m = n
    · subst e
      simp [hR, hW]
    · have e2 : decide (m ≠ n) = true := decide_eq_true e
      have e3 : decide (m = n) = false := decide_eq_false e
      have := h3 m hm
      rw [e2, e3]
      cases a : R m <;> cases b : Wa m <;> cases N_sc w n m <;> simp_all
  refine ⟨by simp [h1], ?_, ?_, ?_, ?_, ?_, ?_, ?_⟩
  · intro m hm q
    rcases Bool.or_eq_true_iff.mp q with q | q
    · exact h2 m hm q
    · exact ⟨rr_step hr ⟨hlt, q⟩, N_sc_lt hok hfz q⟩
  · intro m hm q
    rcases Bool.or_eq_true_iff.mp q with q | q
    · have := h3 m hm (Bool.and_eq_true_iff.mp q).1
      simp [this]
    · simp [(Bool.and_eq_true_iff.mp q).1]
  · intro x m hx q1 q2 q3
    have hp := hpr x hx
    rw [show (R x || N_sc w n x) = true from q1, show ((Wa x && decide (x ≠ n)) || (N_sc w n x && !R x)) = false from q2] at hp
    rcases Bool.or_eq_true_iff.mp hp.symm with a | a
    · obtain ⟨a1, a2⟩ := Bool.and_eq_true_iff.mp a
      have := h4 x m hx a1 (by simpa using a2) q3
      simp [this]
    · rw [of_decide_eq_true a] at q3
      simp [q3]
  · intro m hm
    show _ = (((R m || N_sc w n m) && !((Wa m && decide (m ≠ n)) || (N_sc w n m && !R m))) && N_st w m)
    rw [hpr m hm]
    by_cases q : N_st w n = true
    · rw [if_pos q]
      show (St m || decide (m = n)) = _
      rw [h5 m hm]
      by_cases e : m = n
      · subst e; simp [q]
      · rw [decide_eq_false e]; simp
    · rw [if_neg q, h5 m hm]
      by_cases e : m = n
      · subst e; simp [q]
      · rw [decide_eq_false e]; simp
  · by_cases q : N_st w n = true
    · rw [if_pos q, if_pos q]
      show o.1 + 1 = cn (fun m => St m || decide (m = n)) 30016
      rw [cn_add hSn, if_pos hn, h6]
    · rw [if_neg q, if_neg q]; exact h6
  · by_cases q : N_st w n = true
    · rw [if_pos q, if_pos q]
      show o.2.1 + (if N_ae w n then 1 else 0) = cn (fun m => (St m || decide (m = n)) && N_ae w m) 30016
      by_cases a : N_ae w n = true
      · have e : (fun m => (St m || decide (m = n)) && N_ae w m) = fun m => (St m && N_ae w m) || decide (m = n) := by
          funext m
          by_cases e : m = n
          · subst e; simp [a]
          · rw [decide_eq_false e]; simp
        rw [e, cn_add (M := fun m => St m && N_ae w m) (by simp [hSn]), if_pos hn, if_pos a, h7]
      · have e : (fun m => (St m || decide (m = n)) && N_ae w m) = fun m => St m && N_ae w m := by
          funext m
          by_cases e : m = n
          · subst e; simp [a]
          · rw [decide_eq_false e]; simp
        rw [e, if_neg a, h7]
        exact Nat.add_zero _
    · rw [if_neg q, if_neg q]; exact h7
  · rw [cn_eq 30016 hpr, cn_add (M := fun m => R m && !Wa m) (by simp [hW]), if_pos hn, h8]
/-- the search before its weights are known -/
def S_B (w : w_T) (R St Fa Wa : Nat → Bool) (pl vl : Nat → Nat) (o : Nat × Nat × Nat × Nat) (hp : List va_E) : Prop := w_A w hp ∧ hp[67]? = some (o_Se o.1 o.2.1 o.2.2.1 o.2.2.2) ∧ ss_A 68 R hp ∧ ss_A 70 St hp ∧ ss_A 72 Fa hp ∧ ss_A 74 Wa hp ∧ s_A 76 pl vl hp ∧ (∃ f, hp[79]? = some (a_I 6 f)) ∧ ∃ f, hp[80]? = some (a_I 5 f)
theorem S_A.b {w : w_T} {R St Fa Wa : Nat → Bool} {pl vl : Nat → Nat} {o : Nat × Nat × Nat × Nat} {hp : List va_E} (h : S_A w R St Fa Wa pl vl o hp) : S_B w R St Fa Wa pl vl o hp := by
  obtain ⟨h1, h2, h3, h4, h5, h6, h7, ⟨f1, a1, _⟩, ⟨f2, b1, _⟩⟩ := h
  exact ⟨h1, h2, h3, h4, h5, h6, h7, ⟨f1, a1⟩, ⟨f2, b1⟩⟩
theorem S_B.a {w : w_T} {R St Fa Wa : Nat → Bool} {pl vl : Nat → Nat} {o : Nat × Nat × Nat × Nat} {hp : List va_E} (h : S_B w R St Fa Wa pl vl o hp) (hW : S_W w hp) : S_A w R St Fa Wa pl vl o hp := by
  obtain ⟨h1, h2, h3, h4, h5, h6, h7, _⟩ := h
  exact ⟨h1, h2, h3, h4, h5, h6, h7, hW⟩
theorem S_B.weigh {w : w_T} {R St Fa Wa : Nat → Bool} {pl vl : Nat → Nat} {o : Nat × Nat × Nat × Nat} {hp : List va_E} {f1 f2 : Nat → Int32} (h : S_B w R St Fa Wa pl vl o hp) (h1 : hp[79]? = some (a_I 6 f1)) (h2 : hp[80]? = some (a_I 5 f2)) : S_A w R St Fa Wa pl vl o ((hp.set 80 (a_I 5 (w_dn 0 5 (w_vw w) f2))).set 79 (a_I 6 (w_dn 0 (w_p w) (w_pw w) f1))) := by
  have hk : ∀ k, k ≠ 79 → k ≠ 80 → ((hp.set 80 (a_I 5 (w_dn 0 5 (w_vw w) f2))).set 79 (a_I 6 (w_dn 0 (w_p w) (w_pw w) f1)))[k]? = hp[k]? := fun k a b => by rw [List.getElem?_set_ne (fun e => a e.symm), List.getElem?_set_ne (fun e => b e.symm)]
  obtain ⟨a1, a2, a3, a4, a5, a6, a7, _⟩ := h
  exact ⟨a1.keep (fun k q => hk k (by omega) (by omega)), (hk _ (by omega) (by omega)).trans a2, a3.keep (hk _ (by omega) (by omega)) (hk _ (by omega) (by omega)), a4.keep (hk _ (by omega) (by omega)) (hk _ (by omega) (by omega)), a5.keep (hk _ (by omega) (by omega)) (hk _ (by omega) (by omega)), a6.keep (hk _ (by omega) (by omega)) (hk _ (by omega) (by omega)), a7.keep (fun k _ _ => hk k (by omega) (by omega)), ⟨_, q_self (q_keep rfl h1 (by omega)), fun q hq => if_pos ⟨Nat.zero_le _, hq⟩⟩, ⟨_, q_keep rfl (q_self h2) (by omega), fun v hv => if_pos ⟨Nat.zero_le _, hv⟩⟩⟩
set_option maxRecDepth 10000 in
set_option maxHeartbeats 2000000 in
theorem l_Se_fsE {w : w_T} {R St Fa Wa : Nat → Bool} {pl vl : Nat → Nat} {o : Nat × Nat × Nat × Nat} {fk : Nat} {hpb hp : List va_E} {z1 z2 : Option Value} (h : S_A w R St Fa Wa pl vl o hp) (hK : S_K w R St o) (h13 : ∀ q, q < 6 → pl q < 13) (ho : o.2.2.2 = fk) (hF : F_S hpb hp) : q_J g m_Se_findStanding true (q_R 4 80 0 0) (q_ho none (fun hp2 => (∃ (R2 St2 Wa2 : Nat → Bool) (pl2 vl2 : Nat → Nat) (o2 : Nat × Nat × Nat × Nat), S_A w R2 St2 Fa Wa2 pl2 vl2 o2 hp2 ∧ S_K w R2 St2 o2 ∧ (∀ q, q < 6 → pl2 q < 13) ∧ o2.2.2 = (1, fk)) ∧ F_S hpb hp2)) 105 [some (.ref 67), z1, z2] [] hp 0 0 true := by
  have h_s := h.2.1
  refine q_aload_n d_Se_findStanding_105 rfl rfl ?_
  refine q_iconst (v := 1) d_Se_findStanding_106 (by decide) ?_
  refine x_put d_Se_findStanding_107 f_Se_45 h_s (Nat.le_of_ble_eq_true rfl) rfl rfl (fun hp1 e1 h_s => ?_)
  refine q_vret d_Se_findStanding_110 rfl ?_ (Nat.le_of_ble_eq_true rfl) (Nat.le_of_ble_eq_true rfl) (by decide)
  refine ⟨_, rfl, rfl, ⟨R, St, Wa, pl, vl, (o.1, o.2.1, 1, fk), ?_, hK, h13, rfl⟩, ?_⟩
  · rw [e1, ho]
    exact h.se (o' := (o.1, o.2.1, 1, fk))
  · rw [e1]
    exact hF.trans (F_S.set _ (by omega))
set_option maxRecDepth 10000 in
set_option maxHeartbeats 2000000 in
theorem l_Se_fs (hG : q_GG g) {w : w_T} {Fa : Nat → Bool} {fk : Nat} {hpb : List va_E} (hok : w_ok w) (hfz : w_fz w) (hN : w_q w ≤ 30000) : ∀ (k r : Nat), r + k = 30000 → ∀ (R St Wa : Nat → Bool) (pl vl : Nat → Nat) (o : Nat × Nat × Nat × Nat) (hp : List va_E) (z2 : Option Value), S_A w R St Fa Wa pl vl o hp → S_L w R St Wa o r → (∀ q, q < 6 → pl q < 13) → o.2.2.2 = fk → F_S hpb hp → q_J g m_Se_findStanding true (q_R 4 80 0 0) (q_ho none (fun hp2 => (∃ (R2 St2 Wa2 : Nat → Bool) (pl2 vl2 : Nat → Nat) (o2 : Nat × Nat × Nat × Nat), S_A w R2 St2 Fa Wa2 pl2 vl2 o2 hp2 ∧ S_K w R2 St2 o2 ∧ (∀ q, q < 6 → pl2 q < 13) ∧ o2.2.2 = (1, fk)) ∧ F_S hpb hp2)) 71 [some (.ref 67), some (.int (nI r)), z2] [] hp 0 0 true := by
  intro k
  induction k with
  | zero =>
    intro r hr R St Wa pl vl o hp z2 h hL h13 ho hF
    refine q_iload_n d_Se_findStanding_71 rfl ?_
    refine q_sipush (v := 30000) d_Se_findStanding_72 (by decide) ?_
    refine q_icmp_ge (tgt := 105) d_Se_findStanding_75 (by decide) (fun b75 => ?_) (fun b75 => ?_)
    · skip
      have e : r = 30000 := by omega
      subst e
      exact l_Se_fsE h (hL.done hok hfz hN (hL.full hN)) h13 ho hF
    · skip
      exact absurd (show nI 30000 ≤ nI r from nI_le (by omega) (by omega)) b75
  | succ k ih =>
    intro r hr R St Wa pl vl o hp z2 h hL h13 ho hF
    have h_s := h.2.1
    obtain ⟨lw, h_wa⟩ := h.2.2.2.2.2.1.ob
    refine q_iload_n d_Se_findStanding_71 rfl ?_
    refine q_sipush (v := 30000) d_Se_findStanding_72 (by decide) ?_
    refine q_icmp_ge (tgt := 105) d_Se_findStanding_75 (by decide) (fun b75 => ?_) (fun b75 => ?_)
    · skip
      exact absurd b75 (show ¬ nI 30000 ≤ nI r from nI_ge (by omega) (by omega))
    · skip
      refine q_aload_n d_Se_findStanding_78 rfl rfl ?_
      refine q_get d_Se_findStanding_79 f_Se_24 h_s rfl ?_
      refine x_callVr d_Se_findStanding_82 l_Se_79 i_Ss_takeLowest v_Ss_takeLowest rfl h_wa (k_take hG h.2.2.2.2.2.1) rfl rfl (Nat.le_of_ble_eq_true rfl) (Nat.le_of_ble_eq_true rfl) (Nat.le_of_ble_eq_true rfl) (Nat.le_of_ble_eq_true rfl) (fun z hz => ?_)
      obtain ⟨zo, hp1⟩ := z
      obtain ⟨hf2, hz⟩ := hz
      cases zo with
      | none =>
        have hz : (∀ m, m < 30016 → Wa m = false) ∧ ss_A 74 Wa hp1 := hz
        have g1 := h.wa hf2 hz.2
        have h_s := g1.2.1
        show q_J _ _ _ _ _ _ _ (.int (-1) :: []) _ _ _ _
        refine q_istore_n d_Se_findStanding_85 rfl (by decide) rfl ?_
        refine q_iload_n d_Se_findStanding_86 rfl ?_
        refine q_iconst (v := (-1)) d_Se_findStanding_87 (by decide) ?_
        refine q_icmp_ne (tgt := 94) d_Se_findStanding_88 (by decide) (fun b88 => ?_) (fun b88 => ?_)
        · skip
          exact absurd rfl b88
        · skip
          refine q_goto (tgt := 105) d_Se_findStanding_91 (by decide) ?_
          exact l_Se_fsE g1 (hL.done hok hfz hN hz.1) h13 ho (hF.trans (hf2.s (by omega)))
      | some n =>
        have hz : n < 30016 ∧ Wa n = true ∧ ss_A 74 (fun m => Wa m && decide (m ≠ n)) hp1 := hz
        have g1 := h.wa hf2 hz.2.2
        have h_s := g1.2.1
        have hlt := (hL.2.1 n hz.1 (hL.2.2.1 n hz.1 hz.2.1)).2
        show q_J _ _ _ _ _ _ _ (.int (nI n) :: []) _ _ _ _
        refine q_istore_n d_Se_findStanding_85 rfl (by decide) rfl ?_
        refine q_iload_n d_Se_findStanding_86 rfl ?_
        refine q_iconst (v := (-1)) d_Se_findStanding_87 (by decide) ?_
        refine q_icmp_ne (tgt := 94) d_Se_findStanding_88 (by decide) (fun b88 => ?_) (fun b88 => ?_)
        · skip
          refine q_aload_n d_Se_findStanding_94 rfl rfl ?_
          refine q_iload_n d_Se_findStanding_95 rfl ?_
          refine x_callVr d_Se_findStanding_96 l_Se_83 i_Se_lookAhead v_Se_lookAhead rfl g1.2.1 (c_Se_lookAhead hG hok hfz hN hlt h13 g1) rfl rfl (Nat.le_of_ble_eq_true rfl) (Nat.le_of_ble_eq_true rfl) (Nat.le_of_ble_eq_true rfl) (Nat.le_of_ble_eq_true rfl) (fun hp3 h3 => ?_)
          refine q_iinc d_Se_findStanding_99 rfl (show _ + Int32.ofInt 1 = _ + 1 from rfl) (by decide) rfl ?_
          rw [nI_1]
          refine q_goto (tgt := 71) d_Se_findStanding_102 (by decide) ?_
          have hL2 := hL.step hok hfz hN hz.1 hz.2.1
          exact ih (r + 1) (by omega) _ _ _ _ _ _ _ _ h3.1 hL2 (w_pl_ok (vl := vl) (n := n) hok h13).2.1 (by split <;> exact ho) (hF.trans ((hf2.s (by omega)).trans h3.2))
        · skip
          exact absurd b88 (fun e => tb_m1 (show n < 2 ^ 31 by omega) e)
theorem pf_1 {pl : Nat → Nat} : a_I 6 (fun j => if j < 6 then 0 else nI (pl j)) = a_N 6 (fun j => if j < 6 then 0 else pl j) := by
  have e : (fun j => if j < 6 then (0 : Int32) else nI (pl j)) = fun j => nI (if j < 6 then 0 else pl j) := by
    funext j
    split <;> rfl
  rw [e]
theorem pf_2 {f vl : Nat → Nat} : a_I 5 (fun j => if j < 5 then nI (f j) else nI (vl j)) = a_N 5 (fun j => if j < 5 then f j else vl j) := by
  have e : (fun j => if j < 5 then nI (f j) else nI (vl j)) = fun j => nI (if j < 5 then f j else vl j) := by
    funext j
    split <;> rfl
  rw [e]
theorem cn_0 : ∀ k, cn (fun _ => false) k = 0 := by
  intro k
  induction k with
  | zero => rfl
  | succ k ih => show cn (fun _ => false) k + 0 = 0; rw [ih]
theorem S_L.start {w : w_T} {fk : Nat} (hok : w_ok w) : S_L w (sc_add (fun _ => false) (w_0 w)) (fun _ => false) (sc_new (fun _ => false) (fun _ => false) (w_0 w)) (0, 0, 0, fk) 0 := by
  have h0 := w_0_lt hok
  refine ⟨?_, fun m hm q => ?_, fun m hm q => ?_, fun n m hn q1 q2 => ?_, fun m hm => ?_, ?_, ?_, ?_⟩
  · show (false || decide (w_0 w = w_0 w)) = true
    rw [decide_eq_true rfl]; rfl
  · have q : (false || decide (m = w_0 w)) = true := q
    rw [Bool.false_or] at q
    rw [of_decide_eq_true q]
    exact ⟨rr_self _ _, h0⟩
  · have q : (false || (decide (m = w_0 w) && !false)) = true := q
    show (false || decide (m = w_0 w)) = true
    simpa using q
  · have q1 : (false || decide (n = w_0 w)) = true := q1
    have q2 : (false || (decide (n = w_0 w) && !false)) = false := q2
    simp at q1 q2
    exact absurd q1 q2
  · show false = (((false || decide (m = w_0 w)) && !(false || (decide (m = w_0 w) && !false))) && N_st w m)
    cases decide (m = w_0 w) <;> rfl
  · exact (cn_0 _).symm
  · show 0 = cn (fun m => false && N_ae w m) 30016
    rw [cn_eq (M' := fun _ => false) 30016 (fun m _ => Bool.false_and _)]
    exact (cn_0 _).symm
  · show cn (fun m => (false || decide (m = w_0 w)) && !(false || (decide (m = w_0 w) && !false))) 30016 = 0
    rw [cn_eq (M' := fun _ => false) 30016 (fun m _ => by cases decide (m = w_0 w) <;> rfl)]
    exact cn_0 _
set_option maxRecDepth 10000 in
set_option maxHeartbeats 2000000 in
theorem c_Se_findStanding0 (hG : q_GG g) {w : w_T} {R St Fa Wa : Nat → Bool} {pl vl : Nat → Nat} {o : Nat × Nat × Nat × Nat} {fk : Nat} {hp : List va_E} (hok : w_ok w) (hfz : w_fz w) (hN : w_q w ≤ 30000) (hB : S_B w R St Fa Wa pl vl o hp) (hsk : o.2.2.1 = 0) (ho : o.2.2.2 = fk) : q_C g m_Se_findStanding true (q_R 4 80 0 0) [.ref 67] hp (q_ho none (fun hp2 => (∃ (R2 St2 Wa2 : Nat → Bool) (pl2 vl2 : Nat → Nat) (o2 : Nat × Nat × Nat × Nat), S_A w R2 St2 Fa Wa2 pl2 vl2 o2 hp2 ∧ S_K w R2 St2 o2 ∧ (∀ q, q < 6 → pl2 q < 13) ∧ o2.2.2 = (1, fk)) ∧ F_S hp hp2)) := by
  refine q_C.of hG (by decide) (Nat.le_of_ble_eq_true rfl) ?_
  have h_s := hB.2.1
  obtain ⟨f1, h_f1⟩ := hB.2.2.2.2.2.2.2.1
  obtain ⟨f2, h_f2⟩ := hB.2.2.2.2.2.2.2.2
  refine q_aload_n d_Se_findStanding_0 rfl rfl ?_
  refine q_get d_Se_findStanding_1 f_Se_45 h_s rfl ?_
  refine q_if_eq (tgt := 8) d_Se_findStanding_4 (by decide) (fun b4 => ?_) (fun b4 => ?_)
  · skip
    refine q_aload_n d_Se_findStanding_8 rfl rfl ?_
    refine x_callV d_Se_findStanding_9 l_Se_52 i_Se_weigh v_Se_weigh rfl h_s (c_Se_weigh hG hok hB.1 h_s h_f1 h_f2) rfl rfl (Nat.le_of_ble_eq_true rfl) (Nat.le_of_ble_eq_true rfl) (Nat.le_of_ble_eq_true rfl) (Nat.le_of_ble_eq_true rfl) ?_
    have g1 := hB.weigh h_f1 h_f2
    have hF1 : F_S hp ((hp.set 80 (a_I 5 (w_dn 0 5 (w_vw w) f2))).set 79 (a_I 6 (w_dn 0 (w_p w) (w_pw w) f1))) := (F_S.set _ (by omega)).trans (F_S.set _ (by omega))
    generalize ((hp.set 80 (a_I 5 (w_dn 0 5 (w_vw w) f2))).set 79 (a_I 6 (w_dn 0 (w_p w) (w_pw w) f1))) = hpa at *
    have h_s := g1.2.1
    obtain ⟨l1, h_r⟩ := g1.2.2.1.ob
    refine q_aload_n d_Se_findStanding_12 rfl rfl ?_
    refine q_get d_Se_findStanding_13 f_Se_12 h_s rfl ?_
    refine x_callVr d_Se_findStanding_16 l_Se_55 i_Ss_empty v_Ss_empty rfl h_r (k_empty hG g1.2.2.1) rfl rfl (Nat.le_of_ble_eq_true rfl) (Nat.le_of_ble_eq_true rfl) (Nat.le_of_ble_eq_true rfl) (Nat.le_of_ble_eq_true rfl) (fun hp2 k2 => ?_)
    have g2 := g1.r k2.2 k2.1
    have hF2 := hF1.trans (k2.2.s (by omega))
    have h_s := g2.2.1
    obtain ⟨l2, h_t⟩ := g2.2.2.2.1.ob
    refine q_aload_n d_Se_findStanding_19 rfl rfl ?_
    refine q_get d_Se_findStanding_20 f_Se_18 h_s rfl ?_
    refine x_callVr d_Se_findStanding_23 l_Se_55 i_Ss_empty v_Ss_empty rfl h_t (k_empty hG g2.2.2.2.1) rfl rfl (Nat.le_of_ble_eq_true rfl) (Nat.le_of_ble_eq_true rfl) (Nat.le_of_ble_eq_true rfl) (Nat.le_of_ble_eq_true rfl) (fun hp3 k3 => ?_)
    have g3 := g2.st k3.2 k3.1
    have hF3 := hF2.trans (k3.2.s (by omega))
    have h_s := g3.2.1
    obtain ⟨l3, h_wa⟩ := g3.2.2.2.2.2.1.ob
    refine q_aload_n d_Se_findStanding_26 rfl rfl ?_
    refine q_get d_Se_findStanding_27 f_Se_24 h_s rfl ?_
    refine x_callVr d_Se_findStanding_30 l_Se_55 i_Ss_empty v_Ss_empty rfl h_wa (k_empty hG g3.2.2.2.2.2.1) rfl rfl (Nat.le_of_ble_eq_true rfl) (Nat.le_of_ble_eq_true rfl) (Nat.le_of_ble_eq_true rfl) (Nat.le_of_ble_eq_true rfl) (fun hp4 k4 => ?_)
    have g4 := g3.wa k4.2 k4.1
    have hF4 := hF3.trans (k4.2.s (by omega))
    have h_s := g4.2.1
    refine q_aload_n d_Se_findStanding_33 rfl rfl ?_
    refine q_iconst (v := 0) d_Se_findStanding_34 (by decide) ?_
    refine x_put d_Se_findStanding_35 f_Se_58 h_s (Nat.le_of_ble_eq_true rfl) rfl rfl (fun hp1 e1 h_s => ?_)
    refine q_aload_n d_Se_findStanding_38 rfl rfl ?_
    refine q_iconst (v := 0) d_Se_findStanding_39 (by decide) ?_
    refine x_put d_Se_findStanding_40 f_Se_62 h_s (Nat.le_of_ble_eq_true rfl) rfl rfl (fun hp2 e2 h_s => ?_)
    have g5 : S_A w (fun _ => false) (fun _ => false) Fa (fun _ => false) pl vl (0, 0, 0, fk) hp2 := by
      subst e1; subst e2
      rw [List.set_set, hsk, ho]
      exact g4.se (o' := (0, 0, 0, fk))
    have hF5 : F_S hp hp2 := by
      subst e1; subst e2
      exact hF4.trans ((F_S.set _ (by omega)).trans (F_S.set _ (by omega)))
    have h_s := g5.2.1
    have h_w := g5.1.1
    have h_n := g5.2.2.2.2.2.2.1.1
    refine q_aload_n d_Se_findStanding_43 rfl rfl ?_
    refine q_get d_Se_findStanding_44 f_Se_41 h_s rfl ?_
    refine q_aload_n d_Se_findStanding_47 rfl rfl ?_
    refine q_get d_Se_findStanding_48 f_Se_30 h_s rfl ?_
    refine x_callV d_Se_findStanding_51 l_Se_65 i_Wo_putFirst v_Wo_putFirst rfl h_w (c_Wo_putFirst hG (by omega) h_w g5.1.2.2.1 h_n g5.2.2.2.2.2.2.1.2.1 g5.2.2.2.2.2.2.1.2.2) rfl rfl (Nat.le_of_ble_eq_true rfl) (Nat.le_of_ble_eq_true rfl) (Nat.le_of_ble_eq_true rfl) (Nat.le_of_ble_eq_true rfl) ?_
    have g6 : S_A w (fun _ => false) (fun _ => false) Fa (fun _ => false) (fun j => if j < 6 then 0 else pl j) (fun j => if j < 5 then w_f w j else vl j) (0, 0, 0, fk) ((hp2.set 77 (a_I 6 (fun j => if j < 6 then 0 else nI (pl j)))).set 78 (a_I 5 (fun j => if j < 5 then nI (w_f w j) else nI (vl j)))) := by
      have q := g5.2.2.2.2.2.2.1
      refine g5.seen (fun k hk => by rw [List.getElem?_set_ne (by omega), List.getElem?_set_ne (by omega)]) ⟨q_keep rfl (q_keep rfl q.1 (by omega)) (by omega), ?_, ?_⟩
      · rw [q_keep rfl (q_self q.2.1) (by omega), pf_1]
      · rw [q_self (q_keep rfl q.2.2 (by omega)), pf_2]
    have hF6 := hF5.trans ((F_S.set (a := 77) (x := a_I 6 (fun j => if j < 6 then 0 else nI (pl j))) _ (by omega)).trans (F_S.set (a := 78) (x := a_I 5 (fun j => if j < 5 then nI (w_f w j) else nI (vl j))) _ (by omega)))
    generalize ((hp2.set 77 (a_I 6 (fun j => if j < 6 then 0 else nI (pl j)))).set 78 (a_I 5 (fun j => if j < 5 then nI (w_f w j) else nI (vl j)))) = hpc at *
    have h_s := g6.2.1
    have h_w := g6.1.1
    have h_n := g6.2.2.2.2.2.2.1.1
    have hu0 : w_u w (fun j => if j < 6 then 0 else pl j) (fun j => if j < 5 then w_f w j else vl j) = w_0 w := u2_congr (fun q hq => if_pos (by have := hok.2.1; omega)) (fun v hv => if_pos hv) 5 (Nat.le_refl _)
    have h0 : w_0 w < 30000 := by have := w_0_lt hok; omega
    refine q_aload_n d_Se_findStanding_54 rfl rfl ?_
    refine q_aload_n d_Se_findStanding_55 rfl rfl ?_
    refine q_get d_Se_findStanding_56 f_Se_41 h_s rfl ?_
    refine q_aload_n d_Se_findStanding_59 rfl rfl ?_
    refine q_get d_Se_findStanding_60 f_Se_30 h_s rfl ?_
    refine x_callV d_Se_findStanding_63 l_Se_71 i_Wo_numberOf v_Wo_numberOf rfl h_w (c_Wo_numberOf hG hok.2.1 g6.1 g6.2.2.2.2.2.2.1) rfl rfl (Nat.le_of_ble_eq_true rfl) (Nat.le_of_ble_eq_true rfl) (Nat.le_of_ble_eq_true rfl) (Nat.le_of_ble_eq_true rfl) ?_
    rw [hu0]
    refine x_callVr d_Se_findStanding_66 l_Se_75 i_Se_reach v_Se_reach rfl h_s (c_Se_reach hG g6 h0) rfl rfl (Nat.le_of_ble_eq_true rfl) (Nat.le_of_ble_eq_true rfl) (Nat.le_of_ble_eq_true rfl) (Nat.le_of_ble_eq_true rfl) (fun hp7 k7 => ?_)
    refine q_iconst (v := 0) d_Se_findStanding_69 (by decide) ?_
    refine q_istore_n d_Se_findStanding_70 rfl (by decide) rfl ?_
    exact l_Se_fs hG hok hfz hN 30000 0 rfl _ _ _ _ _ _ hp7 none k7.1 (S_L.start hok) (fun q hq => by show (if q < 6 then 0 else pl q) < 13; rw [if_pos hq]; decide) rfl (hF6.trans k7.2)
  · skip
    exact absurd (by rw [hsk]; rfl) b4
set_option maxRecDepth 10000 in
set_option maxHeartbeats 2000000 in
theorem c_Se_findStanding1 (hG : q_GG g) {w : w_T} {R St Fa Wa : Nat → Bool} {pl vl : Nat → Nat} {o : Nat × Nat × Nat × Nat} {fk : Nat} {hp : List va_E} (h : S_A w R St Fa Wa pl vl o hp) (hK : S_K w R St o) (h13 : ∀ q, q < 6 → pl q < 13) (hsk : o.2.2.1 = 1) (ho : o.2.2.2 = fk) : q_C g m_Se_findStanding true (q_R 4 80 0 0) [.ref 67] hp (q_ho none (fun hp2 => (∃ (R2 St2 Wa2 : Nat → Bool) (pl2 vl2 : Nat → Nat) (o2 : Nat × Nat × Nat × Nat), S_A w R2 St2 Fa Wa2 pl2 vl2 o2 hp2 ∧ S_K w R2 St2 o2 ∧ (∀ q, q < 6 → pl2 q < 13) ∧ o2.2.2 = (1, fk)) ∧ F_S hp hp2)) := by
  refine q_C.of hG (by decide) (Nat.le_of_ble_eq_true rfl) ?_
  have h_s := h.2.1
  refine q_aload_n d_Se_findStanding_0 rfl rfl ?_
  refine q_get d_Se_findStanding_1 f_Se_45 h_s rfl ?_
  refine q_if_eq (tgt := 8) d_Se_findStanding_4 (by decide) (fun b4 => ?_) (fun b4 => ?_)
  · skip
    exact absurd b4 (by rw [hsk]; decide)
  · skip
    refine q_vret d_Se_findStanding_7 rfl ?_ (Nat.le_of_ble_eq_true rfl) (Nat.le_of_ble_eq_true rfl) (by decide)
    exact ⟨hp, rfl, rfl, ⟨R, St, Wa, pl, vl, o, h, hK, h13, by rw [← ho, ← hsk]⟩, F_S.refl hp⟩
end C22
