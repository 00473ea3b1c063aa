/-! the reference: what its calls answer -/
section M15
variable {g : q_G}
def k_St (w : w_T) (m : Nat → Int32) (A : Nat → Nat → Int32) : Prop := m 37 = 0 ∨ (m 37 = 1 ∧ K_M w m A)
theorem c_Mo_know (hG : q_GG g) {b hp : List va_E} {m : Nat → Int32} {A : Nat → Nat → Int32} {w : w_T} (hA : M_A b m A hp) (hmk : w_mk w) (hW : W_M w m A) (hN : w_q w ≤ 30000) (h0q : w_0 w < w_q w) (hK : k_St w m A) : q_C g m_Mo_know true (q_R 2 80 0 0) [.ref 84] hp (q_mo none b (fun m' A' => m' 37 = 1 ∧ K_M w m' A' ∧ mo_K [0, 37, 39, 40] m m' ∧ mo_K [20, 21, 22, 23, 24] A A')) := by
  rcases hK with h | h
  · exact c_Mo_know0 hG hA hmk hW hN h0q h
  · exact c_Mo_know1 hG hA h.1 h.2
abbrev q_m2 (v : (Nat → Int32) → Option Value) (b : List va_E) (φ : (Nat → Int32) → (Nat → Nat → Int32) → Prop) : Outcome → List va_E → Prop := q_rel (Z := m_Z) (fun z => v z.1) (fun z => z.2.2) (fun z => M_A b z.1 z.2.1 z.2.2 ∧ φ z.1 z.2.1)
theorem cn_nth {M : Nat → Bool} {k : Nat} : ∀ n, k < cn M n → ∃ x, x < n ∧ M x = true ∧ cn M x = k := by
  intro n
  induction n with
  | zero => intro h; exact absurd h (Nat.not_lt_zero k)
  | succ n ih =>
    intro h
    by_cases e : k < cn M n
    · obtain ⟨x, a, c⟩ := ih e
      exact ⟨x, by omega, c⟩
    · have h2 : k < cn M n + (if M n then 1 else 0) := h
      by_cases f : M n = true
      · rw [if_pos f] at h2
        exact ⟨n, Nat.lt_succ_self n, f, by omega⟩
      · rw [if_neg f] at h2
        omega
theorem k_St_keep {w : w_T} {m m' : Nat → Int32} {A A' : Nat → Nat → Int32} (h : k_St w m A) (e0 : m' 37 = m 37) (e1 : m' 39 = m 39) (e2 : m' 40 = m 40) (e3 : A' 24 = A 24) : k_St w m' A' := by
  rcases h with h | h
  · exact Or.inl (e0.trans h)
  · exact Or.inr ⟨e0.trans h.1, h.2.keep e1 e2 e3⟩
theorem mo_K.up {α : Type} {L L' : List Nat} {f0 f : Nat → α} (h : mo_K L f0 f) (hL : ∀ x ∈ L, x ∈ L') : mo_K L' f0 f := fun j hj => h j (fun e => hj (hL j e))
set_option maxRecDepth 10000 in
set_option maxHeartbeats 2000000 in
theorem c_Mo_stuck (hG : q_GG g) {b hp : List va_E} {m0 : Nat → Int32} {A0 : Nat → Nat → Int32} {w : w_T} (hA : M_A b m0 A0 hp) (hmk : w_mk w) (hW : W_M w m0 A0) (hN : w_q w ≤ 30000) (h0q : w_0 w < w_q w) (hK : k_St w m0 A0) : q_C g m_Mo_stuck true (q_R 3 110 0 0) [.ref 84] hp (q_m2 (fun m' => some (.int (m' 39))) b (fun m' A' => m' 37 = 1 ∧ K_M w m' A' ∧ mo_K [0, 37, 39, 40] m0 m' ∧ mo_K [20, 21, 22, 23, 24] A0 A')) := by
  refine q_C.of hG (by decide) (Nat.le_of_ble_eq_true rfl) ?_
  have km : mo_K [0] m0 m0 := mo_K.rfl
  have kA : mo_K [] A0 A0 := mo_K.rfl
  refine q_aload_n d_Mo_stuck_0 rfl rfl ?_
  refine x_callVm d_Mo_stuck_1 l_Mo_194 i_Mo_product v_Mo_product rfl hA.1 (c_Mo_product hG hmk hW hA) rfl rfl (Nat.le_of_ble_eq_true rfl) (Nat.le_of_ble_eq_true rfl) (Nat.le_of_ble_eq_true rfl) (Nat.le_of_ble_eq_true rfl) (fun m A hp1 hA hz => ?_)
  obtain ⟨v0, nm, nA⟩ := hz
  have km := km.sub nm (by decide)
  have kA := kA.sub nA (by decide)
  rw [if_pos hN]
  refine q_if_ge (tgt := 10) d_Mo_stuck_4 (by decide) (fun b4 => ?_) (fun b4 => ?_)
  · skip
    have hK2 : k_St w m A := k_St_keep hK (km 37 (by decide)) (km 39 (by decide)) (km 40 (by decide)) (kA 24 (by decide))
    refine q_aload_n d_Mo_stuck_10 rfl rfl ?_
    refine x_callVm d_Mo_stuck_11 l_Mo_206 i_Mo_know v_Mo_know rfl hA.1 (c_Mo_know hG hA hmk (hW.keep km kA (by decide) (by decide)) hN h0q hK2) rfl rfl (Nat.le_of_ble_eq_true rfl) (Nat.le_of_ble_eq_true rfl) (Nat.le_of_ble_eq_true rfl) (Nat.le_of_ble_eq_true rfl) (fun m A hp2 hA hz => ?_)
    obtain ⟨v37, hKM, nm, nA⟩ := hz
    have km2 : mo_K [0, 37, 39, 40] m0 m := mo_K.sub (km.up (by decide)) nm (by decide)
    have kA2 : mo_K [20, 21, 22, 23, 24] A0 A := mo_K.sub (kA.up (by decide)) nA (by decide)
    refine q_aload_n d_Mo_stuck_14 rfl rfl ?_
    refine q_get d_Mo_stuck_15 f_Mo_200 hA.1 rfl ?_
    refine q_iret d_Mo_stuck_18 rfl ?_ (Nat.le_of_ble_eq_true rfl) (Nat.le_of_ble_eq_true rfl) (by decide)
    exact ⟨(_, _, _), rfl, rfl, hA, v37, hKM, km2, kA2⟩
  · skip
    exact absurd (nI_pos' (by omega)) b4
set_option maxRecDepth 10000 in
set_option maxHeartbeats 2000000 in
theorem c_Mo_stuckM (hG : q_GG g) {b hp : List va_E} {m : Nat → Int32} {A : Nat → Nat → Int32} {w : w_T} (hA : M_A b m A hp) (hmk : w_mk w) (hW : W_M w m A) (hN : ¬ w_q w ≤ 30000) : q_C g m_Mo_stuck true (q_R 3 110 0 0) [.ref 84] hp (q_mo (some (.int (-2))) b (fun m' A' => m' 0 = 0 ∧ mo_K [0] m m' ∧ mo_K [] A A')) := by
  refine q_C.of hG (by decide) (Nat.le_of_ble_eq_true rfl) ?_
  have km : mo_K [0] m m := mo_K.rfl
  have kA : mo_K [] A A := mo_K.rfl
  refine q_aload_n d_Mo_stuck_0 rfl rfl ?_
  refine x_callVm d_Mo_stuck_1 l_Mo_194 i_Mo_product v_Mo_product rfl hA.1 (c_Mo_product hG hmk hW hA) rfl rfl (Nat.le_of_ble_eq_true rfl) (Nat.le_of_ble_eq_true rfl) (Nat.le_of_ble_eq_true rfl) (Nat.le_of_ble_eq_true rfl) (fun m A hp1 hA hz => ?_)
  obtain ⟨v0, nm, nA⟩ := hz
  have km := km.sub nm (by decide)
  have kA := kA.sub nA (by decide)
  rw [if_neg hN]
  refine q_if_ge (tgt := 10) d_Mo_stuck_4 (by decide) (fun b4 => ?_) (fun b4 => ?_)
  · skip
    exact absurd b4 (by decide)
  · skip
    refine q_bipush (v := (-2)) d_Mo_stuck_7 (by decide) ?_
    refine q_iret d_Mo_stuck_9 rfl ?_ (Nat.le_of_ble_eq_true rfl) (Nat.le_of_ble_eq_true rfl) (by decide)
    exact ⟨(_, _, _), rfl, rfl, hA, v0, km, kA⟩
set_option maxRecDepth 10000 in
set_option maxHeartbeats 2000000 in
theorem c_Mo_ended (hG : q_GG g) {b hp : List va_E} {m0 : Nat → Int32} {A0 : Nat → Nat → Int32} {w : w_T} (hA : M_A b m0 A0 hp) (hmk : w_mk w) (hW : W_M w m0 A0) (hN : w_q w ≤ 30000) (h0q : w_0 w < w_q w) (hK : k_St w m0 A0) : q_C g m_Mo_ended true (q_R 3 110 0 0) [.ref 84] hp (q_m2 (fun m' => some (.int (m' 40))) b (fun m' A' => m' 37 = 1 ∧ K_M w m' A' ∧ mo_K [0, 37, 39, 40] m0 m' ∧ mo_K [20, 21, 22, 23, 24] A0 A')) := by
  refine q_C.of hG (by decide) (Nat.le_of_ble_eq_true rfl) ?_
  have km : mo_K [0] m0 m0 := mo_K.rfl
  have kA : mo_K [] A0 A0 := mo_K.rfl
  refine q_aload_n d_Mo_ended_0 rfl rfl ?_
  refine x_callVm d_Mo_ended_1 l_Mo_194 i_Mo_product v_Mo_product rfl hA.1 (c_Mo_product hG hmk hW hA) rfl rfl (Nat.le_of_ble_eq_true rfl) (Nat.le_of_ble_eq_true rfl) (Nat.le_of_ble_eq_true rfl) (Nat.le_of_ble_eq_true rfl) (fun m A hp1 hA hz => ?_)
  obtain ⟨v0, nm, nA⟩ := hz
  have km := km.sub nm (by decide)
  have kA := kA.sub nA (by decide)
  rw [if_pos hN]
  refine q_if_ge (tgt := 10) d_Mo_ended_4 (by decide) (fun b4 => ?_) (fun b4 => ?_)
  · skip
    have hK2 : k_St w m A := k_St_keep hK (km 37 (by decide)) (km 39 (by decide)) (km 40 (by decide)) (kA 24 (by decide))
    refine q_aload_n d_Mo_ended_10 rfl rfl ?_
    refine x_callVm d_Mo_ended_11 l_Mo_206 i_Mo_know v_Mo_know rfl hA.1 (c_Mo_know hG hA hmk (hW.keep km kA (by decide) (by decide)) hN h0q hK2) rfl rfl (Nat.le_of_ble_eq_true rfl) (Nat.le_of_ble_eq_true rfl) (Nat.le_of_ble_eq_true rfl) (Nat.le_of_ble_eq_true rfl) (fun m A hp2 hA hz => ?_)
    obtain ⟨v37, hKM, nm, nA⟩ := hz
    have km2 : mo_K [0, 37, 39, 40] m0 m := mo_K.sub (km.up (by decide)) nm (by decide)
    have kA2 : mo_K [20, 21, 22, 23, 24] A0 A := mo_K.sub (kA.up (by decide)) nA (by decide)
    refine q_aload_n d_Mo_ended_14 rfl rfl ?_
    refine q_get d_Mo_ended_15 f_Mo_203 hA.1 rfl ?_
    refine q_iret d_Mo_ended_18 rfl ?_ (Nat.le_of_ble_eq_true rfl) (Nat.le_of_ble_eq_true rfl) (by decide)
    exact ⟨(_, _, _), rfl, rfl, hA, v37, hKM, km2, kA2⟩
  · skip
    exact absurd (nI_pos' (by omega)) b4
set_option maxRecDepth 10000 in
set_option maxHeartbeats 2000000 in
theorem c_Mo_endedM (hG : q_GG g) {b hp : List va_E} {m : Nat → Int32} {A : Nat → Nat → Int32} {w : w_T} (hA : M_A b m A hp) (hmk : w_mk w) (hW : W_M w m A) (hN : ¬ w_q w ≤ 30000) : q_C g m_Mo_ended true (q_R 3 110 0 0) [.ref 84] hp (q_mo (some (.int (-2))) b (fun m' A' => m' 0 = 0 ∧ mo_K [0] m m' ∧ mo_K [] A A')) := by
  refine q_C.of hG (by decide) (Nat.le_of_ble_eq_true rfl) ?_
  have km : mo_K [0] m m := mo_K.rfl
  have kA : mo_K [] A A := mo_K.rfl
  refine q_aload_n d_Mo_ended_0 rfl rfl ?_
  refine x_callVm d_Mo_ended_1 l_Mo_194 i_Mo_product v_Mo_product rfl hA.1 (c_Mo_product hG hmk hW hA) rfl rfl (Nat.le_of_ble_eq_true rfl) (Nat.le_of_ble_eq_true rfl) (Nat.le_of_ble_eq_true rfl) (Nat.le_of_ble_eq_true rfl) (fun m A hp1 hA hz => ?_)
  obtain ⟨v0, nm, nA⟩ := hz
  have km := km.sub nm (by decide)
  have kA := kA.sub nA (by decide)
  rw [if_neg hN]
  refine q_if_ge (tgt := 10) d_Mo_ended_4 (by decide) (fun b4 => ?_) (fun b4 => ?_)
  · skip
    exact absurd b4 (by decide)
  · skip
    refine q_bipush (v := (-2)) d_Mo_ended_7 (by decide) ?_
    refine q_iret d_Mo_ended_9 rfl ?_ (Nat.le_of_ble_eq_true rfl) (Nat.le_of_ble_eq_true rfl) (by decide)
    exact ⟨(_, _, _), rfl, rfl, hA, v0, km, kA⟩
set_option maxRecDepth 10000 in
set_option maxHeartbeats 2000000 in
theorem c_Mo_placeM (hG : q_GG g) {b hp : List va_E} {m : Nat → Int32} {A : Nat → Nat → Int32} {w : w_T} {x y : Int32} (hA : M_A b m A hp) (hmk : w_mk w) (hW : W_M w m A) (hN : ¬ w_q w ≤ 30000) : q_C g m_Mo_place true (q_R 3 110 0 0) [.ref 84, .int x, .int y] hp (q_mo (some (.int 0)) b (fun m' A' => m' 0 = 1 ∧ mo_K [0] m m' ∧ mo_K [] A A')) := by
  refine q_C.of hG (by decide) (Nat.le_of_ble_eq_true rfl) ?_
  have km : mo_K [0] m m := mo_K.rfl
  have kA : mo_K [] A A := mo_K.rfl
  refine q_aload_n d_Mo_place_0 rfl rfl ?_
  refine q_aload_n d_Mo_place_1 rfl rfl ?_
  refine x_callVm d_Mo_place_2 l_Mo_194 i_Mo_product v_Mo_product rfl hA.1 (c_Mo_product hG hmk hW hA) rfl rfl (Nat.le_of_ble_eq_true rfl) (Nat.le_of_ble_eq_true rfl) (Nat.le_of_ble_eq_true rfl) (Nat.le_of_ble_eq_true rfl) (fun m A hp1 hA hz => ?_)
  obtain ⟨v0, nm, nA⟩ := hz
  have km := km.sub nm (by decide)
  have kA := kA.sub nA (by decide)
  rw [if_neg hN]
  refine q_if_ge (tgt := 12) d_Mo_place_5 (by decide) (fun b5 => ?_) (fun b5 => ?_)
  · skip
    exact absurd b5 (by decide)
  · skip
    refine q_iconst (v := 1) d_Mo_place_8 (by decide) ?_
    refine q_goto (tgt := 13) d_Mo_place_9 (by decide) ?_
    refine x_put d_Mo_place_13 f_Mo_90 hA.1 (Nat.le_of_ble_eq_true rfl) rfl rfl (fun hp2 e2 _ => ?_)
    obtain ⟨m, hA, v0, nn⟩ := hA.put (k := 0) (by decide) e2
    have km := km.put nn (by decide)
    refine q_aload_n d_Mo_place_16 rfl rfl ?_
    refine q_get d_Mo_place_17 f_Mo_90 hA.1 rfl ?_
    rw [v0]
    refine q_if_le (tgt := 25) d_Mo_place_20 (by decide) (fun b20 => ?_) (fun b20 => ?_)
    · skip
      exact absurd b20 (by decide)
    · skip
      refine q_iconst (v := 0) d_Mo_place_23 (by decide) ?_
      refine q_iret d_Mo_place_24 rfl ?_ (Nat.le_of_ble_eq_true rfl) (Nat.le_of_ble_eq_true rfl) (by decide)
      exact ⟨(_, _, _), rfl, rfl, hA, v0, km, kA⟩
set_option maxRecDepth 10000 in
set_option maxHeartbeats 2000000 in
theorem c_Mo_placeB (hG : q_GG g) {b hp : List va_E} {m0 : Nat → Int32} {A0 : Nat → Nat → Int32} {w : w_T} {x y : Int32} (hA : M_A b m0 A0 hp) (hmk : w_mk w) (hW : W_M w m0 A0) (hN : w_q w ≤ 30000) (h0q : w_0 w < w_q w) (hK : k_St w m0 A0) (hbad : ∀ sn : Nat → Bool, (∀ k, sn k = true ↔ rr_R (w_S w) (w_0 w) k) → (x < 0 ∨ nI (cn (f_F w sn) (w_q w)) ≤ x ∨ m_np y (w_p w))) : q_C g m_Mo_place true (q_R 3 110 0 0) [.ref 84, .int x, .int y] hp (q_mo (some (.int 0)) b (fun m' A' => m' 0 = 2 ∧ m' 37 = 1 ∧ K_M w m' A' ∧ mo_K [0, 37, 39, 40] m0 m' ∧ mo_K [20, 21, 22, 23, 24] A0 A')) := by
  refine q_C.of hG (by decide) (Nat.le_of_ble_eq_true rfl) ?_
  have km : mo_K [0] m0 m0 := mo_K.rfl
  have kA : mo_K [] A0 A0 := mo_K.rfl
  refine q_aload_n d_Mo_place_0 rfl rfl ?_
  refine q_aload_n d_Mo_place_1 rfl rfl ?_
  refine x_callVm d_Mo_place_2 l_Mo_194 i_Mo_product v_Mo_product rfl hA.1 (c_Mo_product hG hmk hW hA) rfl rfl (Nat.le_of_ble_eq_true rfl) (Nat.le_of_ble_eq_true rfl) (Nat.le_of_ble_eq_true rfl) (Nat.le_of_ble_eq_true rfl) (fun m A hp1 hA hz => ?_)
  obtain ⟨v0, nm, nA⟩ := hz
  have km := km.sub nm (by decide)
  have kA := kA.sub nA (by decide)
  rw [if_pos hN]
  refine q_if_ge (tgt := 12) d_Mo_place_5 (by decide) (fun b5 => ?_) (fun b5 => ?_)
  · skip
    refine q_iconst (v := 0) d_Mo_place_12 (by decide) ?_
    refine x_put d_Mo_place_13 f_Mo_90 hA.1 (Nat.le_of_ble_eq_true rfl) rfl rfl (fun hp2 e2 _ => ?_)
    obtain ⟨m, hA, v0, nn⟩ := hA.put (k := 0) (by decide) e2
    have km := km.put nn (by decide)
    refine q_aload_n d_Mo_place_16 rfl rfl ?_
    refine q_get d_Mo_place_17 f_Mo_90 hA.1 rfl ?_
    rw [v0]
    refine q_if_le (tgt := 25) d_Mo_place_20 (by decide) (fun b20 => ?_) (fun b20 => ?_)
    · skip
      have hK2 : k_St w m A := k_St_keep hK (km 37 (by decide)) (km 39 (by decide)) (km 40 (by decide)) (kA 24 (by decide))
      refine q_aload_n d_Mo_place_25 rfl rfl ?_
      refine x_callVm d_Mo_place_26 l_Mo_206 i_Mo_know v_Mo_know rfl hA.1 (c_Mo_know hG hA hmk (hW.keep km kA (by decide) (by decide)) hN h0q hK2) rfl rfl (Nat.le_of_ble_eq_true rfl) (Nat.le_of_ble_eq_true rfl) (Nat.le_of_ble_eq_true rfl) (Nat.le_of_ble_eq_true rfl) (fun m A hp3 hA hz => ?_)
      obtain ⟨v37, hKM, nm, nA⟩ := hz
      have km2 : mo_K [0, 37, 39, 40] m0 m := mo_K.sub (km.up (by decide)) nm (by decide)
      have kA2 : mo_K [20, 21, 22, 23, 24] A0 A := mo_K.sub (kA.up (by decide)) nA (by decide)
      obtain ⟨sn, hsn, v39, v40, hfd⟩ := hKM
      refine q_aload_n d_Mo_place_29 rfl rfl ?_
      refine q_join (pc' := 55) (st' := [.ref 84]) (if (x < 0 ∨ nI (cn (f_F w sn) (w_q w)) ≤ x ∨ m_np y (w_p w)) then 2 else 0) (fun x55 hx55 => ?_) (fun J55 => ?_)
      · subst hx55
        refine x_put d_Mo_place_55 f_Mo_90 hA.1 (Nat.le_of_ble_eq_true rfl) rfl rfl (fun hp4 e4 _ => ?_)
        obtain ⟨m, hA, v0, nn⟩ := hA.put (k := 0) (by decide) e4
        rw [if_pos (hbad sn hsn)] at v0
        have hKM : K_M w m A := ⟨sn, hsn, (nn 39 (by decide)).trans v39, (nn 40 (by decide)).trans v40, hfd⟩
        have v37 := (nn 37 (by decide)).trans v37
        have v39 := (nn 39 (by decide)).trans v39
        have km2 := km2.put nn (by decide)
        refine q_aload_n d_Mo_place_58 rfl rfl ?_
        refine q_get d_Mo_place_59 f_Mo_90 hA.1 rfl ?_
        rw [v0]
        refine q_if_le (tgt := 67) d_Mo_place_62 (by decide) (fun b62 => ?_) (fun b62 => ?_)
        · skip
          exact absurd b62 (by decide)
        · skip
          refine q_iconst (v := 0) d_Mo_place_65 (by decide) ?_
          refine q_iret d_Mo_place_66 rfl ?_ (Nat.le_of_ble_eq_true rfl) (Nat.le_of_ble_eq_true rfl) (by decide)
          exact ⟨(_, _, _), rfl, rfl, hA, v0, v37, hKM, km2, kA2⟩
      · skip
        refine q_iload_n d_Mo_place_30 rfl ?_
        refine q_if_lt (tgt := 50) d_Mo_place_31 (by decide) (fun b31 => ?_) (fun b31 => ?_)
        · skip
          have h1 : x < 0 := b31
          refine q_iconst (v := 2) d_Mo_place_50 (by decide) ?_
          refine q_goto (tgt := 55) d_Mo_place_51 (by decide) ?_
          exact J55 _ (by first | rw [if_pos (Or.inl h1)] | rw [if_pos (Or.inr (Or.inl h2))] | rw [if_pos (Or.inr (Or.inr h3))] | rw [if_neg (fun h => h.elim h1 (fun h => h.elim h2 h3))])
        · skip
          have h1 : ¬ x < 0 := b31
          refine q_iload_n d_Mo_place_34 rfl ?_
          refine q_aload_n d_Mo_place_35 rfl rfl ?_
          refine q_get d_Mo_place_36 f_Mo_200 hA.1 rfl ?_
          rw [v39]
          refine q_icmp_ge (tgt := 50) d_Mo_place_39 (by decide) (fun b39 => ?_) (fun b39 => ?_)
          · skip
            have h2 : nI (cn (f_F w sn) (w_q w)) ≤ x := b39
            refine q_iconst (v := 2) d_Mo_place_50 (by decide) ?_
            refine q_goto (tgt := 55) d_Mo_place_51 (by decide) ?_
            exact J55 _ (by first | rw [if_pos (Or.inl h1)] | rw [if_pos (Or.inr (Or.inl h2))] | rw [if_pos (Or.inr (Or.inr h3))] | rw [if_neg (fun h => h.elim h1 (fun h => h.elim h2 h3))])
          · skip
            have h2 : ¬ nI (cn (f_F w sn) (w_q w)) ≤ x := b39
            refine q_aload_n d_Mo_place_42 rfl rfl ?_
            refine q_iload_n d_Mo_place_43 rfl ?_
            refine x_callV d_Mo_place_44 l_Mo_168 i_Mo_noProcess v_Mo_noProcess rfl hA.1 (c_Mo_noProcess hG hA (hW.keep km2 kA2 (by decide) (by decide)).2.1) rfl rfl (Nat.le_of_ble_eq_true rfl) (Nat.le_of_ble_eq_true rfl) (Nat.le_of_ble_eq_true rfl) (Nat.le_of_ble_eq_true rfl) ?_
            refine q_if_eq (tgt := 54) d_Mo_place_47 (by decide) (fun b47 => ?_) (fun b47 => ?_)
            · skip
              have h3 : ¬ m_np y (w_p w) := m_if0.mp b47
              refine q_iconst (v := 0) d_Mo_place_54 (by decide) ?_
              exact J55 _ (by first | rw [if_pos (Or.inl h1)] | rw [if_pos (Or.inr (Or.inl h2))] | rw [if_pos (Or.inr (Or.inr h3))] | rw [if_neg (fun h => h.elim h1 (fun h => h.elim h2 h3))])
            · skip
              have h3 : m_np y (w_p w) := Classical.byContradiction (fun h => b47 (m_if0.mpr h))
              refine q_iconst (v := 2) d_Mo_place_50 (by decide) ?_
              refine q_goto (tgt := 55) d_Mo_place_51 (by decide) ?_
              exact J55 _ (by first | rw [if_pos (Or.inl h1)] | rw [if_pos (Or.inr (Or.inl h2))] | rw [if_pos (Or.inr (Or.inr h3))] | rw [if_neg (fun h => h.elim h1 (fun h => h.elim h2 h3))])
    · skip
      exact absurd (by decide) b20
  · skip
    exact absurd (nI_pos' (by omega)) b5
set_option maxRecDepth 10000 in
set_option maxHeartbeats 2000000 in
theorem c_Mo_place (hG : q_GG g) {b hp : List va_E} {m0 : Nat → Int32} {A0 : Nat → Nat → Int32} {w : w_T} {k i : Nat} (hA : M_A b m0 A0 hp) (hmk : w_mk w) (hW : W_M w m0 A0) (hN : w_q w ≤ 30000) (h0q : w_0 w < w_q w) (hK : k_St w m0 A0) (hgood : ∀ sn : Nat → Bool, (∀ k, sn k = true ↔ rr_R (w_S w) (w_0 w) k) → k < cn (f_F w sn) (w_q w)) (hk : k < 30000) (hi : i < w_p w) : q_C g m_Mo_place true (q_R 3 110 0 0) [.ref 84, .int (nI k), .int (nI i)] hp (q_rel (Z := Nat × m_Z) (fun z => some (.int (nI (w_dp w z.1 i)))) (fun z => z.2.2.2) (fun z => M_A b z.2.1 z.2.2.1 z.2.2.2 ∧ z.2.1 0 = 0 ∧ z.2.1 37 = 1 ∧ K_M w z.2.1 z.2.2.1 ∧ (∃ sn : Nat → Bool, (∀ k, sn k = true ↔ rr_R (w_S w) (w_0 w) k) ∧ z.1 < w_q w ∧ f_F w sn z.1 = true ∧ cn (f_F w sn) z.1 = k) ∧ mo_K [0, 37, 39, 40] m0 z.2.1 ∧ mo_K [20, 21, 22, 23, 24] A0 z.2.2.1)) := by
  refine q_C.of hG (by decide) (Nat.le_of_ble_eq_true rfl) ?_
  have km : mo_K [0] m0 m0 := mo_K.rfl
  have kA : mo_K [] A0 A0 := mo_K.rfl
  have hp6 := hmk.1.2.1
  have hn5 := hmk.1.1
  refine q_aload_n d_Mo_place_0 rfl rfl ?_
  refine q_aload_n d_Mo_place_1 rfl rfl ?_
  refine x_callVm d_Mo_place_2 l_Mo_194 i_Mo_product v_Mo_product rfl hA.1 (c_Mo_product hG hmk hW hA) rfl rfl (Nat.le_of_ble_eq_true rfl) (Nat.le_of_ble_eq_true rfl) (Nat.le_of_ble_eq_true rfl) (Nat.le_of_ble_eq_true rfl) (fun m A hp1 hA hz => ?_)
  obtain ⟨v0, nm, nA⟩ := hz
  have km := km.sub nm (by decide)
  have kA := kA.sub nA (by decide)
  rw [if_pos hN]
  refine q_if_ge (tgt := 12) d_Mo_place_5 (by decide) (fun b5 => ?_) (fun b5 => ?_)
  · skip
    refine q_iconst (v := 0) d_Mo_place_12 (by decide) ?_
    refine x_put d_Mo_place_13 f_Mo_90 hA.1 (Nat.le_of_ble_eq_true rfl) rfl rfl (fun hp2 e2 _ => ?_)
    obtain ⟨m, hA, v0, nn⟩ := hA.put (k := 0) (by decide) e2
    have km := km.put nn (by decide)
    refine q_aload_n d_Mo_place_16 rfl rfl ?_
    refine q_get d_Mo_place_17 f_Mo_90 hA.1 rfl ?_
    rw [v0]
    refine q_if_le (tgt := 25) d_Mo_place_20 (by decide) (fun b20 => ?_) (fun b20 => ?_)
    · skip
      have hK2 : k_St w m A := k_St_keep hK (km 37 (by decide)) (km 39 (by decide)) (km 40 (by decide)) (kA 24 (by decide))
      refine q_aload_n d_Mo_place_25 rfl rfl ?_
      refine x_callVm d_Mo_place_26 l_Mo_206 i_Mo_know v_Mo_know rfl hA.1 (c_Mo_know hG hA hmk (hW.keep km kA (by decide) (by decide)) hN h0q hK2) rfl rfl (Nat.le_of_ble_eq_true rfl) (Nat.le_of_ble_eq_true rfl) (Nat.le_of_ble_eq_true rfl) (Nat.le_of_ble_eq_true rfl) (fun m A hp3 hA hz => ?_)
      obtain ⟨v37, hKM, nm, nA⟩ := hz
      have km2 : mo_K [0, 37, 39, 40] m0 m := mo_K.sub (km.up (by decide)) nm (by decide)
      have kA2 : mo_K [20, 21, 22, 23, 24] A0 A := mo_K.sub (kA.up (by decide)) nA (by decide)
      obtain ⟨sn, hsn, v39, v40, hfd⟩ := hKM
      refine q_aload_n d_Mo_place_29 rfl rfl ?_
      refine q_join (pc' := 55) (st' := [.ref 84]) (if (nI k < 0 ∨ nI (cn (f_F w sn) (w_q w)) ≤ nI k ∨ m_np (nI i) (w_p w)) then 2 else 0) (fun x55 hx55 => ?_) (fun J55 => ?_)
      · subst hx55
        refine x_put d_Mo_place_55 f_Mo_90 hA.1 (Nat.le_of_ble_eq_true rfl) rfl rfl (fun hp4 e4 _ => ?_)
        obtain ⟨m, hA, v0, nn⟩ := hA.put (k := 0) (by decide) e4
        rw [if_neg (fun h => h.elim (nI_pos (by omega)) (fun h => h.elim (nI_ge (hgood sn hsn) (by have := cn_le (f_F w sn) (w_q w); omega)) (fun h => h.elim (nI_pos (by omega)) (nI_ge hi (by omega)))))] at v0
        have v40 := (nn 40 (by decide)).trans v40
        have v37 := (nn 37 (by decide)).trans v37
        have v39 := (nn 39 (by decide)).trans v39
        have km2 := km2.put nn (by decide)
        refine q_aload_n d_Mo_place_58 rfl rfl ?_
        refine q_get d_Mo_place_59 f_Mo_90 hA.1 rfl ?_
        rw [v0]
        refine q_if_le (tgt := 67) d_Mo_place_62 (by decide) (fun b62 => ?_) (fun b62 => ?_)
        · skip
          refine q_aload_n d_Mo_place_67 rfl rfl ?_
          refine q_aload_n d_Mo_place_68 rfl rfl ?_
          refine q_get d_Mo_place_69 f_Mo_87 hA.1 rfl ?_
          refine q_iload_n d_Mo_place_72 rfl ?_
          refine q_iald d_Mo_place_73 hA.a24 rfl (vp_in_nI (by omega) (by decide)) ?_
          obtain ⟨x0, hx1, hx2, hx3⟩ := cn_nth (w_q w) (hgood sn hsn)
          rw [nI_clamp (by omega), show A 24 k = nI x0 by rw [← hx3]; exact hfd x0 hx1 hx2]
          refine x_callVm d_Mo_place_74 l_Mo_186 i_Mo_apart v_Mo_apart rfl hA.1 (c_Mo_apart hG hA hmk (hW.keep km2 kA2 (by decide) (by decide)) (by omega)) rfl rfl (Nat.le_of_ble_eq_true rfl) (Nat.le_of_ble_eq_true rfl) (Nat.le_of_ble_eq_true rfl) (Nat.le_of_ble_eq_true rfl) (fun m A hp5 hA hz => ?_)
          obtain ⟨hst, nm, nA⟩ := hz
          have v0 := (nm 0 (by decide)).trans v0
          have v39 := (nm 39 (by decide)).trans v39
          have km2 := km2.sub nm (by decide)
          have kA2 := kA2.sub nA (by decide)
          have hKM2 : K_M w m A := ⟨sn, hsn, v39, (nm 40 (by decide)).trans v40, by rw [nA 24 (by decide)]; exact hfd⟩
          have v37 := (nm 37 (by decide)).trans v37
          refine q_aload_n d_Mo_place_77 rfl rfl ?_
          refine q_get d_Mo_place_78 f_Mo_75 hA.1 rfl ?_
          refine q_iload_n d_Mo_place_81 rfl ?_
          refine q_iald d_Mo_place_82 hA.a20 rfl (vp_in_nI (by omega) (by decide)) ?_
          rw [nI_clamp (by omega), hst.1 i hi]
          refine q_iret d_Mo_place_83 rfl ?_ (Nat.le_of_ble_eq_true rfl) (Nat.le_of_ble_eq_true rfl) (by decide)
          exact ⟨(x0, _, _, _), rfl, rfl, hA, v0, v37, hKM2, ⟨sn, hsn, hx1, hx2, hx3⟩, km2, kA2⟩
        · skip
          exact absurd (by decide) b62
      · skip
        refine q_iload_n d_Mo_place_30 rfl ?_
        refine q_if_lt (tgt := 50) d_Mo_place_31 (by decide) (fun b31 => ?_) (fun b31 => ?_)
        · skip
          have h1 : nI k < 0 := b31
          refine q_iconst (v := 2) d_Mo_place_50 (by decide) ?_
          refine q_goto (tgt := 55) d_Mo_place_51 (by decide) ?_
          exact J55 _ (by first | rw [if_pos (Or.inl h1)] | rw [if_pos (Or.inr (Or.inl h2))] | rw [if_pos (Or.inr (Or.inr h3))] | rw [if_neg (fun h => h.elim h1 (fun h => h.elim h2 h3))])
        · skip
          have h1 : ¬ nI k < 0 := b31
          refine q_iload_n d_Mo_place_34 rfl ?_
          refine q_aload_n d_Mo_place_35 rfl rfl ?_
          refine q_get d_Mo_place_36 f_Mo_200 hA.1 rfl ?_
          rw [v39]
          refine q_icmp_ge (tgt := 50) d_Mo_place_39 (by decide) (fun b39 => ?_) (fun b39 => ?_)
          · skip
            have h2 : nI (cn (f_F w sn) (w_q w)) ≤ nI k := b39
            refine q_iconst (v := 2) d_Mo_place_50 (by decide) ?_
            refine q_goto (tgt := 55) d_Mo_place_51 (by decide) ?_
            exact J55 _ (by first | rw [if_pos (Or.inl h1)] | rw [if_pos (Or.inr (Or.inl h2))] | rw [if_pos (Or.inr (Or.inr h3))] | rw [if_neg (fun h => h.elim h1 (fun h => h.elim h2 h3))])
          · skip
            have h2 : ¬ nI (cn (f_F w sn) (w_q w)) ≤ nI k := b39
            refine q_aload_n d_Mo_place_42 rfl rfl ?_
            refine q_iload_n d_Mo_place_43 rfl ?_
            refine x_callV d_Mo_place_44 l_Mo_168 i_Mo_noProcess v_Mo_noProcess rfl hA.1 (c_Mo_noProcess hG hA (hW.keep km2 kA2 (by decide) (by decide)).2.1) rfl rfl (Nat.le_of_ble_eq_true rfl) (Nat.le_of_ble_eq_true rfl) (Nat.le_of_ble_eq_true rfl) (Nat.le_of_ble_eq_true rfl) ?_
            refine q_if_eq (tgt := 54) d_Mo_place_47 (by decide) (fun b47 => ?_) (fun b47 => ?_)
            · skip
              have h3 : ¬ m_np (nI i) (w_p w) := m_if0.mp b47
              refine q_iconst (v := 0) d_Mo_place_54 (by decide) ?_
              exact J55 _ (by first | rw [if_pos (Or.inl h1)] | rw [if_pos (Or.inr (Or.inl h2))] | rw [if_pos (Or.inr (Or.inr h3))] | rw [if_neg (fun h => h.elim h1 (fun h => h.elim h2 h3))])
            · skip
              have h3 : m_np (nI i) (w_p w) := Classical.byContradiction (fun h => b47 (m_if0.mpr h))
              refine q_iconst (v := 2) d_Mo_place_50 (by decide) ?_
              refine q_goto (tgt := 55) d_Mo_place_51 (by decide) ?_
              exact J55 _ (by first | rw [if_pos (Or.inl h1)] | rw [if_pos (Or.inr (Or.inl h2))] | rw [if_pos (Or.inr (Or.inr h3))] | rw [if_neg (fun h => h.elim h1 (fun h => h.elim h2 h3))])
    · skip
      exact absurd (by decide) b20
  · skip
    exact absurd (nI_pos' (by omega)) b5
set_option maxRecDepth 10000 in
set_option maxHeartbeats 2000000 in
theorem c_Mo_valueM (hG : q_GG g) {b hp : List va_E} {m : Nat → Int32} {A : Nat → Nat → Int32} {w : w_T} {x y : Int32} (hA : M_A b m A hp) (hmk : w_mk w) (hW : W_M w m A) (hN : ¬ w_q w ≤ 30000) : q_C g m_Mo_value true (q_R 3 110 0 0) [.ref 84, .int x, .int y] hp (q_mo (some (.int 0)) b (fun m' A' => m' 0 = 1 ∧ mo_K [0] m m' ∧ mo_K [] A A')) := by
  refine q_C.of hG (by decide) (Nat.le_of_ble_eq_true rfl) ?_
  have km : mo_K [0] m m := mo_K.rfl
  have kA : mo_K [] A A := mo_K.rfl
  refine q_aload_n d_Mo_value_0 rfl rfl ?_
  refine q_aload_n d_Mo_value_1 rfl rfl ?_
  refine x_callVm d_Mo_value_2 l_Mo_194 i_Mo_product v_Mo_product rfl hA.1 (c_Mo_product hG hmk hW hA) rfl rfl (Nat.le_of_ble_eq_true rfl) (Nat.le_of_ble_eq_true rfl) (Nat.le_of_ble_eq_true rfl) (Nat.le_of_ble_eq_true rfl) (fun m A hp1 hA hz => ?_)
  obtain ⟨v0, nm, nA⟩ := hz
  have km := km.sub nm (by decide)
  have kA := kA.sub nA (by decide)
  rw [if_neg hN]
  refine q_if_ge (tgt := 12) d_Mo_value_5 (by decide) (fun b5 => ?_) (fun b5 => ?_)
  · skip
    exact absurd b5 (by decide)
  · skip
    refine q_iconst (v := 1) d_Mo_value_8 (by decide) ?_
    refine q_goto (tgt := 13) d_Mo_value_9 (by decide) ?_
    refine x_put d_Mo_value_13 f_Mo_90 hA.1 (Nat.le_of_ble_eq_true rfl) rfl rfl (fun hp2 e2 _ => ?_)
    obtain ⟨m, hA, v0, nn⟩ := hA.put (k := 0) (by decide) e2
    have km := km.put nn (by decide)
    refine q_aload_n d_Mo_value_16 rfl rfl ?_
    refine q_get d_Mo_value_17 f_Mo_90 hA.1 rfl ?_
    rw [v0]
    refine q_if_le (tgt := 25) d_Mo_value_20 (by decide) (fun b20 => ?_) (fun b20 => ?_)
    · skip
      exact absurd b20 (by decide)
    · skip
      refine q_iconst (v := 0) d_Mo_value_23 (by decide) ?_
      refine q_iret d_Mo_value_24 rfl ?_ (Nat.le_of_ble_eq_true rfl) (Nat.le_of_ble_eq_true rfl) (by decide)
      exact ⟨(_, _, _), rfl, rfl, hA, v0, km, kA⟩
set_option maxRecDepth 10000 in
set_option maxHeartbeats 2000000 in
theorem c_Mo_valueB (hG : q_GG g) {b hp : List va_E} {m0 : Nat → Int32} {A0 : Nat → Nat → Int32} {w : w_T} {x y : Int32} (hA : M_A b m0 A0 hp) (hmk : w_mk w) (hW : W_M w m0 A0) (hN : w_q w ≤ 30000) (h0q : w_0 w < w_q w) (hK : k_St w m0 A0) (hbad : ∀ sn : Nat → Bool, (∀ k, sn k = true ↔ rr_R (w_S w) (w_0 w) k) → (x < 0 ∨ nI (cn (f_F w sn) (w_q w)) ≤ x ∨ m_np y (w_n w))) : q_C g m_Mo_value true (q_R 3 110 0 0) [.ref 84, .int x, .int y] hp (q_mo (some (.int 0)) b (fun m' A' => m' 0 = 2 ∧ m' 37 = 1 ∧ K_M w m' A' ∧ mo_K [0, 37, 39, 40] m0 m' ∧ mo_K [20, 21, 22, 23, 24] A0 A')) := by
  refine q_C.of hG (by decide) (Nat.le_of_ble_eq_true rfl) ?_
  have km : mo_K [0] m0 m0 := mo_K.rfl
  have kA : mo_K [] A0 A0 := mo_K.rfl
  refine q_aload_n d_Mo_value_0 rfl rfl ?_
  refine q_aload_n d_Mo_value_1 rfl rfl ?_
  refine x_callVm d_Mo_value_2 l_Mo_194 i_Mo_product v_Mo_product rfl hA.1 (c_Mo_product hG hmk hW hA) rfl rfl (Nat.le_of_ble_eq_true rfl) (Nat.le_of_ble_eq_true rfl) (Nat.le_of_ble_eq_true rfl) (Nat.le_of_ble_eq_true rfl) (fun m A hp1 hA hz => ?_)
  obtain ⟨v0, nm, nA⟩ := hz
  have km := km.sub nm (by decide)
  have kA := kA.sub nA (by decide)
  rw [if_pos hN]
  refine q_if_ge (tgt := 12) d_Mo_value_5 (by decide) (fun b5 => ?_) (fun b5 => ?_)
  · skip
    refine q_iconst (v := 0) d_Mo_value_12 (by decide) ?_
    refine x_put d_Mo_value_13 f_Mo_90 hA.1 (Nat.le_of_ble_eq_true rfl) rfl rfl (fun hp2 e2 _ => ?_)
    obtain ⟨m, hA, v0, nn⟩ := hA.put (k := 0) (by decide) e2
    have km := km.put nn (by decide)
    refine q_aload_n d_Mo_value_16 rfl rfl ?_
    refine q_get d_Mo_value_17 f_Mo_90 hA.1 rfl ?_
    rw [v0]
    refine q_if_le (tgt := 25) d_Mo_value_20 (by decide) (fun b20 => ?_) (fun b20 => ?_)
    · skip
      have hK2 : k_St w m A := k_St_keep hK (km 37 (by decide)) (km 39 (by decide)) (km 40 (by decide)) (kA 24 (by decide))
      refine q_aload_n d_Mo_value_25 rfl rfl ?_
      refine x_callVm d_Mo_value_26 l_Mo_206 i_Mo_know v_Mo_know rfl hA.1 (c_Mo_know hG hA hmk (hW.keep km kA (by decide) (by decide)) hN h0q hK2) rfl rfl (Nat.le_of_ble_eq_true rfl) (Nat.le_of_ble_eq_true rfl) (Nat.le_of_ble_eq_true rfl) (Nat.le_of_ble_eq_true rfl) (fun m A hp3 hA hz => ?_)
      obtain ⟨v37, hKM, nm, nA⟩ := hz
      have km2 : mo_K [0, 37, 39, 40] m0 m := mo_K.sub (km.up (by decide)) nm (by decide)
      have kA2 : mo_K [20, 21, 22, 23, 24] A0 A := mo_K.sub (kA.up (by decide)) nA (by decide)
      obtain ⟨sn, hsn, v39, v40, hfd⟩ := hKM
      refine q_aload_n d_Mo_value_29 rfl rfl ?_
      refine q_join (pc' := 59) (st' := [.ref 84]) (if (x < 0 ∨ nI (cn (f_F w sn) (w_q w)) ≤ x ∨ m_np y (w_n w)) then 2 else 0) (fun x59 hx59 => ?_) (fun J59 => ?_)
      · subst hx59
        refine x_put d_Mo_value_59 f_Mo_90 hA.1 (Nat.le_of_ble_eq_true rfl) rfl rfl (fun hp4 e4 _ => ?_)
        obtain ⟨m, hA, v0, nn⟩ := hA.put (k := 0) (by decide) e4
        rw [if_pos (hbad sn hsn)] at v0
        have hKM : K_M w m A := ⟨sn, hsn, (nn 39 (by decide)).trans v39, (nn 40 (by decide)).trans v40, hfd⟩
        have v37 := (nn 37 (by decide)).trans v37
        have v39 := (nn 39 (by decide)).trans v39
        have km2 := km2.put nn (by decide)
        refine q_aload_n d_Mo_value_62 rfl rfl ?_
        refine q_get d_Mo_value_63 f_Mo_90 hA.1 rfl ?_
        rw [v0]
        refine q_if_le (tgt := 71) d_Mo_value_66 (by decide) (fun b66 => ?_) (fun b66 => ?_)
        · skip
          exact absurd b66 (by decide)
        · skip
          refine q_iconst (v := 0) d_Mo_value_69 (by decide) ?_
          refine q_iret d_Mo_value_70 rfl ?_ (Nat.le_of_ble_eq_true rfl) (Nat.le_of_ble_eq_true rfl) (by decide)
          exact ⟨(_, _, _), rfl, rfl, hA, v0, v37, hKM, km2, kA2⟩
      · skip
        refine q_iload_n d_Mo_value_30 rfl ?_
        refine q_if_lt (tgt := 54) d_Mo_value_31 (by decide) (fun b31 => ?_) (fun b31 => ?_)
        · skip
          have h1 : x < 0 := b31
          refine q_iconst (v := 2) d_Mo_value_54 (by decide) ?_
          refine q_goto (tgt := 59) d_Mo_value_55 (by decide) ?_
          exact J59 _ (by first | rw [if_pos (Or.inl h1)] | rw [if_pos (Or.inr (Or.inl h2))] | rw [if_pos (Or.inr (Or.inr h3))] | rw [if_neg (fun h => h.elim h1 (fun h => h.elim h2 h3))])
        · skip
          have h1 : ¬ x < 0 := b31
          refine q_iload_n d_Mo_value_34 rfl ?_
          refine q_aload_n d_Mo_value_35 rfl rfl ?_
          refine q_get d_Mo_value_36 f_Mo_200 hA.1 rfl ?_
          rw [v39]
          refine q_icmp_ge (tgt := 54) d_Mo_value_39 (by decide) (fun b39 => ?_) (fun b39 => ?_)
          · skip
            have h2 : nI (cn (f_F w sn) (w_q w)) ≤ x := b39
            refine q_iconst (v := 2) d_Mo_value_54 (by decide) ?_
            refine q_goto (tgt := 59) d_Mo_value_55 (by decide) ?_
            exact J59 _ (by first | rw [if_pos (Or.inl h1)] | rw [if_pos (Or.inr (Or.inl h2))] | rw [if_pos (Or.inr (Or.inr h3))] | rw [if_neg (fun h => h.elim h1 (fun h => h.elim h2 h3))])
          · skip
            have h2 : ¬ nI (cn (f_F w sn) (w_q w)) ≤ x := b39
            refine q_iload_n d_Mo_value_42 rfl ?_
            refine q_if_lt (tgt := 54) d_Mo_value_43 (by decide) (fun b43 => ?_) (fun b43 => ?_)
            · skip
              have h3 : m_np y (w_n w) := Or.inl b43
              refine q_iconst (v := 2) d_Mo_value_54 (by decide) ?_
              refine q_goto (tgt := 59) d_Mo_value_55 (by decide) ?_
              exact J59 _ (by first | rw [if_pos (Or.inl h1)] | rw [if_pos (Or.inr (Or.inl h2))] | rw [if_pos (Or.inr (Or.inr h3))] | rw [if_neg (fun h => h.elim h1 (fun h => h.elim h2 h3))])
            · skip
              have h4 : ¬ y < 0 := b43
              refine q_iload_n d_Mo_value_46 rfl ?_
              refine q_aload_n d_Mo_value_47 rfl rfl ?_
              refine q_get d_Mo_value_48 f_Mo_105 hA.1 rfl ?_
              rw [(hW.keep km2 kA2 (by decide) (by decide)).1]
              refine q_icmp_lt (tgt := 58) d_Mo_value_51 (by decide) (fun b51 => ?_) (fun b51 => ?_)
              · skip
                have h3 : ¬ m_np y (w_n w) := fun h => h.elim h4 (fun h => absurd h (Int32.not_le.mpr b51))
                refine q_iconst (v := 0) d_Mo_value_58 (by decide) ?_
                exact J59 _ (by first | rw [if_pos (Or.inl h1)] | rw [if_pos (Or.inr (Or.inl h2))] | rw [if_pos (Or.inr (Or.inr h3))] | rw [if_neg (fun h => h.elim h1 (fun h => h.elim h2 h3))])
              · skip
                have h3 : m_np y (w_n w) := Or.inr (Int32.not_lt.mp b51)
                refine q_iconst (v := 2) d_Mo_value_54 (by decide) ?_
                refine q_goto (tgt := 59) d_Mo_value_55 (by decide) ?_
                exact J59 _ (by first | rw [if_pos (Or.inl h1)] | rw [if_pos (Or.inr (Or.inl h2))] | rw [if_pos (Or.inr (Or.inr h3))] | rw [if_neg (fun h => h.elim h1 (fun h => h.elim h2 h3))])
    · skip
      exact absurd (by decide) b20
  · skip
    exact absurd (nI_pos' (by omega)) b5
set_option maxRecDepth 10000 in
set_option maxHeartbeats 2000000 in
theorem c_Mo_value (hG : q_GG g) {b hp : List va_E} {m0 : Nat → Int32} {A0 : Nat → Nat → Int32} {w : w_T} {k i : Nat} (hA : M_A b m0 A0 hp) (hmk : w_mk w) (hW : W_M w m0 A0) (hN : w_q w ≤ 30000) (h0q : w_0 w < w_q w) (hK : k_St w m0 A0) (hgood : ∀ sn : Nat → Bool, (∀ k, sn k = true ↔ rr_R (w_S w) (w_0 w) k) → k < cn (f_F w sn) (w_q w)) (hk : k < 30000) (hi : i < w_n w) : q_C g m_Mo_value true (q_R 3 110 0 0) [.ref 84, .int (nI k), .int (nI i)] hp (q_rel (Z := Nat × m_Z) (fun z => some (.int (nI (w_dv w z.1 i)))) (fun z => z.2.2.2) (fun z => M_A b z.2.1 z.2.2.1 z.2.2.2 ∧ z.2.1 0 = 0 ∧ z.2.1 37 = 1 ∧ K_M w z.2.1 z.2.2.1 ∧ (∃ sn : Nat → Bool, (∀ k, sn k = true ↔ rr_R (w_S w) (w_0 w) k) ∧ z.1 < w_q w ∧ f_F w sn z.1 = true ∧ cn (f_F w sn) z.1 = k) ∧ mo_K [0, 37, 39, 40] m0 z.2.1 ∧ mo_K [20, 21, 22, 23, 24] A0 z.2.2.1)) := by
  refine q_C.of hG (by decide) (Nat.le_of_ble_eq_true rfl) ?_
  have km : mo_K [0] m0 m0 := mo_K.rfl
  have kA : mo_K [] A0 A0 := mo_K.rfl
  have hp6 := hmk.1.2.1
  have hn5 := hmk.1.1
  refine q_aload_n d_Mo_value_0 rfl rfl ?_
  refine q_aload_n d_Mo_value_1 rfl rfl ?_
  refine x_callVm d_Mo_value_2 l_Mo_194 i_Mo_product v_Mo_product rfl hA.1 (c_Mo_product hG hmk hW hA) rfl rfl (Nat.le_of_ble_eq_true rfl) (Nat.le_of_ble_eq_true rfl) (Nat.le_of_ble_eq_true rfl) (Nat.le_of_ble_eq_true rfl) (fun m A hp1 hA hz => ?_)
  obtain ⟨v0, nm, nA⟩ := hz
  have km := km.sub nm (by decide)
  have kA := kA.sub nA (by decide)
  rw [if_pos hN]
  refine q_if_ge (tgt := 12) d_Mo_value_5 (by decide) (fun b5 => ?_) (fun b5 => ?_)
  · skip
    refine q_iconst (v := 0) d_Mo_value_12 (by decide) ?_
    refine x_put d_Mo_value_13 f_Mo_90 hA.1 (Nat.le_of_ble_eq_true rfl) rfl rfl (fun hp2 e2 _ => ?_)
    obtain ⟨m, hA, v0, nn⟩ := hA.put (k := 0) (by decide) e2
    have km := km.put nn (by decide)
    refine q_aload_n d_Mo_value_16 rfl rfl ?_
    refine q_get d_Mo_value_17 f_Mo_90 hA.1 rfl ?_
    rw [v0]
    refine q_if_le (tgt := 25) d_Mo_value_20 (by decide) (fun b20 => ?_) (fun b20 => ?_)
    · skip
      have hK2 : k_St w m A := k_St_keep hK (km 37 (by decide)) (km 39 (by decide)) (km 40 (by decide)) (kA 24 (by decide))
      refine q_aload_n d_Mo_value_25 rfl rfl ?_
      refine x_callVm d_Mo_value_26 l_Mo_206 i_Mo_know v_Mo_know rfl hA.1 (c_Mo_know hG hA hmk (hW.keep km kA (by decide) (by decide)) hN h0q hK2) rfl rfl (Nat.le_of_ble_eq_true rfl) (Nat.le_of_ble_eq_true rfl) (Nat.le_of_ble_eq_true rfl) (Nat.le_of_ble_eq_true rfl) (fun m A hp3 hA hz => ?_)
      obtain ⟨v37, hKM, nm, nA⟩ := hz
      have km2 : mo_K [0, 37, 39, 40] m0 m := mo_K.sub (km.up (by decide)) nm (by decide)
      have kA2 : mo_K [20, 21, 22, 23, 24] A0 A := mo_K.sub (kA.up (by decide)) nA (by decide)
      obtain ⟨sn, hsn, v39, v40, hfd⟩ := hKM
      refine q_aload_n d_Mo_value_29 rfl rfl ?_
      refine q_join (pc' := 59) (st' := [.ref 84]) (if (nI k < 0 ∨ nI (cn (f_F w sn) (w_q w)) ≤ nI k ∨ m_np (nI i) (w_n w)) then 2 else 0) (fun x59 hx59 => ?_) (fun J59 => ?_)
      · subst hx59
        refine x_put d_Mo_value_59 f_Mo_90 hA.1 (Nat.le_of_ble_eq_true rfl) rfl rfl (fun hp4 e4 _ => ?_)
        obtain ⟨m, hA, v0, nn⟩ := hA.put (k := 0) (by decide) e4
        rw [if_neg (fun h => h.elim (nI_pos (by omega)) (fun h => h.elim (nI_ge (hgood sn hsn) (by have := cn_le (f_F w sn) (w_q w); omega)) (fun h => h.elim (nI_pos (by omega)) (nI_ge hi (by omega)))))] at v0
        have v40 := (nn 40 (by decide)).trans v40
        have v37 := (nn 37 (by decide)).trans v37
        have v39 := (nn 39 (by decide)).trans v39
        have km2 := km2.put nn (by decide)
        refine q_aload_n d_Mo_value_62 rfl rfl ?_
        refine q_get d_Mo_value_63 f_Mo_90 hA.1 rfl ?_
        rw [v0]
        refine q_if_le (tgt := 71) d_Mo_value_66 (by decide) (fun b66 => ?_) (fun b66 => ?_)
        · skip
          refine q_aload_n d_Mo_value_71 rfl rfl ?_
          refine q_aload_n d_Mo_value_72 rfl rfl ?_
          refine q_get d_Mo_value_73 f_Mo_87 hA.1 rfl ?_
          refine q_iload_n d_Mo_value_76 rfl ?_
          refine q_iald d_Mo_value_77 hA.a24 rfl (vp_in_nI (by omega) (by decide)) ?_
          obtain ⟨x0, hx1, hx2, hx3⟩ := cn_nth (w_q w) (hgood sn hsn)
          rw [nI_clamp (by omega), show A 24 k = nI x0 by rw [← hx3]; exact hfd x0 hx1 hx2]
          refine x_callVm d_Mo_value_78 l_Mo_186 i_Mo_apart v_Mo_apart rfl hA.1 (c_Mo_apart hG hA hmk (hW.keep km2 kA2 (by decide) (by decide)) (by omega)) rfl rfl (Nat.le_of_ble_eq_true rfl) (Nat.le_of_ble_eq_true rfl) (Nat.le_of_ble_eq_true rfl) (Nat.le_of_ble_eq_true rfl) (fun m A hp5 hA hz => ?_)
          obtain ⟨hst, nm, nA⟩ := hz
          have v0 := (nm 0 (by decide)).trans v0
          have v39 := (nm 39 (by decide)).trans v39
          have km2 := km2.sub nm (by decide)
          have kA2 := kA2.sub nA (by decide)
          have hKM2 : K_M w m A := ⟨sn, hsn, v39, (nm 40 (by decide)).trans v40, by rw [nA 24 (by decide)]; exact hfd⟩
          have v37 := (nm 37 (by decide)).trans v37
          refine q_aload_n d_Mo_value_81 rfl rfl ?_
          refine q_get d_Mo_value_82 f_Mo_75 hA.1 rfl ?_
          refine q_bipush (v := 6) d_Mo_value_85 (by decide) ?_
          refine q_iload_n d_Mo_value_87 rfl ?_
          refine q_iadd d_Mo_value_88 ?_
          rw [show (6 : Int32) = nI 6 from rfl, nI_add]
          refine q_iald d_Mo_value_89 hA.a20 rfl (vp_in_nI (by omega) (by decide)) ?_
          rw [nI_clamp (by omega), hst.2 i hi]
          refine q_iret d_Mo_value_90 rfl ?_ (Nat.le_of_ble_eq_true rfl) (Nat.le_of_ble_eq_true rfl) (by decide)
          exact ⟨(x0, _, _, _), rfl, rfl, hA, v0, v37, hKM2, ⟨sn, hsn, hx1, hx2, hx3⟩, km2, kA2⟩
        · skip
          exact absurd (by decide) b66
      · skip
        refine q_iload_n d_Mo_value_30 rfl ?_
        refine q_if_lt (tgt := 54) d_Mo_value_31 (by decide) (fun b31 => ?_) (fun b31 => ?_)
        · skip
          have h1 : nI k < 0 := b31
          refine q_iconst (v := 2) d_Mo_value_54 (by decide) ?_
          refine q_goto (tgt := 59) d_Mo_value_55 (by decide) ?_
          exact J59 _ (by first | rw [if_pos (Or.inl h1)] | rw [if_pos (Or.inr (Or.inl h2))] | rw [if_pos (Or.inr (Or.inr h3))] | rw [if_neg (fun h => h.elim h1 (fun h => h.elim h2 h3))])
        · skip
          have h1 : ¬ nI k < 0 := b31
          refine q_iload_n d_Mo_value_34 rfl ?_
          refine q_aload_n d_Mo_value_35 rfl rfl ?_
          refine q_get d_Mo_value_36 f_Mo_200 hA.1 rfl ?_
          rw [v39]
          refine q_icmp_ge (tgt := 54) d_Mo_value_39 (by decide) (fun b39 => ?_) (fun b39 => ?_)
          · skip
            have h2 : nI (cn (f_F w sn) (w_q w)) ≤ nI k := b39
            refine q_iconst (v := 2) d_Mo_value_54 (by decide) ?_
            refine q_goto (tgt := 59) d_Mo_value_55 (by decide) ?_
            exact J59 _ (by first | rw [if_pos (Or.inl h1)] | rw [if_pos (Or.inr (Or.inl h2))] | rw [if_pos (Or.inr (Or.inr h3))] | rw [if_neg (fun h => h.elim h1 (fun h => h.elim h2 h3))])
          · skip
            have h2 : ¬ nI (cn (f_F w sn) (w_q w)) ≤ nI k := b39
            refine q_iload_n d_Mo_value_42 rfl ?_
            refine q_if_lt (tgt := 54) d_Mo_value_43 (by decide) (fun b43 => ?_) (fun b43 => ?_)
            · skip
              have h3 : m_np (nI i) (w_n w) := Or.inl b43
              refine q_iconst (v := 2) d_Mo_value_54 (by decide) ?_
              refine q_goto (tgt := 59) d_Mo_value_55 (by decide) ?_
              exact J59 _ (by first | rw [if_pos (Or.inl h1)] | rw [if_pos (Or.inr (Or.inl h2))] | rw [if_pos (Or.inr (Or.inr h3))] | rw [if_neg (fun h => h.elim h1 (fun h => h.elim h2 h3))])
            · skip
              have h4 : ¬ nI i < 0 := b43
              refine q_iload_n d_Mo_value_46 rfl ?_
              refine q_aload_n d_Mo_value_47 rfl rfl ?_
              refine q_get d_Mo_value_48 f_Mo_105 hA.1 rfl ?_
              rw [(hW.keep km2 kA2 (by decide) (by decide)).1]
              refine q_icmp_lt (tgt := 58) d_Mo_value_51 (by decide) (fun b51 => ?_) (fun b51 => ?_)
              · skip
                have h3 : ¬ m_np (nI i) (w_n w) := fun h => h.elim h4 (fun h => absurd h (Int32.not_le.mpr b51))
                refine q_iconst (v := 0) d_Mo_value_58 (by decide) ?_
                exact J59 _ (by first | rw [if_pos (Or.inl h1)] | rw [if_pos (Or.inr (Or.inl h2))] | rw [if_pos (Or.inr (Or.inr h3))] | rw [if_neg (fun h => h.elim h1 (fun h => h.elim h2 h3))])
              · skip
                have h3 : m_np (nI i) (w_n w) := Or.inr (Int32.not_lt.mp b51)
                refine q_iconst (v := 2) d_Mo_value_54 (by decide) ?_
                refine q_goto (tgt := 59) d_Mo_value_55 (by decide) ?_
                exact J59 _ (by first | rw [if_pos (Or.inl h1)] | rw [if_pos (Or.inr (Or.inl h2))] | rw [if_pos (Or.inr (Or.inr h3))] | rw [if_neg (fun h => h.elim h1 (fun h => h.elim h2 h3))])
    · skip
      exact absurd (by decide) b20
  · skip
    exact absurd (nI_pos' (by omega)) b5
end M15
