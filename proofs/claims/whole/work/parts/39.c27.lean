/-! the whole class: searches, clear -/
section C27
variable {g : q_G}
abbrev b_o (B : z_S) : Nat × Nat × Nat × Nat := B.2.2.2.2.2.2
/-- what the search knows -/
def z_K (w : w_T) (B : z_S) (hp : List va_E) : Prop := (∀ q, q < 6 → B.2.2.2.2.1 q < 13) ∧ (((b_o B).2.2.1 = 0 ∧ (b_o B).2.2.2 = 0) ∨ ((b_o B).2.2.1 = 1 ∧ S_W w hp ∧ S_K w B.1 B.2.1 (b_o B) ∧ w_q w ≤ 30000 ∧ ((b_o B).2.2.2 = 0 ∨ ((b_o B).2.2.2 = 1 ∧ S_M w B.2.2.1))))
theorem z_K.keep {w : w_T} {B : z_S} {hp hp' : List va_E} (h : z_K w B hp) (h1 : hp'[79]? = hp[79]?) (h2 : hp'[80]? = hp[80]?) : z_K w B hp' := by
  refine ⟨h.1, ?_⟩
  rcases h.2 with q | ⟨a, b, c⟩
  · exact Or.inl q
  · exact Or.inr ⟨a, b.keep h1 h2, c⟩
theorem z_K.fg {w w' : w_T} {B : z_S} {hp hp' : List va_E} (h : z_K w B hp) : z_K w' (B_0 B) hp' := ⟨h.1, Or.inl ⟨rfl, rfl⟩⟩
def sk_P (w : w_T) (hp : List va_E) (z : z_S × List va_E) : Prop := z_A z.1 z.2 ∧ z_K w z.1 z.2 ∧ S_A w z.1.1 z.1.2.1 z.1.2.2.1 z.1.2.2.2.1 z.1.2.2.2.2.1 z.1.2.2.2.2.2.1 (b_o z.1) z.2 ∧ S_K w z.1.1 z.1.2.1 (b_o z.1) ∧ F_S hp z.2
theorem k_findStanding (hG : q_GG g) {w : w_T} {B : z_S} {hp : List va_E} (hok : w_ok w) (hfz : w_fz w) (hN : w_q w ≤ 30000) (hw : w_A w hp) (h : z_A B hp) (hK : z_K w B hp) : q_C g m_Se_findStanding true (q_R 4 80 0 0) [.ref 67] hp (q_rel (Z := z_S × List va_E) (fun _ => none) (fun z => z.2) (sk_P w hp)) := by
  have hB : S_B w B.1 B.2.1 B.2.2.1 B.2.2.2.1 B.2.2.2.2.1 B.2.2.2.2.2.1 (b_o B) hp := ⟨hw, h⟩
  rcases hK.2 with ⟨q1, q2⟩ | ⟨q1, q2, q3, q4, q5⟩
  · refine (c_Se_findStanding0 hG hok hfz hN hB q1 q2).post ?_
    intro r hp' ⟨z, e1, e2, ⟨R2, St2, Wa2, pl2, vl2, o2, a1, a2, a3, a4⟩, a5⟩
    subst e2
    exact ⟨((R2, St2, B.2.2.1, Wa2, pl2, vl2, o2), hp'), e1, rfl, a1.b.2, ⟨a3, Or.inr ⟨show o2.2.2.1 = 1 by rw [a4], a1.2.2.2.2.2.2.2, a2, hN, Or.inl (show o2.2.2.2 = 0 by rw [a4])⟩⟩, a1, a2, a5⟩
  · refine (c_Se_findStanding1 hG (hB.a q2) q3 hK.1 q1 rfl).post ?_
    intro r hp' ⟨z, e1, e2, ⟨R2, St2, Wa2, pl2, vl2, o2, a1, a2, a3, a4⟩, a5⟩
    subst e2
    refine ⟨((R2, St2, B.2.2.1, Wa2, pl2, vl2, o2), hp'), e1, rfl, a1.b.2, ⟨a3, Or.inr ⟨show o2.2.2.1 = 1 by rw [a4], a1.2.2.2.2.2.2.2, a2, hN, ?_⟩⟩, a1, a2, a5⟩
    have e : o2.2.2.2 = (b_o B).2.2.2 := by rw [a4]
    rcases q5 with q5 | ⟨q5, q6⟩
    · exact Or.inl (e.trans q5)
    · exact Or.inr ⟨e.trans q5, q6⟩
def sf_P (w : w_T) (hp : List va_E) (z : z_S × List va_E) : Prop := z_A z.1 z.2 ∧ z_K w z.1 z.2 ∧ S_A w z.1.1 z.1.2.1 z.1.2.2.1 z.1.2.2.2.1 z.1.2.2.2.2.1 z.1.2.2.2.2.2.1 (b_o z.1) z.2 ∧ S_M w z.1.2.2.1 ∧ F_S hp z.2
theorem k_findFalling (hG : q_GG g) {w : w_T} {B : z_S} {hp : List va_E} (hok : w_ok w) (hfz : w_fz w) (hN : w_q w ≤ 30000) (hw : w_A w hp) (h : z_A B hp) (hK : z_K w B hp) : q_C g m_Se_findFalling true (q_R 5 110 0 0) [.ref 67] hp (q_rel (Z := z_S × List va_E) (fun _ => none) (fun z => z.2) (sf_P w hp)) := by
  have hB : S_B w B.1 B.2.1 B.2.2.1 B.2.2.2.1 B.2.2.2.2.1 B.2.2.2.2.2.1 (b_o B) hp := ⟨hw, h⟩
  have hP : ∀ r hp', q_ho none (fun hp2 => (∃ (R2 St2 Fa2 Wa2 : Nat → Bool) (pl2 vl2 : Nat → Nat) (o2 : Nat × Nat × Nat × Nat), S_A w R2 St2 Fa2 Wa2 pl2 vl2 o2 hp2 ∧ S_K w R2 St2 o2 ∧ S_M w Fa2 ∧ (∀ q, q < 6 → pl2 q < 13) ∧ o2.2.2 = (1, 1)) ∧ F_S hp hp2) r hp' → q_rel (Z := z_S × List va_E) (fun _ => none) (fun z => z.2) (sf_P w hp) r hp' := by
    intro r hp' ⟨z, e1, e2, ⟨R2, St2, Fa2, Wa2, pl2, vl2, o2, a1, a2, a3, a4, a5⟩, a6⟩
    subst e2
    exact ⟨((R2, St2, Fa2, Wa2, pl2, vl2, o2), hp'), e1, rfl, a1.b.2, ⟨a4, Or.inr ⟨show o2.2.2.1 = 1 by rw [a5], a1.2.2.2.2.2.2.2, a2, hN, Or.inr ⟨show o2.2.2.2 = 1 by rw [a5], a3⟩⟩⟩, a1, a3, a6⟩
  rcases hK.2 with ⟨q1, q2⟩ | ⟨q1, q2, q3, q4, q5⟩
  · exact (c_Se_findFalling0 hG hok hfz hN hB q1 q2).post hP
  · rcases q5 with q5 | ⟨q5, q6⟩
    · exact (c_Se_findFalling1 hG hok hfz hN (hB.a q2) q3 hK.1 q1 q5).post hP
    · exact (c_Se_findFalling2 hG (hB.a q2) q3 q6 hK.1 q1 q5).post hP
def w_cl (w : w_T) : w_T := (0, fun j => if j < 5 then 1 else w_z w j, fun j => if j < 5 then 0 else w_f w j, 0, w_c w)
theorem w_cl_ok {w : w_T} (h : w_ok w) : w_ok (w_cl w) := by
  refine ⟨by show 0 ≤ 5; omega, by show 0 ≤ 6; omega, fun v hv => ?_, h.2.2.2⟩
  show 1 ≤ (if v < 5 then 1 else _) ∧ (if v < 5 then 1 else _) ≤ 5 ∧ (if v < 5 then 0 else _) < (if v < 5 then 1 else _)
  rw [if_pos hv, if_pos hv]
  omega
theorem w_cl_A {w : w_T} {hp : List va_E} (h : w_A w hp) : w_A (w_cl w) (((hp.set 4 (a_I 5 (fun j => if j < 5 then 1 else nI (w_z w j)))).set 5 (a_I 5 (fun j => if j < 5 then 0 else nI (w_f w j)))).set 3 (o_Wo 0 0)) := by
  have e1 : (fun j => if j < 5 then (1 : Int32) else nI (w_z w j)) = fun j => nI (if j < 5 then 1 else w_z w j) := by
    funext j
    split <;> rfl
  have e2 : (fun j => if j < 5 then (0 : Int32) else nI (w_f w j)) = fun j => nI (if j < 5 then 0 else w_f w j) := by
    funext j
    split <;> rfl
  rw [e1, e2]
  obtain ⟨h1, h2, h3, h4, h5⟩ := h
  refine ⟨q_self (q_keep rfl (q_keep rfl h1 (by omega)) (by omega)), q_keep rfl (q_keep rfl (q_self h2) (by omega)) (by omega), q_keep rfl (q_self (q_keep rfl h3 (by omega))) (by omega), q_keep rfl (q_keep rfl (q_keep rfl h4 (by omega)) (by omega)) (by omega), fun q hq => ?_⟩
  have c := h5 q hq
  have hk : ∀ k, 7 ≤ k → (((hp.set 4 (a_I 5 (fun j => nI (if j < 5 then 1 else w_z w j)))).set 5 (a_I 5 (fun j => nI (if j < 5 then 0 else w_f w j)))).set 3 (o_Wo 0 0))[k]? = hp[k]? := fun k e => by rw [List.getElem?_set_ne (by omega), List.getElem?_set_ne (by omega), List.getElem?_set_ne (by omega)]
  exact ⟨(hk _ (by omega)).trans c.1, (hk _ (by omega)).trans c.2.1, (hk _ (by omega)).trans c.2.2.1, (hk _ (by omega)).trans c.2.2.2.1, (hk _ (by omega)).trans c.2.2.2.2⟩
set_option maxRecDepth 10000 in
set_option maxHeartbeats 2000000 in
theorem c_S_clear (hG : q_GG g) {n : Nat} {f : Nat → Int32} {w : w_T} {S : x_S} {B : z_S} {cp cv : Nat → Nat} {gone : Nat} {hp : List va_E} (h : T_A n f w S B cp cv gone hp) : q_C g m_S_clear true (q_R 4 80 0 0) [.ref 0] hp (q_ho (some (.int (nI (w_p w)))) (fun hp2 => T_A n f (w_cl w) S (B_0 B) (cp0 cp) (cv0 (w_f (w_cl w)) cv) 0 hp2 ∧ F_T hp hp2)) := by
  refine q_C.of hG (by decide) (Nat.le_of_ble_eq_true rfl) ?_
  have h_s := h.1
  have h_t := h.2.1
  have h_w := h.2.2.2.1.1
  have h_r := h.2.2.2.2.1.1
  have h_e := h.2.2.2.2.2.1.1
  have h_c := h.2.2.2.2.2.2.1
  refine q_aload_n d_S_clear_0 rfl rfl ?_
  refine q_get d_S_clear_1 f_S_19 h_s rfl ?_
  refine q_get d_S_clear_4 f_S_75 h_w rfl ?_
  refine q_istore_n d_S_clear_7 rfl (by decide) rfl ?_
  refine q_aload_n d_S_clear_8 rfl rfl ?_
  refine q_get d_S_clear_9 f_S_19 h_s rfl ?_
  refine x_callV d_S_clear_12 l_S_92 i_Wo_removeAll v_Wo_removeAll rfl h_w (c_Wo_removeAll hG h_w h.2.2.2.1.2.1 h.2.2.2.1.2.2.1) rfl rfl (Nat.le_of_ble_eq_true rfl) (Nat.le_of_ble_eq_true rfl) (Nat.le_of_ble_eq_true rfl) (Nat.le_of_ble_eq_true rfl) ?_
  have g1 := h.mix (hp' := ((hp.set 4 (a_I 5 (fun j => if j < 5 then 1 else nI (w_z w j)))).set 5 (a_I 5 (fun j => if j < 5 then 0 else nI (w_f w j)))).set 3 (o_Wo 0 0)) (fun k hk => by rw [List.getElem?_set_ne (by omega), List.getElem?_set_ne (by omega), List.getElem?_set_ne (by omega)]) (q_keep rfl (q_keep rfl (q_keep rfl h.2.1 (by omega)) (by omega)) (by omega)) (q_keep rfl (q_keep rfl (q_keep rfl h.2.2.1 (by omega)) (by omega)) (by omega)) (w_cl_A h.2.2.2.1)
  refine q_aload_n d_S_clear_15 rfl rfl ?_
  refine x_callVr d_S_clear_16 l_S_72 i_S_beginAnew v_S_beginAnew rfl g1.1 (c_S_beginAnew hG g1) rfl rfl (Nat.le_of_ble_eq_true rfl) (Nat.le_of_ble_eq_true rfl) (Nat.le_of_ble_eq_true rfl) (Nat.le_of_ble_eq_true rfl) (fun hp1 k1 => ?_)
  refine q_iload_n d_S_clear_19 rfl ?_
  refine q_iret d_S_clear_20 rfl ?_ (Nat.le_of_ble_eq_true rfl) (Nat.le_of_ble_eq_true rfl) (by decide)
  exact ⟨hp1, rfl, rfl, k1.1, (((F_T.set _ (by omega)).trans (F_T.set _ (by omega))).trans (F_T.set _ (by omega))).trans k1.2⟩
set_option maxRecDepth 10000 in
set_option maxHeartbeats 2000000 in
theorem c_S_stuck (hG : q_GG g) {n : Nat} {f : Nat → Int32} {w : w_T} {S : x_S} {B : z_S} {cp cv : Nat → Nat} {gone : Nat} {hp : List va_E} (hok : w_ok w) (hfz : w_fz w) (hN : w_q w ≤ 30000) (h : T_A n f w S B cp cv gone hp) (hK : z_K w B hp) : q_C g m_S_stuck true (q_R 5 110 0 0) [.ref 0] hp (q_rel (Z := z_S × List va_E) (fun z => some (.int (nI (b_o z.1).1))) (fun z => z.2) (fun z => T_A n f w S z.1 cp cv gone z.2 ∧ sk_P w hp z)) := by
  refine q_C.of hG (by decide) (Nat.le_of_ble_eq_true rfl) ?_
  have h_s := h.1
  have h_t := h.2.1
  have h_w := h.2.2.2.1.1
  have h_r := h.2.2.2.2.1.1
  have h_e := h.2.2.2.2.2.1.1
  have h_c := h.2.2.2.2.2.2.1
  refine q_aload_n d_S_stuck_0 rfl rfl ?_
  refine q_get d_S_stuck_1 f_S_19 h_s rfl ?_
  refine x_callV d_S_stuck_4 l_S_118 i_Wo_isSearchable v_Wo_isSearchable rfl h_w (c_Wo_isSearchable hG hok h.2.2.2.1) rfl rfl (Nat.le_of_ble_eq_true rfl) (Nat.le_of_ble_eq_true rfl) (Nat.le_of_ble_eq_true rfl) (Nat.le_of_ble_eq_true rfl) ?_
  refine q_if_ne (tgt := 13) d_S_stuck_7 (by decide) (fun b7 => ?_) (fun b7 => ?_)
  · skip
    have hq : w_q w ≤ 30000 := by
      by_cases q : w_q w ≤ 30000
      · exact q
      · rw [if_neg q] at b7; exact absurd rfl b7
    refine q_aload_n d_S_stuck_13 rfl rfl ?_
    refine q_get d_S_stuck_14 f_S_37 h_s rfl ?_
    refine x_callVr d_S_stuck_17 l_S_126 i_Se_findStanding v_Se_findStanding rfl h_e (k_findStanding hG hok hfz hN h.2.2.2.1 h.2.2.2.2.2.1 hK) rfl rfl (Nat.le_of_ble_eq_true rfl) (Nat.le_of_ble_eq_true rfl) (Nat.le_of_ble_eq_true rfl) (Nat.le_of_ble_eq_true rfl) (fun z hz => ?_)
    have g1 := h.srch hz.2.2.2.2 hz.1
    have h_s := g1.1
    have h_e := hz.1.1
    refine q_aload_n d_S_stuck_20 rfl rfl ?_
    refine q_get d_S_stuck_21 f_S_37 h_s rfl ?_
    refine q_get d_S_stuck_24 f_S_129 h_e rfl ?_
    refine q_iret d_S_stuck_27 rfl ?_ (Nat.le_of_ble_eq_true rfl) (Nat.le_of_ble_eq_true rfl) (by decide)
    exact ⟨z, rfl, rfl, g1, hz⟩
  · skip
    have hq : ¬ w_q w ≤ 30000 := fun q => by rw [if_pos q] at b7; exact absurd b7 (by decide)
    exact absurd hN hq
set_option maxRecDepth 10000 in
set_option maxHeartbeats 2000000 in
theorem c_S_stuckM (hG : q_GG g) {n : Nat} {f : Nat → Int32} {w : w_T} {S : x_S} {B : z_S} {cp cv : Nat → Nat} {gone : Nat} {hp : List va_E} (hok : w_ok w) (hN : ¬ w_q w ≤ 30000) (h : T_A n f w S B cp cv gone hp) : q_C g m_S_stuck false (q_R 5 110 0 0) [.ref 0] hp (q_ret (some (.int (-2))) hp) := by
  refine q_C.of hG (by decide) (Nat.le_of_ble_eq_true rfl) ?_
  have h_s := h.1
  have h_t := h.2.1
  have h_w := h.2.2.2.1.1
  have h_r := h.2.2.2.2.1.1
  have h_e := h.2.2.2.2.2.1.1
  have h_c := h.2.2.2.2.2.2.1
  refine q_aload_n d_S_stuck_0 rfl rfl ?_
  refine q_get d_S_stuck_1 f_S_19 h_s rfl ?_
  refine x_callV d_S_stuck_4 l_S_118 i_Wo_isSearchable v_Wo_isSearchable rfl h_w (c_Wo_isSearchable hG hok h.2.2.2.1) rfl rfl (Nat.le_of_ble_eq_true rfl) (Nat.le_of_ble_eq_true rfl) (Nat.le_of_ble_eq_true rfl) (Nat.le_of_ble_eq_true rfl) ?_
  refine q_if_ne (tgt := 13) d_S_stuck_7 (by decide) (fun b7 => ?_) (fun b7 => ?_)
  · skip
    have hq : w_q w ≤ 30000 := by
      by_cases q : w_q w ≤ 30000
      · exact q
      · rw [if_neg q] at b7; exact absurd rfl b7
    exact absurd hq hN
  · skip
    have hq : ¬ w_q w ≤ 30000 := fun q => by rw [if_pos q] at b7; exact absurd b7 (by decide)
    refine q_bipush (v := (-2)) d_S_stuck_10 (by decide) ?_
    refine q_iret d_S_stuck_12 rfl ?_ (Nat.le_of_ble_eq_true rfl) (Nat.le_of_ble_eq_true rfl) (by decide)
    exact ⟨rfl, rfl⟩
set_option maxRecDepth 10000 in
set_option maxHeartbeats 2000000 in
theorem c_S_ended (hG : q_GG g) {n : Nat} {f : Nat → Int32} {w : w_T} {S : x_S} {B : z_S} {cp cv : Nat → Nat} {gone : Nat} {hp : List va_E} (hok : w_ok w) (hfz : w_fz w) (hN : w_q w ≤ 30000) (h : T_A n f w S B cp cv gone hp) (hK : z_K w B hp) : q_C g m_S_ended true (q_R 5 110 0 0) [.ref 0] hp (q_rel (Z := z_S × List va_E) (fun z => some (.int (nI (b_o z.1).2.1))) (fun z => z.2) (fun z => T_A n f w S z.1 cp cv gone z.2 ∧ sk_P w hp z)) := by
  refine q_C.of hG (by decide) (Nat.le_of_ble_eq_true rfl) ?_
  have h_s := h.1
  have h_t := h.2.1
  have h_w := h.2.2.2.1.1
  have h_r := h.2.2.2.2.1.1
  have h_e := h.2.2.2.2.2.1.1
  have h_c := h.2.2.2.2.2.2.1
  refine q_aload_n d_S_ended_0 rfl rfl ?_
  refine q_get d_S_ended_1 f_S_19 h_s rfl ?_
  refine x_callV d_S_ended_4 l_S_118 i_Wo_isSearchable v_Wo_isSearchable rfl h_w (c_Wo_isSearchable hG hok h.2.2.2.1) rfl rfl (Nat.le_of_ble_eq_true rfl) (Nat.le_of_ble_eq_true rfl) (Nat.le_of_ble_eq_true rfl) (Nat.le_of_ble_eq_true rfl) ?_
  refine q_if_ne (tgt := 13) d_S_ended_7 (by decide) (fun b7 => ?_) (fun b7 => ?_)
  · skip
    have hq : w_q w ≤ 30000 := by
      by_cases q : w_q w ≤ 30000
      · exact q
      · rw [if_neg q] at b7; exact absurd rfl b7
    refine q_aload_n d_S_ended_13 rfl rfl ?_
    refine q_get d_S_ended_14 f_S_37 h_s rfl ?_
    refine x_callVr d_S_ended_17 l_S_126 i_Se_findStanding v_Se_findStanding rfl h_e (k_findStanding hG hok hfz hN h.2.2.2.1 h.2.2.2.2.2.1 hK) rfl rfl (Nat.le_of_ble_eq_true rfl) (Nat.le_of_ble_eq_true rfl) (Nat.le_of_ble_eq_true rfl) (Nat.le_of_ble_eq_true rfl) (fun z hz => ?_)
    have g1 := h.srch hz.2.2.2.2 hz.1
    have h_s := g1.1
    have h_e := hz.1.1
    refine q_aload_n d_S_ended_20 rfl rfl ?_
    refine q_get d_S_ended_21 f_S_37 h_s rfl ?_
    refine q_get d_S_ended_24 f_S_132 h_e rfl ?_
    refine q_iret d_S_ended_27 rfl ?_ (Nat.le_of_ble_eq_true rfl) (Nat.le_of_ble_eq_true rfl) (by decide)
    exact ⟨z, rfl, rfl, g1, hz⟩
  · skip
    have hq : ¬ w_q w ≤ 30000 := fun q => by rw [if_pos q] at b7; exact absurd b7 (by decide)
    exact absurd hN hq
set_option maxRecDepth 10000 in
set_option maxHeartbeats 2000000 in
theorem c_S_endedM (hG : q_GG g) {n : Nat} {f : Nat → Int32} {w : w_T} {S : x_S} {B : z_S} {cp cv : Nat → Nat} {gone : Nat} {hp : List va_E} (hok : w_ok w) (hN : ¬ w_q w ≤ 30000) (h : T_A n f w S B cp cv gone hp) : q_C g m_S_ended false (q_R 5 110 0 0) [.ref 0] hp (q_ret (some (.int (-2))) hp) := by
  refine q_C.of hG (by decide) (Nat.le_of_ble_eq_true rfl) ?_
  have h_s := h.1
  have h_t := h.2.1
  have h_w := h.2.2.2.1.1
  have h_r := h.2.2.2.2.1.1
  have h_e := h.2.2.2.2.2.1.1
  have h_c := h.2.2.2.2.2.2.1
  refine q_aload_n d_S_ended_0 rfl rfl ?_
  refine q_get d_S_ended_1 f_S_19 h_s rfl ?_
  refine x_callV d_S_ended_4 l_S_118 i_Wo_isSearchable v_Wo_isSearchable rfl h_w (c_Wo_isSearchable hG hok h.2.2.2.1) rfl rfl (Nat.le_of_ble_eq_true rfl) (Nat.le_of_ble_eq_true rfl) (Nat.le_of_ble_eq_true rfl) (Nat.le_of_ble_eq_true rfl) ?_
  refine q_if_ne (tgt := 13) d_S_ended_7 (by decide) (fun b7 => ?_) (fun b7 => ?_)
  · skip
    have hq : w_q w ≤ 30000 := by
      by_cases q : w_q w ≤ 30000
      · exact q
      · rw [if_neg q] at b7; exact absurd rfl b7
    exact absurd hq hN
  · skip
    have hq : ¬ w_q w ≤ 30000 := fun q => by rw [if_pos q] at b7; exact absurd b7 (by decide)
    refine q_bipush (v := (-2)) d_S_ended_10 (by decide) ?_
    refine q_iret d_S_ended_12 rfl ?_ (Nat.le_of_ble_eq_true rfl) (Nat.le_of_ble_eq_true rfl) (by decide)
    exact ⟨rfl, rfl⟩
def w_mv (w : w_T) (pl vl : Nat → Nat) : Nat → Nat
  | 0 => 0
  | q + 1 => w_mv w pl vl q + pb_cnt 13 (w_op w pl vl q (c_n (w_c w q) - 1))
set_option maxRecDepth 10000 in
set_option maxHeartbeats 2000000 in
theorem l_S_moves (hG : q_GG g) {n : Nat} {f : Nat → Int32} {w : w_T} {S : x_S} {B : z_S} {cp cv : Nat → Nat} {gone : Nat} {hp : List va_E} (hok : w_ok w) (hs : s_ok w cp cv) (h : T_A n f w S B cp cv gone hp) : ∀ (k q : Nat), q + k = w_p w → q_J g m_S_moves false (q_R 3 70 0 0) (q_ret (some (.int (nI (w_mv w cp cv (w_p w))))) hp) 4 [some (.ref 0), some (.int (nI (w_mv w cp cv q))), some (.int (nI q))] [] hp 0 0 false := by
  have h_s := h.1
  have h_t := h.2.1
  have h_w := h.2.2.2.1.1
  have h_r := h.2.2.2.2.1.1
  have h_e := h.2.2.2.2.2.1.1
  have h_c := h.2.2.2.2.2.2.1
  have hp6 := hok.2.1
  intro k
  induction k with
  | zero =>
    intro q hq
    refine q_iload_n d_S_moves_4 rfl ?_
    refine q_aload_n d_S_moves_5 rfl rfl ?_
    refine q_get d_S_moves_6 f_S_19 h_s rfl ?_
    refine q_get d_S_moves_9 f_S_75 h_w rfl ?_
    refine q_icmp_ge (tgt := 39) d_S_moves_12 (by decide) (fun b12 => ?_) (fun b12 => ?_)
    · skip
      refine q_iload_n d_S_moves_39 rfl ?_
      refine q_iret d_S_moves_40 rfl ?_ (Nat.le_of_ble_eq_true rfl) (Nat.le_of_ble_eq_true rfl) (by decide)
      rw [show w_p w = q by omega]
      exact ⟨rfl, rfl⟩
    · skip
      exact absurd (nI_le (by omega) (by omega)) b12
  | succ k ih =>
    intro q hq
    obtain ⟨c1, c2, c3, c4⟩ := hok.2.2.2 q (by omega)
    have hop : w_op w cp cv q (c_n (w_c w q) - 1) < 8192 := by
      have := w_op_lt w cp cv q (c_n (w_c w q) - 1)
      have : 2 ^ (c_n (w_c w q) - 1 + 1) ≤ 2 ^ 13 := Nat.pow_le_pow_right (by decide) (by omega)
      omega
    refine q_iload_n d_S_moves_4 rfl ?_
    refine q_aload_n d_S_moves_5 rfl rfl ?_
    refine q_get d_S_moves_6 f_S_19 h_s rfl ?_
    refine q_get d_S_moves_9 f_S_75 h_w rfl ?_
    refine q_icmp_ge (tgt := 39) d_S_moves_12 (by decide) (fun b12 => ?_) (fun b12 => ?_)
    · skip
      exact absurd b12 (nI_ge (by omega) (by omega))
    · skip
      refine q_iload_n d_S_moves_15 rfl ?_
      refine q_aload_n d_S_moves_16 rfl rfl ?_
      refine q_get d_S_moves_17 f_S_19 h_s rfl ?_
      refine q_aload_n d_S_moves_20 rfl rfl ?_
      refine q_get d_S_moves_21 f_S_44 h_s rfl ?_
      refine q_iload_n d_S_moves_24 rfl ?_
      refine x_callV d_S_moves_25 l_S_149 i_Wo_openPlaces v_Wo_openPlaces rfl h_w (c_Wo_openPlaces hG hok h.2.2.2.1 h.2.2.2.2.2.2 hs.2.2 (hs.2.1 q (by omega)) (by omega)) rfl rfl (Nat.le_of_ble_eq_true rfl) (Nat.le_of_ble_eq_true rfl) (Nat.le_of_ble_eq_true rfl) (Nat.le_of_ble_eq_true rfl) ?_
      refine x_callS d_S_moves_28 l_S_110 s_In_bitCount (c_In_bitCount hG) rfl rfl (Nat.le_of_ble_eq_true rfl) (Nat.le_of_ble_eq_true rfl) (Nat.le_of_ble_eq_true rfl) (Nat.le_of_ble_eq_true rfl) ?_
      rw [pb_ib _ hop]
      refine q_iadd d_S_moves_31 ?_
      rw [nI_add]
      refine q_istore_n d_S_moves_32 rfl (by decide) rfl ?_
      refine q_iinc d_S_moves_33 rfl (show _ + Int32.ofInt 1 = _ + 1 from rfl) (by decide) rfl ?_
      rw [nI_1]
      refine q_goto (tgt := 4) d_S_moves_36 (by decide) ?_
      exact ih (q + 1) (by omega)
set_option maxRecDepth 10000 in
set_option maxHeartbeats 2000000 in
theorem c_S_moves (hG : q_GG g) {n : Nat} {f : Nat → Int32} {w : w_T} {S : x_S} {B : z_S} {cp cv : Nat → Nat} {gone : Nat} {hp : List va_E} (hok : w_ok w) (hs : s_ok w cp cv) (h : T_A n f w S B cp cv gone hp) : q_C g m_S_moves false (q_R 3 70 0 0) [.ref 0] hp (q_ret (some (.int (nI (w_mv w cp cv (w_p w))))) hp) := by
  refine q_C.of hG (by decide) (Nat.le_of_ble_eq_true rfl) ?_
  refine q_iconst (v := 0) d_S_moves_0 (by decide) ?_
  refine q_istore_n d_S_moves_1 rfl (by decide) rfl ?_
  refine q_iconst (v := 0) d_S_moves_2 (by decide) ?_
  refine q_istore_n d_S_moves_3 rfl (by decide) rfl ?_
  exact l_S_moves hG hok hs h (w_p w) 0 (by omega)
end C27
