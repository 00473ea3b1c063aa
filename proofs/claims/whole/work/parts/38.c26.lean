/-! the whole class: its picture, and the calls that cannot fail -/
section C26
variable {g : q_G}
abbrev o_S (gone : Nat) : va_E := .inr (0, [.ref 1, .ref 3, .ref 37, .ref 67, .ref 81, .int (nI gone)])
abbrev z_S := (Nat → Bool) × (Nat → Bool) × (Nat → Bool) × (Nat → Bool) × (Nat → Nat) × (Nat → Nat) × (Nat × Nat × Nat × Nat)
def z_A (B : z_S) (hp : List va_E) : Prop := hp[67]? = some (o_Se B.2.2.2.2.2.2.1 B.2.2.2.2.2.2.2.1 B.2.2.2.2.2.2.2.2.1 B.2.2.2.2.2.2.2.2.2) ∧ ss_A 68 B.1 hp ∧ ss_A 70 B.2.1 hp ∧ ss_A 72 B.2.2.1 hp ∧ ss_A 74 B.2.2.2.1 hp ∧ s_A 76 B.2.2.2.2.1 B.2.2.2.2.2.1 hp ∧ (∃ f, hp[79]? = some (a_I 6 f)) ∧ ∃ f, hp[80]? = some (a_I 5 f)
def y_A (S : x_S) (hp : List va_E) : Prop := hp[37]? = some (o_Re (x_d S) (x_a S) (x_k S) (x_p S)) ∧ hp[38]? = some a_Ch ∧ hp[39]? = some a_Rw ∧ hp[40]? = some (o_Pn (x_ac S)) ∧ (∀ i, i < 13 → hp[41 + 2 * i]? = some (o_Pn (x_ch S i))) ∧ ∀ i, i < 13 → hp[42 + 2 * i]? = some (o_Pn (x_rw S i))
/-- the whole class -/
def T_A (n : Nat) (f : Nat → Int32) (w : w_T) (S : x_S) (B : z_S) (cp cv : Nat → Nat) (gone : Nat) (hp : List va_E) : Prop := hp[0]? = some (o_S gone) ∧ hp[1]? = some (o_Ta 1 (nI n)) ∧ hp[2]? = some (a_B 100 f) ∧ w_A w hp ∧ y_A S hp ∧ z_A B hp ∧ s_A 81 cp cv hp
def F_T (hp hp' : List va_E) : Prop := hp'.length = hp.length ∧ ∀ k, 83 < k → hp'[k]? = hp[k]?
theorem F_T.refl (hp : List va_E) : F_T hp hp := ⟨rfl, fun _ _ => rfl⟩
theorem F_T.trans {h1 h2 h3 : List va_E} (a : F_T h1 h2) (b : F_T h2 h3) : F_T h1 h3 := ⟨b.1.trans a.1, fun k hk => (b.2 k hk).trans (a.2 k hk)⟩
theorem F_T.set {a : Nat} {x : va_E} (hp : List va_E) (h : a ≤ 83) : F_T hp (hp.set a x) := ⟨by simp, fun k hk => List.getElem?_set_ne (by omega)⟩
theorem F_S.t {hp hp' : List va_E} (h : F_S hp hp') : F_T hp hp' := ⟨h.1, fun k hk => h.2 k (by omega)⟩
theorem F_A.t {p : Nat} {hp hp' : List va_E} (hp6 : p < 6) (h : F_A p hp hp') : F_T hp hp' := ⟨h.1, fun k hk => h.2 k (by omega)⟩
theorem y_A.keep {S : x_S} {hp hp' : List va_E} (h : y_A S hp) (hk : ∀ k, 37 ≤ k → k ≤ 66 → hp'[k]? = hp[k]?) : y_A S hp' := by
  obtain ⟨h1, h2, h3, h4, h5, h6⟩ := h
  exact ⟨(hk _ (by omega) (by omega)).trans h1, (hk _ (by omega) (by omega)).trans h2, (hk _ (by omega) (by omega)).trans h3, (hk _ (by omega) (by omega)).trans h4, fun i hi => (hk _ (by omega) (by omega)).trans (h5 i hi), fun i hi => (hk _ (by omega) (by omega)).trans (h6 i hi)⟩
theorem z_A.keep {B : z_S} {hp hp' : List va_E} (h : z_A B hp) (hk : ∀ k, 67 ≤ k → k ≤ 80 → hp'[k]? = hp[k]?) : z_A B hp' := by
  obtain ⟨h1, h2, h3, h4, h5, h6, ⟨f1, h7⟩, ⟨f2, h8⟩⟩ := h
  exact ⟨(hk _ (by omega) (by omega)).trans h1, h2.keep (hk _ (by omega) (by omega)) (hk _ (by omega) (by omega)), h3.keep (hk _ (by omega) (by omega)) (hk _ (by omega) (by omega)), h4.keep (hk _ (by omega) (by omega)) (hk _ (by omega) (by omega)), h5.keep (hk _ (by omega) (by omega)) (hk _ (by omega) (by omega)), h6.keep (fun k _ _ => hk k (by omega) (by omega)), ⟨f1, (hk _ (by omega) (by omega)).trans h7⟩, ⟨f2, (hk _ (by omega) (by omega)).trans h8⟩⟩
section
variable {n : Nat} {f : Nat → Int32} {w : w_T} {S : x_S} {B : z_S} {cp cv : Nat → Nat} {gone : Nat} {hp hp' : List va_E}
theorem T_A.b (h : T_A n f w S B cp cv gone hp) : S_B w B.1 B.2.1 B.2.2.1 B.2.2.2.1 B.2.2.2.2.1 B.2.2.2.2.2.1 B.2.2.2.2.2.2 hp := ⟨h.2.2.2.1, h.2.2.2.2.2.1⟩
theorem T_A.obj {gone' : Nat} (h : T_A n f w S B cp cv gone hp) : T_A n f w S B cp cv gone' (hp.set 0 (o_S gone')) := by
  obtain ⟨h1, h2, h3, h4, h5, h6, h7⟩ := h
  have hk : ∀ k, k ≠ 0 → (hp.set 0 (o_S gone'))[k]? = hp[k]? := fun k e => List.getElem?_set_ne (fun q => e q.symm)
  exact ⟨q_self h1, (hk _ (by omega)).trans h2, (hk _ (by omega)).trans h3, ⟨(hk _ (by omega)).trans h4.1, (hk _ (by omega)).trans h4.2.1, (hk _ (by omega)).trans h4.2.2.1, (hk _ (by omega)).trans h4.2.2.2.1, fun q hq => have c := h4.2.2.2.2 q hq; ⟨(hk _ (by omega)).trans c.1, (hk _ (by omega)).trans c.2.1, (hk _ (by omega)).trans c.2.2.1, (hk _ (by omega)).trans c.2.2.2.1, (hk _ (by omega)).trans c.2.2.2.2⟩⟩, h5.keep (fun k _ _ => hk k (by omega)), h6.keep (fun k _ _ => hk k (by omega)), h7.keep (fun k _ _ => hk k (by omega))⟩
theorem T_A.mix {n' : Nat} {f' : Nat → Int32} {w' : w_T} (h : T_A n f w S B cp cv gone hp) (hk : ∀ k, k = 0 ∨ 36 < k → hp'[k]? = hp[k]?) (h1 : hp'[1]? = some (o_Ta 1 (nI n'))) (h2 : hp'[2]? = some (a_B 100 f')) (h3 : w_A w' hp') : T_A n' f' w' S B cp cv gone hp' := by
  obtain ⟨a1, a2, a3, a4, a5, a6, a7⟩ := h
  exact ⟨(hk _ (by omega)).trans a1, h1, h2, h3, a5.keep (fun k _ _ => hk k (by omega)), a6.keep (fun k _ _ => hk k (by omega)), a7.keep (fun k _ _ => hk k (by omega))⟩
theorem T_A.srch {B' : z_S} (h : T_A n f w S B cp cv gone hp) (hF : F_S hp hp') (h1 : z_A B' hp') : T_A n f w S B' cp cv gone hp' := by
  obtain ⟨a1, a2, a3, a4, a5, a6, a7⟩ := h
  exact ⟨(hF.2 _ (by omega)).trans a1, (hF.2 _ (by omega)).trans a2, (hF.2 _ (by omega)).trans a3, a4.keep (fun k _ => hF.2 k (by omega)), a5.keep (fun k _ _ => hF.2 k (by omega)), h1, a7.keep (fun k _ _ => hF.2 k (by omega))⟩
theorem T_A.cur {cp' cv' : Nat → Nat} (h : T_A n f w S B cp cv gone hp) (hk : ∀ k, k < 81 → hp'[k]? = hp[k]?) (h1 : s_A 81 cp' cv' hp') : T_A n f w S B cp' cv' gone hp' := by
  obtain ⟨a1, a2, a3, a4, a5, a6, a7⟩ := h
  exact ⟨(hk _ (by omega)).trans a1, (hk _ (by omega)).trans a2, (hk _ (by omega)).trans a3, a4.keep (fun k _ => hk k (by omega)), a5.keep (fun k _ _ => hk k (by omega)), a6.keep (fun k _ _ => hk k (by omega)), h1⟩
end
def cp0 (cp : Nat → Nat) : Nat → Nat := fun j => if j < 6 then 0 else cp j
def cv0 (f cv : Nat → Nat) : Nat → Nat := fun j => if j < 5 then f j else cv j
/-- the search forgets -/
def B_0 (B : z_S) : z_S := (B.1, B.2.1, B.2.2.1, B.2.2.2.1, B.2.2.2.2.1, B.2.2.2.2.2.1, B.2.2.2.2.2.2.1, B.2.2.2.2.2.2.2.1, 0, 0)
theorem w_A.set1 {w : w_T} {hp : List va_E} {x : va_E} (h : w_A w hp) : w_A w (hp.set 1 x) := by
  have hk : ∀ k, 3 ≤ k → (hp.set 1 x)[k]? = hp[k]? := fun k e => List.getElem?_set_ne (by omega)
  exact ⟨(hk _ (by omega)).trans h.1, (hk _ (by omega)).trans h.2.1, (hk _ (by omega)).trans h.2.2.1, (hk _ (by omega)).trans h.2.2.2.1, fun q hq => have c := h.2.2.2.2 q hq; ⟨(hk _ (by omega)).trans c.1, (hk _ (by omega)).trans c.2.1, (hk _ (by omega)).trans c.2.2.1, (hk _ (by omega)).trans c.2.2.2.1, (hk _ (by omega)).trans c.2.2.2.2⟩⟩
set_option maxRecDepth 10000 in
set_option maxHeartbeats 2000000 in
theorem c_S_wipe (hG : q_GG g) {n : Nat} {f : Nat → Int32} {w : w_T} {S : x_S} {B : z_S} {cp cv : Nat → Nat} {gone : Nat} {hp : List va_E} (h : T_A n f w S B cp cv gone hp) : q_C g m_S_wipe true (q_R 0 0 0 0) [.ref 0] hp (q_ho (some (.int (nI n))) (fun hp2 => T_A 0 f w S B cp cv gone hp2 ∧ F_T hp hp2)) := by
  refine q_C.of hG (by decide) (Nat.le_of_ble_eq_true rfl) ?_
  have h_s := h.1
  have h_t := h.2.1
  have h_w := h.2.2.2.1.1
  have h_r := h.2.2.2.2.1.1
  have h_e := h.2.2.2.2.2.1.1
  have h_c := h.2.2.2.2.2.2.1
  refine q_aload_n d_S_wipe_0 rfl rfl ?_
  refine q_get d_S_wipe_1 f_S_10 h_s rfl ?_
  refine q_get d_S_wipe_4 f_S_59 h_t rfl ?_
  refine q_istore_n d_S_wipe_7 rfl (by decide) rfl ?_
  refine q_aload_n d_S_wipe_8 rfl rfl ?_
  refine q_get d_S_wipe_9 f_S_10 h_s rfl ?_
  refine q_iconst (v := 0) d_S_wipe_12 (by decide) ?_
  refine x_put d_S_wipe_13 f_S_59 h_t (Nat.le_of_ble_eq_true rfl) rfl rfl (fun hp1 e1 h_t => ?_)
  have h_s := q_keep e1 h_s (by omega)
  refine q_iload_n d_S_wipe_16 rfl ?_
  refine q_iret d_S_wipe_17 rfl ?_ (Nat.le_of_ble_eq_true rfl) (Nat.le_of_ble_eq_true rfl) (by decide)
  refine ⟨_, rfl, rfl, ?_, ?_⟩
  · rw [e1]
    exact h.mix (fun k hk => List.getElem?_set_ne (by omega)) (q_self h.2.1) (q_keep rfl h.2.2.1 (by omega)) (h.2.2.2.1.set1)
  · rw [e1]
    exact F_T.set _ (by omega)
set_option maxRecDepth 10000 in
set_option maxHeartbeats 2000000 in
theorem c_S_fault (hG : q_GG g) {n : Nat} {f : Nat → Int32} {w : w_T} {S : x_S} {B : z_S} {cp cv : Nat → Nat} {gone : Nat} {hp : List va_E} (h : T_A n f w S B cp cv gone hp) : q_C g m_S_fault false (q_R 0 0 0 0) [.ref 0] hp (q_ret (some (.int (nI (x_k S)))) hp) := by
  refine q_C.of hG (by decide) (Nat.le_of_ble_eq_true rfl) ?_
  have h_s := h.1
  have h_t := h.2.1
  have h_w := h.2.2.2.1.1
  have h_r := h.2.2.2.2.1.1
  have h_e := h.2.2.2.2.2.1.1
  have h_c := h.2.2.2.2.2.2.1
  refine q_aload_n d_S_fault_0 rfl rfl ?_
  refine q_get d_S_fault_1 f_S_28 h_s rfl ?_
  refine q_get d_S_fault_4 f_S_86 h_r rfl ?_
  refine q_iret d_S_fault_7 rfl ?_ (Nat.le_of_ble_eq_true rfl) (Nat.le_of_ble_eq_true rfl) (by decide)
  exact ⟨rfl, rfl⟩
set_option maxRecDepth 10000 in
set_option maxHeartbeats 2000000 in
theorem c_S_faultAt (hG : q_GG g) {n : Nat} {f : Nat → Int32} {w : w_T} {S : x_S} {B : z_S} {cp cv : Nat → Nat} {gone : Nat} {hp : List va_E} (h : T_A n f w S B cp cv gone hp) : q_C g m_S_faultAt false (q_R 0 0 0 0) [.ref 0] hp (q_ret (some (.int (x_p S))) hp) := by
  refine q_C.of hG (by decide) (Nat.le_of_ble_eq_true rfl) ?_
  have h_s := h.1
  have h_t := h.2.1
  have h_w := h.2.2.2.1.1
  have h_r := h.2.2.2.2.1.1
  have h_e := h.2.2.2.2.2.1.1
  have h_c := h.2.2.2.2.2.2.1
  refine q_aload_n d_S_faultAt_0 rfl rfl ?_
  refine q_get d_S_faultAt_1 f_S_28 h_s rfl ?_
  refine q_get d_S_faultAt_4 f_S_89 h_r rfl ?_
  refine q_iret d_S_faultAt_7 rfl ?_ (Nat.le_of_ble_eq_true rfl) (Nat.le_of_ble_eq_true rfl) (by decide)
  exact ⟨rfl, rfl⟩
set_option maxRecDepth 10000 in
set_option maxHeartbeats 2000000 in
theorem c_S_product (hG : q_GG g) {n : Nat} {f : Nat → Int32} {w : w_T} {S : x_S} {B : z_S} {cp cv : Nat → Nat} {gone : Nat} {hp : List va_E} (hok : w_ok w) (h : T_A n f w S B cp cv gone hp) : q_C g m_S_product false (q_R 2 30 0 0) [.ref 0] hp (q_ret (some (.int (if w_q w ≤ 30000 then nI (w_q w) else -2))) hp) := by
  refine q_C.of hG (by decide) (Nat.le_of_ble_eq_true rfl) ?_
  have h_s := h.1
  have h_t := h.2.1
  have h_w := h.2.2.2.1.1
  have h_r := h.2.2.2.2.1.1
  have h_e := h.2.2.2.2.2.1.1
  have h_c := h.2.2.2.2.2.2.1
  refine q_aload_n d_S_product_0 rfl rfl ?_
  refine q_get d_S_product_1 f_S_19 h_s rfl ?_
  refine x_callV d_S_product_4 l_S_118 i_Wo_isSearchable v_Wo_isSearchable rfl h_w (c_Wo_isSearchable hG hok h.2.2.2.1) rfl rfl (Nat.le_of_ble_eq_true rfl) (Nat.le_of_ble_eq_true rfl) (Nat.le_of_ble_eq_true rfl) (Nat.le_of_ble_eq_true rfl) ?_
  refine q_if_eq (tgt := 21) d_S_product_7 (by decide) (fun b7 => ?_) (fun b7 => ?_)
  · skip
    have hq : ¬ w_q w ≤ 30000 := fun q => by rw [if_pos q] at b7; exact absurd b7 (by decide)
    refine q_bipush (v := (-2)) d_S_product_21 (by decide) ?_
    refine q_iret d_S_product_23 rfl ?_ (Nat.le_of_ble_eq_true rfl) (Nat.le_of_ble_eq_true rfl) (by decide)
    exact ⟨by simp only [hq, if_true, if_false], rfl⟩
  · skip
    have hq : w_q w ≤ 30000 := by
      by_cases q : w_q w ≤ 30000
      · exact q
      · rw [if_neg q] at b7; exact absurd rfl b7
    refine q_aload_n d_S_product_10 rfl rfl ?_
    refine q_get d_S_product_11 f_S_19 h_s rfl ?_
    refine x_callV d_S_product_14 l_S_122 i_Wo_countStates v_Wo_countStates rfl h_w (c_Wo_countStates hG hok h.2.2.2.1) rfl rfl (Nat.le_of_ble_eq_true rfl) (Nat.le_of_ble_eq_true rfl) (Nat.le_of_ble_eq_true rfl) (Nat.le_of_ble_eq_true rfl) ?_
    refine q_l2i d_S_product_17 ?_
    rw [lN_i]
    refine q_goto (tgt := 23) d_S_product_18 (by decide) ?_
    refine q_iret d_S_product_23 rfl ?_ (Nat.le_of_ble_eq_true rfl) (Nat.le_of_ble_eq_true rfl) (by decide)
    exact ⟨by simp only [hq, if_true, if_false], rfl⟩

set_option maxRecDepth 10000 in
set_option maxHeartbeats 2000000 in
theorem c_S_returnToFirst (hG : q_GG g) {n : Nat} {f : Nat → Int32} {w : w_T} {S : x_S} {B : z_S} {cp cv : Nat → Nat} {gone : Nat} {hp : List va_E} (h : T_A n f w S B cp cv gone hp) : q_C g m_S_returnToFirst true (q_R 2 34 0 0) [.ref 0] hp (q_ho none (fun hp2 => T_A n f w S B (cp0 cp) (cv0 (w_f w) cv) 0 hp2 ∧ F_T hp hp2)) := by
  refine q_C.of hG (by decide) (Nat.le_of_ble_eq_true rfl) ?_
  have h_s := h.1
  have h_t := h.2.1
  have h_w := h.2.2.2.1.1
  have h_r := h.2.2.2.2.1.1
  have h_e := h.2.2.2.2.2.1.1
  have h_c := h.2.2.2.2.2.2.1
  refine q_aload_n d_S_returnToFirst_0 rfl rfl ?_
  refine q_get d_S_returnToFirst_1 f_S_19 h_s rfl ?_
  refine q_aload_n d_S_returnToFirst_4 rfl rfl ?_
  refine q_get d_S_returnToFirst_5 f_S_44 h_s rfl ?_
  refine x_callV d_S_returnToFirst_8 l_S_192 i_Wo_putFirst v_Wo_putFirst rfl h_w (c_Wo_putFirst hG (by omega) h_w h.2.2.2.1.2.2.1 h_c h.2.2.2.2.2.2.2.1 h.2.2.2.2.2.2.2.2) rfl rfl (Nat.le_of_ble_eq_true rfl) (Nat.le_of_ble_eq_true rfl) (Nat.le_of_ble_eq_true rfl) (Nat.le_of_ble_eq_true rfl) ?_
  have q := h.2.2.2.2.2.2
  rw [pf_1, pf_2]
  have g1 : T_A n f w S B (cp0 cp) (cv0 (w_f w) cv) gone ((hp.set 82 (a_N 6 (fun j => if j < 6 then 0 else cp j))).set 83 (a_N 5 (fun j => if j < 5 then w_f w j else cv j))) := h.cur (fun k hk => by rw [List.getElem?_set_ne (by omega), List.getElem?_set_ne (by omega)]) ⟨q_keep rfl (q_keep rfl q.1 (by omega)) (by omega), q_keep rfl (q_self q.2.1) (by omega), q_self (q_keep rfl q.2.2 (by omega))⟩
  have h_s := g1.1
  refine q_aload_n d_S_returnToFirst_11 rfl rfl ?_
  refine q_iconst (v := 0) d_S_returnToFirst_12 (by decide) ?_
  refine x_put d_S_returnToFirst_13 f_S_161 h_s (Nat.le_of_ble_eq_true rfl) rfl rfl (fun hp1 e1 h_s => ?_)
  refine q_vret d_S_returnToFirst_16 rfl ?_ (Nat.le_of_ble_eq_true rfl) (Nat.le_of_ble_eq_true rfl) (by decide)
  refine ⟨_, rfl, rfl, ?_, ?_⟩
  · rw [e1]
    exact g1.obj (gone' := 0)
  · rw [e1]
    exact ((F_T.set _ (by omega)).trans (F_T.set _ (by omega))).trans (F_T.set _ (by omega))
theorem z_A.fg {B : z_S} {hp : List va_E} (h : z_A B hp) : z_A (B_0 B) (hp.set 67 (o_Se B.2.2.2.2.2.2.1 B.2.2.2.2.2.2.2.1 0 0)) := by
  have hk : ∀ k, k ≠ 67 → (hp.set 67 (o_Se B.2.2.2.2.2.2.1 B.2.2.2.2.2.2.2.1 0 0))[k]? = hp[k]? := fun k e => List.getElem?_set_ne (fun q => e q.symm)
  obtain ⟨h1, h2, h3, h4, h5, h6, ⟨f1, h7⟩, ⟨f2, h8⟩⟩ := h
  exact ⟨q_self h1, h2.keep (hk _ (by omega)) (hk _ (by omega)), h3.keep (hk _ (by omega)) (hk _ (by omega)), h4.keep (hk _ (by omega)) (hk _ (by omega)), h5.keep (hk _ (by omega)) (hk _ (by omega)), h6.keep (fun k _ _ => hk k (by omega)), ⟨f1, (hk _ (by omega)).trans h7⟩, ⟨f2, (hk _ (by omega)).trans h8⟩⟩
set_option maxRecDepth 10000 in
set_option maxHeartbeats 2000000 in
theorem c_S_beginAnew (hG : q_GG g) {n : Nat} {f : Nat → Int32} {w : w_T} {S : x_S} {B : z_S} {cp cv : Nat → Nat} {gone : Nat} {hp : List va_E} (h : T_A n f w S B cp cv gone hp) : q_C g m_S_beginAnew true (q_R 3 50 0 0) [.ref 0] hp (q_ho none (fun hp2 => T_A n f w S (B_0 B) (cp0 cp) (cv0 (w_f w) cv) 0 hp2 ∧ F_T hp hp2)) := by
  refine q_C.of hG (by decide) (Nat.le_of_ble_eq_true rfl) ?_
  have h_s := h.1
  have h_t := h.2.1
  have h_w := h.2.2.2.1.1
  have h_r := h.2.2.2.2.1.1
  have h_e := h.2.2.2.2.2.1.1
  have h_c := h.2.2.2.2.2.2.1
  refine q_aload_n d_S_beginAnew_0 rfl rfl ?_
  refine q_get d_S_beginAnew_1 f_S_37 h_s rfl ?_
  refine x_callV d_S_beginAnew_4 l_S_189 i_Se_forget v_Se_forget rfl h_e (c_Se_forget hG h_e) rfl rfl (Nat.le_of_ble_eq_true rfl) (Nat.le_of_ble_eq_true rfl) (Nat.le_of_ble_eq_true rfl) (Nat.le_of_ble_eq_true rfl) ?_
  have g1 : T_A n f w S (B_0 B) cp cv gone (hp.set 67 (o_Se B.2.2.2.2.2.2.1 B.2.2.2.2.2.2.2.1 0 0)) := h.srch (F_S.set _ (by omega)) (h.2.2.2.2.2.1.fg)
  have h_s := g1.1
  refine q_aload_n d_S_beginAnew_7 rfl rfl ?_
  refine x_callVr d_S_beginAnew_8 l_S_169 i_S_returnToFirst v_S_returnToFirst rfl h_s (c_S_returnToFirst hG g1) rfl rfl (Nat.le_of_ble_eq_true rfl) (Nat.le_of_ble_eq_true rfl) (Nat.le_of_ble_eq_true rfl) (Nat.le_of_ble_eq_true rfl) (fun hp1 k1 => ?_)
  refine q_vret d_S_beginAnew_11 rfl ?_ (Nat.le_of_ble_eq_true rfl) (Nat.le_of_ble_eq_true rfl) (by decide)
  exact ⟨hp1, rfl, rfl, k1.1, (F_T.set _ (by omega)).trans k1.2⟩
set_option maxRecDepth 10000 in
set_option maxHeartbeats 2000000 in
theorem c_S_restart (hG : q_GG g) {n : Nat} {f : Nat → Int32} {w : w_T} {S : x_S} {B : z_S} {cp cv : Nat → Nat} {gone : Nat} {hp : List va_E} (h : T_A n f w S B cp cv gone hp) : q_C g m_S_restart true (q_R 3 50 0 0) [.ref 0] hp (q_ho (some (.int (nI gone))) (fun hp2 => T_A n f w S B (cp0 cp) (cv0 (w_f w) cv) 0 hp2 ∧ F_T hp hp2)) := by
  refine q_C.of hG (by decide) (Nat.le_of_ble_eq_true rfl) ?_
  have h_s := h.1
  have h_t := h.2.1
  have h_w := h.2.2.2.1.1
  have h_r := h.2.2.2.2.1.1
  have h_e := h.2.2.2.2.2.1.1
  have h_c := h.2.2.2.2.2.2.1
  refine q_aload_n d_S_restart_0 rfl rfl ?_
  refine q_get d_S_restart_1 f_S_161 h_s rfl ?_
  refine q_istore_n d_S_restart_4 rfl (by decide) rfl ?_
  refine q_aload_n d_S_restart_5 rfl rfl ?_
  refine x_callVr d_S_restart_6 l_S_169 i_S_returnToFirst v_S_returnToFirst rfl h_s (c_S_returnToFirst hG h) rfl rfl (Nat.le_of_ble_eq_true rfl) (Nat.le_of_ble_eq_true rfl) (Nat.le_of_ble_eq_true rfl) (Nat.le_of_ble_eq_true rfl) (fun hp1 k1 => ?_)
  refine q_iload_n d_S_restart_9 rfl ?_
  refine q_iret d_S_restart_10 rfl ?_ (Nat.le_of_ble_eq_true rfl) (Nat.le_of_ble_eq_true rfl) (by decide)
  exact ⟨hp1, rfl, rfl, k1⟩
end C26
