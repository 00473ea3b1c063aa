/-! TextReader: its pure picture -/
section C10
variable {g : q_G}
abbrev p_T : Type := Nat × Nat × Nat
abbrev o_Pn (t : p_T) : va_E := o_Pa (nI t.1) (nI t.2.1) (nI t.2.2)
abbrev o_Re (d a k : Nat) (fp : Int32) : va_E := .inr (4, [.ref 1, .ref 3, .ref 38, .ref 39, .ref 40, .int (nI d), .int (nI a), .int (nI k), .int fp])
def ch_f : Nat → Option Nat := fun j => if j < 13 then some (41 + 2 * j) else none
def rw_f : Nat → Option Nat := fun j => if j < 13 then some (42 + 2 * j) else none
abbrev a_Ch : va_E := .inl (5, 13, .inr (.inr (.inr (.inr ch_f))))
abbrev a_Rw : va_E := .inl (5, 13, .inr (.inr (.inr (.inr rw_f))))
theorem ch_at {d : Nat} (h : d < 13) : va_rf (ch_f (nI d).toNatClampNeg) = .ref (41 + 2 * d) := by
  rw [nI_clamp (by omega)]
  simp [ch_f, h, va_rf]
theorem rw_at {d : Nat} (h : d < 13) : va_rf (rw_f (nI d).toNatClampNeg) = .ref (42 + 2 * d) := by
  rw [nI_clamp (by omega)]
  simp [rw_f, h, va_rf]
/-- depth, at, fault's kind and place, choices, rows, act, the course -/
abbrev x_S : Type := Nat × Nat × Nat × Int32 × (Nat → p_T) × (Nat → p_T) × p_T × c_T
abbrev x_d (S : x_S) : Nat := S.1
abbrev x_a (S : x_S) : Nat := S.2.1
abbrev x_k (S : x_S) : Nat := S.2.2.1
abbrev x_p (S : x_S) : Int32 := S.2.2.2.1
abbrev x_ch (S : x_S) : Nat → p_T := S.2.2.2.2.1
abbrev x_rw (S : x_S) : Nat → p_T := S.2.2.2.2.2.1
abbrev x_ac (S : x_S) : p_T := S.2.2.2.2.2.2.1
abbrev x_C (S : x_S) : c_T := S.2.2.2.2.2.2.2
/-- what the reader reads: process p's course, tape (n bytes f), variables, sizes -/
def X_A (p n : Nat) (f : Nat → Int32) (nv np : Nat) (z : Nat → Nat) (S : x_S) (hp : List va_E) : Prop :=
  hp[37]? = some (o_Re (x_d S) (x_a S) (x_k S) (x_p S)) ∧ hp[38]? = some a_Ch ∧ hp[39]? = some a_Rw ∧ hp[40]? = some (o_Pn (x_ac S)) ∧ (∀ i, i < 13 → hp[41 + 2 * i]? = some (o_Pn (x_ch S i))) ∧ (∀ i, i < 13 → hp[42 + 2 * i]? = some (o_Pn (x_rw S i))) ∧
  c_A (7 + 5 * p) (x_C S) hp ∧ hp[1]? = some (o_Ta 1 (nI n)) ∧ hp[2]? = some (a_B 100 f) ∧ hp[3]? = some (o_Wo nv np) ∧ hp[4]? = some (a_N 5 z)
def F_A (p : Nat) (hp hp' : List va_E) : Prop := hp'.length = hp.length ∧ ∀ k, (k < 7 + 5 * p ∨ (11 + 5 * p < k ∧ k < 37) ∨ 66 < k) → hp'[k]? = hp[k]?
theorem F_A.refl (p : Nat) (hp : List va_E) : F_A p hp hp := ⟨rfl, fun _ _ => rfl⟩
theorem F_A.trans {p : Nat} {h1 h2 h3 : List va_E} (a : F_A p h1 h2) (b : F_A p h2 h3) : F_A p h1 h3 := ⟨b.1.trans a.1, fun k hk => (b.2 k hk).trans (a.2 k hk)⟩
theorem F_A.set {p a : Nat} {x : va_E} (hp6 : p < 6) (hp : List va_E) (h : (7 + 5 * p ≤ a ∧ a ≤ 11 + 5 * p) ∨ (37 ≤ a ∧ a ≤ 66)) : F_A p hp (hp.set a x) := ⟨by simp, fun k hk => by rw [List.getElem?_set_ne (by omega)]⟩
theorem c_A.keep {a k : Nat} {C : c_T} {hp : List va_E} {x : va_E} (h : c_A a C hp) (hk : k < a ∨ a + 4 < k) : c_A a C (hp.set k x) :=
  ⟨q_keep rfl h.1 (by omega), q_keep rfl h.2.1 (by omega), q_keep rfl h.2.2.1 (by omega), q_keep rfl h.2.2.2.1 (by omega), q_keep rfl h.2.2.2.2 (by omega)⟩
section
variable {p n : Nat} {f : Nat → Int32} {nv np : Nat} {z : Nat → Nat} {hp : List va_E}
theorem X_A.re {S : x_S} {d a k : Nat} {fp : Int32} (hp6 : p < 6) (h : X_A p n f nv np z S hp) : X_A p n f nv np z (d, a, k, fp, x_ch S, x_rw S, x_ac S, x_C S) (hp.set 37 (o_Re d a k fp)) := by
  obtain ⟨h1, h2, h3, h4, h5, h6, h7, h8, h9, h10, h11⟩ := h
  exact ⟨q_self h1, q_keep rfl h2 (by omega), q_keep rfl h3 (by omega), q_keep rfl h4 (by omega), fun i hi => q_keep rfl (h5 i hi) (by omega), fun i hi => q_keep rfl (h6 i hi) (by omega), h7.keep (by omega), q_keep rfl h8 (by omega), q_keep rfl h9 (by omega), q_keep rfl h10 (by omega), q_keep rfl h11 (by omega)⟩
theorem X_A.ac {S : x_S} {t : p_T} (hp6 : p < 6) (h : X_A p n f nv np z S hp) : X_A p n f nv np z (x_d S, x_a S, x_k S, x_p S, x_ch S, x_rw S, t, x_C S) (hp.set 40 (o_Pn t)) := by
  obtain ⟨h1, h2, h3, h4, h5, h6, h7, h8, h9, h10, h11⟩ := h
  exact ⟨q_keep rfl h1 (by omega), q_keep rfl h2 (by omega), q_keep rfl h3 (by omega), q_self h4, fun i hi => q_keep rfl (h5 i hi) (by omega), fun i hi => q_keep rfl (h6 i hi) (by omega), h7.keep (by omega), q_keep rfl h8 (by omega), q_keep rfl h9 (by omega), q_keep rfl h10 (by omega), q_keep rfl h11 (by omega)⟩
theorem X_A.ch {S : x_S} {t : p_T} {d : Nat} (hp6 : p < 6) (hd : d < 13) (h : X_A p n f nv np z S hp) : X_A p n f nv np z (x_d S, x_a S, x_k S, x_p S, va_up (x_ch S) d t, x_rw S, x_ac S, x_C S) (hp.set (41 + 2 * d) (o_Pn t)) := by
  obtain ⟨h1, h2, h3, h4, h5, h6, h7, h8, h9, h10, h11⟩ := h
  refine ⟨q_keep rfl h1 (by omega), q_keep rfl h2 (by omega), q_keep rfl h3 (by omega), q_keep rfl h4 (by omega), fun i hi => ?_, fun i hi => q_keep rfl (h6 i hi) (by omega), h7.keep (by omega), q_keep rfl h8 (by omega), q_keep rfl h9 (by omega), q_keep rfl h10 (by omega), q_keep rfl h11 (by omega)⟩
  show _ = some (o_Pn (va_up (x_ch S) d t i))
  unfold va_up
  by_cases e : i = d
  · subst e
    rw [if_pos rfl]
    exact q_self (h5 i hi)
  · rw [if_neg e]
    exact q_keep rfl (h5 i hi) (by omega)
theorem X_A.rw {S : x_S} {t : p_T} {d : Nat} (hp6 : p < 6) (hd : d < 13) (h : X_A p n f nv np z S hp) : X_A p n f nv np z (x_d S, x_a S, x_k S, x_p S, x_ch S, va_up (x_rw S) d t, x_ac S, x_C S) (hp.set (42 + 2 * d) (o_Pn t)) := by
  obtain ⟨h1, h2, h3, h4, h5, h6, h7, h8, h9, h10, h11⟩ := h
  refine ⟨q_keep rfl h1 (by omega), q_keep rfl h2 (by omega), q_keep rfl h3 (by omega), q_keep rfl h4 (by omega), fun i hi => q_keep rfl (h5 i hi) (by omega), fun i hi => ?_, h7.keep (by omega), q_keep rfl h8 (by omega), q_keep rfl h9 (by omega), q_keep rfl h10 (by omega), q_keep rfl h11 (by omega)⟩
  show _ = some (o_Pn (va_up (x_rw S) d t i))
  unfold va_up
  by_cases e : i = d
  · subst e
    rw [if_pos rfl]
    exact q_self (h6 i hi)
  · rw [if_neg e]
    exact q_keep rfl (h6 i hi) (by omega)
/-- a change of the course's cells alone -/
theorem X_A.co {S : x_S} {C : c_T} {hp' : List va_E} (h : X_A p n f nv np z S hp) (hp6 : p < 6) (hk : ∀ k, k < 7 + 5 * p ∨ 11 + 5 * p < k → hp'[k]? = hp[k]?) (hC : c_A (7 + 5 * p) C hp') : X_A p n f nv np z (x_d S, x_a S, x_k S, x_p S, x_ch S, x_rw S, x_ac S, C) hp' := by
  obtain ⟨h1, h2, h3, h4, h5, h6, h7, h8, h9, h10, h11⟩ := h
  exact ⟨(hk _ (by omega)).trans h1, (hk _ (by omega)).trans h2, (hk _ (by omega)).trans h3, (hk _ (by omega)).trans h4, fun i hi => (hk _ (by omega)).trans (h5 i hi), fun i hi => (hk _ (by omega)).trans (h6 i hi), hC, (hk _ (by omega)).trans h8, (hk _ (by omega)).trans h9, (hk _ (by omega)).trans h10, (hk _ (by omega)).trans h11⟩
end
/-- an end with the heap known by a property -/
abbrev q_ho (v : Option Value) (φ : List va_E → Prop) : Outcome → List va_E → Prop := q_rel (Z := List va_E) (fun _ => v) (fun h => h) φ
/-- the reader's moves -/
def x_mf (k : Nat) (S : x_S) : x_S := (x_d S, x_a S, k, nI (x_a S), x_ch S, x_rw S, x_ac S, x_C S)
def x_bt (S : x_S) : x_S := (x_d S, x_a S, x_k S, x_p S, va_up (x_ch S) (x_d S) (0, 0, 0), va_up (x_rw S) (x_d S) (1, 0, 0), x_ac S, x_C S)
def p_or (s t : p_T) : p_T := (s.1 ||| t.1, s.2.1 ||| t.2.1, s.2.2 ||| t.2.2)
def p_seq (s t : p_T) : p_T := (s.1 &&& t.1, s.2.1 ||| (if s.1 = 0 then 0 else t.2.1), t.2.2 ||| (if t.1 = 0 then 0 else s.2.2))
def x_ec (S : x_S) : x_S := (x_d S, x_a S, x_k S, x_p S, va_up (x_ch S) (x_d S) (p_or (x_ch S (x_d S)) (x_rw S (x_d S))), va_up (x_rw S) (x_d S) (1, 0, 0), x_ac S, x_C S)
def p_ok (t : p_T) : Prop := t.1 < 2 ∧ t.2.1 < 8192 ∧ t.2.2 < 8192
theorem p_B {t : p_T} (h : p_ok t) : q_B (nI t.1) := by
  obtain ⟨b, x, y⟩ := t
  have h1 : b < 2 := h.1
  have : b = 0 ∨ b = 1 := by omega
  rcases this with rfl | rfl
  · exact Or.inl rfl
  · exact Or.inr rfl
theorem tb_and (a b : Nat) : nI a &&& nI b = nI (a &&& b) := by
  apply Int32.toBitVec_inj.mp
  rw [Int32.toBitVec_and]
  show BitVec.ofNat 32 a &&& BitVec.ofNat 32 b = BitVec.ofNat 32 (a &&& b)
  rw [BitVec.ofNat_and]
theorem o_or (s t : p_T) : o_Pa (nI s.1 ||| nI t.1) (nI s.2.1 ||| nI t.2.1) (nI s.2.2 ||| nI t.2.2) = o_Pn (p_or s t) := by
  rw [tb_or, tb_or, tb_or]
  rfl
theorem o_seq {s t : p_T} (hs : p_ok s) (ht : p_ok t) : o_Pa (nI s.1 &&& nI t.1) (nI s.2.1 ||| (if nI s.1 = 0 then 0 else nI t.2.1)) (nI t.2.2 ||| (if nI t.1 = 0 then 0 else nI s.2.2)) = o_Pn (p_seq s t) := by
  have a1 : nI s.1 = 0 ↔ s.1 = 0 := nI_eq (b := 0) (by have := hs.1; omega) (by decide)
  have a2 : nI t.1 = 0 ↔ t.1 = 0 := nI_eq (b := 0) (by have := ht.1; omega) (by decide)
  have b1 : (if nI s.1 = 0 then 0 else nI t.2.1) = nI (if s.1 = 0 then 0 else t.2.1) := by
    by_cases h : s.1 = 0
    · rw [if_pos (a1.mpr h), if_pos h]; rfl
    · rw [if_neg (fun q => h (a1.mp q)), if_neg h]
  have b2 : (if nI t.1 = 0 then 0 else nI s.2.2) = nI (if t.1 = 0 then 0 else s.2.2) := by
    by_cases h : t.1 = 0
    · rw [if_pos (a2.mpr h), if_pos h]; rfl
    · rw [if_neg (fun q => h (a2.mp q)), if_neg h]
  rw [b1, b2, tb_and, tb_or, tb_or]
  rfl
set_option maxRecDepth 10000 in
set_option maxHeartbeats 1000000 in
theorem c_Re_meetFault (hG : q_GG g) {p n : Nat} {f : Nat → Int32} {nv np : Nat} {z : Nat → Nat} {S : x_S} {hp : List va_E} (hp6 : p < 6) (h : X_A p n f nv np z S hp) {k : Nat} : q_C g m_Re_meetFault true (q_R 0 0 0 0) [.ref 37, .int (nI k)] hp (q_ho none (fun hp2 => X_A p n f nv np z (x_mf k S) hp2 ∧ F_A p hp hp2)) := by
  refine q_C.of hG (by decide) (Nat.le_of_ble_eq_true rfl) ?_
  have h_r := h.1
  refine q_aload_n d_Re_meetFault_0 rfl rfl ?_
  refine q_iload_n d_Re_meetFault_1 rfl ?_
  refine x_put d_Re_meetFault_2 f_Re_37 h_r (Nat.le_of_ble_eq_true rfl) rfl rfl (fun hp1 e1 h_r => ?_)
  refine q_aload_n d_Re_meetFault_5 rfl rfl ?_
  refine q_aload_n d_Re_meetFault_6 rfl rfl ?_
  refine q_get d_Re_meetFault_7 f_Re_40 h_r rfl ?_
  refine x_put d_Re_meetFault_10 f_Re_25 h_r (Nat.le_of_ble_eq_true rfl) rfl rfl (fun hp2 e2 h_r => ?_)
  refine q_vret d_Re_meetFault_13 rfl ?_ (Nat.le_of_ble_eq_true rfl) (Nat.le_of_ble_eq_true rfl) (by decide)
  refine ⟨_, rfl, rfl, ?_⟩
  subst e1; subst e2
  rw [List.set_set]
  exact ⟨h.re hp6, F_A.set hp6 _ (by omega)⟩
set_option maxRecDepth 10000 in
set_option maxHeartbeats 1000000 in
theorem c_Re_beginText (hG : q_GG g) {p n : Nat} {f : Nat → Int32} {nv np : Nat} {z : Nat → Nat} {S : x_S} {hp : List va_E} (hp6 : p < 6) (h : X_A p n f nv np z S hp) (hd : x_d S < 13) : q_C g m_Re_beginText true (q_R 1 14 0 0) [.ref 37] hp (q_ho none (fun hp2 => X_A p n f nv np z (x_bt S) hp2 ∧ F_A p hp hp2)) := by
  refine q_C.of hG (by decide) (Nat.le_of_ble_eq_true rfl) ?_
  have h_r := h.1
  have h_ch := h.2.1
  have h_rw := h.2.2.1
  have h_x := h.2.2.2.2.1 _ hd
  have hin : vp_in (nI (x_d S)) 13 := vp_in_nI hd (by decide)
  refine q_aload_n d_Re_beginText_0 rfl rfl ?_
  refine q_get d_Re_beginText_1 f_Re_11 h_r rfl ?_
  refine q_aload_n d_Re_beginText_4 rfl rfl ?_
  refine q_get d_Re_beginText_5 f_Re_43 h_r rfl ?_
  refine q_aald d_Re_beginText_8 h_ch rfl hin (ch_at hd) ?_
  refine q_iconst (v := 0) d_Re_beginText_9 (by decide) ?_
  refine q_iconst (v := 0) d_Re_beginText_10 (by decide) ?_
  refine x_callV d_Re_beginText_11 l_Re_119 i_Pa_set v_Pa_set rfl h_x (c_Pa_set hG h_x (z := 0) (x := 0) (Or.inl rfl)) rfl rfl (Nat.le_of_ble_eq_true rfl) (Nat.le_of_ble_eq_true rfl) (Nat.le_of_ble_eq_true rfl) (Nat.le_of_ble_eq_true rfl) ?_
  have h2 := h.ch (t := (0, 0, 0)) hp6 hd
  have h_r := h2.1
  have h_rw := h2.2.2.1
  have h_y := h2.2.2.2.2.2.1 _ hd
  refine q_aload_n d_Re_beginText_14 rfl rfl ?_
  refine q_get d_Re_beginText_15 f_Re_17 h_r rfl ?_
  refine q_aload_n d_Re_beginText_18 rfl rfl ?_
  refine q_get d_Re_beginText_19 f_Re_43 h_r rfl ?_
  refine q_aald d_Re_beginText_22 h_rw rfl hin (rw_at hd) ?_
  refine q_iconst (v := 1) d_Re_beginText_23 (by decide) ?_
  refine q_iconst (v := 0) d_Re_beginText_24 (by decide) ?_
  refine x_callV d_Re_beginText_25 l_Re_119 i_Pa_set v_Pa_set rfl h_y (c_Pa_set hG h_y (z := 1) (x := 0) (Or.inr rfl)) rfl rfl (Nat.le_of_ble_eq_true rfl) (Nat.le_of_ble_eq_true rfl) (Nat.le_of_ble_eq_true rfl) (Nat.le_of_ble_eq_true rfl) ?_
  refine q_vret d_Re_beginText_28 rfl ?_ (Nat.le_of_ble_eq_true rfl) (Nat.le_of_ble_eq_true rfl) (by decide)
  refine ⟨_, rfl, rfl, h2.rw (t := (1, 0, 0)) hp6 hd, (F_A.set hp6 _ (by omega)).trans (F_A.set hp6 _ (by omega))⟩
set_option maxRecDepth 10000 in
set_option maxHeartbeats 1000000 in
theorem c_Re_endChoice (hG : q_GG g) {p n : Nat} {f : Nat → Int32} {nv np : Nat} {z : Nat → Nat} {S : x_S} {hp : List va_E} (hp6 : p < 6) (h : X_A p n f nv np z S hp) (hd : x_d S < 13) (ho : p_ok (x_ch S (x_d S))) (ho2 : p_ok (x_rw S (x_d S))) : q_C g m_Re_endChoice true (q_R 1 14 0 0) [.ref 37] hp (q_ho none (fun hp2 => X_A p n f nv np z (x_ec S) hp2 ∧ F_A p hp hp2)) := by
  refine q_C.of hG (by decide) (Nat.le_of_ble_eq_true rfl) ?_
  have h_r := h.1
  have h_ch := h.2.1
  have h_rw := h.2.2.1
  have h_x := h.2.2.2.2.1 _ hd
  have h_y := h.2.2.2.2.2.1 _ hd
  have hin : vp_in (nI (x_d S)) 13 := vp_in_nI hd (by decide)
  have hC := c_Pa_addChoice hG h_x h_y (by omega) (p_B ho) (p_B ho2)
  rw [o_or] at hC
  refine q_aload_n d_Re_endChoice_0 rfl rfl ?_
  refine q_get d_Re_endChoice_1 f_Re_11 h_r rfl ?_
  refine q_aload_n d_Re_endChoice_4 rfl rfl ?_
  refine q_get d_Re_endChoice_5 f_Re_43 h_r rfl ?_
  refine q_aald d_Re_endChoice_8 h_ch rfl hin (ch_at hd) ?_
  refine q_aload_n d_Re_endChoice_9 rfl rfl ?_
  refine q_get d_Re_endChoice_10 f_Re_17 h_r rfl ?_
  refine q_aload_n d_Re_endChoice_13 rfl rfl ?_
  refine q_get d_Re_endChoice_14 f_Re_43 h_r rfl ?_
  refine q_aald d_Re_endChoice_17 h_rw rfl hin (rw_at hd) ?_
  refine x_callV d_Re_endChoice_18 l_Re_140 i_Pa_addChoice v_Pa_addChoice rfl h_x (hC) rfl rfl (Nat.le_of_ble_eq_true rfl) (Nat.le_of_ble_eq_true rfl) (Nat.le_of_ble_eq_true rfl) (Nat.le_of_ble_eq_true rfl) ?_
  have h2 := h.ch (t := p_or (x_ch S (x_d S)) (x_rw S (x_d S))) hp6 hd
  have h_r := h2.1
  have h_rw := h2.2.2.1
  have h_y := h2.2.2.2.2.2.1 _ hd
  refine q_aload_n d_Re_endChoice_21 rfl rfl ?_
  refine q_get d_Re_endChoice_22 f_Re_17 h_r rfl ?_
  refine q_aload_n d_Re_endChoice_25 rfl rfl ?_
  refine q_get d_Re_endChoice_26 f_Re_43 h_r rfl ?_
  refine q_aald d_Re_endChoice_29 h_rw rfl hin (rw_at hd) ?_
  refine q_iconst (v := 1) d_Re_endChoice_30 (by decide) ?_
  refine q_iconst (v := 0) d_Re_endChoice_31 (by decide) ?_
  refine x_callV d_Re_endChoice_32 l_Re_119 i_Pa_set v_Pa_set rfl h_y (c_Pa_set hG h_y (z := 1) (x := 0) (Or.inr rfl)) rfl rfl (Nat.le_of_ble_eq_true rfl) (Nat.le_of_ble_eq_true rfl) (Nat.le_of_ble_eq_true rfl) (Nat.le_of_ble_eq_true rfl) ?_
  refine q_vret d_Re_endChoice_35 rfl ?_ (Nat.le_of_ble_eq_true rfl) (Nat.le_of_ble_eq_true rfl) (by decide)
  refine ⟨_, rfl, rfl, h2.rw (t := (1, 0, 0)) hp6 hd, (F_A.set hp6 _ (by omega)).trans (F_A.set hp6 _ (by omega))⟩
end C10
