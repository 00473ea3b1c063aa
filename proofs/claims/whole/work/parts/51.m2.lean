/-! the reference: what its reader holds, take -/
section M2
variable {g : q_G}
def k_m (c : Nat) : Nat := if c = 43 then 1 else if c = 45 then 2 else if c = 61 then 3 else if c = 63 then 4 else if c = 33 then 5 else 0
def R_T (n : Nat) (tb : Nat → Nat) (nv : Nat) (z : Nat → Nat) (m : Nat → Int32) (A : Nat → Nat → Int32) : Prop := m 2 = nI n ∧ (∀ j, j < n → A 0 j = nI (tb j)) ∧ m 5 = nI nv ∧ ∀ v, v < nv → A 1 v = nI (z v)
def R_P (k0 : Nat) (t : Nat → p_T) (d : Nat) (A : Nat → Nat → Int32) : Prop := ∀ i, i ≤ d → A k0 i = nI (t i).1 ∧ A (k0 + 1) i = nI (t i).2.1 ∧ A (k0 + 2) i = nI (t i).2.2
def R_C (C : c_T) (m : Nat → Int32) (A : Nat → Nat → Int32) : Prop := m 16 = nI (c_n C - 1) ∧ (∀ k, k < c_n C → A 9 k = nI (c_s C k)) ∧ ∀ k, 1 ≤ k → k < c_n C → A 10 k = nI (k_m (c_k C k)) ∧ A 11 k = nI (c_v C k) ∧ A 12 k = nI (c_f C k)
def R_M (n : Nat) (tb : Nat → Nat) (nv : Nat) (z : Nat → Nat) (S : x_S) (m : Nat → Int32) (A : Nat → Nat → Int32) : Prop := R_T n tb nv z m A ∧ m 3 = nI (x_k S) ∧ m 4 = x_p S ∧ m 15 = nI (x_a S) ∧ m 21 = nI (x_d S) ∧ R_P 13 (x_ch S) (x_d S) A ∧ R_P 16 (x_rw S) (x_d S) A ∧ R_C (x_C S) m A
def m_T (n : Nat) (tb : Nat → Nat) : Prop := n ≤ 100 ∧ ∀ j, j < n → tb j < 256
theorem m_n0 {n : Nat} (h : n < 2 ^ 31) (e : nI n = 0) : n = 0 := (nI_eq h (by decide)).mp (show nI n = nI 0 from e)
theorem m_nar {y : Nat} (h : y < 2) : vp_nar .boolean (nI y) = nI y := by
  rcases (by omega : y = 0 ∨ y = 1) with rfl | rfl <;> rfl
theorem R_T.keep {n : Nat} {tb : Nat → Nat} {nv : Nat} {z : Nat → Nat} {m m' : Nat → Int32} {A A' : Nat → Nat → Int32} (h : R_T n tb nv z m A) (e2 : m' 2 = m 2) (e5 : m' 5 = m 5) (e0 : A' 0 = A 0) (e1 : A' 1 = A 1) : R_T n tb nv z m' A' := ⟨e2.trans h.1, by rw [e0]; exact h.2.1, e5.trans h.2.2.1, by rw [e1]; exact h.2.2.2⟩
theorem R_P.keep {k0 d d' : Nat} {t t' : Nat → p_T} {A A' : Nat → Nat → Int32} (h : R_P k0 t d A) (hd : d' ≤ d) (ht : ∀ i, i ≤ d' → t' i = t i) (e0 : A' k0 = A k0) (e1 : A' (k0 + 1) = A (k0 + 1)) (e2 : A' (k0 + 2) = A (k0 + 2)) : R_P k0 t' d' A' := by
  intro i hi
  rw [e0, e1, e2, ht i hi]
  exact h i (by omega)
theorem R_P.up {k0 d : Nat} {t : Nat → p_T} {x : p_T} {A A' : Nat → Nat → Int32} (h : ∀ i, i < d → A k0 i = nI (t i).1 ∧ A (k0 + 1) i = nI (t i).2.1 ∧ A (k0 + 2) i = nI (t i).2.2) (e0 : A' k0 = upd (A k0) d (nI x.1)) (e1 : A' (k0 + 1) = upd (A (k0 + 1)) d (nI x.2.1)) (e2 : A' (k0 + 2) = upd (A (k0 + 2)) d (nI x.2.2)) : R_P k0 (va_up t d x) d A' := by
  intro i hi
  rw [e0, e1, e2]
  by_cases q : i = d
  · subst q
    rw [va_up_self]
    simp [upd]
  · rw [va_up_ne _ _ q]
    simp only [upd, if_neg q]
    exact h i (by omega)
theorem R_P.lt {k0 d : Nat} {t : Nat → p_T} {A : Nat → Nat → Int32} (h : R_P k0 t d A) : ∀ i, i < d → A k0 i = nI (t i).1 ∧ A (k0 + 1) i = nI (t i).2.1 ∧ A (k0 + 2) i = nI (t i).2.2 := fun i hi => h i (by omega)
theorem R_C.keep {C : c_T} {m m' : Nat → Int32} {A A' : Nat → Nat → Int32} (h : R_C C m A) (e : m' 16 = m 16) (e9 : A' 9 = A 9) (e10 : A' 10 = A 10) (e11 : A' 11 = A 11) (e12 : A' 12 = A 12) : R_C C m' A' := ⟨e.trans h.1, by rw [e9]; exact h.2.1, by rw [e10, e11, e12]; exact h.2.2⟩
theorem R_C.lead {C : c_T} {m m' : Nat → Int32} {A A' : Nat → Nat → Int32} {fm to : Nat} (h : R_C C m A) (hc : c_n C ≤ 13) (e : m' 16 = m 16) (e9 : A' 9 = la fm to 13 (A 9)) (e10 : A' 10 = A 10) (e11 : A' 11 = A 11) (e12 : A' 12 = A 12) : R_C (c_n C, c_e C, c_as fm to (c_n C) (c_s C), c_k C, c_v C, c_f C) m' A' := by
  refine ⟨e.trans h.1, fun k hk => ?_, by rw [e10, e11, e12]; exact h.2.2⟩
  have hk : k < c_n C := hk
  have h1 := h.2.1 k hk
  show A' 9 k = nI (c_as fm to (c_n C) (c_s C) k)
  rw [e9]
  unfold la c_as
  by_cases q : fm.testBit k = true
  · rw [if_pos ⟨by omega, q⟩, if_pos ⟨hk, q⟩, h1, tb_or]
  · rw [if_neg (fun x => q x.2), if_neg (fun x => q x.2), h1]
/-- a thing behind the row -/
def x_en (t : p_T) (S : x_S) : x_S := (x_d S, x_a S, x_k S, x_p S, x_ch S, va_up (x_rw S) (x_d S) (p_seq (x_rw S (x_d S)) t), x_ac S, (c_n (x_C S), c_e (x_C S), c_as (x_rw S (x_d S)).2.2 t.2.1 (c_n (x_C S)) (c_s (x_C S)), c_k (x_C S), c_v (x_C S), c_f (x_C S)))
theorem x_star_tg (o : Option Nat) (S : x_S) : x_tg (x_star o S) o = (1, (x_tg S o).2.1, (x_tg S o).2.2) := by
  cases o with
  | none => rfl
  | some i => exact va_up_self _ _ _
theorem x_star_d (o : Option Nat) (S : x_S) : x_d (x_star o S) = x_d S := by cases o <;> rfl
theorem R_M.star {n : Nat} {tb : Nat → Nat} {nv : Nat} {z : Nat → Nat} {o : Option Nat} {S : x_S} {m m' : Nat → Int32} {A A' : Nat → Nat → Int32} (h : R_M n tb nv z S m A) (ho : ∀ i, o = some i → x_d S < i) (hc : c_n (x_C S) ≤ 13) (e9 : A' 9 = la (x_tg S o).2.2 (x_tg S o).2.1 13 (A 9)) (kA : mo_K [9] A A') (e15 : m' 15 = nI (x_a S + 1)) (km : mo_K [15, 28] m m') : R_M n tb nv z (x_star o S) m' A' := by
  obtain ⟨h1, h2, h3, h4, h5, h6, h7, h8⟩ := h
  have hC := h8.lead (fm := (x_tg S o).2.2) (to := (x_tg S o).2.1) (m' := m') (A' := A') hc (km 16 (by decide)) e9 (kA 10 (by decide)) (kA 11 (by decide)) (kA 12 (by decide))
  have hT := h1.keep (km 2 (by decide)) (km 5 (by decide)) (kA 0 (by decide)) (kA 1 (by decide))
  have hW := h7.keep (Nat.le_refl _) (fun _ _ => rfl) (kA 16 (by decide)) (kA 17 (by decide)) (kA 18 (by decide))
  cases o with
  | none => exact ⟨hT, (km 3 (by decide)).trans h2, (km 4 (by decide)).trans h3, e15, (km 21 (by decide)).trans h5, h6.keep (Nat.le_refl _) (fun _ _ => rfl) (kA 13 (by decide)) (kA 14 (by decide)) (kA 15 (by decide)), hW, hC⟩
  | some i =>
    have := ho i rfl
    exact ⟨hT, (km 3 (by decide)).trans h2, (km 4 (by decide)).trans h3, e15, (km 21 (by decide)).trans h5, h6.keep (Nat.le_refl _) (fun j hj => va_up_ne _ _ (by have : j ≤ x_d S := hj; omega)) (kA 13 (by decide)) (kA 14 (by decide)) (kA 15 (by decide)), hW, hC⟩
set_option maxRecDepth 10000 in
set_option maxHeartbeats 2000000 in
theorem l_Mo_tkE (hG : q_GG g) {b hp : List va_E} {m : Nat → Int32} {A : Nat → Nat → Int32} {n : Nat} {tb : Nat → Nat} {nv : Nat} {z : Nat → Nat} {S : x_S} {t : p_T} (hA : M_A b m A hp) (hR : R_M n tb nv z S m A) (hok : x_ok n S) (ht : p_ok t) (v28 : m 28 = nI t.1) (v29 : m 29 = nI t.2.1) (v30 : m 30 = nI t.2.2) : q_J g m_Mo_take true (q_R 1 40 0 0) (q_mo none b (fun m' A' => R_M n tb nv z (x_en t S) m' A' ∧ mo_K [] m m' ∧ mo_K [9, 16, 17, 18] A A')) 43 [some (.ref 84)] [] hp 0 0 true := by
  have hd := hok.1
  have hin : vp_in (nI (x_d S)) 14 := vp_in_nI (by omega) (by decide)
  have hcl : (nI (x_d S)).toNatClampNeg = x_d S := nI_clamp (by omega)
  have v21 := hR.2.2.2.2.1
  have hs := (hok.2.2.1 (x_d S) hok.1).2
  obtain ⟨g16, g17, g18⟩ := hR.2.2.2.2.2.2.1 (x_d S) (Nat.le_refl _)
  obtain ⟨s, hs0⟩ : ∃ s, x_rw S (x_d S) = s := ⟨_, rfl⟩
  rw [hs0] at hs g16 g17 g18
  have hs1 := hs.1
  have ht1 := ht.1
  have km : mo_K [] m m := mo_K.rfl
  have kA : mo_K [9, 16, 17, 18] A A := mo_K.rfl
  have a9 : A 9 = A 9 := rfl
  have a16 : A 16 = A 16 := rfl
  have a17 : A 17 = A 17 := rfl
  have a18 : A 18 = A 18 := rfl
  refine q_aload_n d_Mo_take_43 rfl rfl ?_
  refine q_aload_n d_Mo_take_44 rfl rfl ?_
  refine q_get d_Mo_take_45 f_Mo_69 hA.1 rfl ?_
  refine q_aload_n d_Mo_take_48 rfl rfl ?_
  refine q_get d_Mo_take_49 f_Mo_117 hA.1 rfl ?_
  rw [v21]
  refine q_iald d_Mo_take_52 hA.a18 rfl (by assumption) ?_
  rw [a18]
  rw [hcl, g18]
  refine q_aload_n d_Mo_take_53 rfl rfl ?_
  refine q_get d_Mo_take_54 f_Mo_136 hA.1 rfl ?_
  rw [v29]
  refine x_callVm d_Mo_take_57 l_Mo_139 i_Mo_lead v_Mo_lead rfl hA.1 (c_Mo_lead hG hA hs.2.2) rfl rfl (Nat.le_of_ble_eq_true rfl) (Nat.le_of_ble_eq_true rfl) (Nat.le_of_ble_eq_true rfl) (Nat.le_of_ble_eq_true rfl) (fun m A hp1 hA hz => ?_)
  obtain ⟨w9, nm, nA⟩ := hz
  have v21 := (nm 21 (by decide)).trans v21
  have v28 := (nm 28 (by decide)).trans v28
  have v29 := (nm 29 (by decide)).trans v29
  have v30 := (nm 30 (by decide)).trans v30
  have a16 := (nA 16 (by decide)).trans a16
  have a17 := (nA 17 (by decide)).trans a17
  have a18 := (nA 18 (by decide)).trans a18
  have km := km.sub nm (by decide)
  have kA := kA.sub nA (by decide)
  have a9 := w9
  refine q_aload_n d_Mo_take_60 rfl rfl ?_
  refine q_get d_Mo_take_61 f_Mo_66 hA.1 rfl ?_
  refine q_aload_n d_Mo_take_64 rfl rfl ?_
  refine q_get d_Mo_take_65 f_Mo_117 hA.1 rfl ?_
  rw [v21]
  refine q_join (pc' := 106) (st' := [.int (nI (x_d S)), .ref 102]) (nI (s.2.1 ||| (if s.1 = 0 then 0 else t.2.1))) (fun x106 hx106 => ?_) (fun J106 => ?_)
  · subst hx106
    refine x_iast d_Mo_take_106 hA.a17 rfl (by assumption) (fun hp2 e2 _ => ?_)
    obtain ⟨A, hA, u17, nn⟩ := hA.st17 e2
    rw [a17] at u17
    rw [hcl] at u17
    have a17 := u17
    have a9 := (nn 9 (by decide)).trans a9
    have a16 := (nn 16 (by decide)).trans a16
    have a18 := (nn 18 (by decide)).trans a18
    have kA := kA.put nn (by decide)
    refine q_aload_n d_Mo_take_107 rfl rfl ?_
    refine q_get d_Mo_take_108 f_Mo_69 hA.1 rfl ?_
    refine q_aload_n d_Mo_take_111 rfl rfl ?_
    refine q_get d_Mo_take_112 f_Mo_117 hA.1 rfl ?_
    rw [v21]
    refine q_join (pc' := 143) (st' := [.int (nI (x_d S)), .ref 103]) (nI (t.2.2 ||| (if t.1 = 0 then 0 else s.2.2))) (fun x143 hx143 => ?_) (fun J143 => ?_)
    · subst hx143
      refine x_iast d_Mo_take_143 hA.a18 rfl (by assumption) (fun hp3 e3 _ => ?_)
      obtain ⟨A, hA, u18, nn⟩ := hA.st18 e3
      rw [a18] at u18
      rw [hcl] at u18
      have a18 := u18
      have a9 := (nn 9 (by decide)).trans a9
      have a16 := (nn 16 (by decide)).trans a16
      have a17 := (nn 17 (by decide)).trans a17
      have kA := kA.put nn (by decide)
      refine q_aload_n d_Mo_take_144 rfl rfl ?_
      refine q_get d_Mo_take_145 f_Mo_63 hA.1 rfl ?_
      refine q_aload_n d_Mo_take_148 rfl rfl ?_
      refine q_get d_Mo_take_149 f_Mo_117 hA.1 rfl ?_
      rw [v21]
      refine q_join (pc' := 176) (st' := [.int (nI (x_d S)), .ref 101]) (nI (s.1 &&& t.1)) (fun x176 hx176 => ?_) (fun J176 => ?_)
      · subst hx176
        refine x_zast d_Mo_take_176 hA.a16 rfl (by assumption) (fun hp4 e4 _ => ?_)
        obtain ⟨A, hA, u16, nn⟩ := hA.st16 e4
        rw [a16] at u16
        rw [hcl, m_nar (show s.1 &&& t.1 < 2 from Nat.and_lt_two_pow (n := 1) _ ht.1)] at u16
        have a16 := u16
        have a9 := (nn 9 (by decide)).trans a9
        have a17 := (nn 17 (by decide)).trans a17
        have a18 := (nn 18 (by decide)).trans a18
        have kA := kA.put nn (by decide)
        refine q_vret d_Mo_take_177 rfl ?_ (Nat.le_of_ble_eq_true rfl) (Nat.le_of_ble_eq_true rfl) (by decide)
        refine ⟨(m, A, _), rfl, rfl, hA, ⟨hR.1.keep (km 2 (by decide)) (km 5 (by decide)) (kA 0 (by decide)) (kA 1 (by decide)), (km 3 (by decide)).trans hR.2.1, (km 4 (by decide)).trans hR.2.2.1, (km 15 (by decide)).trans hR.2.2.2.1, v21, hR.2.2.2.2.2.1.keep (Nat.le_refl _) (fun _ _ => rfl) (kA 13 (by decide)) (kA 14 (by decide)) (kA 15 (by decide)), ?_, ?_⟩, km, kA⟩
        · exact R_P.up hR.2.2.2.2.2.2.1.lt (a16.trans (by rw [← hs0]; rfl)) (a17.trans (by rw [← hs0]; rfl)) (a18.trans (by rw [← hs0]; rfl))
        · exact hR.2.2.2.2.2.2.2.lead hok.2.2.2.2.2.1 (km 16 (by decide)) (a9.trans (by rw [← hs0])) (kA 10 (by decide)) (kA 11 (by decide)) (kA 12 (by decide))
      · skip
        refine q_aload_n d_Mo_take_152 rfl rfl ?_
        refine q_get d_Mo_take_153 f_Mo_63 hA.1 rfl ?_
        refine q_aload_n d_Mo_take_156 rfl rfl ?_
        refine q_get d_Mo_take_157 f_Mo_117 hA.1 rfl ?_
        rw [v21]
        refine q_zald d_Mo_take_160 hA.a16 rfl (by assumption) ?_
        rw [a16]
        rw [hcl, g16]
        refine q_if_eq (tgt := 175) d_Mo_take_161 (by decide) (fun b161 => ?_) (fun b161 => ?_)
        · skip
          have q3 : s.1 = 0 := m_n0 (by omega) b161
          refine q_iconst (v := 0) d_Mo_take_175 (by decide) ?_
          exact J176 _ (by first | (rw [q3, Nat.zero_and]; rfl) | (rw [q4, Nat.and_zero]; rfl) | (rw [show s.1 = 1 by omega, show t.1 = 1 by omega]; rfl))
        · skip
          have q5 : ¬ s.1 = 0 := fun q => b161 (by rw [q]; rfl)
          refine q_aload_n d_Mo_take_164 rfl rfl ?_
          refine q_get d_Mo_take_165 f_Mo_130 hA.1 rfl ?_
          rw [v28]
          refine q_if_eq (tgt := 175) d_Mo_take_168 (by decide) (fun b168 => ?_) (fun b168 => ?_)
          · skip
            have q4 : t.1 = 0 := m_n0 (by omega) b168
            refine q_iconst (v := 0) d_Mo_take_175 (by decide) ?_
            exact J176 _ (by first | (rw [q3, Nat.zero_and]; rfl) | (rw [q4, Nat.and_zero]; rfl) | (rw [show s.1 = 1 by omega, show t.1 = 1 by omega]; rfl))
          · skip
            have q6 : ¬ t.1 = 0 := fun q => b168 (by rw [q]; rfl)
            refine q_iconst (v := 1) d_Mo_take_171 (by decide) ?_
            refine q_goto (tgt := 176) d_Mo_take_172 (by decide) ?_
            exact J176 _ (by first | (rw [q3, Nat.zero_and]; rfl) | (rw [q4, Nat.and_zero]; rfl) | (rw [show s.1 = 1 by omega, show t.1 = 1 by omega]; rfl))
    · skip
      refine q_aload_n d_Mo_take_115 rfl rfl ?_
      refine q_get d_Mo_take_116 f_Mo_130 hA.1 rfl ?_
      rw [v28]
      refine q_if_eq (tgt := 139) d_Mo_take_119 (by decide) (fun b119 => ?_) (fun b119 => ?_)
      · skip
        have q2 : t.1 = 0 := m_n0 (by omega) b119
        refine q_aload_n d_Mo_take_139 rfl rfl ?_
        refine q_get d_Mo_take_140 f_Mo_133 hA.1 rfl ?_
        rw [v30]
        exact J143 _ (by first | (simp [q2]; done) | (rw [if_neg q2, tb_or, Nat.or_comm]))
      · skip
        have q2 : ¬ t.1 = 0 := fun q => b119 (by rw [q]; rfl)
        refine q_aload_n d_Mo_take_122 rfl rfl ?_
        refine q_get d_Mo_take_123 f_Mo_69 hA.1 rfl ?_
        refine q_aload_n d_Mo_take_126 rfl rfl ?_
        refine q_get d_Mo_take_127 f_Mo_117 hA.1 rfl ?_
        rw [v21]
        refine q_iald d_Mo_take_130 hA.a18 rfl (by assumption) ?_
        rw [a18]
        rw [hcl, g18]
        refine q_aload_n d_Mo_take_131 rfl rfl ?_
        refine q_get d_Mo_take_132 f_Mo_133 hA.1 rfl ?_
        rw [v30]
        refine q_ior d_Mo_take_135 ?_
        refine q_goto (tgt := 143) d_Mo_take_136 (by decide) ?_
        exact J143 _ (by first | (simp [q2]; done) | (rw [if_neg q2, tb_or, Nat.or_comm]))
  · skip
    refine q_aload_n d_Mo_take_68 rfl rfl ?_
    refine q_get d_Mo_take_69 f_Mo_63 hA.1 rfl ?_
    refine q_aload_n d_Mo_take_72 rfl rfl ?_
    refine q_get d_Mo_take_73 f_Mo_117 hA.1 rfl ?_
    rw [v21]
    refine q_zald d_Mo_take_76 hA.a16 rfl (by assumption) ?_
    rw [a16]
    rw [hcl, g16]
    refine q_if_eq (tgt := 97) d_Mo_take_77 (by decide) (fun b77 => ?_) (fun b77 => ?_)
    · skip
      have q1 : s.1 = 0 := m_n0 (by omega) b77
      refine q_aload_n d_Mo_take_97 rfl rfl ?_
      refine q_get d_Mo_take_98 f_Mo_66 hA.1 rfl ?_
      refine q_aload_n d_Mo_take_101 rfl rfl ?_
      refine q_get d_Mo_take_102 f_Mo_117 hA.1 rfl ?_
      rw [v21]
      refine q_iald d_Mo_take_105 hA.a17 rfl (by assumption) ?_
      rw [a17]
      try rw [hcl, g17]
      exact J106 _ (by simp [q1, tb_or])
    · skip
      have q1 : ¬ s.1 = 0 := fun q => b77 (by rw [q]; rfl)
      refine q_aload_n d_Mo_take_80 rfl rfl ?_
      refine q_get d_Mo_take_81 f_Mo_66 hA.1 rfl ?_
      refine q_aload_n d_Mo_take_84 rfl rfl ?_
      refine q_get d_Mo_take_85 f_Mo_117 hA.1 rfl ?_
      rw [v21]
      refine q_iald d_Mo_take_88 hA.a17 rfl (by assumption) ?_
      rw [a17]
      rw [hcl, g17]
      refine q_aload_n d_Mo_take_89 rfl rfl ?_
      refine q_get d_Mo_take_90 f_Mo_136 hA.1 rfl ?_
      rw [v29]
      refine q_ior d_Mo_take_93 ?_
      refine q_goto (tgt := 106) d_Mo_take_94 (by decide) ?_
      try rw [hcl, g17]
      exact J106 _ (by simp [q1, tb_or])
theorem m_tle {n : Nat} {tb : Nat → Nat} (h : m_T n tb) (a : Nat) : t_b n tb a ≤ 256 := by
  unfold t_b
  split
  · next q => exact Nat.le_of_lt (h.2 a q)
  · exact Nat.le_refl _
set_option maxRecDepth 10000 in
set_option maxHeartbeats 2000000 in
theorem l_Mo_take (hG : q_GG g) {b : List va_E} {m0 : Nat → Int32} {A0 : Nat → Nat → Int32} {n : Nat} {tb : Nat → Nat} {nv : Nat} {z : Nat → Nat} {o : Option Nat} (hT : m_T n tb) (hto : x_to o) : ∀ (k : Nat) (S : x_S) (m : Nat → Int32) (A : Nat → Nat → Int32) (hp : List va_E), n - x_a S = k → M_A b m A hp → R_M n tb nv z S m A → x_ok n S → (∀ i, o = some i → x_d S < i) → m 28 = nI (x_tg S o).1 → m 29 = nI (x_tg S o).2.1 → m 30 = nI (x_tg S o).2.2 → mo_K [15, 28] m0 m → mo_K [9, 16, 17, 18] A0 A → q_J g m_Mo_take true (q_R 1 40 0 0) (q_mo none b (fun m' A' => R_M n tb nv z (x_end o (x_sl n tb o k S)) m' A' ∧ mo_K [15, 28] m0 m' ∧ mo_K [9, 16, 17, 18] A0 A')) 0 [some (.ref 84)] [] hp 0 0 true := by
  intro k
  induction k with
  | zero =>
    intro S m A hp hk hA hR hok ho v28 v29 v30 km kA
    have ht := hok.tg hto
    have hn1 := hT.1
    have ha1 := hok.2.1
    have v15 := hR.2.2.2.1
    have v21 := hR.2.2.2.2.1
    refine q_aload_n d_Mo_take_0 rfl rfl ?_
    refine q_aload_n d_Mo_take_1 rfl rfl ?_
    refine q_get d_Mo_take_2 f_Mo_123 hA.1 rfl ?_
    rw [v15]
    refine x_callV d_Mo_take_5 l_Mo_126 i_Mo_byteAt v_Mo_byteAt rfl hA.1 (c_Mo_byteAt hG hA hR.1.1 hT.1 hR.1.2.1 hT.2 (by omega)) rfl rfl (Nat.le_of_ble_eq_true rfl) (Nat.le_of_ble_eq_true rfl) (Nat.le_of_ble_eq_true rfl) (Nat.le_of_ble_eq_true rfl) ?_
    refine q_bipush (v := 42) d_Mo_take_8 (by decide) ?_
    refine q_icmp_ne (tgt := 43) d_Mo_take_10 (by decide) (fun b10 => ?_) (fun b10 => ?_)
    · skip
      rw [show x_sl n tb o 0 S = S from rfl]
      exact q_post (fun r h ⟨y, y1, y2, y3, y4, y5, y6⟩ => ⟨y, y1, y2, y3, y4, km.sub y5 (by decide), kA.sub y6 (by decide)⟩) (l_Mo_tkE hG hA hR hok ht v28 v29 v30)
    · skip
      have q := (b_v_eq (k := 42) (m_tle hT _) (by decide)).mp b10
      unfold t_b at q
      rw [if_neg (by omega)] at q
      cases q
  | succ k ih =>
    intro S m A hp hk hA hR hok ho v28 v29 v30 km kA
    have ht := hok.tg hto
    have hn1 := hT.1
    have ha1 := hok.2.1
    have v15 := hR.2.2.2.1
    have v21 := hR.2.2.2.2.1
    have kn : mo_K [15, 28] m m := mo_K.rfl
    have kB : mo_K [9] A A := mo_K.rfl
    refine q_aload_n d_Mo_take_0 rfl rfl ?_
    refine q_aload_n d_Mo_take_1 rfl rfl ?_
    refine q_get d_Mo_take_2 f_Mo_123 hA.1 rfl ?_
    rw [v15]
    refine x_callV d_Mo_take_5 l_Mo_126 i_Mo_byteAt v_Mo_byteAt rfl hA.1 (c_Mo_byteAt hG hA hR.1.1 hT.1 hR.1.2.1 hT.2 (by omega)) rfl rfl (Nat.le_of_ble_eq_true rfl) (Nat.le_of_ble_eq_true rfl) (Nat.le_of_ble_eq_true rfl) (Nat.le_of_ble_eq_true rfl) ?_
    refine q_bipush (v := 42) d_Mo_take_8 (by decide) ?_
    refine q_icmp_ne (tgt := 43) d_Mo_take_10 (by decide) (fun b10 => ?_) (fun b10 => ?_)
    · skip
      rw [show x_sl n tb o (k + 1) S = S from if_neg (fun q => b10 ((b_v_eq (k := 42) (m_tle hT _) (by decide)).mpr (by unfold t_b; rw [if_pos q.1]; exact q.2)))]
      exact q_post (fun r h ⟨y, y1, y2, y3, y4, y5, y6⟩ => ⟨y, y1, y2, y3, y4, km.sub y5 (by decide), kA.sub y6 (by decide)⟩) (l_Mo_tkE hG hA hR hok ht v28 v29 v30)
    · skip
      have q := (b_v_eq (k := 42) (m_tle hT _) (by decide)).mp b10
      have qa : x_a S < n := t_b_lt (tb := tb) (by omega)
      have q42 : tb (x_a S) = 42 := by unfold t_b at q; rw [if_pos qa] at q; exact q
      refine q_aload_n d_Mo_take_13 rfl rfl ?_
      refine q_iconst (v := 1) d_Mo_take_14 (by decide) ?_
      refine x_put d_Mo_take_15 f_Mo_130 hA.1 (Nat.le_of_ble_eq_true rfl) rfl rfl (fun hp1 e1 _ => ?_)
      obtain ⟨m, hA, v28, nn⟩ := hA.put (k := 28) (by decide) e1
      have v15 := (nn 15 (by decide)).trans v15
      have v21 := (nn 21 (by decide)).trans v21
      have v29 := (nn 29 (by decide)).trans v29
      have v30 := (nn 30 (by decide)).trans v30
      have km := km.put nn (by decide)
      have kn := kn.put nn (by decide)
      refine q_aload_n d_Mo_take_18 rfl rfl ?_
      refine q_aload_n d_Mo_take_19 rfl rfl ?_
      refine q_get d_Mo_take_20 f_Mo_133 hA.1 rfl ?_
      rw [v30]
      refine q_aload_n d_Mo_take_23 rfl rfl ?_
      refine q_get d_Mo_take_24 f_Mo_136 hA.1 rfl ?_
      rw [v29]
      refine x_callVm d_Mo_take_27 l_Mo_139 i_Mo_lead v_Mo_lead rfl hA.1 (c_Mo_lead hG hA ht.2.2) rfl rfl (Nat.le_of_ble_eq_true rfl) (Nat.le_of_ble_eq_true rfl) (Nat.le_of_ble_eq_true rfl) (Nat.le_of_ble_eq_true rfl) (fun m A hp2 hA hz => ?_)
      obtain ⟨w9, nm, nA⟩ := hz
      have v15 := (nm 15 (by decide)).trans v15
      have v21 := (nm 21 (by decide)).trans v21
      have v28 := (nm 28 (by decide)).trans v28
      have v29 := (nm 29 (by decide)).trans v29
      have v30 := (nm 30 (by decide)).trans v30
      have km := km.sub nm (by decide)
      have kn := kn.sub nm (by decide)
      have kA := kA.sub nA (by decide)
      have kB := kB.sub nA (by decide)
      refine q_aload_n d_Mo_take_30 rfl rfl ?_
      refine q_dup d_Mo_take_31 rfl ?_
      refine q_get d_Mo_take_32 f_Mo_123 hA.1 rfl ?_
      rw [v15]
      refine q_iconst (v := 1) d_Mo_take_35 (by decide) ?_
      refine q_iadd d_Mo_take_36 ?_
      refine x_put d_Mo_take_37 f_Mo_123 hA.1 (Nat.le_of_ble_eq_true rfl) rfl rfl (fun hp3 e3 _ => ?_)
      obtain ⟨m, hA, v15, nn⟩ := hA.put (k := 15) (by decide) e3
      rw [nI_1] at v15
      have v21 := (nn 21 (by decide)).trans v21
      have v28 := (nn 28 (by decide)).trans v28
      have v29 := (nn 29 (by decide)).trans v29
      have v30 := (nn 30 (by decide)).trans v30
      have km := km.put nn (by decide)
      have kn := kn.put nn (by decide)
      refine q_goto (tgt := 0) d_Mo_take_40 (by decide) ?_
      have hR2 : R_M n tb nv z (x_star o S) m A := hR.star ho hok.2.2.2.2.2.1 w9 kB v15 kn
      rw [show x_sl n tb o (k + 1) S = x_sl n tb o k (x_star o S) from if_pos ⟨qa, q42⟩]
      have htg := x_star_tg o S
      exact ih (x_star o S) m A _ (by rw [x_star_a]; omega) hA hR2 (hok.star hto qa) (fun i hi => by rw [x_star_d]; exact ho i hi) (by rw [htg]; exact v28) (by rw [htg]; exact v29) (by rw [htg]; exact v30) km kA
set_option maxRecDepth 10000 in
set_option maxHeartbeats 2000000 in
theorem c_Mo_take (hG : q_GG g) {b hp : List va_E} {m : Nat → Int32} {A : Nat → Nat → Int32} {n : Nat} {tb : Nat → Nat} {nv : Nat} {z : Nat → Nat} {S : x_S} {o : Option Nat} (hT : m_T n tb) (hto : x_to o) (hA : M_A b m A hp) (hR : R_M n tb nv z S m A) (hok : x_ok n S) (ho : ∀ i, o = some i → x_d S < i) (v28 : m 28 = nI (x_tg S o).1) (v29 : m 29 = nI (x_tg S o).2.1) (v30 : m 30 = nI (x_tg S o).2.2) : q_C g m_Mo_take true (q_R 1 40 0 0) [.ref 84] hp (q_mo none b (fun m' A' => R_M n tb nv z (x_add n tb o S) m' A' ∧ mo_K [15, 28] m m' ∧ mo_K [9, 16, 17, 18] A A')) := by
  refine q_C.of hG (by decide) (Nat.le_of_ble_eq_true rfl) ?_
  refine q_wrote ?_
  exact l_Mo_take hG hT hto (n - x_a S) S m A hp rfl hA hR hok ho v28 v29 v30 mo_K.rfl mo_K.rfl
end M2
