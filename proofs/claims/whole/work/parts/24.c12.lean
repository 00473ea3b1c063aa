/-! TextReader: kinds, figures, texts that open and close -/
section C12
variable {g : q_G}
/-- the byte at a place, 256 behind the end; as an int -/
def t_b (n : Nat) (tb : Nat → Nat) (a : Nat) : Nat := if a < n then tb a else 256
def b_v (c : Nat) : Int32 := if c = 256 then -1 else nI c
theorem b_v_eq {c k : Nat} (hc : c ≤ 256) (hk : k < 256) : b_v c = nI k ↔ c = k := by
  unfold b_v
  by_cases h : c = 256
  · rw [if_pos h]
    refine ⟨fun q => absurd q.symm (tb_m1 (by omega)), fun q => by omega⟩
  · rw [if_neg h]
    exact nI_eq (by omega) (by omega)
theorem t_b_le {n : Nat} {f : Nat → Int32} {tb : Nat → Nat} (h : t_ok n f tb) (a : Nat) : t_b n tb a ≤ 256 := by
  unfold t_b
  split
  · next q => have := (h.2 a q).2; omega
  · exact Nat.le_refl _
theorem t_b_v {n : Nat} {f : Nat → Int32} {tb : Nat → Nat} (h : t_ok n f tb) (a : Nat) : (if a < n then f a &&& 255 else -1) = b_v (t_b n tb a) := by
  unfold t_b b_v
  by_cases q : a < n
  · rw [if_pos q, if_pos q, if_neg (by have := (h.2 a q).2; omega), (h.2 a q).1]
  · rw [if_neg q, if_neg q, if_pos rfl]
def x_at1 (S : x_S) : x_S := (x_d S, x_a S + 1, x_k S, x_p S, x_ch S, x_rw S, x_ac S, x_C S)
def b_kf (c : Nat) : Bool := c == 61 || c == 63 || c == 33
def b_kd (c : Nat) : Bool := c == 43 || c == 45 || b_kf c
theorem b_m1 : ∀ k, k < 256 → (-1 - nI k : Int32) < 0 := by decide +kernel
theorem b_lt0 {c k : Nat} (hc : c ≤ 256) (hk : 0 < k) (hk2 : k < 256) : b_v c - nI k < 0 ↔ c < k ∨ c = 256 := by
  unfold b_v
  by_cases h : c = 256
  · rw [if_pos h]
    refine ⟨fun _ => Or.inr h, fun _ => ?_⟩
    exact b_m1 k hk2
  · rw [if_neg h]
    by_cases h2 : c < k
    · exact ⟨fun _ => Or.inl h2, fun _ => pk_sneg (by omega) h2⟩
    · rw [pk_sub (by omega)]
      refine ⟨fun q => absurd q (nI_pos (by omega)), fun q => by omega⟩
theorem b_sub {c k : Nat} (h : k ≤ c) (h2 : c ≠ 256) : b_v c - nI k = nI (c - k) := by
  unfold b_v
  rw [if_neg h2, pk_sub h]
set_option maxRecDepth 10000 in
set_option maxHeartbeats 2000000 in
theorem c_Re_takesFigure (hG : q_GG g) {hp : List va_E} {c : Nat} (hc : c ≤ 256) : q_C g m_Re_takesFigure false (q_R 0 0 0 0) [.int (b_v c)] hp (q_ret (some (.int (if b_kf c then 1 else 0))) hp) := by
  refine q_C.of hG (by decide) (Nat.le_of_ble_eq_true rfl) ?_
  have e1 : b_v c = 61 ↔ c = 61 := b_v_eq hc (by decide)
  have e2 : b_v c = 63 ↔ c = 63 := b_v_eq hc (by decide)
  have e3 : b_v c = 33 ↔ c = 33 := b_v_eq hc (by decide)
  refine q_iload_n d_Re_takesFigure_0 rfl ?_
  refine q_bipush (v := 61) d_Re_takesFigure_1 (by decide) ?_
  refine q_icmp_eq (tgt := 18) d_Re_takesFigure_3 (by decide) (fun b3 => ?_) (fun b3 => ?_)
  · skip
    rw [e1] at b3
    refine q_iconst (v := 1) d_Re_takesFigure_18 (by decide) ?_
    refine q_goto (tgt := 23) d_Re_takesFigure_19 (by decide) ?_
    refine q_zret d_Re_takesFigure_23 rfl (by decide) ?_ (Nat.le_of_ble_eq_true rfl) (Nat.le_of_ble_eq_true rfl) (by decide)
    exact ⟨by simp [b_kf, *], rfl⟩
  · skip
    rw [e1] at b3
    refine q_iload_n d_Re_takesFigure_6 rfl ?_
    refine q_bipush (v := 63) d_Re_takesFigure_7 (by decide) ?_
    refine q_icmp_eq (tgt := 18) d_Re_takesFigure_9 (by decide) (fun b9 => ?_) (fun b9 => ?_)
    · skip
      rw [e2] at b9
      refine q_iconst (v := 1) d_Re_takesFigure_18 (by decide) ?_
      refine q_goto (tgt := 23) d_Re_takesFigure_19 (by decide) ?_
      refine q_zret d_Re_takesFigure_23 rfl (by decide) ?_ (Nat.le_of_ble_eq_true rfl) (Nat.le_of_ble_eq_true rfl) (by decide)
      exact ⟨by simp [b_kf, *], rfl⟩
    · skip
      rw [e2] at b9
      refine q_iload_n d_Re_takesFigure_12 rfl ?_
      refine q_bipush (v := 33) d_Re_takesFigure_13 (by decide) ?_
      refine q_icmp_ne (tgt := 22) d_Re_takesFigure_15 (by decide) (fun b15 => ?_) (fun b15 => ?_)
      · skip
        rw [e3] at b15
        refine q_iconst (v := 0) d_Re_takesFigure_22 (by decide) ?_
        refine q_zret d_Re_takesFigure_23 rfl (by decide) ?_ (Nat.le_of_ble_eq_true rfl) (Nat.le_of_ble_eq_true rfl) (by decide)
        exact ⟨by simp [b_kf, *], rfl⟩
      · skip
        rw [e3] at b15
        refine q_iconst (v := 1) d_Re_takesFigure_18 (by decide) ?_
        refine q_goto (tgt := 23) d_Re_takesFigure_19 (by decide) ?_
        refine q_zret d_Re_takesFigure_23 rfl (by decide) ?_ (Nat.le_of_ble_eq_true rfl) (Nat.le_of_ble_eq_true rfl) (by decide)
        exact ⟨by simp [b_kf, *], rfl⟩
set_option maxRecDepth 10000 in
set_option maxHeartbeats 2000000 in
theorem c_Re_readKind (hG : q_GG g) {p n : Nat} {f : Nat → Int32} {tb : Nat → Nat} {nv np : Nat} {z : Nat → Nat} {S : x_S} {hp : List va_E} (hp6 : p < 6) (htb : t_ok n f tb) (h : X_A p n f nv np z S hp) (hok : x_ok n S) : q_C g m_Re_readKind true (q_R 1 13 0 0) [.ref 37] hp (q_ho (some (.int (if b_kd (t_b n tb (x_a S)) then b_v (t_b n tb (x_a S)) else -1))) (fun hp2 => X_A p n f nv np z (if b_kd (t_b n tb (x_a S)) then x_at1 S else x_mf 1 S) hp2 ∧ F_A p hp hp2)) := by
  refine q_C.of hG (by decide) (Nat.le_of_ble_eq_true rfl) ?_
  have h_r := h.1
  have h_ta := h.2.2.2.2.2.2.2.1
  have h_by := h.2.2.2.2.2.2.2.2.1
  have hn100 := htb.1
  have hal := hok.2.1
  have hcl := t_b_le htb (x_a S)
  generalize hcc : t_b n tb (x_a S) = cc at *
  have e1 : b_v cc = 43 ↔ cc = 43 := b_v_eq hcl (by decide)
  have e2 : b_v cc = 45 ↔ cc = 45 := b_v_eq hcl (by decide)
  refine q_aload_n d_Re_readKind_0 rfl rfl ?_
  refine q_get d_Re_readKind_1 f_Re_29 h_r rfl ?_
  refine q_aload_n d_Re_readKind_4 rfl rfl ?_
  refine q_get d_Re_readKind_5 f_Re_40 h_r rfl ?_
  refine x_callV d_Re_readKind_8 l_Re_74 i_Ta_byteAt v_Ta_byteAt rfl h_ta (c_Ta_byteAt hG h_ta h_by htb.1 (i := x_a S) (by omega)) rfl rfl (Nat.le_of_ble_eq_true rfl) (Nat.le_of_ble_eq_true rfl) (Nat.le_of_ble_eq_true rfl) (Nat.le_of_ble_eq_true rfl) ?_
  rw [t_b_v htb, hcc]
  refine q_istore_n d_Re_readKind_11 rfl (by decide) rfl ?_
  refine q_iload_n d_Re_readKind_12 rfl ?_
  refine q_bipush (v := 43) d_Re_readKind_13 (by decide) ?_
  refine q_icmp_eq (tgt := 38) d_Re_readKind_15 (by decide) (fun b15 => ?_) (fun b15 => ?_)
  · skip
    rw [e1] at b15
    have hk : b_kd cc = true := by simp [b_kd, b15]
    refine q_aload_n d_Re_readKind_38 rfl rfl ?_
    refine q_dup d_Re_readKind_39 rfl ?_
    refine q_get d_Re_readKind_40 f_Re_40 h_r rfl ?_
    refine q_iconst (v := 1) d_Re_readKind_43 (by decide) ?_
    refine q_iadd d_Re_readKind_44 ?_
    refine x_put d_Re_readKind_45 f_Re_40 h_r (Nat.le_of_ble_eq_true rfl) rfl rfl (fun hp1 e1 h_r => ?_)
    rw [nI_1] at e1
    refine q_iload_n d_Re_readKind_48 rfl ?_
    refine q_iret d_Re_readKind_49 rfl ?_ (Nat.le_of_ble_eq_true rfl) (Nat.le_of_ble_eq_true rfl) (by decide)
    refine ⟨_, by rw [if_pos hk], rfl, ?_⟩
    rw [if_pos hk]
    subst e1
    exact ⟨h.re hp6, F_A.set hp6 _ (by omega)⟩
  · skip
    rw [e1] at b15
    refine q_iload_n d_Re_readKind_18 rfl ?_
    refine q_bipush (v := 45) d_Re_readKind_19 (by decide) ?_
    refine q_icmp_eq (tgt := 38) d_Re_readKind_21 (by decide) (fun b21 => ?_) (fun b21 => ?_)
    · skip
      rw [e2] at b21
      have hk : b_kd cc = true := by simp [b_kd, b21]
      refine q_aload_n d_Re_readKind_38 rfl rfl ?_
      refine q_dup d_Re_readKind_39 rfl ?_
      refine q_get d_Re_readKind_40 f_Re_40 h_r rfl ?_
      refine q_iconst (v := 1) d_Re_readKind_43 (by decide) ?_
      refine q_iadd d_Re_readKind_44 ?_
      refine x_put d_Re_readKind_45 f_Re_40 h_r (Nat.le_of_ble_eq_true rfl) rfl rfl (fun hp2 e2 h_r => ?_)
      rw [nI_1] at e2
      refine q_iload_n d_Re_readKind_48 rfl ?_
      refine q_iret d_Re_readKind_49 rfl ?_ (Nat.le_of_ble_eq_true rfl) (Nat.le_of_ble_eq_true rfl) (by decide)
      refine ⟨_, by rw [if_pos hk], rfl, ?_⟩
      rw [if_pos hk]
      subst e2
      exact ⟨h.re hp6, F_A.set hp6 _ (by omega)⟩
    · skip
      rw [e2] at b21
      refine q_iload_n d_Re_readKind_24 rfl ?_
      refine x_callS d_Re_readKind_25 l_Re_104 s_Re_takesFigure (c_Re_takesFigure hG hcl) rfl rfl (Nat.le_of_ble_eq_true rfl) (Nat.le_of_ble_eq_true rfl) (Nat.le_of_ble_eq_true rfl) (Nat.le_of_ble_eq_true rfl) ?_
      refine q_if_ne (tgt := 38) d_Re_readKind_28 (by decide) (fun b28 => ?_) (fun b28 => ?_)
      · skip
        have hk : b_kd cc = true := by
          by_cases q : b_kf cc = true
          · simp [b_kd, q]
          · rw [if_neg q] at b28; exact absurd rfl b28
        refine q_aload_n d_Re_readKind_38 rfl rfl ?_
        refine q_dup d_Re_readKind_39 rfl ?_
        refine q_get d_Re_readKind_40 f_Re_40 h_r rfl ?_
        refine q_iconst (v := 1) d_Re_readKind_43 (by decide) ?_
        refine q_iadd d_Re_readKind_44 ?_
        refine x_put d_Re_readKind_45 f_Re_40 h_r (Nat.le_of_ble_eq_true rfl) rfl rfl (fun hp3 e3 h_r => ?_)
        rw [nI_1] at e3
        refine q_iload_n d_Re_readKind_48 rfl ?_
        refine q_iret d_Re_readKind_49 rfl ?_ (Nat.le_of_ble_eq_true rfl) (Nat.le_of_ble_eq_true rfl) (by decide)
        refine ⟨_, by rw [if_pos hk], rfl, ?_⟩
        rw [if_pos hk]
        subst e3
        exact ⟨h.re hp6, F_A.set hp6 _ (by omega)⟩
      · skip
        have hk : ¬ b_kd cc = true := by
          by_cases q : b_kf cc = true
          · rw [if_pos q] at b28; exact absurd b28 (by decide)
          · simp [b_kd, b15, b21, q]
        refine q_aload_n d_Re_readKind_31 rfl rfl ?_
        refine q_iconst (v := 1) d_Re_readKind_32 (by decide) ?_
        refine x_callVr d_Re_readKind_33 l_Re_63 i_Re_meetFault v_Re_meetFault rfl h_r (c_Re_meetFault hG hp6 h) rfl rfl (Nat.le_of_ble_eq_true rfl) (Nat.le_of_ble_eq_true rfl) (Nat.le_of_ble_eq_true rfl) (Nat.le_of_ble_eq_true rfl) (fun hpz hz => ?_)
        refine q_iconst (v := (-1)) d_Re_readKind_36 (by decide) ?_
        refine q_iret d_Re_readKind_37 rfl ?_ (Nat.le_of_ble_eq_true rfl) (Nat.le_of_ble_eq_true rfl) (by decide)
        refine ⟨hpz, by rw [if_neg hk], rfl, ?_⟩
        rw [if_neg hk]
        exact hz
set_option maxRecDepth 10000 in
set_option maxHeartbeats 2000000 in
theorem c_Re_readFigure (hG : q_GG g) {p n : Nat} {f : Nat → Int32} {tb : Nat → Nat} {nv np : Nat} {z : Nat → Nat} {S : x_S} {hp : List va_E} {y : Nat} (hy : y ≤ 5) (hp6 : p < 6) (htb : t_ok n f tb) (h : X_A p n f nv np z S hp) (hok : x_ok n S) : q_C g m_Re_readFigure true (q_R 1 13 0 0) [.ref 37, .int (nI y)] hp (q_ho (some (.int (if 48 ≤ t_b n tb (x_a S) ∧ t_b n tb (x_a S) < 48 + y then nI (t_b n tb (x_a S) - 48) else -1))) (fun hp2 => X_A p n f nv np z (if 48 ≤ t_b n tb (x_a S) ∧ t_b n tb (x_a S) < 48 + y then x_at1 S else x_mf 1 S) hp2 ∧ F_A p hp hp2)) := by
  refine q_C.of hG (by decide) (Nat.le_of_ble_eq_true rfl) ?_
  have h_r := h.1
  have h_ta := h.2.2.2.2.2.2.2.1
  have h_by := h.2.2.2.2.2.2.2.2.1
  have hn100 := htb.1
  have hal := hok.2.1
  have hcl := t_b_le htb (x_a S)
  generalize hcc : t_b n tb (x_a S) = cc at *
  have e1 : b_v cc - 48 < 0 ↔ cc < 48 ∨ cc = 256 := b_lt0 (k := 48) hcl (by decide) (by decide)
  refine q_aload_n d_Re_readFigure_0 rfl rfl ?_
  refine q_get d_Re_readFigure_1 f_Re_29 h_r rfl ?_
  refine q_aload_n d_Re_readFigure_4 rfl rfl ?_
  refine q_get d_Re_readFigure_5 f_Re_40 h_r rfl ?_
  refine x_callV d_Re_readFigure_8 l_Re_74 i_Ta_byteAt v_Ta_byteAt rfl h_ta (c_Ta_byteAt hG h_ta h_by htb.1 (i := x_a S) (by omega)) rfl rfl (Nat.le_of_ble_eq_true rfl) (Nat.le_of_ble_eq_true rfl) (Nat.le_of_ble_eq_true rfl) (Nat.le_of_ble_eq_true rfl) ?_
  rw [t_b_v htb, hcc]
  refine q_bipush (v := 48) d_Re_readFigure_11 (by decide) ?_
  refine q_isub d_Re_readFigure_13 ?_
  refine q_istore_n d_Re_readFigure_14 rfl (by decide) rfl ?_
  refine q_iload_n d_Re_readFigure_15 rfl ?_
  refine q_if_lt (tgt := 24) d_Re_readFigure_16 (by decide) (fun b16 => ?_) (fun b16 => ?_)
  · skip
    rw [e1] at b16
    have hk : ¬ (48 ≤ cc ∧ cc < 48 + y) := by omega
    refine q_aload_n d_Re_readFigure_24 rfl rfl ?_
    refine q_iconst (v := 1) d_Re_readFigure_25 (by decide) ?_
    refine x_callVr d_Re_readFigure_26 l_Re_63 i_Re_meetFault v_Re_meetFault rfl h_r (c_Re_meetFault hG hp6 h) rfl rfl (Nat.le_of_ble_eq_true rfl) (Nat.le_of_ble_eq_true rfl) (Nat.le_of_ble_eq_true rfl) (Nat.le_of_ble_eq_true rfl) (fun hpz hz => ?_)
    refine q_iconst (v := (-1)) d_Re_readFigure_29 (by decide) ?_
    refine q_iret d_Re_readFigure_30 rfl ?_ (Nat.le_of_ble_eq_true rfl) (Nat.le_of_ble_eq_true rfl) (by decide)
    refine ⟨hpz, by rw [if_neg hk], rfl, ?_⟩
    rw [if_neg hk]
    exact hz
  · skip
    rw [e1] at b16
    have e2 : b_v cc - 48 = nI (cc - 48) := b_sub (k := 48) (by omega) (by omega)
    refine q_iload_n d_Re_readFigure_19 rfl ?_
    refine q_iload_n d_Re_readFigure_20 rfl ?_
    refine q_icmp_lt (tgt := 31) d_Re_readFigure_21 (by decide) (fun b21 => ?_) (fun b21 => ?_)
    · skip
      rw [e2, nI_ltI (by omega) (by omega)] at b21
      have hk : 48 ≤ cc ∧ cc < 48 + y := by omega
      refine q_aload_n d_Re_readFigure_31 rfl rfl ?_
      refine q_dup d_Re_readFigure_32 rfl ?_
      refine q_get d_Re_readFigure_33 f_Re_40 h_r rfl ?_
      refine q_iconst (v := 1) d_Re_readFigure_36 (by decide) ?_
      refine q_iadd d_Re_readFigure_37 ?_
      refine x_put d_Re_readFigure_38 f_Re_40 h_r (Nat.le_of_ble_eq_true rfl) rfl rfl (fun hp1 e1 h_r => ?_)
      rw [nI_1] at e1
      refine q_iload_n d_Re_readFigure_41 rfl ?_
      refine q_iret d_Re_readFigure_42 rfl ?_ (Nat.le_of_ble_eq_true rfl) (Nat.le_of_ble_eq_true rfl) (by decide)
      refine ⟨_, by rw [if_pos hk, e2], rfl, ?_⟩
      rw [if_pos hk]
      subst e1
      exact ⟨h.re hp6, F_A.set hp6 _ (by omega)⟩
    · skip
      rw [e2, nI_ltI (by omega) (by omega)] at b21
      have hk : ¬ (48 ≤ cc ∧ cc < 48 + y) := by omega
      refine q_aload_n d_Re_readFigure_24 rfl rfl ?_
      refine q_iconst (v := 1) d_Re_readFigure_25 (by decide) ?_
      refine x_callVr d_Re_readFigure_26 l_Re_63 i_Re_meetFault v_Re_meetFault rfl h_r (c_Re_meetFault hG hp6 h) rfl rfl (Nat.le_of_ble_eq_true rfl) (Nat.le_of_ble_eq_true rfl) (Nat.le_of_ble_eq_true rfl) (Nat.le_of_ble_eq_true rfl) (fun hpz hz => ?_)
      refine q_iconst (v := (-1)) d_Re_readFigure_29 (by decide) ?_
      refine q_iret d_Re_readFigure_30 rfl ?_ (Nat.le_of_ble_eq_true rfl) (Nat.le_of_ble_eq_true rfl) (by decide)
      refine ⟨hpz, by rw [if_neg hk], rfl, ?_⟩
      rw [if_neg hk]
      exact hz
set_option maxRecDepth 10000 in
set_option maxHeartbeats 2000000 in
theorem c_Re_openText (hG : q_GG g) {p n : Nat} {f : Nat → Int32} {tb : Nat → Nat} {nv np : Nat} {z : Nat → Nat} {S : x_S} {hp : List va_E} (hp6 : p < 6) (h : X_A p n f nv np z S hp) (hok : x_ok n S) : q_C g m_Re_openText true (q_R 2 26 0 0) [.ref 37] hp (q_ho none (fun hp2 => X_A p n f nv np z (if 12 ≤ x_d S then x_mf 3 S else x_bt (x_d S + 1, x_a S + 1, x_k S, x_p S, x_ch S, x_rw S, x_ac S, x_C S)) hp2 ∧ F_A p hp hp2)) := by
  refine q_C.of hG (by decide) (Nat.le_of_ble_eq_true rfl) ?_
  have h_r := h.1
  have hd := hok.1
  refine q_aload_n d_Re_openText_0 rfl rfl ?_
  refine q_get d_Re_openText_1 f_Re_43 h_r rfl ?_
  refine q_bipush (v := 12) d_Re_openText_4 (by decide) ?_
  refine q_icmp_lt (tgt := 15) d_Re_openText_6 (by decide) (fun b6 => ?_) (fun b6 => ?_)
  · skip
    have b6 : ¬ 12 ≤ x_d S := fun q => nI_nlt (b := 12) q (by omega) b6
    refine q_aload_n d_Re_openText_15 rfl rfl ?_
    refine q_dup d_Re_openText_16 rfl ?_
    refine q_get d_Re_openText_17 f_Re_40 h_r rfl ?_
    refine q_iconst (v := 1) d_Re_openText_20 (by decide) ?_
    refine q_iadd d_Re_openText_21 ?_
    refine x_put d_Re_openText_22 f_Re_40 h_r (Nat.le_of_ble_eq_true rfl) rfl rfl (fun hp1 e1 h_r => ?_)
    rw [nI_1] at e1 h_r
    refine q_aload_n d_Re_openText_25 rfl rfl ?_
    refine q_dup d_Re_openText_26 rfl ?_
    refine q_get d_Re_openText_27 f_Re_43 h_r rfl ?_
    refine q_iconst (v := 1) d_Re_openText_30 (by decide) ?_
    refine q_iadd d_Re_openText_31 ?_
    refine x_put d_Re_openText_32 f_Re_43 h_r (Nat.le_of_ble_eq_true rfl) rfl rfl (fun hp2 e2 h_r => ?_)
    rw [nI_1] at e2 h_r
    have h2 : X_A p n f nv np z (x_d S + 1, x_a S + 1, x_k S, x_p S, x_ch S, x_rw S, x_ac S, x_C S) hp2 := by
      subst e1; subst e2
      rw [List.set_set]
      exact h.re hp6
    have hF : F_A p hp hp2 := by
      subst e1; subst e2
      exact (F_A.set hp6 _ (by omega)).trans (F_A.set hp6 _ (by omega))
    refine q_aload_n d_Re_openText_35 rfl rfl ?_
    refine x_callVr d_Re_openText_36 l_Re_51 i_Re_beginText v_Re_beginText rfl h2.1 (c_Re_beginText hG hp6 h2 (show x_d S + 1 < 13 by omega)) rfl rfl (Nat.le_of_ble_eq_true rfl) (Nat.le_of_ble_eq_true rfl) (Nat.le_of_ble_eq_true rfl) (Nat.le_of_ble_eq_true rfl) (fun hpz hz => ?_)
    refine q_vret d_Re_openText_39 rfl ?_ (Nat.le_of_ble_eq_true rfl) (Nat.le_of_ble_eq_true rfl) (by decide)
    refine ⟨hpz, rfl, rfl, ?_⟩
    rw [if_neg b6]
    exact ⟨hz.1, hF.trans hz.2⟩
  · skip
    have b6 : 12 ≤ x_d S := Nat.le_of_not_lt fun q => b6 (nI_lt (b := 12) q (by decide))
    refine q_aload_n d_Re_openText_9 rfl rfl ?_
    refine q_iconst (v := 3) d_Re_openText_10 (by decide) ?_
    refine x_callVr d_Re_openText_11 l_Re_63 i_Re_meetFault v_Re_meetFault rfl h_r (c_Re_meetFault hG hp6 h) rfl rfl (Nat.le_of_ble_eq_true rfl) (Nat.le_of_ble_eq_true rfl) (Nat.le_of_ble_eq_true rfl) (Nat.le_of_ble_eq_true rfl) (fun hpz hz => ?_)
    refine q_vret d_Re_openText_14 rfl ?_ (Nat.le_of_ble_eq_true rfl) (Nat.le_of_ble_eq_true rfl) (by decide)
    refine ⟨hpz, rfl, rfl, ?_⟩
    rw [if_pos b6]
    exact hz
/-- a text is closed -/
def x_cl (S : x_S) : x_S := (x_d S - 1, x_a (x_ec (x_at1 S)), x_k (x_ec (x_at1 S)), x_p (x_ec (x_at1 S)), x_ch (x_ec (x_at1 S)), x_rw (x_ec (x_at1 S)), x_ac (x_ec (x_at1 S)), x_C (x_ec (x_at1 S)))
def x_ct (n : Nat) (tb : Nat → Nat) (S : x_S) : x_S := if x_d S = 0 then x_mf 1 S else x_add n tb (some (x_d S)) (x_cl S)
theorem p_or_ok {s t : p_T} (hs : p_ok s) (ht : p_ok t) : p_ok (p_or s t) := ⟨Nat.or_lt_two_pow (n := 1) hs.1 ht.1, or_lt hs.2.1 ht.2.1, or_lt hs.2.2 ht.2.2⟩
theorem x_ok.ec {n : Nat} {S : x_S} (h : x_ok n S) : x_ok n (x_ec S) := by
  obtain ⟨h1, h2, h3, h4, h5⟩ := h
  refine ⟨h1, h2, fun i hi => ⟨?_, ?_⟩, h4, h5⟩
  · show p_ok (va_up _ _ _ i)
    unfold va_up
    split
    · exact p_or_ok (h3 _ h1).1 (h3 _ h1).2
    · exact (h3 i hi).1
  · show p_ok (va_up _ _ _ i)
    unfold va_up
    split
    · exact ⟨by decide, by decide, by decide⟩
    · exact (h3 i hi).2
theorem x_ok.bt {n : Nat} {S : x_S} (h : x_ok n S) : x_ok n (x_bt S) := by
  obtain ⟨h1, h2, h3, h4, h5⟩ := h
  refine ⟨h1, h2, fun i hi => ⟨?_, ?_⟩, h4, h5⟩
  · show p_ok (va_up _ _ _ i)
    unfold va_up
    split
    · exact ⟨by decide, by decide, by decide⟩
    · exact (h3 i hi).1
  · show p_ok (va_up _ _ _ i)
    unfold va_up
    split
    · exact ⟨by decide, by decide, by decide⟩
    · exact (h3 i hi).2
theorem x_ok.at1 {n : Nat} {S : x_S} (h : x_ok n S) (ha : x_a S < n) : x_ok n (x_at1 S) := ⟨h.1, ha, h.2.2⟩
theorem x_ok.cl {n : Nat} {S : x_S} (h : x_ok n S) (ha : x_a S < n) : x_ok n (x_cl S) := by
  have h2 := (h.at1 ha).ec
  have hd : x_d S - 1 < 13 := by have := h.1; omega
  exact ⟨hd, h2.2⟩
set_option maxRecDepth 10000 in
set_option maxHeartbeats 2000000 in
theorem c_Re_closeText (hG : q_GG g) {p n : Nat} {f : Nat → Int32} {tb : Nat → Nat} {nv np : Nat} {z : Nat → Nat} {S : x_S} {hp : List va_E} (hp6 : p < 6) (htb : t_ok n f tb) (h : X_A p n f nv np z S hp) (hok : x_ok n S) (ha : x_a S < n) : q_C g m_Re_closeText true (q_R 2 29 0 0) [.ref 37, .ref (7 + 5 * p)] hp (q_ho none (fun hp2 => X_A p n f nv np z (x_ct n tb S) hp2 ∧ F_A p hp hp2)) := by
  refine q_C.of hG (by decide) (Nat.le_of_ble_eq_true rfl) ?_
  have h_r := h.1
  have hd := hok.1
  have hok4 := hok.cl ha
  have hin : vp_in (nI (x_d S)) 13 := vp_in_nI hd (by decide)
  refine q_aload_n d_Re_closeText_0 rfl rfl ?_
  refine q_get d_Re_closeText_1 f_Re_43 h_r rfl ?_
  refine q_if_ne (tgt := 13) d_Re_closeText_4 (by decide) (fun b4 => ?_) (fun b4 => ?_)
  · skip
    have hd0 : x_d S ≠ 0 := fun q => b4 (by rw [q]; rfl)
    refine q_aload_n d_Re_closeText_13 rfl rfl ?_
    refine q_dup d_Re_closeText_14 rfl ?_
    refine q_get d_Re_closeText_15 f_Re_40 h_r rfl ?_
    refine q_iconst (v := 1) d_Re_closeText_18 (by decide) ?_
    refine q_iadd d_Re_closeText_19 ?_
    refine x_put d_Re_closeText_20 f_Re_40 h_r (Nat.le_of_ble_eq_true rfl) rfl rfl (fun hp1 e1 h_r => ?_)
    rw [nI_1] at e1 h_r
    have h2 : X_A p n f nv np z (x_at1 S) hp1 := by rw [e1]; exact h.re hp6
    have hF : F_A p hp hp1 := by rw [e1]; exact F_A.set hp6 _ (by omega)
    refine q_aload_n d_Re_closeText_23 rfl rfl ?_
    refine x_callVr d_Re_closeText_24 l_Re_67 i_Re_endChoice v_Re_endChoice rfl h2.1 (c_Re_endChoice hG hp6 h2 hd (hok.2.2.1 _ hd).1 (hok.2.2.1 _ hd).2) rfl rfl (Nat.le_of_ble_eq_true rfl) (Nat.le_of_ble_eq_true rfl) (Nat.le_of_ble_eq_true rfl) (Nat.le_of_ble_eq_true rfl) (fun hpz hz => ?_)
    have h_r := hz.1.1
    have h_ch := hz.1.2.1
    refine q_aload_n d_Re_closeText_27 rfl rfl ?_
    refine q_get d_Re_closeText_28 f_Re_11 h_r rfl ?_
    refine q_aload_n d_Re_closeText_31 rfl rfl ?_
    refine q_get d_Re_closeText_32 f_Re_43 h_r rfl ?_
    refine q_aald d_Re_closeText_35 h_ch rfl hin (ch_at hd) ?_
    refine q_astore_n d_Re_closeText_36 rfl rfl (by decide) rfl ?_
    refine q_aload_n d_Re_closeText_37 rfl rfl ?_
    refine q_dup d_Re_closeText_38 rfl ?_
    refine q_get d_Re_closeText_39 f_Re_43 h_r rfl ?_
    refine q_iconst (v := 1) d_Re_closeText_42 (by decide) ?_
    refine q_isub d_Re_closeText_43 ?_
    refine x_put d_Re_closeText_44 f_Re_43 h_r (Nat.le_of_ble_eq_true rfl) rfl rfl (fun hp2 e2 h_r => ?_)
    have h4 : X_A p n f nv np z (x_d S - 1, x_a (x_ec (x_at1 S)), x_k (x_ec (x_at1 S)), x_p (x_ec (x_at1 S)), x_ch (x_ec (x_at1 S)), x_rw (x_ec (x_at1 S)), x_ac (x_ec (x_at1 S)), x_C (x_ec (x_at1 S))) hp2 := by
      rw [e2, show nI (x_d (x_ec (x_at1 S))) - 1 = nI (x_d S - 1) from pk_sub (b := 1) (show 1 ≤ x_d S by omega)]
      exact hz.1.re hp6
    have hF2 : F_A p hp hp2 := by rw [e2]; exact (hF.trans hz.2).trans (F_A.set hp6 _ (by omega))
    refine q_aload_n d_Re_closeText_47 rfl rfl ?_
    refine q_aload_n d_Re_closeText_48 rfl rfl ?_
    refine q_aload_n d_Re_closeText_49 rfl rfl ?_
    refine x_callVr (stk := [.ref (41 + 2 * x_d S), .ref (7 + 5 * p), .ref 37]) d_Re_closeText_50 l_Re_87 i_Re_addThing v_Re_addThing rfl h4.1 (c_Re_addThing hG (o := some (x_d S)) hp6 (fun i hi => by cases hi; exact hd) htb h4 hok4) rfl rfl (Nat.le_of_ble_eq_true rfl) (Nat.le_of_ble_eq_true rfl) (Nat.le_of_ble_eq_true rfl) (Nat.le_of_ble_eq_true rfl) (fun hpy hy => ?_)
    refine q_vret d_Re_closeText_53 rfl ?_ (Nat.le_of_ble_eq_true rfl) (Nat.le_of_ble_eq_true rfl) (by decide)
    refine ⟨hpy, rfl, rfl, ?_⟩
    rw [x_ct, if_neg hd0]
    exact ⟨hy.1, hF2.trans hy.2⟩
  · skip
    have hd0 : x_d S = 0 := (nI_eq (b := 0) (by omega) (by decide)).mp b4
    refine q_aload_n d_Re_closeText_7 rfl rfl ?_
    refine q_iconst (v := 1) d_Re_closeText_8 (by decide) ?_
    refine x_callVr d_Re_closeText_9 l_Re_63 i_Re_meetFault v_Re_meetFault rfl h_r (c_Re_meetFault hG hp6 h) rfl rfl (Nat.le_of_ble_eq_true rfl) (Nat.le_of_ble_eq_true rfl) (Nat.le_of_ble_eq_true rfl) (Nat.le_of_ble_eq_true rfl) (fun hpz hz => ?_)
    refine q_vret d_Re_closeText_12 rfl ?_ (Nat.le_of_ble_eq_true rfl) (Nat.le_of_ble_eq_true rfl) (by decide)
    refine ⟨hpz, rfl, rfl, ?_⟩
    rw [x_ct, if_pos hd0]
    exact hz
end C12
