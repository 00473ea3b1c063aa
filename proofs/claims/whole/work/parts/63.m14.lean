/-! the reference: know -/
section M14
variable {g : q_G}
theorem pb_0 : ∀ n x, x < 2 ^ n → (pb_cnt n x = 0 ↔ x = 0) := by
  intro n
  induction n with
  | zero => intro x hx; exact ⟨fun _ => by omega, fun _ => rfl⟩
  | succ n ih =>
    intro x hx
    have h := ih (x / 2) (by rw [Nat.pow_succ] at hx; omega)
    show x % 2 + pb_cnt n (x / 2) = 0 ↔ x = 0
    omega
theorem mv_st {w : w_T} {pl vl : Nat → Nat} (hb : ∀ q, w_op w pl vl q (c_n (w_c w q) - 1) < 2 ^ 13) : ∀ q, w_mv w pl vl q = 0 ↔ w_st w pl vl q = true := by
  intro q
  induction q with
  | zero => exact ⟨fun _ => rfl, fun _ => rfl⟩
  | succ q ih =>
    have h := pb_0 13 _ (hb q)
    show w_mv w pl vl q + pb_cnt 13 (w_op w pl vl q (c_n (w_c w q) - 1)) = 0 ↔ (w_st w pl vl q && decide (w_op w pl vl q (c_n (w_c w q) - 1) = 0)) = true
    rw [Bool.and_eq_true, decide_eq_true_eq, ← ih, ← h]
    omega
theorem mv_st1 {w : w_T} {pl vl : Nat → Nat} (hok : w_ok w) (n : Nat) (hn : n ≤ 6) : w_mv w pl vl n = 0 ↔ w_st w pl vl n = true := by
  have e : ∀ q, q ≤ 6 → (w_mv w pl vl q = 0 ↔ w_st w pl vl q = true) := by
    intro q
    induction q with
    | zero => exact fun _ => ⟨fun _ => rfl, fun _ => rfl⟩
    | succ q ih =>
      intro hq
      have hb : w_op w pl vl q (c_n (w_c w q) - 1) < 2 ^ 13 := Nat.lt_of_lt_of_le (w_op_lt w pl vl q _) (Nat.pow_le_pow_right (by decide) (by have := (hok.2.2.2 q (by omega)).2.1; have := (hok.2.2.2 q (by omega)).1; omega))
      have h := pb_0 13 _ hb
      show w_mv w pl vl q + pb_cnt 13 (w_op w pl vl q (c_n (w_c w q) - 1)) = 0 ↔ (w_st w pl vl q && decide (w_op w pl vl q (c_n (w_c w q) - 1) = 0)) = true
      rw [Bool.and_eq_true, decide_eq_true_eq, ← ih (by omega), ← h]
      omega
  exact e n hn
/-- the stuck states found -/
abbrev f_F (w : w_T) (sn : Nat → Bool) : Nat → Bool := fun k => sn k && N_st w k
abbrev f_E (w : w_T) (sn : Nat → Bool) : Nat → Bool := fun k => f_F w sn k && N_ae w k
def K_M (w : w_T) (m : Nat → Int32) (A : Nat → Nat → Int32) : Prop := ∃ sn : Nat → Bool, (∀ k, sn k = true ↔ rr_R (w_S w) (w_0 w) k) ∧ m 39 = nI (cn (f_F w sn) (w_q w)) ∧ m 40 = nI (cn (f_E w sn) (w_q w)) ∧ ∀ k, k < w_q w → f_F w sn k = true → A 24 (cn (f_F w sn) k) = nI k
theorem K_M.keep {w : w_T} {m m' : Nat → Int32} {A A' : Nat → Nat → Int32} (h : K_M w m A) (e1 : m' 39 = m 39) (e2 : m' 40 = m 40) (e3 : A' 24 = A 24) : K_M w m' A' := by
  obtain ⟨sn, a, b, c, d⟩ := h
  exact ⟨sn, a, e1.trans b, e2.trans c, by rw [e3]; exact d⟩
theorem m_ae1 {w : w_T} {pl : Nat → Nat} {q : Nat} (h1 : w_ae w pl q = true) (h2 : (c_e (w_c w q)).testBit (pl q) = true) : w_ae w pl (q + 1) = true := by
  show (w_ae w pl q && (c_e (w_c w q)).testBit (pl q)) = true
  rw [h1, h2]
  rfl
theorem m_ae2 {w : w_T} {pl : Nat → Nat} {q : Nat} (h1 : ¬ w_ae w pl q = true) : ¬ w_ae w pl (q + 1) = true := by
  intro h
  have h : (w_ae w pl q && (c_e (w_c w q)).testBit (pl q)) = true := h
  rw [Bool.and_eq_true] at h
  exact h1 h.1
theorem m_ae3 {w : w_T} {pl : Nat → Nat} {q : Nat} (h2 : ¬ (c_e (w_c w q)).testBit (pl q) = true) : ¬ w_ae w pl (q + 1) = true := by
  intro h
  have h : (w_ae w pl q && (c_e (w_c w q)).testBit (pl q)) = true := h
  rw [Bool.and_eq_true] at h
  exact h2 h.2
set_option maxRecDepth 10000 in
set_option maxHeartbeats 2000000 in
theorem l_Mo_knE (hG : q_GG g) {b hp : List va_E} {m : Nat → Int32} {A : Nat → Nat → Int32} {w : w_T} {pl vl : Nat → Nat} {P : Outcome → List va_E → Prop} {y1 y2 : Int32} (hA : M_A b m A hp) (hmk : w_mk w) (hW : W_M w m A) (hst : st_M w pl vl (A 20)) (hpl : ∀ q, q < w_p w → pl q < c_n (w_c w q)) (hout : ∀ z4, q_J g m_Mo_know true (q_R 2 80 0 0) P 184 [some (.ref 84), some (.int y1), some (.int y2), some (.int (if w_ae w pl (w_p w) = true then 1 else 0)), z4] [] hp 0 0 true) : ∀ (c q : Nat), q + c = w_p w → q_J g m_Mo_know true (q_R 2 80 0 0) P 138 [some (.ref 84), some (.int y1), some (.int y2), some (.int (if w_ae w pl q = true then 1 else 0)), some (.int (nI q))] [] hp 0 0 true := by
  have hp6 := hmk.1.2.1
  have v8 := hW.2.1
  have a4 : A 4 = A 4 := rfl
  have a20 : A 20 = A 20 := rfl
  intro c
  induction c with
  | zero =>
    intro q hq
    refine q_iload d_Mo_know_138 rfl ?_
    refine q_aload_n d_Mo_know_140 rfl rfl ?_
    refine q_get d_Mo_know_141 f_Mo_111 hA.1 rfl ?_
    rw [v8]
    refine q_icmp_ge (tgt := 184) d_Mo_know_144 (by decide) (fun b144 => ?_) (fun b144 => ?_)
    · skip
      rw [show q = w_p w by omega]
      exact hout _
    · skip
      exact absurd (nI_le (by omega) (by omega)) b144
  | succ c ih =>
    intro q hq
    have hcc := hmk.1.2.2.2 q (by omega)
    have hpq := hpl q (by omega)
    have hc13 := hcc.2.1
    have hce := hcc.2.2.1
    have hin6 : vp_in (nI q) 6 := vp_in_nI (by omega) (by decide)
    have hin11 : vp_in (nI q) 11 := vp_in_nI (by omega) (by decide)
    have hcl : (nI q).toNatClampNeg = q := nI_clamp (by omega)
    refine q_iload d_Mo_know_138 rfl ?_
    refine q_aload_n d_Mo_know_140 rfl rfl ?_
    refine q_get d_Mo_know_141 f_Mo_111 hA.1 rfl ?_
    rw [v8]
    refine q_icmp_ge (tgt := 184) d_Mo_know_144 (by decide) (fun b144 => ?_) (fun b144 => ?_)
    · skip
      exact absurd b144 (nI_ge (by omega) (by omega))
    · skip
      refine q_join (pc' := 177) (st' := []) (if w_ae w pl (q + 1) = true then 1 else 0) (fun x177 hx177 => ?_) (fun J177 => ?_)
      · subst hx177
        refine q_istore_n d_Mo_know_177 rfl (by decide) rfl ?_
        refine q_iinc d_Mo_know_178 rfl (show _ + Int32.ofInt 1 = _ + 1 from rfl) (by decide) rfl ?_
        refine q_goto (tgt := 138) d_Mo_know_181 (by decide) ?_
        rw [nI_1]
        exact ih (q + 1) (by omega)
      · skip
        refine q_iload_n d_Mo_know_147 rfl ?_
        refine q_if_eq (tgt := 176) d_Mo_know_148 (by decide) (fun b148 => ?_) (fun b148 => ?_)
        · skip
          have h1 : ¬ w_ae w pl q = true := fun h => by rw [if_pos h] at b148; exact absurd b148 (by decide)
          refine q_iconst (v := 0) d_Mo_know_176 (by decide) ?_
          exact J177 _ (by first | (rw [if_pos (m_ae1 h1 h2)]) | (rw [if_neg (m_ae2 h1)]) | (rw [if_neg (m_ae3 h2)]))
        · skip
          have h1 : w_ae w pl q = true := Classical.byContradiction (fun h => b148 (by rw [if_neg h]))
          refine q_aload_n d_Mo_know_151 rfl rfl ?_
          refine q_get d_Mo_know_152 f_Mo_26 hA.1 rfl ?_
          refine q_iload d_Mo_know_155 rfl ?_
          refine q_iald d_Mo_know_157 hA.a4 rfl hin6 ?_
          rw [a4]
          rw [hcl, (hW.2.2.2 q (by omega)).2.1]
          refine q_aload_n d_Mo_know_158 rfl rfl ?_
          refine q_get d_Mo_know_159 f_Mo_75 hA.1 rfl ?_
          refine q_iload d_Mo_know_162 rfl ?_
          refine q_iald d_Mo_know_164 hA.a20 rfl hin11 ?_
          rw [a20]
          rw [hcl, hst.1 q (by omega)]
          refine q_ishr d_Mo_know_165 ?_
          refine q_iconst (v := 1) d_Mo_know_166 (by decide) ?_
          refine q_iand d_Mo_know_167 ?_
          refine q_iconst (v := 1) d_Mo_know_168 (by decide) ?_
          refine q_icmp_ne (tgt := 176) d_Mo_know_169 (by decide) (fun b169 => ?_) (fun b169 => ?_)
          · skip
            have h2 : ¬ (c_e (w_c w q)).testBit (pl q) = true := fun h => b169 ((tb_31 (by omega) (by omega)).mpr h)
            refine q_iconst (v := 0) d_Mo_know_176 (by decide) ?_
            exact J177 _ (by first | (rw [if_pos (m_ae1 h1 h2)]) | (rw [if_neg (m_ae2 h1)]) | (rw [if_neg (m_ae3 h2)]))
          · skip
            have h2 : (c_e (w_c w q)).testBit (pl q) = true := (tb_31 (by omega) (by omega)).mp b169
            refine q_iconst (v := 1) d_Mo_know_172 (by decide) ?_
            refine q_goto (tgt := 177) d_Mo_know_173 (by decide) ?_
            exact J177 _ (by first | (rw [if_pos (m_ae1 h1 h2)]) | (rw [if_neg (m_ae2 h1)]) | (rw [if_neg (m_ae3 h2)]))
theorem cn_st1 {M : Nat → Bool} {i : Nat} (h : M i = true) : cn M (i + 1) = cn M i + 1 := by
  show cn M i + (if M i then 1 else 0) = _
  rw [h]
  rfl
theorem cn_st0 {M : Nat → Bool} {i : Nat} (h : M i = false) : cn M (i + 1) = cn M i := by
  show cn M i + (if M i then 1 else 0) = _
  rw [h]
  rfl
theorem cn_mono {M : Nat → Bool} {i : Nat} : ∀ k, cn M i ≤ cn M (i + k) := by
  intro k
  induction k with
  | zero => exact Nat.le_refl _
  | succ k ih => exact Nat.le_trans ih (Nat.le_add_right _ _)
theorem cn_lt2 {M : Nat → Bool} {k i : Nat} (h : k < i) (hk : M k = true) : cn M k < cn M i := by
  have h1 := cn_st1 hk
  have h2 := cn_mono (M := M) (i := k + 1) (i - (k + 1))
  rw [show k + 1 + (i - (k + 1)) = i by omega] at h2
  omega
set_option maxRecDepth 10000 in
set_option maxHeartbeats 2000000 in
theorem l_Mo_knN (hG : q_GG g) {b : List va_E} {m0 : Nat → Int32} {A0 : Nat → Nat → Int32} {w : w_T} {sn : Nat → Bool} (hmk : w_mk w) (hW0 : W_M w m0 A0) (hN : w_q w ≤ 30000) (hsn : ∀ k, sn k = true ↔ rr_R (w_S w) (w_0 w) k) : ∀ (c i : Nat), i + c = w_q w → ∀ (m : Nat → Int32) (A : Nat → Nat → Int32) (hp : List va_E) (z3 z4 : Option Value), M_A b m A hp → mo_K [0, 37, 39, 40] m0 m → mo_K [20, 21, 22, 23, 24] A0 A → m 39 = nI (cn (f_F w sn) i) → m 40 = nI (cn (f_E w sn) i) → (∀ k, k < i → f_F w sn k = true → A 24 (cn (f_F w sn) k) = nI k) → (∀ k, k < 30001 → A 22 k = nI (if sn k = true then 1 else 0)) → q_J g m_Mo_know true (q_R 2 80 0 0) (q_mo none b (fun m' A' => m' 37 = 1 ∧ K_M w m' A' ∧ mo_K [0, 37, 39, 40] m0 m' ∧ mo_K [20, 21, 22, 23, 24] A0 A')) 87 [some (.ref 84), some (.int (nI (w_q w))), some (.int (nI i)), z3, z4] [] hp 0 0 true := by
  have hp6 := hmk.1.2.1
  intro c
  induction c with
  | zero =>
    intro i hi m A hp z3 z4 hA km kA v39 v40 hfd hsn2
    have hie : i = w_q w := by omega
    refine q_iload_n d_Mo_know_87 rfl ?_
    refine q_iload_n d_Mo_know_88 rfl ?_
    refine q_icmp_ge (tgt := 211) d_Mo_know_89 (by decide) (fun b89 => ?_) (fun b89 => ?_)
    · skip
      refine q_aload_n d_Mo_know_211 rfl rfl ?_
      refine q_iconst (v := 1) d_Mo_know_212 (by decide) ?_
      refine x_put d_Mo_know_213 f_Mo_98 hA.1 (Nat.le_of_ble_eq_true rfl) rfl rfl (fun hp1 e1 _ => ?_)
      obtain ⟨m, hA, v37, nn⟩ := hA.put (k := 37) (by decide) e1
      have v39 := (nn 39 (by decide)).trans v39
      have v40 := (nn 40 (by decide)).trans v40
      have km := km.put nn (by decide)
      refine q_vret d_Mo_know_216 rfl ?_ (Nat.le_of_ble_eq_true rfl) (Nat.le_of_ble_eq_true rfl) (by decide)
      refine ⟨(_, _, _), rfl, rfl, hA, v37, ⟨sn, hsn, ?_, ?_, ?_⟩, km, kA⟩
      · rw [← hie]; exact v39
      · rw [← hie]; exact v40
      · rw [← hie]; exact hfd
    · skip
      exact absurd (nI_le (by omega) (by omega)) b89
  | succ c ih =>
    intro i hi m A hp z3 z4 hA km kA v39 v40 hfd0 hsn0
    have hs : s_ok w (w_pl w i (fun _ => 0)) (w_vv w i (fun _ => 0)) := w_pl_ok hmk.1 (fun _ _ => by decide)
    have hmv : w_mv w (w_pl w i (fun _ => 0)) (w_vv w i (fun _ => 0)) (w_p w) = 0 ↔ N_st w i = true := mv_st1 hmk.1 _ hp6
    have hci := cn_le (f_F w sn) i
    have hfd := hfd0
    obtain ⟨F22, hF22⟩ : ∃ f, A 22 = f := ⟨_, rfl⟩
    obtain ⟨F24, hF24⟩ : ∃ f, A 24 = f := ⟨_, rfl⟩
    rw [hF22] at hsn0
    rw [hF24] at hfd
    have a22 := hF22
    have a24 := hF24
    refine q_iload_n d_Mo_know_87 rfl ?_
    refine q_iload_n d_Mo_know_88 rfl ?_
    refine q_icmp_ge (tgt := 211) d_Mo_know_89 (by decide) (fun b89 => ?_) (fun b89 => ?_)
    · skip
      exact absurd b89 (nI_ge (by omega) (by omega))
    · skip
      refine q_aload_n d_Mo_know_92 rfl rfl ?_
      refine q_iload_n d_Mo_know_93 rfl ?_
      refine x_callVm d_Mo_know_94 l_Mo_186 i_Mo_apart v_Mo_apart rfl hA.1 (c_Mo_apart hG hA hmk (hW0.keep km kA (by decide) (by decide)) (by omega)) rfl rfl (Nat.le_of_ble_eq_true rfl) (Nat.le_of_ble_eq_true rfl) (Nat.le_of_ble_eq_true rfl) (Nat.le_of_ble_eq_true rfl) (fun m A hp1 hA hz => ?_)
      obtain ⟨hst, nm, nA⟩ := hz
      have hst := hst.nf hmk.1
      have v39 := (nm 39 (by decide)).trans v39
      have v40 := (nm 40 (by decide)).trans v40
      have a22 := (nA 22 (by decide)).trans a22
      have a24 := (nA 24 (by decide)).trans a24
      have km := km.sub nm (by decide)
      have kA := kA.sub nA (by decide)
      refine q_aload_n d_Mo_know_97 rfl rfl ?_
      refine q_get d_Mo_know_98 f_Mo_81 hA.1 rfl ?_
      refine q_iload_n d_Mo_know_101 rfl ?_
      refine q_zald d_Mo_know_102 hA.a22 rfl (vp_in_nI (by omega) (by decide)) ?_
      rw [a22]
      rw [nI_clamp (by omega), hsn0 i (by omega)]
      refine q_if_eq (tgt := 205) d_Mo_know_103 (by decide) (fun b103 => ?_) (fun b103 => ?_)
      · skip
        have h1 : ¬ sn i = true := fun h => by rw [if_pos h] at b103; exact absurd b103 (by decide)
        have hF : f_F w sn i = false := by simp [h1]
        have hE : f_E w sn i = false := by simp [hF]
        refine q_iinc d_Mo_know_205 rfl (show _ + Int32.ofInt 1 = _ + 1 from rfl) (by decide) rfl ?_
        refine q_goto (tgt := 87) d_Mo_know_208 (by decide) ?_
        rw [nI_1]
        have v39 : m 39 = nI (cn (f_F w sn) (i + 1)) := by rw [v39]; exact (congrArg nI (cn_st0 hF)).symm
        have v40 : m 40 = nI (cn (f_E w sn) (i + 1)) := by rw [v40]; exact (congrArg nI (cn_st0 hE)).symm
        exact ih (i + 1) (by omega) m A _ _ _ hA km kA v39 v40 (fun k hk hF2 => by
          by_cases e : k = i
          · subst e; rw [hF] at hF2; cases hF2
          · rw [a24]; exact hfd k (by omega) hF2) (fun k hk => by rw [a22]; exact hsn0 k hk)
      · skip
        have h1 : sn i = true := Classical.byContradiction (fun h => b103 (by rw [if_neg h]; rfl))
        refine q_aload_n d_Mo_know_106 rfl rfl ?_
        refine x_callVm d_Mo_know_107 l_Mo_182 i_Mo_possible v_Mo_possible rfl hA.1 (c_Mo_possible hG hA hmk (hW0.keep km kA (by decide) (by decide)) hst hs.1 hs.2.2) rfl rfl (Nat.le_of_ble_eq_true rfl) (Nat.le_of_ble_eq_true rfl) (Nat.le_of_ble_eq_true rfl) (Nat.le_of_ble_eq_true rfl) (fun m A hp2 hA hz => ?_)
        obtain ⟨nm, nA⟩ := hz
        have hst : st_M w (w_pl w i (fun _ => 0)) (w_vv w i (fun _ => 0)) (A 20) := by rw [nA 20 (by decide)]; exact hst
        have v39 := (nm 39 (by decide)).trans v39
        have v40 := (nm 40 (by decide)).trans v40
        have a22 := (nA 22 (by decide)).trans a22
        have a24 := (nA 24 (by decide)).trans a24
        have km := km.sub nm (by decide)
        have kA := kA.sub nA (by decide)
        refine q_if_ne (tgt := 205) d_Mo_know_110 (by decide) (fun b110 => ?_) (fun b110 => ?_)
        · skip
          have h2 : ¬ N_st w i = true := fun h => b110 (by rw [hmv.mpr h]; rfl)
          have hF : f_F w sn i = false := by simp [h2]
          have hE : f_E w sn i = false := by simp [hF]
          refine q_iinc d_Mo_know_205 rfl (show _ + Int32.ofInt 1 = _ + 1 from rfl) (by decide) rfl ?_
          refine q_goto (tgt := 87) d_Mo_know_208 (by decide) ?_
          rw [nI_1]
          have v39 : m 39 = nI (cn (f_F w sn) (i + 1)) := by rw [v39]; exact (congrArg nI (cn_st0 hF)).symm
          have v40 : m 40 = nI (cn (f_E w sn) (i + 1)) := by rw [v40]; exact (congrArg nI (cn_st0 hE)).symm
          exact ih (i + 1) (by omega) m A _ _ _ hA km kA v39 v40 (fun k hk hF2 => by
            by_cases e : k = i
            · subst e; rw [hF] at hF2; cases hF2
            · rw [a24]; exact hfd k (by omega) hF2) (fun k hk => by rw [a22]; exact hsn0 k hk)
        · skip
          have h2 : N_st w i = true := hmv.mp (m_n0 (by have := mv_bd (w := w) (pl := w_pl w i (fun _ => 0)) (vl := w_vv w i (fun _ => 0)) (w_p w); omega) b110)
          have hF : f_F w sn i = true := by simp [h1, h2]
          refine q_aload_n d_Mo_know_113 rfl rfl ?_
          refine q_get d_Mo_know_114 f_Mo_87 hA.1 rfl ?_
          refine q_aload_n d_Mo_know_117 rfl rfl ?_
          refine q_get d_Mo_know_118 f_Mo_200 hA.1 rfl ?_
          rw [v39]
          refine q_iload_n d_Mo_know_121 rfl ?_
          refine x_iast d_Mo_know_122 hA.a24 rfl (vp_in_nI (by omega) (by decide)) (fun hp3 e3 _ => ?_)
          obtain ⟨A, hA, u24, nn⟩ := hA.st24 e3
          rw [a24] at u24
          rw [nI_clamp (by omega)] at u24
          have nn20 := nn 20 (by decide)
          have a24 := u24
          have a22 := (nn 22 (by decide)).trans a22
          have kA := kA.put nn (by decide)
          refine q_aload_n d_Mo_know_123 rfl rfl ?_
          refine q_dup d_Mo_know_124 rfl ?_
          refine q_get d_Mo_know_125 f_Mo_200 hA.1 rfl ?_
          rw [v39]
          refine q_iconst (v := 1) d_Mo_know_128 (by decide) ?_
          refine q_iadd d_Mo_know_129 ?_
          refine x_put d_Mo_know_130 f_Mo_200 hA.1 (Nat.le_of_ble_eq_true rfl) rfl rfl (fun hp4 e4 _ => ?_)
          obtain ⟨m, hA, v39, nn⟩ := hA.put (k := 39) (by decide) e4
          rw [nI_1] at v39
          have v40 := (nn 40 (by decide)).trans v40
          have km := km.put nn (by decide)
          refine q_iconst (v := 1) d_Mo_know_133 (by decide) ?_
          refine q_istore_n d_Mo_know_134 rfl (by decide) rfl ?_
          refine q_iconst (v := 0) d_Mo_know_135 (by decide) ?_
          refine q_istore d_Mo_know_136 (by decide) rfl ?_
          have hst : st_M w (w_pl w i (fun _ => 0)) (w_vv w i (fun _ => 0)) (A 20) := by rw [nn20]; exact hst
          have hfd3 : ∀ k, k < i + 1 → f_F w sn k = true → A 24 (cn (f_F w sn) k) = nI k := fun k hk hF2 => by
            rw [a24]
            by_cases e : k = i
            · subst e
              exact m_upd
            · rw [upd_ne (by have := cn_lt2 (M := f_F w sn) (show k < i by omega) hF2; omega)]
              exact hfd k (by omega) hF2
          have hsn3 : ∀ k, k < 30001 → A 22 k = nI (if sn k = true then 1 else 0) := fun k hk => by rw [a22]; exact hsn0 k hk
          refine l_Mo_knE hG (pl := w_pl w i (fun _ => 0)) (vl := w_vv w i (fun _ => 0)) hA hmk (hW0.keep km kA (by decide) (by decide)) hst hs.1 (fun z4 => ?_) (w_p w) 0 (by omega)
          refine q_aload_n d_Mo_know_184 rfl rfl ?_
          refine q_iload_n d_Mo_know_185 rfl ?_
          refine q_if_eq (tgt := 198) d_Mo_know_186 (by decide) (fun b186 => ?_) (fun b186 => ?_)
          · skip
            have hE : f_E w sn i = false := by
              have h9 : ¬ N_ae w i = true := fun h => by rw [if_pos (show w_ae w (w_pl w i (fun _ => 0)) (w_p w) = true from h)] at b186; exact absurd b186 (by decide)
              simp [h9]
            refine q_aload_n d_Mo_know_198 rfl rfl ?_
            refine q_get d_Mo_know_199 f_Mo_203 hA.1 rfl ?_
            rw [v40]
            refine x_put d_Mo_know_202 f_Mo_203 hA.1 (Nat.le_of_ble_eq_true rfl) rfl rfl (fun hp91 e91 _ => ?_)
            obtain ⟨m, hA, v40, nn⟩ := hA.put (k := 40) (by decide) e91
            try rw [nI_1] at v40
            have v39 := (nn 39 (by decide)).trans v39
            have km := km.put nn (by decide)
            refine q_iinc d_Mo_know_205 rfl (show _ + Int32.ofInt 1 = _ + 1 from rfl) (by decide) rfl ?_
            refine q_goto (tgt := 87) d_Mo_know_208 (by decide) ?_
            rw [nI_1]
            have v39 : m 39 = nI (cn (f_F w sn) (i + 1)) := by rw [v39]; exact (congrArg nI (cn_st1 hF)).symm
            have v40 : m 40 = nI (cn (f_E w sn) (i + 1)) := by first | (rw [v40]; exact (congrArg nI (cn_st1 hE)).symm) | (rw [v40]; exact (congrArg nI (cn_st0 hE)).symm)
            exact ih (i + 1) (by omega) m A _ _ _ hA km kA v39 v40 hfd3 hsn3
          · skip
            have hE : f_E w sn i = true := by
              have h9 : N_ae w i = true := Classical.byContradiction (fun h => b186 (by rw [if_neg (show ¬ w_ae w (w_pl w i (fun _ => 0)) (w_p w) = true from h)]))
              show (f_F w sn i && N_ae w i) = true
              rw [hF, h9]
              rfl
            refine q_aload_n d_Mo_know_189 rfl rfl ?_
            refine q_get d_Mo_know_190 f_Mo_203 hA.1 rfl ?_
            rw [v40]
            refine q_iconst (v := 1) d_Mo_know_193 (by decide) ?_
            refine q_iadd d_Mo_know_194 ?_
            refine q_goto (tgt := 202) d_Mo_know_195 (by decide) ?_
            refine x_put d_Mo_know_202 f_Mo_203 hA.1 (Nat.le_of_ble_eq_true rfl) rfl rfl (fun hp92 e92 _ => ?_)
            obtain ⟨m, hA, v40, nn⟩ := hA.put (k := 40) (by decide) e92
            try rw [nI_1] at v40
            have v39 := (nn 39 (by decide)).trans v39
            have km := km.put nn (by decide)
            refine q_iinc d_Mo_know_205 rfl (show _ + Int32.ofInt 1 = _ + 1 from rfl) (by decide) rfl ?_
            refine q_goto (tgt := 87) d_Mo_know_208 (by decide) ?_
            rw [nI_1]
            have v39 : m 39 = nI (cn (f_F w sn) (i + 1)) := by rw [v39]; exact (congrArg nI (cn_st1 hF)).symm
            have v40 : m 40 = nI (cn (f_E w sn) (i + 1)) := by first | (rw [v40]; exact (congrArg nI (cn_st1 hE)).symm) | (rw [v40]; exact (congrArg nI (cn_st0 hE)).symm)
            exact ih (i + 1) (by omega) m A _ _ _ hA km kA v39 v40 hfd3 hsn3
def kn0 (nv i : Nat) (s f : Nat → Int32) : Nat → Int32 := fun j => if j < i then (if j < 6 ∨ nv ≤ j - 6 then 0 else s (j - 6)) else f j
theorem kn0_s {nv i : Nat} {s f : Nat → Int32} : upd (kn0 nv i s f) i (if i < 6 ∨ nv ≤ i - 6 then 0 else s (i - 6)) = kn0 nv (i + 1) s f := by
  funext j
  unfold upd kn0
  by_cases h : j = i
  · subst h
    rw [if_pos rfl, if_pos (Nat.lt_succ_self _)]
  · rw [if_neg h]
    by_cases q : j < i
    · rw [if_pos q, if_pos (show j < i + 1 by omega)]
    · rw [if_neg q, if_neg (show ¬ j < i + 1 by omega)]
theorem kn0_0 {nv : Nat} {s f : Nat → Int32} : kn0 nv 0 s f = f := by
  funext j
  unfold kn0
  rw [if_neg (by omega)]
theorem m_s6 {i : Nat} (h : 6 ≤ i) : nI i - 6 = nI (i - 6) := by
  obtain ⟨k, rfl⟩ : ∃ k, i = 6 + k := ⟨i - 6, by omega⟩
  rw [← nI_add, show (6 : Int32) = nI 6 from rfl, show 6 + k - 6 = k by omega]
  grind
set_option maxRecDepth 10000 in
set_option maxHeartbeats 2000000 in
theorem l_Mo_kn0 (hG : q_GG g) {b : List va_E} {m0 : Nat → Int32} {A0 : Nat → Nat → Int32} {w : w_T} {m : Nat → Int32} (hmk : w_mk w) (hW0 : W_M w m0 A0) (hN : w_q w ≤ 30000) (h0q : w_0 w < w_q w) (v5 : m 5 = nI (w_n w)) (km : mo_K [0, 37, 39, 40] m0 m) : ∀ (c i : Nat), i + c = 11 → ∀ (A : Nat → Nat → Int32) (hp : List va_E), M_A b m A hp → A 2 = A0 2 → A 20 = kn0 (w_n w) i (A0 2) (A0 20) → mo_K [20, 21, 22, 23, 24] A0 A → q_J g m_Mo_know true (q_R 2 80 0 0) (q_mo none b (fun m' A' => m' 37 = 1 ∧ K_M w m' A' ∧ mo_K [0, 37, 39, 40] m0 m' ∧ mo_K [20, 21, 22, 23, 24] A0 A')) 10 [some (.ref 84), some (.int (nI i)), none, none, none] [] hp 0 0 true := by
  have hn5 := hmk.1.1
  have hp6 := hmk.1.2.1
  intro c
  induction c with
  | zero =>
    intro i hi A hp hA a2 a20 kA
    obtain rfl : i = 11 := by omega
    refine q_iload_n d_Mo_know_10 rfl ?_
    refine q_bipush (v := 11) d_Mo_know_11 (by decide) ?_
    refine q_icmp_ge (tgt := 58) d_Mo_know_13 (by decide) (fun b13 => ?_) (fun b13 => ?_)
    · skip
      refine q_aload_n d_Mo_know_58 rfl rfl ?_
      refine x_callVm d_Mo_know_59 l_Mo_194 i_Mo_product v_Mo_product rfl hA.1 (c_Mo_product hG hmk (hW0.keep km kA (by decide) (by decide)) hA) rfl rfl (Nat.le_of_ble_eq_true rfl) (Nat.le_of_ble_eq_true rfl) (Nat.le_of_ble_eq_true rfl) (Nat.le_of_ble_eq_true rfl) (fun m A hp1 hA hz => ?_)
      obtain ⟨v0, nm, nA⟩ := hz
      have v5 := (nm 5 (by decide)).trans v5
      have a2 := (nA 2 (by decide)).trans a2
      have a20 := (nA 20 (by decide)).trans a20
      have km := km.sub nm (by decide)
      have kA := kA.sub nA (by decide)
      rw [if_pos hN]
      refine q_istore_n d_Mo_know_62 rfl (by decide) rfl ?_
      have hst : st_M w (fun _ => 0) (w_f w) (A 20) := ⟨fun q hq => by
        rw [a20]
        show (if q < 11 then _ else _) = nI 0
        rw [if_pos (by omega), if_pos (Or.inl (by omega))]
        rfl, fun v hv => by
        rw [a20]
        show (if 6 + v < 11 then _ else _) = _
        rw [if_pos (by omega), if_neg (by omega), show 6 + v - 6 = v by omega]
        exact (hW0.2.2.1 v hv).2⟩
      have hvf : ∀ v, v < 5 → w_f w v < w_z w v := fun v hv => (hmk.1.2.2.1 v hv).2.2
      refine q_aload_n d_Mo_know_63 rfl rfl ?_
      refine q_aload_n d_Mo_know_64 rfl rfl ?_
      refine q_aload_n d_Mo_know_65 rfl rfl ?_
      refine q_get d_Mo_know_66 f_Mo_75 hA.1 rfl ?_
      refine x_callV d_Mo_know_69 l_Mo_190 i_Mo_number v_Mo_number rfl hA.1 (c_Mo_number hG hmk hA (hW0.keep km kA (by decide) (by decide)) hA.a20 (pl := fun _ => 0) (vl := w_f w) hst hvf) rfl rfl (Nat.le_of_ble_eq_true rfl) (Nat.le_of_ble_eq_true rfl) (Nat.le_of_ble_eq_true rfl) (Nat.le_of_ble_eq_true rfl) ?_
      refine x_callVm d_Mo_know_72 l_Mo_197 i_Mo_walk v_Mo_walk rfl hA.1 (c_Mo_walk hG hA hmk (hW0.keep km kA (by decide) (by decide)) hN (f0 := w_0 w) h0q) rfl rfl (Nat.le_of_ble_eq_true rfl) (Nat.le_of_ble_eq_true rfl) (Nat.le_of_ble_eq_true rfl) (Nat.le_of_ble_eq_true rfl) (fun m A hp2 hA hz => ?_)
      obtain ⟨⟨sn, hsn2, hsn⟩, nm, nA⟩ := hz
      have v5 := (nm 5 (by decide)).trans v5
      have a2 := (nA 2 (by decide)).trans a2
      have km := km.sub nm (by decide)
      have kA := kA.sub nA (by decide)
      refine q_aload_n d_Mo_know_75 rfl rfl ?_
      refine q_iconst (v := 0) d_Mo_know_76 (by decide) ?_
      refine x_put d_Mo_know_77 f_Mo_200 hA.1 (Nat.le_of_ble_eq_true rfl) rfl rfl (fun hp3 e3 _ => ?_)
      obtain ⟨m, hA, v39, nn⟩ := hA.put (k := 39) (by decide) e3
      have v5 := (nn 5 (by decide)).trans v5
      have km := km.put nn (by decide)
      refine q_aload_n d_Mo_know_80 rfl rfl ?_
      refine q_iconst (v := 0) d_Mo_know_81 (by decide) ?_
      refine x_put d_Mo_know_82 f_Mo_203 hA.1 (Nat.le_of_ble_eq_true rfl) rfl rfl (fun hp4 e4 _ => ?_)
      obtain ⟨m, hA, v40, nn⟩ := hA.put (k := 40) (by decide) e4
      have v5 := (nn 5 (by decide)).trans v5
      have v39 := (nn 39 (by decide)).trans v39
      have km := km.put nn (by decide)
      refine q_iconst (v := 0) d_Mo_know_85 (by decide) ?_
      refine q_istore_n d_Mo_know_86 rfl (by decide) rfl ?_
      exact l_Mo_knN hG hmk hW0 hN hsn (w_q w) 0 (by omega) m A _ _ _ hA km kA v39 v40 (fun k hk => absurd hk (Nat.not_lt_zero k)) hsn2
    · skip
      exact absurd (show (11 : Int32) ≤ nI 11 by decide) b13
  | succ c ih =>
    intro i hi A hp hA a2 a20 kA
    refine q_iload_n d_Mo_know_10 rfl ?_
    refine q_bipush (v := 11) d_Mo_know_11 (by decide) ?_
    refine q_icmp_ge (tgt := 58) d_Mo_know_13 (by decide) (fun b13 => ?_) (fun b13 => ?_)
    · skip
      exact absurd b13 (nI_ge (show i < 11 by omega) (by decide))
    · skip
      refine q_aload_n d_Mo_know_16 rfl rfl ?_
      refine q_get d_Mo_know_17 f_Mo_75 hA.1 rfl ?_
      refine q_iload_n d_Mo_know_20 rfl ?_
      refine q_join (pc' := 51) (st' := [.int (nI i), .ref 105]) (if i < 6 ∨ w_n w ≤ i - 6 then 0 else A0 2 (i - 6)) (fun x51 hx51 => ?_) (fun J51 => ?_)
      · subst hx51
        refine x_iast d_Mo_know_51 hA.a20 rfl (vp_in_nI (show i < 11 by omega) (by decide)) (fun hp1 e1 _ => ?_)
        obtain ⟨A, hA, u20, nn⟩ := hA.st20 e1
        rw [a20] at u20
        rw [nI_clamp (show i < 2 ^ 31 by omega), kn0_s] at u20
        have a20 := u20
        have a2 := (nn 2 (by decide)).trans a2
        have kA := kA.put nn (by decide)
        refine q_iinc d_Mo_know_52 rfl (show _ + Int32.ofInt 1 = _ + 1 from rfl) (by decide) rfl ?_
        refine q_goto (tgt := 10) d_Mo_know_55 (by decide) ?_
        rw [nI_1]
        exact ih (i + 1) (by omega) A _ hA a2 a20 kA
      · skip
        refine q_iload_n d_Mo_know_21 rfl ?_
        refine q_bipush (v := 6) d_Mo_know_22 (by decide) ?_
        refine q_icmp_lt (tgt := 38) d_Mo_know_24 (by decide) (fun b24 => ?_) (fun b24 => ?_)
        · skip
          have h6 : i < 6 := (nI_ltI (b := 6) (by omega) (by decide)).mp b24
          refine q_iconst (v := 0) d_Mo_know_38 (by decide) ?_
          refine q_goto (tgt := 51) d_Mo_know_39 (by decide) ?_
          try rw [nI_clamp (show i - 6 < 2 ^ 31 by omega)]
          exact J51 _ (by first | rw [if_pos (Or.inl h6)] | rw [if_neg (by omega)] | rw [if_pos (Or.inr (by omega))])
        · skip
          have h6 : ¬ i < 6 := fun h => b24 (nI_lt (b := 6) h (by decide))
          refine q_iload_n d_Mo_know_27 rfl ?_
          refine q_bipush (v := 6) d_Mo_know_28 (by decide) ?_
          refine q_isub d_Mo_know_30 ?_
          rw [m_s6 (show 6 ≤ i by omega)]
          refine q_aload_n d_Mo_know_31 rfl rfl ?_
          refine q_get d_Mo_know_32 f_Mo_105 hA.1 rfl ?_
          rw [v5]
          refine q_icmp_lt (tgt := 42) d_Mo_know_35 (by decide) (fun b35 => ?_) (fun b35 => ?_)
          · skip
            have h7 : i - 6 < w_n w := (nI_ltI (by omega) (by omega)).mp b35
            refine q_aload_n d_Mo_know_42 rfl rfl ?_
            refine q_get d_Mo_know_43 f_Mo_20 hA.1 rfl ?_
            refine q_iload_n d_Mo_know_46 rfl ?_
            refine q_bipush (v := 6) d_Mo_know_47 (by decide) ?_
            refine q_isub d_Mo_know_49 ?_
            rw [m_s6 (show 6 ≤ i by omega)]
            refine q_iald d_Mo_know_50 hA.a2 rfl (vp_in_nI (show i - 6 < 5 by omega) (by decide)) ?_
            rw [a2]
            try rw [nI_clamp (show i - 6 < 2 ^ 31 by omega)]
            exact J51 _ (by first | rw [if_pos (Or.inl h6)] | rw [if_neg (by omega)] | rw [if_pos (Or.inr (by omega))])
          · skip
            have h7 : ¬ i - 6 < w_n w := fun h => b35 (nI_lt h (by omega))
            refine q_iconst (v := 0) d_Mo_know_38 (by decide) ?_
            refine q_goto (tgt := 51) d_Mo_know_39 (by decide) ?_
            try rw [nI_clamp (show i - 6 < 2 ^ 31 by omega)]
            exact J51 _ (by first | rw [if_pos (Or.inl h6)] | rw [if_neg (by omega)] | rw [if_pos (Or.inr (by omega))])
set_option maxRecDepth 10000 in
set_option maxHeartbeats 2000000 in
theorem c_Mo_know0 (hG : q_GG g) {b hp : List va_E} {m : Nat → Int32} {A0 : Nat → Nat → Int32} {w : w_T} (hA : M_A b m A0 hp) (hmk : w_mk w) (hW0 : W_M w m A0) (hN : w_q w ≤ 30000) (h0q : w_0 w < w_q w) (v37 : m 37 = 0) : q_C g m_Mo_know true (q_R 2 80 0 0) [.ref 84] hp (q_mo none b (fun m' A' => m' 37 = 1 ∧ K_M w m' A' ∧ mo_K [0, 37, 39, 40] m m' ∧ mo_K [20, 21, 22, 23, 24] A0 A')) := by
  refine q_C.of hG (by decide) (Nat.le_of_ble_eq_true rfl) ?_
  refine q_wrote ?_
  refine q_aload_n d_Mo_know_0 rfl rfl ?_
  refine q_get d_Mo_know_1 f_Mo_98 hA.1 rfl ?_
  rw [v37]
  refine q_if_eq (tgt := 8) d_Mo_know_4 (by decide) (fun b4 => ?_) (fun b4 => ?_)
  · skip
    refine q_iconst (v := 0) d_Mo_know_8 (by decide) ?_
    refine q_istore_n d_Mo_know_9 rfl (by decide) rfl ?_
    exact l_Mo_kn0 hG hmk hW0 hN h0q hW0.1 mo_K.rfl 11 0 (by omega) A0 hp hA rfl kn0_0.symm mo_K.rfl
  · skip
    exact absurd rfl b4
set_option maxRecDepth 10000 in
set_option maxHeartbeats 2000000 in
theorem c_Mo_know1 (hG : q_GG g) {b hp : List va_E} {m : Nat → Int32} {A0 : Nat → Nat → Int32} {w : w_T} (hA : M_A b m A0 hp) (v37 : m 37 = 1) (hK : K_M w m A0) : q_C g m_Mo_know true (q_R 2 80 0 0) [.ref 84] hp (q_mo none b (fun m' A' => m' 37 = 1 ∧ K_M w m' A' ∧ mo_K [0, 37, 39, 40] m m' ∧ mo_K [20, 21, 22, 23, 24] A0 A')) := by
  refine q_C.of hG (by decide) (Nat.le_of_ble_eq_true rfl) ?_
  refine q_wrote ?_
  refine q_aload_n d_Mo_know_0 rfl rfl ?_
  refine q_get d_Mo_know_1 f_Mo_98 hA.1 rfl ?_
  rw [v37]
  refine q_if_eq (tgt := 8) d_Mo_know_4 (by decide) (fun b4 => ?_) (fun b4 => ?_)
  · skip
    exact absurd b4 (by decide)
  · skip
    refine q_vret d_Mo_know_7 rfl ?_ (Nat.le_of_ble_eq_true rfl) (Nat.le_of_ble_eq_true rfl) (by decide)
    exact ⟨(_, _, _), rfl, rfl, hA, v37, hK, mo_K.rfl, mo_K.rfl⟩
end M14
