/-! the reference: goes -/
section M9
theorem pk_pred1 {a : Nat} (h : 1 ≤ a) : nI a - 1 = nI (a - 1) := by
  obtain ⟨k, rfl⟩ : ∃ k, a = k + 1 := ⟨a - 1, by omega⟩
  rw [nI_pred]
  rfl
variable {g : q_G}
/-- a state in a row -/
def st_M (w : w_T) (pl vl : Nat → Nat) (s : Nat → Int32) : Prop := (∀ q, q < w_p w → s q = nI (pl q)) ∧ ∀ v, v < w_n w → s (6 + v) = nI (vl v)
/-- what the reference needs of the world -/
def w_mk (w : w_T) : Prop := w_ok w ∧ w_ky w ∧ (∀ q, q < w_p w → c_bz (w_c w q)) ∧ ∀ v, w_n w ≤ v → v < 5 → w_z w v = 1
def G_P (w : w_T) (vl : Nat → Nat) (q j : Nat) (s t : Nat → Int32) : Prop := (∀ i, i < 11 → i ≠ q → i ≠ 6 + c_v (w_c w q) j → t i = s i) ∧ t q = nI j ∧ (c_v (w_c w q) j < w_n w → t (6 + c_v (w_c w q) j) = nI ((w_oc w vl q j).getD 0)) ∧ (¬ c_v (w_c w q) j < w_n w → t (6 + c_v (w_c w q) j) = s (6 + c_v (w_c w q) j))
theorem w_oc_k {w : w_T} {vl : Nat → Nat} {q j k : Nat} (h : c_k (w_c w q) j = k) : w_oc w vl q j = wo_o k (c_f (w_c w q) j) (vl (c_v (w_c w q) j)) (w_z w (c_v (w_c w q) j)) := by rw [← h]
theorem upd_ne {f : Nat → Int32} {k j : Nat} {x : Int32} (h : ¬ j = k) : upd f k x j = f j := if_neg h
theorem cpy_lt {i j : Nat} {s f : Nat → Int32} (h : j < i) : cpy i s f j = s j := if_pos h
theorem G_no {w : w_T} {pl vl : Nat → Nat} {q j : Nat} (hcan : w_can w pl vl q j = (w_oc w vl q j).isSome) (hoc : w_oc w vl q j = none) : ¬ w_can w pl vl q j = true := by
  rw [hcan, hoc]
  exact Bool.false_ne_true
/-- the row behind a step: with the value, and where it stays as it was -/
theorem G_P.set {w : w_T} {vl : Nat → Nat} {q j y : Nat} {s f t : Nat → Int32} (hq : q < 6) (hv : c_v (w_c w q) j < w_n w) (hy : w_oc w vl q j = some y) (e : t = upd (upd (cpy 11 s f) q (nI j)) (6 + c_v (w_c w q) j) (nI y)) : G_P w vl q j s t := by
  subst e
  refine ⟨fun i h1 h2 h3 => ?_, ?_, fun _ => ?_, fun h => absurd hv h⟩
  · rw [upd_ne h3, upd_ne h2, cpy_lt h1]
  · rw [upd_ne (by omega)]
    exact m_upd
  · rw [hy]
    exact m_upd
theorem G_P.same {w : w_T} {vl : Nat → Nat} {q j : Nat} {s f t : Nat → Int32} (hq : q < 6) (hv5 : c_v (w_c w q) j < 5) (hv : c_v (w_c w q) j < w_n w → s (6 + c_v (w_c w q) j) = nI ((w_oc w vl q j).getD 0)) (e : t = upd (cpy 11 s f) q (nI j)) : G_P w vl q j s t := by
  subst e
  refine ⟨fun i h1 h2 h3 => ?_, m_upd, fun h => ?_, fun h => ?_⟩
  · rw [upd_ne h2, cpy_lt h1]
  · rw [upd_ne (by omega), cpy_lt (by omega)]
    exact hv h
  · rw [upd_ne (by omega), cpy_lt (by omega)]
set_option maxRecDepth 10000 in
set_option maxHeartbeats 2000000 in
theorem l_go_46 (hG : q_GG g) {b hp : List va_E} {m : Nat → Int32} {A0 A : Nat → Nat → Int32} {w : w_T} {pl vl : Nat → Nat} {q j : Nat} {hx : Int32} (hq : q < 6) (hA : M_A b m A hp) (kA : mo_K [21] A0 A) (hbit : (c_s (w_c w q) (pl q)).testBit j = true) (hv5 : c_v (w_c w q) j < 5) (a1 : A 1 = A0 1) (a21 : A 21 = upd (cpy 11 (A0 20) (A0 21)) q (nI j)) (hk : c_k (w_c w q) j = 46) (hhx : c_v (w_c w q) j < w_n w → A0 20 (6 + c_v (w_c w q) j) = nI (vl (c_v (w_c w q) j))) : q_J g m_Mo_goes true (q_R 0 0 0 0) (q_mo (some (.int (if w_can w pl vl q j then 1 else 0))) b (fun m' A' => (w_can w pl vl q j = true → G_P w vl q j (A0 20) (A' 21)) ∧ mo_K [] m m' ∧ mo_K [21] A0 A')) 105 [some (.ref 84), some (.int (nI q)), some (.int (nI j)), some (.int (nI (c_v (w_c w q) j))), some (.int hx), some (.int (nI (c_f (w_c w q) j)))] [.int 0] hp 0 0 true := by
  have hcan : w_can w pl vl q j = (w_oc w vl q j).isSome := by
    unfold w_can
    rw [hbit]
    rfl
  have hin : vp_in (nI (6 + c_v (w_c w q) j)) 11 := vp_in_nI (by omega) (by decide)
  have hcl : (nI (6 + c_v (w_c w q) j)).toNatClampNeg = 6 + c_v (w_c w q) j := nI_clamp (by omega)
  refine q_tableIn (tgt := 140) d_Mo_goes_105 (by decide) (by decide) rfl (by decide) ?_
  have hoc : w_oc w vl q j = some (vl (c_v (w_c w q) j)) := w_oc_k hk
  refine q_iconst (v := 1) d_Mo_goes_140 (by decide) ?_
  refine q_zret d_Mo_goes_141 rfl (by decide) ?_ (Nat.le_of_ble_eq_true rfl) (Nat.le_of_ble_eq_true rfl) (by decide)
  refine ⟨(_, _, _), ?_, rfl, hA, fun _ => G_P.same hq hv5 (fun h => by rw [hoc]; exact hhx h) a21, mo_K.rfl, kA⟩
  rw [hcan, hoc]
  rfl
set_option maxRecDepth 10000 in
set_option maxHeartbeats 2000000 in
theorem l_go_43 (hG : q_GG g) {b hp : List va_E} {m : Nat → Int32} {A0 A : Nat → Nat → Int32} {w : w_T} {pl vl : Nat → Nat} {q j : Nat} {hx : Int32} (hq : q < 6) (hA : M_A b m A hp) (kA : mo_K [21] A0 A) (hbit : (c_s (w_c w q) (pl q)).testBit j = true) (hv5 : c_v (w_c w q) j < 5) (a1 : A 1 = A0 1) (a21 : A 21 = upd (cpy 11 (A0 20) (A0 21)) q (nI j)) (hk : c_k (w_c w q) j = 43) (hv : c_v (w_c w q) j < w_n w) (hhx : hx = nI (vl (c_v (w_c w q) j))) (hx2 : A0 20 (6 + c_v (w_c w q) j) = hx) (hvl : vl (c_v (w_c w q) j) < w_z w (c_v (w_c w q) j)) (hz5 : w_z w (c_v (w_c w q) j) ≤ 5) (ha1 : A0 1 (c_v (w_c w q) j) = nI (w_z w (c_v (w_c w q) j))) : q_J g m_Mo_goes true (q_R 0 0 0 0) (q_mo (some (.int (if w_can w pl vl q j then 1 else 0))) b (fun m' A' => (w_can w pl vl q j = true → G_P w vl q j (A0 20) (A' 21)) ∧ mo_K [] m m' ∧ mo_K [21] A0 A')) 105 [some (.ref 84), some (.int (nI q)), some (.int (nI j)), some (.int (nI (c_v (w_c w q) j))), some (.int hx), some (.int (nI (c_f (w_c w q) j)))] [.int 1] hp 0 0 true := by
  have hcan : w_can w pl vl q j = (w_oc w vl q j).isSome := by
    unfold w_can
    rw [hbit]
    rfl
  have hin : vp_in (nI (6 + c_v (w_c w q) j)) 11 := vp_in_nI (by omega) (by decide)
  have hcl : (nI (6 + c_v (w_c w q) j)).toNatClampNeg = 6 + c_v (w_c w q) j := nI_clamp (by omega)
  refine q_tableIn (tgt := 142) d_Mo_goes_105 (by decide) (by decide) rfl (by decide) ?_
  subst hhx
  have hin5 : vp_in (nI (c_v (w_c w q) j)) 5 := vp_in_nI hv5 (by decide)
  have hcl5 : (nI (c_v (w_c w q) j)).toNatClampNeg = c_v (w_c w q) j := nI_clamp (by omega)
  refine q_aload_n d_Mo_goes_142 rfl rfl ?_
  refine q_get d_Mo_goes_143 f_Mo_78 hA.1 rfl ?_
  refine q_bipush (v := 6) d_Mo_goes_146 (by decide) ?_
  refine q_iload_n d_Mo_goes_148 rfl ?_
  refine q_iadd d_Mo_goes_149 ?_
  rw [show (6 : Int32) = nI 6 from rfl, nI_add]
  refine q_iload d_Mo_goes_150 rfl ?_
  refine q_iconst (v := 1) d_Mo_goes_152 (by decide) ?_
  refine q_iadd d_Mo_goes_153 ?_
  rw [nI_1]
  refine x_iast d_Mo_goes_154 hA.a21 rfl (by assumption) (fun hp1 e1 _ => ?_)
  obtain ⟨A, hA, u21, nn⟩ := hA.st21 e1
  rw [a21] at u21
  rw [hcl] at u21
  have a21 := u21
  have a1 := (nn 1 (by decide)).trans a1
  have kA := kA.put nn (by decide)
  refine q_iload d_Mo_goes_155 rfl ?_
  refine q_aload_n d_Mo_goes_157 rfl rfl ?_
  refine q_get d_Mo_goes_158 f_Mo_17 hA.1 rfl ?_
  refine q_iload_n d_Mo_goes_161 rfl ?_
  refine q_iald d_Mo_goes_162 hA.a1 rfl hin5 ?_
  rw [a1]
  rw [hcl5, ha1]
  refine q_iconst (v := 1) d_Mo_goes_163 (by decide) ?_
  refine q_isub d_Mo_goes_164 ?_
  rw [pk_pred1 (show 1 ≤ w_z w (c_v (w_c w q) j) by omega)]
  refine q_icmp_ge (tgt := 172) d_Mo_goes_165 (by decide) (fun b165 => ?_) (fun b165 => ?_)
  · skip
    have hoc : w_oc w vl q j = none := by
      rw [w_oc_k hk]
      show (if w_z w (c_v (w_c w q) j) - 1 ≤ vl (c_v (w_c w q) j) then none else _) = none
      rw [if_pos ((nI_leI (by omega) (by omega)).mp b165)]
    refine q_iconst (v := 0) d_Mo_goes_172 (by decide) ?_
    refine q_zret d_Mo_goes_173 rfl (by decide) ?_ (Nat.le_of_ble_eq_true rfl) (Nat.le_of_ble_eq_true rfl) (by decide)
    first
      | (refine ⟨(_, _, _), ?_, rfl, hA, fun _ => G_P.set hq hv hoc a21, mo_K.rfl, kA⟩; rw [hcan, hoc]; rfl)
      | (refine ⟨(_, _, _), ?_, rfl, hA, fun h => absurd h (G_no hcan hoc), mo_K.rfl, kA⟩; rw [hcan, hoc]; rfl)
  · skip
    have hoc : w_oc w vl q j = some (vl (c_v (w_c w q) j) + 1) := by
      rw [w_oc_k hk]
      show (if w_z w (c_v (w_c w q) j) - 1 ≤ vl (c_v (w_c w q) j) then none else some (vl (c_v (w_c w q) j) + 1)) = _
      rw [if_neg (fun h => b165 (nI_le h (by omega)))]
    refine q_iconst (v := 1) d_Mo_goes_168 (by decide) ?_
    refine q_goto (tgt := 173) d_Mo_goes_169 (by decide) ?_
    refine q_zret d_Mo_goes_173 rfl (by decide) ?_ (Nat.le_of_ble_eq_true rfl) (Nat.le_of_ble_eq_true rfl) (by decide)
    first
      | (refine ⟨(_, _, _), ?_, rfl, hA, fun _ => G_P.set hq hv hoc a21, mo_K.rfl, kA⟩; rw [hcan, hoc]; rfl)
      | (refine ⟨(_, _, _), ?_, rfl, hA, fun h => absurd h (G_no hcan hoc), mo_K.rfl, kA⟩; rw [hcan, hoc]; rfl)
set_option maxRecDepth 10000 in
set_option maxHeartbeats 2000000 in
theorem l_go_45 (hG : q_GG g) {b hp : List va_E} {m : Nat → Int32} {A0 A : Nat → Nat → Int32} {w : w_T} {pl vl : Nat → Nat} {q j : Nat} {hx : Int32} (hq : q < 6) (hA : M_A b m A hp) (kA : mo_K [21] A0 A) (hbit : (c_s (w_c w q) (pl q)).testBit j = true) (hv5 : c_v (w_c w q) j < 5) (a1 : A 1 = A0 1) (a21 : A 21 = upd (cpy 11 (A0 20) (A0 21)) q (nI j)) (hk : c_k (w_c w q) j = 45) (hv : c_v (w_c w q) j < w_n w) (hhx : hx = nI (vl (c_v (w_c w q) j))) (hx2 : A0 20 (6 + c_v (w_c w q) j) = hx) (hvl : vl (c_v (w_c w q) j) < w_z w (c_v (w_c w q) j)) (hz5 : w_z w (c_v (w_c w q) j) ≤ 5) (ha1 : A0 1 (c_v (w_c w q) j) = nI (w_z w (c_v (w_c w q) j))) : q_J g m_Mo_goes true (q_R 0 0 0 0) (q_mo (some (.int (if w_can w pl vl q j then 1 else 0))) b (fun m' A' => (w_can w pl vl q j = true → G_P w vl q j (A0 20) (A' 21)) ∧ mo_K [] m m' ∧ mo_K [21] A0 A')) 105 [some (.ref 84), some (.int (nI q)), some (.int (nI j)), some (.int (nI (c_v (w_c w q) j))), some (.int hx), some (.int (nI (c_f (w_c w q) j)))] [.int 2] hp 0 0 true := by
  have hcan : w_can w pl vl q j = (w_oc w vl q j).isSome := by
    unfold w_can
    rw [hbit]
    rfl
  have hin : vp_in (nI (6 + c_v (w_c w q) j)) 11 := vp_in_nI (by omega) (by decide)
  have hcl : (nI (6 + c_v (w_c w q) j)).toNatClampNeg = 6 + c_v (w_c w q) j := nI_clamp (by omega)
  refine q_tableIn (tgt := 174) d_Mo_goes_105 (by decide) (by decide) rfl (by decide) ?_
  subst hhx
  refine q_aload_n d_Mo_goes_174 rfl rfl ?_
  refine q_get d_Mo_goes_175 f_Mo_78 hA.1 rfl ?_
  refine q_bipush (v := 6) d_Mo_goes_178 (by decide) ?_
  refine q_iload_n d_Mo_goes_180 rfl ?_
  refine q_iadd d_Mo_goes_181 ?_
  rw [show (6 : Int32) = nI 6 from rfl, nI_add]
  refine q_iload d_Mo_goes_182 rfl ?_
  refine q_iconst (v := 1) d_Mo_goes_184 (by decide) ?_
  refine q_isub d_Mo_goes_185 ?_
  refine x_iast d_Mo_goes_186 hA.a21 rfl (by assumption) (fun hp1 e1 _ => ?_)
  obtain ⟨A, hA, u21, nn⟩ := hA.st21 e1
  rw [a21] at u21
  rw [hcl] at u21
  have a21 := u21
  have a1 := (nn 1 (by decide)).trans a1
  have kA := kA.put nn (by decide)
  refine q_iload d_Mo_goes_187 rfl ?_
  refine q_if_le (tgt := 196) d_Mo_goes_189 (by decide) (fun b189 => ?_) (fun b189 => ?_)
  · skip
    have h0 : vl (c_v (w_c w q) j) = 0 := by
      have := (nI_leI (b := 0) (by omega) (by decide)).mp b189
      omega
    have hoc : w_oc w vl q j = none := by
      rw [w_oc_k hk]
      show (if vl (c_v (w_c w q) j) = 0 then none else _) = none
      rw [if_pos h0]
    refine q_iconst (v := 0) d_Mo_goes_196 (by decide) ?_
    refine q_zret d_Mo_goes_197 rfl (by decide) ?_ (Nat.le_of_ble_eq_true rfl) (Nat.le_of_ble_eq_true rfl) (by decide)
    first
      | (refine ⟨(_, _, _), ?_, rfl, hA, fun _ => G_P.set hq hv hoc a21, mo_K.rfl, kA⟩; rw [hcan, hoc]; rfl)
      | (refine ⟨(_, _, _), ?_, rfl, hA, fun h => absurd h (G_no hcan hoc), mo_K.rfl, kA⟩; rw [hcan, hoc]; rfl)
  · skip
    have h0 : ¬ vl (c_v (w_c w q) j) = 0 := fun h => b189 (by rw [h]; decide)
    have hoc : w_oc w vl q j = some (vl (c_v (w_c w q) j) - 1) := by
      rw [w_oc_k hk]
      show (if vl (c_v (w_c w q) j) = 0 then none else some (vl (c_v (w_c w q) j) - 1)) = _
      rw [if_neg h0]
    rw [pk_pred1 (show 1 ≤ vl (c_v (w_c w q) j) by omega)] at a21
    refine q_iconst (v := 1) d_Mo_goes_192 (by decide) ?_
    refine q_goto (tgt := 197) d_Mo_goes_193 (by decide) ?_
    refine q_zret d_Mo_goes_197 rfl (by decide) ?_ (Nat.le_of_ble_eq_true rfl) (Nat.le_of_ble_eq_true rfl) (by decide)
    first
      | (refine ⟨(_, _, _), ?_, rfl, hA, fun _ => G_P.set hq hv hoc a21, mo_K.rfl, kA⟩; rw [hcan, hoc]; rfl)
      | (refine ⟨(_, _, _), ?_, rfl, hA, fun h => absurd h (G_no hcan hoc), mo_K.rfl, kA⟩; rw [hcan, hoc]; rfl)
set_option maxRecDepth 10000 in
set_option maxHeartbeats 2000000 in
theorem l_go_61 (hG : q_GG g) {b hp : List va_E} {m : Nat → Int32} {A0 A : Nat → Nat → Int32} {w : w_T} {pl vl : Nat → Nat} {q j : Nat} {hx : Int32} (hq : q < 6) (hA : M_A b m A hp) (kA : mo_K [21] A0 A) (hbit : (c_s (w_c w q) (pl q)).testBit j = true) (hv5 : c_v (w_c w q) j < 5) (a1 : A 1 = A0 1) (a21 : A 21 = upd (cpy 11 (A0 20) (A0 21)) q (nI j)) (hk : c_k (w_c w q) j = 61) (hv : c_v (w_c w q) j < w_n w) (hhx : hx = nI (vl (c_v (w_c w q) j))) (hx2 : A0 20 (6 + c_v (w_c w q) j) = hx) (hvl : vl (c_v (w_c w q) j) < w_z w (c_v (w_c w q) j)) (hz5 : w_z w (c_v (w_c w q) j) ≤ 5) (ha1 : A0 1 (c_v (w_c w q) j) = nI (w_z w (c_v (w_c w q) j))) : q_J g m_Mo_goes true (q_R 0 0 0 0) (q_mo (some (.int (if w_can w pl vl q j then 1 else 0))) b (fun m' A' => (w_can w pl vl q j = true → G_P w vl q j (A0 20) (A' 21)) ∧ mo_K [] m m' ∧ mo_K [21] A0 A')) 105 [some (.ref 84), some (.int (nI q)), some (.int (nI j)), some (.int (nI (c_v (w_c w q) j))), some (.int hx), some (.int (nI (c_f (w_c w q) j)))] [.int 3] hp 0 0 true := by
  have hcan : w_can w pl vl q j = (w_oc w vl q j).isSome := by
    unfold w_can
    rw [hbit]
    rfl
  have hin : vp_in (nI (6 + c_v (w_c w q) j)) 11 := vp_in_nI (by omega) (by decide)
  have hcl : (nI (6 + c_v (w_c w q) j)).toNatClampNeg = 6 + c_v (w_c w q) j := nI_clamp (by omega)
  refine q_tableIn (tgt := 198) d_Mo_goes_105 (by decide) (by decide) rfl (by decide) ?_
  have hoc : w_oc w vl q j = some (c_f (w_c w q) j) := w_oc_k hk
  refine q_aload_n d_Mo_goes_198 rfl rfl ?_
  refine q_get d_Mo_goes_199 f_Mo_78 hA.1 rfl ?_
  refine q_bipush (v := 6) d_Mo_goes_202 (by decide) ?_
  refine q_iload_n d_Mo_goes_204 rfl ?_
  refine q_iadd d_Mo_goes_205 ?_
  rw [show (6 : Int32) = nI 6 from rfl, nI_add]
  refine q_iload d_Mo_goes_206 rfl ?_
  refine x_iast d_Mo_goes_208 hA.a21 rfl (by assumption) (fun hp1 e1 _ => ?_)
  obtain ⟨A, hA, u21, nn⟩ := hA.st21 e1
  rw [a21] at u21
  rw [hcl] at u21
  have a21 := u21
  have a1 := (nn 1 (by decide)).trans a1
  have kA := kA.put nn (by decide)
  refine q_iconst (v := 1) d_Mo_goes_209 (by decide) ?_
  refine q_zret d_Mo_goes_210 rfl (by decide) ?_ (Nat.le_of_ble_eq_true rfl) (Nat.le_of_ble_eq_true rfl) (by decide)
  refine ⟨(_, _, _), ?_, rfl, hA, fun _ => G_P.set hq hv hoc a21, mo_K.rfl, kA⟩
  rw [hcan, hoc]
  rfl
set_option maxRecDepth 10000 in
set_option maxHeartbeats 2000000 in
theorem l_go_63 (hG : q_GG g) {b hp : List va_E} {m : Nat → Int32} {A0 A : Nat → Nat → Int32} {w : w_T} {pl vl : Nat → Nat} {q j : Nat} {hx : Int32} (hq : q < 6) (hA : M_A b m A hp) (kA : mo_K [21] A0 A) (hbit : (c_s (w_c w q) (pl q)).testBit j = true) (hv5 : c_v (w_c w q) j < 5) (a1 : A 1 = A0 1) (a21 : A 21 = upd (cpy 11 (A0 20) (A0 21)) q (nI j)) (hk : c_k (w_c w q) j = 63) (hv : c_v (w_c w q) j < w_n w) (hhx : hx = nI (vl (c_v (w_c w q) j))) (hx2 : A0 20 (6 + c_v (w_c w q) j) = hx) (hvl : vl (c_v (w_c w q) j) < w_z w (c_v (w_c w q) j)) (hz5 : w_z w (c_v (w_c w q) j) ≤ 5) (ha1 : A0 1 (c_v (w_c w q) j) = nI (w_z w (c_v (w_c w q) j))) (hf5 : c_f (w_c w q) j < 5) : q_J g m_Mo_goes true (q_R 0 0 0 0) (q_mo (some (.int (if w_can w pl vl q j then 1 else 0))) b (fun m' A' => (w_can w pl vl q j = true → G_P w vl q j (A0 20) (A' 21)) ∧ mo_K [] m m' ∧ mo_K [21] A0 A')) 105 [some (.ref 84), some (.int (nI q)), some (.int (nI j)), some (.int (nI (c_v (w_c w q) j))), some (.int hx), some (.int (nI (c_f (w_c w q) j)))] [.int 4] hp 0 0 true := by
  have hcan : w_can w pl vl q j = (w_oc w vl q j).isSome := by
    unfold w_can
    rw [hbit]
    rfl
  have hin : vp_in (nI (6 + c_v (w_c w q) j)) 11 := vp_in_nI (by omega) (by decide)
  have hcl : (nI (6 + c_v (w_c w q) j)).toNatClampNeg = 6 + c_v (w_c w q) j := nI_clamp (by omega)
  refine q_tableIn (tgt := 211) d_Mo_goes_105 (by decide) (by decide) rfl (by decide) ?_
  subst hhx
  refine q_iload d_Mo_goes_211 rfl ?_
  refine q_iload d_Mo_goes_213 rfl ?_
  refine q_icmp_ne (tgt := 222) d_Mo_goes_215 (by decide) (fun b215 => ?_) (fun b215 => ?_)
  · skip
    have h0 : ¬ vl (c_v (w_c w q) j) = c_f (w_c w q) j := fun h => b215 (by rw [h])
    have hoc : w_oc w vl q j = none := by
      rw [w_oc_k hk]
      show (if vl (c_v (w_c w q) j) = c_f (w_c w q) j then some (vl (c_v (w_c w q) j)) else none) = none
      rw [if_neg h0]
    refine q_iconst (v := 0) d_Mo_goes_222 (by decide) ?_
    refine q_zret d_Mo_goes_223 rfl (by decide) ?_ (Nat.le_of_ble_eq_true rfl) (Nat.le_of_ble_eq_true rfl) (by decide)
    first
      | (refine ⟨(_, _, _), ?_, rfl, hA, fun _ => G_P.same hq hv5 (fun h => by rw [hoc]; exact hx2) a21, mo_K.rfl, kA⟩; rw [hcan, hoc]; rfl)
      | (refine ⟨(_, _, _), ?_, rfl, hA, fun h => absurd h (G_no hcan hoc), mo_K.rfl, kA⟩; rw [hcan, hoc]; rfl)
  · skip
    have h0 : vl (c_v (w_c w q) j) = c_f (w_c w q) j := (nI_eq (by omega) (by omega)).mp b215
    have hoc : w_oc w vl q j = some (vl (c_v (w_c w q) j)) := by
      rw [w_oc_k hk]
      show (if vl (c_v (w_c w q) j) = c_f (w_c w q) j then some (vl (c_v (w_c w q) j)) else none) = _
      rw [if_pos h0]
    refine q_iconst (v := 1) d_Mo_goes_218 (by decide) ?_
    refine q_goto (tgt := 223) d_Mo_goes_219 (by decide) ?_
    refine q_zret d_Mo_goes_223 rfl (by decide) ?_ (Nat.le_of_ble_eq_true rfl) (Nat.le_of_ble_eq_true rfl) (by decide)
    first
      | (refine ⟨(_, _, _), ?_, rfl, hA, fun _ => G_P.same hq hv5 (fun h => by rw [hoc]; exact hx2) a21, mo_K.rfl, kA⟩; rw [hcan, hoc]; rfl)
      | (refine ⟨(_, _, _), ?_, rfl, hA, fun h => absurd h (G_no hcan hoc), mo_K.rfl, kA⟩; rw [hcan, hoc]; rfl)
set_option maxRecDepth 10000 in
set_option maxHeartbeats 2000000 in
theorem l_go_33 (hG : q_GG g) {b hp : List va_E} {m : Nat → Int32} {A0 A : Nat → Nat → Int32} {w : w_T} {pl vl : Nat → Nat} {q j : Nat} {hx : Int32} (hq : q < 6) (hA : M_A b m A hp) (kA : mo_K [21] A0 A) (hbit : (c_s (w_c w q) (pl q)).testBit j = true) (hv5 : c_v (w_c w q) j < 5) (a1 : A 1 = A0 1) (a21 : A 21 = upd (cpy 11 (A0 20) (A0 21)) q (nI j)) (hk : c_k (w_c w q) j = 33) (hv : c_v (w_c w q) j < w_n w) (hhx : hx = nI (vl (c_v (w_c w q) j))) (hx2 : A0 20 (6 + c_v (w_c w q) j) = hx) (hvl : vl (c_v (w_c w q) j) < w_z w (c_v (w_c w q) j)) (hz5 : w_z w (c_v (w_c w q) j) ≤ 5) (ha1 : A0 1 (c_v (w_c w q) j) = nI (w_z w (c_v (w_c w q) j))) (hf5 : c_f (w_c w q) j < 5) : q_J g m_Mo_goes true (q_R 0 0 0 0) (q_mo (some (.int (if w_can w pl vl q j then 1 else 0))) b (fun m' A' => (w_can w pl vl q j = true → G_P w vl q j (A0 20) (A' 21)) ∧ mo_K [] m m' ∧ mo_K [21] A0 A')) 105 [some (.ref 84), some (.int (nI q)), some (.int (nI j)), some (.int (nI (c_v (w_c w q) j))), some (.int hx), some (.int (nI (c_f (w_c w q) j)))] [.int 5] hp 0 0 true := by
  have hcan : w_can w pl vl q j = (w_oc w vl q j).isSome := by
    unfold w_can
    rw [hbit]
    rfl
  have hin : vp_in (nI (6 + c_v (w_c w q) j)) 11 := vp_in_nI (by omega) (by decide)
  have hcl : (nI (6 + c_v (w_c w q) j)).toNatClampNeg = 6 + c_v (w_c w q) j := nI_clamp (by omega)
  refine q_tableOut (tgt := 224) d_Mo_goes_105 (by decide) (by decide) ?_
  subst hhx
  refine q_iload d_Mo_goes_224 rfl ?_
  refine q_iload d_Mo_goes_226 rfl ?_
  refine q_icmp_eq (tgt := 235) d_Mo_goes_228 (by decide) (fun b228 => ?_) (fun b228 => ?_)
  · skip
    have h0 : vl (c_v (w_c w q) j) = c_f (w_c w q) j := (nI_eq (by omega) (by omega)).mp b228
    have hoc : w_oc w vl q j = none := by
      rw [w_oc_k hk]
      show (if vl (c_v (w_c w q) j) = c_f (w_c w q) j then none else some (vl (c_v (w_c w q) j))) = none
      rw [if_pos h0]
    refine q_iconst (v := 0) d_Mo_goes_235 (by decide) ?_
    refine q_zret d_Mo_goes_236 rfl (by decide) ?_ (Nat.le_of_ble_eq_true rfl) (Nat.le_of_ble_eq_true rfl) (by decide)
    first
      | (refine ⟨(_, _, _), ?_, rfl, hA, fun _ => G_P.same hq hv5 (fun h => by rw [hoc]; exact hx2) a21, mo_K.rfl, kA⟩; rw [hcan, hoc]; rfl)
      | (refine ⟨(_, _, _), ?_, rfl, hA, fun h => absurd h (G_no hcan hoc), mo_K.rfl, kA⟩; rw [hcan, hoc]; rfl)
  · skip
    have h0 : ¬ vl (c_v (w_c w q) j) = c_f (w_c w q) j := fun h => b228 (by rw [h])
    have hoc : w_oc w vl q j = some (vl (c_v (w_c w q) j)) := by
      rw [w_oc_k hk]
      show (if vl (c_v (w_c w q) j) = c_f (w_c w q) j then none else some (vl (c_v (w_c w q) j))) = _
      rw [if_neg h0]
    refine q_iconst (v := 1) d_Mo_goes_231 (by decide) ?_
    refine q_goto (tgt := 236) d_Mo_goes_232 (by decide) ?_
    refine q_zret d_Mo_goes_236 rfl (by decide) ?_ (Nat.le_of_ble_eq_true rfl) (Nat.le_of_ble_eq_true rfl) (by decide)
    first
      | (refine ⟨(_, _, _), ?_, rfl, hA, fun _ => G_P.same hq hv5 (fun h => by rw [hoc]; exact hx2) a21, mo_K.rfl, kA⟩; rw [hcan, hoc]; rfl)
      | (refine ⟨(_, _, _), ?_, rfl, hA, fun h => absurd h (G_no hcan hoc), mo_K.rfl, kA⟩; rw [hcan, hoc]; rfl)
set_option maxRecDepth 10000 in
set_option maxHeartbeats 2000000 in
theorem l_go_51 (hG : q_GG g) {b hp : List va_E} {m : Nat → Int32} {A0 A : Nat → Nat → Int32} {w : w_T} {pl vl : Nat → Nat} {q j : Nat} (hmk : w_mk w) (hW : W_M w m A0) (hst : st_M w pl vl (A0 20)) (hpl : ∀ q, q < w_p w → pl q < c_n (w_c w q)) (hvl : ∀ v, v < 5 → vl v < w_z w v) (hq : q < w_p w) (hj1 : 1 ≤ j) (hj : j < 13) (hA : M_A b m A hp) (kA : mo_K [21] A0 A) (hbit : (c_s (w_c w q) (pl q)).testBit j = true) (a21 : A 21 = cpy 11 (A0 20) (A0 21)) : q_J g m_Mo_goes true (q_R 0 0 0 0) (q_mo (some (.int (if w_can w pl vl q j then 1 else 0))) b (fun m' A' => (w_can w pl vl q j = true → G_P w vl q j (A0 20) (A' 21)) ∧ mo_K [] m m' ∧ mo_K [21] A0 A')) 51 [some (.ref 84), some (.int (nI q)), some (.int (nI j)), some (.int (nI 11)), none, none] [] hp 0 0 true := by
  have hok := hmk.1
  have hq6 : q < 6 := Nat.lt_of_lt_of_le hq hok.2.1
  have hclq : (nI q).toNatClampNeg = q := nI_clamp (by omega)
  have hinq : vp_in (nI q) 11 := vp_in_nI (by omega) (by decide)
  have hcc := (hok.2.2.2 q hq6)
  have hjc : j < c_n (w_c w q) := by
    by_cases h : j < c_n (w_c w q)
    · exact h
    · have h1 := hmk.2.2.1 q hq (pl q) (by have := hpl q hq; omega)
      rw [Nat.testBit_lt_two_pow (Nat.lt_of_lt_of_le h1 (Nat.pow_le_pow_right (by decide) (by omega)))] at hbit
      cases hbit
  have hky := hmk.2.1 q hq j hj1 hjc
  have hv5 := (hcc.2.2.2 j hj).2.2.1
  have hin78 : vp_in (nI (13 * q + j)) 78 := vp_in_nI (by omega) (by decide)
  have hcl78 : (nI (13 * q + j)).toNatClampNeg = 13 * q + j := nI_clamp (by omega)
  have hin11 : vp_in (nI (6 + c_v (w_c w q) j)) 11 := vp_in_nI (by omega) (by decide)
  have hcl11 : (nI (6 + c_v (w_c w q) j)).toNatClampNeg = 6 + c_v (w_c w q) j := nI_clamp (by omega)
  obtain ⟨hD6, hD7, hD8⟩ := (hW.2.2.2 q hq).2.2.2 j hj1 hjc
  have a1 : A 1 = A0 1 := kA 1 (by decide)
  have a6 : A 6 = A0 6 := kA 6 (by decide)
  have a7 : A 7 = A0 7 := kA 7 (by decide)
  have a8 : A 8 = A0 8 := kA 8 (by decide)
  have a20 : A 20 = A0 20 := kA 20 (by decide)
  refine q_aload_n d_Mo_goes_51 rfl rfl ?_
  refine q_get d_Mo_goes_52 f_Mo_78 hA.1 rfl ?_
  refine q_iload_n d_Mo_goes_55 rfl ?_
  refine q_iload_n d_Mo_goes_56 rfl ?_
  refine x_iast d_Mo_goes_57 hA.a21 rfl hinq (fun hp1 e1 _ => ?_)
  obtain ⟨A, hA, u21, nn⟩ := hA.st21 e1
  rw [a21] at u21
  rw [hclq] at u21
  have a21 := u21
  have a1 := (nn 1 (by decide)).trans a1
  have a6 := (nn 6 (by decide)).trans a6
  have a7 := (nn 7 (by decide)).trans a7
  have a8 := (nn 8 (by decide)).trans a8
  have a20 := (nn 20 (by decide)).trans a20
  have kA := kA.put nn (by decide)
  refine q_aload_n d_Mo_goes_58 rfl rfl ?_
  refine q_get d_Mo_goes_59 f_Mo_35 hA.1 rfl ?_
  refine q_bipush (v := 13) d_Mo_goes_62 (by decide) ?_
  refine q_iload_n d_Mo_goes_64 rfl ?_
  refine q_imul d_Mo_goes_65 ?_
  rw [show (13 : Int32) = nI 13 from rfl, pk_mul]
  refine q_iload_n d_Mo_goes_66 rfl ?_
  refine q_iadd d_Mo_goes_67 ?_
  rw [nI_add]
  refine q_iald d_Mo_goes_68 hA.a7 rfl hin78 ?_
  rw [a7]
  rw [hcl78, hD7]
  refine q_istore_n d_Mo_goes_69 rfl (by decide) rfl ?_
  refine q_aload_n d_Mo_goes_70 rfl rfl ?_
  refine q_get d_Mo_goes_71 f_Mo_75 hA.1 rfl ?_
  refine q_bipush (v := 6) d_Mo_goes_74 (by decide) ?_
  refine q_iload_n d_Mo_goes_76 rfl ?_
  refine q_iadd d_Mo_goes_77 ?_
  rw [show (6 : Int32) = nI 6 from rfl, nI_add]
  refine q_iald d_Mo_goes_78 hA.a20 rfl hin11 ?_
  rw [a20]
  rw [hcl11]
  refine q_istore d_Mo_goes_79 (by decide) rfl ?_
  refine q_aload_n d_Mo_goes_81 rfl rfl ?_
  refine q_get d_Mo_goes_82 f_Mo_38 hA.1 rfl ?_
  refine q_bipush (v := 13) d_Mo_goes_85 (by decide) ?_
  refine q_iload_n d_Mo_goes_87 rfl ?_
  refine q_imul d_Mo_goes_88 ?_
  rw [show (13 : Int32) = nI 13 from rfl, pk_mul]
  refine q_iload_n d_Mo_goes_89 rfl ?_
  refine q_iadd d_Mo_goes_90 ?_
  rw [nI_add]
  refine q_iald d_Mo_goes_91 hA.a8 rfl hin78 ?_
  rw [a8]
  rw [hcl78, hD8]
  refine q_istore d_Mo_goes_92 (by decide) rfl ?_
  refine q_aload_n d_Mo_goes_94 rfl rfl ?_
  refine q_get d_Mo_goes_95 f_Mo_32 hA.1 rfl ?_
  refine q_bipush (v := 13) d_Mo_goes_98 (by decide) ?_
  refine q_iload_n d_Mo_goes_100 rfl ?_
  refine q_imul d_Mo_goes_101 ?_
  rw [show (13 : Int32) = nI 13 from rfl, pk_mul]
  refine q_iload_n d_Mo_goes_102 rfl ?_
  refine q_iadd d_Mo_goes_103 ?_
  rw [nI_add]
  refine q_iald d_Mo_goes_104 hA.a6 rfl hin78 ?_
  rw [a6]
  rw [hcl78, hD6]
  rcases hky with ⟨r1, r2, r3⟩ | ⟨r1, r2, r3⟩
  · have hvl2 := hvl _ (by omega : c_v (w_c w q) j < 5)
    have hzz := hok.2.2.1 _ (by omega : c_v (w_c w q) j < 5)
    have e1 := hst.2 _ r2
    have e2 := (hW.2.2.1 _ r2).1
    have hf5 := (hok.2.2.2 q hq6).2.2.2 j (by omega) |>.2.2.2
    simp only [b_kd, b_kf, Bool.or_eq_true, beq_iff_eq] at r1
    rcases r1 with (r1 | r1) | ((r1 | r1) | r1)
    · rw [r1]
      exact l_go_43 hG hq6 hA kA hbit hv5 a1 a21 r1 r2 e1 rfl hvl2 hzz.2.1 e2
    · rw [r1]
      exact l_go_45 hG hq6 hA kA hbit hv5 a1 a21 r1 r2 e1 rfl hvl2 hzz.2.1 e2
    · rw [r1]
      exact l_go_61 hG hq6 hA kA hbit hv5 a1 a21 r1 r2 e1 rfl hvl2 hzz.2.1 e2
    · rw [r1]
      exact l_go_63 hG hq6 hA kA hbit hv5 a1 a21 r1 r2 e1 rfl hvl2 hzz.2.1 e2 hf5
    · rw [r1]
      exact l_go_33 hG hq6 hA kA hbit hv5 a1 a21 r1 r2 e1 rfl hvl2 hzz.2.1 e2 hf5
  · rw [r1]
    exact l_go_46 hG hq6 hA kA hbit hv5 a1 a21 r1 (fun h => hst.2 _ h)
set_option maxRecDepth 10000 in
set_option maxHeartbeats 2000000 in
theorem l_go_27 (hG : q_GG g) {b : List va_E} {m : Nat → Int32} {A0 : Nat → Nat → Int32} {w : w_T} {pl vl : Nat → Nat} {q j : Nat} (hmk : w_mk w) (hW : W_M w m A0) (hst : st_M w pl vl (A0 20)) (hpl : ∀ q, q < w_p w → pl q < c_n (w_c w q)) (hvl : ∀ v, v < 5 → vl v < w_z w v) (hq : q < w_p w) (hj1 : 1 ≤ j) (hj : j < 13) (hbit : (c_s (w_c w q) (pl q)).testBit j = true) : ∀ (k i : Nat), i + k = 11 → ∀ (A : Nat → Nat → Int32) (hp : List va_E), M_A b m A hp → mo_K [21] A0 A → A 20 = A0 20 → A 21 = cpy i (A0 20) (A0 21) → q_J g m_Mo_goes true (q_R 0 0 0 0) (q_mo (some (.int (if w_can w pl vl q j then 1 else 0))) b (fun m' A' => (w_can w pl vl q j = true → G_P w vl q j (A0 20) (A' 21)) ∧ mo_K [] m m' ∧ mo_K [21] A0 A')) 27 [some (.ref 84), some (.int (nI q)), some (.int (nI j)), some (.int (nI i)), none, none] [] hp 0 0 true := by
  intro k
  induction k with
  | zero =>
    intro i hi A hp hA kA a20 a21
    obtain rfl : i = 11 := by omega
    refine q_iload_n d_Mo_goes_27 rfl ?_
    refine q_bipush (v := 11) d_Mo_goes_28 (by decide) ?_
    refine q_icmp_ge (tgt := 51) d_Mo_goes_30 (by decide) (fun b30 => ?_) (fun b30 => ?_)
    · skip
      exact l_go_51 hG hmk hW hst hpl hvl hq hj1 hj hA kA hbit a21
    · skip
      exact absurd (show (11 : Int32) ≤ nI 11 by decide) b30
  | succ k ih =>
    intro i hi A hp hA kA a20 a21
    have hin : vp_in (nI i) 11 := vp_in_nI (by omega) (by decide)
    have hcl : (nI i).toNatClampNeg = i := nI_clamp (by omega)
    refine q_iload_n d_Mo_goes_27 rfl ?_
    refine q_bipush (v := 11) d_Mo_goes_28 (by decide) ?_
    refine q_icmp_ge (tgt := 51) d_Mo_goes_30 (by decide) (fun b30 => ?_) (fun b30 => ?_)
    · skip
      exact absurd b30 (nI_ge (show i < 11 by omega) (by decide))
    · skip
      refine q_aload_n d_Mo_goes_33 rfl rfl ?_
      refine q_get d_Mo_goes_34 f_Mo_78 hA.1 rfl ?_
      refine q_iload_n d_Mo_goes_37 rfl ?_
      refine q_aload_n d_Mo_goes_38 rfl rfl ?_
      refine q_get d_Mo_goes_39 f_Mo_75 hA.1 rfl ?_
      refine q_iload_n d_Mo_goes_42 rfl ?_
      refine q_iald d_Mo_goes_43 hA.a20 rfl (by assumption) ?_
      rw [a20]
      rw [hcl]
      refine x_iast d_Mo_goes_44 hA.a21 rfl (by assumption) (fun hp1 e1 _ => ?_)
      obtain ⟨A, hA, u21, nn⟩ := hA.st21 e1
      rw [a21] at u21
      rw [hcl, cpy_s] at u21
      have a21 := u21
      have a20 := (nn 20 (by decide)).trans a20
      have kA := kA.put nn (by decide)
      refine q_iinc d_Mo_goes_45 rfl (show _ + Int32.ofInt 1 = _ + 1 from rfl) (by decide) rfl ?_
      refine q_goto (tgt := 27) d_Mo_goes_48 (by decide) ?_
      rw [nI_1]
      exact ih (i + 1) (by omega) A _ hA kA a20 a21
set_option maxRecDepth 10000 in
set_option maxHeartbeats 2000000 in
theorem c_Mo_goes (hG : q_GG g) {b hp : List va_E} {m : Nat → Int32} {A : Nat → Nat → Int32} {w : w_T} {pl vl : Nat → Nat} {q j : Nat} (hA : M_A b m A hp) (hmk : w_mk w) (hW : W_M w m A) (hst : st_M w pl vl (A 20)) (hpl : ∀ q, q < w_p w → pl q < c_n (w_c w q)) (hvl : ∀ v, v < 5 → vl v < w_z w v) (hq : q < w_p w) (hj1 : 1 ≤ j) (hj : j < 13) : q_C g m_Mo_goes true (q_R 0 0 0 0) [.ref 84, .int (nI q), .int (nI j)] hp (q_mo (some (.int (if w_can w pl vl q j then 1 else 0))) b (fun m' A' => (w_can w pl vl q j = true → G_P w vl q j (A 20) (A' 21)) ∧ mo_K [] m m' ∧ mo_K [21] A A')) := by
  refine q_C.of hG (by decide) (Nat.le_of_ble_eq_true rfl) ?_
  refine q_wrote ?_
  have hok := hmk.1
  have hq6 : q < 6 := Nat.lt_of_lt_of_le hq hok.2.1
  have hclq : (nI q).toNatClampNeg = q := nI_clamp (by omega)
  have hinq : vp_in (nI q) 11 := vp_in_nI (by omega) (by decide)
  have hcc := (hok.2.2.2 q hq6)
  have hplq := hpl q hq
  have hc13 := hcc.2.1
  have hin78 : vp_in (nI (13 * q + pl q)) 78 := vp_in_nI (by omega) (by decide)
  have hcl78 : (nI (13 * q + pl q)).toNatClampNeg = 13 * q + pl q := nI_clamp (by omega)
  have hs13 := (hcc.2.2.2 (pl q) (by omega)).1
  refine q_aload_n d_Mo_goes_0 rfl rfl ?_
  refine q_get d_Mo_goes_1 f_Mo_29 hA.1 rfl ?_
  refine q_bipush (v := 13) d_Mo_goes_4 (by decide) ?_
  refine q_iload_n d_Mo_goes_6 rfl ?_
  refine q_imul d_Mo_goes_7 ?_
  rw [show (13 : Int32) = nI 13 from rfl, pk_mul]
  refine q_aload_n d_Mo_goes_8 rfl rfl ?_
  refine q_get d_Mo_goes_9 f_Mo_75 hA.1 rfl ?_
  refine q_iload_n d_Mo_goes_12 rfl ?_
  refine q_iald d_Mo_goes_13 hA.a20 rfl hinq ?_
  rw [hclq, hst.1 q hq]
  refine q_iadd d_Mo_goes_14 ?_
  rw [nI_add]
  refine q_iald d_Mo_goes_15 hA.a5 rfl hin78 ?_
  rw [hcl78, (hW.2.2.2 q hq).2.2.1 _ (by omega), if_pos hplq]
  refine q_iload_n d_Mo_goes_16 rfl ?_
  refine q_ishr d_Mo_goes_17 ?_
  refine q_iconst (v := 1) d_Mo_goes_18 (by decide) ?_
  refine q_iand d_Mo_goes_19 ?_
  refine q_if_ne (tgt := 25) d_Mo_goes_20 (by decide) (fun b20 => ?_) (fun b20 => ?_)
  · skip
    have hbit : (c_s (w_c w q) (pl q)).testBit j = true := by
      by_cases h : (c_s (w_c w q) (pl q)).testBit j = true
      · exact h
      · exact absurd ((tb_1 (by omega) (by omega)).mpr (by simpa using h)) b20
    refine q_iconst (v := 0) d_Mo_goes_25 (by decide) ?_
    refine q_istore_n d_Mo_goes_26 rfl (by decide) rfl ?_
    exact l_go_27 hG hmk hW hst hpl hvl hq hj1 hj hbit 11 0 (by omega) A hp hA mo_K.rfl rfl cpy_0.symm
  · skip
    have hbit := (tb_1 (by omega) (by omega)).mp b20
    have hno : w_can w pl vl q j = false := by unfold w_can; rw [hbit]; rfl
    refine q_iconst (v := 0) d_Mo_goes_23 (by decide) ?_
    refine q_zret d_Mo_goes_24 rfl (by decide) ?_ (Nat.le_of_ble_eq_true rfl) (Nat.le_of_ble_eq_true rfl) (by decide)
    refine ⟨(m, A, _), ?_, rfl, hA, fun h => ?_, mo_K.rfl, mo_K.rfl⟩
    · rw [hno]
      rfl
    · rw [hno] at h
      cases h
end M9
