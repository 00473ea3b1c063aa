/-! the world: a pure picture of it, and World's reading methods -/
section C6
variable {g : q_G}
theorem tb_s : ∀ j, j < 32 → ((nI j &&& 31).toBitVec.smod 32).toNat = j := by decide +kernel
/-- a bit of an int -/
theorem tb_1 {t j : Nat} (ht : t < 2 ^ 31) (hj : j < 32) : (nI t >>> (nI j &&& 31)) &&& 1 = 0 ↔ t.testBit j = false := by
  rw [pk_shrN ht _ j (tb_s j hj), pk_andN (Nat.lt_of_le_of_lt (Nat.div_le_self _ _) (by omega)) (m := 1) 1 (by decide), show (0 : Int32) = nI 0 from rfl, nI_eq (by omega) (by omega), Nat.testBit_eq_decide_div_mod_eq, decide_eq_false_iff_not]
  omega
theorem tb_2 : ∀ j, j < 31 → (1 : Int32) <<< (nI j &&& 31) = nI (2 ^ j) := by decide +kernel
theorem tb_or (a b : Nat) : nI a ||| nI b = nI (a ||| b) := by
  apply Int32.toBitVec_inj.mp
  rw [Int32.toBitVec_or]
  show BitVec.ofNat 32 a ||| BitVec.ofNat 32 b = BitVec.ofNat 32 (a ||| b)
  rw [BitVec.ofNat_or]
theorem tb_m1 {n : Nat} (h : n < 2 ^ 31) : ¬ nI n = -1 := fun q => by
  have := congrArg Int32.toInt q
  rw [nI_toInt h] at this
  have h1 : (-1 : Int32).toInt = -1 := by decide
  omega
/-- a course: how many places, ends, steps, kinds, variables, figures -/
abbrev c_T : Type := Nat × Nat × (Nat → Nat) × (Nat → Nat) × (Nat → Nat) × (Nat → Nat)
abbrev c_n (C : c_T) : Nat := C.1
abbrev c_e (C : c_T) : Nat := C.2.1
abbrev c_s (C : c_T) : Nat → Nat := C.2.2.1
abbrev c_k (C : c_T) : Nat → Nat := C.2.2.2.1
abbrev c_v (C : c_T) : Nat → Nat := C.2.2.2.2.1
abbrev c_f (C : c_T) : Nat → Nat := C.2.2.2.2.2
/-- a world: how many variables, sizes, firsts, how many processes, courses -/
abbrev w_T : Type := Nat × (Nat → Nat) × (Nat → Nat) × Nat × (Nat → c_T)
abbrev w_n (w : w_T) : Nat := w.1
abbrev w_z (w : w_T) : Nat → Nat := w.2.1
abbrev w_f (w : w_T) : Nat → Nat := w.2.2.1
abbrev w_p (w : w_T) : Nat := w.2.2.2.1
abbrev w_c (w : w_T) : Nat → c_T := w.2.2.2.2
abbrev a_N (n : Nat) (f : Nat → Nat) : va_E := a_I n (fun j => nI (f j))
def c_A (a : Nat) (C : c_T) (hp : List va_E) : Prop := hp[a]? = some (o_Co a (nI (c_n C)) (nI (c_e C))) ∧ hp[a + 1]? = some (a_N 13 (c_s C)) ∧ hp[a + 2]? = some (a_N 13 (c_k C)) ∧ hp[a + 3]? = some (a_N 13 (c_v C)) ∧ hp[a + 4]? = some (a_N 13 (c_f C))
def c_ok (C : c_T) : Prop := 1 ≤ c_n C ∧ c_n C ≤ 13 ∧ c_e C < 8192 ∧ ∀ j, j < 13 → c_s C j < 8192 ∧ c_k C j < 128 ∧ c_v C j < 5 ∧ c_f C j < 5
abbrev o_Wo (n p : Nat) : va_E := .inr (2, [.ref 4, .ref 5, .int (nI n), .ref 6, .int (nI p)])
def cr_f : Nat → Option Nat := fun j => if j < 6 then some (7 + 5 * j) else none
abbrev a_Cr : va_E := .inl (4, 6, .inr (.inr (.inr (.inr cr_f))))
theorem cr_at {q : Nat} (h : q < 6) : va_rf (cr_f (nI q).toNatClampNeg) = .ref (7 + 5 * q) := by
  rw [nI_clamp (by omega)]
  simp [cr_f, h, va_rf]
def w_A (w : w_T) (hp : List va_E) : Prop := hp[3]? = some (o_Wo (w_n w) (w_p w)) ∧ hp[4]? = some (a_N 5 (w_z w)) ∧ hp[5]? = some (a_N 5 (w_f w)) ∧ hp[6]? = some a_Cr ∧ ∀ q, q < 6 → c_A (7 + 5 * q) (w_c w q) hp
def w_ok (w : w_T) : Prop := w_n w ≤ 5 ∧ w_p w ≤ 6 ∧ (∀ v, v < 5 → 1 ≤ w_z w v ∧ w_z w v ≤ 5 ∧ w_f w v < w_z w v) ∧ ∀ q, q < 6 → c_ok (w_c w q)
/-- a state's two rows -/
abbrev o_St (a : Nat) : va_E := .inr (8, [.ref (a + 1), .ref (a + 2)])
def s_A (a : Nat) (pl vl : Nat → Nat) (hp : List va_E) : Prop := hp[a]? = some (o_St a) ∧ hp[a + 1]? = some (a_N 6 pl) ∧ hp[a + 2]? = some (a_N 5 vl)
def s_ok (w : w_T) (pl vl : Nat → Nat) : Prop := (∀ q, q < w_p w → pl q < c_n (w_c w q)) ∧ (∀ q, q < 6 → pl q < 13) ∧ ∀ v, v < 5 → vl v < w_z w v
/-- the product -/
def w_q1 (w : w_T) : Nat → Nat
  | 0 => 1
  | q + 1 => w_q1 w q * c_n (w_c w q)
def w_q2 (w : w_T) : Nat → Nat
  | 0 => w_q1 w (w_p w)
  | v + 1 => w_q2 w v * w_z w v
abbrev w_q (w : w_T) : Nat := w_q2 w 5
/-- what an act makes of a value -/
def wo_o (k f x z : Nat) : Option Nat := if k = 33 then (if x = f then none else some x) else if k = 43 then (if z - 1 ≤ x then none else some (x + 1)) else if k = 45 then (if x = 0 then none else some (x - 1)) else if k = 61 then some f else if k = 63 then (if x = f then some x else none) else some x
def wo_r (o : Option Nat) : Int32 := match o with
  | none => -1
  | some y => nI y
theorem wo_o_is {k f x z : Nat} (hk : k < 2 ^ 20) (hf : f < 2 ^ 20) (hx : x < 2 ^ 20) (hz : z < 2 ^ 20) (hz1 : 1 ≤ z) : co_out (nI k) (nI f) (nI x) (nI z) = wo_r (wo_o k f x z) := by
  have e : ∀ c : Nat, c < 2 ^ 20 → (nI k = nI c ↔ k = c) := fun c hc => nI_eq (by omega) (by omega)
  have e33 : nI k = 33 ↔ k = 33 := e 33 (by decide)
  have e43 : nI k = 43 ↔ k = 43 := e 43 (by decide)
  have e45 : nI k = 45 ↔ k = 45 := e 45 (by decide)
  have e61 : nI k = 61 ↔ k = 61 := e 61 (by decide)
  have e63 : nI k = 63 ↔ k = 63 := e 63 (by decide)
  have exf : nI x = nI f ↔ x = f := nI_eq (by omega) (by omega)
  have ez : nI z - 1 = nI (z - 1) := pk_sub (b := 1) hz1
  have el : nI (z - 1) ≤ nI x ↔ z - 1 ≤ x := nI_leI (by omega) (by omega)
  have e0 : nI x ≤ 0 ↔ x = 0 := by
    rw [show (0 : Int32) = nI 0 from rfl, nI_leI (by omega) (by omega)]
    omega
  unfold co_out wo_o
  simp only [e33, e43, e45, e61, e63, exf, ez, el, e0]
  by_cases h33 : k = 33
  · simp only [h33, if_true]
    by_cases h : x = f <;> simp [h, wo_r]
  · simp only [h33, if_false]
    by_cases h43 : k = 43
    · simp only [h43, if_true]
      by_cases h : z - 1 ≤ x
      · simp [h, wo_r]
      · simp only [h, if_false, wo_r, nI_1]
    · simp only [h43, if_false]
      by_cases h45 : k = 45
      · simp only [h45, if_true]
        by_cases h : x = 0
        · simp [h, wo_r]
        · simp only [h, if_false, wo_r]
          exact pk_sub (b := 1) (by omega)
      · simp only [h45, if_false]
        by_cases h61 : k = 61
        · simp [h61, wo_r]
        · simp only [h61, if_false]
          by_cases h63 : k = 63
          · simp only [h63, if_true]
            by_cases h : x = f <;> simp [h, wo_r]
          · simp [h63, wo_r]
theorem wo_o_lt {k f x z y : Nat} (hf : f < z) (hx : x < z) (h : wo_o k f x z = some y) : y < z := by
  unfold wo_o at h
  repeat' split at h
  all_goals first | (cases h; omega) | (cases h)
set_option maxRecDepth 10000 in
set_option maxHeartbeats 1000000 in
theorem l_Wo_count2 {hp : List va_E} {w : w_T} (hok : w_ok w) (h_w : hp[3]? = some (o_Wo (w_n w) (w_p w))) (h_z : hp[4]? = some (a_N 5 (w_z w))) : ∀ (k v : Nat), v + k = 5 → q_J g m_Wo_countStates false (q_R 0 0 0 0) (q_ret (some (.long (lN (w_q w)))) hp) 33 [some (.ref 3), some (.long (lN (w_q2 w v))), none, some (.int (nI v))] [] hp 0 0 false := by
  intro k
  induction k with
  | zero =>
    intro v hv
    have hv : v = 5 := by omega
    subst hv
    refine q_iload_n d_Wo_countStates_33 rfl ?_
    refine q_iconst (v := 5) d_Wo_countStates_34 (by decide) ?_
    refine q_icmp_ge (tgt := 54) d_Wo_countStates_35 (by decide) (fun b35 => ?_) (fun b35 => ?_)
    · skip
      refine q_lload_n d_Wo_countStates_54 rfl ?_
      refine q_lret d_Wo_countStates_55 rfl ?_ (Nat.le_of_ble_eq_true rfl) (Nat.le_of_ble_eq_true rfl) (by decide)
      exact ⟨rfl, rfl⟩
    · skip
      exact absurd (nI_le (Nat.le_refl 5) (by decide)) b35
  | succ k ih =>
    intro v hv
    have hcl : (nI v).toNatClampNeg = v := nI_clamp (by omega)
    have hin : vp_in (nI v) 5 := vp_in_nI (by omega) (by decide)
    refine q_iload_n d_Wo_countStates_33 rfl ?_
    refine q_iconst (v := 5) d_Wo_countStates_34 (by decide) ?_
    refine q_icmp_ge (tgt := 54) d_Wo_countStates_35 (by decide) (fun b35 => ?_) (fun b35 => ?_)
    · skip
      exact absurd b35 (nI_ge (show v < 5 by omega) (by decide))
    · skip
      refine q_lload_n d_Wo_countStates_38 rfl ?_
      refine q_aload_n d_Wo_countStates_39 rfl rfl ?_
      refine q_get d_Wo_countStates_40 f_Wo_9 h_w rfl ?_
      refine q_iload_n d_Wo_countStates_43 rfl ?_
      refine q_iald d_Wo_countStates_44 h_z rfl hin ?_
      rw [hcl]
      refine q_i2l d_Wo_countStates_45 ?_
      rw [nI_l (by have := (hok.2.2.1 v (by omega)).2.1; omega)]
      refine q_lmul d_Wo_countStates_46 ?_
      refine q_lstore_n d_Wo_countStates_47 rfl (by decide) rfl ?_
      refine q_iinc d_Wo_countStates_48 rfl (show _ + Int32.ofInt 1 = _ + 1 from rfl) (by decide) rfl ?_
      refine q_goto (tgt := 33) d_Wo_countStates_51 (by decide) ?_
      rw [nI_1, lN_mul]
      exact ih (v + 1) (by omega)
set_option maxRecDepth 10000 in
set_option maxHeartbeats 1000000 in
theorem l_Wo_count1 {hp : List va_E} {w : w_T} (hok : w_ok w) (hw : w_A w hp) : ∀ (k q : Nat), q + k = w_p w → q_J g m_Wo_countStates false (q_R 0 0 0 0) (q_ret (some (.long (lN (w_q w)))) hp) 4 [some (.ref 3), some (.long (lN (w_q1 w q))), none, some (.int (nI q))] [] hp 0 0 false := by
  have hp6 := hok.2.1
  obtain ⟨h_w, h_z, h_f, h_r, h_cs⟩ := hw
  intro k
  induction k with
  | zero =>
    intro q hq
    have hq : q = w_p w := by omega
    subst hq
    refine q_iload_n d_Wo_countStates_4 rfl ?_
    refine q_aload_n d_Wo_countStates_5 rfl rfl ?_
    refine q_get d_Wo_countStates_6 f_Wo_35 h_w rfl ?_
    refine q_icmp_ge (tgt := 31) d_Wo_countStates_9 (by decide) (fun b9 => ?_) (fun b9 => ?_)
    · skip
      refine q_iconst (v := 0) d_Wo_countStates_31 (by decide) ?_
      refine q_istore_n d_Wo_countStates_32 rfl (by decide) rfl ?_
      exact l_Wo_count2 hok h_w h_z 5 0 (by omega)
    · skip
      exact absurd (nI_le (Nat.le_refl _) (by omega)) b9
  | succ k ih =>
    intro q hq
    have hcl : (nI q).toNatClampNeg = q := nI_clamp (by omega)
    have hin : vp_in (nI q) 6 := vp_in_nI (by omega) (by decide)
    have h_c := (h_cs q (by omega)).1
    refine q_iload_n d_Wo_countStates_4 rfl ?_
    refine q_aload_n d_Wo_countStates_5 rfl rfl ?_
    refine q_get d_Wo_countStates_6 f_Wo_35 h_w rfl ?_
    refine q_icmp_ge (tgt := 31) d_Wo_countStates_9 (by decide) (fun b9 => ?_) (fun b9 => ?_)
    · skip
      exact absurd b9 (nI_ge (show q < w_p w by omega) (by omega))
    · skip
      refine q_lload_n d_Wo_countStates_12 rfl ?_
      refine q_aload_n d_Wo_countStates_13 rfl rfl ?_
      refine q_get d_Wo_countStates_14 f_Wo_20 h_w rfl ?_
      refine q_iload_n d_Wo_countStates_17 rfl ?_
      refine q_aald d_Wo_countStates_18 h_r rfl hin (cr_at (by omega)) ?_
      refine q_get d_Wo_countStates_19 f_Wo_38 h_c rfl ?_
      refine q_i2l d_Wo_countStates_22 ?_
      rw [nI_l (by have := (hok.2.2.2 q (by omega)).2.1; omega)]
      refine q_lmul d_Wo_countStates_23 ?_
      refine q_lstore_n d_Wo_countStates_24 rfl (by decide) rfl ?_
      refine q_iinc d_Wo_countStates_25 rfl (show _ + Int32.ofInt 1 = _ + 1 from rfl) (by decide) rfl ?_
      refine q_goto (tgt := 4) d_Wo_countStates_28 (by decide) ?_
      rw [nI_1, lN_mul]
      exact ih (q + 1) (by omega)
set_option maxRecDepth 10000 in
set_option maxHeartbeats 1000000 in
theorem c_Wo_countStates (hG : q_GG g) {hp : List va_E} {w : w_T} (hok : w_ok w) (hw : w_A w hp) : q_C g m_Wo_countStates false (q_R 0 0 0 0) [.ref 3] hp (q_ret (some (.long (lN (w_q w)))) hp) := by
  refine q_C.of hG (by decide) (Nat.le_of_ble_eq_true rfl) ?_
  refine q_lconst (v := 1) d_Wo_countStates_0 (by decide) ?_
  refine q_lstore_n d_Wo_countStates_1 rfl (by decide) rfl ?_
  refine q_iconst (v := 0) d_Wo_countStates_2 (by decide) ?_
  refine q_istore_n d_Wo_countStates_3 rfl (by decide) rfl ?_
  exact l_Wo_count1 hok hw (w_p w) 0 (by omega)
end C6
