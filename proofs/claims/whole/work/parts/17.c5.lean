/-! StateSet: the lowest, the k-th, a copy -/
section C5
/-- an end of which some of many is known -/
def q_rel {Z : Type} (v : Z → Option Value) (H : Z → List va_E) (φ : Z → Prop) : Outcome → List va_E → Prop := fun r h => ∃ z, r = .returned (v z) ∧ h = H z ∧ φ z
theorem q_krr {Z : Type} {v0 : Z → Option Value} {H : Z → List va_E} {φ : Z → Prop} {D : Option Value → List va_E → Prop} (k : ∀ z, φ z → D (v0 z) (H z)) : ∀ v hp', q_rel v0 H φ (.returned v) hp' → D v hp' := by
  intro v hp' ⟨z, e1, e2, h⟩
  cases e1
  subst e2
  exact k z h
theorem q_ktr {Z : Type} {v0 : Z → Option Value} {H : Z → List va_E} {φ : Z → Prop} {D : Nat → List va_E → Prop} : ∀ x hp', q_rel v0 H φ (.threw x) hp' → D x hp' := by
  intro x hp' ⟨z, e1, e2⟩
  cases e1
section
variable {g : q_G} {M : q_Me} {fr : Bool} {rm : Room} {P : Outcome → List va_E → Prop} {pc : Nat} {ls : List (Option Value)} {st : List Value} {hp : List va_E} {c s : Nat} {w : Bool}
theorem x_callSr {N : q_Me} {fr' : Bool} {rm' : Room} {idx n : Nat} {as stk : List Value} {Z : Type} {v : Z → Option Value} {H : Z → List va_E} {φ : Z → Prop} (hd : decode M.2.1 pc = .ok (.invokestatic idx, 3)) (hl : q_ML M.1.cls idx N n) (hsta : Jvm.Cond.static N.1 ∈ q_gw) (hC : q_C g N fr' rm' as hp (q_rel v H φ)) (hn : as.length = n) (hstk : stk = as.reverse ++ st) (hd' : rm'.frames + 1 ≤ rm.frames) (hN : (st.map fun v => v.category).sum + (N.2.2.1 + 11) + rm'.locals ≤ rm.locals) (hmc : c + rm'.cells ≤ rm.cells) (hms : s + rm'.slots ≤ rm.slots) (k : ∀ z, φ z → q_J g M fr rm P (pc + 3) ls ((v z).toList ++ st) (H z) (c + rm'.cells) (s + rm'.slots) (w || fr')) : q_J g M fr rm P pc ls stk hp c s w := by
  subst hstk
  exact q_callS hd hl hsta hn hC hd' hN hmc hms (q_krr k) q_ktr
theorem x_callVr {N : q_Me} {fr' : Bool} {rm' : Room} {idx n : Nat} {as stk : List Value} {Z : Type} {v : Z → Option Value} {H : Z → List va_E} {φ : Z → Prop} {a ci : Nat} {fs : List Value} {q : vw_C} (hd : decode M.2.1 pc = .ok (.invokevirtual idx, 3)) (hl : q_ML M.1.cls idx N n) (hins : Jvm.Cond.instanceMethod N.1 ∈ q_gw) (hsel : Jvm.Cond.selects q.1 N.1 N.1 ∈ q_gw) (hq : q_cl[ci]? = some q) (he : hp[a]? = some (.inr (ci, fs))) (hC : q_C g N fr' rm' (.ref a :: as) hp (q_rel v H φ)) (hn : as.length = n) (hstk : stk = as.reverse ++ .ref a :: st) (hd' : rm'.frames + 1 ≤ rm.frames) (hN : (st.map fun v => v.category).sum + (N.2.2.1 + 11) + rm'.locals ≤ rm.locals) (hmc : c + rm'.cells ≤ rm.cells) (hms : s + rm'.slots ≤ rm.slots) (k : ∀ z, φ z → q_J g M fr rm P (pc + 3) ls ((v z).toList ++ st) (H z) (c + rm'.cells) (s + rm'.slots) (w || fr')) : q_J g M fr rm P pc ls stk hp c s w := by
  subst hstk
  exact q_callV hd hl hins hsel hq he hn hC hd' hN hmc hms (q_krr k) q_ktr
end
variable {g : q_G}
theorem pb_cnt_s (n x : Nat) : pb_cnt (n + 1) x = pb_cnt n x + (if x.testBit n then 1 else 0) := by
  rw [pb_cnt_add n 1, Nat.testBit_eq_decide_div_mod_eq]
  simp only [pb_cnt]
  by_cases h : x / 2 ^ n % 2 = 1
  · simp [h]
  · have : x / 2 ^ n % 2 = 0 := by omega
    simp [this]
theorem pb_cnt_out {x z t : Nat} (ht : x.testBit t = true) (h : ∀ i, z.testBit i = (x.testBit i && decide (i ≠ t))) (n : Nat) : pb_cnt n z + (if t < n then 1 else 0) = pb_cnt n x := by
  induction n with
  | zero => rfl
  | succ n ih =>
    rw [pb_cnt_s, pb_cnt_s, h n, ← ih]
    by_cases hn : n = t
    · subst hn
      simp [ht]
    · by_cases hl : t < n
      · simp [hn, hl, Nat.lt_succ_of_lt hl]
        omega
      · have : ¬ t < n + 1 := by omega
        simp [hn, hl, this]
theorem pb_cnt_zero {x t : Nat} (h : ∀ i, i < t → x.testBit i = false) : pb_cnt t x = 0 := by
  induction t with
  | zero => rfl
  | succ t ih =>
    rw [pb_cnt_s, ih (fun i hi => h i (by omega)), h t (by omega)]
    rfl
theorem bt_i_c (k x : Nat) : bt_i (k + 1) x = bt_i k (bt_c x) := by
  induction k with
  | zero => rfl
  | succ k ih =>
    rw [bt_i, ih]
    rfl
/-- the k-th bit that is set -/
theorem bt_nth (k : Nat) : ∀ x, x < 2 ^ 64 → k < pb_cnt 64 x → ∃ t, t < 64 ∧ s_nb (lN x) k = nI t ∧ x.testBit t = true ∧ pb_cnt t x = k := by
  induction k with
  | zero =>
    intro x hx hk
    have h0 : 0 < x := by
      rcases Nat.eq_zero_or_pos x with h | h
      · subst h; exact absurd hk (by decide)
      · exact h
    obtain ⟨t, h1, h2, h3, h4, h5⟩ := bt_low h0 hx
    exact ⟨t, h1, h2, h3, pb_cnt_zero h4⟩
  | succ k ih =>
    intro x hx hk
    have h0 : 0 < x := by
      rcases Nat.eq_zero_or_pos x with h | h
      · subst h; exact absurd hk (by simp [pb_cnt])
      · exact h
    obtain ⟨t, h1, h2, h3, h4, h5⟩ := bt_low h0 hx
    have hc := pb_cnt_out h3 h5 64
    rw [if_pos h1] at hc
    obtain ⟨u, g1, g2, g3, g4⟩ := ih (bt_c x) (bt_c_lt hx) (by omega)
    have hu := h5 u
    rw [g3] at hu
    have hu := hu.symm
    simp only [Bool.and_eq_true, decide_eq_true_eq] at hu
    have hlt : t < u := by
      rcases Nat.lt_or_ge u t with q | q
      · rw [h4 u q] at hu; exact absurd hu.1 (by decide)
      · have := hu.2; omega
    refine ⟨u, g1, ?_, hu.1, ?_⟩
    · rw [← g2]
      unfold s_nb
      rw [bt_s_cl hx, bt_s_cl (bt_c_lt hx), bt_i_c]
    · have := pb_cnt_out h3 h5 u
      rw [if_pos hlt] at this
      omega
/-- how many numbers of the set lie in the words below w; below n -/
def ss_c (y : Nat → Nat) : Nat → Nat
  | 0 => 0
  | w + 1 => ss_c y w + pb_cnt 64 (y w)
def ss_r (y : Nat → Nat) (n : Nat) : Nat := ss_c y (n / 64) + pb_cnt (n % 64) (y (n / 64))
/-- what takeLowest makes: the number, the new lowest word, the new words -/
def tl_ok (y : Nat → Nat) (z : Option Nat × Nat × (Nat → Nat)) : Prop := z.2.1 ≤ 469 ∧ (∀ j, z.2.2 j < 2 ^ 64) ∧ (∀ j, j < z.2.1 → z.2.2 j = 0) ∧ (∀ j, 469 ≤ j → z.2.2 j = y j) ∧ match z.1 with
  | none => (∀ j, j < 469 → y j = 0) ∧ z.2.2 = y
  | some n => n < 30016 ∧ ss_m y n = true ∧ (∀ m, m < n → ss_m y m = false) ∧ ∀ m, ss_m z.2.2 m = (ss_m y m && decide (m ≠ n))
theorem tl_mk {y : Nat → Nat} {l t : Nat} (hy : ∀ j, y j < 2 ^ 64) (hlow : ∀ j, j < l → y j = 0) (hl : l < 469) (ht1 : t < 64) (ht3 : (y l).testBit t = true) (ht4 : ∀ i, i < t → (y l).testBit i = false) (ht5 : ∀ i, (bt_c (y l)).testBit i = ((y l).testBit i && decide (i ≠ t))) : tl_ok y (some (64 * l + t), l, va_up y l (bt_c (y l))) := by
  have e1 : (64 * l + t) / 64 = l := by omega
  have e2 : (64 * l + t) % 64 = t := by omega
  refine ⟨by show l ≤ 469; omega, fun j => ?_, fun j hj => ?_, fun j hj => ?_, by show 64 * l + t < 30016; omega, ?_, fun m hm => ?_, fun m => ?_⟩
  · show va_up y l (bt_c (y l)) j < _
    unfold va_up
    split
    · exact bt_c_lt (hy l)
    · exact hy j
  · have hj : j < l := hj
    show va_up y l (bt_c (y l)) j = 0
    unfold va_up
    rw [if_neg (by omega)]
    exact hlow j hj
  · show va_up y l (bt_c (y l)) j = y j
    unfold va_up
    rw [if_neg (by omega)]
  · unfold ss_m
    rw [e1, e2]
    exact ht3
  · unfold ss_m
    by_cases h : m / 64 = l
    · rw [h]
      exact ht4 _ (by omega)
    · rw [hlow _ (by omega), Nat.zero_testBit]
  · show ss_m (va_up y l (bt_c (y l))) m = _
    unfold ss_m va_up
    by_cases h : m / 64 = l
    · rw [if_pos h, h, ht5]
      congr 1
      rw [decide_eq_decide]
      omega
    · rw [if_neg h, show decide (m ≠ 64 * l + t) = true from decide_eq_true (fun q => h (by rw [q, e1])), Bool.and_true]
set_option maxRecDepth 10000 in
set_option maxHeartbeats 1000000 in
theorem l_Ss_takeLowest (hG : q_GG g) {hp : List va_E} {a : Nat} {y : Nat → Nat} (hy : ∀ j, y j < 2 ^ 64) (h_w0 : hp[a + 1]? = some (a_S y)) : ∀ (k l : Nat) (hp0 : List va_E), l + k = 469 → (∀ j, j < l → y j = 0) → hp0[a]? = some (o_Ss a (nI l)) → hp0[a + 1]? = some (a_S y) → hp0 = hp.set a (o_Ss a (nI l)) → q_J g m_Ss_takeLowest true (q_R 2 32 0 0) (q_rel (Z := Option Nat × Nat × (Nat → Nat)) (fun z => some (.int (match z.1 with | none => -1 | some n => nI n))) (fun z => (hp.set (a + 1) (a_S z.2.2)).set a (o_Ss a (nI z.2.1))) (tl_ok y)) 0 [some (.ref a), none] [] hp0 0 0 true := by
  intro k
  induction k with
  | zero =>
    intro l hp0 hl hlow h_s h_w e0
    have hl : l = 469 := by omega
    subst hl
    refine q_aload_n d_Ss_takeLowest_0 rfl rfl ?_
    refine q_get d_Ss_takeLowest_1 f_Ss_15 h_s rfl ?_
    refine q_sipush (v := 469) d_Ss_takeLowest_4 (by decide) ?_
    refine q_icmp_ge (tgt := 37) d_Ss_takeLowest_7 (by decide) (fun b7 => ?_) (fun b7 => ?_)
    · skip
      refine q_aload_n d_Ss_takeLowest_37 rfl rfl ?_
      refine q_get d_Ss_takeLowest_38 f_Ss_15 h_s rfl ?_
      refine q_sipush (v := 469) d_Ss_takeLowest_41 (by decide) ?_
      refine q_icmp_lt (tgt := 49) d_Ss_takeLowest_44 (by decide) (fun b44 => ?_) (fun b44 => ?_)
      · skip
        exact absurd b44 (nI_nlt (Nat.le_refl 469) (by decide))
      · skip
        refine q_iconst (v := (-1)) d_Ss_takeLowest_47 (by decide) ?_
        refine q_iret d_Ss_takeLowest_48 rfl ?_ (Nat.le_of_ble_eq_true rfl) (Nat.le_of_ble_eq_true rfl) (by decide)
        exact ⟨(none, 469, y), rfl, by show _ = (hp.set (a + 1) (a_S y)).set a _; rw [e0, q_same h_w0], Nat.le_refl _, hy, hlow, fun _ _ => rfl, hlow, rfl⟩
    · skip
      exact absurd (nI_le (Nat.le_refl 469) (by decide)) b7
  | succ k ih =>
    intro l hp0 hl hlow h_s h_w e0
    have hcl : (nI l).toNatClampNeg = l := nI_clamp (by omega)
    have hin : vp_in (nI l) 469 := vp_in_nI (by omega) (by decide)
    refine q_aload_n d_Ss_takeLowest_0 rfl rfl ?_
    refine q_get d_Ss_takeLowest_1 f_Ss_15 h_s rfl ?_
    refine q_sipush (v := 469) d_Ss_takeLowest_4 (by decide) ?_
    refine q_icmp_ge (tgt := 37) d_Ss_takeLowest_7 (by decide) (fun b7 => ?_) (fun b7 => ?_)
    · skip
      exact absurd b7 (nI_ge (show l < 469 by omega) (by decide))
    · skip
      refine q_aload_n d_Ss_takeLowest_10 rfl rfl ?_
      refine q_get d_Ss_takeLowest_11 f_Ss_11 h_s rfl ?_
      refine q_aload_n d_Ss_takeLowest_14 rfl rfl ?_
      refine q_get d_Ss_takeLowest_15 f_Ss_15 h_s rfl ?_
      refine q_lald d_Ss_takeLowest_18 h_w rfl hin ?_
      rw [hcl]
      refine q_lconst (v := 0) d_Ss_takeLowest_19 (by decide) ?_
      refine q_lcmp d_Ss_takeLowest_20 ?_
      refine q_if_ne (tgt := 37) d_Ss_takeLowest_21 (by decide) (fun b21 => ?_) (fun b21 => ?_)
      · skip
        have h0 : 0 < y l := by
          rcases Nat.eq_zero_or_pos (y l) with h | h
          · exact absurd (ss_lg.mpr (by rw [h]; rfl)) b21
          · exact h
        obtain ⟨t, ht1, ht2, ht3, ht4, ht5⟩ := bt_low h0 (hy l)
        have ht2 : s_nb (lN (y l)) 0 = nI t := ht2
        have hret : nI l * 64 + nI t = nI (64 * l + t) := by rw [show (64 : Int32) = nI 64 from rfl, pk_mul, nI_add, Nat.mul_comm]
        have hup : vp_updL (fun j => lN (y j)) l (lN (bt_c (y l))) = fun j => lN (va_up y l (bt_c (y l)) j) := by
          funext j
          unfold vp_updL va_up
          split <;> rfl
        refine q_aload_n d_Ss_takeLowest_37 rfl rfl ?_
        refine q_get d_Ss_takeLowest_38 f_Ss_15 h_s rfl ?_
        refine q_sipush (v := 469) d_Ss_takeLowest_41 (by decide) ?_
        refine q_icmp_lt (tgt := 49) d_Ss_takeLowest_44 (by decide) (fun b44 => ?_) (fun b44 => ?_)
        · skip
          refine q_aload_n d_Ss_takeLowest_49 rfl rfl ?_
          refine q_get d_Ss_takeLowest_50 f_Ss_11 h_s rfl ?_
          refine q_aload_n d_Ss_takeLowest_53 rfl rfl ?_
          refine q_get d_Ss_takeLowest_54 f_Ss_15 h_s rfl ?_
          refine q_lald d_Ss_takeLowest_57 h_w rfl hin ?_
          rw [hcl]
          refine q_iconst (v := 0) d_Ss_takeLowest_58 (by decide) ?_
          refine x_callS d_Ss_takeLowest_59 l_Ss_31 s_S_nthBit (c_S_nthBit hG (n := 0) (by decide)) rfl rfl (Nat.le_of_ble_eq_true rfl) (Nat.le_of_ble_eq_true rfl) (Nat.le_of_ble_eq_true rfl) (Nat.le_of_ble_eq_true rfl) ?_
          rw [ht2]
          refine q_istore_n d_Ss_takeLowest_62 rfl (by decide) rfl ?_
          refine q_aload_n d_Ss_takeLowest_63 rfl rfl ?_
          refine q_get d_Ss_takeLowest_64 f_Ss_11 h_s rfl ?_
          refine q_aload_n d_Ss_takeLowest_67 rfl rfl ?_
          refine q_get d_Ss_takeLowest_68 f_Ss_15 h_s rfl ?_
          refine q_dup2 d_Ss_takeLowest_71 rfl rfl ?_
          refine q_lald d_Ss_takeLowest_72 h_w rfl hin ?_
          rw [hcl]
          refine q_aload_n d_Ss_takeLowest_73 rfl rfl ?_
          refine q_get d_Ss_takeLowest_74 f_Ss_11 h_s rfl ?_
          refine q_aload_n d_Ss_takeLowest_77 rfl rfl ?_
          refine q_get d_Ss_takeLowest_78 f_Ss_15 h_s rfl ?_
          refine q_lald d_Ss_takeLowest_81 h_w rfl hin ?_
          rw [hcl]
          refine q_lconst (v := 1) d_Ss_takeLowest_82 (by decide) ?_
          refine q_lsub d_Ss_takeLowest_83 ?_
          refine q_land d_Ss_takeLowest_84 ?_
          rw [bt_cl (hy l)]
          refine x_last d_Ss_takeLowest_85 h_w rfl hin (fun hp1 e1 h_w => ?_)
          have h_s := q_keep e1 h_s (by omega)
          rw [hcl, hup] at e1 h_w
          refine q_aload_n d_Ss_takeLowest_86 rfl rfl ?_
          refine q_get d_Ss_takeLowest_87 f_Ss_15 h_s rfl ?_
          refine q_bipush (v := 64) d_Ss_takeLowest_90 (by decide) ?_
          refine q_imul d_Ss_takeLowest_92 ?_
          refine q_iload_n d_Ss_takeLowest_93 rfl ?_
          refine q_iadd d_Ss_takeLowest_94 ?_
          rw [hret]
          refine q_iret d_Ss_takeLowest_95 rfl ?_ (Nat.le_of_ble_eq_true rfl) (Nat.le_of_ble_eq_true rfl) (by decide)
          exact ⟨(some (64 * l + t), l, va_up y l (bt_c (y l))), rfl, by subst e1; rw [e0, List.set_comm _ _ (by omega)], tl_mk hy hlow (by omega) ht1 ht3 ht4 ht5⟩
        · skip
          exact absurd (nI_lt (show l < 469 by omega) (by decide)) b44
      · skip
        have h0 : y l = 0 := by
          have := ss_lg.mp b21
          rw [show (0 : Int64) = lN 0 from rfl] at this
          have h1 := congrArg (fun z : Int64 => z.toBitVec.toNat) this
          simp only [wb_tn (hy l), wb_tn (show 0 < 2 ^ 64 by decide)] at h1
          exact h1
        refine q_aload_n d_Ss_takeLowest_24 rfl rfl ?_
        refine q_dup d_Ss_takeLowest_25 rfl ?_
        refine q_get d_Ss_takeLowest_26 f_Ss_15 h_s rfl ?_
        refine q_iconst (v := 1) d_Ss_takeLowest_29 (by decide) ?_
        refine q_iadd d_Ss_takeLowest_30 ?_
        refine x_put d_Ss_takeLowest_31 f_Ss_15 h_s (Nat.le_of_ble_eq_true rfl) rfl rfl (fun hp2 e2 h_s => ?_)
        have h_w := q_keep e2 h_w (by omega)
        refine q_goto (tgt := 0) d_Ss_takeLowest_34 (by decide) ?_
        rw [nI_1] at e2 h_s
        have hlow2 : ∀ j, j < l + 1 → y j = 0 := fun j hj => by
          by_cases q : j = l
          · rw [q]; exact h0
          · exact hlow j (by omega)
        exact ih (l + 1) hp2 (by omega) hlow2 h_s h_w (by rw [e2, e0]; simp [List.set_set])
set_option maxRecDepth 10000 in
set_option maxHeartbeats 1000000 in
theorem c_Ss_takeLowest (hG : q_GG g) {hp : List va_E} {a l : Nat} {y : Nat → Nat} (hy : ∀ j, y j < 2 ^ 64) (h_s : hp[a]? = some (o_Ss a (nI l))) (h_w : hp[a + 1]? = some (a_S y)) (hl : l ≤ 469) (hlow : ∀ j, j < l → y j = 0) : q_C g m_Ss_takeLowest true (q_R 2 32 0 0) [.ref a] hp (q_rel (Z := Option Nat × Nat × (Nat → Nat)) (fun z => some (.int (match z.1 with | none => -1 | some n => nI n))) (fun z => (hp.set (a + 1) (a_S z.2.2)).set a (o_Ss a (nI z.2.1))) (tl_ok y)) := by
  refine q_C.of hG (by decide) (Nat.le_of_ble_eq_true rfl) ?_
  refine q_wrote ?_
  exact l_Ss_takeLowest hG hy h_w (469 - l) l hp (by omega) hlow h_s h_w (q_same h_s).symm

set_option maxRecDepth 10000 in
set_option maxHeartbeats 1000000 in
theorem l_Ss_nth (hG : q_GG g) {hp : List va_E} {a k : Nat} {l : Int32} {y : Nat → Nat} (hy : ∀ j, y j < 2 ^ 64) (h_s : hp[a]? = some (o_Ss a l)) (h_w : hp[a + 1]? = some (a_S y)) (hk : k < ss_c y 469) (hk2 : k < 2 ^ 30) : ∀ (q v : Nat), v + q = 469 → ss_c y v ≤ k → ∀ z1, q_J g m_Ss_nth false (q_R 2 34 0 0) (q_rel (Z := Nat) (fun z => some (.int (nI z))) (fun _ => hp) (fun z => z < 30016 ∧ ss_m y z = true ∧ ss_r y z = k)) 4 [some (.ref a), some (.int (nI k)), some (.int (nI (k - ss_c y v))), some (.int (nI v)), z1] [] hp 0 0 false := by
  intro q
  induction q with
  | zero =>
    intro v hv hc z1
    have hv : v = 469 := by omega
    subst hv
    omega
  | succ q ih =>
    intro v hv hc z1
    have hcl : (nI v).toNatClampNeg = v := nI_clamp (by omega)
    have hin : vp_in (nI v) 469 := vp_in_nI (by omega) (by decide)
    have hb64 := (pb_lb (hy v)).2
    refine q_iload_n d_Ss_nth_4 rfl ?_
    refine q_sipush (v := 469) d_Ss_nth_5 (by decide) ?_
    refine q_icmp_ge (tgt := 55) d_Ss_nth_8 (by decide) (fun b8 => ?_) (fun b8 => ?_)
    · skip
      exact absurd b8 (nI_ge (show v < 469 by omega) (by decide))
    · skip
      refine q_aload_n d_Ss_nth_11 rfl rfl ?_
      refine q_get d_Ss_nth_12 f_Ss_11 h_s rfl ?_
      refine q_iload_n d_Ss_nth_15 rfl ?_
      refine q_lald d_Ss_nth_16 h_w rfl hin ?_
      rw [hcl]
      refine x_callS d_Ss_nth_17 l_Ss_35 s_Lo_bitCount (c_Lo_bitCount hG) rfl rfl (Nat.le_of_ble_eq_true rfl) (Nat.le_of_ble_eq_true rfl) (Nat.le_of_ble_eq_true rfl) (Nat.le_of_ble_eq_true rfl) ?_
      rw [(pb_lb (hy v)).1]
      refine q_istore d_Ss_nth_20 (by decide) rfl ?_
      refine q_iload_n d_Ss_nth_22 rfl ?_
      refine q_iload d_Ss_nth_23 rfl ?_
      refine q_icmp_ge (tgt := 44) d_Ss_nth_25 (by decide) (fun b25 => ?_) (fun b25 => ?_)
      · skip
        have b25 : pb_cnt 64 (y v) ≤ k - ss_c y v := Nat.le_of_not_lt fun q => nI_ge q (by omega) b25
        have hsb : nI (k - ss_c y v) - nI (pb_cnt 64 (y v)) = nI (k - ss_c y (v + 1)) := by
          rw [pk_sub b25, show ss_c y (v + 1) = ss_c y v + pb_cnt 64 (y v) from rfl, Nat.sub_sub]
        refine q_iload_n d_Ss_nth_44 rfl ?_
        refine q_iload d_Ss_nth_45 rfl ?_
        refine q_isub d_Ss_nth_47 ?_
        refine q_istore_n d_Ss_nth_48 rfl (by decide) rfl ?_
        refine q_iinc d_Ss_nth_49 rfl (show _ + Int32.ofInt 1 = _ + 1 from rfl) (by decide) rfl ?_
        refine q_goto (tgt := 4) d_Ss_nth_52 (by decide) ?_
        rw [nI_1, hsb]
        exact ih (v + 1) (by omega) (by show ss_c y v + pb_cnt 64 (y v) ≤ k; omega) _
      · skip
        have b25 : k - ss_c y v < pb_cnt 64 (y v) := Nat.lt_of_not_le fun q => b25 (nI_le q (by omega))
        obtain ⟨t, t1, t2, t3, t4⟩ := bt_nth (k - ss_c y v) (y v) (hy v) b25
        refine q_iload_n d_Ss_nth_28 rfl ?_
        refine q_bipush (v := 64) d_Ss_nth_29 (by decide) ?_
        refine q_imul d_Ss_nth_31 ?_
        refine q_aload_n d_Ss_nth_32 rfl rfl ?_
        refine q_get d_Ss_nth_33 f_Ss_11 h_s rfl ?_
        refine q_iload_n d_Ss_nth_36 rfl ?_
        refine q_lald d_Ss_nth_37 h_w rfl hin ?_
        rw [hcl]
        refine q_iload_n d_Ss_nth_38 rfl ?_
        refine x_callS d_Ss_nth_39 l_Ss_31 s_S_nthBit (c_S_nthBit hG (n := k - ss_c y v) (by omega)) rfl rfl (Nat.le_of_ble_eq_true rfl) (Nat.le_of_ble_eq_true rfl) (Nat.le_of_ble_eq_true rfl) (Nat.le_of_ble_eq_true rfl) ?_
        refine q_iadd d_Ss_nth_42 ?_
        refine q_iret d_Ss_nth_43 rfl ?_ (Nat.le_of_ble_eq_true rfl) (Nat.le_of_ble_eq_true rfl) (by decide)
        refine ⟨64 * v + t, by rw [t2, show (64 : Int32) = nI 64 from rfl, pk_mul, nI_add, Nat.mul_comm], rfl, by omega, ?_, ?_⟩
        · unfold ss_m
          rw [show (64 * v + t) / 64 = v by omega, show (64 * v + t) % 64 = t by omega]
          exact t3
        · unfold ss_r
          rw [show (64 * v + t) / 64 = v by omega, show (64 * v + t) % 64 = t by omega]
          omega
set_option maxRecDepth 10000 in
set_option maxHeartbeats 1000000 in
theorem c_Ss_nth (hG : q_GG g) {hp : List va_E} {a k : Nat} {l : Int32} {y : Nat → Nat} (hy : ∀ j, y j < 2 ^ 64) (h_s : hp[a]? = some (o_Ss a l)) (h_w : hp[a + 1]? = some (a_S y)) (hk : k < ss_c y 469) (hk2 : k < 2 ^ 30) : q_C g m_Ss_nth false (q_R 2 34 0 0) [.ref a, .int (nI k)] hp (q_rel (Z := Nat) (fun z => some (.int (nI z))) (fun _ => hp) (fun z => z < 30016 ∧ ss_m y z = true ∧ ss_r y z = k)) := by
  refine q_C.of hG (by decide) (Nat.le_of_ble_eq_true rfl) ?_
  refine q_iload_n d_Ss_nth_0 rfl ?_
  refine q_istore_n d_Ss_nth_1 rfl (by decide) rfl ?_
  refine q_iconst (v := 0) d_Ss_nth_2 (by decide) ?_
  refine q_istore_n d_Ss_nth_3 rfl (by decide) rfl ?_
  exact l_Ss_nth hG hy h_s h_w hk hk2 469 0 (by omega) (Nat.zero_le _) _
end C5
