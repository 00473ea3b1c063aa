/-! Course, Tape.append, nthBit -/
section C3
variable {g : q_G}
def co_as (fm to : Int32) (i : Nat) (s : Nat → Int32) : Nat → Int32 := fun j => if j < i ∧ ¬ ((fm >>> (nI j &&& 31)) &&& 1 = 0) then s j ||| to else s j
theorem co_as_t {fm to : Int32} {i m : Nat} {s : Nat → Int32} (hm : m = i) (h : ¬ ((fm >>> (nI i &&& 31)) &&& 1 = 0)) : upd (co_as fm to i s) m (co_as fm to i s m ||| to) = co_as fm to (i + 1) s := by
  subst hm
  funext j
  unfold upd co_as
  by_cases hj : j = m
  · subst hj; simp [h]
  · have : j < m + 1 ↔ j < m := by omega
    simp [hj, this]
theorem co_as_f {fm to : Int32} {i : Nat} {s : Nat → Int32} (h : (fm >>> (nI i &&& 31)) &&& 1 = 0) : co_as fm to i s = co_as fm to (i + 1) s := by
  funext j
  unfold co_as
  by_cases hj : j = i
  · subst hj; simp [h]
  · have : j < i + 1 ↔ j < i := by omega
    simp [this]
theorem co_as_0 {fm to : Int32} {s : Nat → Int32} : co_as fm to 0 s = s := by funext j; simp [co_as]
def co_cs (s : Nat → Int32) : Nat → Int32
  | 0 => 0
  | i + 1 => co_cs s i + j_ib (s i)
def co_out (k f x z : Int32) : Int32 := if k = 33 then (if x = f then -1 else x) else if k = 43 then (if z - 1 ≤ x then -1 else x + 1) else if k = 45 then (if x ≤ 0 then -1 else x - 1) else if k = 61 then f else if k = 63 then (if x = f then x else -1) else x
theorem co_out_33 {f x z : Int32} : co_out 33 f x z = if x = f then -1 else x := rfl
theorem co_out_43 {f x z : Int32} : co_out 43 f x z = if z - 1 ≤ x then -1 else x + 1 := rfl
theorem co_out_45 {f x z : Int32} : co_out 45 f x z = if x ≤ 0 then -1 else x - 1 := rfl
theorem co_out_61 {f x z : Int32} : co_out 61 f x z = f := rfl
theorem co_out_63 {f x z : Int32} : co_out 63 f x z = if x = f then x else -1 := rfl
def s_cl (x : Int64) : Nat → Int64
  | 0 => x
  | i + 1 => s_cl x i &&& (s_cl x i - 1)
def s_nb (x : Int64) (n : Nat) : Int32 := j_lb ((s_cl x n &&& -s_cl x n) - 1)
def ta_by (x : Int64) (q : Nat) : Int32 := vp_nar .byte ((j_lu x (8 * nI q)).toInt32.toInt8.toInt32)
def ta_ap (x : Int64) (L i : Nat) (f : Nat → Int32) : Nat → Int32 := fun j => if L ≤ j ∧ j < L + i then ta_by x (j - L) else f j
theorem ta_ap_0 {x : Int64} {L : Nat} {f : Nat → Int32} : ta_ap x L 0 f = f := by
  funext j
  have : ¬ (L ≤ j ∧ j < L + 0) := by omega
  simp only [ta_ap, if_neg this]
theorem ta_ap_s {x : Int64} {L i m : Nat} {f : Nat → Int32} (hm : m = L + i) : upd (ta_ap x L i f) m (ta_by x i) = ta_ap x L (i + 1) f := by
  subst hm
  funext j
  unfold upd ta_ap
  by_cases hj : j = L + i
  · subst hj
    have h1 : L + i - L = i := by omega
    have h2 : L ≤ L + i ∧ L + i < L + (i + 1) := by omega
    simp [h1]
  · by_cases h2 : L ≤ j ∧ j < L + i
    · have h3 : L ≤ j ∧ j < L + (i + 1) := by omega
      simp [hj, h2, h3]
    · have h3 : ¬ (L ≤ j ∧ j < L + (i + 1)) := by omega
      simp only [if_neg hj, if_neg h2, if_neg h3]
set_option maxRecDepth 10000 in
set_option maxHeartbeats 1000000 in
theorem c_Co_reset (hG : q_GG g) {hp : List va_E} {a : Nat} {pc en : Int32} {s : Nat → Int32} (h_c : hp[a]? = some (o_Co a pc en)) (h_s : hp[a + 1]? = some (a_I 13 s)) : q_C g m_Co_reset true (q_R 1 16 0 0) [.ref a] hp (q_ret none ((hp.set a (o_Co a 1 0)).set (a + 1) (a_I 13 (fun j => if j < 13 then 0 else s j)))) := by
  refine q_C.of hG (by decide) (Nat.le_of_ble_eq_true rfl) ?_
  refine q_aload_n d_Co_reset_0 rfl rfl ?_
  refine q_iconst (v := 1) d_Co_reset_1 (by decide) ?_
  refine x_put d_Co_reset_2 f_Co_9 h_c (Nat.le_of_ble_eq_true rfl) rfl rfl (fun hp1 e1 h_c => ?_)
  have h_s := q_keep e1 h_s (by omega)
  refine q_aload_n d_Co_reset_5 rfl rfl ?_
  refine q_iconst (v := 0) d_Co_reset_6 (by decide) ?_
  refine x_put d_Co_reset_7 f_Co_28 h_c (Nat.le_of_ble_eq_true rfl) rfl rfl (fun hp2 e2 h_c => ?_)
  have h_s := q_keep e2 h_s (by omega)
  refine q_aload_n d_Co_reset_10 rfl rfl ?_
  refine q_get d_Co_reset_11 f_Co_15 h_c rfl ?_
  refine q_iconst (v := 0) d_Co_reset_14 (by decide) ?_
  refine x_callS d_Co_reset_15 l_Co_31 s_Ar_fillI (c_Ar_fillI hG h_s (by decide)) rfl rfl (Nat.le_of_ble_eq_true rfl) (Nat.le_of_ble_eq_true rfl) (Nat.le_of_ble_eq_true rfl) (Nat.le_of_ble_eq_true rfl) ?_
  refine q_vret d_Co_reset_18 rfl ?_ (Nat.le_of_ble_eq_true rfl) (Nat.le_of_ble_eq_true rfl) (by decide)
  exact ⟨rfl, by subst e1; subst e2; simp [List.set_set]⟩
set_option maxRecDepth 10000 in
set_option maxHeartbeats 1000000 in
theorem l_Co_addSteps {hp : List va_E} {a n : Nat} {fm to en : Int32} {s : Nat → Int32} (hn : n ≤ 13) : ∀ (k i : Nat) (hp0 : List va_E), i + k = n → hp0[a]? = some (o_Co a (nI n) en) → hp0[a + 1]? = some (a_I 13 (co_as fm to i s)) → hp0 = hp.set (a + 1) (a_I 13 (co_as fm to i s)) → q_J g m_Co_addSteps true (q_R 0 0 0 0) (q_ret none (hp.set (a + 1) (a_I 13 (co_as fm to n s)))) 2 [some (.ref a), some (.int fm), some (.int to), some (.int (nI i))] [] hp0 0 0 true := by
  intro k
  induction k with
  | zero =>
    intro i hp0 hi h_c h_s e0
    have hi : i = n := by omega
    subst hi
    refine q_iload_n d_Co_addSteps_2 rfl ?_
    refine q_aload_n d_Co_addSteps_3 rfl rfl ?_
    refine q_get d_Co_addSteps_4 f_Co_9 h_c rfl ?_
    refine q_icmp_ge (tgt := 34) d_Co_addSteps_7 (by decide) (fun b7 => ?_) (fun b7 => ?_)
    · skip
      refine q_vret d_Co_addSteps_34 rfl ?_ (Nat.le_of_ble_eq_true rfl) (Nat.le_of_ble_eq_true rfl) (by decide)
      exact ⟨rfl, e0⟩
    · skip
      exact absurd (nI_le (Nat.le_refl i) (by omega)) b7
  | succ k ih =>
    intro i hp0 hi h_c h_s e0
    have hcl : (nI i).toNatClampNeg = i := nI_clamp (by omega)
    have hin : vp_in (nI i) 13 := vp_in_nI (by omega) (by decide)
    refine q_iload_n d_Co_addSteps_2 rfl ?_
    refine q_aload_n d_Co_addSteps_3 rfl rfl ?_
    refine q_get d_Co_addSteps_4 f_Co_9 h_c rfl ?_
    refine q_icmp_ge (tgt := 34) d_Co_addSteps_7 (by decide) (fun b7 => ?_) (fun b7 => ?_)
    · skip
      exact absurd b7 (nI_ge (show i < n by omega) (by omega))
    · skip
      refine q_iload_n d_Co_addSteps_10 rfl ?_
      refine q_iload_n d_Co_addSteps_11 rfl ?_
      refine q_ishr d_Co_addSteps_12 ?_
      refine q_iconst (v := 1) d_Co_addSteps_13 (by decide) ?_
      refine q_iand d_Co_addSteps_14 ?_
      refine q_if_eq (tgt := 28) d_Co_addSteps_15 (by decide) (fun b15 => ?_) (fun b15 => ?_)
      · skip
        rw [co_as_f b15] at e0 h_s
        refine q_iinc d_Co_addSteps_28 rfl (show _ + Int32.ofInt 1 = _ + 1 from rfl) (by decide) rfl ?_
        refine q_goto (tgt := 2) d_Co_addSteps_31 (by decide) ?_
        rw [nI_1]
        exact ih (i + 1) hp0 (by omega) h_c h_s e0
      · skip
        refine q_aload_n d_Co_addSteps_18 rfl rfl ?_
        refine q_get d_Co_addSteps_19 f_Co_15 h_c rfl ?_
        refine q_iload_n d_Co_addSteps_22 rfl ?_
        refine q_dup2 d_Co_addSteps_23 rfl rfl ?_
        refine q_iald d_Co_addSteps_24 h_s rfl hin ?_
        refine q_iload_n d_Co_addSteps_25 rfl ?_
        refine q_ior d_Co_addSteps_26 ?_
        refine x_iast d_Co_addSteps_27 h_s rfl hin (fun hp1 e1 h_s => ?_)
        have h_c := q_keep e1 h_c (by omega)
        refine q_iinc d_Co_addSteps_28 rfl (show _ + Int32.ofInt 1 = _ + 1 from rfl) (by decide) rfl ?_
        refine q_goto (tgt := 2) d_Co_addSteps_31 (by decide) ?_
        rw [nI_1]
        rw [co_as_t hcl b15] at e1 h_s
        exact ih (i + 1) hp1 (by omega) h_c h_s (by rw [e1, e0, List.set_set])
set_option maxRecDepth 10000 in
set_option maxHeartbeats 1000000 in
theorem c_Co_addSteps (hG : q_GG g) {hp : List va_E} {a n : Nat} {fm to en : Int32} {s : Nat → Int32} (h_c : hp[a]? = some (o_Co a (nI n) en)) (h_s : hp[a + 1]? = some (a_I 13 s)) (hn : n ≤ 13) : q_C g m_Co_addSteps true (q_R 0 0 0 0) [.ref a, .int fm, .int to] hp (q_ret none (hp.set (a + 1) (a_I 13 (co_as fm to n s)))) := by
  refine q_C.of hG (by decide) (Nat.le_of_ble_eq_true rfl) ?_
  refine q_iconst (v := 0) d_Co_addSteps_0 (by decide) ?_
  refine q_istore_n d_Co_addSteps_1 rfl (by decide) rfl ?_
  refine q_wrote ?_
  exact l_Co_addSteps hn n 0 hp (by omega) h_c (by rw [co_as_0]; exact h_s) (by rw [co_as_0]; exact (q_same h_s).symm)
set_option maxRecDepth 10000 in
set_option maxHeartbeats 1000000 in
theorem l_Co_countSteps (hG : q_GG g) {hp : List va_E} {a n : Nat} {en : Int32} {s : Nat → Int32} (hn : n ≤ 13) (h_c : hp[a]? = some (o_Co a (nI n) en)) (h_s : hp[a + 1]? = some (a_I 13 s)) : ∀ (k i : Nat), i + k = n → q_J g m_Co_countSteps false (q_R 1 13 0 0) (q_ret (some (.int (co_cs s n))) hp) 4 [some (.ref a), some (.int (co_cs s i)), some (.int (nI i))] [] hp 0 0 false := by
  intro k
  induction k with
  | zero =>
    intro i hi
    have hi : i = n := by omega
    subst hi
    refine q_iload_n d_Co_countSteps_4 rfl ?_
    refine q_aload_n d_Co_countSteps_5 rfl rfl ?_
    refine q_get d_Co_countSteps_6 f_Co_9 h_c rfl ?_
    refine q_icmp_ge (tgt := 30) d_Co_countSteps_9 (by decide) (fun b9 => ?_) (fun b9 => ?_)
    · skip
      refine q_iload_n d_Co_countSteps_30 rfl ?_
      refine q_iret d_Co_countSteps_31 rfl ?_ (Nat.le_of_ble_eq_true rfl) (Nat.le_of_ble_eq_true rfl) (by decide)
      exact ⟨rfl, rfl⟩
    · skip
      exact absurd (nI_le (Nat.le_refl i) (by omega)) b9
  | succ k ih =>
    intro i hi
    have hcl : (nI i).toNatClampNeg = i := nI_clamp (by omega)
    have hin : vp_in (nI i) 13 := vp_in_nI (by omega) (by decide)
    refine q_iload_n d_Co_countSteps_4 rfl ?_
    refine q_aload_n d_Co_countSteps_5 rfl rfl ?_
    refine q_get d_Co_countSteps_6 f_Co_9 h_c rfl ?_
    refine q_icmp_ge (tgt := 30) d_Co_countSteps_9 (by decide) (fun b9 => ?_) (fun b9 => ?_)
    · skip
      exact absurd b9 (nI_ge (show i < n by omega) (by omega))
    · skip
      refine q_iload_n d_Co_countSteps_12 rfl ?_
      refine q_aload_n d_Co_countSteps_13 rfl rfl ?_
      refine q_get d_Co_countSteps_14 f_Co_15 h_c rfl ?_
      refine q_iload_n d_Co_countSteps_17 rfl ?_
      refine q_iald d_Co_countSteps_18 h_s rfl hin ?_
      refine x_callS d_Co_countSteps_19 l_Co_49 s_In_bitCount (c_In_bitCount hG) rfl rfl (Nat.le_of_ble_eq_true rfl) (Nat.le_of_ble_eq_true rfl) (Nat.le_of_ble_eq_true rfl) (Nat.le_of_ble_eq_true rfl) ?_
      refine q_iadd d_Co_countSteps_22 ?_
      refine q_istore_n d_Co_countSteps_23 rfl (by decide) rfl ?_
      refine q_iinc d_Co_countSteps_24 rfl (show _ + Int32.ofInt 1 = _ + 1 from rfl) (by decide) rfl ?_
      refine q_goto (tgt := 4) d_Co_countSteps_27 (by decide) ?_
      rw [nI_1, hcl]
      exact ih (i + 1) (by omega)
set_option maxRecDepth 10000 in
set_option maxHeartbeats 1000000 in
theorem c_Co_countSteps (hG : q_GG g) {hp : List va_E} {a n : Nat} {en : Int32} {s : Nat → Int32} (hn : n ≤ 13) (h_c : hp[a]? = some (o_Co a (nI n) en)) (h_s : hp[a + 1]? = some (a_I 13 s)) : q_C g m_Co_countSteps false (q_R 1 13 0 0) [.ref a] hp (q_ret (some (.int (co_cs s n))) hp) := by
  refine q_C.of hG (by decide) (Nat.le_of_ble_eq_true rfl) ?_
  refine q_iconst (v := 0) d_Co_countSteps_0 (by decide) ?_
  refine q_istore_n d_Co_countSteps_1 rfl (by decide) rfl ?_
  refine q_iconst (v := 0) d_Co_countSteps_2 (by decide) ?_
  refine q_istore_n d_Co_countSteps_3 rfl (by decide) rfl ?_
  exact l_Co_countSteps hG hn h_c h_s n 0 (by omega)
set_option maxRecDepth 10000 in
set_option maxHeartbeats 1000000 in
theorem c_Co_outcome (hG : q_GG g) {hp : List va_E} {a i : Nat} {pc en x z : Int32} {k f : Nat → Int32} (h_c : hp[a]? = some (o_Co a pc en)) (h_k : hp[a + 2]? = some (a_I 13 k)) (h_f : hp[a + 4]? = some (a_I 13 f)) (hi : i < 13) : q_C g m_Co_outcome false (q_R 0 0 0 0) [.ref a, .int (nI i), .int x, .int z] hp (q_ret (some (.int (co_out (k i) (f i) x z))) hp) := by
  refine q_C.of hG (by decide) (Nat.le_of_ble_eq_true rfl) ?_
  have hcl : (nI i).toNatClampNeg = i := nI_clamp (by omega)
  have hin : vp_in (nI i) 13 := vp_in_nI hi (by decide)
  refine q_aload_n d_Co_outcome_0 rfl rfl ?_
  refine q_get d_Co_outcome_1 f_Co_19 h_c rfl ?_
  refine q_iload_n d_Co_outcome_4 rfl ?_
  refine q_iald d_Co_outcome_5 h_k rfl hin ?_
  rw [hcl]
  by_cases k33 : k i = 33
  · refine q_lookup (off := 100) (tgt := 106) d_Co_outcome_6 (by decide) (by rw [k33]; decide) (by decide) ?_
    refine q_iload_n d_Co_outcome_106 rfl ?_
    refine q_aload_n d_Co_outcome_107 rfl rfl ?_
    refine q_get d_Co_outcome_108 f_Co_25 h_c rfl ?_
    refine q_iload_n d_Co_outcome_111 rfl ?_
    refine q_iald d_Co_outcome_112 h_f rfl hin ?_
    refine q_icmp_eq (tgt := 120) d_Co_outcome_113 (by decide) (fun b113 => ?_) (fun b113 => ?_)
    · skip
      try rw [hcl] at b113
      refine q_iconst (v := (-1)) d_Co_outcome_120 (by decide) ?_
      refine q_iret d_Co_outcome_121 rfl ?_ (Nat.le_of_ble_eq_true rfl) (Nat.le_of_ble_eq_true rfl) (by decide)
      exact ⟨by rw [k33, co_out_33] <;> first | rw [if_pos b113] | rw [if_neg b113], rfl⟩
    · skip
      try rw [hcl] at b113
      refine q_iload_n d_Co_outcome_116 rfl ?_
      refine q_goto (tgt := 121) d_Co_outcome_117 (by decide) ?_
      refine q_iret d_Co_outcome_121 rfl ?_ (Nat.le_of_ble_eq_true rfl) (Nat.le_of_ble_eq_true rfl) (by decide)
      exact ⟨by rw [k33, co_out_33] <;> first | rw [if_pos b113] | rw [if_neg b113], rfl⟩
  by_cases k43 : k i = 43
  · refine q_lookup (off := 50) (tgt := 56) d_Co_outcome_6 (by decide) (by rw [k43]; decide) (by decide) ?_
    refine q_iload_n d_Co_outcome_56 rfl ?_
    refine q_iload_n d_Co_outcome_57 rfl ?_
    refine q_iconst (v := 1) d_Co_outcome_58 (by decide) ?_
    refine q_isub d_Co_outcome_59 ?_
    refine q_icmp_ge (tgt := 69) d_Co_outcome_60 (by decide) (fun b60 => ?_) (fun b60 => ?_)
    · skip
      refine q_iconst (v := (-1)) d_Co_outcome_69 (by decide) ?_
      refine q_iret d_Co_outcome_70 rfl ?_ (Nat.le_of_ble_eq_true rfl) (Nat.le_of_ble_eq_true rfl) (by decide)
      exact ⟨by rw [k43, co_out_43] <;> first | rw [if_pos b60] | rw [if_neg b60], rfl⟩
    · skip
      refine q_iload_n d_Co_outcome_63 rfl ?_
      refine q_iconst (v := 1) d_Co_outcome_64 (by decide) ?_
      refine q_iadd d_Co_outcome_65 ?_
      refine q_goto (tgt := 70) d_Co_outcome_66 (by decide) ?_
      refine q_iret d_Co_outcome_70 rfl ?_ (Nat.le_of_ble_eq_true rfl) (Nat.le_of_ble_eq_true rfl) (by decide)
      exact ⟨by rw [k43, co_out_43] <;> first | rw [if_pos b60] | rw [if_neg b60], rfl⟩
  by_cases k45 : k i = 45
  · refine q_lookup (off := 65) (tgt := 71) d_Co_outcome_6 (by decide) (by rw [k45]; decide) (by decide) ?_
    refine q_iload_n d_Co_outcome_71 rfl ?_
    refine q_if_le (tgt := 81) d_Co_outcome_72 (by decide) (fun b72 => ?_) (fun b72 => ?_)
    · skip
      refine q_iconst (v := (-1)) d_Co_outcome_81 (by decide) ?_
      refine q_iret d_Co_outcome_82 rfl ?_ (Nat.le_of_ble_eq_true rfl) (Nat.le_of_ble_eq_true rfl) (by decide)
      exact ⟨by rw [k45, co_out_45] <;> first | rw [if_pos b72] | rw [if_neg b72], rfl⟩
    · skip
      refine q_iload_n d_Co_outcome_75 rfl ?_
      refine q_iconst (v := 1) d_Co_outcome_76 (by decide) ?_
      refine q_isub d_Co_outcome_77 ?_
      refine q_goto (tgt := 82) d_Co_outcome_78 (by decide) ?_
      refine q_iret d_Co_outcome_82 rfl ?_ (Nat.le_of_ble_eq_true rfl) (Nat.le_of_ble_eq_true rfl) (by decide)
      exact ⟨by rw [k45, co_out_45] <;> first | rw [if_pos b72] | rw [if_neg b72], rfl⟩
  by_cases k61 : k i = 61
  · refine q_lookup (off := 77) (tgt := 83) d_Co_outcome_6 (by decide) (by rw [k61]; decide) (by decide) ?_
    refine q_aload_n d_Co_outcome_83 rfl rfl ?_
    refine q_get d_Co_outcome_84 f_Co_25 h_c rfl ?_
    refine q_iload_n d_Co_outcome_87 rfl ?_
    refine q_iald d_Co_outcome_88 h_f rfl hin ?_
    refine q_iret d_Co_outcome_89 rfl ?_ (Nat.le_of_ble_eq_true rfl) (Nat.le_of_ble_eq_true rfl) (by decide)
    exact ⟨by rw [k61, co_out_61] <;> rw [hcl], rfl⟩
  by_cases k63 : k i = 63
  · refine q_lookup (off := 84) (tgt := 90) d_Co_outcome_6 (by decide) (by rw [k63]; decide) (by decide) ?_
    refine q_iload_n d_Co_outcome_90 rfl ?_
    refine q_aload_n d_Co_outcome_91 rfl rfl ?_
    refine q_get d_Co_outcome_92 f_Co_25 h_c rfl ?_
    refine q_iload_n d_Co_outcome_95 rfl ?_
    refine q_iald d_Co_outcome_96 h_f rfl hin ?_
    refine q_icmp_ne (tgt := 104) d_Co_outcome_97 (by decide) (fun b97 => ?_) (fun b97 => ?_)
    · skip
      try rw [hcl] at b97
      refine q_iconst (v := (-1)) d_Co_outcome_104 (by decide) ?_
      refine q_iret d_Co_outcome_105 rfl ?_ (Nat.le_of_ble_eq_true rfl) (Nat.le_of_ble_eq_true rfl) (by decide)
      exact ⟨by rw [k63, co_out_63] <;> first | rw [if_neg b97] | rw [if_pos b97], rfl⟩
    · skip
      try rw [hcl] at b97
      refine q_iload_n d_Co_outcome_100 rfl ?_
      refine q_goto (tgt := 105) d_Co_outcome_101 (by decide) ?_
      refine q_iret d_Co_outcome_105 rfl ?_ (Nat.le_of_ble_eq_true rfl) (Nat.le_of_ble_eq_true rfl) (by decide)
      exact ⟨by rw [k63, co_out_63] <;> first | rw [if_neg b97] | rw [if_pos b97], rfl⟩
  refine q_lookup (off := 116) (tgt := 122) d_Co_outcome_6 (by decide) (by show Op.lookupswitch.offset [(33, 100), (43, 50), (45, 65), (61, 77), (63, 84)] 116 _ = _; rw [lv_osw (a := 33) k33 (by decide), lv_osw (a := 43) k43 (by decide), lv_osw (a := 45) k45 (by decide), lv_osw (a := 61) k61 (by decide), lv_osw (a := 63) k63 (by decide)]; rfl) (by decide) ?_
  refine q_iload_n d_Co_outcome_122 rfl ?_
  refine q_iret d_Co_outcome_123 rfl ?_ (Nat.le_of_ble_eq_true rfl) (Nat.le_of_ble_eq_true rfl) (by decide)
  exact ⟨by simp_all [co_out], rfl⟩
set_option maxRecDepth 10000 in
set_option maxHeartbeats 1000000 in
theorem l_S_nthBit (hG : q_GG g) {hp : List va_E} {n : Nat} {x : Int64} (hn : n < 2 ^ 31) : ∀ (k i : Nat), i + k = n → q_J g m_S_nthBit false (q_R 1 13 0 0) (q_ret (some (.int (s_nb x n))) hp) 5 [some (.long x), none, some (.int (nI n)), some (.long (s_cl x i)), none, some (.int (nI i))] [] hp 0 0 false := by
  intro k
  induction k with
  | zero =>
    intro i hi
    have hi : i = n := by omega
    subst hi
    refine q_iload d_S_nthBit_5 rfl ?_
    refine q_iload_n d_S_nthBit_7 rfl ?_
    refine q_icmp_ge (tgt := 23) d_S_nthBit_8 (by decide) (fun b8 => ?_) (fun b8 => ?_)
    · skip
      refine q_lload_n d_S_nthBit_23 rfl ?_
      refine q_lload_n d_S_nthBit_24 rfl ?_
      refine q_lneg d_S_nthBit_25 ?_
      refine q_land d_S_nthBit_26 ?_
      refine q_lconst (v := 1) d_S_nthBit_27 (by decide) ?_
      refine q_lsub d_S_nthBit_28 ?_
      refine x_callS d_S_nthBit_29 l_S_203 s_Lo_bitCount (c_Lo_bitCount hG) rfl rfl (Nat.le_of_ble_eq_true rfl) (Nat.le_of_ble_eq_true rfl) (Nat.le_of_ble_eq_true rfl) (Nat.le_of_ble_eq_true rfl) ?_
      refine q_iret d_S_nthBit_32 rfl ?_ (Nat.le_of_ble_eq_true rfl) (Nat.le_of_ble_eq_true rfl) (by decide)
      exact ⟨rfl, rfl⟩
    · skip
      exact absurd (nI_le (Nat.le_refl i) hn) b8
  | succ k ih =>
    intro i hi
    refine q_iload d_S_nthBit_5 rfl ?_
    refine q_iload_n d_S_nthBit_7 rfl ?_
    refine q_icmp_ge (tgt := 23) d_S_nthBit_8 (by decide) (fun b8 => ?_) (fun b8 => ?_)
    · skip
      exact absurd b8 (nI_ge (show i < n by omega) hn)
    · skip
      refine q_lload_n d_S_nthBit_11 rfl ?_
      refine q_lload_n d_S_nthBit_12 rfl ?_
      refine q_lconst (v := 1) d_S_nthBit_13 (by decide) ?_
      refine q_lsub d_S_nthBit_14 ?_
      refine q_land d_S_nthBit_15 ?_
      refine q_lstore_n d_S_nthBit_16 rfl (by decide) rfl ?_
      refine q_iinc d_S_nthBit_17 rfl (show _ + Int32.ofInt 1 = _ + 1 from rfl) (by decide) rfl ?_
      refine q_goto (tgt := 5) d_S_nthBit_20 (by decide) ?_
      rw [nI_1]
      exact ih (i + 1) (by omega)
set_option maxRecDepth 10000 in
set_option maxHeartbeats 1000000 in
theorem c_S_nthBit (hG : q_GG g) {hp : List va_E} {n : Nat} {x : Int64} (hn : n < 2 ^ 31) : q_C g m_S_nthBit false (q_R 1 13 0 0) [.long x, .int (nI n)] hp (q_ret (some (.int (s_nb x n))) hp) := by
  refine q_C.of hG (by decide) (Nat.le_of_ble_eq_true rfl) ?_
  refine q_lload_n d_S_nthBit_0 rfl ?_
  refine q_lstore_n d_S_nthBit_1 rfl (by decide) rfl ?_
  refine q_iconst (v := 0) d_S_nthBit_2 (by decide) ?_
  refine q_istore d_S_nthBit_3 (by decide) rfl ?_
  exact l_S_nthBit hG hn n 0 (by omega)
set_option maxRecDepth 10000 in
set_option maxHeartbeats 1000000 in
theorem l_Ta_append {hp : List va_E} {a n L : Nat} {x : Int64} {f : Nat → Int32} (hL : L + n ≤ 100) : ∀ (k i : Nat) (hp0 : List va_E), i + k = n → hp0[a]? = some (o_Ta a (nI L)) → hp0[a + 1]? = some (a_B 100 (ta_ap x L i f)) → hp0 = hp.set (a + 1) (a_B 100 (ta_ap x L i f)) → q_J g m_Ta_append true (q_R 0 0 0 0) (q_ret (some (.int 1)) ((hp.set (a + 1) (a_B 100 (ta_ap x L n f))).set a (o_Ta a (nI (L + n))))) 16 [some (.ref a), some (.int (nI n)), some (.long x), none, some (.int (nI i))] [] hp0 0 0 true := by
  intro k
  induction k with
  | zero =>
    intro i hp0 hi h_t h_b e0
    have hi : i = n := by omega
    subst hi
    refine q_iload d_Ta_append_16 rfl ?_
    refine q_iload_n d_Ta_append_18 rfl ?_
    refine q_icmp_ge (tgt := 49) d_Ta_append_19 (by decide) (fun b19 => ?_) (fun b19 => ?_)
    · skip
      refine q_aload_n d_Ta_append_49 rfl rfl ?_
      refine q_dup d_Ta_append_50 rfl ?_
      refine q_get d_Ta_append_51 f_Ta_15 h_t rfl ?_
      refine q_iload_n d_Ta_append_54 rfl ?_
      refine q_iadd d_Ta_append_55 ?_
      refine x_put d_Ta_append_56 f_Ta_15 h_t (Nat.le_of_ble_eq_true rfl) rfl rfl (fun hp1 e1 h_t => ?_)
      have h_b := q_keep e1 h_b (by omega)
      refine q_iconst (v := 1) d_Ta_append_59 (by decide) ?_
      refine q_zret d_Ta_append_60 rfl (by decide) ?_ (Nat.le_of_ble_eq_true rfl) (Nat.le_of_ble_eq_true rfl) (by decide)
      exact ⟨rfl, by rw [e1, e0, nI_add]; rfl⟩
    · skip
      exact absurd (nI_le (Nat.le_refl i) (by omega)) b19
  | succ k ih =>
    intro i hp0 hi h_t h_b e0
    have hcl : (nI (L + i)).toNatClampNeg = L + i := nI_clamp (by omega)
    have hin : vp_in (nI (L + i)) 100 := vp_in_nI (by omega) (by decide)
    refine q_iload d_Ta_append_16 rfl ?_
    refine q_iload_n d_Ta_append_18 rfl ?_
    refine q_icmp_ge (tgt := 49) d_Ta_append_19 (by decide) (fun b19 => ?_) (fun b19 => ?_)
    · skip
      exact absurd b19 (nI_ge (show i < n by omega) (by omega))
    · skip
      refine q_aload_n d_Ta_append_22 rfl rfl ?_
      refine q_get d_Ta_append_23 f_Ta_9 h_t rfl ?_
      refine q_aload_n d_Ta_append_26 rfl rfl ?_
      refine q_get d_Ta_append_27 f_Ta_15 h_t rfl ?_
      refine q_iload d_Ta_append_30 rfl ?_
      refine q_iadd d_Ta_append_32 ?_
      refine q_lload_n d_Ta_append_33 rfl ?_
      refine q_bipush (v := 8) d_Ta_append_34 (by decide) ?_
      refine q_iload d_Ta_append_36 rfl ?_
      refine q_imul d_Ta_append_38 ?_
      refine q_lushr d_Ta_append_39 ?_
      refine q_l2i d_Ta_append_40 ?_
      refine q_i2b d_Ta_append_41 ?_
      rw [nI_add]
      refine x_bast d_Ta_append_42 h_b rfl hin (fun hp1 e1 h_b => ?_)
      have h_t := q_keep e1 h_t (by omega)
      refine q_iinc d_Ta_append_43 rfl (show _ + Int32.ofInt 1 = _ + 1 from rfl) (by decide) rfl ?_
      refine q_goto (tgt := 16) d_Ta_append_46 (by decide) ?_
      rw [nI_1]
      have hf := ta_ap_s (x := x) (L := L) (f := f) hcl
      have e1 : hp1 = hp0.set (a + 1) (a_B 100 (upd (ta_ap x L i f) (nI (L + i)).toNatClampNeg (ta_by x i))) := e1
      have h_b : hp1[a + 1]? = some (a_B 100 (upd (ta_ap x L i f) (nI (L + i)).toNatClampNeg (ta_by x i))) := h_b
      rw [hf] at e1 h_b
      exact ih (i + 1) hp1 (by omega) h_t h_b (by rw [e1, e0, List.set_set])
set_option maxRecDepth 10000 in
set_option maxHeartbeats 1000000 in
theorem c_Ta_append (hG : q_GG g) {hp : List va_E} {a n L : Nat} {x : Int64} {f : Nat → Int32} (h_t : hp[a]? = some (o_Ta a (nI L))) (h_b : hp[a + 1]? = some (a_B 100 f)) (hL : L + n ≤ 100) : q_C g m_Ta_append true (q_R 0 0 0 0) [.ref a, .int (nI n), .long x] hp (q_ret (some (.int 1)) ((hp.set (a + 1) (a_B 100 (ta_ap x L n f))).set a (o_Ta a (nI (L + n))))) := by
  refine q_C.of hG (by decide) (Nat.le_of_ble_eq_true rfl) ?_
  have hs : (100 : Int32) - nI L = nI (100 - L) := pk_sub (show L ≤ 100 by omega)
  refine q_iload_n d_Ta_append_0 rfl ?_
  refine q_bipush (v := 100) d_Ta_append_1 (by decide) ?_
  refine q_aload_n d_Ta_append_3 rfl rfl ?_
  refine q_get d_Ta_append_4 f_Ta_15 h_t rfl ?_
  refine q_isub d_Ta_append_7 ?_
  refine q_icmp_le (tgt := 13) d_Ta_append_8 (by decide) (fun b8 => ?_) (fun b8 => ?_)
  · skip
    refine q_iconst (v := 0) d_Ta_append_13 (by decide) ?_
    refine q_istore d_Ta_append_14 (by decide) rfl ?_
    refine q_wrote ?_
    exact l_Ta_append hL n 0 hp (by omega) h_t (by rw [ta_ap_0]; exact h_b) (by rw [ta_ap_0]; exact (q_same h_b).symm)
  · skip
    exact absurd (by rw [hs]; exact nI_le (by omega) (by omega)) b8
set_option maxRecDepth 10000 in
set_option maxHeartbeats 1000000 in
theorem c_Ta_append0 (hG : q_GG g) {hp : List va_E} {a n L : Nat} {x : Int64} (h_t : hp[a]? = some (o_Ta a (nI L))) (hL : L ≤ 100) (hn : n < 100) (h : 100 < L + n) : q_C g m_Ta_append true (q_R 0 0 0 0) [.ref a, .int (nI n), .long x] hp (q_ret (some (.int 0)) hp) := by
  refine q_C.of hG (by decide) (Nat.le_of_ble_eq_true rfl) ?_
  have hs : (100 : Int32) - nI L = nI (100 - L) := pk_sub (show L ≤ 100 by omega)
  refine q_iload_n d_Ta_append_0 rfl ?_
  refine q_bipush (v := 100) d_Ta_append_1 (by decide) ?_
  refine q_aload_n d_Ta_append_3 rfl rfl ?_
  refine q_get d_Ta_append_4 f_Ta_15 h_t rfl ?_
  refine q_isub d_Ta_append_7 ?_
  refine q_icmp_le (tgt := 13) d_Ta_append_8 (by decide) (fun b8 => ?_) (fun b8 => ?_)
  · skip
    exact absurd (by rw [← hs]; exact b8) (nI_ge (show 100 - L < n by omega) (by omega))
  · skip
    refine q_iconst (v := 0) d_Ta_append_11 (by decide) ?_
    refine q_zret d_Ta_append_12 rfl (by decide) ?_ (Nat.le_of_ble_eq_true rfl) (Nat.le_of_ble_eq_true rfl) (by decide)
    exact ⟨rfl, rfl⟩
end C3
