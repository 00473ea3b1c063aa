/-! bytes; feed on both sides -/
section M17
variable {g : q_G}
theorem by_255 (i : Nat) : (255 : BitVec 64).getLsbD i = decide (i < 8) := by
  have h : (255 : BitVec 64).getLsbD i = (255 % 2 ^ 64).testBit i := rfl
  rw [h, show 255 % 2 ^ 64 = 2 ^ 8 - 1 from rfl, Nat.testBit_two_pow_sub_one]
theorem by_255b (i : Nat) : (255 : BitVec 32).getLsbD i = decide (i < 8) := by
  have h : (255 : BitVec 32).getLsbD i = (255 % 2 ^ 32).testBit i := rfl
  rw [h, show 255 % 2 ^ 32 = 2 ^ 8 - 1 from rfl, Nat.testBit_two_pow_sub_one]
theorem by_r (Y i : Nat) : (nI (Y % 256)).toBitVec.getLsbD i = (decide (i < 8) && Y.testBit i) := by
  show (BitVec.ofNat 32 (Y % 256)).getLsbD i = _
  rw [BitVec.getLsbD_ofNat, show Y % 256 = Y % 2 ^ 8 from rfl, Nat.testBit_mod_two_pow]
  by_cases h : i < 8
  · simp [h, show i < 32 by omega]
  · simp [h]
theorem by_2 (Y : Nat) : (lN Y).toInt32.toInt8.toInt32.toInt8.toInt32 &&& 255 = nI (Y % 256) := by
  apply Int32.toBitVec_inj.mp
  apply BitVec.eq_of_getLsbD_eq
  intro i hi
  rw [by_r, Int32.toBitVec_and, BitVec.getLsbD_and, show ((255 : Int32).toBitVec).getLsbD i = decide (i < 8) from by_255b i]
  by_cases h : i < 8
  · simp only [h, decide_true, Bool.and_true, Bool.true_and]
    rw [Int8.toBitVec_toInt32, BitVec.getLsbD_signExtend, Int32.toBitVec_toInt8, if_pos h, BitVec.getLsbD_signExtend, if_pos (by omega), Int8.toBitVec_toInt32, BitVec.getLsbD_signExtend, if_pos h, Int32.toBitVec_toInt8, BitVec.getLsbD_signExtend, if_pos (by omega), Int64.toBitVec_toInt32, BitVec.getLsbD_signExtend, if_pos (by omega)]
    simp only [show i < 32 by omega, h, decide_true, Bool.true_and]
    show (BitVec.ofNat 64 Y).getLsbD i = _
    rw [BitVec.getLsbD_ofNat]
    simp [show i < 64 by omega]
  · simp [h]
theorem by_s : ∀ q, q < 8 → (((nI (8 * q)).toInt64 &&& 63).toBitVec.smod 64).toNat = 8 * q := by decide +kernel
theorem by_1 {X q : Nat} (hq : q < 8) : (lN X >>> ((nI (8 * q)).toInt64 &&& 63) &&& 255).toInt32 = nI (X / 2 ^ (8 * q) % 256) := by
  apply Int32.toBitVec_inj.mp
  apply BitVec.eq_of_getLsbD_eq
  intro i hi
  rw [by_r, Int64.toBitVec_toInt32, BitVec.getLsbD_signExtend, if_pos (by omega), Int64.toBitVec_and, BitVec.getLsbD_and, show ((255 : Int64).toBitVec).getLsbD i = decide (i < 8) from by_255 i]
  by_cases h : i < 8
  · simp only [h, hi, decide_true, Bool.and_true, Bool.true_and]
    rw [Int64.toBitVec_shiftRight]
    show ((lN X).toBitVec.sshiftRight (((nI (8 * q)).toInt64 &&& 63).toBitVec.smod 64).toNat).getLsbD i = _
    rw [by_s q hq, BitVec.getLsbD_sshiftRight, if_pos (by omega), Nat.testBit_div_two_pow]
    simp only [show ¬ 64 ≤ i by omega, decide_false, Bool.not_false, Bool.true_and]
    show (BitVec.ofNat 64 X).getLsbD (8 * q + i) = _
    rw [BitVec.getLsbD_ofNat]
    simp [show i + 8 * q < 64 by omega, Nat.add_comm]
  · simp [h]
/-- the tape with bytes behind it -/
def t_ap (X n k : Nat) (tb : Nat → Nat) : Nat → Nat := fun j => if n ≤ j ∧ j < n + k then X / 2 ^ (8 * (j - n)) % 256 else tb j
theorem t_ok.ap {X n k : Nat} {f : Nat → Int32} {tb : Nat → Nat} (hX : X < 2 ^ 64) (h : t_ok n f tb) (hk : k ≤ 8) (hn : n + k ≤ 100) : t_ok (n + k) (ta_ap (lN X) n k f) (t_ap X n k tb) := by
  refine ⟨hn, fun j hj => ?_⟩
  unfold ta_ap t_ap
  by_cases q : n ≤ j ∧ j < n + k
  · rw [if_pos q, if_pos q]
    refine ⟨?_, Nat.mod_lt _ (by decide)⟩
    unfold ta_by
    rw [show (8 : Int32) = nI 8 from rfl, pk_mul, pb_lu hX _ (by omega)]
    exact by_2 _
  · rw [if_neg q, if_neg q]
    exact h.2 j (by omega)
theorem t_ap_lt {X n k : Nat} {tb : Nat → Nat} (h : m_T n tb) (hn : n + k ≤ 100) : m_T (n + k) (t_ap X n k tb) := by
  refine ⟨hn, fun j hj => ?_⟩
  unfold t_ap
  by_cases q : n ≤ j ∧ j < n + k
  · rw [if_pos q]
    exact Nat.mod_lt _ (by decide)
  · rw [if_neg q]
    exact h.2 j (by omega)
def m_ap (X n i : Nat) (f : Nat → Int32) : Nat → Int32 := fun j => if n ≤ j ∧ j < n + i then nI (X / 2 ^ (8 * (j - n)) % 256) else f j
theorem m_ap_s {X n i : Nat} {f : Nat → Int32} : upd (m_ap X n i f) (n + i) (nI (X / 2 ^ (8 * i) % 256)) = m_ap X n (i + 1) f := by
  funext j
  unfold upd m_ap
  by_cases h : j = n + i
  · subst h
    rw [if_pos rfl, if_pos (by omega), Nat.add_sub_cancel_left]
  · rw [if_neg h]
    by_cases q : n ≤ j ∧ j < n + i
    · rw [if_pos q, if_pos (by omega)]
    · rw [if_neg q, if_neg (by omega)]
theorem m_ap_0 {X n : Nat} {f : Nat → Int32} : m_ap X n 0 f = f := by
  funext j
  unfold m_ap
  rw [if_neg (by omega)]
abbrev m_fb (x : Int32) : Prop := x < 1 ∨ 8 < x
set_option maxRecDepth 10000 in
set_option maxHeartbeats 2000000 in
theorem l_Mo_feed {b : List va_E} {m0 : Nat → Int32} {A0 : Nat → Nat → Int32} {X n k : Nat} (hk : k ≤ 8) (hn : n + k ≤ 100) : ∀ (c i : Nat), i + c = k → ∀ (m : Nat → Int32) (A : Nat → Nat → Int32) (hp : List va_E), M_A b m A hp → m 0 = 0 → m 2 = nI (n + i) → A 0 = m_ap X n i (A0 0) → mo_K [0, 2] m0 m → mo_K [0] A0 A → q_J g m_Mo_feed true (q_R 0 0 0 0) (q_mo (some (.int (nI (n + k)))) b (fun m' A' => m' 0 = 0 ∧ m' 2 = nI (n + k) ∧ A' 0 = m_ap X n k (A0 0) ∧ mo_K [0, 2] m0 m' ∧ mo_K [0] A0 A')) 45 [some (.ref 84), some (.int (nI k)), some (.long (lN X)), none, some (.int (nI i))] [] hp 0 0 true := by
  intro c
  induction c with
  | zero =>
    intro i hi m A hp hA v0 v2 a0 km kA
    refine q_iload d_Mo_feed_45 rfl ?_
    refine q_iload_n d_Mo_feed_47 rfl ?_
    refine q_icmp_ge (tgt := 88) d_Mo_feed_48 (by decide) (fun b48 => ?_) (fun b48 => ?_)
    · skip
      refine q_aload_n d_Mo_feed_88 rfl rfl ?_
      refine q_get d_Mo_feed_89 f_Mo_93 hA.1 rfl ?_
      rw [v2]
      refine q_iret d_Mo_feed_92 rfl ?_ (Nat.le_of_ble_eq_true rfl) (Nat.le_of_ble_eq_true rfl) (by decide)
      rw [show i = k by omega] at v2 a0 ⊢
      exact ⟨(_, _, _), rfl, rfl, hA, v0, v2, a0, km, kA⟩
    · skip
      exact absurd (nI_le (by omega) (by omega)) b48
  | succ c ih =>
    intro i hi m A hp hA v0 v2 a0 km kA
    refine q_iload d_Mo_feed_45 rfl ?_
    refine q_iload_n d_Mo_feed_47 rfl ?_
    refine q_icmp_ge (tgt := 88) d_Mo_feed_48 (by decide) (fun b48 => ?_) (fun b48 => ?_)
    · skip
      exact absurd b48 (nI_ge (show i < k by omega) (by omega))
    · skip
      refine q_aload_n d_Mo_feed_51 rfl rfl ?_
      refine q_get d_Mo_feed_52 f_Mo_7 hA.1 rfl ?_
      refine q_aload_n d_Mo_feed_55 rfl rfl ?_
      refine q_get d_Mo_feed_56 f_Mo_93 hA.1 rfl ?_
      rw [v2]
      refine q_lload_n d_Mo_feed_59 rfl ?_
      refine q_bipush (v := 8) d_Mo_feed_60 (by decide) ?_
      refine q_iload d_Mo_feed_62 rfl ?_
      refine q_imul d_Mo_feed_64 ?_
      rw [show (8 : Int32) = nI 8 from rfl, pk_mul]
      refine q_lshr d_Mo_feed_65 ?_
      refine q_ldc2 d_Mo_feed_66 c_Mo_96 ?_
      refine q_land d_Mo_feed_69 ?_
      refine q_l2i d_Mo_feed_70 ?_
      rw [by_1 (show i < 8 by omega)]
      refine x_iast d_Mo_feed_71 hA.a0 rfl (vp_in_nI (show n + i < 100 by omega) (by decide)) (fun hp1 e1 _ => ?_)
      obtain ⟨A, hA, u0, nn⟩ := hA.st0 e1
      rw [a0] at u0
      rw [nI_clamp (show n + i < 2 ^ 31 by omega), m_ap_s] at u0
      have a0 := u0
      have kA := kA.put nn (by decide)
      refine q_aload_n d_Mo_feed_72 rfl rfl ?_
      refine q_dup d_Mo_feed_73 rfl ?_
      refine q_get d_Mo_feed_74 f_Mo_93 hA.1 rfl ?_
      rw [v2]
      refine q_iconst (v := 1) d_Mo_feed_77 (by decide) ?_
      refine q_iadd d_Mo_feed_78 ?_
      refine x_put d_Mo_feed_79 f_Mo_93 hA.1 (Nat.le_of_ble_eq_true rfl) rfl rfl (fun hp2 e2 _ => ?_)
      obtain ⟨m, hA, v2, nn⟩ := hA.put (k := 2) (by decide) e2
      rw [nI_1] at v2
      have v0 := (nn 0 (by decide)).trans v0
      have km := km.put nn (by decide)
      refine q_iinc d_Mo_feed_82 rfl (show _ + Int32.ofInt 1 = _ + 1 from rfl) (by decide) rfl ?_
      refine q_goto (tgt := 45) d_Mo_feed_85 (by decide) ?_
      rw [nI_1]
      exact ih (i + 1) (by omega) m A _ hA v0 v2 a0 km kA
set_option maxRecDepth 10000 in
set_option maxHeartbeats 2000000 in
theorem c_Mo_feed (hG : q_GG g) {b hp : List va_E} {m : Nat → Int32} {A : Nat → Nat → Int32} {X n k : Nat} (hA : M_A b m A hp) (v2 : m 2 = nI n) (hk1 : 1 ≤ k) (hk : k ≤ 8) (hn : n + k ≤ 100) : q_C g m_Mo_feed true (q_R 0 0 0 0) [.ref 84, .int (nI k), .long (lN X)] hp (q_mo (some (.int (nI (n + k)))) b (fun m' A' => m' 0 = 0 ∧ m' 2 = nI (n + k) ∧ A' 0 = m_ap X n k (A 0) ∧ mo_K [0, 2] m m' ∧ mo_K [0] A A')) := by
  refine q_C.of hG (by decide) (Nat.le_of_ble_eq_true rfl) ?_
  have km : mo_K [0, 2] m m := mo_K.rfl
  have hx : ¬ m_fb (nI k) := fun h => h.elim (nI_nlt (b := 1) hk1 (by omega)) (nI_nlt (a := 8) hk (by decide))
  refine q_aload_n d_Mo_feed_0 rfl rfl ?_
  refine q_join (pc' := 17) (st' := [.ref 84]) (if m_fb (nI k) then 1 else 0) (fun x17 hx17 => ?_) (fun J17 => ?_)
  · subst hx17
    refine x_put d_Mo_feed_17 f_Mo_90 hA.1 (Nat.le_of_ble_eq_true rfl) rfl rfl (fun hp1 e1 _ => ?_)
    obtain ⟨m, hA, v0, nn⟩ := hA.put (k := 0) (by decide) e1
    rw [if_neg hx] at v0
    have v2 := (nn 2 (by decide)).trans v2
    have km := km.put nn (by decide)
    refine q_aload_n d_Mo_feed_20 rfl rfl ?_
    refine q_get d_Mo_feed_21 f_Mo_90 hA.1 rfl ?_
    rw [v0]
    refine q_if_le (tgt := 29) d_Mo_feed_24 (by decide) (fun b24 => ?_) (fun b24 => ?_)
    · skip
      refine q_aload_n d_Mo_feed_29 rfl rfl ?_
      refine q_get d_Mo_feed_30 f_Mo_93 hA.1 rfl ?_
      rw [v2]
      refine q_iload_n d_Mo_feed_33 rfl ?_
      refine q_iadd d_Mo_feed_34 ?_
      rw [nI_add]
      refine q_bipush (v := 100) d_Mo_feed_35 (by decide) ?_
      refine q_icmp_le (tgt := 42) d_Mo_feed_37 (by decide) (fun b37 => ?_) (fun b37 => ?_)
      · skip
        refine q_iconst (v := 0) d_Mo_feed_42 (by decide) ?_
        refine q_istore d_Mo_feed_43 (by decide) rfl ?_
        exact l_Mo_feed hk hn k 0 (by omega) m A _ hA v0 v2 m_ap_0.symm km mo_K.rfl
      · skip
        exact absurd (nI_le (b := 100) hn (by decide)) b37
    · skip
      exact absurd (by decide) b24
  · skip
    refine q_iload_n d_Mo_feed_1 rfl ?_
    refine q_iconst (v := 1) d_Mo_feed_2 (by decide) ?_
    refine q_icmp_lt (tgt := 12) d_Mo_feed_3 (by decide) (fun b3 => ?_) (fun b3 => ?_)
    · skip
      refine q_iconst (v := 1) d_Mo_feed_12 (by decide) ?_
      refine q_goto (tgt := 17) d_Mo_feed_13 (by decide) ?_
      exact J17 _ (by first | (rw [if_pos (Or.inl b3)]) | (rw [if_pos (Or.inr (Int32.not_le.mp b9))]) | (rw [if_neg (fun q => q.elim b3 (fun h => absurd h (Int32.not_lt.mpr b9)))]))
    · skip
      refine q_iload_n d_Mo_feed_6 rfl ?_
      refine q_bipush (v := 8) d_Mo_feed_7 (by decide) ?_
      refine q_icmp_le (tgt := 16) d_Mo_feed_9 (by decide) (fun b9 => ?_) (fun b9 => ?_)
      · skip
        refine q_iconst (v := 0) d_Mo_feed_16 (by decide) ?_
        exact J17 _ (by first | (rw [if_pos (Or.inl b3)]) | (rw [if_pos (Or.inr (Int32.not_le.mp b9))]) | (rw [if_neg (fun q => q.elim b3 (fun h => absurd h (Int32.not_lt.mpr b9)))]))
      · skip
        refine q_iconst (v := 1) d_Mo_feed_12 (by decide) ?_
        refine q_goto (tgt := 17) d_Mo_feed_13 (by decide) ?_
        exact J17 _ (by first | (rw [if_pos (Or.inl b3)]) | (rw [if_pos (Or.inr (Int32.not_le.mp b9))]) | (rw [if_neg (fun q => q.elim b3 (fun h => absurd h (Int32.not_lt.mpr b9)))]))
set_option maxRecDepth 10000 in
set_option maxHeartbeats 2000000 in
theorem c_Mo_feed0 (hG : q_GG g) {b hp : List va_E} {m : Nat → Int32} {A : Nat → Nat → Int32} {n k : Nat} {y : Int64} (hA : M_A b m A hp) (v2 : m 2 = nI n) (hk1 : 1 ≤ k) (hk : k ≤ 8) (hn0 : n ≤ 100) (hn : 100 < n + k) : q_C g m_Mo_feed true (q_R 0 0 0 0) [.ref 84, .int (nI k), .long y] hp (q_mo (some (.int (-1))) b (fun m' A' => m' 0 = 0 ∧ mo_K [0] m m' ∧ mo_K [] A A')) := by
  refine q_C.of hG (by decide) (Nat.le_of_ble_eq_true rfl) ?_
  have km : mo_K [0] m m := mo_K.rfl
  have hx : ¬ m_fb (nI k) := fun h => h.elim (nI_nlt (b := 1) hk1 (by omega)) (nI_nlt (a := 8) hk (by decide))
  refine q_aload_n d_Mo_feed_0 rfl rfl ?_
  refine q_join (pc' := 17) (st' := [.ref 84]) (if m_fb (nI k) then 1 else 0) (fun x17 hx17 => ?_) (fun J17 => ?_)
  · subst hx17
    refine x_put d_Mo_feed_17 f_Mo_90 hA.1 (Nat.le_of_ble_eq_true rfl) rfl rfl (fun hp1 e1 _ => ?_)
    obtain ⟨m, hA, v0, nn⟩ := hA.put (k := 0) (by decide) e1
    rw [if_neg hx] at v0
    have v2 := (nn 2 (by decide)).trans v2
    have km := km.put nn (by decide)
    refine q_aload_n d_Mo_feed_20 rfl rfl ?_
    refine q_get d_Mo_feed_21 f_Mo_90 hA.1 rfl ?_
    rw [v0]
    refine q_if_le (tgt := 29) d_Mo_feed_24 (by decide) (fun b24 => ?_) (fun b24 => ?_)
    · skip
      refine q_aload_n d_Mo_feed_29 rfl rfl ?_
      refine q_get d_Mo_feed_30 f_Mo_93 hA.1 rfl ?_
      rw [v2]
      refine q_iload_n d_Mo_feed_33 rfl ?_
      refine q_iadd d_Mo_feed_34 ?_
      rw [nI_add]
      refine q_bipush (v := 100) d_Mo_feed_35 (by decide) ?_
      refine q_icmp_le (tgt := 42) d_Mo_feed_37 (by decide) (fun b37 => ?_) (fun b37 => ?_)
      · skip
        exact absurd ((nI_leI (b := 100) (by omega) (by decide)).mp b37) (by omega)
      · skip
        refine q_iconst (v := (-1)) d_Mo_feed_40 (by decide) ?_
        refine q_iret d_Mo_feed_41 rfl ?_ (Nat.le_of_ble_eq_true rfl) (Nat.le_of_ble_eq_true rfl) (by decide)
        exact ⟨(_, _, _), rfl, rfl, hA, v0, km, mo_K.rfl⟩
    · skip
      exact absurd (by decide) b24
  · skip
    refine q_iload_n d_Mo_feed_1 rfl ?_
    refine q_iconst (v := 1) d_Mo_feed_2 (by decide) ?_
    refine q_icmp_lt (tgt := 12) d_Mo_feed_3 (by decide) (fun b3 => ?_) (fun b3 => ?_)
    · skip
      refine q_iconst (v := 1) d_Mo_feed_12 (by decide) ?_
      refine q_goto (tgt := 17) d_Mo_feed_13 (by decide) ?_
      exact J17 _ (by first | (rw [if_pos (Or.inl b3)]) | (rw [if_pos (Or.inr (Int32.not_le.mp b9))]) | (rw [if_neg (fun q => q.elim b3 (fun h => absurd h (Int32.not_lt.mpr b9)))]))
    · skip
      refine q_iload_n d_Mo_feed_6 rfl ?_
      refine q_bipush (v := 8) d_Mo_feed_7 (by decide) ?_
      refine q_icmp_le (tgt := 16) d_Mo_feed_9 (by decide) (fun b9 => ?_) (fun b9 => ?_)
      · skip
        refine q_iconst (v := 0) d_Mo_feed_16 (by decide) ?_
        exact J17 _ (by first | (rw [if_pos (Or.inl b3)]) | (rw [if_pos (Or.inr (Int32.not_le.mp b9))]) | (rw [if_neg (fun q => q.elim b3 (fun h => absurd h (Int32.not_lt.mpr b9)))]))
      · skip
        refine q_iconst (v := 1) d_Mo_feed_12 (by decide) ?_
        refine q_goto (tgt := 17) d_Mo_feed_13 (by decide) ?_
        exact J17 _ (by first | (rw [if_pos (Or.inl b3)]) | (rw [if_pos (Or.inr (Int32.not_le.mp b9))]) | (rw [if_neg (fun q => q.elim b3 (fun h => absurd h (Int32.not_lt.mpr b9)))]))
set_option maxRecDepth 10000 in
set_option maxHeartbeats 2000000 in
theorem c_Mo_feedX (hG : q_GG g) {b hp : List va_E} {m : Nat → Int32} {A : Nat → Nat → Int32} {n : Nat} {x : Int32} {y : Int64} (hA : M_A b m A hp) (v2 : m 2 = nI n) (hx : m_fb x) : q_C g m_Mo_feed true (q_R 0 0 0 0) [.ref 84, .int x, .long y] hp (q_mo (some (.int 0)) b (fun m' A' => m' 0 = 1 ∧ mo_K [0] m m' ∧ mo_K [] A A')) := by
  refine q_C.of hG (by decide) (Nat.le_of_ble_eq_true rfl) ?_
  have km : mo_K [0] m m := mo_K.rfl
  refine q_aload_n d_Mo_feed_0 rfl rfl ?_
  refine q_join (pc' := 17) (st' := [.ref 84]) (if m_fb x then 1 else 0) (fun x17 hx17 => ?_) (fun J17 => ?_)
  · subst hx17
    refine x_put d_Mo_feed_17 f_Mo_90 hA.1 (Nat.le_of_ble_eq_true rfl) rfl rfl (fun hp1 e1 _ => ?_)
    obtain ⟨m, hA, v0, nn⟩ := hA.put (k := 0) (by decide) e1
    rw [if_pos hx] at v0
    have v2 := (nn 2 (by decide)).trans v2
    have km := km.put nn (by decide)
    refine q_aload_n d_Mo_feed_20 rfl rfl ?_
    refine q_get d_Mo_feed_21 f_Mo_90 hA.1 rfl ?_
    rw [v0]
    refine q_if_le (tgt := 29) d_Mo_feed_24 (by decide) (fun b24 => ?_) (fun b24 => ?_)
    · skip
      exact absurd b24 (by decide)
    · skip
      refine q_iconst (v := 0) d_Mo_feed_27 (by decide) ?_
      refine q_iret d_Mo_feed_28 rfl ?_ (Nat.le_of_ble_eq_true rfl) (Nat.le_of_ble_eq_true rfl) (by decide)
      exact ⟨(_, _, _), rfl, rfl, hA, v0, km, mo_K.rfl⟩
  · skip
    refine q_iload_n d_Mo_feed_1 rfl ?_
    refine q_iconst (v := 1) d_Mo_feed_2 (by decide) ?_
    refine q_icmp_lt (tgt := 12) d_Mo_feed_3 (by decide) (fun b3 => ?_) (fun b3 => ?_)
    · skip
      refine q_iconst (v := 1) d_Mo_feed_12 (by decide) ?_
      refine q_goto (tgt := 17) d_Mo_feed_13 (by decide) ?_
      exact J17 _ (by first | (rw [if_pos (Or.inl b3)]) | (rw [if_pos (Or.inr (Int32.not_le.mp b9))]) | (rw [if_neg (fun q => q.elim b3 (fun h => absurd h (Int32.not_lt.mpr b9)))]))
    · skip
      refine q_iload_n d_Mo_feed_6 rfl ?_
      refine q_bipush (v := 8) d_Mo_feed_7 (by decide) ?_
      refine q_icmp_le (tgt := 16) d_Mo_feed_9 (by decide) (fun b9 => ?_) (fun b9 => ?_)
      · skip
        refine q_iconst (v := 0) d_Mo_feed_16 (by decide) ?_
        exact J17 _ (by first | (rw [if_pos (Or.inl b3)]) | (rw [if_pos (Or.inr (Int32.not_le.mp b9))]) | (rw [if_neg (fun q => q.elim b3 (fun h => absurd h (Int32.not_lt.mpr b9)))]))
      · skip
        refine q_iconst (v := 1) d_Mo_feed_12 (by decide) ?_
        refine q_goto (tgt := 17) d_Mo_feed_13 (by decide) ?_
        exact J17 _ (by first | (rw [if_pos (Or.inl b3)]) | (rw [if_pos (Or.inr (Int32.not_le.mp b9))]) | (rw [if_neg (fun q => q.elim b3 (fun h => absurd h (Int32.not_lt.mpr b9)))]))
end M17
