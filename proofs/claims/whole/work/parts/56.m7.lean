/-! the reference: begin, wipe, clear, variable, told, fromNow -/
section M7
variable {g : q_G}
theorem m_if0 {P : Prop} [Decidable P] : (if P then (1 : Int32) else 0) = 0 ↔ ¬ P := by
  by_cases h : P
  · rw [if_pos h]
    exact ⟨fun q => absurd q (by decide), fun q => absurd h q⟩
  · rw [if_neg h]
    exact ⟨fun _ => h, fun _ => rfl⟩
abbrev m_np (x : Int32) (np : Nat) : Prop := x < 0 ∨ nI np ≤ x
set_option maxRecDepth 10000 in
set_option maxHeartbeats 2000000 in
theorem c_Mo_noProcess (hG : q_GG g) {b hp : List va_E} {m : Nat → Int32} {A : Nat → Nat → Int32} {x : Int32} {np : Nat} (hA : M_A b m A hp) (v8 : m 8 = nI np) : q_C g m_Mo_noProcess false (q_R 0 0 0 0) [.ref 84, .int x] hp (q_ret (some (.int (if m_np x np then 1 else 0))) hp) := by
  refine q_C.of hG (by decide) (Nat.le_of_ble_eq_true rfl) ?_
  refine q_join (pc' := 17) (st' := []) (if m_np x np then 1 else 0) (fun x17 hx17 => ?_) (fun J17 => ?_)
  · subst hx17
    refine q_zret d_Mo_noProcess_17 rfl (by split <;> decide) ?_ (Nat.le_of_ble_eq_true rfl) (Nat.le_of_ble_eq_true rfl) (by decide)
    exact ⟨rfl, rfl⟩
  · skip
    refine q_iload_n d_Mo_noProcess_0 rfl ?_
    refine q_if_lt (tgt := 12) d_Mo_noProcess_1 (by decide) (fun b1 => ?_) (fun b1 => ?_)
    · skip
      refine q_iconst (v := 1) d_Mo_noProcess_12 (by decide) ?_
      refine q_goto (tgt := 17) d_Mo_noProcess_13 (by decide) ?_
      exact J17 _ (by first | (rw [if_pos (Or.inl b1)]) | (rw [if_pos (Or.inr (Int32.not_lt.mp b9))]) | (rw [if_neg (fun q => q.elim b1 (fun h => absurd h (Int32.not_le.mpr b9)))]))
    · skip
      refine q_iload_n d_Mo_noProcess_4 rfl ?_
      refine q_aload_n d_Mo_noProcess_5 rfl rfl ?_
      refine q_get d_Mo_noProcess_6 f_Mo_111 hA.1 rfl ?_
      rw [v8]
      refine q_icmp_lt (tgt := 16) d_Mo_noProcess_9 (by decide) (fun b9 => ?_) (fun b9 => ?_)
      · skip
        refine q_iconst (v := 0) d_Mo_noProcess_16 (by decide) ?_
        exact J17 _ (by first | (rw [if_pos (Or.inl b1)]) | (rw [if_pos (Or.inr (Int32.not_lt.mp b9))]) | (rw [if_neg (fun q => q.elim b1 (fun h => absurd h (Int32.not_le.mpr b9)))]))
      · skip
        refine q_iconst (v := 1) d_Mo_noProcess_12 (by decide) ?_
        refine q_goto (tgt := 17) d_Mo_noProcess_13 (by decide) ?_
        exact J17 _ (by first | (rw [if_pos (Or.inl b1)]) | (rw [if_pos (Or.inr (Int32.not_lt.mp b9))]) | (rw [if_neg (fun q => q.elim b1 (fun h => absurd h (Int32.not_le.mpr b9)))]))
set_option maxRecDepth 10000 in
set_option maxHeartbeats 2000000 in
theorem l_Mo_ones {hp : List va_E} {x : Nat} (hx : x < 8192) : ∀ (k i : Nat), i + k = 13 → q_J g m_Mo_ones false (q_R 0 0 0 0) (q_ret (some (.int (nI (pb_cnt 13 x)))) hp) 4 [some (.int (nI x)), some (.int (nI (pb_cnt i x))), some (.int (nI i))] [] hp 0 0 false := by
  intro k
  induction k with
  | zero =>
    intro i hi
    obtain rfl : i = 13 := by omega
    refine q_iload_n d_Mo_ones_4 rfl ?_
    refine q_bipush (v := 13) d_Mo_ones_5 (by decide) ?_
    refine q_icmp_ge (tgt := 24) d_Mo_ones_7 (by decide) (fun b7 => ?_) (fun b7 => ?_)
    · skip
      refine q_iload_n d_Mo_ones_24 rfl ?_
      refine q_iret d_Mo_ones_25 rfl ?_ (Nat.le_of_ble_eq_true rfl) (Nat.le_of_ble_eq_true rfl) (by decide)
      exact ⟨rfl, rfl⟩
    · skip
      exact absurd (show (13 : Int32) ≤ nI 13 by decide) b7
  | succ k ih =>
    intro i hi
    refine q_iload_n d_Mo_ones_4 rfl ?_
    refine q_bipush (v := 13) d_Mo_ones_5 (by decide) ?_
    refine q_icmp_ge (tgt := 24) d_Mo_ones_7 (by decide) (fun b7 => ?_) (fun b7 => ?_)
    · skip
      exact absurd b7 (nI_ge (show i < 13 by omega) (by decide))
    · skip
      refine q_iload_n d_Mo_ones_10 rfl ?_
      refine q_iload_n d_Mo_ones_11 rfl ?_
      refine q_iload_n d_Mo_ones_12 rfl ?_
      refine q_ishr d_Mo_ones_13 ?_
      refine q_iconst (v := 1) d_Mo_ones_14 (by decide) ?_
      refine q_iand d_Mo_ones_15 ?_
      rw [tb_3 (by omega) (by omega)]
      refine q_iadd d_Mo_ones_16 ?_
      rw [nI_add, ← pb_cnt_s]
      refine q_istore_n d_Mo_ones_17 rfl (by decide) rfl ?_
      refine q_iinc d_Mo_ones_18 rfl (show _ + Int32.ofInt 1 = _ + 1 from rfl) (by decide) rfl ?_
      refine q_goto (tgt := 4) d_Mo_ones_21 (by decide) ?_
      rw [nI_1]
      exact ih (i + 1) (by omega)
set_option maxRecDepth 10000 in
set_option maxHeartbeats 2000000 in
theorem c_Mo_ones (hG : q_GG g) {hp : List va_E} {x : Nat} (hx : x < 8192) : q_C g m_Mo_ones false (q_R 0 0 0 0) [.int (nI x)] hp (q_ret (some (.int (nI (pb_cnt 13 x)))) hp) := by
  refine q_C.of hG (by decide) (Nat.le_of_ble_eq_true rfl) ?_
  refine q_iconst (v := 0) d_Mo_ones_0 (by decide) ?_
  refine q_istore_n d_Mo_ones_1 rfl (by decide) rfl ?_
  refine q_iconst (v := 0) d_Mo_ones_2 (by decide) ?_
  refine q_istore_n d_Mo_ones_3 rfl (by decide) rfl ?_
  exact l_Mo_ones hx 13 0 (by omega)
def bg1 (i : Nat) (f : Nat → Int32) : Nat → Int32 := fun j => if j < i then 0 else f j
theorem bg1_s {i : Nat} {f : Nat → Int32} : upd (bg1 i f) i 0 = bg1 (i + 1) f := by
  funext j
  unfold upd bg1
  by_cases h : j = i
  · subst h
    simp
  · have : j < i + 1 ↔ j < i := by omega
    simp [h, this]
theorem bg1_0 {f : Nat → Int32} : bg1 0 f = f := by
  funext j
  simp [bg1]
def bg2 (nv i : Nat) (s f : Nat → Int32) : Nat → Int32 := fun j => if 6 ≤ j ∧ j < 6 + i then (if j - 6 < nv then s (j - 6) else 0) else f j
theorem bg2_s {nv i : Nat} {s f : Nat → Int32} : upd (bg2 nv i s f) (6 + i) (if i < nv then s i else 0) = bg2 nv (i + 1) s f := by
  funext j
  unfold upd bg2
  by_cases h : j = 6 + i
  · subst h
    simp
  · have : j < 6 + (i + 1) ↔ j < 6 + i := by omega
    simp [h, this]
theorem bg2_0 {nv : Nat} {s f : Nat → Int32} : bg2 nv 0 s f = f := by
  funext j
  unfold bg2
  rw [if_neg (by omega)]
set_option maxRecDepth 10000 in
set_option maxHeartbeats 2000000 in
theorem l_Mo_bg2 {b : List va_E} {m0 m : Nat → Int32} {A0 : Nat → Nat → Int32} {nv : Nat} (hnv : nv ≤ 5) (v5 : m 5 = nI nv) (v37 : m 37 = 0) (v34 : m 34 = 0) (km : mo_K [34, 37] m0 m) : ∀ (k i : Nat), i + k = 5 → ∀ (A : Nat → Nat → Int32) (hp : List va_E), M_A b m A hp → A 2 = A0 2 → A 19 = bg2 nv i (A0 2) (bg1 6 (A0 19)) → mo_K [19] A0 A → q_J g m_Mo_begin true (q_R 0 0 0 0) (q_mo none b (fun m' A' => m' 37 = 0 ∧ m' 34 = 0 ∧ A' 19 = bg2 nv 5 (A0 2) (bg1 6 (A0 19)) ∧ mo_K [34, 37] m0 m' ∧ mo_K [19] A0 A')) 33 [some (.ref 84), some (.int (nI i))] [] hp 0 0 true := by
  intro k
  induction k with
  | zero =>
    intro i hi A hp hA a2 a19 kA
    obtain rfl : i = 5 := by omega
    refine q_iload_n d_Mo_begin_33 rfl ?_
    refine q_iconst (v := 5) d_Mo_begin_34 (by decide) ?_
    refine q_icmp_ge (tgt := 71) d_Mo_begin_35 (by decide) (fun b35 => ?_) (fun b35 => ?_)
    · skip
      refine q_vret d_Mo_begin_71 rfl ?_ (Nat.le_of_ble_eq_true rfl) (Nat.le_of_ble_eq_true rfl) (by decide)
      exact ⟨(m, A, _), rfl, rfl, hA, v37, v34, a19, km, kA⟩
    · skip
      exact absurd (show (5 : Int32) ≤ nI 5 by decide) b35
  | succ k ih =>
    intro i hi A hp hA a2 a19 kA
    have hcl : (nI i).toNatClampNeg = i := nI_clamp (by omega)
    refine q_iload_n d_Mo_begin_33 rfl ?_
    refine q_iconst (v := 5) d_Mo_begin_34 (by decide) ?_
    refine q_icmp_ge (tgt := 71) d_Mo_begin_35 (by decide) (fun b35 => ?_) (fun b35 => ?_)
    · skip
      exact absurd b35 (nI_ge (show i < 5 by omega) (by decide))
    · skip
      refine q_aload_n d_Mo_begin_38 rfl rfl ?_
      refine q_get d_Mo_begin_39 f_Mo_72 hA.1 rfl ?_
      refine q_bipush (v := 6) d_Mo_begin_42 (by decide) ?_
      refine q_iload_n d_Mo_begin_44 rfl ?_
      refine q_iadd d_Mo_begin_45 ?_
      rw [show (6 : Int32) = nI 6 from rfl, nI_add]
      refine q_join (pc' := 64) (st' := [.int (nI (6 + i)), .ref 104]) (if i < nv then A0 2 i else 0) (fun x64 hx64 => ?_) (fun J64 => ?_)
      · subst hx64
        refine x_iast d_Mo_begin_64 hA.a19 rfl (vp_in_nI (show 6 + i < 11 by omega) (by decide)) (fun hp1 e1 _ => ?_)
        obtain ⟨A, hA, u19, nn⟩ := hA.st19 e1
        rw [a19] at u19
        rw [nI_clamp (show 6 + i < 2 ^ 31 by omega), bg2_s] at u19
        have a19 := u19
        have a2 := (nn 2 (by decide)).trans a2
        have kA := kA.put nn (by decide)
        refine q_iinc d_Mo_begin_65 rfl (show _ + Int32.ofInt 1 = _ + 1 from rfl) (by decide) rfl ?_
        refine q_goto (tgt := 33) d_Mo_begin_68 (by decide) ?_
        rw [nI_1]
        exact ih (i + 1) (by omega) A _ hA a2 a19 kA
      · skip
        refine q_iload_n d_Mo_begin_46 rfl ?_
        refine q_aload_n d_Mo_begin_47 rfl rfl ?_
        refine q_get d_Mo_begin_48 f_Mo_105 hA.1 rfl ?_
        rw [v5]
        refine q_icmp_ge (tgt := 63) d_Mo_begin_51 (by decide) (fun b51 => ?_) (fun b51 => ?_)
        · skip
          have q : ¬ i < nv := fun q => absurd b51 (nI_ge q (by omega))
          refine q_iconst (v := 0) d_Mo_begin_63 (by decide) ?_
          exact J64 _ (by first | rw [if_pos q] | rw [if_neg q])
        · skip
          have q : i < nv := by
            by_cases q : i < nv
            · exact q
            · exact absurd (nI_le (by omega) (by omega)) b51
          refine q_aload_n d_Mo_begin_54 rfl rfl ?_
          refine q_get d_Mo_begin_55 f_Mo_20 hA.1 rfl ?_
          refine q_iload_n d_Mo_begin_58 rfl ?_
          refine q_iald d_Mo_begin_59 hA.a2 rfl (vp_in_nI (by omega) (by decide)) ?_
          rw [a2]
          rw [hcl]
          refine q_goto (tgt := 64) d_Mo_begin_60 (by decide) ?_
          exact J64 _ (by first | rw [if_pos q] | rw [if_neg q])
set_option maxRecDepth 10000 in
set_option maxHeartbeats 2000000 in
theorem l_Mo_bg1 {b : List va_E} {m0 m : Nat → Int32} {A0 : Nat → Nat → Int32} {nv : Nat} (hnv : nv ≤ 5) (v5 : m 5 = nI nv) (v37 : m 37 = 0) (v34 : m 34 = 0) (km : mo_K [34, 37] m0 m) : ∀ (k i : Nat), i + k = 6 → ∀ (A : Nat → Nat → Int32) (hp : List va_E), M_A b m A hp → A 2 = A0 2 → A 19 = bg1 i (A0 19) → mo_K [19] A0 A → q_J g m_Mo_begin true (q_R 0 0 0 0) (q_mo none b (fun m' A' => m' 37 = 0 ∧ m' 34 = 0 ∧ A' 19 = bg2 nv 5 (A0 2) (bg1 6 (A0 19)) ∧ mo_K [34, 37] m0 m' ∧ mo_K [19] A0 A')) 12 [some (.ref 84), some (.int (nI i))] [] hp 0 0 true := by
  intro k
  induction k with
  | zero =>
    intro i hi A hp hA a2 a19 kA
    obtain rfl : i = 6 := by omega
    refine q_iload_n d_Mo_begin_12 rfl ?_
    refine q_bipush (v := 6) d_Mo_begin_13 (by decide) ?_
    refine q_icmp_ge (tgt := 31) d_Mo_begin_15 (by decide) (fun b15 => ?_) (fun b15 => ?_)
    · skip
      refine q_iconst (v := 0) d_Mo_begin_31 (by decide) ?_
      refine q_istore_n d_Mo_begin_32 rfl (by decide) rfl ?_
      exact l_Mo_bg2 hnv v5 v37 v34 km 5 0 (by omega) A _ hA a2 (a19.trans bg2_0.symm) kA
    · skip
      exact absurd (show (6 : Int32) ≤ nI 6 by decide) b15
  | succ k ih =>
    intro i hi A hp hA a2 a19 kA
    refine q_iload_n d_Mo_begin_12 rfl ?_
    refine q_bipush (v := 6) d_Mo_begin_13 (by decide) ?_
    refine q_icmp_ge (tgt := 31) d_Mo_begin_15 (by decide) (fun b15 => ?_) (fun b15 => ?_)
    · skip
      exact absurd b15 (nI_ge (show i < 6 by omega) (by decide))
    · skip
      refine q_aload_n d_Mo_begin_18 rfl rfl ?_
      refine q_get d_Mo_begin_19 f_Mo_72 hA.1 rfl ?_
      refine q_iload_n d_Mo_begin_22 rfl ?_
      refine q_iconst (v := 0) d_Mo_begin_23 (by decide) ?_
      refine x_iast d_Mo_begin_24 hA.a19 rfl (vp_in_nI (show i < 11 by omega) (by decide)) (fun hp1 e1 _ => ?_)
      obtain ⟨A, hA, u19, nn⟩ := hA.st19 e1
      rw [a19] at u19
      rw [nI_clamp (show i < 2 ^ 31 by omega), bg1_s] at u19
      have a19 := u19
      have a2 := (nn 2 (by decide)).trans a2
      have kA := kA.put nn (by decide)
      refine q_iinc d_Mo_begin_25 rfl (show _ + Int32.ofInt 1 = _ + 1 from rfl) (by decide) rfl ?_
      refine q_goto (tgt := 12) d_Mo_begin_28 (by decide) ?_
      rw [nI_1]
      exact ih (i + 1) (by omega) A _ hA a2 a19 kA
set_option maxRecDepth 10000 in
set_option maxHeartbeats 2000000 in
theorem c_Mo_begin (hG : q_GG g) {b hp : List va_E} {m : Nat → Int32} {A : Nat → Nat → Int32} {nv : Nat} (hA : M_A b m A hp) (hnv : nv ≤ 5) (v5 : m 5 = nI nv) : q_C g m_Mo_begin true (q_R 0 0 0 0) [.ref 84] hp (q_mo none b (fun m' A' => m' 37 = 0 ∧ m' 34 = 0 ∧ A' 19 = bg2 nv 5 (A 2) (bg1 6 (A 19)) ∧ mo_K [34, 37] m m' ∧ mo_K [19] A A')) := by
  refine q_C.of hG (by decide) (Nat.le_of_ble_eq_true rfl) ?_
  have km : mo_K [34, 37] m m := mo_K.rfl
  refine q_aload_n d_Mo_begin_0 rfl rfl ?_
  refine q_iconst (v := 0) d_Mo_begin_1 (by decide) ?_
  refine x_put d_Mo_begin_2 f_Mo_98 hA.1 (Nat.le_of_ble_eq_true rfl) rfl rfl (fun hp1 e1 _ => ?_)
  obtain ⟨m, hA, v37, nn⟩ := hA.put (k := 37) (by decide) e1
  have v5 := (nn 5 (by decide)).trans v5
  have km := km.put nn (by decide)
  refine q_aload_n d_Mo_begin_5 rfl rfl ?_
  refine q_iconst (v := 0) d_Mo_begin_6 (by decide) ?_
  refine x_put d_Mo_begin_7 f_Mo_102 hA.1 (Nat.le_of_ble_eq_true rfl) rfl rfl (fun hp2 e2 _ => ?_)
  obtain ⟨m, hA, v34, nn⟩ := hA.put (k := 34) (by decide) e2
  have v5 := (nn 5 (by decide)).trans v5
  have v37 := (nn 37 (by decide)).trans v37
  have km := km.put nn (by decide)
  refine q_iconst (v := 0) d_Mo_begin_10 (by decide) ?_
  refine q_istore_n d_Mo_begin_11 rfl (by decide) rfl ?_
  exact l_Mo_bg1 hnv v5 v37 v34 km 6 0 (by omega) A _ hA rfl bg1_0.symm mo_K.rfl
set_option maxRecDepth 10000 in
set_option maxHeartbeats 2000000 in
theorem c_Mo_wipe (hG : q_GG g) {b hp : List va_E} {m : Nat → Int32} {A : Nat → Nat → Int32} {n : Nat} (hA : M_A b m A hp) (v2 : m 2 = nI n) : q_C g m_Mo_wipe true (q_R 0 0 0 0) [.ref 84] hp (q_mo (some (.int (nI n))) b (fun m' A' => m' 0 = 0 ∧ m' 2 = 0 ∧ mo_K [0, 2] m m' ∧ mo_K [] A A')) := by
  refine q_C.of hG (by decide) (Nat.le_of_ble_eq_true rfl) ?_
  have km : mo_K [0, 2] m m := mo_K.rfl
  refine q_aload_n d_Mo_wipe_0 rfl rfl ?_
  refine q_iconst (v := 0) d_Mo_wipe_1 (by decide) ?_
  refine x_put d_Mo_wipe_2 f_Mo_90 hA.1 (Nat.le_of_ble_eq_true rfl) rfl rfl (fun hp1 e1 _ => ?_)
  obtain ⟨m, hA, v0, nn⟩ := hA.put (k := 0) (by decide) e1
  have v2 := (nn 2 (by decide)).trans v2
  have km := km.put nn (by decide)
  refine q_aload_n d_Mo_wipe_5 rfl rfl ?_
  refine q_get d_Mo_wipe_6 f_Mo_93 hA.1 rfl ?_
  rw [v2]
  refine q_istore_n d_Mo_wipe_9 rfl (by decide) rfl ?_
  refine q_aload_n d_Mo_wipe_10 rfl rfl ?_
  refine q_iconst (v := 0) d_Mo_wipe_11 (by decide) ?_
  refine x_put d_Mo_wipe_12 f_Mo_93 hA.1 (Nat.le_of_ble_eq_true rfl) rfl rfl (fun hp2 e2 _ => ?_)
  obtain ⟨m, hA, v2, nn⟩ := hA.put (k := 2) (by decide) e2
  have v0 := (nn 0 (by decide)).trans v0
  have km := km.put nn (by decide)
  refine q_iload_n d_Mo_wipe_15 rfl ?_
  refine q_iret d_Mo_wipe_16 rfl ?_ (Nat.le_of_ble_eq_true rfl) (Nat.le_of_ble_eq_true rfl) (by decide)
  exact ⟨(m, A, _), rfl, rfl, hA, v0, v2, km, mo_K.rfl⟩
set_option maxRecDepth 10000 in
set_option maxHeartbeats 2000000 in
theorem c_Mo_clear (hG : q_GG g) {b hp : List va_E} {m : Nat → Int32} {A : Nat → Nat → Int32} {np : Nat} (hA : M_A b m A hp) (v8 : m 8 = nI np) : q_C g m_Mo_clear true (q_R 1 20 0 0) [.ref 84] hp (q_mo (some (.int (nI np))) b (fun m' A' => m' 0 = 0 ∧ m' 5 = 0 ∧ m' 8 = 0 ∧ m' 37 = 0 ∧ m' 34 = 0 ∧ A' 19 = bg2 0 5 (A 2) (bg1 6 (A 19)) ∧ mo_K [0, 5, 8, 34, 37] m m' ∧ mo_K [19] A A')) := by
  refine q_C.of hG (by decide) (Nat.le_of_ble_eq_true rfl) ?_
  have km : mo_K [0, 5, 8, 34, 37] m m := mo_K.rfl
  refine q_aload_n d_Mo_clear_0 rfl rfl ?_
  refine q_iconst (v := 0) d_Mo_clear_1 (by decide) ?_
  refine x_put d_Mo_clear_2 f_Mo_90 hA.1 (Nat.le_of_ble_eq_true rfl) rfl rfl (fun hp1 e1 _ => ?_)
  obtain ⟨m, hA, v0, nn⟩ := hA.put (k := 0) (by decide) e1
  have v8 := (nn 8 (by decide)).trans v8
  have km := km.put nn (by decide)
  refine q_aload_n d_Mo_clear_5 rfl rfl ?_
  refine q_get d_Mo_clear_6 f_Mo_111 hA.1 rfl ?_
  rw [v8]
  refine q_istore_n d_Mo_clear_9 rfl (by decide) rfl ?_
  refine q_aload_n d_Mo_clear_10 rfl rfl ?_
  refine q_iconst (v := 0) d_Mo_clear_11 (by decide) ?_
  refine x_put d_Mo_clear_12 f_Mo_111 hA.1 (Nat.le_of_ble_eq_true rfl) rfl rfl (fun hp2 e2 _ => ?_)
  obtain ⟨m, hA, v8, nn⟩ := hA.put (k := 8) (by decide) e2
  have v0 := (nn 0 (by decide)).trans v0
  have km := km.put nn (by decide)
  refine q_aload_n d_Mo_clear_15 rfl rfl ?_
  refine q_iconst (v := 0) d_Mo_clear_16 (by decide) ?_
  refine x_put d_Mo_clear_17 f_Mo_105 hA.1 (Nat.le_of_ble_eq_true rfl) rfl rfl (fun hp3 e3 _ => ?_)
  obtain ⟨m, hA, v5, nn⟩ := hA.put (k := 5) (by decide) e3
  have v0 := (nn 0 (by decide)).trans v0
  have v8 := (nn 8 (by decide)).trans v8
  have km := km.put nn (by decide)
  refine q_aload_n d_Mo_clear_20 rfl rfl ?_
  refine x_callVm d_Mo_clear_21 l_Mo_108 i_Mo_begin v_Mo_begin rfl hA.1 (c_Mo_begin hG hA (nv := 0) (by decide) v5) rfl rfl (Nat.le_of_ble_eq_true rfl) (Nat.le_of_ble_eq_true rfl) (Nat.le_of_ble_eq_true rfl) (Nat.le_of_ble_eq_true rfl) (fun m A hp4 hA hz => ?_)
  obtain ⟨w37, w34, w19, nm, nA⟩ := hz
  have v0 := (nm 0 (by decide)).trans v0
  have v5 := (nm 5 (by decide)).trans v5
  have v8 := (nm 8 (by decide)).trans v8
  have km := km.sub nm (by decide)
  refine q_iload_n d_Mo_clear_24 rfl ?_
  refine q_iret d_Mo_clear_25 rfl ?_ (Nat.le_of_ble_eq_true rfl) (Nat.le_of_ble_eq_true rfl) (by decide)
  exact ⟨(m, A, _), rfl, rfl, hA, v0, v5, v8, w37, w34, w19, km, nA⟩
abbrev m_vb (x y : Int32) : Prop := x < 2 ∨ 5 < x ∨ y < 0 ∨ x ≤ y
set_option maxRecDepth 10000 in
set_option maxHeartbeats 2000000 in
theorem c_Mo_variableX (hG : q_GG g) {b hp : List va_E} {m : Nat → Int32} {A : Nat → Nat → Int32} {x y : Int32} {nv : Nat} (hA : M_A b m A hp) (v5 : m 5 = nI nv) (hv : m_vb x y) : q_C g m_Mo_variable true (q_R 1 20 0 0) [.ref 84, .int x, .int y] hp (q_mo (some (.int 0)) b (fun m' A' => m' 0 = 1 ∧ mo_K [0] m m' ∧ mo_K [] A A')) := by
  refine q_C.of hG (by decide) (Nat.le_of_ble_eq_true rfl) ?_
  have km : mo_K [0] m m := mo_K.rfl
  refine q_aload_n d_Mo_variable_0 rfl rfl ?_
  refine q_join (pc' := 25) (st' := [.ref 84]) (if m_vb x y then 1 else 0) (fun x25 hx25 => ?_) (fun J25 => ?_)
  · subst hx25
    refine x_put d_Mo_variable_25 f_Mo_90 hA.1 (Nat.le_of_ble_eq_true rfl) rfl rfl (fun hp1 e1 _ => ?_)
    obtain ⟨m, hA, v0, nn⟩ := hA.put (k := 0) (by decide) e1
    rw [if_pos hv] at v0
    have v5 := (nn 5 (by decide)).trans v5
    have km := km.put nn (by decide)
    refine q_aload_n d_Mo_variable_28 rfl rfl ?_
    refine q_get d_Mo_variable_29 f_Mo_90 hA.1 rfl ?_
    rw [v0]
    refine q_if_le (tgt := 37) d_Mo_variable_32 (by decide) (fun b32 => ?_) (fun b32 => ?_)
    · skip
      exact absurd b32 (by decide)
    · skip
      refine q_iconst (v := 0) d_Mo_variable_35 (by decide) ?_
      refine q_iret d_Mo_variable_36 rfl ?_ (Nat.le_of_ble_eq_true rfl) (Nat.le_of_ble_eq_true rfl) (by decide)
      exact ⟨(m, A, _), rfl, rfl, hA, v0, km, mo_K.rfl⟩
  · skip
    refine q_iload_n d_Mo_variable_1 rfl ?_
    refine q_iconst (v := 2) d_Mo_variable_2 (by decide) ?_
    refine q_icmp_lt (tgt := 20) d_Mo_variable_3 (by decide) (fun b3 => ?_) (fun b3 => ?_)
    · skip
      refine q_iconst (v := 1) d_Mo_variable_20 (by decide) ?_
      refine q_goto (tgt := 25) d_Mo_variable_21 (by decide) ?_
      exact J25 _ (by first | (rw [if_pos (Or.inl b3)]) | (rw [if_pos (Or.inr (Or.inl b8))]) | (rw [if_pos (Or.inr (Or.inr (Or.inl b12)))]) | (rw [if_pos (Or.inr (Or.inr (Or.inr (Int32.not_lt.mp b17))))]) | (rw [if_neg (fun q => q.elim b3 (fun q => q.elim b8 (fun q => q.elim b12 (fun h => absurd h (Int32.not_le.mpr b17)))))]))
    · skip
      refine q_iload_n d_Mo_variable_6 rfl ?_
      refine q_iconst (v := 5) d_Mo_variable_7 (by decide) ?_
      refine q_icmp_gt (tgt := 20) d_Mo_variable_8 (by decide) (fun b8 => ?_) (fun b8 => ?_)
      · skip
        refine q_iconst (v := 1) d_Mo_variable_20 (by decide) ?_
        refine q_goto (tgt := 25) d_Mo_variable_21 (by decide) ?_
        exact J25 _ (by first | (rw [if_pos (Or.inl b3)]) | (rw [if_pos (Or.inr (Or.inl b8))]) | (rw [if_pos (Or.inr (Or.inr (Or.inl b12)))]) | (rw [if_pos (Or.inr (Or.inr (Or.inr (Int32.not_lt.mp b17))))]) | (rw [if_neg (fun q => q.elim b3 (fun q => q.elim b8 (fun q => q.elim b12 (fun h => absurd h (Int32.not_le.mpr b17)))))]))
      · skip
        refine q_iload_n d_Mo_variable_11 rfl ?_
        refine q_if_lt (tgt := 20) d_Mo_variable_12 (by decide) (fun b12 => ?_) (fun b12 => ?_)
        · skip
          refine q_iconst (v := 1) d_Mo_variable_20 (by decide) ?_
          refine q_goto (tgt := 25) d_Mo_variable_21 (by decide) ?_
          exact J25 _ (by first | (rw [if_pos (Or.inl b3)]) | (rw [if_pos (Or.inr (Or.inl b8))]) | (rw [if_pos (Or.inr (Or.inr (Or.inl b12)))]) | (rw [if_pos (Or.inr (Or.inr (Or.inr (Int32.not_lt.mp b17))))]) | (rw [if_neg (fun q => q.elim b3 (fun q => q.elim b8 (fun q => q.elim b12 (fun h => absurd h (Int32.not_le.mpr b17)))))]))
        · skip
          refine q_iload_n d_Mo_variable_15 rfl ?_
          refine q_iload_n d_Mo_variable_16 rfl ?_
          refine q_icmp_lt (tgt := 24) d_Mo_variable_17 (by decide) (fun b17 => ?_) (fun b17 => ?_)
          · skip
            refine q_iconst (v := 0) d_Mo_variable_24 (by decide) ?_
            exact J25 _ (by first | (rw [if_pos (Or.inl b3)]) | (rw [if_pos (Or.inr (Or.inl b8))]) | (rw [if_pos (Or.inr (Or.inr (Or.inl b12)))]) | (rw [if_pos (Or.inr (Or.inr (Or.inr (Int32.not_lt.mp b17))))]) | (rw [if_neg (fun q => q.elim b3 (fun q => q.elim b8 (fun q => q.elim b12 (fun h => absurd h (Int32.not_le.mpr b17)))))]))
          · skip
            refine q_iconst (v := 1) d_Mo_variable_20 (by decide) ?_
            refine q_goto (tgt := 25) d_Mo_variable_21 (by decide) ?_
            exact J25 _ (by first | (rw [if_pos (Or.inl b3)]) | (rw [if_pos (Or.inr (Or.inl b8))]) | (rw [if_pos (Or.inr (Or.inr (Or.inl b12)))]) | (rw [if_pos (Or.inr (Or.inr (Or.inr (Int32.not_lt.mp b17))))]) | (rw [if_neg (fun q => q.elim b3 (fun q => q.elim b8 (fun q => q.elim b12 (fun h => absurd h (Int32.not_le.mpr b17)))))]))
set_option maxRecDepth 10000 in
set_option maxHeartbeats 2000000 in
theorem c_Mo_variable5 (hG : q_GG g) {b hp : List va_E} {m : Nat → Int32} {A : Nat → Nat → Int32} {x y : Int32} (hA : M_A b m A hp) (v5 : m 5 = 5) (hv : ¬ m_vb x y) : q_C g m_Mo_variable true (q_R 1 20 0 0) [.ref 84, .int x, .int y] hp (q_mo (some (.int (-1))) b (fun m' A' => m' 0 = 0 ∧ mo_K [0] m m' ∧ mo_K [] A A')) := by
  refine q_C.of hG (by decide) (Nat.le_of_ble_eq_true rfl) ?_
  have km : mo_K [0] m m := mo_K.rfl
  refine q_aload_n d_Mo_variable_0 rfl rfl ?_
  refine q_join (pc' := 25) (st' := [.ref 84]) (if m_vb x y then 1 else 0) (fun x25 hx25 => ?_) (fun J25 => ?_)
  · subst hx25
    refine x_put d_Mo_variable_25 f_Mo_90 hA.1 (Nat.le_of_ble_eq_true rfl) rfl rfl (fun hp1 e1 _ => ?_)
    obtain ⟨m, hA, v0, nn⟩ := hA.put (k := 0) (by decide) e1
    rw [if_neg hv] at v0
    have v5 := (nn 5 (by decide)).trans v5
    have km := km.put nn (by decide)
    refine q_aload_n d_Mo_variable_28 rfl rfl ?_
    refine q_get d_Mo_variable_29 f_Mo_90 hA.1 rfl ?_
    rw [v0]
    refine q_if_le (tgt := 37) d_Mo_variable_32 (by decide) (fun b32 => ?_) (fun b32 => ?_)
    · skip
      refine q_aload_n d_Mo_variable_37 rfl rfl ?_
      refine q_get d_Mo_variable_38 f_Mo_105 hA.1 rfl ?_
      rw [v5]
      refine q_iconst (v := 5) d_Mo_variable_41 (by decide) ?_
      refine q_icmp_ne (tgt := 47) d_Mo_variable_42 (by decide) (fun b42 => ?_) (fun b42 => ?_)
      · skip
        exact absurd rfl b42
      · skip
        refine q_iconst (v := (-1)) d_Mo_variable_45 (by decide) ?_
        refine q_iret d_Mo_variable_46 rfl ?_ (Nat.le_of_ble_eq_true rfl) (Nat.le_of_ble_eq_true rfl) (by decide)
        exact ⟨(m, A, _), rfl, rfl, hA, v0, km, mo_K.rfl⟩
    · skip
      exact absurd (by decide) b32
  · skip
    refine q_iload_n d_Mo_variable_1 rfl ?_
    refine q_iconst (v := 2) d_Mo_variable_2 (by decide) ?_
    refine q_icmp_lt (tgt := 20) d_Mo_variable_3 (by decide) (fun b3 => ?_) (fun b3 => ?_)
    · skip
      refine q_iconst (v := 1) d_Mo_variable_20 (by decide) ?_
      refine q_goto (tgt := 25) d_Mo_variable_21 (by decide) ?_
      exact J25 _ (by first | (rw [if_pos (Or.inl b3)]) | (rw [if_pos (Or.inr (Or.inl b8))]) | (rw [if_pos (Or.inr (Or.inr (Or.inl b12)))]) | (rw [if_pos (Or.inr (Or.inr (Or.inr (Int32.not_lt.mp b17))))]) | (rw [if_neg (fun q => q.elim b3 (fun q => q.elim b8 (fun q => q.elim b12 (fun h => absurd h (Int32.not_le.mpr b17)))))]))
    · skip
      refine q_iload_n d_Mo_variable_6 rfl ?_
      refine q_iconst (v := 5) d_Mo_variable_7 (by decide) ?_
      refine q_icmp_gt (tgt := 20) d_Mo_variable_8 (by decide) (fun b8 => ?_) (fun b8 => ?_)
      · skip
        refine q_iconst (v := 1) d_Mo_variable_20 (by decide) ?_
        refine q_goto (tgt := 25) d_Mo_variable_21 (by decide) ?_
        exact J25 _ (by first | (rw [if_pos (Or.inl b3)]) | (rw [if_pos (Or.inr (Or.inl b8))]) | (rw [if_pos (Or.inr (Or.inr (Or.inl b12)))]) | (rw [if_pos (Or.inr (Or.inr (Or.inr (Int32.not_lt.mp b17))))]) | (rw [if_neg (fun q => q.elim b3 (fun q => q.elim b8 (fun q => q.elim b12 (fun h => absurd h (Int32.not_le.mpr b17)))))]))
      · skip
        refine q_iload_n d_Mo_variable_11 rfl ?_
        refine q_if_lt (tgt := 20) d_Mo_variable_12 (by decide) (fun b12 => ?_) (fun b12 => ?_)
        · skip
          refine q_iconst (v := 1) d_Mo_variable_20 (by decide) ?_
          refine q_goto (tgt := 25) d_Mo_variable_21 (by decide) ?_
          exact J25 _ (by first | (rw [if_pos (Or.inl b3)]) | (rw [if_pos (Or.inr (Or.inl b8))]) | (rw [if_pos (Or.inr (Or.inr (Or.inl b12)))]) | (rw [if_pos (Or.inr (Or.inr (Or.inr (Int32.not_lt.mp b17))))]) | (rw [if_neg (fun q => q.elim b3 (fun q => q.elim b8 (fun q => q.elim b12 (fun h => absurd h (Int32.not_le.mpr b17)))))]))
        · skip
          refine q_iload_n d_Mo_variable_15 rfl ?_
          refine q_iload_n d_Mo_variable_16 rfl ?_
          refine q_icmp_lt (tgt := 24) d_Mo_variable_17 (by decide) (fun b17 => ?_) (fun b17 => ?_)
          · skip
            refine q_iconst (v := 0) d_Mo_variable_24 (by decide) ?_
            exact J25 _ (by first | (rw [if_pos (Or.inl b3)]) | (rw [if_pos (Or.inr (Or.inl b8))]) | (rw [if_pos (Or.inr (Or.inr (Or.inl b12)))]) | (rw [if_pos (Or.inr (Or.inr (Or.inr (Int32.not_lt.mp b17))))]) | (rw [if_neg (fun q => q.elim b3 (fun q => q.elim b8 (fun q => q.elim b12 (fun h => absurd h (Int32.not_le.mpr b17)))))]))
          · skip
            refine q_iconst (v := 1) d_Mo_variable_20 (by decide) ?_
            refine q_goto (tgt := 25) d_Mo_variable_21 (by decide) ?_
            exact J25 _ (by first | (rw [if_pos (Or.inl b3)]) | (rw [if_pos (Or.inr (Or.inl b8))]) | (rw [if_pos (Or.inr (Or.inr (Or.inl b12)))]) | (rw [if_pos (Or.inr (Or.inr (Or.inr (Int32.not_lt.mp b17))))]) | (rw [if_neg (fun q => q.elim b3 (fun q => q.elim b8 (fun q => q.elim b12 (fun h => absurd h (Int32.not_le.mpr b17)))))]))
set_option maxRecDepth 10000 in
set_option maxHeartbeats 2000000 in
theorem c_Mo_variable (hG : q_GG g) {b hp : List va_E} {m : Nat → Int32} {A0 : Nat → Nat → Int32} {x y : Int32} {nv : Nat} (hA : M_A b m A0 hp) (v5 : m 5 = nI nv) (hnv : nv < 5) (hv : ¬ m_vb x y) : q_C g m_Mo_variable true (q_R 1 20 0 0) [.ref 84, .int x, .int y] hp (q_mo (some (.int (nI nv))) b (fun m' A' => m' 0 = 0 ∧ m' 5 = nI (nv + 1) ∧ m' 37 = 0 ∧ m' 34 = 0 ∧ A' 1 = upd (A0 1) nv x ∧ A' 2 = upd (A0 2) nv y ∧ A' 19 = bg2 (nv + 1) 5 (upd (A0 2) nv y) (bg1 6 (A0 19)) ∧ mo_K [0, 5, 34, 37] m m' ∧ mo_K [1, 2, 19] A0 A')) := by
  refine q_C.of hG (by decide) (Nat.le_of_ble_eq_true rfl) ?_
  have km : mo_K [0, 5, 34, 37] m m := mo_K.rfl
  have hcl : (nI nv).toNatClampNeg = nv := nI_clamp (by omega)
  have hin : vp_in (nI nv) 5 := vp_in_nI hnv (by decide)
  obtain ⟨A, hA0⟩ : ∃ A, A = A0 := ⟨_, rfl⟩
  rw [← hA0] at hA
  have kA : mo_K [1, 2] A0 A := by rw [hA0]; exact mo_K.rfl
  have a1 : A 1 = A0 1 := by rw [hA0]
  have a2 : A 2 = A0 2 := by rw [hA0]
  refine q_aload_n d_Mo_variable_0 rfl rfl ?_
  refine q_join (pc' := 25) (st' := [.ref 84]) (if m_vb x y then 1 else 0) (fun x25 hx25 => ?_) (fun J25 => ?_)
  · subst hx25
    refine x_put d_Mo_variable_25 f_Mo_90 hA.1 (Nat.le_of_ble_eq_true rfl) rfl rfl (fun hp1 e1 _ => ?_)
    obtain ⟨m, hA, v0, nn⟩ := hA.put (k := 0) (by decide) e1
    rw [if_neg hv] at v0
    have v5 := (nn 5 (by decide)).trans v5
    have km := km.put nn (by decide)
    refine q_aload_n d_Mo_variable_28 rfl rfl ?_
    refine q_get d_Mo_variable_29 f_Mo_90 hA.1 rfl ?_
    rw [v0]
    refine q_if_le (tgt := 37) d_Mo_variable_32 (by decide) (fun b32 => ?_) (fun b32 => ?_)
    · skip
      refine q_aload_n d_Mo_variable_37 rfl rfl ?_
      refine q_get d_Mo_variable_38 f_Mo_105 hA.1 rfl ?_
      rw [v5]
      refine q_iconst (v := 5) d_Mo_variable_41 (by decide) ?_
      refine q_icmp_ne (tgt := 47) d_Mo_variable_42 (by decide) (fun b42 => ?_) (fun b42 => ?_)
      · skip
        refine q_aload_n d_Mo_variable_47 rfl rfl ?_
        refine q_get d_Mo_variable_48 f_Mo_17 hA.1 rfl ?_
        refine q_aload_n d_Mo_variable_51 rfl rfl ?_
        refine q_get d_Mo_variable_52 f_Mo_105 hA.1 rfl ?_
        rw [v5]
        refine q_iload_n d_Mo_variable_55 rfl ?_
        refine x_iast d_Mo_variable_56 hA.a1 rfl (by assumption) (fun hp2 e2 _ => ?_)
        obtain ⟨A, hA, u1, nn⟩ := hA.st1 e2
        rw [a1] at u1
        rw [hcl] at u1
        have a1 := u1
        have a2 := (nn 2 (by decide)).trans a2
        have kA := kA.put nn (by decide)
        refine q_aload_n d_Mo_variable_57 rfl rfl ?_
        refine q_get d_Mo_variable_58 f_Mo_20 hA.1 rfl ?_
        refine q_aload_n d_Mo_variable_61 rfl rfl ?_
        refine q_get d_Mo_variable_62 f_Mo_105 hA.1 rfl ?_
        rw [v5]
        refine q_iload_n d_Mo_variable_65 rfl ?_
        refine x_iast d_Mo_variable_66 hA.a2 rfl (by assumption) (fun hp3 e3 _ => ?_)
        obtain ⟨A, hA, u2, nn⟩ := hA.st2 e3
        rw [a2] at u2
        rw [hcl] at u2
        have a2 := u2
        have a1 := (nn 1 (by decide)).trans a1
        have kA := kA.put nn (by decide)
        refine q_aload_n d_Mo_variable_67 rfl rfl ?_
        refine q_dup d_Mo_variable_68 rfl ?_
        refine q_get d_Mo_variable_69 f_Mo_105 hA.1 rfl ?_
        rw [v5]
        refine q_iconst (v := 1) d_Mo_variable_72 (by decide) ?_
        refine q_iadd d_Mo_variable_73 ?_
        refine x_put d_Mo_variable_74 f_Mo_105 hA.1 (Nat.le_of_ble_eq_true rfl) rfl rfl (fun hp4 e4 _ => ?_)
        obtain ⟨m, hA, v5, nn⟩ := hA.put (k := 5) (by decide) e4
        rw [nI_1] at v5
        have v0 := (nn 0 (by decide)).trans v0
        have km := km.put nn (by decide)
        refine q_aload_n d_Mo_variable_77 rfl rfl ?_
        refine x_callVm d_Mo_variable_78 l_Mo_108 i_Mo_begin v_Mo_begin rfl hA.1 (c_Mo_begin hG hA (nv := nv + 1) (by omega) v5) rfl rfl (Nat.le_of_ble_eq_true rfl) (Nat.le_of_ble_eq_true rfl) (Nat.le_of_ble_eq_true rfl) (Nat.le_of_ble_eq_true rfl) (fun m A hp5 hA hz => ?_)
        obtain ⟨w37, w34, w19, nm, nA⟩ := hz
        rw [a2, show _ = A0 19 from kA 19 (by decide)] at w19
        have v0 := (nm 0 (by decide)).trans v0
        have v5 := (nm 5 (by decide)).trans v5
        have a1 := (nA 1 (by decide)).trans a1
        have a2 := (nA 2 (by decide)).trans a2
        have km := km.sub nm (by decide)
        have kA : mo_K [1, 2, 19] A0 A := mo_K.sub (fun j hj => kA j (fun e => hj (by simp only [List.mem_cons, List.not_mem_nil, or_false] at e ⊢; omega))) nA (by decide)
        refine q_aload_n d_Mo_variable_81 rfl rfl ?_
        refine q_get d_Mo_variable_82 f_Mo_105 hA.1 rfl ?_
        rw [v5]
        refine q_iconst (v := 1) d_Mo_variable_85 (by decide) ?_
        refine q_isub d_Mo_variable_86 ?_
        rw [nI_pred]
        refine q_iret d_Mo_variable_87 rfl ?_ (Nat.le_of_ble_eq_true rfl) (Nat.le_of_ble_eq_true rfl) (by decide)
        exact ⟨(m, A, _), rfl, rfl, hA, v0, v5, w37, w34, a1, a2, w19, km, kA⟩
      · skip
        exact absurd ((nI_eq (b := 5) (by omega) (by decide)).mp b42) (by omega)
    · skip
      exact absurd (by decide) b32
  · skip
    refine q_iload_n d_Mo_variable_1 rfl ?_
    refine q_iconst (v := 2) d_Mo_variable_2 (by decide) ?_
    refine q_icmp_lt (tgt := 20) d_Mo_variable_3 (by decide) (fun b3 => ?_) (fun b3 => ?_)
    · skip
      refine q_iconst (v := 1) d_Mo_variable_20 (by decide) ?_
      refine q_goto (tgt := 25) d_Mo_variable_21 (by decide) ?_
      exact J25 _ (by first | (rw [if_pos (Or.inl b3)]) | (rw [if_pos (Or.inr (Or.inl b8))]) | (rw [if_pos (Or.inr (Or.inr (Or.inl b12)))]) | (rw [if_pos (Or.inr (Or.inr (Or.inr (Int32.not_lt.mp b17))))]) | (rw [if_neg (fun q => q.elim b3 (fun q => q.elim b8 (fun q => q.elim b12 (fun h => absurd h (Int32.not_le.mpr b17)))))]))
    · skip
      refine q_iload_n d_Mo_variable_6 rfl ?_
      refine q_iconst (v := 5) d_Mo_variable_7 (by decide) ?_
      refine q_icmp_gt (tgt := 20) d_Mo_variable_8 (by decide) (fun b8 => ?_) (fun b8 => ?_)
      · skip
        refine q_iconst (v := 1) d_Mo_variable_20 (by decide) ?_
        refine q_goto (tgt := 25) d_Mo_variable_21 (by decide) ?_
        exact J25 _ (by first | (rw [if_pos (Or.inl b3)]) | (rw [if_pos (Or.inr (Or.inl b8))]) | (rw [if_pos (Or.inr (Or.inr (Or.inl b12)))]) | (rw [if_pos (Or.inr (Or.inr (Or.inr (Int32.not_lt.mp b17))))]) | (rw [if_neg (fun q => q.elim b3 (fun q => q.elim b8 (fun q => q.elim b12 (fun h => absurd h (Int32.not_le.mpr b17)))))]))
      · skip
        refine q_iload_n d_Mo_variable_11 rfl ?_
        refine q_if_lt (tgt := 20) d_Mo_variable_12 (by decide) (fun b12 => ?_) (fun b12 => ?_)
        · skip
          refine q_iconst (v := 1) d_Mo_variable_20 (by decide) ?_
          refine q_goto (tgt := 25) d_Mo_variable_21 (by decide) ?_
          exact J25 _ (by first | (rw [if_pos (Or.inl b3)]) | (rw [if_pos (Or.inr (Or.inl b8))]) | (rw [if_pos (Or.inr (Or.inr (Or.inl b12)))]) | (rw [if_pos (Or.inr (Or.inr (Or.inr (Int32.not_lt.mp b17))))]) | (rw [if_neg (fun q => q.elim b3 (fun q => q.elim b8 (fun q => q.elim b12 (fun h => absurd h (Int32.not_le.mpr b17)))))]))
        · skip
          refine q_iload_n d_Mo_variable_15 rfl ?_
          refine q_iload_n d_Mo_variable_16 rfl ?_
          refine q_icmp_lt (tgt := 24) d_Mo_variable_17 (by decide) (fun b17 => ?_) (fun b17 => ?_)
          · skip
            refine q_iconst (v := 0) d_Mo_variable_24 (by decide) ?_
            exact J25 _ (by first | (rw [if_pos (Or.inl b3)]) | (rw [if_pos (Or.inr (Or.inl b8))]) | (rw [if_pos (Or.inr (Or.inr (Or.inl b12)))]) | (rw [if_pos (Or.inr (Or.inr (Or.inr (Int32.not_lt.mp b17))))]) | (rw [if_neg (fun q => q.elim b3 (fun q => q.elim b8 (fun q => q.elim b12 (fun h => absurd h (Int32.not_le.mpr b17)))))]))
          · skip
            refine q_iconst (v := 1) d_Mo_variable_20 (by decide) ?_
            refine q_goto (tgt := 25) d_Mo_variable_21 (by decide) ?_
            exact J25 _ (by first | (rw [if_pos (Or.inl b3)]) | (rw [if_pos (Or.inr (Or.inl b8))]) | (rw [if_pos (Or.inr (Or.inr (Or.inl b12)))]) | (rw [if_pos (Or.inr (Or.inr (Or.inr (Int32.not_lt.mp b17))))]) | (rw [if_neg (fun q => q.elim b3 (fun q => q.elim b8 (fun q => q.elim b12 (fun h => absurd h (Int32.not_le.mpr b17)))))]))
def cpy (i : Nat) (s f : Nat → Int32) : Nat → Int32 := fun j => if j < i then s j else f j
theorem cpy_s {i : Nat} {s f : Nat → Int32} : upd (cpy i s f) i (s i) = cpy (i + 1) s f := by
  funext j
  unfold upd cpy
  by_cases h : j = i
  · subst h
    simp
  · have : j < i + 1 ↔ j < i := by omega
    simp [h, this]
theorem cpy_0 {s f : Nat → Int32} : cpy 0 s f = f := by
  funext j
  simp [cpy]
set_option maxRecDepth 10000 in
set_option maxHeartbeats 2000000 in
theorem l_Mo_fromNow {b : List va_E} {m : Nat → Int32} {A0 : Nat → Nat → Int32} : ∀ (k i : Nat), i + k = 11 → ∀ (A : Nat → Nat → Int32) (hp : List va_E), M_A b m A hp → A 19 = A0 19 → A 20 = cpy i (A0 19) (A0 20) → mo_K [20] A0 A → q_J g m_Mo_fromNow true (q_R 0 0 0 0) (q_mo none b (fun m' A' => A' 20 = cpy 11 (A0 19) (A0 20) ∧ mo_K [] m m' ∧ mo_K [20] A0 A')) 2 [some (.ref 84), some (.int (nI i))] [] hp 0 0 true := by
  intro k
  induction k with
  | zero =>
    intro i hi A hp hA a19 a20 kA
    obtain rfl : i = 11 := by omega
    refine q_iload_n d_Mo_fromNow_2 rfl ?_
    refine q_bipush (v := 11) d_Mo_fromNow_3 (by decide) ?_
    refine q_icmp_ge (tgt := 26) d_Mo_fromNow_5 (by decide) (fun b5 => ?_) (fun b5 => ?_)
    · skip
      refine q_vret d_Mo_fromNow_26 rfl ?_ (Nat.le_of_ble_eq_true rfl) (Nat.le_of_ble_eq_true rfl) (by decide)
      exact ⟨(m, A, _), rfl, rfl, hA, a20, fun _ _ => rfl, kA⟩
    · skip
      exact absurd (show (11 : Int32) ≤ nI 11 by decide) b5
  | succ k ih =>
    intro i hi A hp hA a19 a20 kA
    have hin : vp_in (nI i) 11 := vp_in_nI (by omega) (by decide)
    have hcl : (nI i).toNatClampNeg = i := nI_clamp (by omega)
    refine q_iload_n d_Mo_fromNow_2 rfl ?_
    refine q_bipush (v := 11) d_Mo_fromNow_3 (by decide) ?_
    refine q_icmp_ge (tgt := 26) d_Mo_fromNow_5 (by decide) (fun b5 => ?_) (fun b5 => ?_)
    · skip
      exact absurd b5 (nI_ge (show i < 11 by omega) (by decide))
    · skip
      refine q_aload_n d_Mo_fromNow_8 rfl rfl ?_
      refine q_get d_Mo_fromNow_9 f_Mo_75 hA.1 rfl ?_
      refine q_iload_n d_Mo_fromNow_12 rfl ?_
      refine q_aload_n d_Mo_fromNow_13 rfl rfl ?_
      refine q_get d_Mo_fromNow_14 f_Mo_72 hA.1 rfl ?_
      refine q_iload_n d_Mo_fromNow_17 rfl ?_
      refine q_iald d_Mo_fromNow_18 hA.a19 rfl (by assumption) ?_
      rw [a19]
      rw [hcl]
      refine x_iast d_Mo_fromNow_19 hA.a20 rfl (by assumption) (fun hp1 e1 _ => ?_)
      obtain ⟨A, hA, u20, nn⟩ := hA.st20 e1
      rw [a20] at u20
      rw [hcl, cpy_s] at u20
      have a20 := u20
      have a19 := (nn 19 (by decide)).trans a19
      have kA := kA.put nn (by decide)
      refine q_iinc d_Mo_fromNow_20 rfl (show _ + Int32.ofInt 1 = _ + 1 from rfl) (by decide) rfl ?_
      refine q_goto (tgt := 2) d_Mo_fromNow_23 (by decide) ?_
      rw [nI_1]
      exact ih (i + 1) (by omega) A _ hA a19 a20 kA
set_option maxRecDepth 10000 in
set_option maxHeartbeats 2000000 in
theorem c_Mo_fromNow (hG : q_GG g) {b hp : List va_E} {m : Nat → Int32} {A : Nat → Nat → Int32} (hA : M_A b m A hp) : q_C g m_Mo_fromNow true (q_R 0 0 0 0) [.ref 84] hp (q_mo none b (fun m' A' => A' 20 = cpy 11 (A 19) (A 20) ∧ mo_K [] m m' ∧ mo_K [20] A A')) := by
  refine q_C.of hG (by decide) (Nat.le_of_ble_eq_true rfl) ?_
  refine q_iconst (v := 0) d_Mo_fromNow_0 (by decide) ?_
  refine q_istore_n d_Mo_fromNow_1 rfl (by decide) rfl ?_
  refine q_wrote ?_
  exact l_Mo_fromNow 11 0 (by omega) A _ hA rfl cpy_0.symm mo_K.rfl
end M7
