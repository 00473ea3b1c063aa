/-! the law: its loop and its start -/
section W8
variable {g : q_G}
abbrev P_law : Outcome → List va_E → Prop := fun r _ => r = .returned (some (.int 1))
theorem and31 (x : Int32) : ∃ t : Nat, t < 32 ∧ x &&& 31 = nI t := by
  refine ⟨x.toBitVec.toNat % 32, Nat.mod_lt _ (by decide), Int32.toBitVec_inj.mp (BitVec.eq_of_toNat_eq ?_)⟩
  rw [Int32.toBitVec_and, BitVec.toNat_and]
  show x.toBitVec.toNat &&& 31 = (BitVec.ofNat 32 (x.toBitVec.toNat % 32)).toNat
  rw [BitVec.toNat_ofNat, show 31 = 2 ^ 5 - 1 from rfl, Nat.and_two_pow_sub_one_eq_mod, Nat.mod_eq_of_lt (show x.toBitVec.toNat % 32 < 2 ^ 32 by have := Nat.mod_lt x.toBitVec.toNat (show 0 < 32 by decide); omega)]
theorem lw_cmp {L j : Nat} (hL : L ≤ 2048) (hj : j < 2 ^ 30) : nI L - 4 < nI j ↔ ¬ j + 4 ≤ L := by
  rw [Int32.lt_iff_toInt_lt, show (4 : Int32) = nI 4 from rfl, pk_sub_toInt (by omega) (by decide), nI_toInt (by omega)]
  omega
set_option maxRecDepth 10000 in
set_option maxHeartbeats 2000000 in
theorem law_loop (hG : q_GG g) (hno1 : (q_s g).vm.assignable ((q_D g).1 10) ((q_D g).1 11) = false) (hno2 : (q_s g).vm.assignable ((q_D g).1 11) ((q_D g).1 12) = false) (hL : (q_x g).2.1 ≤ 2048) : ∀ (k j : Nat), (q_x g).2.1 - j ≤ k → j ≤ 2048 → ∀ (hp : List va_E) (z5 z6 : Option Value), I_L hp → q_J g m_La_law true rmL P_law 23 (lsL (nI j) z5 z6) [] hp (111 + j) (93254 + 6 * j) true := by
  intro k
  induction k with
  | zero =>
    intro j hk hj hp z5 z6 hI
    refine q_iload d_La_law_23 rfl ?_
    refine q_aload_n d_La_law_25 rfl rfl ?_
    refine q_slen d_La_law_26 ?_
    refine q_iconst (v := 4) d_La_law_27 (by decide) ?_
    refine q_isub d_La_law_28 ?_
    refine q_icmp_gt (tgt := 855) d_La_law_29 (by decide) (fun b29 => ?_) (fun b29 => ?_)
    · skip
      refine q_iconst (v := 1) d_La_law_855 (by decide) ?_
      refine q_zret d_La_law_856 rfl (by decide) ?_ (show 111 + j ≤ 601024 by omega) (show 93254 + 6 * j ≤ 7293034 by omega) (by decide)
      exact rfl
    · exact absurd ((lw_cmp hL (by omega)).mpr (by omega)) b29
  | succ k ih =>
    intro j hk hj hp z5 z6 hI
    refine q_iload d_La_law_23 rfl ?_
    refine q_aload_n d_La_law_25 rfl rfl ?_
    refine q_slen d_La_law_26 ?_
    refine q_iconst (v := 4) d_La_law_27 (by decide) ?_
    refine q_isub d_La_law_28 ?_
    refine q_icmp_gt (tgt := 855) d_La_law_29 (by decide) (fun b29 => ?_) (fun b29 => ?_)
    · skip
      refine q_iconst (v := 1) d_La_law_855 (by decide) ?_
      refine q_zret d_La_law_856 rfl (by decide) ?_ (show 111 + j ≤ 601024 by omega) (show 93254 + 6 * j ≤ 7293034 by omega) (by decide)
      exact rfl
    · have hq : j + 4 ≤ (q_x g).2.1 := by
        by_cases q : j + 4 ≤ (q_x g).2.1
        · exact q
        · exact absurd ((lw_cmp hL (by omega)).mpr q) b29
      have hJ : J_L g P_law (nI j) (111 + j) (93254 + 6 * j) := by
        intro hp' z5 z6 hI'
        refine q_iinc d_La_law_849 rfl (show _ + Int32.ofInt 4 = _ + 4 from rfl) (by decide) rfl ?_
        refine q_goto (tgt := 23) d_La_law_852 (by decide) ?_
        rw [show (4 : Int32) = nI 4 from rfl, nI_add]
        exact q_more (by omega) (by omega) (ih (j + 4) (by omega) (by omega) hp' z5 z6 hI')
      refine q_aload_n d_La_law_32 rfl rfl ?_
      refine q_iload d_La_law_33 rfl ?_
      refine q_sald d_La_law_35 (sc_in (k := 0) hq hL (by decide)) ?_
      refine q_bipush (v := 31) d_La_law_36 (by decide) ?_
      refine q_iand d_La_law_38 ?_
      obtain ⟨t, ht, he⟩ := and31 ((q_x g).2.2 (nI j).toNatClampNeg)
      rw [he]
      by_cases h18 : t ≤ 18
      · have hd : t = 0 ∨ t = 1 ∨ t = 2 ∨ t = 3 ∨ t = 4 ∨ t = 5 ∨ t = 6 ∨ t = 7 ∨ t = 8 ∨ t = 9 ∨ t = 10 ∨ t = 11 ∨ t = 12 ∨ t = 13 ∨ t = 14 ∨ t = 15 ∨ t = 16 ∨ t = 17 ∨ t = 18 := by omega
        rcases hd with rfl | rfl | rfl | rfl | rfl | rfl | rfl | rfl | rfl | rfl | rfl | rfl | rfl | rfl | rfl | rfl | rfl | rfl | rfl
        · refine q_tableIn (tgt := 128) d_La_law_39 (by decide) (by decide) rfl (by decide) ?_
          exact law_feed hG hq hL hJ (by omega) (by omega) hI
        · refine q_tableIn (tgt := 228) d_La_law_39 (by decide) (by decide) rfl (by decide) ?_
          exact law_wipe hG hJ (by omega) (by omega) hI
        · refine q_tableIn (tgt := 241) d_La_law_39 (by decide) (by decide) rfl (by decide) ?_
          exact law_variable hG hq hL hJ (by omega) (by omega) hI
        · refine q_tableIn (tgt := 309) d_La_law_39 (by decide) (by decide) rfl (by decide) ?_
          exact law_process hG hJ (by omega) (by omega) hI
        · refine q_tableIn (tgt := 322) d_La_law_39 (by decide) (by decide) rfl (by decide) ?_
          exact law_fault hG hJ (by omega) (by omega) hI
        · refine q_tableIn (tgt := 335) d_La_law_39 (by decide) (by decide) rfl (by decide) ?_
          exact law_faultAt hG hJ (by omega) (by omega) hI
        · refine q_tableIn (tgt := 348) d_La_law_39 (by decide) (by decide) rfl (by decide) ?_
          exact law_clear hG hJ (by omega) (by omega) hI
        · refine q_tableIn (tgt := 361) d_La_law_39 (by decide) (by decide) rfl (by decide) ?_
          exact law_told hG hno1 hq hL hJ (by omega) (by omega) hI
        · refine q_tableIn (tgt := 429) d_La_law_39 (by decide) (by decide) rfl (by decide) ?_
          exact law_product hG hJ (by omega) (by omega) hI
        · refine q_tableIn (tgt := 442) d_La_law_39 (by decide) (by decide) rfl (by decide) ?_
          exact law_stuck hG hJ (by omega) (by omega) hI
        · refine q_tableIn (tgt := 455) d_La_law_39 (by decide) (by decide) rfl (by decide) ?_
          exact law_ended hG hJ (by omega) (by omega) hI
        · refine q_tableIn (tgt := 468) d_La_law_39 (by decide) (by decide) rfl (by decide) ?_
          exact law_place hG hno2 hq hL hJ (by omega) (by omega) hI
        · refine q_tableIn (tgt := 536) d_La_law_39 (by decide) (by decide) rfl (by decide) ?_
          exact law_value hG hno2 hq hL hJ (by omega) (by omega) hI
        · refine q_tableIn (tgt := 604) d_La_law_39 (by decide) (by decide) rfl (by decide) ?_
          exact law_moves hG hJ (by omega) (by omega) hI
        · refine q_tableIn (tgt := 617) d_La_law_39 (by decide) (by decide) rfl (by decide) ?_
          exact law_move hG hq hL hJ (by omega) (by omega) hI
        · refine q_tableIn (tgt := 673) d_La_law_39 (by decide) (by decide) rfl (by decide) ?_
          exact law_restart hG hJ (by omega) (by omega) hI
        · refine q_tableIn (tgt := 686) d_La_law_39 (by decide) (by decide) rfl (by decide) ?_
          exact law_now hG hq hL hJ (by omega) (by omega) hI
        · refine q_tableIn (tgt := 742) d_La_law_39 (by decide) (by decide) rfl (by decide) ?_
          exact law_has hG hq hL hJ (by omega) (by omega) hI
        · refine q_tableIn (tgt := 798) d_La_law_39 (by decide) (by decide) rfl (by decide) ?_
          exact law_falls hG hq hL hJ (by omega) (by omega) hI
      · refine q_tableOut (tgt := 849) d_La_law_39 (Or.inr (by rw [nI_toInt (by omega)]; omega)) (by decide) ?_
        exact q_more (by omega) (by omega) (hJ hp z5 z6 hI)
theorem c_00_ok : c_ok c_00 := ⟨Nat.le_refl _, by decide, by decide, fun j _ => ⟨by show 0 < 8192; decide, by show 0 < 128; decide, by show 0 < 5; decide, by show 0 < 5; decide⟩⟩
theorem w_00_mk : w_mk w_00 := by
  refine ⟨⟨by decide, by decide, fun v hv => ?_, fun q _ => c_00_ok⟩, fun q hq => absurd hq (Nat.not_lt_zero q), fun q hq => absurd hq (Nat.not_lt_zero q), fun v _ hv => if_pos hv⟩
  show 1 ≤ (if v < 5 then 1 else 0) ∧ (if v < 5 then 1 else 0) ≤ 5 ∧ 0 < (if v < 5 then 1 else 0)
  rw [if_pos hv]
  omega
theorem P_00 : P_P w_00 x_00 (fun _ => 0) (fun _ => 0) := by
  refine ⟨w_00_mk, ⟨0, by show 0 < 13; decide, Nat.le_refl _, fun i _ => ⟨⟨by show 0 < 2; decide, by show 0 < 8192; decide, by show 0 < 8192; decide⟩, ⟨by show 0 < 2; decide, by show 0 < 8192; decide, by show 0 < 8192; decide⟩⟩, ⟨by show 0 < 2; decide, by show 0 < 8192; decide, by show 0 < 8192; decide⟩, c_00_ok⟩, ⟨fun q hq => absurd hq (Nat.not_lt_zero q), fun q _ => by show 0 < 13; decide, fun v hv => ?_⟩, rr_self _ _⟩
  show 0 < (if v < 5 then 1 else 0)
  rw [if_pos hv]
  decide
theorem I_00 {hp : List va_E} (h1 : T_A 0 (fun _ => 0) w_00 x_00 B_00 (fun _ => 0) (fun _ => 0) 0 hp) (h2 : hp[84]? = some (o_Mo m_00)) (h3 : ∀ k, k < 25 → hp[85 + k]? = some (mo_c k (fun _ => 0))) (h4 : hp[110]? = some (a_J 1 (fun _ => 0))) : I_L hp :=
  ⟨0, fun _ => 0, w_00, x_00, fun _ => 0, fun _ => 0, 0, ⟨fun _ => 0, B_00, h1, ⟨by decide, fun j hj => absurd hj (Nat.not_lt_zero j)⟩, ⟨fun q _ => by show 0 < 13; decide, Or.inl ⟨rfl, rfl⟩⟩⟩, P_00, ⟨m_00, fun _ _ => 0, ⟨h2, h3, F_M.refl _⟩, rfl, fun j hj => absurd hj (Nat.not_lt_zero j), rfl, rfl, ⟨rfl, rfl, fun v hv => absurd hv (Nat.not_lt_zero v), fun q hq => absurd hq (Nat.not_lt_zero q)⟩, ⟨fun q _ => rfl, fun v _ => rfl⟩, rfl, Or.inl rfl⟩, ⟨_, h4⟩⟩
set_option maxRecDepth 10000 in
set_option maxHeartbeats 2000000 in
theorem law_start (hG : q_GG g) (hno1 : (q_s g).vm.assignable ((q_D g).1 10) ((q_D g).1 11) = false) (hno2 : (q_s g).vm.assignable ((q_D g).1 11) ((q_D g).1 12) = false) (hL : (q_x g).2.1 ≤ 2048) : q_J g m_La_law true rmL P_law 0 (q_en [.retAddr 0] 7) [] [] 0 0 false := by
  refine x_new (L := 0) (fs := [.null, .null, .null, .null, .null, .int 0]) d_La_law_0 n_La_8 rfl (Nat.le_of_ble_eq_true rfl) (Nat.le_of_ble_eq_true rfl) rfl (fun hp1 e1 => ?_)
  have h0 := q_apl e1 rfl
  have hl := q_len e1 rfl
  refine q_dup d_La_law_3 rfl ?_
  refine x_callIr d_La_law_4 l_La_46 rfl rfl i_S_init (k_S_init hG h0 hl) rfl rfl (Nat.le_of_ble_eq_true rfl) (Nat.le_of_ble_eq_true rfl) (Nat.le_of_ble_eq_true rfl) (Nat.le_of_ble_eq_true rfl) (fun hp2 hz => ?_)
  obtain ⟨hl, hT⟩ := hz
  refine q_astore_n d_La_law_7 rfl rfl (by decide) rfl ?_
  refine x_new (L := 84) (fs := [.int 0, .null, .int 0, .int 0, .int 0, .int 0, .null, .null, .int 0, .null, .null, .null, .null, .null, .null, .int 0, .int 0, .null, .null, .null, .null, .int 0, .null, .null, .null, .null, .null, .null, .int 0, .int 0, .int 0, .null, .null, .null, .int 0, .null, .null, .int 0, .null, .int 0, .int 0]) d_La_law_8 n_La_47 rfl (Nat.le_of_ble_eq_true rfl) (Nat.le_of_ble_eq_true rfl) hl (fun hp3 e3 => ?_)
  have h84 := q_apl e3 hl
  have hT := hT.keep (hp' := hp3) (fun i hi => by rw [e3, List.getElem?_append_left (by omega)])
  have hl := q_len e3 hl
  refine q_dup d_La_law_11 rfl ?_
  refine x_callIr d_La_law_12 l_La_49 rfl rfl i_Mo_init (k_Mo_init hG h84 hl) rfl rfl (Nat.le_of_ble_eq_true rfl) (Nat.le_of_ble_eq_true rfl) (Nat.le_of_ble_eq_true rfl) (Nat.le_of_ble_eq_true rfl) (fun hp4 hz => ?_)
  obtain ⟨hK, hl, h84, h85⟩ := hz
  have hT := hT.keep (hp' := hp4) (fun i hi => hK.2.2 i (by omega) (by omega))
  refine q_astore_n d_La_law_15 rfl rfl (by decide) rfl ?_
  refine q_iconst (v := 1) d_La_law_16 (by decide) ?_
  refine x_newa_l (L := 110) d_La_law_17 a_l (by decide) (N := 1) rfl (by decide) (Nat.le_of_ble_eq_true rfl) (Nat.le_of_ble_eq_true rfl) hl (fun hp5 e5 => ?_)
  have h110 := q_apl e5 hl
  have hT := hT.keep (hp' := hp5) (fun i hi => by rw [e5, List.getElem?_append_left (by omega)])
  refine q_astore_n d_La_law_19 rfl rfl (by decide) rfl ?_
  refine q_iconst (v := 0) d_La_law_20 (by decide) ?_
  refine q_istore d_La_law_21 (by decide) rfl ?_
  exact law_loop hG hno1 hno2 hL (q_x g).2.1 0 (by omega) (by omega) hp5 none none (I_00 hT (q_app e5 h84) (fun k hk => q_app e5 (h85 k hk)) h110)
end W8
