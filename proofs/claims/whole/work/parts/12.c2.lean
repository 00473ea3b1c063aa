/-! the JDK's small methods, loops of Course -/
section C2
theorem q_same {hp : List va_E} {a : Nat} {x : va_E} (h : hp[a]? = some x) : hp.set a x = hp := by
  apply List.ext_getElem?
  intro i
  by_cases hi : i = a
  · subst hi
    rw [q_self h, h]
  · rw [List.getElem?_set_ne (Ne.symm hi)]
variable {g : q_G}
def j_iu (x y : Int32) : Int32 := (x.toUInt32 >>> (y.toUInt32 &&& Int32.toUInt32 31)).toInt32
def j_lu (x : Int64) (y : Int32) : Int64 := (x.toUInt64 >>> (y.toInt64.toUInt64 &&& Int64.toUInt64 63)).toInt64
def j_i1 (x : Int32) : Int32 := x - (j_iu x 1 &&& 1431655765)
def j_i2 (x : Int32) : Int32 := (x &&& 858993459) + (j_iu x 2 &&& 858993459)
def j_i3 (x : Int32) : Int32 := (x + j_iu x 4) &&& 252645135
def j_i4 (x : Int32) : Int32 := x + j_iu x 8
def j_i5 (x : Int32) : Int32 := x + j_iu x 16
def j_ib (x : Int32) : Int32 := j_i5 (j_i4 (j_i3 (j_i2 (j_i1 x)))) &&& 63
def j_l1 (x : Int64) : Int64 := x - (j_lu x 1 &&& 6148914691236517205)
def j_l2 (x : Int64) : Int64 := (x &&& 3689348814741910323) + (j_lu x 2 &&& 3689348814741910323)
def j_l3 (x : Int64) : Int64 := (x + j_lu x 4) &&& 1085102592571150095
def j_l4 (x : Int64) : Int64 := x + j_lu x 8
def j_l5 (x : Int64) : Int64 := x + j_lu x 16
def j_l6 (x : Int64) : Int64 := x + j_lu x 32
def j_lb (x : Int64) : Int32 := (j_l6 (j_l5 (j_l4 (j_l3 (j_l2 (j_l1 x)))))).toInt32 &&& 127
set_option maxRecDepth 10000 in
set_option maxHeartbeats 1000000 in
theorem c_In_bitCount (hG : q_GG g) {hp : List va_E} {x : Int32} : q_C g m_In_bitCount false (q_R 0 0 0 0) [.int x] hp (q_ret (some (.int (j_ib x))) hp) := by
  refine q_C.of hG (by decide) (Nat.le_of_ble_eq_true rfl) ?_
  refine q_iload_n d_In_bitCount_0 rfl ?_
  refine q_iload_n d_In_bitCount_1 rfl ?_
  refine q_iconst (v := 1) d_In_bitCount_2 (by decide) ?_
  refine q_iushr d_In_bitCount_3 ?_
  refine x_ldcw d_In_bitCount_4 c_In_265 ?_
  refine q_iand d_In_bitCount_7 ?_
  refine q_isub d_In_bitCount_8 ?_
  refine q_istore_n d_In_bitCount_9 rfl (by decide) rfl ?_
  refine q_iload_n d_In_bitCount_10 rfl ?_
  refine x_ldcw d_In_bitCount_11 c_In_266 ?_
  refine q_iand d_In_bitCount_14 ?_
  refine q_iload_n d_In_bitCount_15 rfl ?_
  refine q_iconst (v := 2) d_In_bitCount_16 (by decide) ?_
  refine q_iushr d_In_bitCount_17 ?_
  refine x_ldcw d_In_bitCount_18 c_In_266 ?_
  refine q_iand d_In_bitCount_21 ?_
  refine q_iadd d_In_bitCount_22 ?_
  refine q_istore_n d_In_bitCount_23 rfl (by decide) rfl ?_
  refine q_iload_n d_In_bitCount_24 rfl ?_
  refine q_iload_n d_In_bitCount_25 rfl ?_
  refine q_iconst (v := 4) d_In_bitCount_26 (by decide) ?_
  refine q_iushr d_In_bitCount_27 ?_
  refine q_iadd d_In_bitCount_28 ?_
  refine x_ldcw d_In_bitCount_29 c_In_267 ?_
  refine q_iand d_In_bitCount_32 ?_
  refine q_istore_n d_In_bitCount_33 rfl (by decide) rfl ?_
  refine q_iload_n d_In_bitCount_34 rfl ?_
  refine q_iload_n d_In_bitCount_35 rfl ?_
  refine q_bipush (v := 8) d_In_bitCount_36 (by decide) ?_
  refine q_iushr d_In_bitCount_38 ?_
  refine q_iadd d_In_bitCount_39 ?_
  refine q_istore_n d_In_bitCount_40 rfl (by decide) rfl ?_
  refine q_iload_n d_In_bitCount_41 rfl ?_
  refine q_iload_n d_In_bitCount_42 rfl ?_
  refine q_bipush (v := 16) d_In_bitCount_43 (by decide) ?_
  refine q_iushr d_In_bitCount_45 ?_
  refine q_iadd d_In_bitCount_46 ?_
  refine q_istore_n d_In_bitCount_47 rfl (by decide) rfl ?_
  refine q_iload_n d_In_bitCount_48 rfl ?_
  refine q_bipush (v := 63) d_In_bitCount_49 (by decide) ?_
  refine q_iand d_In_bitCount_51 ?_
  refine q_iret d_In_bitCount_52 rfl ?_ (Nat.le_of_ble_eq_true rfl) (Nat.le_of_ble_eq_true rfl) (by decide)
  exact ⟨rfl, rfl⟩
set_option maxRecDepth 10000 in
set_option maxHeartbeats 1000000 in
theorem c_Lo_bitCount (hG : q_GG g) {hp : List va_E} {x : Int64} : q_C g m_Lo_bitCount false (q_R 0 0 0 0) [.long x] hp (q_ret (some (.int (j_lb x))) hp) := by
  refine q_C.of hG (by decide) (Nat.le_of_ble_eq_true rfl) ?_
  refine q_lload_n d_Lo_bitCount_0 rfl ?_
  refine q_lload_n d_Lo_bitCount_1 rfl ?_
  refine q_iconst (v := 1) d_Lo_bitCount_2 (by decide) ?_
  refine q_lushr d_Lo_bitCount_3 ?_
  refine q_ldc2 d_Lo_bitCount_4 c_Lo_314 ?_
  refine q_land d_Lo_bitCount_7 ?_
  refine q_lsub d_Lo_bitCount_8 ?_
  refine q_lstore_n d_Lo_bitCount_9 rfl (by decide) rfl ?_
  refine q_lload_n d_Lo_bitCount_10 rfl ?_
  refine q_ldc2 d_Lo_bitCount_11 c_Lo_316 ?_
  refine q_land d_Lo_bitCount_14 ?_
  refine q_lload_n d_Lo_bitCount_15 rfl ?_
  refine q_iconst (v := 2) d_Lo_bitCount_16 (by decide) ?_
  refine q_lushr d_Lo_bitCount_17 ?_
  refine q_ldc2 d_Lo_bitCount_18 c_Lo_316 ?_
  refine q_land d_Lo_bitCount_21 ?_
  refine q_ladd d_Lo_bitCount_22 ?_
  refine q_lstore_n d_Lo_bitCount_23 rfl (by decide) rfl ?_
  refine q_lload_n d_Lo_bitCount_24 rfl ?_
  refine q_lload_n d_Lo_bitCount_25 rfl ?_
  refine q_iconst (v := 4) d_Lo_bitCount_26 (by decide) ?_
  refine q_lushr d_Lo_bitCount_27 ?_
  refine q_ladd d_Lo_bitCount_28 ?_
  refine q_ldc2 d_Lo_bitCount_29 c_Lo_318 ?_
  refine q_land d_Lo_bitCount_32 ?_
  refine q_lstore_n d_Lo_bitCount_33 rfl (by decide) rfl ?_
  refine q_lload_n d_Lo_bitCount_34 rfl ?_
  refine q_lload_n d_Lo_bitCount_35 rfl ?_
  refine q_bipush (v := 8) d_Lo_bitCount_36 (by decide) ?_
  refine q_lushr d_Lo_bitCount_38 ?_
  refine q_ladd d_Lo_bitCount_39 ?_
  refine q_lstore_n d_Lo_bitCount_40 rfl (by decide) rfl ?_
  refine q_lload_n d_Lo_bitCount_41 rfl ?_
  refine q_lload_n d_Lo_bitCount_42 rfl ?_
  refine q_bipush (v := 16) d_Lo_bitCount_43 (by decide) ?_
  refine q_lushr d_Lo_bitCount_45 ?_
  refine q_ladd d_Lo_bitCount_46 ?_
  refine q_lstore_n d_Lo_bitCount_47 rfl (by decide) rfl ?_
  refine q_lload_n d_Lo_bitCount_48 rfl ?_
  refine q_lload_n d_Lo_bitCount_49 rfl ?_
  refine q_bipush (v := 32) d_Lo_bitCount_50 (by decide) ?_
  refine q_lushr d_Lo_bitCount_52 ?_
  refine q_ladd d_Lo_bitCount_53 ?_
  refine q_lstore_n d_Lo_bitCount_54 rfl (by decide) rfl ?_
  refine q_lload_n d_Lo_bitCount_55 rfl ?_
  refine q_l2i d_Lo_bitCount_56 ?_
  refine q_bipush (v := 127) d_Lo_bitCount_57 (by decide) ?_
  refine q_iand d_Lo_bitCount_59 ?_
  refine q_iret d_Lo_bitCount_60 rfl ?_ (Nat.le_of_ble_eq_true rfl) (Nat.le_of_ble_eq_true rfl) (by decide)
  exact ⟨rfl, rfl⟩
theorem u_fillI (f : Nat → Int32) (v : Int32) (i m : Nat) (hm : m = i) : upd (fun j => if j < i then v else f j) m v = fun j => if j < i + 1 then v else f j := by
  subst hm
  funext j
  unfold upd
  by_cases h : j = m
  · subst h; simp
  · by_cases h2 : j < m
    · simp [h, h2, Nat.lt_succ_of_lt h2]
    · have : ¬ j < m + 1 := by omega
      simp [h, h2, this]
set_option maxRecDepth 10000 in
set_option maxHeartbeats 1000000 in
theorem l_fillI {hp : List va_E} {a n : Nat} {v : Int32} {f : Nat → Int32} (hn : n < 2 ^ 31) : ∀ (k i : Nat) (hp0 : List va_E), i + k = n → hp0[a]? = some (a_I n (fun j => if j < i then v else f j)) → hp0 = hp.set a (a_I n (fun j => if j < i then v else f j)) → q_J g m_Ar_fillI true (q_R 0 0 0 0) (q_ret none (hp.set a (a_I n (fun j => if j < n then v else f j)))) 5 [some (.ref a), some (.int v), some (.int (nI i)), some (.int (nI n))] [] hp0 0 0 true := by
  intro k
  induction k with
  | zero =>
    intro i hp0 hi h_a e0
    have hi : i = n := by omega
    subst hi
    refine q_iload_n d_Ar_fillI_5 rfl ?_
    refine q_iload_n d_Ar_fillI_6 rfl ?_
    refine q_icmp_ge (tgt := 20) d_Ar_fillI_7 (by decide) (fun b7 => ?_) (fun b7 => ?_)
    · skip
      refine q_vret d_Ar_fillI_20 rfl ?_ (Nat.le_of_ble_eq_true rfl) (Nat.le_of_ble_eq_true rfl) (by decide)
      exact ⟨rfl, e0⟩
    · skip
      exact absurd (nI_le (Nat.le_refl i) hn) b7
  | succ k ih =>
    intro i hp0 hi h_a e0
    have hcl : (nI i).toNatClampNeg = i := nI_clamp (by omega)
    have hin : vp_in (nI i) n := vp_in_nI (by omega) hn
    refine q_iload_n d_Ar_fillI_5 rfl ?_
    refine q_iload_n d_Ar_fillI_6 rfl ?_
    refine q_icmp_ge (tgt := 20) d_Ar_fillI_7 (by decide) (fun b7 => ?_) (fun b7 => ?_)
    · skip
      exact absurd b7 (nI_ge (show i < n by omega) hn)
    · skip
      refine q_aload_n d_Ar_fillI_10 rfl rfl ?_
      refine q_iload_n d_Ar_fillI_11 rfl ?_
      refine q_iload_n d_Ar_fillI_12 rfl ?_
      refine x_iast d_Ar_fillI_13 h_a rfl hin (fun hp1 e1 h_a => ?_)
      refine q_iinc d_Ar_fillI_14 rfl (show _ + Int32.ofInt 1 = _ + 1 from rfl) (by decide) rfl ?_
      refine q_goto (tgt := 5) d_Ar_fillI_17 (by decide) ?_
      rw [nI_1]
      have hf := u_fillI f v i _ hcl
      rw [hf] at h_a e1
      exact ih (i + 1) hp1 (by omega) h_a (by rw [e1, e0, List.set_set])
set_option maxRecDepth 10000 in
set_option maxHeartbeats 1000000 in
theorem c_Ar_fillI (hG : q_GG g) {hp : List va_E} {a n : Nat} {v : Int32} {f : Nat → Int32} (h_a : hp[a]? = some (a_I n f)) (hn : n < 2 ^ 31) : q_C g m_Ar_fillI true (q_R 0 0 0 0) [.ref a, .int v] hp (q_ret none (hp.set a (a_I n (fun j => if j < n then v else f j)))) := by
  refine q_C.of hG (by decide) (Nat.le_of_ble_eq_true rfl) ?_
  refine q_iconst (v := 0) d_Ar_fillI_0 (by decide) ?_
  refine q_istore_n d_Ar_fillI_1 rfl (by decide) rfl ?_
  refine q_aload_n d_Ar_fillI_2 rfl rfl ?_
  refine q_alen d_Ar_fillI_3 h_a rfl rfl ?_
  refine q_istore_n d_Ar_fillI_4 rfl (by decide) rfl ?_
  refine q_wrote ?_
  exact l_fillI hn n 0 hp (by omega) (by simpa using h_a) (by simp only [Nat.not_lt_zero, if_false]; exact (q_same h_a).symm)
theorem u_fillJ (f : Nat → Int64) (v : Int64) (i m : Nat) (hm : m = i) : vp_updL (fun j => if j < i then v else f j) m v = fun j => if j < i + 1 then v else f j := by
  subst hm
  funext j
  unfold vp_updL
  by_cases h : j = m
  · subst h; simp
  · by_cases h2 : j < m
    · simp [h, h2, Nat.lt_succ_of_lt h2]
    · have : ¬ j < m + 1 := by omega
      simp [h, h2, this]
set_option maxRecDepth 10000 in
set_option maxHeartbeats 1000000 in
theorem l_fillJ {hp : List va_E} {a n : Nat} {v : Int64} {f : Nat → Int64} (hn : n < 2 ^ 31) : ∀ (k i : Nat) (hp0 : List va_E), i + k = n → hp0[a]? = some (a_J n (fun j => if j < i then v else f j)) → hp0 = hp.set a (a_J n (fun j => if j < i then v else f j)) → q_J g m_Ar_fillJ true (q_R 0 0 0 0) (q_ret none (hp.set a (a_J n (fun j => if j < n then v else f j)))) 6 [some (.ref a), some (.long v), none, some (.int (nI i)), some (.int (nI n))] [] hp0 0 0 true := by
  intro k
  induction k with
  | zero =>
    intro i hp0 hi h_a e0
    have hi : i = n := by omega
    subst hi
    refine q_iload_n d_Ar_fillJ_6 rfl ?_
    refine q_iload d_Ar_fillJ_7 rfl ?_
    refine q_icmp_ge (tgt := 22) d_Ar_fillJ_9 (by decide) (fun b9 => ?_) (fun b9 => ?_)
    · skip
      refine q_vret d_Ar_fillJ_22 rfl ?_ (Nat.le_of_ble_eq_true rfl) (Nat.le_of_ble_eq_true rfl) (by decide)
      exact ⟨rfl, e0⟩
    · skip
      exact absurd (nI_le (Nat.le_refl i) hn) b9
  | succ k ih =>
    intro i hp0 hi h_a e0
    have hcl : (nI i).toNatClampNeg = i := nI_clamp (by omega)
    have hin : vp_in (nI i) n := vp_in_nI (by omega) hn
    refine q_iload_n d_Ar_fillJ_6 rfl ?_
    refine q_iload d_Ar_fillJ_7 rfl ?_
    refine q_icmp_ge (tgt := 22) d_Ar_fillJ_9 (by decide) (fun b9 => ?_) (fun b9 => ?_)
    · skip
      exact absurd b9 (nI_ge (show i < n by omega) hn)
    · skip
      refine q_aload_n d_Ar_fillJ_12 rfl rfl ?_
      refine q_iload_n d_Ar_fillJ_13 rfl ?_
      refine q_lload_n d_Ar_fillJ_14 rfl ?_
      refine x_last d_Ar_fillJ_15 h_a rfl hin (fun hp1 e1 h_a => ?_)
      refine q_iinc d_Ar_fillJ_16 rfl (show _ + Int32.ofInt 1 = _ + 1 from rfl) (by decide) rfl ?_
      refine q_goto (tgt := 6) d_Ar_fillJ_19 (by decide) ?_
      rw [nI_1]
      have hf := u_fillJ f v i _ hcl
      rw [hf] at h_a e1
      exact ih (i + 1) hp1 (by omega) h_a (by rw [e1, e0, List.set_set])
set_option maxRecDepth 10000 in
set_option maxHeartbeats 1000000 in
theorem c_Ar_fillJ (hG : q_GG g) {hp : List va_E} {a n : Nat} {v : Int64} {f : Nat → Int64} (h_a : hp[a]? = some (a_J n f)) (hn : n < 2 ^ 31) : q_C g m_Ar_fillJ true (q_R 0 0 0 0) [.ref a, .long v] hp (q_ret none (hp.set a (a_J n (fun j => if j < n then v else f j)))) := by
  refine q_C.of hG (by decide) (Nat.le_of_ble_eq_true rfl) ?_
  refine q_iconst (v := 0) d_Ar_fillJ_0 (by decide) ?_
  refine q_istore_n d_Ar_fillJ_1 rfl (by decide) rfl ?_
  refine q_aload_n d_Ar_fillJ_2 rfl rfl ?_
  refine q_alen d_Ar_fillJ_3 h_a rfl rfl ?_
  refine q_istore d_Ar_fillJ_4 (by decide) rfl ?_
  refine q_wrote ?_
  exact l_fillJ hn n 0 hp (by omega) (by simpa using h_a) (by simp only [Nat.not_lt_zero, if_false]; exact (q_same h_a).symm)
end C2
