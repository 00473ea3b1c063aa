/-! Part, Tape, small methods -/
section CPART
abbrev q_R (f n c s : Nat) : Room := { frames := f, cells := c, slots := s, locals := n }
/-- a Part -/
abbrev o_Pa (b f l : Int32) : va_E := .inr (5, [.int b, .int f, .int l])
abbrev q_B (b : Int32) : Prop := b = 0 ∨ b = 1
theorem q_Bn {b : Int32} (h : q_B b) : narrow .boolean (.int b) = .int b := by rcases h with rfl | rfl <;> rfl
theorem q_Bf {b : Int32} (h : q_B b) : fits .boolean (.int b) = true := by rcases h with rfl | rfl <;> rfl
variable {g : q_G}
set_option maxRecDepth 10000 in
theorem c_Pa_set (hG : q_GG g) {hp : List va_E} {a : Nat} {b f l z x : Int32} (h_p : hp[a]? = some (o_Pa b f l)) (hz : q_B z) : q_C g m_Pa_set true (q_R 0 0 0 0) [.ref a, .int z, .int x] hp (q_ret none (hp.set a (o_Pa z x x))) := by
  refine q_C.of hG (by decide) (Nat.le_of_ble_eq_true rfl) ?_
  refine q_aload_n d_Pa_set_0 rfl rfl ?_
  refine q_iload_n d_Pa_set_1 rfl ?_
  refine x_put d_Pa_set_2 f_Pa_7 h_p (Nat.le_of_ble_eq_true rfl) (q_Bn hz) (q_Bf hz) (fun hp1 e1 h_p => ?_)
  refine q_aload_n d_Pa_set_5 rfl rfl ?_
  refine q_iload_n d_Pa_set_6 rfl ?_
  refine x_put d_Pa_set_7 f_Pa_13 h_p (Nat.le_of_ble_eq_true rfl) rfl rfl (fun hp2 e2 h_p => ?_)
  refine q_aload_n d_Pa_set_10 rfl rfl ?_
  refine q_iload_n d_Pa_set_11 rfl ?_
  refine x_put d_Pa_set_12 f_Pa_17 h_p (Nat.le_of_ble_eq_true rfl) rfl rfl (fun hp3 e3 h_p => ?_)
  refine q_vret d_Pa_set_15 rfl ?_ (Nat.le_of_ble_eq_true rfl) (Nat.le_of_ble_eq_true rfl) (by decide)
  exact ⟨rfl, by subst e1; subst e2; subst e3; simp [List.set_set]⟩
end CPART
