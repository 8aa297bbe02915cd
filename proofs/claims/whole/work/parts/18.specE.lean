def w_shy (S : WS) (p : Nat) (v : Int32) : WS := (s_pe S, s_th S, s_da S, s_dr S, s_kn S, upd (s_sh S) p v, s_an S, s_ki S, s_we S, s_dp S, s_wa S, s_le S)
theorem z_bad8 {w : Int32} (h : z_in w 8 = false) (h0 : ¬ w < 0) : ¬ w < 8 := by
  simp only [z_in, h0, decide_false, Bool.not_false, Bool.true_and, decide_eq_false_iff_not] at h
  exact h
theorem n_m10 {v : Nat} (h1 : 11 ≤ v) (h2 : v ≤ 16) : nI v - 11 + 1 = nI (v - 10) := by
  rcases (show v = 11 ∨ v = 12 ∨ v = 13 ∨ v = 14 ∨ v = 15 ∨ v = 16 by omega) with rfl | rfl | rfl | rfl | rfl | rfl <;> decide
theorem n_big {v k : Nat} (h1 : 11 ≤ v) (h2 : v ≤ 16) (hk : k < 11) : ¬ nI v = nI k := fun e => by
  have := (nI_eq (by omega) (by omega)).mp e
  omega
