theorem zq_sle {q : FN × Nat} {t : Nat × FN × FN × FN} {k : Nat} (hn : q_n q ≤ 96) (ha : i_a t < q_n q) : (p_ss q t k).2.1 ≤ 97 := by
  have h := al_le (h := p_nx q (i_a t)) (to := i_to t) (p := 3 * k) hn (show i_a t + 1 ≤ 96 by omega)
  unfold p_ss p_sm
  split
  · split
    · exact Nat.succ_le_succ h
    · exact Nat.le_trans h (by decide)
  · exact Nat.le_trans h (by decide)
