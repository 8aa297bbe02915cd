theorem sb_b {h : Int32} (hv : p_hv h) : l_sb h = nI (p_b h) ∧ 1 ≤ p_b h ∧ p_b h ≤ 4 := by
  rcases hv with rfl | rfl | rfl | rfl | rfl | rfl <;> decide
theorem sb_nv {h : Int32} (hv : ¬ p_hv h) : l_sb h = 0 := by
  unfold l_sb
  rw [if_neg (fun e => hv (Or.inl e)), if_neg (fun e => hv (Or.inr (Or.inl e))), if_neg (fun e => e.elim (fun e => hv (Or.inr (Or.inr (Or.inr (Or.inr (Or.inr e)))))) (fun e => hv (Or.inr (Or.inr (Or.inr (Or.inl e)))))), if_neg (fun e => e.elim (fun e => hv (Or.inr (Or.inr (Or.inl e)))) (fun e => hv (Or.inr (Or.inr (Or.inr (Or.inr (Or.inl e)))))))]
theorem nI_ne {a b : Nat} (ha : a < 2 ^ 31) (hb : b < 2 ^ 31) (h : a ≠ b) : ¬ nI a = nI b := fun e => h ((nI_eq ha hb).mp e)
