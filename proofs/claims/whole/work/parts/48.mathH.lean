theorem zq_sb {h : Int32} (hv : p_hv h) : l_sb h = nI (p_b h) ∧ 1 ≤ p_b h ∧ p_b h ≤ 4 := by
  rcases hv with rfl | rfl | rfl | rfl | rfl | rfl <;> decide
theorem zq_nv {h : Int32} (hv : ¬ p_hv h) : l_sb h = 0 := by
  unfold l_sb
  rw [if_neg (fun e => hv (Or.inl e)), if_neg (fun e => hv (Or.inr (Or.inl e))), if_neg (fun e => e.elim (fun e => hv (Or.inr (Or.inr (Or.inr (Or.inr (Or.inr e)))))) (fun e => hv (Or.inr (Or.inr (Or.inr (Or.inl e)))))), if_neg (fun e => e.elim (fun e => hv (Or.inr (Or.inr (Or.inl e)))) (fun e => hv (Or.inr (Or.inr (Or.inr (Or.inr (Or.inl e)))))))]
theorem zq_ne {a b : Nat} (ha : a < 2 ^ 31) (hb : b < 2 ^ 31) (h : a ≠ b) : ¬ nI a = nI b := fun e => h ((nI_eq ha hb).mp e)
theorem zq_n0 {j : Nat} (h : j < 2 ^ 30) : ¬ nI (j + 1) = 0 := zq_ne (b := 0) (by omega) (by omega) (by omega)
theorem zq_0n {j : Nat} (h : j < 2 ^ 30) : ¬ 0 = nI (j + 1) := zq_ne (a := 0) (by omega) (by omega) (by omega)
section
variable {f : FN} {a : Nat}
theorem zq_in (hz : (l_st f a).2 = 0) (hv : p_hv (f a)) : ∀ i, i ≤ p_b (f a) → l_st f (a + 1 + i) = (f a, nI (i + 1))
  | 0, _ => by
    obtain ⟨h1, h2, h3⟩ := zq_sb hv
    show (l_hd f a (l_st f a), if (l_st f a).2 = l_sb (l_hd f a (l_st f a)) + 1 then 0 else (l_st f a).2 + 1) = _
    have e : l_hd f a (l_st f a) = f a := by unfold l_hd; rw [if_pos hz]
    rw [e, hz, h1, nI_1, if_neg (zq_0n (by omega))]
    rfl
  | i + 1, hi => by
    obtain ⟨h1, h2, h3⟩ := zq_sb hv
    have ih := zq_in hz hv i (by omega)
    show (l_hd f (a + 1 + i) (l_st f (a + 1 + i)), if (l_st f (a + 1 + i)).2 = l_sb (l_hd f (a + 1 + i) (l_st f (a + 1 + i))) + 1 then 0 else (l_st f (a + 1 + i)).2 + 1) = _
    have e : l_hd f (a + 1 + i) (l_st f (a + 1 + i)) = f a := by
      unfold l_hd
      rw [ih]
      show (if nI (i + 1) = 0 then f (a + 1 + i) else f a) = f a
      rw [if_neg (zq_n0 (by omega))]
    rw [e, ih]
    show (f a, if nI (i + 1) = l_sb (f a) + 1 then 0 else nI (i + 1) + 1) = _
    rw [h1, nI_1, if_neg (zq_ne (by omega) (by omega) (by omega)), nI_1]
theorem zq_end (hz : (l_st f a).2 = 0) (hv : p_hv (f a)) : (l_st f (a + 1 + (p_b (f a) + 1))).2 = 0 := by
  obtain ⟨h1, h2, h3⟩ := zq_sb hv
  have ih := zq_in hz hv (p_b (f a)) (Nat.le_refl _)
  show (if (l_st f (a + 1 + p_b (f a))).2 = l_sb (l_hd f (a + 1 + p_b (f a)) (l_st f (a + 1 + p_b (f a)))) + 1 then 0 else (l_st f (a + 1 + p_b (f a))).2 + 1) = 0
  have e : l_hd f (a + 1 + p_b (f a)) (l_st f (a + 1 + p_b (f a))) = f a := by
    unfold l_hd
    rw [ih]
    show (if nI (p_b (f a) + 1) = 0 then f (a + 1 + p_b (f a)) else f a) = f a
    rw [if_neg (zq_n0 (by omega))]
  rw [e, ih, h1, nI_1]
  show (if nI (p_b (f a) + 1) = nI (p_b (f a) + 1) then 0 else _) = 0
  rw [if_pos rfl]
theorem zq_oh (hz : (l_st f a).2 = 0) : l_ok f a = decide (0 < l_sb (f a)) := by
  unfold l_ok l_hd l_can
  rw [hz, if_pos rfl, if_pos rfl]
theorem zq_oi (hz : (l_st f a).2 = 0) (hv : p_hv (f a)) {i : Nat} (hi : i ≤ p_b (f a)) : l_ok f (a + 1 + i) = l_can (f (a + 1 + i)) (f a) (nI (i + 1)) := by
  obtain ⟨h1, h2, h3⟩ := zq_sb hv
  unfold l_ok l_hd
  rw [zq_in hz hv i hi]
  show l_can _ (if nI (i + 1) = 0 then _ else f a) (nI (i + 1)) = _
  rw [if_neg (zq_n0 (by omega))]
end
theorem zq_kt (c : Int32) : (!decide (m_kt c < 0)) = z_in (l_kt c) 6 := by
  unfold m_kt l_kt
  by_cases h1 : c = 115
  · rw [if_pos h1, if_pos h1]; decide
  rw [if_neg h1, if_neg h1]
  by_cases h2 : c = 114
  · rw [if_pos h2, if_pos h2]; decide
  rw [if_neg h2, if_neg h2]
  by_cases h3 : c = 99
  · rw [if_pos h3, if_pos h3]; decide
  rw [if_neg h3, if_neg h3]
  by_cases h4 : c = 104
  · rw [if_pos h4, if_pos h4]; decide
  rw [if_neg h4, if_neg h4]
  by_cases h5 : c = 112
  · rw [if_pos h5, if_pos h5]; decide
  rw [if_neg h5, if_neg h5]
  by_cases h6 : c = 98
  · rw [if_pos h6, if_pos h6]; decide
  rw [if_neg h6, if_neg h6]
  decide
theorem zq_nxi {q : FN × Nat} {j : Nat} (h : j < q_n q) : p_nx q j = q_f q j := by unfold p_nx; rw [if_pos h]
theorem zq_nxo {q : FN × Nat} {j : Nat} (h : ¬ j < q_n q) : p_nx q j = -1 := by unfold p_nx; rw [if_neg h]
theorem zq_ck {q : FN × Nat} {a : Nat} (hz : (l_st (q_f q) a).2 = 0) (hv : p_hv (q_f q a)) {i : Nat} (hi : i < p_b (q_f q a) + 1) : p_cks q (q_f q a) (a + 1) (a + 1 + i) = (decide (a + 1 + i < q_n q) && l_ok (q_f q) (a + 1 + i)) := by
  obtain ⟨h1, h2, h3⟩ := zq_sb hv
  rw [zq_oi hz hv (show i ≤ p_b (q_f q a) by omega)]
  unfold p_cks l_can
  rw [if_neg (zq_n0 (by omega)), h1]
  by_cases hb : i = p_b (q_f q a)
  · rw [if_pos (by rw [hb]), if_pos (nI_lt (by omega) (by omega))]
    by_cases hn : a + 1 + i < q_n q
    · rw [zq_nxi hn, decide_eq_true hn]; simp
    · rw [zq_nxo hn, decide_eq_false hn]; simp
  · rw [if_neg (by omega), if_neg (nI_nlt (by omega) (by omega))]
    unfold p_ck
    by_cases hk : q_f q a = 116 ∧ i = 0
    · rw [if_pos ⟨hk.1, by omega⟩, if_pos ⟨hk.1, by rw [hk.2]; rfl⟩]
      unfold p_kd
      by_cases hn : a + 1 + i < q_n q
      · rw [zq_nxi hn, decide_eq_true hn, zq_kt]; simp
      · rw [zq_nxo hn, decide_eq_false hn, zq_kt]
        show z_in (l_kt (-1)) 6 = (false && _)
        rw [Bool.false_and]
        decide
    · rw [if_neg (fun z => hk ⟨z.1, by omega⟩), if_neg (fun z => hk ⟨z.1, by
        have := (nI_eq (a := i + 1) (b := 1) (by omega) (by omega)).mp z.2
        omega⟩)]
      unfold p_dg z_bt
      by_cases hn : a + 1 + i < q_n q
      · rw [zq_nxi hn, decide_eq_true hn]; simp
      · rw [zq_nxo hn, decide_eq_false hn, Bool.false_and]
        decide
/-- a statement read well: every letter of it can stand, and it ends at its end -/
theorem zq_sok {q : FN × Nat} {a : Nat} {to : FN} {p : Nat} (hz : (l_st (q_f q) a).2 = 0) (hn : a < q_n q) (hv : p_hv (q_f q a)) (h : (p_sm q (q_f q a) (a + 1) to p).1 = true) : (p_sm q (q_f q a) (a + 1) to p).2.1 = a + 1 + (p_b (q_f q a) + 1) ∧ (∀ j, a ≤ j → j < a + 1 + (p_b (q_f q a) + 1) → j < q_n q ∧ l_ok (q_f q) j = true) ∧ (l_st (q_f q) (a + 1 + (p_b (q_f q a) + 1))).2 = 0 := by
  rcases rs_sm q (q_f q a) (a + 1) to p with ⟨g1, g2, g3⟩ | ⟨g1, -⟩
  · refine ⟨g2, fun j h1 h2 => ?_, zq_end hz hv⟩
    by_cases hj : j = a
    · subst hj
      refine ⟨hn, ?_⟩
      obtain ⟨h1, h2, h3⟩ := zq_sb hv
      rw [zq_oh hz, h1]
      exact decide_eq_true (nI_lt (a := 0) (by omega) (by omega))
    · obtain ⟨i, rfl⟩ : ∃ i, j = a + 1 + i := ⟨j - a - 1, by omega⟩
      have h4 := g3 i (by omega)
      rw [zq_ck hz hv (by omega), Bool.and_eq_true] at h4
      exact ⟨of_decide_eq_true h4.1, h4.2⟩
  · rw [h] at g1
    cases g1
/-- one read badly: the first letter that can't stand, or the end -/
theorem zq_sno {q : FN × Nat} {a : Nat} {to : FN} {p : Nat} (hz : (l_st (q_f q) a).2 = 0) (hn : a < q_n q) (hv : p_hv (q_f q a)) (h : (p_sm q (q_f q a) (a + 1) to p).1 = false) : ∃ e, (p_sm q (q_f q a) (a + 1) to p).2.1 = e ∧ a < e ∧ (∀ j, a ≤ j → j < e → j < q_n q ∧ l_ok (q_f q) j = true) ∧ ((e < q_n q ∧ l_ok (q_f q) e = false) ∨ (e = q_n q ∧ ¬ (l_st (q_f q) e).2 = 0)) := by
  obtain ⟨s1, s2, s3⟩ := zq_sb hv
  rcases rs_sm q (q_f q a) (a + 1) to p with ⟨g1, -⟩ | ⟨g1, i, g2, g3, g4, g5⟩
  · rw [h] at g1
    cases g1
  · have hall : ∀ j, a ≤ j → j < a + 1 + i → j < q_n q ∧ l_ok (q_f q) j = true := fun j h1 h2 => by
      by_cases hj : j = a
      · subst hj
        refine ⟨hn, ?_⟩
        rw [zq_oh hz, s1]
        exact decide_eq_true (nI_lt (a := 0) (by omega) (by omega))
      · obtain ⟨k, rfl⟩ : ∃ k, j = a + 1 + k := ⟨j - a - 1, by omega⟩
        have h4 := g4 k (by omega)
        rw [zq_ck hz hv (by omega), Bool.and_eq_true] at h4
        exact ⟨of_decide_eq_true h4.1, h4.2⟩
    refine ⟨a + 1 + i, g3, by omega, hall, ?_⟩
    rw [zq_ck hz hv g2] at g5
    by_cases hlt : a + 1 + i < q_n q
    · rw [decide_eq_true hlt, Bool.true_and] at g5
      exact Or.inl ⟨hlt, g5⟩
    · right
      have h5 := (hall (a + i) (by omega) (by omega)).1
      refine ⟨by omega, ?_⟩
      rw [zq_in hz hv i (by omega)]
      exact zq_n0 (by omega)
