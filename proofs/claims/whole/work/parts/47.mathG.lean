-- reading: the model's statements and the class's letters
/-- a reader over d signs from a on: all good, or the first bad one -/
def RS (r : Bool × Nat × FN) (a d : Nat) (ck : Nat → Bool) : Prop := (r.1 = true ∧ r.2.1 = a + d ∧ ∀ j, j < d → ck (a + j) = true) ∨ (r.1 = false ∧ ∃ j, j < d ∧ r.2.1 = a + j ∧ (∀ i, i < j → ck (a + i) = true) ∧ ck (a + j) = false)
theorem rs_rd (q : FN × Nat) (a : Nat) (to : FN) (p d : Nat) : RS (p_rd q a to p d) a d (p_dg q) := by
  unfold p_rd
  cases h : fi (fun k => !p_dg q (a + k)) d with
  | none => exact Or.inl ⟨rfl, rfl, fun j hj => by simpa using fi_none' h j hj⟩
  | some j =>
    have h1 := fi_some h
    exact Or.inr ⟨rfl, j, h1.1, rfl, fun i hi => by simpa using fi_before h i hi, by simpa using h1.2⟩
theorem RS.congr {r : Bool × Nat × FN} {a d : Nat} {ck ck' : Nat → Bool} (h : RS r a d ck) (e : ∀ j, j < d → ck (a + j) = ck' (a + j)) : RS r a d ck' := by
  rcases h with ⟨h1, h2, h3⟩ | ⟨h1, j, h2, h3, h4, h5⟩
  · exact Or.inl ⟨h1, h2, fun j hj => by rw [← e j hj]; exact h3 j hj⟩
  · exact Or.inr ⟨h1, j, h2, h3, fun i hi => by rw [← e i (by omega)]; exact h4 i hi, by rw [← e j h2]; exact h5⟩
theorem rs_seq {r1 r2 : Bool × Nat × FN} {a d1 d2 : Nat} {ck : Nat → Bool} (h1 : RS r1 a d1 ck) (h2 : r1.1 = true → r1.2.1 = a + d1 → RS r2 (a + d1) d2 ck) : RS (if r1.1 = true then r2 else r1) a (d1 + d2) ck := by
  rcases h1 with ⟨g1, g2, g3⟩ | ⟨g1, j, g2, g3, g4, g5⟩
  · rw [if_pos g1]
    have e : ∀ j, ¬ j < d1 → a + d1 + (j - d1) = a + j := fun j hj => by omega
    rcases h2 g1 g2 with ⟨k1, k2, k3⟩ | ⟨k1, j, k2, k3, k4, k5⟩
    · refine Or.inl ⟨k1, by omega, fun j hj => ?_⟩
      by_cases hj2 : j < d1
      · exact g3 j hj2
      · rw [← e j hj2]; exact k3 _ (by omega)
    · refine Or.inr ⟨k1, d1 + j, by omega, by omega, fun i hi => ?_, by rw [← Nat.add_assoc]; exact k5⟩
      by_cases hi2 : i < d1
      · exact g3 i hi2
      · rw [← e i hi2]; exact k4 _ (by omega)
  · rw [if_neg (by rw [g1]; decide)]
    exact Or.inr ⟨g1, j, by omega, g3, g4, g5⟩
theorem rs_2 (q : FN × Nat) (a : Nat) (to : FN) (p1 d1 p2 d2 : Nat) : RS (p_2 q a to p1 d1 p2 d2) a (d1 + d2) (p_dg q) := by
  unfold p_2
  refine rs_seq (rs_rd q a to p1 d1) (fun _ h => ?_)
  rw [h]
  exact rs_rd q (a + d1) _ p2 d2
def p_kd (q : FN × Nat) (a : Nat) : Bool := !decide (m_kt (p_nx q a) < 0)
theorem rs_tg (q : FN × Nat) (a : Nat) (to : FN) (p : Nat) : RS (p_tg q a to p) a 3 (fun j => if j = a then p_kd q j else p_dg q j) := by
  unfold p_tg
  by_cases h : m_kt (p_nx q a) < 0
  · rw [if_pos h]
    refine Or.inr ⟨rfl, 0, by decide, rfl, fun i hi => absurd hi (by omega), ?_⟩
    show (if a + 0 = a then p_kd q (a + 0) else p_dg q (a + 0)) = false
    rw [if_pos (Nat.add_zero _)]
    simp [p_kd, h]
  · rw [if_neg h]
    have h2 := rs_2 q (a + 1) (upd to p (m_kt (p_nx q a))) (p + 1) 1 (p + 2) 1
    have h3 : RS (p_2 q (a + 1) (upd to p (m_kt (p_nx q a))) (p + 1) 1 (p + 2) 1) (a + 1) (1 + 1) (fun j => if j = a then p_kd q j else p_dg q j) := h2.congr (fun j _ => by
      show _ = if a + 1 + j = a then p_kd q (a + 1 + j) else p_dg q (a + 1 + j)
      rw [if_neg (by omega)])
    have h1 : RS ((true, a + 1, to) : Bool × Nat × FN) a 1 (fun j => if j = a then p_kd q j else p_dg q j) := Or.inl ⟨rfl, rfl, fun j hj => by
      have : j = 0 := by omega
      subst this
      show (if a + 0 = a then p_kd q (a + 0) else p_dg q (a + 0)) = true
      rw [if_pos (Nat.add_zero _)]
      simp [p_kd, h]⟩
    have h4 := rs_seq h1 (r2 := p_2 q (a + 1) (upd to p (m_kt (p_nx q a))) (p + 1) 1 (p + 2) 1) (fun _ _ => h3)
    rw [if_pos rfl] at h4
    exact h4
/-- how many signs stand behind the letter -/
def p_b (h : Int32) : Nat := if h = 112 then 4 else if h = 116 then 3 else if h = 107 ∨ h = 100 then 2 else 1
def p_ck (q : FN × Nat) (h : Int32) (a j : Nat) : Bool := if h = 116 ∧ j = a then p_kd q j else p_dg q j
theorem rs_al (q : FN × Nat) (h : Int32) (a : Nat) (to : FN) (p : Nat) : RS (p_al q h a to p) a (p_b h) (p_ck q h a) := by
  unfold p_al p_b
  by_cases h1 : h = 112
  · rw [if_pos h1, if_pos h1]
    exact (rs_2 q a to p 1 (p + 1) 3).congr (fun j _ => by unfold p_ck; rw [if_neg (fun z => absurd (h1.symm.trans z.1) (by decide))])
  rw [if_neg h1, if_neg h1]
  by_cases h2 : h = 116
  · rw [if_pos h2, if_pos h2]
    exact (rs_tg q a to p).congr (fun j _ => by
      show (if a + j = a then p_kd q (a + j) else p_dg q (a + j)) = p_ck q h a (a + j)
      unfold p_ck
      simp [h2])
  rw [if_neg h2, if_neg h2]
  have e : ∀ j, p_dg q j = p_ck q h a j := fun j => by unfold p_ck; rw [if_neg (fun z => h2 z.1)]
  by_cases h3 : h = 107
  · rw [if_pos h3, if_pos (Or.inl h3)]
    exact (rs_2 q a to p 1 (p + 1) 1).congr (fun j _ => e _)
  rw [if_neg h3]
  by_cases h4 : h = 100
  · rw [if_pos h4, if_pos (Or.inr h4)]
    exact (rs_rd q a to p 2).congr (fun j _ => e _)
  rw [if_neg h4, if_neg (fun z => z.elim h3 h4)]
  exact (rs_rd q a to p 1).congr (fun j _ => e _)
def p_cks (q : FN × Nat) (h : Int32) (a j : Nat) : Bool := if j = a + p_b h then decide (p_nx q j = 59) else p_ck q h a j
theorem rs_sm (q : FN × Nat) (h : Int32) (a : Nat) (to : FN) (p : Nat) : RS (p_sm q h a to p) a (p_b h + 1) (p_cks q h a) := by
  have h1 : RS (p_al q h a to p) a (p_b h) (p_cks q h a) := (rs_al q h a to p).congr (fun j hj => by unfold p_cks; rw [if_neg (by omega)])
  have h2 : (p_al q h a to p).1 = true → (p_al q h a to p).2.1 = a + p_b h → RS (if p_nx q (p_al q h a to p).2.1 = 59 then (true, (p_al q h a to p).2.1 + 1, (p_al q h a to p).2.2) else (false, (p_al q h a to p).2.1, (p_al q h a to p).2.2)) (a + p_b h) 1 (p_cks q h a) := by
    intro _ e
    rw [e]
    by_cases hc : p_nx q (a + p_b h) = 59
    · rw [if_pos hc]
      exact Or.inl ⟨rfl, rfl, fun j hj => by
        have : j = 0 := by omega
        subst this
        show p_cks q h a (a + p_b h + 0) = true
        unfold p_cks
        rw [if_pos (Nat.add_zero _)]
        exact decide_eq_true hc⟩
    · rw [if_neg hc]
      exact Or.inr ⟨rfl, 0, by decide, rfl, fun i hi => absurd hi (by omega), by
        unfold p_cks
        rw [if_pos (Nat.add_zero _)]
        exact decide_eq_false hc⟩
  exact rs_seq h1 h2
