theorem fi_before {P : Nat → Bool} : ∀ {n i : Nat}, fi P n = some i → ∀ e, e < i → P e = false
  | 0, _, h, _, _ => by cases h
  | n + 1, i, h, e, he => by
    unfold fi at h
    split at h
    · rename_i i' h'
      cases h
      exact fi_before h' e he
    · rename_i h'
      by_cases hp : P n = true
      · rw [if_pos hp] at h
        cases h
        exact fi_none' h' e he
      · rw [if_neg hp] at h
        cases h
theorem dg_q {q : FN × Nat} {a : Nat} (h : p_dg q a = true) : a < q_n q := by
  unfold p_dg p_nx at h
  by_cases ha : a < q_n q
  · exact ha
  · rw [if_neg ha] at h
    exact absurd h (by decide)
theorem rd_le {q : FN × Nat} {a : Nat} {to : FN} {p d : Nat} (hn : q_n q ≤ 96) (ha : a ≤ 96) : (p_rd q a to p d).2.1 ≤ 96 := by
  unfold p_rd
  cases h : fi (fun k => !p_dg q (a + k)) d with
  | none =>
    show a + d ≤ 96
    cases d with
    | zero => exact ha
    | succ e =>
      have h1 := fi_none' h e (by omega)
      have h2 := dg_q (q := q) (a := a + e) (by simpa using h1)
      omega
  | some j =>
    show a + j ≤ 96
    cases j with
    | zero => exact ha
    | succ e =>
      have h1 : (!p_dg q (a + e)) = false := fi_before h e (by omega)
      have h2 := dg_q (q := q) (a := a + e) (by simpa using h1)
      omega
theorem p2_le {q : FN × Nat} {a : Nat} {to : FN} {p1 d1 p2 d2 : Nat} (hn : q_n q ≤ 96) (ha : a ≤ 96) : (p_2 q a to p1 d1 p2 d2).2.1 ≤ 96 := by
  unfold p_2
  split
  · exact rd_le hn (rd_le hn ha)
  · exact rd_le hn ha
theorem kt_in {q : FN × Nat} {a : Nat} (h : ¬ m_kt (p_nx q a) < 0) : a < q_n q := by
  by_cases ha : a < q_n q
  · exact ha
  · rw [p_nx, if_neg ha] at h
    exact absurd (by decide) h
theorem tg_le {q : FN × Nat} {a : Nat} {to : FN} {p : Nat} (hn : q_n q ≤ 96) (ha : a ≤ 96) : (p_tg q a to p).2.1 ≤ 96 := by
  unfold p_tg
  split
  · exact ha
  · rename_i h
    have := kt_in h
    exact p2_le hn (by omega)
theorem al_le {q : FN × Nat} {h : Int32} {a : Nat} {to : FN} {p : Nat} (hn : q_n q ≤ 96) (ha : a ≤ 96) : (p_al q h a to p).2.1 ≤ 96 := by
  unfold p_al
  split
  · exact p2_le hn ha
  split
  · exact tg_le hn ha
  split
  · exact p2_le hn ha
  split
  · exact rd_le hn ha
  · exact rd_le hn ha
theorem hv_in {q : FN × Nat} {a : Nat} (h : p_hv (p_nx q a)) : a < q_n q := by
  by_cases ha : a < q_n q
  · exact ha
  · rw [p_nx, if_neg ha] at h
    exact absurd h (by unfold p_hv; decide)
abbrev i_a (t : Nat × FN × FN × FN) : Nat := t.1
abbrev i_lt (t : Nat × FN × FN × FN) : FN := t.2.1
abbrev i_la (t : Nat × FN × FN × FN) : FN := t.2.2.1
abbrev i_to (t : Nat × FN × FN × FN) : FN := t.2.2.2
/-- one statement read: where it ends -/
def p_ss (q : FN × Nat) (t : Nat × FN × FN × FN) (k : Nat) : Bool × Nat × FN := p_sm q (p_nx q (i_a t)) (i_a t + 1) (i_to t) (3 * k)
def p_st1 (q : FN × Nat) (t : Nat × FN × FN × FN) (k : Nat) : Nat × FN × FN × FN := ((p_ss q t k).2.1, upd (i_lt t) k (p_nx q (i_a t)), upd (i_la t) k (nI (i_a t)), (p_ss q t k).2.2)
/-- after k statements: at, letter, letterAt, told -/
def p_it (q : FN × Nat) (t : Nat × FN × FN × FN) : Nat → Nat × FN × FN × FN
  | 0 => t
  | k + 1 => p_st1 q (p_it q t k) k
/-- the model's state of reading -/
def m_rs (M : MS) (t : Nat × FN × FN × FN) (s : Nat) : MS := m_pst M (i_a t) (i_lt t) (i_la t) (i_to t) s
def m_t0 (M : MS) : Nat × FN × FN × FN := (0, m_lt M, m_la M, m_to M)
def p_c1 (t : Nat × FN × FN × FN) (k : Nat) (S : WS) : Bool × WS := p_com (i_lt t k) (i_to t (3 * k)) (i_to t (3 * k + 1)) (i_to t (3 * k + 2)) S
def p_go (t : Nat × FN × FN × FN) (S : WS) : Nat → WS
  | 0 => S
  | k + 1 => (p_c1 t k (p_go t S k)).2
