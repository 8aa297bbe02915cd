-- the model's reading
def m_q (M : MS) : FN × Nat := (m_tx M, m_tn M)
def m_pa (M : MS) (a : Nat) (to : FN) : MS := (m_rf M, m_co M, m_tx M, m_lt M, m_la M, to, m_tn M, a, m_st M, m_kp M, m_hi M, m_kg M, m_cu M, m_lr M, m_ge M, m_rw M, m_rn M)
def m_pst (M : MS) (a : Nat) (lt la to : FN) (s : Nat) : MS := (m_rf M, m_co M, m_tx M, lt, la, to, m_tn M, a, s, m_kp M, m_hi M, m_kg M, m_cu M, m_lr M, m_ge M, m_rw M, m_rn M)
def m_tns (M : MS) (n : Nat) : MS := (m_rf M, m_co M, m_tx M, m_lt M, m_la M, m_to M, n, m_at M, m_st M, m_kp M, m_hi M, m_kg M, m_cu M, m_lr M, m_ge M, m_rw M, m_rn M)
def p_nx (q : FN × Nat) (a : Nat) : Int32 := if a < q_n q then q_f q a else -1
def p_dg (q : FN × Nat) (a : Nat) : Bool := z_bt (p_nx q a) 48 57
def p_v (q : FN × Nat) (a : Nat) : Nat → Int32
  | 0 => 0
  | k + 1 => 10 * p_v q a k + p_nx q (a + k) - 48
def p_rd (q : FN × Nat) (a : Nat) (to : FN) (p d : Nat) : Bool × Nat × FN := match fi (fun k => !p_dg q (a + k)) d with
  | none => (true, a + d, upd to p (p_v q a d))
  | some j => (false, a + j, to)
def m_kt (c : Int32) : Int32 := if c = 115 then 0 else if c = 114 then 1 else if c = 99 then 2 else if c = 104 then 3 else if c = 112 then 4 else if c = 98 then 5 else -1
def p_2 (q : FN × Nat) (a : Nat) (to : FN) (p1 d1 p2 d2 : Nat) : Bool × Nat × FN := if (p_rd q a to p1 d1).1 = true then p_rd q (p_rd q a to p1 d1).2.1 (p_rd q a to p1 d1).2.2 p2 d2 else p_rd q a to p1 d1
def p_tg (q : FN × Nat) (a : Nat) (to : FN) (p : Nat) : Bool × Nat × FN := if m_kt (p_nx q a) < 0 then (false, a, upd to p (m_kt (p_nx q a))) else p_2 q (a + 1) (upd to p (m_kt (p_nx q a))) (p + 1) 1 (p + 2) 1
def p_al (q : FN × Nat) (h : Int32) (a : Nat) (to : FN) (p : Nat) : Bool × Nat × FN := if h = 112 then p_2 q a to p 1 (p + 1) 3 else if h = 116 then p_tg q a to p else if h = 107 then p_2 q a to p 1 (p + 1) 1 else if h = 100 then p_rd q a to p 2 else p_rd q a to p 1
def p_sm (q : FN × Nat) (h : Int32) (a : Nat) (to : FN) (p : Nat) : Bool × Nat × FN := if (p_al q h a to p).1 = true then (if p_nx q (p_al q h a to p).2.1 = 59 then (true, (p_al q h a to p).2.1 + 1, (p_al q h a to p).2.2) else (false, (p_al q h a to p).2.1, (p_al q h a to p).2.2)) else p_al q h a to p
/-- the letters that begin a statement -/
def p_hv (c : Int32) : Prop := c = 112 ∨ c = 116 ∨ c = 97 ∨ c = 107 ∨ c = 111 ∨ c = 100
def p_com (h a b c : Int32) (S : WS) : Bool × WS :=
  if h = 112 then (if s_pe S < 5 ∧ ¬ 255 < b then (true, w_one S a b) else (false, S))
  else if h = 116 then (if s_th S < 9 ∧ z_in c (s_pe S) = true then (true, w_add S a b c) else (false, S))
  else if h = 97 then (if z_in a (s_th S) = true then (true, w_fall S a.toNatClampNeg) else (false, S))
  else if h = 107 then (if z_in a (s_pe S) = true ∧ b < 8 then (true, w_lrn S a.toNatClampNeg b) else (false, S))
  else if h = 111 then (true, w_dr S a)
  else (if ¬ a < 1 ∧ ¬ 60 < a ∧ ¬ 999 < s_da S + a then (true, w_dayN S a.toNatClampNeg) else (false, S))
theorem ps_rd {q : FN × Nat} {a : Nat} {to : FN} {p d : Nat} (h : ∀ k, k < d → (!p_dg q (a + k)) = false) : p_rd q a to p d = (true, a + d, upd to p (p_v q a d)) := by
  rw [p_rd, fi_none h]
theorem ps_rdf {q : FN × Nat} {a : Nat} {to : FN} {p d j : Nat} (h : ∀ k, k < j → (!p_dg q (a + k)) = false) (hj : p_dg q (a + j) = false) (hd : j < d) : p_rd q a to p d = (false, a + j, to) := by
  rw [p_rd, fi_hit (P := fun k => !p_dg q (a + k)) h (by simp [hj]) hd]
