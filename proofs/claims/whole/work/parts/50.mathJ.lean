-- what a statement tells
theorem zq_rdt {q : FN × Nat} {a : Nat} {to : FN} {p d : Nat} (h : (p_rd q a to p d).1 = true) : p_rd q a to p d = (true, a + d, upd to p (p_v q a d)) := by
  unfold p_rd at h ⊢
  cases h1 : fi (fun k => !p_dg q (a + k)) d with
  | none => rfl
  | some j => rw [h1] at h; cases h
theorem zq_rdo {q : FN × Nat} {a : Nat} {to : FN} {p d j : Nat} (h : j ≠ p) : (p_rd q a to p d).2.2 j = to j := by
  unfold p_rd
  cases fi (fun k => !p_dg q (a + k)) d with
  | none => exact upd_ne h
  | some i => rfl
theorem zq_2o {q : FN × Nat} {a : Nat} {to : FN} {p1 d1 p2 d2 j : Nat} (h1 : j ≠ p1) (h2 : j ≠ p2) : (p_2 q a to p1 d1 p2 d2).2.2 j = to j := by
  unfold p_2
  split
  · rw [zq_rdo h2, zq_rdo h1]
  · exact zq_rdo h1
theorem zq_alo {q : FN × Nat} {h : Int32} {a : Nat} {to : FN} {p j : Nat} (hj : j < p) : (p_al q h a to p).2.2 j = to j := by
  unfold p_al
  split
  · exact zq_2o (by omega) (by omega)
  split
  · unfold p_tg
    split
    · exact upd_ne (by omega)
    · rw [zq_2o (by omega) (by omega)]
      exact upd_ne (by omega)
  split
  · exact zq_2o (by omega) (by omega)
  split
  · exact zq_rdo (by omega)
  · exact zq_rdo (by omega)
theorem zq_smo {q : FN × Nat} {h : Int32} {a : Nat} {to : FN} {p j : Nat} (hj : j < p) : (p_sm q h a to p).2.2 j = to j := by
  unfold p_sm
  split
  · split
    · exact zq_alo hj
    · exact zq_alo hj
  · exact zq_alo hj
theorem zq_2t {q : FN × Nat} {a : Nat} {to : FN} {p1 d1 p2 d2 : Nat} (h : (p_2 q a to p1 d1 p2 d2).1 = true) : (p_2 q a to p1 d1 p2 d2).2.2 = upd (upd to p1 (p_v q a d1)) p2 (p_v q (a + d1) d2) := by
  unfold p_2 at h ⊢
  by_cases h1 : (p_rd q a to p1 d1).1 = true
  · rw [if_pos h1] at h ⊢
    have e1 := zq_rdt h1
    rw [zq_rdt h, e1]
  · rw [if_neg h1] at h
    exact absurd h h1
theorem zq_smt {q : FN × Nat} {h : Int32} {a : Nat} {to : FN} {p : Nat} (hs : (p_sm q h a to p).1 = true) : (p_al q h a to p).1 = true ∧ (p_sm q h a to p).2.2 = (p_al q h a to p).2.2 := by
  unfold p_sm at hs ⊢
  by_cases h1 : (p_al q h a to p).1 = true
  · refine ⟨h1, ?_⟩
    rw [if_pos h1]
    split <;> rfl
  · rw [if_neg h1] at hs
    exact absurd hs h1
theorem zq_v1 (q : FN × Nat) (a : Nat) : p_v q a 1 = p_nx q a - 48 := by
  show 10 * 0 + p_nx q (a + 0) - 48 = p_nx q a - 48
  rw [Nat.add_zero]
  grind
theorem zq_v2 (q : FN × Nat) (a : Nat) : p_v q a 2 = 10 * (p_nx q a - 48) + (p_nx q (a + 1) - 48) := by
  show 10 * (10 * 0 + p_nx q (a + 0) - 48) + p_nx q (a + 1) - 48 = _
  rw [Nat.add_zero]
  grind
theorem zq_v3 (q : FN × Nat) (a : Nat) : p_v q a 3 = 10 * (10 * (p_nx q a - 48) + (p_nx q (a + 1) - 48)) + (p_nx q (a + 2) - 48) := by
  show 10 * (10 * (10 * 0 + p_nx q (a + 0) - 48) + p_nx q (a + 1) - 48) + p_nx q (a + 2) - 48 = _
  rw [Nat.add_zero]
  grind
theorem zq_sg {q : FN × Nat} {j : Nat} (h : j < q_n q) : l_sg q j = p_nx q j := by
  unfold l_sg p_nx
  rw [if_pos h, if_pos h]
theorem zq_dig {c : Int32} (h : z_bt c 48 57 = true) : ∃ u, u ≤ 9 ∧ c - 48 = nI u := by
  simp only [z_bt, Bool.and_eq_true, Bool.not_eq_true', decide_eq_false_iff_not] at h
  have h0 : ¬ c < 0 := fun z => h.1 (by
    rw [Int32.lt_iff_toInt_lt] at z ⊢
    have e1 : (0 : Int32).toInt = 0 := by decide
    have e2 : (48 : Int32).toInt = 48 := by decide
    omega)
  obtain ⟨v, hv, rfl⟩ := nI_of h0
  have h1 : 48 ≤ v := by
    rcases Nat.lt_or_ge v 48 with z | z
    · exact absurd (nI_lt z (by decide)) h.1
    · exact z
  have h2 : v ≤ 57 := by
    rcases Nat.lt_or_ge 57 v with z | z
    · exact absurd (nI_lt z hv) h.2
    · exact z
  obtain ⟨u, rfl⟩ : ∃ u, v = 48 + u := ⟨v - 48, by omega⟩
  refine ⟨u, by omega, ?_⟩
  rw [← nI_add]
  show nI 48 + nI u - 48 = nI u
  have : nI 48 = 48 := rfl
  rw [this]
  grind
theorem zq_dgp {q : FN × Nat} {j : Nat} (h : j < q_n q) : l_dg q j = p_nx q j - 48 := by
  unfold l_dg
  rw [zq_sg h]
theorem zq_com {q : FN × Nat} {a : Nat} {to : FN} {p : Nat} (hz : (l_st (q_f q) a).2 = 0) (hn : a < q_n q) (hv : p_hv (q_f q a)) (hs : (p_sm q (q_f q a) (a + 1) to p).1 = true) (S : WS) : p_com (q_f q a) ((p_sm q (q_f q a) (a + 1) to p).2.2 p) ((p_sm q (q_f q a) (a + 1) to p).2.2 (p + 1)) ((p_sm q (q_f q a) (a + 1) to p).2.2 (p + 2)) S = l_com q a S := by
  obtain ⟨-, hr, -⟩ := zq_sok hz hn hv hs
  have hck := rs_sm q (q_f q a) (a + 1) to p
  obtain ⟨ha, ht⟩ := zq_smt hs
  rw [ht]
  have sg : l_sg q a = q_f q a := by rw [zq_sg hn, zq_nxi hn]
  have hin : ∀ i, i < p_b (q_f q a) + 1 → a + 1 + i < q_n q := fun i hi => (hr (a + 1 + i) (by omega) (by omega)).1
  have hcs : ∀ i, i < p_b (q_f q a) + 1 → p_cks q (q_f q a) (a + 1) (a + 1 + i) = true := by
    rcases hck with ⟨g1, g2, g3⟩ | ⟨g1, -⟩
    · exact g3
    · rw [hs] at g1; cases g1
  clear hck hr ht hs
  rcases hv with h | h | h | h | h | h
  · rw [h] at ha hin hcs sg ⊢
    have e0 : p_al q 112 (a + 1) to p = p_2 q (a + 1) to p 1 (p + 1) 3 := by unfold p_al; rw [if_pos rfl]
    rw [e0] at ha ⊢
    rw [zq_2t ha, upd_ne (show p ≠ p + 1 by omega), upd_at, upd_at, zq_v1, zq_v3]
    have i1 : a + 1 < q_n q := hin 0 (by decide)
    have i2 := hin 1 (by decide)
    have i3 := hin 2 (by decide)
    have i4 := hin 3 (by decide)
    unfold p_com l_com l_d2
    rw [if_pos rfl, if_pos sg, zq_dgp i1, zq_dgp i2, zq_dgp (show a + 2 + 1 < q_n q from i3), zq_dgp (show a + 4 < q_n q from i4)]
  · rw [h] at ha hin hcs sg ⊢
    have e0 : p_al q 116 (a + 1) to p = p_tg q (a + 1) to p := by unfold p_al; rw [if_neg (by decide), if_pos rfl]
    have i1 : a + 1 < q_n q := hin 0 (by decide)
    have i2 := hin 1 (by decide)
    have i3 := hin 2 (by decide)
    have hk : ¬ m_kt (p_nx q (a + 1)) < 0 := by
      have := hcs 0 (by decide)
      unfold p_cks p_ck p_kd at this
      have hb3 : p_b 116 = 3 := by decide
      rw [if_neg (show ¬ a + 1 + 0 = a + 1 + p_b 116 by omega), if_pos ⟨rfl, Nat.add_zero _⟩] at this
      simpa using this
    have ek : m_kt (p_nx q (a + 1)) = l_kt (p_nx q (a + 1)) := by
      unfold m_kt l_kt at *
      grind
    rw [e0] at ha ⊢
    unfold p_tg at ha ⊢
    rw [if_neg hk] at ha ⊢
    rw [zq_2t ha, upd_ne (show p ≠ p + 2 by omega), upd_ne (show p ≠ p + 1 by omega), upd_at, upd_ne (show p + 1 ≠ p + 2 by omega), upd_at, upd_at, zq_v1, zq_v1, ek]
    unfold p_com l_com
    rw [if_neg (show ¬ (116 : Int32) = 112 by decide), if_pos rfl, if_neg (show ¬ l_sg q a = 112 by rw [sg]; decide), if_pos sg, zq_sg i1, zq_dgp i2, zq_dgp (show a + 1 + 1 + 1 < q_n q from i3)]
  · rw [h] at ha hin hcs sg ⊢
    have e0 : p_al q 97 (a + 1) to p = p_rd q (a + 1) to p 1 := by unfold p_al; rw [if_neg (by decide), if_neg (by decide), if_neg (by decide), if_neg (by decide)]
    have i1 : a + 1 < q_n q := hin 0 (by decide)
    rw [e0] at ha ⊢
    rw [zq_rdt ha]
    show p_com 97 (upd to p (p_v q (a + 1) 1) p) (upd to p (p_v q (a + 1) 1) (p + 1)) (upd to p (p_v q (a + 1) 1) (p + 2)) S = _
    rw [upd_at, zq_v1]
    unfold p_com l_com
    rw [if_neg (show ¬ (97 : Int32) = 112 by decide), if_neg (show ¬ (97 : Int32) = 116 by decide), if_pos rfl, if_neg (show ¬ l_sg q a = 112 by rw [sg]; decide), if_neg (show ¬ l_sg q a = 116 by rw [sg]; decide), if_pos sg, zq_dgp i1]
  · rw [h] at ha hin hcs sg ⊢
    have e0 : p_al q 107 (a + 1) to p = p_2 q (a + 1) to p 1 (p + 1) 1 := by unfold p_al; rw [if_neg (by decide), if_neg (by decide), if_pos rfl]
    have i1 : a + 1 < q_n q := hin 0 (by decide)
    have i2 := hin 1 (by decide)
    rw [e0] at ha ⊢
    rw [zq_2t ha, upd_ne (show p ≠ p + 1 by omega), upd_at, upd_at, zq_v1, zq_v1]
    have hd : ∃ u, u ≤ 9 ∧ p_nx q (a + 1 + 1) - 48 = nI u := by
      have := hcs 1 (by decide)
      unfold p_cks p_ck at this
      have hb3 : p_b 107 = 2 := by decide
      rw [if_neg (show ¬ a + 1 + 1 = a + 1 + p_b 107 by omega), if_neg (fun z => absurd z.1 (by decide))] at this
      exact zq_dig this
    obtain ⟨u, hu, eu⟩ := hd
    have e8 : (z_in (l_dg q (a + 2)) 8 = true) ↔ (p_nx q (a + 1 + 1) - 48 < 8) := by
      rw [zq_dgp (show a + 2 < q_n q from i2), show p_nx q (a + 2) - 48 = nI u from eu]
      unfold z_in
      rw [decide_eq_false (nI_pos (by omega))]
      simp only [Bool.not_false, Bool.true_and, decide_eq_true_eq]
      exact Iff.rfl
    unfold p_com l_com
    rw [if_neg (show ¬ (107 : Int32) = 112 by decide), if_neg (show ¬ (107 : Int32) = 116 by decide), if_neg (show ¬ (107 : Int32) = 97 by decide), if_pos rfl, if_neg (show ¬ l_sg q a = 112 by rw [sg]; decide), if_neg (show ¬ l_sg q a = 116 by rw [sg]; decide), if_neg (show ¬ l_sg q a = 97 by rw [sg]; decide), if_pos sg]
    by_cases hc : z_in (p_nx q (a + 1) - 48) (s_pe S) = true ∧ p_nx q (a + 1 + 1) - 48 < 8
    · rw [if_pos hc, if_pos (show z_in (l_dg q (a + 1)) (s_pe S) = true ∧ z_in (l_dg q (a + 2)) 8 = true by rw [zq_dgp i1]; exact ⟨hc.1, e8.mpr hc.2⟩), zq_dgp i1, zq_dgp (show a + 1 + 1 < q_n q from i2)]
    · rw [if_neg hc, if_neg (show ¬ (z_in (l_dg q (a + 1)) (s_pe S) = true ∧ z_in (l_dg q (a + 2)) 8 = true) by rw [zq_dgp i1]; exact fun z => hc ⟨z.1, e8.mp z.2⟩)]
  · rw [h] at ha hin hcs sg ⊢
    have e0 : p_al q 111 (a + 1) to p = p_rd q (a + 1) to p 1 := by unfold p_al; rw [if_neg (by decide), if_neg (by decide), if_neg (by decide), if_neg (by decide)]
    have i1 : a + 1 < q_n q := hin 0 (by decide)
    rw [e0] at ha ⊢
    rw [zq_rdt ha]
    show p_com 111 (upd to p (p_v q (a + 1) 1) p) (upd to p (p_v q (a + 1) 1) (p + 1)) (upd to p (p_v q (a + 1) 1) (p + 2)) S = _
    rw [upd_at, zq_v1]
    unfold p_com l_com
    rw [if_neg (show ¬ (111 : Int32) = 112 by decide), if_neg (show ¬ (111 : Int32) = 116 by decide), if_neg (show ¬ (111 : Int32) = 97 by decide), if_neg (show ¬ (111 : Int32) = 107 by decide), if_pos rfl, if_neg (show ¬ l_sg q a = 112 by rw [sg]; decide), if_neg (show ¬ l_sg q a = 116 by rw [sg]; decide), if_neg (show ¬ l_sg q a = 97 by rw [sg]; decide), if_neg (show ¬ l_sg q a = 107 by rw [sg]; decide), if_neg (show ¬ l_sg q a = 100 by rw [sg]; decide), if_pos sg, zq_dgp i1]
  · rw [h] at ha hin hcs sg ⊢
    have e0 : p_al q 100 (a + 1) to p = p_rd q (a + 1) to p 2 := by unfold p_al; rw [if_neg (by decide), if_neg (by decide), if_neg (by decide), if_pos rfl]
    have i1 : a + 1 < q_n q := hin 0 (by decide)
    have i2 := hin 1 (by decide)
    rw [e0] at ha ⊢
    rw [zq_rdt ha]
    show p_com 100 (upd to p (p_v q (a + 1) 2) p) (upd to p (p_v q (a + 1) 2) (p + 1)) (upd to p (p_v q (a + 1) 2) (p + 2)) S = _
    rw [upd_at, zq_v2]
    unfold p_com l_com l_d2
    rw [if_neg (show ¬ (100 : Int32) = 112 by decide), if_neg (show ¬ (100 : Int32) = 116 by decide), if_neg (show ¬ (100 : Int32) = 97 by decide), if_neg (show ¬ (100 : Int32) = 107 by decide), if_neg (show ¬ (100 : Int32) = 111 by decide), if_neg (show ¬ l_sg q a = 112 by rw [sg]; decide), if_neg (show ¬ l_sg q a = 116 by rw [sg]; decide), if_neg (show ¬ l_sg q a = 97 by rw [sg]; decide), if_neg (show ¬ l_sg q a = 107 by rw [sg]; decide), if_pos sg, zq_dgp i1, zq_dgp (show a + 1 + 1 < q_n q from i2)]
