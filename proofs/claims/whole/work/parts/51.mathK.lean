section
variable {q : FN × Nat} {t : Nat × FN × FN × FN}
theorem zq_keep (k : Nat) : ∀ d, i_lt (p_it q t (k + 1 + d)) k = i_lt (p_it q t (k + 1)) k ∧ i_la (p_it q t (k + 1 + d)) k = i_la (p_it q t (k + 1)) k ∧ ∀ j, j < 3 * (k + 1) → i_to (p_it q t (k + 1 + d)) j = i_to (p_it q t (k + 1)) j
  | 0 => ⟨rfl, rfl, fun _ _ => rfl⟩
  | d + 1 => by
    obtain ⟨h1, h2, h3⟩ := zq_keep k d
    refine ⟨?_, ?_, fun j hj => ?_⟩
    · show upd (i_lt (p_it q t (k + 1 + d))) (k + 1 + d) _ k = _
      rw [upd_ne (show k ≠ k + 1 + d by omega)]
      exact h1
    · show upd (i_la (p_it q t (k + 1 + d))) (k + 1 + d) _ k = _
      rw [upd_ne (show k ≠ k + 1 + d by omega)]
      exact h2
    · show (p_sm q (p_nx q (i_a (p_it q t (k + 1 + d)))) (i_a (p_it q t (k + 1 + d)) + 1) (i_to (p_it q t (k + 1 + d))) (3 * (k + 1 + d))).2.2 j = _
      rw [zq_smo (show j < 3 * (k + 1 + d) by omega)]
      exact h3 j hj
theorem zq_la {K k : Nat} (hk : k < K) : i_la (p_it q t K) k = nI (i_a (p_it q t k)) := by
  obtain ⟨d, rfl⟩ : ∃ d, K = k + 1 + d := ⟨K - k - 1, by omega⟩
  rw [(zq_keep k d).2.1]
  exact upd_at _ _ _
theorem zq_c1 {K k : Nat} (hk : k < K) (h : zI q t k) (g : zG q t k) (S : WS) : p_c1 (p_it q t K) k S = l_com q (i_a (p_it q t k)) S := by
  obtain ⟨d, rfl⟩ : ∃ d, K = k + 1 + d := ⟨K - k - 1, by omega⟩
  obtain ⟨h1, h2, h3⟩ := zq_keep (q := q) (t := t) k d
  have hn := hv_in g.1
  have hv := g.1
  have hg := g.2
  unfold p_ss at hg
  unfold p_c1
  rw [h1, h3 _ (by omega), h3 _ (by omega), h3 _ (by omega)]
  show p_com (upd (i_lt (p_it q t k)) k (p_nx q (i_a (p_it q t k))) k) ((p_sm q (p_nx q (i_a (p_it q t k))) (i_a (p_it q t k) + 1) (i_to (p_it q t k)) (3 * k)).2.2 (3 * k)) ((p_sm q (p_nx q (i_a (p_it q t k))) (i_a (p_it q t k) + 1) (i_to (p_it q t k)) (3 * k)).2.2 (3 * k + 1)) ((p_sm q (p_nx q (i_a (p_it q t k))) (i_a (p_it q t k) + 1) (i_to (p_it q t k)) (3 * k)).2.2 (3 * k + 2)) S = _
  rw [upd_at]
  rw [zq_nxi hn] at hv hg ⊢
  exact zq_com h.1 hn hv hg S
theorem zq_ns {h : Int32} {b i : Nat} (hb : l_sb h = nI b) (hi : i < b) (hb4 : b ≤ 4) : l_can 59 h (nI (i + 1)) = false := by
  unfold l_can
  rw [if_neg (zq_n0 (by omega)), hb, if_neg (nI_nlt (by omega) (by omega))]
  split <;> decide
theorem zq_hv59 {h : Int32} (hv : p_hv h) : ¬ h = 59 := by
  rcases hv with rfl | rfl | rfl | rfl | rfl | rfl <;> decide
/-- within a statement no other begins -/
theorem zq_nob {k : Nat} (h : zI q t k) (g : zG q t k) {j : Nat} (h1 : i_a (p_it q t k) < j) (h2 : j < i_a (p_it q t (k + 1))) : l_beg q j = false := by
  obtain ⟨s1, s2⟩ := zq_step h g
  have hn := hv_in g.1
  have hv := g.1
  rw [zq_nxi hn] at hv
  obtain ⟨b1, b2, b3⟩ := zq_sb hv
  rw [s2] at h2
  have hlt : j - 1 < q_n q := (s1.2.1 (j - 1) (by rw [s2]; omega)).1
  have hok : l_ok (q_f q) (j - 1) = true := (s1.2.1 (j - 1) (by rw [s2]; omega)).2
  unfold l_beg
  rw [decide_eq_false (show ¬ j = 0 by omega), Bool.false_or]
  refine decide_eq_false (fun e => ?_)
  rw [zq_sg hlt, zq_nxi hlt] at e
  by_cases hj : j - 1 = i_a (p_it q t k)
  · rw [hj] at e
    exact zq_hv59 hv e
  · obtain ⟨i, hi⟩ : ∃ i, j - 1 = i_a (p_it q t k) + 1 + i := ⟨j - 1 - i_a (p_it q t k) - 1, by omega⟩
    rw [hi] at e hok
    rw [zq_oi h.1 hv (by omega), e, zq_ns b1 (by omega) b3] at hok
    cases hok
theorem zq_yb {k : Nat} (h0 : i_a t = 0) (h : ∀ j, j < k → zG q t j) : l_beg q (i_a (p_it q t k)) = true := by
  cases k with
  | zero =>
    have : i_a (p_it q t 0) = 0 := h0
    rw [this]
    rfl
  | succ m =>
    have hm := zI_all h0 m (fun j hj => h j (by omega))
    obtain ⟨s1, s2⟩ := zq_step hm (h m (by omega))
    have hv := (h m (by omega)).1
    have hn := hv_in hv
    rw [zq_nxi hn] at hv
    obtain ⟨b1, b2, b3⟩ := zq_sb hv
    have hx := s1.2.1 (i_a (p_it q t m) + 1 + p_b (q_f q (i_a (p_it q t m)))) (by rw [s2]; omega)
    have hok := hx.2
    rw [zq_oi hm.1 hv (Nat.le_refl _)] at hok
    unfold l_can at hok
    rw [if_neg (zq_n0 (by omega)), b1, if_pos (nI_lt (by omega) (by omega))] at hok
    have e := of_decide_eq_true hok
    unfold l_beg
    rw [s2, show i_a (p_it q t m) + 1 + (p_b (q_f q (i_a (p_it q t m))) + 1) - 1 = i_a (p_it q t m) + 1 + p_b (q_f q (i_a (p_it q t m))) by omega, zq_sg hx.1, zq_nxi hx.1, decide_eq_true e, Bool.or_true]
theorem zq_goin {k : Nat} (h : zI q t k) (g : zG q t k) (S : WS) : ∀ i, i_a (p_it q t k) + 1 + i ≤ i_a (p_it q t (k + 1)) → l_go q S (i_a (p_it q t k) + 1 + i) = l_go q S (i_a (p_it q t k) + 1) ∧ l_cnt q (i_a (p_it q t k) + 1 + i) = l_cnt q (i_a (p_it q t k) + 1)
  | 0, _ => ⟨rfl, rfl⟩
  | i + 1, hi => by
    have ih := zq_goin h g S i (by omega)
    have hb := zq_nob h g (j := i_a (p_it q t k) + 1 + i) (by omega) (by omega)
    refine ⟨?_, ?_⟩
    · show (if l_beg q (i_a (p_it q t k) + 1 + i) = true then _ else l_go q S (i_a (p_it q t k) + 1 + i)) = _
      rw [hb, if_neg (by decide)]
      exact ih.1
    · show (if l_beg q (i_a (p_it q t k) + 1 + i) = true then _ else l_cnt q (i_a (p_it q t k) + 1 + i)) = _
      rw [hb, if_neg (by decide)]
      exact ih.2
theorem zq_go {K : Nat} (h0 : i_a t = 0) (h : ∀ j, j < K → zG q t j) (S : WS) : ∀ k, k ≤ K → l_go q S (i_a (p_it q t k)) = p_go (p_it q t K) S k ∧ l_cnt q (i_a (p_it q t k)) = k
  | 0, _ => by
    have : i_a (p_it q t 0) = 0 := h0
    rw [this]
    exact ⟨rfl, rfl⟩
  | k + 1, hk => by
    have ih := zq_go h0 h S k (by omega)
    have hI := zI_all h0 k (fun j hj => h j (by omega))
    have hG := h k (by omega)
    obtain ⟨s1, s2⟩ := zq_step hI hG
    have hb := zq_yb h0 (fun j (hj : j < k) => h j (by omega))
    have hi := zq_goin hI hG S (p_b (q_f q (i_a (p_it q t k))) + 1) (by rw [s2]; omega)
    rw [← s2] at hi
    rw [hi.1, hi.2]
    refine ⟨?_, ?_⟩
    · show (if l_beg q (i_a (p_it q t k)) = true then (l_com q (i_a (p_it q t k)) (l_go q S (i_a (p_it q t k)))).2 else _) = (p_c1 (p_it q t K) k (p_go (p_it q t K) S k)).2
      rw [hb, if_pos rfl, ih.1, zq_c1 (by omega) hI hG]
    · show (if l_beg q (i_a (p_it q t k)) = true then l_cnt q (i_a (p_it q t k)) + 1 else _) = k + 1
      rw [hb, if_pos rfl, ih.2]
theorem zq_find (h0 : i_a t = 0) : ∀ {K : Nat}, (∀ j, j < K → zG q t j) → ∀ j, j < i_a (p_it q t K) → ∃ k, k < K ∧ i_a (p_it q t k) ≤ j ∧ j < i_a (p_it q t (k + 1))
  | 0, _, j, hj => by
    have : i_a (p_it q t 0) = 0 := h0
    omega
  | K + 1, h, j, hj => by
    rcases Nat.lt_or_ge j (i_a (p_it q t K)) with z | z
    · obtain ⟨k, a1, a2, a3⟩ := zq_find h0 (fun i hi => h i (by omega)) j z
      exact ⟨k, by omega, a2, a3⟩
    · exact ⟨K, by omega, z, hj⟩
end
