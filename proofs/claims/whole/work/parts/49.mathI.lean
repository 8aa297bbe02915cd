-- the text as a whole
def zI (q : FN × Nat) (t : Nat × FN × FN × FN) (k : Nat) : Prop := (l_st (q_f q) (i_a (p_it q t k))).2 = 0 ∧ (∀ j, j < i_a (p_it q t k) → j < q_n q ∧ l_ok (q_f q) j = true) ∧ 3 * k ≤ i_a (p_it q t k)
def zG (q : FN × Nat) (t : Nat × FN × FN × FN) (k : Nat) : Prop := p_hv (p_nx q (i_a (p_it q t k))) ∧ (p_ss q (p_it q t k) k).1 = true
section
variable {q : FN × Nat} {t : Nat × FN × FN × FN}
theorem zI_le {k : Nat} (h : zI q t k) : i_a (p_it q t k) ≤ q_n q := by
  by_cases h0 : i_a (p_it q t k) = 0
  · omega
  · have := (h.2.1 (i_a (p_it q t k) - 1) (by omega)).1
    omega
theorem zI_0 (h : i_a t = 0) : zI q t 0 := by
  show (l_st (q_f q) (i_a t)).2 = 0 ∧ (∀ j, j < i_a t → j < q_n q ∧ l_ok (q_f q) j = true) ∧ 3 * 0 ≤ i_a t
  rw [h]
  exact ⟨rfl, fun j hj => absurd hj (by omega), by omega⟩
theorem zq_step {k : Nat} (h : zI q t k) (g : zG q t k) : zI q t (k + 1) ∧ i_a (p_it q t (k + 1)) = i_a (p_it q t k) + 1 + (p_b (q_f q (i_a (p_it q t k))) + 1) := by
  have hn := hv_in g.1
  have hv := g.1
  have hg := g.2
  unfold p_ss at hg
  rw [zq_nxi hn] at hv hg
  obtain ⟨e1, e2, e3⟩ := zq_sok h.1 hn hv hg
  obtain ⟨-, b1, -⟩ := zq_sb hv
  have e : i_a (p_it q t (k + 1)) = i_a (p_it q t k) + 1 + (p_b (q_f q (i_a (p_it q t k))) + 1) := by
    show (p_sm q (p_nx q (i_a (p_it q t k))) (i_a (p_it q t k) + 1) (i_to (p_it q t k)) (3 * k)).2.1 = _
    rw [zq_nxi hn]
    exact e1
  refine ⟨⟨?_, ?_, ?_⟩, e⟩
  · rw [e]; exact e3
  · rw [e]
    intro j hj
    by_cases hj2 : j < i_a (p_it q t k)
    · exact h.2.1 j hj2
    · exact e2 j (by omega) hj
  · rw [e]
    have := h.2.2
    omega
theorem zI_all (h0 : i_a t = 0) : ∀ k, (∀ j, j < k → zG q t j) → zI q t k
  | 0, _ => zI_0 h0
  | k + 1, h => (zq_step (zI_all h0 k (fun j hj => h j (by omega))) (h k (by omega))).1
theorem zq_first : ∀ m, (∀ k, k < m → zG q t k) ∨ ∃ K, K < m ∧ (∀ k, k < K → zG q t k) ∧ ¬ zG q t K
  | 0 => Or.inl (fun k hk => absurd hk (by omega))
  | m + 1 => by
    rcases zq_first m with h | ⟨K, h1, h2, h3⟩
    · rcases Classical.em (zG q t m) with g | g
      · refine Or.inl (fun k hk => ?_)
        rcases Nat.lt_or_ge k m with z | z
        · exact h k z
        · have : k = m := by omega
          subst this
          exact g
      · exact Or.inr ⟨m, by omega, h, g⟩
    · exact Or.inr ⟨K, by omega, h2, h3⟩
theorem zq_K (h0 : i_a t = 0) (hn : q_n q ≤ 96) : ∃ K, K < 40 ∧ (∀ k, k < K → zG q t k) ∧ ¬ zG q t K := by
  rcases zq_first (q := q) (t := t) 40 with h | h
  · exfalso
    have h1 := zI_all h0 40 h
    have h2 := zI_le h1
    have h3 := h1.2.2
    omega
  · exact h
theorem zq_wlA {K : Nat} (h : zI q t K) (hK : 0 < K) (he : ¬ i_a (p_it q t K) < q_n q) : l_wl q = -1 := by
  have h1 := zI_le h
  have h2 := h.2.2
  have e : i_a (p_it q t K) = q_n q := by omega
  have e2 : fi (fun j => !l_ok (q_f q) j) (q_n q) = none := fi_none (fun j hj => by rw [(h.2.1 j (by omega)).2]; rfl)
  have h3 := h.1
  rw [e] at h3
  unfold l_wl
  rw [e2]
  show (if q_n q = 0 ∨ ¬ (l_st (q_f q) (q_n q)).2 = 0 then nI (q_n q) else -1) = -1
  rw [if_neg (fun z => z.elim (fun z => by omega) (fun z => z h3))]
theorem zq_wlE {e : Nat} (ha : ∀ j, j < e → j < q_n q ∧ l_ok (q_f q) j = true) (hb : (e < q_n q ∧ l_ok (q_f q) e = false) ∨ (e = q_n q ∧ (q_n q = 0 ∨ ¬ (l_st (q_f q) e).2 = 0))) : l_wl q = nI e := by
  unfold l_wl
  rcases hb with ⟨h1, h2⟩ | ⟨h1, h2⟩
  · rw [fi_hit (P := fun j => !l_ok (q_f q) j) (k := e) (fun j hj => by rw [(ha j hj).2]; rfl) (by rw [h2]; rfl) h1]
  · have e2 : fi (fun j => !l_ok (q_f q) j) (q_n q) = none := fi_none (fun j hj => by rw [(ha j (by omega)).2]; rfl)
    rw [e2]
    show (if q_n q = 0 ∨ ¬ (l_st (q_f q) (q_n q)).2 = 0 then nI (q_n q) else -1) = nI e
    rw [h1] at h2
    rw [if_pos h2, h1]
theorem zq_wlB {K : Nat} (h : zI q t K) (hg : i_a (p_it q t K) < q_n q ∨ K = 0) (h0 : i_a t = 0) (hv : ¬ p_hv (p_nx q (i_a (p_it q t K)))) : l_wl q = nI (i_a (p_it q t K)) := by
  refine zq_wlE h.2.1 ?_
  by_cases hn : i_a (p_it q t K) < q_n q
  · left
    rw [zq_nxi hn] at hv
    refine ⟨hn, ?_⟩
    rw [zq_oh h.1, zq_nv hv]
    decide
  · right
    rcases hg with g | g
    · exact absurd g hn
    · subst g
      have : i_a (p_it q t 0) = 0 := h0
      rw [this] at hn ⊢
      exact ⟨by omega, Or.inl (by omega)⟩
theorem zq_wlC {K : Nat} (h : zI q t K) (hv : p_hv (p_nx q (i_a (p_it q t K)))) (hb : (p_ss q (p_it q t K) K).1 = false) : l_wl q = nI (p_ss q (p_it q t K) K).2.1 := by
  have hn := hv_in hv
  unfold p_ss at hb ⊢
  rw [zq_nxi hn] at hv hb ⊢
  obtain ⟨e, e1, e2, e3, e4⟩ := zq_sno h.1 hn hv hb
  rw [e1]
  refine zq_wlE (fun j hj => ?_) (e4.imp id (fun z => ⟨z.1, Or.inr z.2⟩))
  by_cases hj2 : j < i_a (p_it q t K)
  · exact h.2.1 j hj2
  · exact e3 j (by omega) hj
end
theorem zq_m1 {j : Nat} (h : j < 2 ^ 31) : ¬ nI j = -1 := fun e => by
  have h1 := congrArg Int32.toInt e
  rw [nI_toInt h] at h1
  have h2 : (-1 : Int32).toInt = -1 := by decide
  omega
