section
variable {q : FN × Nat} {t : Nat × FN × FN × FN}
/-- below the k-th statement nothing is bad, if all that come before it come -/
theorem zq_nobad {K : Nat} (h0 : i_a t = 0) (h : ∀ j, j < K → zG q t j) (S : WS) {k : Nat} (hk : k ≤ K) (hc : ∀ m, m < k → (p_c1 (p_it q t K) m (p_go (p_it q t K) S m)).1 = true) : ∀ j, j < i_a (p_it q t k) → l_bad q S j = false := by
  intro j hj
  obtain ⟨m, m1, m2, m3⟩ := zq_find h0 (fun i (hi : i < k) => h i (by omega)) j hj
  have hI := zI_all h0 m (fun i hi => h i (by omega))
  have hG := h m (by omega)
  unfold l_bad
  by_cases e : i_a (p_it q t m) = j
  · have h1 := (zq_go h0 h S m (by omega)).1
    have h2 := hc m m1
    rw [zq_c1 (by omega) hI hG, ← h1, e] at h2
    rw [h2]
    simp
  · rw [zq_nob hI hG (by omega) m3]
    rfl
theorem zq_isbad {K : Nat} (h0 : i_a t = 0) (h : ∀ j, j < K → zG q t j) (S : WS) {k : Nat} (hk : k < K) (hc : (p_c1 (p_it q t K) k (p_go (p_it q t K) S k)).1 = false) : l_bad q S (i_a (p_it q t k)) = true := by
  have hI := zI_all h0 k (fun i hi => h i (by omega))
  have h1 := (zq_go h0 h S k (by omega)).1
  rw [zq_c1 hk hI (h k hk), ← h1] at hc
  unfold l_bad
  rw [zq_yb h0 (fun i (hi : i < k) => h i (by omega)), hc]
  rfl
theorem zq_wsOk {K : Nat} (h0 : i_a t = 0) (h : ∀ j, j < K → zG q t j) (he : i_a (p_it q t K) = q_n q) (S : WS) (hc : ∀ m, m < K → (p_c1 (p_it q t K) m (p_go (p_it q t K) S m)).1 = true) : l_ws q S = -1 ∧ l_go q S (l_end q S) = p_go (p_it q t K) S K ∧ l_cnt q (q_n q) = K := by
  have hb := zq_nobad h0 h S (Nat.le_refl K) hc
  rw [he] at hb
  have hf : fi (l_bad q S) (q_n q) = none := fi_none hb
  have hg := zq_go h0 h S K (Nat.le_refl _)
  rw [he] at hg
  refine ⟨?_, ?_, hg.2⟩
  · unfold l_ws
    rw [hf]
  · unfold l_end
    rw [hf]
    exact hg.1
theorem zq_wsBad {K : Nat} (h0 : i_a t = 0) (h : ∀ j, j < K → zG q t j) (he : i_a (p_it q t K) = q_n q) (S : WS) {k : Nat} (hk : k < K) (hc : ∀ m, m < k → (p_c1 (p_it q t K) m (p_go (p_it q t K) S m)).1 = true) (hb : (p_c1 (p_it q t K) k (p_go (p_it q t K) S k)).1 = false) : l_ws q S = i_la (p_it q t K) k ∧ i_a (p_it q t k) < q_n q := by
  have hlt : i_a (p_it q t k) < q_n q := by
    have := hv_in (h k hk).1
    exact this
  have hf : fi (l_bad q S) (q_n q) = some (i_a (p_it q t k)) := fi_hit (zq_nobad h0 h S (by omega) hc) (zq_isbad h0 h S hk hb) hlt
  refine ⟨?_, hlt⟩
  unfold l_ws
  rw [hf, zq_la hk]
theorem zq_one {S : WS} (hS : Ok S) (hp : s_pe S < 5) {sh kn : Int32} (hs : ∃ j, j ≤ 9 ∧ sh = nI j) : Ok (w_one S sh kn) := by
  obtain ⟨h1, h2, h3, h4, h5, h6, h7, h8⟩ := hS
  refine ⟨show s_pe S + 1 ≤ 5 by omega, h2, fun i hi => ?_, fun p hp => ?_, h5, fun p hp => ?_, h7, h8⟩
  · obtain ⟨r, r1, r2⟩ := h3 i hi
    exact ⟨r, show r < s_pe S + 1 by omega, r2⟩
  · show ∃ j, j ≤ 9 ∧ upd (s_sh S) (s_pe S) sh p = nI j
    have hp2 : p < s_pe S + 1 := hp
    by_cases e : p = s_pe S
    · subst e; rw [upd_at]; exact hs
    · rw [upd_ne e]; exact h4 p (by omega)
  · show ∃ j, j ≤ 999 ∧ upd (s_an S) (s_pe S) 0 p = nI j
    have hp2 : p < s_pe S + 1 := hp
    by_cases e : p = s_pe S
    · subst e; rw [upd_at]; exact ⟨0, by omega, rfl⟩
    · rw [upd_ne e]; exact h6 p (by omega)
theorem zq_cok {k : Nat} (h : zI q t k) (g : zG q t k) {S : WS} (hS : Ok S) (hc : (l_com q (i_a (p_it q t k)) S).1 = true) : Ok (l_com q (i_a (p_it q t k)) S).2 := by
  have hn := hv_in g.1
  have hv := g.1
  have hg := g.2
  unfold p_ss at hg
  rw [zq_nxi hn] at hv hg
  obtain ⟨-, hr, -⟩ := zq_sok h.1 hn hv hg
  have hz := h.1
  clear h g
  generalize i_a (p_it q t k) = a at *
  have hcs : ∀ i, i < p_b (q_f q a) + 1 → p_cks q (q_f q a) (a + 1) (a + 1 + i) = true := by
    rcases rs_sm q (q_f q a) (a + 1) (i_to (p_it q t k)) (3 * k) with ⟨g1, g2, g3⟩ | ⟨g1, -⟩
    · exact g3
    · rw [hg] at g1; cases g1
  have sg : l_sg q a = q_f q a := by rw [zq_sg hn, zq_nxi hn]
  have hdig : ∀ i, i < p_b (q_f q a) → ¬ (q_f q a = 116 ∧ i = 0) → ∃ u, u ≤ 9 ∧ l_dg q (a + 1 + i) = nI u := fun i hi hne => by
    have h1 := hcs i (by omega)
    unfold p_cks p_ck at h1
    rw [if_neg (show ¬ a + 1 + i = a + 1 + p_b (q_f q a) by omega), if_neg (fun z => hne ⟨z.1, by omega⟩)] at h1
    rw [zq_dgp (hr (a + 1 + i) (by omega) (by omega)).1]
    exact zq_dig h1
  unfold l_com at hc ⊢
  by_cases e1 : l_sg q a = 112
  · rw [if_pos e1] at hc ⊢
    have b4 : p_b (q_f q a) = 4 := by rw [← sg, e1]; decide
    by_cases hh : s_pe S < 5 ∧ ¬ 255 < 10 * l_d2 q (a + 2) + l_dg q (a + 4)
    · rw [if_pos hh]
      exact zq_one hS hh.1 (hdig 0 (by omega) (fun z => absurd (sg.symm.trans e1 |>.symm.trans z.1) (by decide)))
    · rw [if_neg hh] at hc; cases hc
  rw [if_neg e1] at hc ⊢
  by_cases e2 : l_sg q a = 116
  · rw [if_pos e2] at hc ⊢
    have b3 : p_b (q_f q a) = 3 := by rw [← sg, e2]; decide
    by_cases hh : s_th S < 9 ∧ z_in (l_dg q (a + 3)) (s_pe S) = true
    · rw [if_pos hh]
      refine ok_add hS hh.1 ?_ (hdig 1 (by omega) (fun z => absurd z.2 (by decide))) (z_in_t hh.2)
      have h1 := hcs 0 (by omega)
      unfold p_cks p_ck p_kd at h1
      rw [if_neg (show ¬ a + 1 + 0 = a + 1 + p_b (q_f q a) by omega), if_pos ⟨sg.symm.trans e2, Nat.add_zero _⟩, zq_kt] at h1
      obtain ⟨u, u1, u2⟩ := z_in_t h1
      refine ⟨u, by omega, ?_⟩
      rw [zq_sg (show a + 1 < q_n q from (hr (a + 1) (by omega) (by omega)).1)]
      exact u2
    · rw [if_neg hh] at hc; cases hc
  rw [if_neg e2] at hc ⊢
  by_cases e3 : l_sg q a = 97
  · rw [if_pos e3] at hc ⊢
    by_cases hh : z_in (l_dg q (a + 1)) (s_th S) = true
    · rw [if_pos hh]
      obtain ⟨u, u1, u2⟩ := z_in_t hh
      rw [u2]
      have hth := hS.th
      show Ok (w_fall S (nI u).toNatClampNeg)
      rw [nI_clamp (by omega)]
      exact ok_fall hS u1
    · rw [if_neg hh] at hc; cases hc
  rw [if_neg e3] at hc ⊢
  by_cases e4 : l_sg q a = 107
  · rw [if_pos e4] at hc ⊢
    by_cases hh : z_in (l_dg q (a + 1)) (s_pe S) = true ∧ z_in (l_dg q (a + 2)) 8 = true
    · rw [if_pos hh]
      exact hS
    · rw [if_neg hh] at hc; cases hc
  rw [if_neg e4] at hc ⊢
  by_cases e5 : l_sg q a = 100
  · rw [if_pos e5] at hc ⊢
    by_cases hh : ¬ l_d2 q (a + 1) < 1 ∧ ¬ 60 < l_d2 q (a + 1) ∧ ¬ 999 < s_da S + l_d2 q (a + 1)
    · rw [if_pos hh]
      exact ok_dayN hS _
    · rw [if_neg hh] at hc; cases hc
  rw [if_neg e5] at hc ⊢
  by_cases e6 : l_sg q a = 111
  · rw [if_pos e6]
    exact hS
  · rw [if_neg e6] at hc; cases hc
theorem zq_hO {K : Nat} (h0 : i_a t = 0) (h : ∀ j, j < K → zG q t j) (he : i_a (p_it q t K) = q_n q) {S : WS} (hS : Ok S) : ∀ k, k ≤ q_n q → (∀ j, j < k → l_bad q S j = false) → Ok (l_go q S k)
  | 0, _, _ => hS
  | k + 1, hk, hb => by
    have ih := zq_hO h0 h he hS k (by omega) (fun j hj => hb j (by omega))
    show Ok (if l_beg q k = true then (l_com q k (l_go q S k)).2 else l_go q S k)
    by_cases hbeg : l_beg q k = true
    · rw [if_pos hbeg]
      obtain ⟨m, m1, m2, m3⟩ := zq_find h0 h k (by omega)
      have hI := zI_all h0 m (fun i hi => h i (by omega))
      have hG := h m m1
      by_cases e : i_a (p_it q t m) = k
      · have h2 := hb k (by omega)
        unfold l_bad at h2
        rw [hbeg, Bool.true_and] at h2
        subst e
        exact zq_cok hI hG ih (by simpa using h2)
      · rw [zq_nob hI hG (by omega) m3] at hbeg
        cases hbeg
    · rw [if_neg hbeg]
      exact ih
theorem zq_hOm {K : Nat} (h0 : i_a t = 0) (h : ∀ j, j < K → zG q t j) (he : i_a (p_it q t K) = q_n q) {S : WS} (hS : Ok S) {k : Nat} (hk : k ≤ K) (hc : ∀ m, m < k → (p_c1 (p_it q t K) m (p_go (p_it q t K) S m)).1 = true) : Ok (p_go (p_it q t K) S k) := by
  rw [← (zq_go h0 h S k hk).1]
  exact zq_hO h0 h he hS _ (zI_le (zI_all h0 k (fun j hj => h j (by omega)))) (zq_nobad h0 h S hk hc)
end
