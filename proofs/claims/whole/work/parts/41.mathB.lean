theorem t_of_nat : ∀ (k : Fin 6) (q : Fin 10), ∃ t : Fin 8, t_of (nI k.val) (nI q.val) = nI t.val := by decide +kernel
theorem top_nat {S : WS} (hS : Ok S) {i : Nat} (hi : i < s_th S) : ∃ t, t < 8 ∧ top S i = nI t := by
  obtain ⟨k, hk, e1⟩ := hS.ki hi
  obtain ⟨q, hq, e2⟩ := hS.we hi
  obtain ⟨t, ht⟩ := t_of_nat ⟨k, by omega⟩ ⟨q, by omega⟩
  exact ⟨t.val, t.isLt, by unfold top; rw [e1, e2]; exact ht⟩
theorem les_nat {S : WS} (hS : Ok S) (p : Int32) : ∀ k, k ≤ s_th S → ∃ v, v < 256 ∧ w_les S p k = nI v
  | 0, _ => ⟨0, by omega, rfl⟩
  | k + 1, hk => by
    obtain ⟨v, hv, e⟩ := les_nat hS p k (by omega)
    unfold w_les
    split
    · obtain ⟨t, ht, e2⟩ := top_nat hS (show k < s_th S by omega)
      refine ⟨v ||| 2 ^ t, ?_, ?_⟩
      · exact Nat.or_lt_two_pow (n := 8) hv (Nat.pow_lt_pow_right (by decide) ht)
      · rw [e, e2]
        exact or_512 ⟨v, by omega⟩ ⟨t, by omega⟩
    · exact ⟨v, hv, e⟩
theorem les_bits {S : WS} (hS : Ok S) (p : Int32) : bc (w_les S p (s_th S)) = m_bits (w_les S p (s_th S)) 31 := by
  obtain ⟨v, hv, e⟩ := les_nat hS p (s_th S) (Nat.le_refl _)
  rw [e]
  exact bc_256 ⟨v, by omega⟩
theorem q_fewest0 {S : WS} (hS : Ok S) : ∀ k, w_lsum S k = m_lsum S k
  | 0 => rfl
  | k + 1 => by rw [w_lsum, m_lsum, q_fewest0 hS k, les_bits hS]
theorem bmax_congr {P : Nat → Bool} {f g : Nat → Int32} {z : Int32 × Int32} (h : ∀ k, f k = g k) (n : Nat) : bmax P f z n = bmax P g z n := by
  have : f = g := funext h
  rw [this]
theorem q_fewest1 {S : WS} (hS : Ok S) : (bmax yes (fun p => bc (w_les S (nI p) (s_th S))) (-9, 0) (s_pe S)).1 = (bmax yes (fun p => m_bits (w_les S (nI p) (s_th S)) 31) (-9, 0) (s_pe S)).1 := by
  rw [bmax_congr (fun k => les_bits hS (nI k))]
theorem ask_nat (S : WS) : ∀ k, k ≤ 9 → ∃ v, v < 512 ∧ askb S k = nI v
  | 0, _ => ⟨0, by omega, rfl⟩
  | k + 1, hk => by
    obtain ⟨v, hv, e⟩ := ask_nat S k (by omega)
    unfold askb
    split
    · refine ⟨v ||| 2 ^ k, ?_, ?_⟩
      · exact Nat.or_lt_two_pow (n := 9) hv (Nat.pow_lt_pow_right (by decide) (by omega))
      · rw [e]
        exact or_512 ⟨v, hv⟩ ⟨k, by omega⟩
    · exact ⟨v, hv, e⟩
theorem ask_bits {S : WS} (h : s_th S ≤ 9) : bc (askb S (s_th S)) = m_bits (askb S (s_th S)) 31 := by
  obtain ⟨v, hv, e⟩ := ask_nat S (s_th S) h
  rw [e]
  exact bc_256 ⟨v, hv⟩
theorem q_judge {S : WS} (hS : Ok S) (f : FN) (n : Nat) : fi (fun d => !decide (bc (askb (w_dayN S d) (s_th (w_dayN S d))) = f d)) n = fi (fun d => !decide (m_bits (askb (w_dayN S d) (s_th (w_dayN S d))) 31 = f d)) n := fi_congr (fun k _ => by rw [ask_bits (ok_dayN hS k).th])
-- lots
theorem an_lot (S : WS) (z : Int32) : ∀ i, s_an (w_lot S z i).1 = s_an S
  | 0 => rfl
  | i + 1 => an_lot S z i
def nsum (c : Int32) : Nat → Int32
  | 0 => 0
  | k + 1 => nsum c k + c
theorem q_lots (S : WS) (z c : Int32) : ∀ j, k_s (m_lots S z c j) = k_s (w_lots S z j) ∧ k_w (m_lots S z c j) = k_w (w_lots S z j) ∧ k_a (m_lots S z c j) = k_a (w_lots S z j) + nsum (sumf (s_an S) (s_pe S)) j + c
  | 0 => ⟨rfl, rfl, by show c = 0 + 0 + c; grind⟩
  | j + 1 => by
    obtain ⟨h1, h2, h3⟩ := q_lots S z c j
    refine ⟨?_, ?_, ?_⟩
    · show (w_lot S (k_s (m_lots S z c j)) (s_th S)).2 = (w_lot S (k_s (w_lots S z j)) (s_th S)).2
      rw [h1]
    · show k_w (m_lots S z c j) + nI (w_wet (w_lot S (k_s (m_lots S z c j)) (s_th S)).1 15) = k_w (w_lots S z j) + nI (w_wet (w_lot S (k_s (w_lots S z j)) (s_th S)).1 15)
      rw [h1, h2]
    · show k_a (m_lots S z c j) + sumf (s_an (w_dayN (w_lot S (k_s (m_lots S z c j)) (s_th S)).1 15)) (s_pe (w_dayN (w_lot S (k_s (m_lots S z c j)) (s_th S)).1 15)) = k_a (w_lots S z j) + (sumf (s_an (w_dayN (w_lot S (k_s (w_lots S z j)) (s_th S)).1 15)) (s_pe (w_dayN (w_lot S (k_s (w_lots S z j)) (s_th S)).1 15)) - sumf (s_an (w_lot S (k_s (w_lots S z j)) (s_th S)).1) (s_pe (w_lot S (k_s (w_lots S z j)) (s_th S)).1)) + (nsum (sumf (s_an S) (s_pe S)) j + sumf (s_an S) (s_pe S)) + c
      rw [h1, h3, an_lot, pe_lot]
      generalize sumf (s_an (w_dayN (w_lot S (k_s (w_lots S z j)) (s_th S)).1 15)) (s_pe (w_dayN (w_lot S (k_s (w_lots S z j)) (s_th S)).1 15)) = A
      generalize sumf (s_an S) (s_pe S) = B
      generalize nsum B j = N
      generalize k_a (w_lots S z j) = K
      grind
theorem nsum_mul (c : Int32) : ∀ n, nsum c n = nI n * c
  | 0 => by
    show (0 : Int32) = 0 * c
    grind
  | n + 1 => by
    have h1 := nI_1 n
    rw [nsum, nsum_mul c n, ← h1]
    grind
theorem q_lotsA (S : WS) (z : Int32) (n : Nat) : k_a (m_lots S z (-nI n * sumf (s_an S) (s_pe S)) n) = k_a (w_lots S z n) := by
  rw [(q_lots S z _ n).2.2, nsum_mul]
  generalize sumf (s_an S) (s_pe S) = B
  generalize k_a (w_lots S z n) = K
  generalize nI n = N
  grind
