theorem gI_of32 {t : Nat} (h : t < 2 ^ 31) : Int32.toInt64 (nI t) = gI t := by
  apply Int64.toInt_inj.mp
  rw [Int32.toInt_toInt64, nI_toInt h, gI_toInt (by omega)]
theorem gI_add (a b : Nat) : gI a + gI b = gI (a + b) := (Int64.ofNat_add a b).symm
theorem gI_mul (a b : Nat) : gI a * gI b = gI (a * b) := (Int64.ofNat_mul a b).symm
theorem pow_gI (t : Nat) : ∀ n, l_pow (gI t) n = gI (t ^ n)
  | 0 => rfl
  | n + 1 => by rw [l_pow, pow_gI t n, gI_mul, Nat.pow_succ]
def wN (u : Nat) : Nat → WS → Nat
  | 0, S => if w_wat S then 1 else 0
  | r + 1, S => wN u r (w_day false S) + u * wN u r (w_day true S)
theorem ways_gI (u : Nat) : ∀ (r : Nat) (S : WS), w_ways (gI u) r S = gI (wN u r S)
  | 0, S => by
    unfold w_ways wN
    split <;> rfl
  | r + 1, S => by
    rw [w_ways, wN, ways_gI u r, ways_gI u r, gI_mul, gI_add]
theorem wN_le (u : Nat) : ∀ (r : Nat) (S : WS), wN u r S ≤ (u + 1) ^ r
  | 0, S => by
    unfold wN
    split <;> simp
  | r + 1, S => by
    have h1 := wN_le u r (w_day false S)
    have h2 := wN_le u r (w_day true S)
    have h3 := Nat.mul_le_mul_left u h2
    rw [wN, Nat.pow_succ, Nat.mul_add, Nat.mul_one, Nat.mul_comm ((u + 1) ^ r) u]
    omega
theorem pow20 {t n : Nat} (ht : t ≤ 20) (hn : n ≤ 7) : t ^ n < 2 ^ 62 := by
  have h1 : t ^ n ≤ 20 ^ n := Nat.pow_le_pow_left ht n
  have h2 : 20 ^ n ≤ 20 ^ 7 := Nat.pow_le_pow_right (by decide) hn
  have h3 : 20 ^ 7 < 2 ^ 62 := by decide
  omega
theorem part_gI {a b : Nat} (ha : a < 2 ^ 62) (hb : b < 2 ^ 62) (hb0 : 0 < b) : ∃ r, (l_it (gI a) (gI b) r).2 = 0 ∧ (∀ j, j < r → ¬ (l_it (gI a) (gI b) j).2 = 0) ∧ ¬ (l_it (gI a) (gI b) r).1 = 0 ∧ l_part (gI a) (gI b) 0 = gI a / (l_it (gI a) (gI b) r).1 ∧ l_part (gI a) (gI b) 1 = gI b / (l_it (gI a) (gI b) r).1 := by
  obtain ⟨r, h1, h2, h3, h4, h5⟩ := q_gcd ha hb hb0
  refine ⟨r, h1, h2, h3, ?_, ?_⟩
  · rw [l_part, if_pos h5, if_pos rfl, h4]
  · rw [l_part, if_pos h5, if_neg (by decide), h4]
theorem q_cold (S : WS) {n t : Nat} (hn : n ≤ 7) (ht1 : 2 ≤ t) (ht2 : t ≤ 20) : ∃ r, (l_it (l_up S (Int32.toInt64 (nI t - 1)) n (2 ^ n)) (l_pow (Int32.toInt64 (nI t)) n) r).2 = 0 ∧ (∀ j, j < r → ¬ (l_it (l_up S (Int32.toInt64 (nI t - 1)) n (2 ^ n)) (l_pow (Int32.toInt64 (nI t)) n) j).2 = 0) ∧ ¬ (l_it (l_up S (Int32.toInt64 (nI t - 1)) n (2 ^ n)) (l_pow (Int32.toInt64 (nI t)) n) r).1 = 0 ∧ l_part (w_ways (Int32.toInt64 (nI t - 1)) n S) (l_pow (Int32.toInt64 (nI t)) n) 0 = (l_up S (Int32.toInt64 (nI t - 1)) n (2 ^ n)) / (l_it (l_up S (Int32.toInt64 (nI t - 1)) n (2 ^ n)) (l_pow (Int32.toInt64 (nI t)) n) r).1 ∧ l_part (w_ways (Int32.toInt64 (nI t - 1)) n S) (l_pow (Int32.toInt64 (nI t)) n) 1 = (l_pow (Int32.toInt64 (nI t)) n) / (l_it (l_up S (Int32.toInt64 (nI t - 1)) n (2 ^ n)) (l_pow (Int32.toInt64 (nI t)) n) r).1 := by
  rw [q_ways _ n S (by omega)]
  obtain ⟨u, rfl⟩ : ∃ u, t = u + 1 := ⟨t - 1, by omega⟩
  rw [nI_pred u, gI_of32 (show u < 2 ^ 31 by omega), gI_of32 (show u + 1 < 2 ^ 31 by omega), ways_gI, pow_gI]
  have h1 := wN_le u n S
  have h2 := pow20 ht2 hn
  exact part_gI (by omega) h2 (Nat.pow_pos (by omega))
theorem sum_nat {S : WS} (hS : Ok S) : ∀ k, k ≤ s_th S → ∃ c, c ≤ 4 * k ∧ sumf (s_le S) k = nI c
  | 0, _ => ⟨0, by omega, rfl⟩
  | k + 1, hk => by
    obtain ⟨c, hc, e⟩ := sum_nat hS k (by omega)
    obtain ⟨j, hj, e2⟩ := hS.le (show k < s_th S by omega)
    exact ⟨c + j, by omega, by rw [sumf, e, e2, nI_add]⟩
theorem q_mean {S : WS} (hS : Ok S) (h0 : 0 < s_th S) : ∃ r, (l_it (Int32.toInt64 (sumf (s_le S) (s_th S))) (Int32.toInt64 (nI (s_th S))) r).2 = 0 ∧ (∀ j, j < r → ¬ (l_it (Int32.toInt64 (sumf (s_le S) (s_th S))) (Int32.toInt64 (nI (s_th S))) j).2 = 0) ∧ ¬ (l_it (Int32.toInt64 (sumf (s_le S) (s_th S))) (Int32.toInt64 (nI (s_th S))) r).1 = 0 ∧ l_part (Int32.toInt64 (sumf (s_le S) (s_th S))) (Int32.toInt64 (if nI (s_th S) < 1 then 1 else nI (s_th S))) 0 = Int32.toInt64 (sumf (s_le S) (s_th S)) / (l_it (Int32.toInt64 (sumf (s_le S) (s_th S))) (Int32.toInt64 (nI (s_th S))) r).1 ∧ l_part (Int32.toInt64 (sumf (s_le S) (s_th S))) (Int32.toInt64 (if nI (s_th S) < 1 then 1 else nI (s_th S))) 1 = Int32.toInt64 (nI (s_th S)) / (l_it (Int32.toInt64 (sumf (s_le S) (s_th S))) (Int32.toInt64 (nI (s_th S))) r).1 := by
  have hth := hS.th
  obtain ⟨c, hc, e⟩ := sum_nat hS (s_th S) (Nat.le_refl _)
  have h1 : ¬ nI (s_th S) < 1 := nI_nlt (b := 1) (by omega) (by omega)
  rw [if_neg h1, e, gI_of32 (show c < 2 ^ 31 by omega), gI_of32 (show s_th S < 2 ^ 31 by omega)]
  exact part_gI (by omega) (by omega) h0
theorem q_mean0 {S : WS} (h0 : s_th S = 0) : l_part (Int32.toInt64 (sumf (s_le S) (s_th S))) (Int32.toInt64 (if nI (s_th S) < 1 then 1 else nI (s_th S))) 0 = 0 ∧ l_part (Int32.toInt64 (sumf (s_le S) (s_th S))) (Int32.toInt64 (if nI (s_th S) < 1 then 1 else nI (s_th S))) 1 = 1 := by
  rw [h0]
  have h1 : nI 0 < 1 := by decide
  rw [if_pos h1]
  show l_part (Int32.toInt64 0) (Int32.toInt64 1) 0 = 0 ∧ l_part (Int32.toInt64 0) (Int32.toInt64 1) 1 = 1
  have hz : l_it (Int32.toInt64 1) (Int32.toInt64 0) 128 = (Int32.toInt64 1, Int32.toInt64 0) := by
    have h9 := l_it_z (a := Int32.toInt64 1) (b := Int32.toInt64 0) (k := 0) (by decide) 128
    rw [Nat.zero_add] at h9
    exact h9
  unfold l_part
  rw [hz]
  decide
