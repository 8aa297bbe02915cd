-- cold days by sets
theorem hasb_nat {v k : Nat} (hk : k < 9) : hasb (nI v) (nI k) = v.testBit k := by
  rw [hasb_bit _ hk]
  show (BitVec.ofNat 32 v).getLsbD k = v.testBit k
  rw [BitVec.getLsbD_ofNat]
  simp [show k < 32 by omega]
theorem sd_even {m b : Nat} (S : WS) (hb : b < 2) : ∀ k, k < 9 → w_sd S (nI (2 * m + b)) (k + 1) = w_sd (w_day (!decide (b = 1)) S) (nI m) k
  | 0, _ => by
    show w_day (!hasb (nI (2 * m + b)) (nI 0)) S = w_day (!decide (b = 1)) S
    rw [hasb_nat (by omega), Nat.testBit_zero]
    congr 3
    apply propext
    omega
  | k + 1, h => by
    show w_day (!hasb (nI (2 * m + b)) (nI (k + 1))) (w_sd S (nI (2 * m + b)) (k + 1)) = w_day (!hasb (nI m) (nI k)) (w_sd (w_day (!decide (b = 1)) S) (nI m) k)
    rw [sd_even S hb k (by omega), hasb_nat (by omega), hasb_nat (by omega), Nat.testBit_succ, show (2 * m + b) / 2 = m by omega]
theorem pt_even {m b : Nat} (t1 : Int64) (hb : b < 2) : ∀ k, k < 9 → l_pt t1 (nI (2 * m + b)) (k + 1) = (if b = 1 then 1 else t1) * l_pt t1 (nI m) k
  | 0, _ => by
    show 1 * (if hasb (nI (2 * m + b)) (nI 0) = true then 1 else t1) = (if b = 1 then 1 else t1) * 1
    rw [hasb_nat (by omega), Nat.testBit_zero]
    by_cases h : b = 1
    · rw [if_pos (decide_eq_true (show (2 * m + b) % 2 = 1 by omega)), if_pos h]
    · rw [if_neg (fun q => h (by have := of_decide_eq_true q; omega)), if_neg h]
      grind
  | k + 1, h => by
    show l_pt t1 (nI (2 * m + b)) (k + 1) * (if hasb (nI (2 * m + b)) (nI (k + 1)) = true then 1 else t1) = (if b = 1 then 1 else t1) * (l_pt t1 (nI m) k * (if hasb (nI m) (nI k) = true then 1 else t1))
    rw [pt_even t1 hb k (by omega), hasb_nat (by omega), hasb_nat (by omega), Nat.testBit_succ, show (2 * m + b) / 2 = m by omega]
    generalize (if m.testBit k = true then (1 : Int64) else t1) = X
    generalize (if b = 1 then (1 : Int64) else t1) = Y
    grind
theorem up_even (S : WS) (t1 : Int64) {n : Nat} (hn : n < 8) : ∀ m, l_up S t1 (n + 1) (2 * m) = l_up (w_day false S) t1 n m + t1 * l_up (w_day true S) t1 n m
  | 0 => by
    show (0 : Int64) = 0 + t1 * 0
    grind
  | m + 1 => by
    have ih := up_even S t1 hn m
    show l_up S t1 (n + 1) (2 * m) + (if w_wat (w_sd S (nI (2 * m)) (n + 1)) = true then l_pt t1 (nI (2 * m)) (n + 1) else 0) + (if w_wat (w_sd S (nI (2 * m + 1)) (n + 1)) = true then l_pt t1 (nI (2 * m + 1)) (n + 1) else 0) = (l_up (w_day false S) t1 n m + (if w_wat (w_sd (w_day false S) (nI m) n) = true then l_pt t1 (nI m) n else 0)) + t1 * (l_up (w_day true S) t1 n m + (if w_wat (w_sd (w_day true S) (nI m) n) = true then l_pt t1 (nI m) n else 0))
    have e0 := sd_even (m := m) (b := 0) S (by decide) n (by omega)
    have e1 := sd_even (m := m) (b := 1) S (by decide) n (by omega)
    have f0 := pt_even (m := m) (b := 0) t1 (by decide) n (by omega)
    have f1 := pt_even (m := m) (b := 1) t1 (by decide) n (by omega)
    rw [Nat.add_zero] at e0 f0
    have g0 : w_sd S (nI (2 * m)) (n + 1) = w_sd (w_day true S) (nI m) n := e0
    have g1 : w_sd S (nI (2 * m + 1)) (n + 1) = w_sd (w_day false S) (nI m) n := e1
    have k0 : l_pt t1 (nI (2 * m)) (n + 1) = t1 * l_pt t1 (nI m) n := f0
    have k1 : l_pt t1 (nI (2 * m + 1)) (n + 1) = 1 * l_pt t1 (nI m) n := f1
    rw [g0, g1, k0, k1, ih]
    generalize l_pt t1 (nI m) n = P
    generalize l_up (w_day false S) t1 n m = A
    generalize l_up (w_day true S) t1 n m = B
    cases w_wat (w_sd (w_day true S) (nI m) n) <;> cases w_wat (w_sd (w_day false S) (nI m) n) <;> simp only [Bool.false_eq_true, if_true, if_false] <;> grind
theorem q_ways (t1 : Int64) : ∀ (n : Nat) (S : WS), n ≤ 8 → l_up S t1 n (2 ^ n) = w_ways t1 n S
  | 0, S, _ => by
    show (0 : Int64) + (if w_wat S = true then 1 else 0) = if w_wat S = true then 1 else 0
    generalize (if w_wat S = true then (1 : Int64) else 0) = A
    grind
  | n + 1, S, h => by
    rw [show 2 ^ (n + 1) = 2 * 2 ^ n by rw [Nat.pow_succ, Nat.mul_comm], up_even S t1 (by omega), q_ways t1 n _ (by omega), q_ways t1 n _ (by omega)]
    rfl
-- numbers
def gI (n : Nat) : Int64 := Int64.ofNat n
theorem gI_toInt {n : Nat} (h : n < 2 ^ 62) : (gI n).toInt = n := Int64.toInt_ofNat_of_lt (by omega)
theorem gI_0 {n : Nat} (h : n < 2 ^ 62) : gI n = 0 ↔ n = 0 := by
  constructor
  · intro e
    have h1 := congrArg Int64.toInt e
    rw [gI_toInt h] at h1
    have h2 : (0 : Int64).toInt = 0 := by decide
    omega
  · intro e; rw [e]; rfl
theorem gI_div {a c : Nat} (ha : a < 2 ^ 62) (hc : c < 2 ^ 62) : gI a / gI c = gI (a / c) := by
  apply Int64.toInt_inj.mp
  rw [Int64.toInt_div_of_ne_right _ _ (by
    intro e
    have := congrArg Int64.toInt e
    rw [gI_toInt hc] at this
    have h2 : (-1 : Int64).toInt = -1 := by decide
    rw [h2] at this
    omega), gI_toInt ha, gI_toInt hc, gI_toInt (by have := Nat.div_le_self a c; omega)]
  exact (Int.ofNat_tdiv a c).symm
theorem gI_mod {a c : Nat} (ha : a < 2 ^ 62) (hc : c < 2 ^ 62) : gI a - gI a / gI c * gI c = gI (a % c) := by
  rw [gI_div ha hc]
  have h := Nat.div_add_mod a c
  have h6 : gI a = gI (a / c) * gI c + gI (a % c) := by
    show Int64.ofNat a = Int64.ofNat (a / c) * Int64.ofNat c + Int64.ofNat (a % c)
    rw [← Int64.ofNat_mul, ← Int64.ofNat_add]
    congr 1
    rw [Nat.mul_comm]
    exact h.symm
  rw [h6]
  generalize gI (a / c) * gI c = X
  generalize gI (a % c) = Y
  grind
def e_it (a b : Nat) : Nat → Nat × Nat
  | 0 => (a, b)
  | k + 1 => if (e_it a b k).2 = 0 then e_it a b k else ((e_it a b k).2, (e_it a b k).1 % (e_it a b k).2)
theorem e_lt {a b : Nat} (ha : a < 2 ^ 62) (hb : b < 2 ^ 62) : ∀ k, (e_it a b k).1 < 2 ^ 62 ∧ (e_it a b k).2 < 2 ^ 62
  | 0 => ⟨ha, hb⟩
  | k + 1 => by
    have ih := e_lt ha hb k
    unfold e_it
    split
    · exact ih
    · rename_i h
      have := Nat.mod_lt (e_it a b k).1 (show 0 < (e_it a b k).2 by omega)
      exact ⟨ih.2, by show (e_it a b k).1 % (e_it a b k).2 < 2 ^ 62; omega⟩
theorem it_e {a b : Nat} (ha : a < 2 ^ 62) (hb : b < 2 ^ 62) : ∀ k, l_it (gI a) (gI b) k = (gI (e_it a b k).1, gI (e_it a b k).2)
  | 0 => rfl
  | k + 1 => by
    have ih := it_e ha hb k
    have hl := e_lt ha hb k
    unfold l_it e_it
    rw [ih]
    by_cases h : (e_it a b k).2 = 0
    · rw [if_pos h, if_pos ((gI_0 hl.2).mpr h)]
    · rw [if_neg h, if_neg (fun q => h ((gI_0 hl.2).mp q))]
      show (gI (e_it a b k).2, gI (e_it a b k).1 - gI (e_it a b k).1 / gI (e_it a b k).2 * gI (e_it a b k).2) = _
      rw [gI_mod hl.1 hl.2]
theorem e_gcd (a b : Nat) : ∀ k, Nat.gcd (e_it a b k).1 (e_it a b k).2 = Nat.gcd a b
  | 0 => rfl
  | k + 1 => by
    have ih := e_gcd a b k
    unfold e_it
    split
    · exact ih
    · show Nat.gcd (e_it a b k).2 ((e_it a b k).1 % (e_it a b k).2) = _
      rw [Nat.gcd_comm, ← Nat.gcd_rec, Nat.gcd_comm]
      exact ih
theorem e_half (a b : Nat) : ∀ k, 2 * (e_it a b (k + 2)).2 ≤ (e_it a b k).2 := by
  intro k
  have h1 : e_it a b (k + 2) = if (e_it a b (k + 1)).2 = 0 then e_it a b (k + 1) else ((e_it a b (k + 1)).2, (e_it a b (k + 1)).1 % (e_it a b (k + 1)).2) := rfl
  have h2 : e_it a b (k + 1) = if (e_it a b k).2 = 0 then e_it a b k else ((e_it a b k).2, (e_it a b k).1 % (e_it a b k).2) := rfl
  by_cases h : (e_it a b k).2 = 0
  · rw [if_pos h] at h2
    rw [h2, if_pos h] at h1
    rw [h1, h]
    omega
  · rw [if_neg h] at h2
    by_cases g : (e_it a b (k + 1)).2 = 0
    · rw [if_pos g] at h1
      rw [h1, g]
      omega
    · rw [if_neg g] at h1
      rw [h1]
      have e1 : (e_it a b (k + 1)).1 = (e_it a b k).2 := by rw [h2]
      have e2 : (e_it a b (k + 1)).2 < (e_it a b k).2 := by
        rw [h2]
        exact Nat.mod_lt _ (by omega)
      show 2 * ((e_it a b (k + 1)).1 % (e_it a b (k + 1)).2) ≤ _
      rw [e1]
      have hd := Nat.div_add_mod (e_it a b k).2 (e_it a b (k + 1)).2
      have hm := Nat.mod_lt (e_it a b k).2 (show 0 < (e_it a b (k + 1)).2 by omega)
      have hq : 1 ≤ (e_it a b k).2 / (e_it a b (k + 1)).2 := Nat.div_pos (by omega) (by omega)
      have hx := Nat.mul_le_mul_left (e_it a b (k + 1)).2 hq
      omega
theorem e_2 {a b : Nat} : ∀ j, 2 ^ j * (e_it a b (2 * j)).2 ≤ b
  | 0 => by simp [e_it]
  | j + 1 => by
    have ih := e_2 (a := a) (b := b) j
    have h := e_half a b (2 * j)
    rw [show 2 * (j + 1) = 2 * j + 2 by omega, Nat.pow_succ, Nat.mul_assoc]
    exact Nat.le_trans (Nat.mul_le_mul_left _ h) ih
theorem e_128 {a b : Nat} (hb : b < 2 ^ 62) : (e_it a b 128).2 = 0 := by
  have h := e_2 (a := a) (b := b) 64
  by_cases h0 : (e_it a b 128).2 = 0
  · exact h0
  · exfalso
    have : 2 ^ 64 * 1 ≤ 2 ^ 64 * (e_it a b (2 * 64)).2 := Nat.mul_le_mul_left _ (by show 1 ≤ (e_it a b 128).2; omega)
    have h2 : 2 ^ 62 < 2 ^ 64 := by decide
    omega
theorem e_1 {a b k : Nat} (h : (e_it a b k).2 = 0) : (e_it a b k).1 = Nat.gcd a b := by
  have := e_gcd a b k
  rw [h, Nat.gcd_zero_right] at this
  exact this
/-- the model's rounds come to an end, with the class's divisor -/
theorem q_gcd {a b : Nat} (ha : a < 2 ^ 62) (hb : b < 2 ^ 62) (hb0 : 0 < b) : ∃ r, (l_it (gI a) (gI b) r).2 = 0 ∧ (∀ j, j < r → ¬ (l_it (gI a) (gI b) j).2 = 0) ∧ ¬ (l_it (gI a) (gI b) r).1 = 0 ∧ (l_it (gI b) (gI a) 128).1 = (l_it (gI a) (gI b) r).1 ∧ 0 < (l_it (gI b) (gI a) 128).1 := by
  have hex : ∃ r, fi (fun k => decide ((l_it (gI a) (gI b) k).2 = 0)) 129 = some r := by
    cases h : fi (fun k => decide ((l_it (gI a) (gI b) k).2 = 0)) 129 with
    | some r => exact ⟨r, rfl⟩
    | none =>
      exfalso
      have h1 := fi_none' h 128 (by decide)
      have h2 : (l_it (gI a) (gI b) 128).2 = 0 := by
        rw [it_e ha hb, e_128 hb]
        rfl
      rw [decide_eq_true h2] at h1
      cases h1
  obtain ⟨r, hr⟩ := hex
  have h1 := (fi_some hr).2
  have h2 : (l_it (gI a) (gI b) r).2 = 0 := of_decide_eq_true h1
  have hl := e_lt ha hb r
  have h3 : (e_it a b r).2 = 0 := by
    rw [it_e ha hb] at h2
    exact (gI_0 hl.2).mp h2
  have h4 := e_1 h3
  have hg : 0 < Nat.gcd a b := Nat.gcd_pos_of_pos_right a hb0
  have h5 : (l_it (gI a) (gI b) r).1 = gI (Nat.gcd a b) := by rw [it_e ha hb, h4]
  have h6 : (l_it (gI b) (gI a) 128).1 = gI (Nat.gcd a b) := by
    rw [it_e hb ha, e_1 (e_128 ha), Nat.gcd_comm]
  have hgl : Nat.gcd a b < 2 ^ 62 := by rw [← h4]; exact hl.1
  refine ⟨r, h2, fun j hj q => ?_, ?_, ?_, ?_⟩
  · have := fi_before hr j hj
    rw [decide_eq_true q] at this
    cases this
  · rw [h5, gI_0 hgl]
    omega
  · rw [h5, h6]
  · rw [h6, Int64.lt_iff_toInt_lt, gI_toInt hgl]
    have : (0 : Int64).toInt = 0 := by decide
    omega
