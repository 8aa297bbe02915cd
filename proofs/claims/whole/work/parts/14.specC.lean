theorem nI_n9 {j : Nat} (h : j < 2 ^ 31) : ¬ nI j < -9 := fun q => by
  have h1 := Int32.lt_iff_toInt_lt.mp q
  rw [nI_toInt h] at h1
  have h2 : (-9 : Int32).toInt = -9 := by decide
  omega
theorem w_bl1_nat (S : WS) (n p : Nat) (z : Int32 × Int32) (hz : ∃ j, j ≤ n ∧ z.2 = nI j) : ∀ t, ∃ j, j ≤ n ∧ (w_bl1 S n p z t).2 = nI j
  | 0 => hz
  | t + 1 => by
    unfold w_bl1
    split
    · exact ⟨_, w_wet_le _ _, rfl⟩
    · exact w_bl1_nat S n p z hz t
theorem w_bl_nat (S : WS) (n : Nat) : ∀ p, ∃ j, j ≤ n ∧ (w_bl S n p).2 = nI j
  | 0 => ⟨_, w_wet_le _ _, rfl⟩
  | p + 1 => w_bl1_nat S n p _ (w_bl_nat S n p) 8
theorem w_bl1_n9 (S : WS) (n p t : Nat) (hn : n < 2 ^ 31) : ¬ (w_bl1 S n p (w_bl S n p) t).2 < -9 := by
  obtain ⟨j, hj, e⟩ := w_bl1_nat S n p _ (w_bl_nat S n p) t
  rw [e]
  exact nI_n9 (by omega)
def w_ga (S : WS) (i j n : Nat) : FN := fun k => w_gn S i j n (decide (k / 2 = 1)) (decide (k % 2 = 1)) i (decide (k / 2 = 1))
def w_gb (S : WS) (i j n : Nat) : FN := fun k => w_gn S i j n (decide (k / 2 = 1)) (decide (k % 2 = 1)) j (decide (k % 2 = 1))
def w_st (g h : FN) (k : Nat) : Bool := !decide (g k < g (k ^^^ 2)) && !decide (h k < h (k ^^^ 1))
def w_two (S : WS) (i j n : Nat) : Int32 := match fi (w_st (w_ga S i j n) (w_gb S i j n)) 4 with
  | none => -9
  | some k => 10 * nI (k / 2) + nI (k % 2)
/-- of the ways in which r days may go, cold or warm, how many end with water -/
def w_ways (t : Int64) : Nat → WS → Int64
  | 0, S => if w_wat S then 1 else 0
  | r + 1, S => w_ways t r (w_day false S) + t * w_ways t r (w_day true S)
theorem pe_lot (S : WS) (z : Int32) : ∀ i, s_pe (w_lot S z i).1 = s_pe S
  | 0 => rfl
  | i + 1 => pe_lot S z i
theorem th_lot (S : WS) (z : Int32) : ∀ i, s_th (w_lot S z i).1 = s_th S
  | 0 => rfl
  | i + 1 => th_lot S z i
theorem d_of_in (z : Int32) {m : Nat} (h : 0 < m) (hm : m ≤ 5) : ∃ q, q < m ∧ d_of z m = nI q := by
  obtain ⟨v, hv1, hv⟩ : ∃ v : Nat, v < 2 ^ 31 ∧ (d_nx z &&& 2147483647) = nI v := by
    refine nI_of ?_
    intro hlt
    have h1 := Int32.lt_iff_toInt_lt.mp hlt
    have h2 : (d_nx z &&& 2147483647).toInt = ((d_nx z &&& 2147483647).toBitVec).toInt := rfl
    have h3 : ((d_nx z &&& 2147483647).toBitVec).msb = false := by
      show ((d_nx z).toBitVec &&& 2147483647#32).msb = false
      rw [BitVec.msb_and]
      simp only [show (2147483647#32).msb = false by decide, Bool.and_false]
    rw [h2, BitVec.toInt_eq_toNat_of_msb h3] at h1
    have h4 : (0 : Int32).toInt = 0 := by decide
    omega
  unfold d_of rm32
  rw [hv]
  have e1 : nI v / 256 = nI (v / 256) := by
    apply Int32.toInt_inj.mp
    rw [Int32.toInt_div_of_ne_right _ _ (by decide), nI_toInt hv1, nI_toInt (by omega)]
    have : (256 : Int32).toInt = 256 := by decide
    rw [this]
    exact (Int.ofNat_tdiv v 256).symm
  have e2 : nI (v / 256) / nI m = nI (v / 256 / m) := by
    apply Int32.toInt_inj.mp
    rw [Int32.toInt_div_of_ne_right _ _ (by
      rcases (show m = 1 ∨ m = 2 ∨ m = 3 ∨ m = 4 ∨ m = 5 by omega) with rfl | rfl | rfl | rfl | rfl <;> decide), nI_toInt (by omega), nI_toInt (by omega), nI_toInt (by
      have := Nat.div_le_self (v / 256) m
      omega)]
    exact (Int.ofNat_tdiv (v / 256) m).symm
  rw [e1, e2]
  refine ⟨v / 256 % m, Nat.mod_lt _ h, ?_⟩
  have h5 : v / 256 = v / 256 / m * m + v / 256 % m := by
    have := Nat.div_add_mod (v / 256) m
    rw [Nat.mul_comm] at this
    omega
  have h6 : nI (v / 256) = nI (v / 256 / m) * nI m + nI (v / 256 % m) := by
    conv => lhs; rw [h5]
    rw [← nI_add]
    congr 1
    unfold nI
    rw [Int32.ofNat_mul]
  rw [h6, Int32.add_comm, Int32.add_sub_cancel]
theorem ok_lot {S : WS} (hS : Ok S) (hp : 0 < s_pe S) (z : Int32) : ∀ i, i ≤ s_th S → Ok (w_lot S z i).1
  | 0, _ => hS
  | i + 1, hi => by
    have h1 := ok_lot hS hp z i (by omega)
    have h2 := th_lot S z i
    refine ok_fall (ok_who h1 i ?_) (show i < s_th (w_lot S z i).1 by omega)
    rw [pe_lot S z i]
    exact d_of_in _ hp hS.pe
def w_lots (S : WS) (z : Int32) : Nat → Int32 × Int32 × Int32
  | 0 => (z, 0, 0)
  | j + 1 => ((w_lot S (k_s (w_lots S z j)) (s_th S)).2, k_w (w_lots S z j) + nI (w_wet (w_lot S (k_s (w_lots S z j)) (s_th S)).1 15), k_a (w_lots S z j) + (sumf (s_an (w_dayN (w_lot S (k_s (w_lots S z j)) (s_th S)).1 15)) (s_pe (w_dayN (w_lot S (k_s (w_lots S z j)) (s_th S)).1 15)) - sumf (s_an (w_lot S (k_s (w_lots S z j)) (s_th S)).1) (s_pe (w_lot S (k_s (w_lots S z j)) (s_th S)).1)))
