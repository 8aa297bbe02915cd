-- what the class answers and what the model answers: the same numbers
theorem fi_congr {P Q : Nat → Bool} : ∀ {n : Nat}, (∀ k, k < n → P k = Q k) → fi P n = fi Q n
  | 0, _ => rfl
  | n + 1, h => by
    unfold fi
    rw [fi_congr (fun k hk => h k (by omega)), h n (by omega)]
theorem bix_congr {P : Nat → Bool} {f g : Nat → Nat → Bool} : ∀ {n : Nat}, (∀ i j, i < n → j < n → f i j = g i j) → bix P f n = bix P g n
  | 0, _ => rfl
  | n + 1, h => by
    unfold bix
    rw [bix_congr (fun i j hi hj => h i j (by omega) (by omega))]
    cases hb : bix P g n with
    | none => rfl
    | some j =>
      have := bix_lt hb
      simp only [h j n (by omega) (by omega)]
theorem q_first0 (S : WS) : fi (fun d => w_wat (w_dayN S d) == false) 100 = fi (fun d => w_isf (w_dayN S d) 0) 100 := fi_congr (fun k _ => by
  simp only [w_isf, if_true]
  cases w_wat (w_dayN S k) <;> rfl)
theorem q_first1 (S : WS) : fi (fun d => w_wat (w_dayN S d) == true) 100 = fi (fun d => w_isf (w_dayN S d) 1) 100 := fi_congr (fun k _ => by
  simp only [w_isf, show ¬ (1 : Nat) = 0 by decide, if_false, if_true]
  cases w_wat (w_dayN S k) <;> rfl)
theorem q_first2 (S : WS) : fi (fun d => decide (sumf (s_le (w_dayN S d)) (s_th (w_dayN S d)) = 0)) 100 = fi (fun d => w_isf (w_dayN S d) 2) 100 := fi_congr (fun k _ => by
  simp only [w_isf, show ¬ (2 : Nat) = 0 by decide, show ¬ (2 : Nat) = 1 by decide, if_false])
theorem m1_nI {j : Nat} (h : j < 2 ^ 31) : (-1 : Int32) < nI j := by
  rw [Int32.lt_iff_toInt_lt, nI_toInt h]
  have : (-1 : Int32).toInt = -1 := by decide
  omega
def b2p (f : Nat → Int32) (z : Int32 × Int32) : Option Nat → Int32 × Int32
  | none => z
  | some j => (nI j, f j)
theorem bmax_bix {P : Nat → Bool} {f : Nat → Int32} {z : Int32 × Int32} : ∀ {n : Nat}, (∀ k, k < n → P k = true → z.2 < f k) → bmax P f z n = b2p f z (bix P (fun i j => decide (f i < f j)) n)
  | 0, _ => rfl
  | n + 1, h => by
    have ih := bmax_bix (P := P) (f := f) (z := z) (n := n) (fun k hk => h k (by omega))
    unfold bmax bix
    rw [ih]
    cases hb : bix P (fun i j => decide (f i < f j)) n with
    | none =>
      show (if P n = true ∧ z.2 < f n then (nI n, f n) else z) = b2p f z (if P n = true then some n else none)
      by_cases hp : P n = true
      · rw [if_pos ⟨hp, h n (by omega) hp⟩, if_pos hp]; rfl
      · rw [if_neg (fun q => hp q.1), if_neg hp]; rfl
    | some j =>
      show (if P n = true ∧ f j < f n then (nI n, f n) else (nI j, f j)) = b2p f z (if P n = true then (if decide (f j < f n) = true then some n else some j) else some j)
      by_cases hp : P n = true
      · by_cases hl : f j < f n
        · rw [if_pos ⟨hp, hl⟩, if_pos hp, if_pos (decide_eq_true hl)]; rfl
        · rw [if_neg (fun q => hl q.2), if_pos hp, if_neg (fun q => hl (of_decide_eq_true q))]; rfl
      · rw [if_neg (fun q => hp q.1), if_neg hp]; rfl
theorem b2p_1 (f : Nat → Int32) (y : Int32) (o : Option Nat) : (b2p f (-9, y) o).1 = o2i o := by cases o <;> rfl
theorem bmin_bix {f : Nat → Nat} {n : Nat} (hn : n < 2 ^ 30) (hf : ∀ k, f k ≤ n) : ∀ m : Nat, bmin (fun p => nI (f p)) (-9, nI (n + 1)) m = b2p (fun p => nI (f p)) (-9, nI (n + 1)) (bix yes (fun i j => decide (f j < f i)) m)
  | 0 => rfl
  | m + 1 => by
    have ih := bmin_bix (f := f) hn hf m
    have h1 := hf m
    unfold bmin bix
    rw [ih]
    cases hb : bix yes (fun i j => decide (f j < f i)) m with
    | none =>
      show (if nI (f m) < nI (n + 1) then (nI m, nI (f m)) else (-9, nI (n + 1))) = b2p (fun p => nI (f p)) (-9, nI (n + 1)) (if true = true then some m else none)
      rw [if_pos (nI_lt (by omega) (by omega)), if_pos rfl]; rfl
    | some j =>
      have h2 := hf j
      show (if nI (f m) < nI (f j) then (nI m, nI (f m)) else (nI j, nI (f j))) = b2p (fun p => nI (f p)) (-9, nI (n + 1)) (if true = true then (if decide (f m < f j) = true then some m else some j) else some j)
      by_cases hl : f m < f j
      · rw [if_pos (nI_lt hl (by omega)), if_pos rfl, if_pos (decide_eq_true hl)]; rfl
      · rw [if_neg (nI_nlt (by omega) (by omega)), if_pos rfl, if_neg (fun q => hl (of_decide_eq_true q))]; rfl
theorem q_drop {f : Nat → Nat} {n : Nat} (hn : n < 2 ^ 30) (hf : ∀ k, f k ≤ n) (m : Nat) : (bmin (fun p => nI (f p)) (-9, nI (n + 1)) m).1 = o2i (bix yes (fun i j => decide (f j < f i)) m) := by
  rw [bmin_bix hn hf, b2p_1]
theorem q_drop2 {f : Nat → Nat} {n : Nat} (hn : n < 2 ^ 30) (hf : ∀ k, f k ≤ n) {m : Nat} (hm : 0 < m) : (bmin (fun p => nI (f p)) (-9, nI (n + 1)) m).2 = obv f (bix yes (fun i j => decide (f j < f i)) m) := by
  rw [bmin_bix hn hf]
  cases hb : bix yes (fun i j => decide (f j < f i)) m with
  | none =>
    exfalso
    cases m with
    | zero => omega
    | succ k =>
      unfold bix at hb
      simp only [yes, if_true] at hb
      cases h2 : bix yes (fun i j => decide (f j < f i)) k with
      | none => rw [h2] at hb; cases hb
      | some j =>
        rw [h2] at hb
        dsimp only at hb
        split at hb <;> cases hb
  | some j => rfl
theorem qs_nat {S : WS} (hS : Ok S) (p : Int32) : ∀ k, k ≤ s_th S → ∃ c, c ≤ 4 * k ∧ w_qs S p k = nI c
  | 0, _ => ⟨0, by omega, rfl⟩
  | k + 1, hk => by
    obtain ⟨c, hc, e⟩ := qs_nat hS p k (by omega)
    unfold w_qs
    split
    · obtain ⟨j, hj, e2⟩ := hS.le (show k < s_th S by omega)
      exact ⟨c + j, by omega, by rw [e, e2, nI_add]⟩
    · exact ⟨c, by omega, e⟩
theorem q_busiest {S : WS} (hS : Ok S) : (bmax yes (fun p => w_qs S (nI p) (s_th S)) (-9, -1) (s_pe S)).1 = o2i (bix yes (fun i j => decide (w_qs S (nI i) (s_th S) < w_qs S (nI j) (s_th S))) (s_pe S)) := by
  have hth := hS.th
  rw [bmax_bix (fun k _ _ => by
    obtain ⟨c, hc, e⟩ := qs_nat hS (nI k) (s_th S) (Nat.le_refl _)
    show (-1 : Int32) < w_qs S (nI k) (s_th S)
    rw [e]
    exact m1_nI (by omega)), b2p_1]
theorem q_hardest {S : WS} (hS : Ok S) : (bmax yes (fun i => n_of (s_ki S i) (s_we S i)) (-9, -1) (s_th S)).1 = o2i (bix yes (fun i j => decide (n_of (s_ki S i) (s_we S i) < n_of (s_ki S j) (s_we S j))) (s_th S)) := by
  rw [bmax_bix (fun k hk _ => by
    obtain ⟨c, hc, e⟩ := n_of_ok (k := s_ki S k) (hS.we hk)
    show (-1 : Int32) < n_of (s_ki S k) (s_we S k)
    rw [e]
    exact m1_nI (by omega)), b2p_1]
theorem q_knower {S : WS} (hS : Ok S) (t : Nat) : (bmax (fun p => hasb (s_kn S p) (nI t)) (s_an S) (-9, -1) (s_pe S)).1 = o2i (bix (fun p => hasb (s_kn S p) (nI t)) (fun i j => decide (s_an S i < s_an S j)) (s_pe S)) := by
  rw [bmax_bix (fun k hk _ => by
    obtain ⟨c, hc, e⟩ := hS.an hk
    show (-1 : Int32) < s_an S k
    rw [e]
    exact m1_nI (by omega)), b2p_1]
theorem late_q {S : WS} {i : Nat} (hi : i < s_th S) : ∃ a b : Nat, a ≤ 100 ∧ b ≤ 1000 ∧ w_q0 S 100 i = nI a ∧ w_late S i = nI b ∧ (b = a ∨ (a = 100 ∧ b = 1000)) ∧ (a < 100 ∨ a = 100 ∧ b = 1000) := by
  unfold w_q0
  rw [if_pos hi]
  unfold w_qd w_late
  cases h : fi (w_qz S i) 100 with
  | none => exact ⟨100, 1000, by omega, by omega, rfl, rfl, Or.inr ⟨rfl, rfl⟩, Or.inr ⟨rfl, rfl⟩⟩
  | some e =>
    have h1 := (fi_some h).1
    refine ⟨e, e, by omega, by omega, rfl, ?_, Or.inl rfl, Or.inl h1⟩
    show (if nI e < 0 then _ else nI e) = nI e
    rw [if_neg (nI_pos (by omega))]
theorem q_first3 (S : WS) : (bmax (ask S) (w_q0 S 100) (-9, -1) (s_th S)).1 = o2i (bix (ask S) (fun i j => decide (w_late S i < w_late S j)) (s_th S)) := by
  rw [bmax_bix (fun k hk _ => by
    obtain ⟨a, b, h1, h2, h3, -⟩ := late_q hk
    show (-1 : Int32) < w_q0 S 100 k
    rw [h3]
    exact m1_nI (by omega)), b2p_1]
  rw [bix_congr (f := fun i j => decide (w_q0 S 100 i < w_q0 S 100 j)) (g := fun i j => decide (w_late S i < w_late S j)) (fun i j hi hj => by
    obtain ⟨a, b, h1, h2, h3, h4, h5, h6⟩ := late_q hi
    obtain ⟨c, d, g1, g2, g3, g4, g5, g6⟩ := late_q hj
    show decide (w_q0 S 100 i < w_q0 S 100 j) = decide (w_late S i < w_late S j)
    rw [h3, h4, g3, g4]
    apply decide_eq_decide.mpr
    rw [nI_ltI (by omega) (by omega), nI_ltI (by omega) (by omega)]
    omega)]
-- bits
theorem bc_256 : ∀ v : Fin 512, bc (nI v.val) = m_bits (nI v.val) 31 := by decide +kernel
theorem or_512 : ∀ (a : Fin 512) (k : Fin 9), nI a.val ||| ((1 : Int32) <<< (nI k.val &&& 31)) = nI (a.val ||| 2 ^ k.val) := by
  intro a k
  have : ∀ n : Nat, n < 2 ^ 31 → ∀ m : Nat, m < 2 ^ 31 → nI n ||| nI m = nI (n ||| m) := by
    intro n hn m hm
    apply Int32.toBitVec_inj.mp
    show (BitVec.ofNat 32 n) ||| (BitVec.ofNat 32 m) = BitVec.ofNat 32 (n ||| m)
    exact (BitVec.ofNat_or).symm
  have e : ∀ k : Fin 9, (1 : Int32) <<< (nI k.val &&& 31) = nI (2 ^ k.val) := by decide
  have hk : ∀ k : Fin 9, 2 ^ k.val < 2 ^ 31 := by decide
  rw [e k]
  exact this _ (by omega) _ (hk k)
