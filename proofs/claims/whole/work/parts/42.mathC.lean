-- two alike
theorem al1_add (S : WS) (i z : Nat) : ∀ n, w_al1 S i z n = z + w_al1 S i 0 n
  | 0 => by simp [w_al1]
  | n + 1 => by
    have ih := al1_add S i z n
    unfold w_al1
    split <;> omega
theorem mal1_cnt (S : WS) {r : Nat} (z : Nat × Int32) : ∀ j, j + r + 1 ≤ s_th S → w_al1 S r 0 (s_th S - j) + (m_al1 S r z j).1 = z.1 + w_al1 S r 0 (s_th S)
  | 0, _ => by
    show w_al1 S r 0 (s_th S - 0) + z.1 = _
    rw [Nat.sub_zero]
    omega
  | j + 1, h => by
    have ih := mal1_cnt S (r := r) z j (by omega)
    obtain ⟨e, he⟩ : ∃ e, s_th S - j = e + 1 := ⟨s_th S - j - 1, by omega⟩
    have he2 : s_th S - (j + 1) = e := by omega
    have he3 : s_th S - 1 - j = e := by omega
    rw [he] at ih
    rw [he2]
    have hre : r < e := by omega
    unfold m_al1
    have e1 : w_al1 S r 0 (e + 1) = if w_p2 S r e then w_al1 S r 0 e + 1 else w_al1 S r 0 e := rfl
    rw [e1] at ih
    rw [he3]
    by_cases ht : top S r = top S e
    · have hp : w_p2 S r e = true := by simp [w_p2, hre, ht]
      rw [if_pos hp] at ih
      rw [if_pos ht]
      show w_al1 S r 0 e + ((m_al1 S r z j).1 + 1) = z.1 + w_al1 S r 0 (s_th S)
      omega
    · have hp : ¬ w_p2 S r e = true := by simp [w_p2, ht]
      rw [if_neg hp] at ih
      rw [if_neg ht]
      exact ih
theorem mal_cnt (S : WS) : ∀ k, k ≤ s_th S → w_al S (s_th S - k) + (m_al S k).1 = w_al S (s_th S)
  | 0, _ => by
    show w_al S (s_th S - 0) + 0 = _
    rw [Nat.sub_zero]
    omega
  | k + 1, h => by
    have ih := mal_cnt S k (by omega)
    obtain ⟨r, hr⟩ : ∃ r, s_th S - k = r + 1 := ⟨s_th S - k - 1, by omega⟩
    have hr2 : s_th S - (k + 1) = r := by omega
    have hr3 : s_th S - 1 - k = r := by omega
    rw [hr] at ih
    rw [hr2]
    have h1 := mal1_cnt S (r := r) (m_al S k) k (by omega)
    rw [hr, w_al1_0 S r 0 (r + 1) (Nat.le_refl _)] at h1
    unfold m_al
    rw [hr3]
    have e1 : w_al S (r + 1) = w_al1 S r (w_al S r) (s_th S) := rfl
    rw [e1, al1_add] at ih
    omega
theorem q_alike0 (S : WS) : w_al S (s_th S) = (m_al S (s_th S)).1 := by
  have h := mal_cnt S (s_th S) (Nat.le_refl _)
  rw [Nat.sub_self] at h
  have h0 : w_al S 0 = 0 := rfl
  omega
def al_f (S : WS) (r : Nat) (z : Int32) : Option Nat → Int32
  | none => z
  | some b => 10 * nI r + nI b
theorem mal1_f (S : WS) {r : Nat} (z : Nat × Int32) : ∀ j, j + r + 1 ≤ s_th S → (m_al1 S r z j).2 = al_f S r z.2 (fi (fun b => decide (s_th S - j ≤ b) && w_p2 S r b) (s_th S))
  | 0, _ => by
    rw [fi_none (P := fun b => decide (s_th S - 0 ≤ b) && w_p2 S r b) (fun b hb => by simp [show ¬ s_th S ≤ b by omega])]
    rfl
  | j + 1, h => by
    have ih := mal1_f S (r := r) z j (by omega)
    obtain ⟨e, he⟩ : ∃ e, s_th S - j = e + 1 := ⟨s_th S - j - 1, by omega⟩
    have he2 : s_th S - (j + 1) = e := by omega
    have he3 : s_th S - 1 - j = e := by omega
    have hre : r < e := by omega
    rw [he] at ih
    rw [he2]
    unfold m_al1
    rw [he3]
    by_cases ht : top S r = top S e
    · have hp : w_p2 S r e = true := by simp [w_p2, hre, ht]
      rw [if_pos ht, fi_hit (P := fun b => decide (e ≤ b) && w_p2 S r b) (k := e) (fun b hb => by simp [show ¬ e ≤ b by omega]) (by simp [hp]) (show e < s_th S by omega)]
      rfl
    · have hp : w_p2 S r e = false := by simp [w_p2, ht]
      rw [if_neg ht, ih]
      congr 1
      refine fi_congr (fun b _ => ?_)
      by_cases hb : b = e
      · rw [hb, hp]; simp
      · have : decide (e + 1 ≤ b) = decide (e ≤ b) := decide_eq_decide.mpr (by omega)
        rw [this]
def al_g (S : WS) : Option Nat → Int32
  | none => -9
  | some i => al_f S i (-9) (w_f2 S i)
theorem mal_f (S : WS) : ∀ k, k ≤ s_th S → (m_al S k).2 = al_g S (fi (fun i => decide (s_th S - k ≤ i) && (w_f2 S i).isSome) (s_th S))
  | 0, _ => by
    rw [fi_none (P := fun i => decide (s_th S - 0 ≤ i) && (w_f2 S i).isSome) (fun b hb => by simp [show ¬ s_th S ≤ b by omega])]
    rfl
  | k + 1, h => by
    have ih := mal_f S k (by omega)
    obtain ⟨r, hr⟩ : ∃ r, s_th S - k = r + 1 := ⟨s_th S - k - 1, by omega⟩
    have hr2 : s_th S - (k + 1) = r := by omega
    have hr3 : s_th S - 1 - k = r := by omega
    have h1 := mal1_f S (r := r) (m_al S k) k (by omega)
    rw [hr] at ih h1
    rw [hr2]
    unfold m_al
    rw [hr3, h1]
    have e1 : fi (fun b => decide (r + 1 ≤ b) && w_p2 S r b) (s_th S) = w_f2 S r := by
      unfold w_f2
      refine fi_congr (fun b _ => ?_)
      by_cases hb : r < b
      · simp [show r + 1 ≤ b by omega]
      · simp [show ¬ r + 1 ≤ b by omega, w_p2, hb]
    rw [e1]
    cases h2 : w_f2 S r with
    | some b =>
      rw [fi_hit (P := fun i => decide (r ≤ i) && (w_f2 S i).isSome) (k := r) (fun i hi => by simp [show ¬ r ≤ i by omega]) (by simp [h2]) (show r < s_th S by omega)]
      show _ = al_f S r (-9) (w_f2 S r)
      rw [h2]
      rfl
    | none =>
      show (m_al S k).2 = _
      rw [ih]
      congr 1
      refine fi_congr (fun i _ => ?_)
      by_cases hb : i = r
      · rw [hb, h2]; simp
      · have : decide (r + 1 ≤ i) = decide (r ≤ i) := decide_eq_decide.mpr (by omega)
        rw [this]
theorem q_alike1 (S : WS) : w_ft S = (m_al S (s_th S)).2 := by
  rw [mal_f S (s_th S) (Nat.le_refl _), Nat.sub_self]
  have e : fi (fun i => decide (0 ≤ i) && (w_f2 S i).isSome) (s_th S) = fi (fun i => (w_f2 S i).isSome) (s_th S) := fi_congr (fun i _ => by simp)
  rw [e]
  unfold w_ft
  cases h : fi (fun i => (w_f2 S i).isSome) (s_th S) with
  | none => rfl
  | some i =>
    show _ = al_f S i (-9) (w_f2 S i)
    cases h2 : w_f2 S i <;> simp [h2, al_f]
