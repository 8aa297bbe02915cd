/-- the rest of the model: refused, isCold, tape, letter, letterAt, told, taped, at, statements, kept, hasImage, isKeeping, cursor, longestRun, gets, row, rowMany -/
abbrev MS : Type := FN × Bool × FN × FN × FN × FN × Nat × Nat × Nat × FN × Bool × Bool × Nat × Int32 × FN × FN × Nat
abbrev m_rf (M : MS) : FN := M.1
abbrev m_co (M : MS) : Bool := M.2.1
abbrev m_tx (M : MS) : FN := M.2.2.1
abbrev m_lt (M : MS) : FN := M.2.2.2.1
abbrev m_la (M : MS) : FN := M.2.2.2.2.1
abbrev m_to (M : MS) : FN := M.2.2.2.2.2.1
abbrev m_tn (M : MS) : Nat := M.2.2.2.2.2.2.1
abbrev m_at (M : MS) : Nat := M.2.2.2.2.2.2.2.1
abbrev m_st (M : MS) : Nat := M.2.2.2.2.2.2.2.2.1
abbrev m_kp (M : MS) : FN := M.2.2.2.2.2.2.2.2.2.1
abbrev m_hi (M : MS) : Bool := M.2.2.2.2.2.2.2.2.2.2.1
abbrev m_kg (M : MS) : Bool := M.2.2.2.2.2.2.2.2.2.2.2.1
abbrev m_cu (M : MS) : Nat := M.2.2.2.2.2.2.2.2.2.2.2.2.1
abbrev m_lr (M : MS) : Int32 := M.2.2.2.2.2.2.2.2.2.2.2.2.2.1
abbrev m_ge (M : MS) : FN := M.2.2.2.2.2.2.2.2.2.2.2.2.2.2.1
abbrev m_rw (M : MS) : FN := M.2.2.2.2.2.2.2.2.2.2.2.2.2.2.2.1
abbrev m_rn (M : MS) : Nat := M.2.2.2.2.2.2.2.2.2.2.2.2.2.2.2.2
def ml (m : Nat → Nat) (cI : ClassId) (S : WS) (M : MS) : va_W := [(m 0, .inr (7, [.ref (m 1), .ref (m 2), .ref (m 3), .ref (m 4), .ref (m 5), .ref (m 6), .ref (m 7), .ref (m 8), .ref (m 9), .int (nI (s_pe S)), .int (nI (s_th S)), .int (s_da S), .int (s_dr S), .int (b2i (m_co M)), .ref (m 10), .ref (m 11), .ref (m 12), .ref (m 13), .int (nI (m_tn M)), .int (nI (m_at M)), .int (nI (m_st M)), .ref (m 14), .int (b2i (m_hi M)), .int (b2i (m_kg M)), .int (nI (m_cu M)), .int (m_lr M), .ref (m 15), .ref (m 16), .int (nI (m_rn M))])),
  (m 1, .inl (cI, 7, .inl (m_rf M))), (m 2, .inl (cI, 5, .inl (s_kn S))), (m 3, .inl (cI, 5, .inl (s_sh S))), (m 4, .inl (cI, 5, .inl (s_an S))), (m 5, .inl (cI, 9, .inl (s_ki S))), (m 6, .inl (cI, 9, .inl (s_we S))), (m 7, .inl (cI, 9, .inl (s_dp S))), (m 8, .inl (cI, 9, .inl (s_wa S))), (m 9, .inl (cI, 9, .inl (s_le S))),
  (m 10, .inl (cI, 96, .inl (m_tx M))), (m 11, .inl (cI, 48, .inl (m_lt M))), (m 12, .inl (cI, 48, .inl (m_la M))), (m 13, .inl (cI, 144, .inl (m_to M))), (m 14, .inl (cI, 192, .inl (m_kp M))), (m 15, .inl (cI, 8, .inl (m_ge M))), (m 16, .inl (cI, 16, .inl (m_rw M)))]
theorem ml_fst (m : Nat → Nat) (cI : ClassId) (S T : WS) (M N : MS) : (ml m cI S M).map Prod.fst = (ml m cI T N).map Prod.fst := rfl
def m_no (M : MS) (j : Nat) : MS := (upd (m_rf M) j (m_rf M j + 1), m_co M, m_tx M, m_lt M, m_la M, m_to M, m_tn M, m_at M, m_st M, m_kp M, m_hi M, m_kg M, m_cu M, m_lr M, m_ge M, m_rw M, m_rn M)
def z_bt (v lo hi : Int32) : Bool := !decide (v < lo) && !decide (hi < v)
def m_bits (v : Int32) : Nat → Int32
  | 0 => 0
  | k + 1 => m_bits v k + ((v >>> (nI k &&& 31)) &&& 1)
theorem top_b {k w : Int32} : t_of k w = if k = 5 then 0 else if k = 2 ∨ k = 3 then 7 - rm32 w 8 else rm32 w 8 := by
  unfold t_of
  by_cases h1 : k = 5
  · subst h1; simp
  · simp [h1]
theorem one_shl_ne : ∀ k : Fin 9, (1 : Int32) <<< (nI k.val &&& 31) ≠ 0 := by decide
theorem or_ne0 {a b : Int32} (h : b ≠ 0) : a ||| b ≠ 0 := fun e => h (by
  have h1 := congrArg Int32.toBitVec e
  rw [Int32.toBitVec_or] at h1
  have h2 : a.toBitVec ||| b.toBitVec = 0#32 := h1
  apply Int32.toBitVec_inj.mp
  show b.toBitVec = 0#32
  apply BitVec.eq_of_getLsbD_eq
  intro i hi
  have h3 := congrArg (fun v => v.getLsbD i) h2
  simp only [BitVec.getLsbD_or, BitVec.getLsbD_zero, Bool.or_eq_false_iff] at h3
  simp [h3.2])
theorem or_ne0l {a b : Int32} (h : a ≠ 0) : a ||| b ≠ 0 := by rw [Int32.or_comm]; exact or_ne0 h
theorem askb_0 (S : WS) : ∀ k, k ≤ 9 → (askb S k = 0 ↔ allb (fun i => !ask S i) k = true)
  | 0, _ => by simp [askb, allb]
  | k + 1, hk => by
    have ih := askb_0 S k (by omega)
    simp only [askb, allb, Bool.and_eq_true, Bool.not_eq_true']
    by_cases h : ask S k = true
    · simp only [h, if_true]
      constructor
      · intro e; exact absurd e (or_ne0 (one_shl_ne ⟨k, by omega⟩))
      · intro e; exact absurd e.2 (by decide)
    · have h2 : ask S k = false := by simpa using h
      simp [h2, ih]
theorem wat_askb (S : WS) (h : s_th S ≤ 9) : w_wat S = decide (askb S (s_th S) = 0) := by
  unfold w_wat
  have := askb_0 S (s_th S) h
  by_cases h1 : askb S (s_th S) = 0
  · rw [this.mp h1]; simp [h1]
  · have h2 : ¬ allb (fun i => !ask S i) (s_th S) = true := fun e => h1 (this.mpr e)
    simp [h1, h2]
