/-- the rest of the model: refused, isCold, tape, letter, letterAt, told, taped, at, statements, kept, hasImage, isKeeping, cursor, longestRun, gets, row, rowMany -/
abbrev MS : Type := FN × Bool × FN × FN × FN × FN × Nat × Nat × Nat × FN × Bool × Bool × Nat × Int32 × FN × FN × Nat
abbrev m_rf (M : MS) : FN := M.1
abbrev m_co (M : MS) : Bool := M.2.1
abbrev m_tx (M : MS) : FN := M.2.2.1
abbrev m_lt (M : MS) : FN := M.2.2.2.1
abbrev m_la (M : MS) : FN := M.2.2.2.2.1
abbrev m_to (M : MS) : FN := M.2.2.2.2.2.1
abbrev m_tn (M : MS) : Nat := M.2.2.2.2.2.2.1
abbrev m_at (M : MS) : Nat := M.2.2.2.2.2.2.2.1
abbrev m_st (M : MS) : Nat := M.2.2.2.2.2.2.2.2.1
abbrev m_kp (M : MS) : FN := M.2.2.2.2.2.2.2.2.2.1
abbrev m_hi (M : MS) : Bool := M.2.2.2.2.2.2.2.2.2.2.1
abbrev m_kg (M : MS) : Bool := M.2.2.2.2.2.2.2.2.2.2.2.1
abbrev m_cu (M : MS) : Nat := M.2.2.2.2.2.2.2.2.2.2.2.2.1
abbrev m_lr (M : MS) : Int32 := M.2.2.2.2.2.2.2.2.2.2.2.2.2.1
abbrev m_ge (M : MS) : FN := M.2.2.2.2.2.2.2.2.2.2.2.2.2.2.1
abbrev m_rw (M : MS) : FN := M.2.2.2.2.2.2.2.2.2.2.2.2.2.2.2.1
abbrev m_rn (M : MS) : Nat := M.2.2.2.2.2.2.2.2.2.2.2.2.2.2.2.2
def ml (m : Nat → Nat) (cI : ClassId) (S : WS) (M : MS) : va_W := [(m 0, .inr (7, [.ref (m 1), .ref (m 2), .ref (m 3), .ref (m 4), .ref (m 5), .ref (m 6), .ref (m 7), .ref (m 8), .ref (m 9), .int (nI (s_pe S)), .int (nI (s_th S)), .int (s_da S), .int (s_dr S), .int (b2i (m_co M)), .ref (m 10), .ref (m 11), .ref (m 12), .ref (m 13), .int (nI (m_tn M)), .int (nI (m_at M)), .int (nI (m_st M)), .ref (m 14), .int (b2i (m_hi M)), .int (b2i (m_kg M)), .int (nI (m_cu M)), .int (m_lr M), .ref (m 15), .ref (m 16), .int (nI (m_rn M))])),
  (m 1, .inl (cI, 7, .inl (m_rf M))), (m 2, .inl (cI, 5, .inl (s_kn S))), (m 3, .inl (cI, 5, .inl (s_sh S))), (m 4, .inl (cI, 5, .inl (s_an S))), (m 5, .inl (cI, 9, .inl (s_ki S))), (m 6, .inl (cI, 9, .inl (s_we S))), (m 7, .inl (cI, 9, .inl (s_dp S))), (m 8, .inl (cI, 9, .inl (s_wa S))), (m 9, .inl (cI, 9, .inl (s_le S))),
  (m 10, .inl (cI, 96, .inl (m_tx M))), (m 11, .inl (cI, 48, .inl (m_lt M))), (m 12, .inl (cI, 48, .inl (m_la M))), (m 13, .inl (cI, 144, .inl (m_to M))), (m 14, .inl (cI, 192, .inl (m_kp M))), (m 15, .inl (cI, 8, .inl (m_ge M))), (m 16, .inl (cI, 16, .inl (m_rw M)))]
theorem ml_fst (m : Nat → Nat) (cI : ClassId) (S T : WS) (M N : MS) : (ml m cI S M).map Prod.fst = (ml m cI T N).map Prod.fst := rfl
def m_no (M : MS) (j : Nat) : MS := (upd (m_rf M) j (m_rf M j + 1), m_co M, m_tx M, m_lt M, m_la M, m_to M, m_tn M, m_at M, m_st M, m_kp M, m_hi M, m_kg M, m_cu M, m_lr M, m_ge M, m_rw M, m_rn M)
def z_bt (v lo hi : Int32) : Bool := !decide (v < lo) && !decide (hi < v)
def m_bits (v : Int32) : Nat → Int32
  | 0 => 0
  | k + 1 => m_bits v k + ((v >>> (nI k &&& 31)) &&& 1)
theorem top_b {k w : Int32} : t_of k w = if k = 5 then 0 else if k = 2 ∨ k = 3 then 7 - rm32 w 8 else rm32 w 8 := by
  unfold t_of
  by_cases h1 : k = 5
  · subst h1; simp
  · simp [h1]
theorem one_shl_ne : ∀ k : Fin 9, (1 : Int32) <<< (nI k.val &&& 31) ≠ 0 := by decide
theorem or_ne0 {a b : Int32} (h : b ≠ 0) : a ||| b ≠ 0 := fun e => h (by
  have h1 := congrArg Int32.toBitVec e
  rw [Int32.toBitVec_or] at h1
  have h2 : a.toBitVec ||| b.toBitVec = 0#32 := h1
  apply Int32.toBitVec_inj.mp
  show b.toBitVec = 0#32
  apply BitVec.eq_of_getLsbD_eq
  intro i hi
  have h3 := congrArg (fun v => v.getLsbD i) h2
  simp only [BitVec.getLsbD_or, BitVec.getLsbD_zero, Bool.or_eq_false_iff] at h3
  simp [h3.2])
theorem or_ne0l {a b : Int32} (h : a ≠ 0) : a ||| b ≠ 0 := by rw [Int32.or_comm]; exact or_ne0 h
theorem askb_0 (S : WS) : ∀ k, k ≤ 9 → (askb S k = 0 ↔ allb (fun i => !ask S i) k = true)
  | 0, _ => by simp [askb, allb]
  | k + 1, hk => by
    have ih := askb_0 S k (by omega)
    simp only [askb, allb, Bool.and_eq_true, Bool.not_eq_true']
    by_cases h : ask S k = true
    · simp only [h, if_true]
      constructor
      · intro e; exact absurd e (or_ne0 (one_shl_ne ⟨k, by omega⟩))
      · intro e; exact absurd e.2 (by decide)
    · have h2 : ask S k = false := by simpa using h
      simp [h2, ih]
theorem wat_askb (S : WS) (h : s_th S ≤ 9) : w_wat S = decide (askb S (s_th S) = 0) := by
  unfold w_wat
  have := askb_0 S (s_th S) h
  by_cases h1 : askb S (s_th S) = 0
  · rw [this.mp h1]; simp [h1]
  · have h2 : ¬ allb (fun i => !ask S i) (s_th S) = true := fun e => h1 (this.mpr e)
    simp [h1, h2]
def w_anD (S : WS) (p : Nat) : WS := if rm32 (s_da S) (s_sh S p + 1) = 0 then w_ansL S p else S
theorem can_kno {S : WS} {p k : Nat} (h : s_dp S k = nI p) (hp : p < 2 ^ 31) : w_can S p k = (ask S k && w_kno S k) := by
  simp [w_can, w_kno, h, nI_clamp hp]
theorem can_no {S : WS} {p k : Nat} (h : ¬ s_dp S k = nI p) : w_can S p k = false := by simp [w_can, h]
theorem can_na {S : WS} {p k : Nat} (h : ask S k = false) : w_can S p k = false := by simp [w_can, h]
/-- f's first n put into kp from c on -/
def cpk (kp : FN) (c : Nat) (f : FN) (n : Nat) : FN := fun j => if c ≤ j ∧ j < c + n then f (j - c) else kp j
theorem cpk_0 (kp : FN) (c : Nat) (f : FN) : cpk kp c f 0 = kp := by
  funext j
  simp only [cpk]
  rw [if_neg (by omega)]
theorem cpk_1 (kp : FN) (c : Nat) (f : FN) (k : Nat) : cpk kp c f (k + 1) = upd (cpk kp c f k) (c + k) (f k) := by
  funext j
  simp only [cpk, upd]
  by_cases h : j = c + k
  · subst h
    rw [if_pos (by omega), if_pos rfl, Nat.add_sub_cancel_left]
  · rw [if_neg h]
    by_cases h2 : c ≤ j ∧ j < c + k
    · rw [if_pos h2, if_pos (by omega)]
    · rw [if_neg h2, if_neg (by omega)]
theorem cpk_in {kp : FN} {c : Nat} {f : FN} {n j : Nat} (h : j < n) : cpk kp c f n (c + j) = f j := by
  simp only [cpk]
  rw [if_pos (by omega), Nat.add_sub_cancel_left]
theorem cpk_out {kp : FN} {c : Nat} {f : FN} {n j : Nat} (h : j < c ∨ c + n ≤ j) : cpk kp c f n j = kp j := by
  simp only [cpk]
  rw [if_neg (by omega)]
def rsk (f kp : FN) (c k : Nat) : FN := fun j => if j < k then kp (c + j) else f j
theorem rsk_0 (f kp : FN) (c : Nat) : rsk f kp c 0 = f := by
  funext j
  simp [rsk]
theorem rsk_1 (f kp : FN) (c k : Nat) : rsk f kp c (k + 1) = upd (rsk f kp c k) k (kp (c + k)) := by
  funext j
  simp only [rsk, upd]
  by_cases h : j = k
  · subst h
    rw [if_pos (by omega), if_pos rfl]
  · rw [if_neg h]
    by_cases h2 : j < k
    · rw [if_pos h2, if_pos (by omega)]
    · rw [if_neg h2, if_neg (by omega)]
def m_set (M : MS) (c : Nat) (g : Bool) : MS := (m_rf M, m_co M, m_tx M, m_lt M, m_la M, m_to M, m_tn M, m_at M, m_st M, m_kp M, m_hi M, g, c, m_lr M, m_ge M, m_rw M, m_rn M)
def m_psk (M : MS) (f : FN) (n : Nat) : MS := (m_rf M, m_co M, m_tx M, m_lt M, m_la M, m_to M, m_tn M, m_at M, m_st M, cpk (m_kp M) (m_cu M) f n, m_hi M, m_kg M, m_cu M + n, m_lr M, m_ge M, m_rw M, m_rn M)
def m_ps1 (M : MS) (v : Int32) : MS := (m_rf M, m_co M, m_tx M, m_lt M, m_la M, m_to M, m_tn M, m_at M, m_st M, upd (m_kp M) (m_cu M) v, m_hi M, m_kg M, m_cu M + 1, m_lr M, m_ge M, m_rw M, m_rn M)
def m_adv (M : MS) (n : Nat) : MS := (m_rf M, m_co M, m_tx M, m_lt M, m_la M, m_to M, m_tn M, m_at M, m_st M, m_kp M, m_hi M, m_kg M, m_cu M + n, m_lr M, m_ge M, m_rw M, m_rn M)
def kpall (kp : FN) (b : Nat) (S : WS) : FN := upd (upd (upd (upd (cpk (cpk (cpk (cpk (cpk (cpk (cpk (cpk kp b (s_kn S) 5) (b + 5) (s_sh S) 5) (b + 10) (s_an S) 5) (b + 15) (s_ki S) 9) (b + 24) (s_we S) 9) (b + 33) (s_dp S) 9) (b + 42) (s_wa S) 9) (b + 51) (s_le S) 9) (b + 60) (nI (s_pe S))) (b + 61) (nI (s_th S))) (b + 62) (s_da S)) (b + 63) (s_dr S)
/-- S stands in kp from b on -/
def KP (kp : FN) (b : Nat) (S : WS) : Prop := (∀ j, j < 5 → kp (b + j) = s_kn S j) ∧ (∀ j, j < 5 → kp (b + 5 + j) = s_sh S j) ∧ (∀ j, j < 5 → kp (b + 10 + j) = s_an S j) ∧ (∀ j, j < 9 → kp (b + 15 + j) = s_ki S j) ∧ (∀ j, j < 9 → kp (b + 24 + j) = s_we S j) ∧ (∀ j, j < 9 → kp (b + 33 + j) = s_dp S j) ∧ (∀ j, j < 9 → kp (b + 42 + j) = s_wa S j) ∧ (∀ j, j < 9 → kp (b + 51 + j) = s_le S j) ∧ kp (b + 60) = nI (s_pe S) ∧ kp (b + 61) = nI (s_th S) ∧ kp (b + 62) = s_da S ∧ kp (b + 63) = s_dr S
theorem upd_at (f : FN) (k : Nat) (x : Int32) : upd f k x k = x := by simp [upd]
theorem upd_ne {f : FN} {k j : Nat} {x : Int32} (h : j ≠ k) : upd f k x j = f j := by simp [upd, h]
theorem kpall_out {kp : FN} {b : Nat} {S : WS} {j : Nat} (h : j < b ∨ b + 64 ≤ j) : kpall kp b S j = kp j := by
  unfold kpall
  rw [upd_ne (by omega), upd_ne (by omega), upd_ne (by omega), upd_ne (by omega), cpk_out (by omega), cpk_out (by omega), cpk_out (by omega), cpk_out (by omega), cpk_out (by omega), cpk_out (by omega), cpk_out (by omega), cpk_out (by omega)]
theorem kpall_KP (kp : FN) (b : Nat) (S : WS) : KP (kpall kp b S) b S := by
  unfold KP kpall
  refine ⟨fun j hj => ?_, fun j hj => ?_, fun j hj => ?_, fun j hj => ?_, fun j hj => ?_, fun j hj => ?_, fun j hj => ?_, fun j hj => ?_, ?_, ?_, ?_, ?_⟩
  · rw [upd_ne (by omega), upd_ne (by omega), upd_ne (by omega), upd_ne (by omega), cpk_out (by omega), cpk_out (by omega), cpk_out (by omega), cpk_out (by omega), cpk_out (by omega), cpk_out (by omega), cpk_out (by omega), cpk_in hj]
  · rw [upd_ne (by omega), upd_ne (by omega), upd_ne (by omega), upd_ne (by omega), cpk_out (by omega), cpk_out (by omega), cpk_out (by omega), cpk_out (by omega), cpk_out (by omega), cpk_out (by omega), cpk_in hj]
  · rw [upd_ne (by omega), upd_ne (by omega), upd_ne (by omega), upd_ne (by omega), cpk_out (by omega), cpk_out (by omega), cpk_out (by omega), cpk_out (by omega), cpk_out (by omega), cpk_in hj]
  · rw [upd_ne (by omega), upd_ne (by omega), upd_ne (by omega), upd_ne (by omega), cpk_out (by omega), cpk_out (by omega), cpk_out (by omega), cpk_out (by omega), cpk_in hj]
  · rw [upd_ne (by omega), upd_ne (by omega), upd_ne (by omega), upd_ne (by omega), cpk_out (by omega), cpk_out (by omega), cpk_out (by omega), cpk_in hj]
  · rw [upd_ne (by omega), upd_ne (by omega), upd_ne (by omega), upd_ne (by omega), cpk_out (by omega), cpk_out (by omega), cpk_in hj]
  · rw [upd_ne (by omega), upd_ne (by omega), upd_ne (by omega), upd_ne (by omega), cpk_out (by omega), cpk_in hj]
  · rw [upd_ne (by omega), upd_ne (by omega), upd_ne (by omega), upd_ne (by omega), cpk_in hj]
  · rw [upd_ne (by omega), upd_ne (by omega), upd_ne (by omega), upd_at]
  · rw [upd_ne (by omega), upd_ne (by omega), upd_at]
  · rw [upd_ne (by omega), upd_at]
  · rw [upd_at]
theorem KP.of {kp kp' : FN} {b : Nat} {S : WS} (h : KP kp b S) (e : ∀ j, b ≤ j → j < b + 64 → kp' j = kp j) : KP kp' b S := by
  obtain ⟨h1, h2, h3, h4, h5, h6, h7, h8, h9, h10, h11, h12⟩ := h
  exact ⟨fun j hj => (e _ (by omega) (by omega)).trans (h1 j hj), fun j hj => (e _ (by omega) (by omega)).trans (h2 j hj), fun j hj => (e _ (by omega) (by omega)).trans (h3 j hj), fun j hj => (e _ (by omega) (by omega)).trans (h4 j hj), fun j hj => (e _ (by omega) (by omega)).trans (h5 j hj), fun j hj => (e _ (by omega) (by omega)).trans (h6 j hj), fun j hj => (e _ (by omega) (by omega)).trans (h7 j hj), fun j hj => (e _ (by omega) (by omega)).trans (h8 j hj), (e _ (by omega) (by omega)).trans h9, (e _ (by omega) (by omega)).trans h10, (e _ (by omega) (by omega)).trans h11, (e _ (by omega) (by omega)).trans h12⟩
def m_kpa (M : MS) (b : Nat) (S : WS) : MS := (m_rf M, m_co M, m_tx M, m_lt M, m_la M, m_to M, m_tn M, m_at M, m_st M, kpall (m_kp M) b S, m_hi M, true, b + 64, m_lr M, m_ge M, m_rw M, m_rn M)
/-- what the model's thinking leaves as it was: all but its scratch; kept rows below b -/
def Mq (b : Nat) (M N : MS) : Prop := m_rf N = m_rf M ∧ m_co N = m_co M ∧ m_tx N = m_tx M ∧ m_tn N = m_tn M ∧ m_hi N = m_hi M ∧ m_rw N = m_rw M ∧ m_rn N = m_rn M ∧ ∀ j, j < b → m_kp N j = m_kp M j
theorem Mq.rf (b : Nat) (M : MS) : Mq b M M := ⟨rfl, rfl, rfl, rfl, rfl, rfl, rfl, fun _ _ => rfl⟩
theorem Mq.tr {b c : Nat} {M N P : MS} (h : Mq b M N) (g : Mq c N P) (hb : b ≤ c) : Mq b M P := ⟨g.1.trans h.1, g.2.1.trans h.2.1, g.2.2.1.trans h.2.2.1, g.2.2.2.1.trans h.2.2.2.1, g.2.2.2.2.1.trans h.2.2.2.2.1, g.2.2.2.2.2.1.trans h.2.2.2.2.2.1, g.2.2.2.2.2.2.1.trans h.2.2.2.2.2.2.1, fun j hj => (g.2.2.2.2.2.2.2 j (by omega)).trans (h.2.2.2.2.2.2.2 j hj)⟩
theorem Mq.kp {b : Nat} {M N : MS} (h : Mq b M N) {c : Nat} (hc : c + 64 ≤ b) {S : WS} (k : KP (m_kp M) c S) : KP (m_kp N) c S := k.of (fun j _ h2 => h.2.2.2.2.2.2.2 j (by omega))
theorem mq_kpa (M : MS) (b : Nat) (S : WS) : Mq b M (m_kpa M b S) := ⟨rfl, rfl, rfl, rfl, rfl, rfl, rfl, fun j hj => kpall_out (Or.inl hj)⟩
theorem mq_set (b : Nat) (M : MS) (c : Nat) (g : Bool) : Mq b M (m_set M c g) := ⟨rfl, rfl, rfl, rfl, rfl, rfl, rfl, fun _ _ => rfl⟩
def r_4 (S : WS) (g : FN) : WS := (s_pe S, s_th S, s_da S, s_dr S, g, s_sh S, s_an S, s_ki S, s_we S, s_dp S, s_wa S, s_le S)
def r_5 (S : WS) (g : FN) : WS := (s_pe S, s_th S, s_da S, s_dr S, s_kn S, g, s_an S, s_ki S, s_we S, s_dp S, s_wa S, s_le S)
def r_6 (S : WS) (g : FN) : WS := (s_pe S, s_th S, s_da S, s_dr S, s_kn S, s_sh S, g, s_ki S, s_we S, s_dp S, s_wa S, s_le S)
def r_7 (S : WS) (g : FN) : WS := (s_pe S, s_th S, s_da S, s_dr S, s_kn S, s_sh S, s_an S, g, s_we S, s_dp S, s_wa S, s_le S)
def r_8 (S : WS) (g : FN) : WS := (s_pe S, s_th S, s_da S, s_dr S, s_kn S, s_sh S, s_an S, s_ki S, g, s_dp S, s_wa S, s_le S)
def r_9 (S : WS) (g : FN) : WS := (s_pe S, s_th S, s_da S, s_dr S, s_kn S, s_sh S, s_an S, s_ki S, s_we S, g, s_wa S, s_le S)
def r_10 (S : WS) (g : FN) : WS := (s_pe S, s_th S, s_da S, s_dr S, s_kn S, s_sh S, s_an S, s_ki S, s_we S, s_dp S, g, s_le S)
def r_11 (S : WS) (g : FN) : WS := (s_pe S, s_th S, s_da S, s_dr S, s_kn S, s_sh S, s_an S, s_ki S, s_we S, s_dp S, s_wa S, g)
