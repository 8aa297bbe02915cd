set_option maxRecDepth 20000 in
theorem tX7_no (l : Launch) (D : va_G) (cI cW : ClassId) (m : Nat → Nat) (S : WS) (M : MS) (j : Nat) (hj1 : 1 ≤ j) (hj2 : j ≤ 6) : CT l D cI cW yX7_no cX7_no 2 (some .int) ⟨0, 0, 0, 0⟩ [.ref (m 0), .int (-(nI j))] ([ml m cI S M]) (PI (-(nI j)) ([ml m cI S (m_no M j)])) := by
  refine CT.of RX7 rfl (by decide +kernel) (Nat.le_of_ble_eq_true rfl) [(0, .ref (m 0)), (1, .int (-(nI j)))] rfl (fun x X Rr hnm => ?_)
  refine G.al X dX7_no_0 0 rfl ?_
  refine G.get X fX7_7 dX7_no_1 0 0 rfl rfl rfl ?_
  refine G.il X dX7_no_4 1 rfl ?_
  refine G.ineg X dX7_no_5 ?_
  refine G.top (b := nI j) (Int32.neg_neg) ?_
  refine G.dup2 X dX7_no_6 ?_
  refine G.nld X (i := j) dX7_no_7 0 1 rfl rfl (by omega) (by decide) ?_
  refine G.pu X dX7_no_8 ?_
  refine G.iadd X dX7_no_9 ?_
  refine G.nst X (i := j) dX7_no_10 0 1 rfl rfl (by omega) (by decide) (blk' := ml m cI S (upd (m_rf M) j (((m_rf M) j) + 1), m_co M, m_tx M, m_lt M, m_la M, m_to M, m_tn M, m_at M, m_st M, m_kp M, m_hi M, m_kg M, m_cu M, m_lr M, m_ge M, m_rw M, m_rn M)) rfl (ws' := [ml m cI S (upd (m_rf M) j (((m_rf M) j) + 1), m_co M, m_tx M, m_lt M, m_la M, m_to M, m_tn M, m_at M, m_st M, m_kp M, m_hi M, m_kg M, m_cu M, m_lr M, m_ge M, m_rw M, m_rn M)]) rfl ?_
  refine G.il X dX7_no_11 1 rfl ?_
  exact G.iret X Rr (v := (-(nI j))) dX7_no_12 (pi_mk (by rfl) (by rfl))

set_option maxRecDepth 20000 in
theorem tX7_lowest (l : Launch) (D : va_G) (cI cW : ClassId) (m : Nat → Nat) (S : WS) (M : MS) (j : Nat) (hj1 : 1 ≤ j) (hj2 : j ≤ 6) : CT l D cI cW yX7_lowest cX7_lowest 2 (some .long) ⟨0, 0, 0, 0⟩ [.ref (m 0), .int (-(nI j))] ([ml m cI S M]) (PJ (4000000000000000000 - Int32.toInt64 (-(nI j))) ([ml m cI S (m_no M j)])) := by
  refine CT.of RX7 rfl (by decide +kernel) (Nat.le_of_ble_eq_true rfl) [(0, .ref (m 0)), (1, .int (-(nI j)))] rfl (fun x X Rr hnm => ?_)
  refine G.al X dX7_lowest_0 0 rfl ?_
  refine G.get X fX7_7 dX7_lowest_1 0 0 rfl rfl rfl ?_
  refine G.il X dX7_lowest_4 1 rfl ?_
  refine G.ineg X dX7_lowest_5 ?_
  refine G.top (b := nI j) (Int32.neg_neg) ?_
  refine G.dup2 X dX7_lowest_6 ?_
  refine G.nld X (i := j) dX7_lowest_7 0 1 rfl rfl (by omega) (by decide) ?_
  refine G.pu X dX7_lowest_8 ?_
  refine G.iadd X dX7_lowest_9 ?_
  refine G.nst X (i := j) dX7_lowest_10 0 1 rfl rfl (by omega) (by decide) (blk' := ml m cI S (upd (m_rf M) j (((m_rf M) j) + 1), m_co M, m_tx M, m_lt M, m_la M, m_to M, m_tn M, m_at M, m_st M, m_kp M, m_hi M, m_kg M, m_cu M, m_lr M, m_ge M, m_rw M, m_rn M)) rfl (ws' := [ml m cI S (upd (m_rf M) j (((m_rf M) j) + 1), m_co M, m_tx M, m_lt M, m_la M, m_to M, m_tn M, m_at M, m_st M, m_kp M, m_hi M, m_kg M, m_cu M, m_lr M, m_ge M, m_rw M, m_rn M)]) rfl ?_
  refine G.ldc2 X dX7_lowest_11 qX7_62 ?_
  refine G.il X dX7_lowest_14 1 rfl ?_
  refine G.i2l X dX7_lowest_15 ?_
  refine G.lsub X dX7_lowest_16 ?_
  exact G.lret X Rr dX7_lowest_17 (pj_mk (by rfl) (by rfl))

set_option maxRecDepth 20000 in
theorem tX7_isIn (l : Launch) (D : va_G) (cI cW : ClassId) (v : Int32) (lo : Int32) (hi : Int32) : CT l D cI cW yX7_isIn cX7_isIn 3 (some .boolean) ⟨0, 0, 0, 0⟩ [.int v, .int lo, .int hi] ([]) (PI (b2i (z_bt v lo hi)) ([])) := by
  refine CT.of RX7 rfl (by decide +kernel) (Nat.le_of_ble_eq_true rfl) [(0, .int v), (1, .int lo), (2, .int hi)] rfl (fun x X Rr hnm => ?_)
  refine G.il X dX7_isIn_0 0 rfl ?_
  refine G.il X dX7_isIn_1 1 rfl ?_
  refine G.c_lt X (a := v) (b := lo) dX7_isIn_2 (fun b2 => ?_) (fun b2 => ?_)
  · refine G.pu X dX7_isIn_14 ?_
    exact G.zret X Rr (v := 0) (Or.inl rfl) dX7_isIn_15 (pi_mk (by simp [-Int32.not_lt, z_bt, b2i, b2]) (by rfl))
  · refine G.il X dX7_isIn_5 0 rfl ?_
    refine G.il X dX7_isIn_6 2 rfl ?_
    refine G.c_gt X (a := v) (b := hi) dX7_isIn_7 (fun b7 => ?_) (fun b7 => ?_)
    · refine G.pu X dX7_isIn_14 ?_
      exact G.zret X Rr (v := 0) (Or.inl rfl) dX7_isIn_15 (pi_mk (by simp [-Int32.not_lt, z_bt, b2i, b2, b7]) (by rfl))
    · refine G.pu X dX7_isIn_10 ?_
      refine G.go X dX7_isIn_11 ?_
      exact G.zret X Rr (v := 1) (Or.inr rfl) dX7_isIn_15 (pi_mk (by simp [-Int32.not_lt, z_bt, b2i, b2, b7]) (by rfl))

set_option maxRecDepth 20000 in
theorem tX7_bound_lo (l : Launch) (D : va_G) (cI cW : ClassId) (v : Int32) (lo : Int32) (hi : Int32) (ha : v < lo) : CT l D cI cW yX7_bound cX7_bound 3 (some .int) ⟨0, 0, 0, 0⟩ [.int v, .int lo, .int hi] ([]) (PI (-4) ([])) := by
  refine CT.of RX7 rfl (by decide +kernel) (Nat.le_of_ble_eq_true rfl) [(0, .int v), (1, .int lo), (2, .int hi)] rfl (fun x X Rr hnm => ?_)
  refine G.il X dX7_bound_0 0 rfl ?_
  refine G.il X dX7_bound_1 1 rfl ?_
  refine G.c_ge X (a := v) (b := lo) dX7_bound_2 (fun b2 => absurd (ha) b2) (fun b2 => ?_)
  refine G.pu X dX7_bound_5 ?_
  refine G.go X dX7_bound_7 ?_
  exact G.iret X Rr (v := (-4)) dX7_bound_21 (pi_mk (by rfl) (by rfl))

set_option maxRecDepth 20000 in
theorem tX7_bound_hi (l : Launch) (D : va_G) (cI cW : ClassId) (v : Int32) (lo : Int32) (hi : Int32) (ha : ¬ v < lo) (hb : hi < v) : CT l D cI cW yX7_bound cX7_bound 3 (some .int) ⟨0, 0, 0, 0⟩ [.int v, .int lo, .int hi] ([]) (PI (-6) ([])) := by
  refine CT.of RX7 rfl (by decide +kernel) (Nat.le_of_ble_eq_true rfl) [(0, .int v), (1, .int lo), (2, .int hi)] rfl (fun x X Rr hnm => ?_)
  refine G.il X dX7_bound_0 0 rfl ?_
  refine G.il X dX7_bound_1 1 rfl ?_
  refine G.c_ge X (a := v) (b := lo) dX7_bound_2 (fun b2 => ?_) (fun b2 => absurd b2 (ha))
  refine G.il X dX7_bound_10 0 rfl ?_
  refine G.il X dX7_bound_11 2 rfl ?_
  refine G.c_le X (a := v) (b := hi) dX7_bound_12 (fun b12 => absurd (hb) b12) (fun b12 => ?_)
  refine G.pu X dX7_bound_15 ?_
  refine G.go X dX7_bound_17 ?_
  exact G.iret X Rr (v := (-6)) dX7_bound_21 (pi_mk (by rfl) (by rfl))

set_option maxRecDepth 20000 in
theorem tX7_bound_okI (l : Launch) (D : va_G) (cI cW : ClassId) (v : Int32) (lo : Int32) (hi : Int32) (ha : ¬ v < lo) (hb : ¬ hi < v) : CT l D cI cW yX7_bound cX7_bound 3 (some .int) ⟨0, 0, 0, 0⟩ [.int v, .int lo, .int hi] ([]) (PI (0) ([])) := by
  refine CT.of RX7 rfl (by decide +kernel) (Nat.le_of_ble_eq_true rfl) [(0, .int v), (1, .int lo), (2, .int hi)] rfl (fun x X Rr hnm => ?_)
  refine G.il X dX7_bound_0 0 rfl ?_
  refine G.il X dX7_bound_1 1 rfl ?_
  refine G.c_ge X (a := v) (b := lo) dX7_bound_2 (fun b2 => ?_) (fun b2 => absurd b2 (ha))
  refine G.il X dX7_bound_10 0 rfl ?_
  refine G.il X dX7_bound_11 2 rfl ?_
  refine G.c_le X (a := v) (b := hi) dX7_bound_12 (fun b12 => ?_) (fun b12 => absurd b12 (hb))
  refine G.pu X dX7_bound_20 ?_
  exact G.iret X Rr (v := 0) dX7_bound_21 (pi_mk (by rfl) (by rfl))

set_option maxRecDepth 20000 in
theorem tX7_bound_ok (l : Launch) (D : va_G) (cI cW : ClassId) (v : Nat) (lo : Nat) (hi : Nat) (ha : lo ≤ v) (hb : v ≤ hi) (hc : hi < 2 ^ 31) : CT l D cI cW yX7_bound cX7_bound 3 (some .int) ⟨0, 0, 0, 0⟩ [.int (nI v), .int (nI lo), .int (nI hi)] ([]) (PI (0) ([])) := by
  refine CT.of RX7 rfl (by decide +kernel) (Nat.le_of_ble_eq_true rfl) [(0, .int (nI v)), (1, .int (nI lo)), (2, .int (nI hi))] rfl (fun x X Rr hnm => ?_)
  refine G.il X dX7_bound_0 0 rfl ?_
  refine G.il X dX7_bound_1 1 rfl ?_
  refine G.n_ge X (a := v) (b := lo) (by omega) (by omega) dX7_bound_2 (fun b2 => ?_) (fun b2 => absurd b2 (by omega))
  refine G.il X dX7_bound_10 0 rfl ?_
  refine G.il X dX7_bound_11 2 rfl ?_
  refine G.n_le X (a := v) (b := hi) (by omega) (by omega) dX7_bound_12 (fun b12 => ?_) (fun b12 => absurd b12 (by omega))
  refine G.pu X dX7_bound_20 ?_
  exact G.iret X Rr (v := 0) dX7_bound_21 (pi_mk (by rfl) (by rfl))

set_option maxRecDepth 20000 in
theorem tX7_has (l : Launch) (D : va_G) (cI cW : ClassId) (v : Int32) (t : Int32) : CT l D cI cW yX7_has cX7_has 2 (some .boolean) ⟨0, 0, 0, 0⟩ [.int v, .int t] ([]) (PI (b2i (hasb v t)) ([])) := by
  refine CT.of RX7 rfl (by decide +kernel) (Nat.le_of_ble_eq_true rfl) [(0, .int v), (1, .int t)] rfl (fun x X Rr hnm => ?_)
  refine G.il X dX7_has_0 0 rfl ?_
  refine G.il X dX7_has_1 1 rfl ?_
  refine G.ishr X dX7_has_2 ?_
  refine G.pu X dX7_has_3 ?_
  refine G.iand X dX7_has_4 ?_
  refine G.pu X dX7_has_5 ?_
  refine G.c_ne X (a := ((v >>> (t &&& 31)) &&& 1)) (b := 1) dX7_has_6 (fun b6 => ?_) (fun b6 => ?_)
  · refine G.pu X dX7_has_13 ?_
    exact G.zret X Rr (v := 0) (Or.inl rfl) dX7_has_14 (pi_mk (by simp [hasb, b2i, b6]) (by rfl))
  · refine G.pu X dX7_has_9 ?_
    refine G.go X dX7_has_10 ?_
    exact G.zret X Rr (v := 1) (Or.inr rfl) dX7_has_14 (pi_mk (by simp [hasb, b2i, b6]) (by rfl))

set_option maxRecDepth 20000 in
theorem tX7_bits (l : Launch) (D : va_G) (cI cW : ClassId) (v : Int32) : CT l D cI cW yX7_bits cX7_bits 3 (some .int) ⟨0, 0, 0, 0⟩ [.int v] ([]) (PI (m_bits v 31) ([])) := by
  refine CT.of RX7 rfl (by decide +kernel) (Nat.le_of_ble_eq_true rfl) [(0, .int v)] rfl (fun x X Rr hnm => ?_)
  refine G.pu X dX7_bits_0 ?_
  refine G.is X dX7_bits_1 (by decide) (lv' := [(1, .int 0), (0, .int v)]) rfl ?_
  refine G.pu X dX7_bits_2 ?_
  refine G.is X dX7_bits_3 (by decide) (lv' := [(2, .int 0), (1, .int 0), (0, .int v)]) rfl ?_
  have L4 : ∀ k, k ≤ 31 → G x 0 0 ([]) 4 [(2, .int (nI k)), (1, .int (m_bits v k)), (0, .int v)] [] := by
    refine loop_dn 31 _ ?_ ?_
    · refine G.il X dX7_bits_4 0 rfl ?_
      refine G.pu X dX7_bits_5 ?_
      refine G.n_ge X (a := 31) (b := 31) (by omega) (by omega) dX7_bits_7 (fun b7 => ?_) (fun b7 => absurd b7 (by omega))
      refine G.il X dX7_bits_24 1 rfl ?_
      exact G.iret X Rr (v := (m_bits v 31)) dX7_bits_25 (pi_mk (by rfl) (by rfl))
    · intro k hk ih4
      refine G.il X dX7_bits_4 0 rfl ?_
      refine G.pu X dX7_bits_5 ?_
      refine G.n_ge X (a := k) (b := 31) (by omega) (by omega) dX7_bits_7 (fun b7 => absurd b7 (by omega)) (fun b7 => ?_)
      refine G.il X dX7_bits_10 1 rfl ?_
      refine G.il X dX7_bits_11 2 rfl ?_
      refine G.il X dX7_bits_12 0 rfl ?_
      refine G.ishr X dX7_bits_13 ?_
      refine G.pu X dX7_bits_14 ?_
      refine G.iand X dX7_bits_15 ?_
      refine G.iadd X dX7_bits_16 ?_
      refine G.is X dX7_bits_17 (by decide) (lv' := [(1, .int ((m_bits v k) + ((v >>> ((nI k) &&& 31)) &&& 1))), (2, .int (nI k)), (0, .int v)]) rfl ?_
      refine G.iinc X dX7_bits_18 1 rfl (v' := nI (k + 1)) (nI_inc k) (by decide) (lv' := [(2, .int (nI (k + 1))), (1, .int ((m_bits v k) + ((v >>> ((nI k) &&& 31)) &&& 1))), (0, .int v)]) rfl ?_
      refine G.go X dX7_bits_21 ?_
      rw [show (m_bits v (k + 1)) = ((m_bits v k) + ((v >>> ((nI k) &&& 31)) &&& 1)) from (by rfl)] at ih4
      exact ih4
  have L4 := L4 0 (Nat.zero_le _)
  exact L4

set_option maxRecDepth 20000 in
theorem tX7_isOne (l : Launch) (D : va_G) (cI cW : ClassId) (m : Nat → Nat) (S : WS) (M : MS) (p : Int32) : CT l D cI cW yX7_isOne cX7_isOne 2 (some .boolean) ⟨0, 0, 0, 0⟩ [.ref (m 0), .int p] ([ml m cI S M]) (PI (b2i (z_in p (s_pe S))) ([ml m cI S M])) := by
  refine CT.of RX7 rfl (by decide +kernel) (Nat.le_of_ble_eq_true rfl) [(0, .ref (m 0)), (1, .int p)] rfl (fun x X Rr hnm => ?_)
  refine G.il X dX7_isOne_0 1 rfl ?_
  refine G.z_lt X (a := p) dX7_isOne_1 (fun b1 => ?_) (fun b1 => ?_)
  · refine G.pu X dX7_isOne_16 ?_
    exact G.zret X Rr (v := 0) (Or.inl rfl) dX7_isOne_17 (pi_mk (by simp [z_in, b2i, b1]) (by rfl))
  · refine G.il X dX7_isOne_4 1 rfl ?_
    refine G.al X dX7_isOne_5 0 rfl ?_
    refine G.get X fX7_64 dX7_isOne_6 0 0 rfl rfl rfl ?_
    refine G.c_ge X (a := p) (b := nI (s_pe S)) dX7_isOne_9 (fun b9 => ?_) (fun b9 => ?_)
    · refine G.pu X dX7_isOne_16 ?_
      exact G.zret X Rr (v := 0) (Or.inl rfl) dX7_isOne_17 (pi_mk (by simp [z_in, b2i, b1, b9]) (by rfl))
    · refine G.pu X dX7_isOne_12 ?_
      refine G.go X dX7_isOne_13 ?_
      exact G.zret X Rr (v := 1) (Or.inr rfl) dX7_isOne_17 (pi_mk (by simp [z_in, b2i, b1, b9]) (by rfl))

set_option maxRecDepth 20000 in
theorem tX7_isThing (l : Launch) (D : va_G) (cI cW : ClassId) (m : Nat → Nat) (S : WS) (M : MS) (p : Int32) : CT l D cI cW yX7_isThing cX7_isThing 2 (some .boolean) ⟨0, 0, 0, 0⟩ [.ref (m 0), .int p] ([ml m cI S M]) (PI (b2i (z_in p (s_th S))) ([ml m cI S M])) := by
  refine CT.of RX7 rfl (by decide +kernel) (Nat.le_of_ble_eq_true rfl) [(0, .ref (m 0)), (1, .int p)] rfl (fun x X Rr hnm => ?_)
  refine G.il X dX7_isThing_0 1 rfl ?_
  refine G.z_lt X (a := p) dX7_isThing_1 (fun b1 => ?_) (fun b1 => ?_)
  · refine G.pu X dX7_isThing_16 ?_
    exact G.zret X Rr (v := 0) (Or.inl rfl) dX7_isThing_17 (pi_mk (by simp [z_in, b2i, b1]) (by rfl))
  · refine G.il X dX7_isThing_4 1 rfl ?_
    refine G.al X dX7_isThing_5 0 rfl ?_
    refine G.get X fX7_58 dX7_isThing_6 0 0 rfl rfl rfl ?_
    refine G.c_ge X (a := p) (b := nI (s_th S)) dX7_isThing_9 (fun b9 => ?_) (fun b9 => ?_)
    · refine G.pu X dX7_isThing_16 ?_
      exact G.zret X Rr (v := 0) (Or.inl rfl) dX7_isThing_17 (pi_mk (by simp [z_in, b2i, b1, b9]) (by rfl))
    · refine G.pu X dX7_isThing_12 ?_
      refine G.go X dX7_isThing_13 ?_
      exact G.zret X Rr (v := 1) (Or.inr rfl) dX7_isThing_17 (pi_mk (by simp [z_in, b2i, b1, b9]) (by rfl))

set_option maxRecDepth 20000 in
theorem tX7_risesIn (l : Launch) (D : va_G) (cI cW : ClassId) (m : Nat → Nat) (S : WS) (M : MS) (i : Nat) (hi : i < 9) : CT l D cI cW yX7_risesIn cX7_risesIn 3 (some .int) ⟨0, 0, 0, 0⟩ [.ref (m 0), .int (nI i)] ([ml m cI S M]) (PI (r_of (s_ki S i) (s_we S i) (s_dr S)) ([ml m cI S M])) := by
  refine CT.of RX7 rfl (by decide +kernel) (Nat.le_of_ble_eq_true rfl) [(0, .ref (m 0)), (1, .int (nI i))] rfl (fun x X Rr hnm => ?_)
  refine G.al X dX7_risesIn_0 0 rfl ?_
  refine G.get X fX7_25 dX7_risesIn_1 0 0 rfl rfl rfl ?_
  refine G.il X dX7_risesIn_4 1 rfl ?_
  refine G.nld X (i := i) dX7_risesIn_5 0 6 rfl rfl (by omega) (by decide) ?_
  refine G.pu X dX7_risesIn_6 ?_
  refine G.idiv X dX7_risesIn_7 (by decide) ?_
  refine G.pu X dX7_risesIn_8 ?_
  refine G.iadd X dX7_risesIn_9 ?_
  refine G.is X dX7_risesIn_10 (by decide) (lv' := [(2, .int ((((s_we S) i) / 3) + 1)), (0, .ref (m 0)), (1, .int (nI i))]) rfl ?_
  refine G.al X dX7_risesIn_11 1 rfl ?_
  refine G.get X fX7_22 dX7_risesIn_12 0 0 rfl rfl rfl ?_
  refine G.il X dX7_risesIn_15 2 rfl ?_
  refine G.nld X (i := i) dX7_risesIn_16 0 5 rfl rfl (by omega) (by decide) ?_
  by_cases h17_1 : ((s_ki S) i) = 1
  · refine G.tsi X dX7_risesIn_17 1 h17_1 (35) 52 (by decide) ?_
    refine G.il X dX7_risesIn_52 0 rfl ?_
    refine G.pu X dX7_risesIn_53 ?_
    refine G.iadd X dX7_risesIn_54 ?_
    exact G.iret X Rr (v := (((((s_we S) i) / 3) + 1) + 1)) dX7_risesIn_55 (pi_mk (by simp [r_of, h17_1]) (by rfl))
  by_cases h17_3 : ((s_ki S) i) = 3
  · refine G.tsi X dX7_risesIn_17 3 h17_3 (39) 56 (by decide) ?_
    refine G.il X dX7_risesIn_56 0 rfl ?_
    refine G.al X dX7_risesIn_57 1 rfl ?_
    refine G.get X fX7_135 dX7_risesIn_58 0 0 rfl rfl rfl ?_
    refine G.iadd X dX7_risesIn_61 ?_
    exact G.iret X Rr (v := (((((s_we S) i) / 3) + 1) + (s_dr S))) dX7_risesIn_62 (pi_mk (by simp [r_of, h17_3]) (by rfl))
  by_cases h17_4 : ((s_ki S) i) = 4
  · refine G.tsi X dX7_risesIn_17 4 h17_4 (46) 63 (by decide) ?_
    refine G.pu X dX7_risesIn_63 ?_
    refine G.il X dX7_risesIn_64 0 rfl ?_
    refine G.pu X dX7_risesIn_65 ?_
    refine G.iadd X dX7_risesIn_66 ?_
    refine G.imul X dX7_risesIn_67 ?_
    exact G.iret X Rr (v := (2 * (((((s_we S) i) / 3) + 1) + 1))) dX7_risesIn_68 (pi_mk (by simp [r_of, h17_4]) (by rfl))
  by_cases h17_5 : ((s_ki S) i) = 5
  · refine G.tsi X dX7_risesIn_17 5 h17_5 (39) 56 (by decide) ?_
    refine G.il X dX7_risesIn_56 0 rfl ?_
    refine G.al X dX7_risesIn_57 1 rfl ?_
    refine G.get X fX7_135 dX7_risesIn_58 0 0 rfl rfl rfl ?_
    refine G.iadd X dX7_risesIn_61 ?_
    exact G.iret X Rr (v := (((((s_we S) i) / 3) + 1) + (s_dr S))) dX7_risesIn_62 (pi_mk (by simp [r_of, h17_5]) (by rfl))
  refine G.tsd X dX7_risesIn_17 [1, 3, 4, 5] (List.forall_mem_cons.mpr ⟨h17_1, List.forall_mem_cons.mpr ⟨h17_3, List.forall_mem_cons.mpr ⟨h17_4, List.forall_mem_cons.mpr ⟨h17_5, fun _ h9 => absurd h9 List.not_mem_nil⟩⟩⟩⟩) 69 (by decide) ?_
  refine G.il X dX7_risesIn_69 0 rfl ?_
  exact G.iret X Rr (v := ((((s_we S) i) / 3) + 1)) dX7_risesIn_70 (pi_mk (by simp [r_of, h17_1, h17_3, h17_4, h17_5]) (by rfl))

set_option maxRecDepth 20000 in
theorem tX7_topicOf (l : Launch) (D : va_G) (cI cW : ClassId) (m : Nat → Nat) (S : WS) (M : MS) (i : Nat) (hi : i < 9) : CT l D cI cW yX7_topicOf cX7_topicOf 3 (some .int) ⟨0, 0, 0, 0⟩ [.ref (m 0), .int (nI i)] ([ml m cI S M]) (PI (top S i) ([ml m cI S M])) := by
  refine CT.of RX7 rfl (by decide +kernel) (Nat.le_of_ble_eq_true rfl) [(0, .ref (m 0)), (1, .int (nI i))] rfl (fun x X Rr hnm => ?_)
  refine G.al X dX7_topicOf_0 0 rfl ?_
  refine G.get X fX7_25 dX7_topicOf_1 0 0 rfl rfl rfl ?_
  refine G.il X dX7_topicOf_4 1 rfl ?_
  refine G.nld X (i := i) dX7_topicOf_5 0 6 rfl rfl (by omega) (by decide) ?_
  refine G.pu X dX7_topicOf_6 ?_
  refine G.irem X dX7_topicOf_8 (by decide) ?_
  refine G.is X dX7_topicOf_9 (by decide) (lv' := [(2, .int (rm32 ((s_we S) i) 8)), (0, .ref (m 0)), (1, .int (nI i))]) rfl ?_
  refine G.al X dX7_topicOf_10 1 rfl ?_
  refine G.get X fX7_22 dX7_topicOf_11 0 0 rfl rfl rfl ?_
  refine G.il X dX7_topicOf_14 2 rfl ?_
  refine G.nld X (i := i) dX7_topicOf_15 0 5 rfl rfl (by omega) (by decide) ?_
  refine G.pu X dX7_topicOf_16 ?_
  refine G.c_ne X (a := ((s_ki S) i)) (b := 5) dX7_topicOf_17 (fun b17 => ?_) (fun b17 => ?_)
  · refine G.al X dX7_topicOf_24 1 rfl ?_
    refine G.get X fX7_22 dX7_topicOf_25 0 0 rfl rfl rfl ?_
    refine G.il X dX7_topicOf_28 2 rfl ?_
    refine G.nld X (i := i) dX7_topicOf_29 0 5 rfl rfl (by omega) (by decide) ?_
    refine G.pu X dX7_topicOf_30 ?_
    refine G.c_eq X (a := ((s_ki S) i)) (b := 2) dX7_topicOf_31 (fun b31 => ?_) (fun b31 => ?_)
    · refine G.pu X dX7_topicOf_44 ?_
      refine G.il X dX7_topicOf_46 0 rfl ?_
      refine G.isub X dX7_topicOf_47 ?_
      refine G.go X dX7_topicOf_48 ?_
      exact G.iret X Rr (v := (7 - (rm32 ((s_we S) i) 8))) dX7_topicOf_52 (pi_mk (by simp [top, top_b, rm32, b17, b31]) (by rfl))
    · refine G.al X dX7_topicOf_34 1 rfl ?_
      refine G.get X fX7_22 dX7_topicOf_35 0 0 rfl rfl rfl ?_
      refine G.il X dX7_topicOf_38 2 rfl ?_
      refine G.nld X (i := i) dX7_topicOf_39 0 5 rfl rfl (by omega) (by decide) ?_
      refine G.pu X dX7_topicOf_40 ?_
      refine G.c_ne X (a := ((s_ki S) i)) (b := 3) dX7_topicOf_41 (fun b41 => ?_) (fun b41 => ?_)
      · refine G.il X dX7_topicOf_51 0 rfl ?_
        exact G.iret X Rr (v := (rm32 ((s_we S) i) 8)) dX7_topicOf_52 (pi_mk (by simp [top, top_b, rm32, b17, b31, b41]) (by rfl))
      · refine G.pu X dX7_topicOf_44 ?_
        refine G.il X dX7_topicOf_46 0 rfl ?_
        refine G.isub X dX7_topicOf_47 ?_
        refine G.go X dX7_topicOf_48 ?_
        exact G.iret X Rr (v := (7 - (rm32 ((s_we S) i) 8))) dX7_topicOf_52 (pi_mk (by simp [top, top_b, rm32, b17, b31, b41]) (by rfl))
  · refine G.pu X dX7_topicOf_20 ?_
    refine G.go X dX7_topicOf_21 ?_
    exact G.iret X Rr (v := 0) dX7_topicOf_52 (pi_mk (by simp [top, top_b, rm32, b17]) (by rfl))

set_option maxRecDepth 20000 in
theorem tX7_timesOf (l : Launch) (D : va_G) (cI cW : ClassId) (m : Nat → Nat) (S : WS) (M : MS) (i : Nat) (hi : i < 9) : CT l D cI cW yX7_timesOf cX7_timesOf 2 (some .int) ⟨0, 0, 0, 0⟩ [.ref (m 0), .int (nI i)] ([ml m cI S M]) (PI (n_of (s_ki S i) (s_we S i)) ([ml m cI S M])) := by
  refine CT.of RX7 rfl (by decide +kernel) (Nat.le_of_ble_eq_true rfl) [(0, .ref (m 0)), (1, .int (nI i))] rfl (fun x X Rr hnm => ?_)
  refine G.al X dX7_timesOf_0 0 rfl ?_
  refine G.get X fX7_22 dX7_timesOf_1 0 0 rfl rfl rfl ?_
  refine G.il X dX7_timesOf_4 1 rfl ?_
  refine G.nld X (i := i) dX7_timesOf_5 0 5 rfl rfl (by omega) (by decide) ?_
  by_cases h6_2 : ((s_ki S) i) = 2
  · refine G.tsi X dX7_timesOf_6 2 h6_2 (30) 36 (by decide) ?_
    refine G.pu X dX7_timesOf_36 ?_
    exact G.iret X Rr (v := 2) dX7_timesOf_37 (pi_mk (by simp [n_of, h6_2]) (by rfl))
  by_cases h6_3 : ((s_ki S) i) = 3
  · refine G.tsi X dX7_timesOf_6 3 h6_3 (30) 36 (by decide) ?_
    refine G.pu X dX7_timesOf_36 ?_
    exact G.iret X Rr (v := 2) dX7_timesOf_37 (pi_mk (by simp [n_of, h6_3]) (by rfl))
  by_cases h6_4 : ((s_ki S) i) = 4
  · refine G.tsi X dX7_timesOf_6 4 h6_4 (32) 38 (by decide) ?_
    refine G.pu X dX7_timesOf_38 ?_
    refine G.al X dX7_timesOf_39 0 rfl ?_
    refine G.get X fX7_25 dX7_timesOf_40 0 0 rfl rfl rfl ?_
    refine G.il X dX7_timesOf_43 1 rfl ?_
    refine G.nld X (i := i) dX7_timesOf_44 0 6 rfl rfl (by omega) (by decide) ?_
    refine G.pu X dX7_timesOf_45 ?_
    refine G.idiv X dX7_timesOf_46 (by decide) ?_
    refine G.iadd X dX7_timesOf_47 ?_
    exact G.iret X Rr (v := (1 + (((s_we S) i) / 4))) dX7_timesOf_48 (pi_mk (by simp [n_of, h6_4]) (by rfl))
  by_cases h6_5 : ((s_ki S) i) = 5
  · refine G.tsi X dX7_timesOf_6 5 h6_5 (43) 49 (by decide) ?_
    refine G.pu X dX7_timesOf_49 ?_
    exact G.iret X Rr (v := 4) dX7_timesOf_50 (pi_mk (by simp [n_of, h6_5]) (by rfl))
  refine G.tsd X dX7_timesOf_6 [2, 3, 4, 5] (List.forall_mem_cons.mpr ⟨h6_2, List.forall_mem_cons.mpr ⟨h6_3, List.forall_mem_cons.mpr ⟨h6_4, List.forall_mem_cons.mpr ⟨h6_5, fun _ h9 => absurd h9 List.not_mem_nil⟩⟩⟩⟩) 51 (by decide) ?_
  refine G.pu X dX7_timesOf_51 ?_
  exact G.iret X Rr (v := 1) dX7_timesOf_52 (pi_mk (by simp [n_of, h6_2, h6_3, h6_4, h6_5]) (by rfl))

set_option maxRecDepth 20000 in
theorem tX7_falls (l : Launch) (D : va_G) (cI cW : ClassId) (m : Nat → Nat) (S : WS) (M : MS) (i : Nat) (hi : i < 9) : CT l D cI cW yX7_falls cX7_falls 2 none ⟨1, 0, 0, 22⟩ [.ref (m 0), .int (nI i)] ([ml m cI S M]) (PV ([ml m cI (w_fall S i) M])) := by
  refine CT.of RX7 rfl (by decide +kernel) (Nat.le_of_ble_eq_true rfl) [(0, .ref (m 0)), (1, .int (nI i))] rfl (fun x X Rr hnm => ?_)
  refine G.al X dX7_falls_0 0 rfl ?_
  refine G.get X fX7_31 dX7_falls_1 0 0 rfl rfl rfl ?_
  refine G.il X dX7_falls_4 1 rfl ?_
  refine G.al X dX7_falls_5 0 rfl ?_
  refine G.il X dX7_falls_6 1 rfl ?_
  refine G.cvi X kX7_risesIn lX7_169 dX7_falls_7 (tX7_risesIn l D cI cW m S M i (by omega)) ⟨Nat.le_of_ble_eq_true rfl, Nat.le_of_ble_eq_true rfl⟩ ⟨Nat.zero_le _, Nat.zero_le _⟩ [0] rfl ⟨rfl, rfl⟩ rfl rfl 0 0 rfl rfl rfl rfl (Nat.le_of_ble_eq_true rfl) (ff_cons (ml_fst _ _ _ _ _ _) (ff_nil)) (ws' := [ml m cI S M]) rfl ?_
  refine G.nst X (i := i) dX7_falls_10 0 8 rfl rfl (by omega) (by decide) (blk' := ml m cI (s_pe S, s_th S, s_da S, s_dr S, s_kn S, s_sh S, s_an S, s_ki S, s_we S, s_dp S, upd (s_wa S) i (r_of (s_ki S i) (s_we S i) (s_dr S)), s_le S) M) rfl (ws' := [ml m cI (s_pe S, s_th S, s_da S, s_dr S, s_kn S, s_sh S, s_an S, s_ki S, s_we S, s_dp S, upd (s_wa S) i (r_of (s_ki S i) (s_we S i) (s_dr S)), s_le S) M]) rfl ?_
  refine G.al X dX7_falls_11 0 rfl ?_
  refine G.get X fX7_34 dX7_falls_12 0 0 rfl rfl rfl ?_
  refine G.il X dX7_falls_15 1 rfl ?_
  refine G.al X dX7_falls_16 0 rfl ?_
  refine G.il X dX7_falls_17 1 rfl ?_
  refine G.cvi X kX7_timesOf lX7_172 dX7_falls_18 (tX7_timesOf l D cI cW m (s_pe S, s_th S, s_da S, s_dr S, s_kn S, s_sh S, s_an S, s_ki S, s_we S, s_dp S, upd (s_wa S) i (r_of (s_ki S i) (s_we S i) (s_dr S)), s_le S) M i (by omega)) ⟨Nat.le_of_ble_eq_true rfl, Nat.le_of_ble_eq_true rfl⟩ ⟨Nat.zero_le _, Nat.zero_le _⟩ [0] rfl ⟨rfl, rfl⟩ rfl rfl 0 0 rfl rfl rfl rfl (Nat.le_of_ble_eq_true rfl) (ff_cons (ml_fst _ _ _ _ _ _) (ff_nil)) (ws' := [ml m cI (s_pe S, s_th S, s_da S, s_dr S, s_kn S, s_sh S, s_an S, s_ki S, s_we S, s_dp S, upd (s_wa S) i (r_of (s_ki S i) (s_we S i) (s_dr S)), s_le S) M]) rfl ?_
  refine G.nst X (i := i) dX7_falls_21 0 9 rfl rfl (by omega) (by decide) (blk' := ml m cI (s_pe S, s_th S, s_da S, s_dr S, s_kn S, s_sh S, s_an S, s_ki S, s_we S, s_dp S, upd (s_wa S) i (r_of (s_ki S i) (s_we S i) (s_dr S)), upd (s_le S) i (n_of (s_ki (s_pe S, s_th S, s_da S, s_dr S, s_kn S, s_sh S, s_an S, s_ki S, s_we S, s_dp S, upd (s_wa S) i (r_of (s_ki S i) (s_we S i) (s_dr S)), s_le S) i) (s_we (s_pe S, s_th S, s_da S, s_dr S, s_kn S, s_sh S, s_an S, s_ki S, s_we S, s_dp S, upd (s_wa S) i (r_of (s_ki S i) (s_we S i) (s_dr S)), s_le S) i))) M) rfl (ws' := [ml m cI (s_pe S, s_th S, s_da S, s_dr S, s_kn S, s_sh S, s_an S, s_ki S, s_we S, s_dp S, upd (s_wa S) i (r_of (s_ki S i) (s_we S i) (s_dr S)), upd (s_le S) i (n_of (s_ki (s_pe S, s_th S, s_da S, s_dr S, s_kn S, s_sh S, s_an S, s_ki S, s_we S, s_dp S, upd (s_wa S) i (r_of (s_ki S i) (s_we S i) (s_dr S)), s_le S) i) (s_we (s_pe S, s_th S, s_da S, s_dr S, s_kn S, s_sh S, s_an S, s_ki S, s_we S, s_dp S, upd (s_wa S) i (r_of (s_ki S i) (s_we S i) (s_dr S)), s_le S) i))) M]) rfl ?_
  exact G.vret X Rr dX7_falls_22 (pv_mk (by rfl))

set_option maxRecDepth 20000 in
theorem tX7_adds (l : Launch) (D : va_G) (cI cW : ClassId) (m : Nat → Nat) (S : WS) (M : MS) (kd : Int32) (w : Int32) (b : Int32) (hth : s_th S < 9) : CT l D cI cW yX7_adds cX7_adds 4 none ⟨2, 0, 0, 43⟩ [.ref (m 0), .int kd, .int w, .int b] ([ml m cI S M]) (PV ([ml m cI (w_add S kd w b) M])) := by
  refine CT.of RX7 rfl (by decide +kernel) (Nat.le_of_ble_eq_true rfl) [(0, .ref (m 0)), (1, .int kd), (2, .int w), (3, .int b)] rfl (fun x X Rr hnm => ?_)
  refine G.al X dX7_adds_0 0 rfl ?_
  refine G.get X fX7_22 dX7_adds_1 0 0 rfl rfl rfl ?_
  refine G.al X dX7_adds_4 0 rfl ?_
  refine G.get X fX7_58 dX7_adds_5 0 0 rfl rfl rfl ?_
  refine G.il X dX7_adds_8 1 rfl ?_
  refine G.nst X (i := s_th S) dX7_adds_9 0 5 rfl rfl (by omega) (by decide) (blk' := ml m cI (s_pe S, s_th S, s_da S, s_dr S, s_kn S, s_sh S, s_an S, upd (s_ki S) (s_th S) kd, s_we S, s_dp S, s_wa S, s_le S) M) rfl (ws' := [ml m cI (s_pe S, s_th S, s_da S, s_dr S, s_kn S, s_sh S, s_an S, upd (s_ki S) (s_th S) kd, s_we S, s_dp S, s_wa S, s_le S) M]) rfl ?_
  refine G.al X dX7_adds_10 0 rfl ?_
  refine G.get X fX7_25 dX7_adds_11 0 0 rfl rfl rfl ?_
  refine G.al X dX7_adds_14 0 rfl ?_
  refine G.get X fX7_58 dX7_adds_15 0 0 rfl rfl rfl ?_
  refine G.il X dX7_adds_18 2 rfl ?_
  refine G.nst X (i := s_th S) dX7_adds_19 0 6 rfl rfl (by omega) (by decide) (blk' := ml m cI (s_pe S, s_th S, s_da S, s_dr S, s_kn S, s_sh S, s_an S, upd (s_ki S) (s_th S) kd, upd (s_we S) (s_th S) w, s_dp S, s_wa S, s_le S) M) rfl (ws' := [ml m cI (s_pe S, s_th S, s_da S, s_dr S, s_kn S, s_sh S, s_an S, upd (s_ki S) (s_th S) kd, upd (s_we S) (s_th S) w, s_dp S, s_wa S, s_le S) M]) rfl ?_
  refine G.al X dX7_adds_20 0 rfl ?_
  refine G.get X fX7_28 dX7_adds_21 0 0 rfl rfl rfl ?_
  refine G.al X dX7_adds_24 0 rfl ?_
  refine G.get X fX7_58 dX7_adds_25 0 0 rfl rfl rfl ?_
  refine G.il X dX7_adds_28 3 rfl ?_
  refine G.nst X (i := s_th S) dX7_adds_29 0 7 rfl rfl (by omega) (by decide) (blk' := ml m cI (s_pe S, s_th S, s_da S, s_dr S, s_kn S, s_sh S, s_an S, upd (s_ki S) (s_th S) kd, upd (s_we S) (s_th S) w, upd (s_dp S) (s_th S) b, s_wa S, s_le S) M) rfl (ws' := [ml m cI (s_pe S, s_th S, s_da S, s_dr S, s_kn S, s_sh S, s_an S, upd (s_ki S) (s_th S) kd, upd (s_we S) (s_th S) w, upd (s_dp S) (s_th S) b, s_wa S, s_le S) M]) rfl ?_
  refine G.al X dX7_adds_30 0 rfl ?_
  refine G.al X dX7_adds_31 0 rfl ?_
  refine G.get X fX7_58 dX7_adds_32 0 0 rfl rfl rfl ?_
  refine G.cvv X kX7_falls lX7_129 dX7_adds_35 (tX7_falls l D cI cW m (s_pe S, s_th S, s_da S, s_dr S, s_kn S, s_sh S, s_an S, upd (s_ki S) (s_th S) kd, upd (s_we S) (s_th S) w, upd (s_dp S) (s_th S) b, s_wa S, s_le S) M (s_th S) (by omega)) ⟨Nat.le_of_ble_eq_true rfl, Nat.le_of_ble_eq_true rfl⟩ ⟨Nat.zero_le _, Nat.zero_le _⟩ [0] rfl ⟨rfl, rfl⟩ rfl rfl 0 0 rfl rfl rfl rfl (Nat.le_of_ble_eq_true rfl) (ff_cons (ml_fst _ _ _ _ _ _) (ff_nil)) (ws' := [ml m cI (w_fall (s_pe S, s_th S, s_da S, s_dr S, s_kn S, s_sh S, s_an S, upd (s_ki S) (s_th S) kd, upd (s_we S) (s_th S) w, upd (s_dp S) (s_th S) b, s_wa S, s_le S) (s_th S)) M]) rfl ?_
  refine G.al X dX7_adds_38 0 rfl ?_
  refine G.dupr X dX7_adds_39 ?_
  refine G.get X fX7_58 dX7_adds_40 0 0 rfl rfl rfl ?_
  refine G.pu X dX7_adds_43 ?_
  refine G.nadd X (a := s_th (w_fall (s_pe S, s_th S, s_da S, s_dr S, s_kn S, s_sh S, s_an S, upd (s_ki S) (s_th S) kd, upd (s_we S) (s_th S) w, upd (s_dp S) (s_th S) b, s_wa S, s_le S) (s_th S))) (b := 1) dX7_adds_44 ?_
  refine G.puti X fX7_58 fe7 dX7_adds_45 rfl rfl 0 0 rfl rfl (Nat.le_of_ble_eq_true rfl) (blk' := ml m cI (s_pe (w_fall (s_pe S, s_th S, s_da S, s_dr S, s_kn S, s_sh S, s_an S, upd (s_ki S) (s_th S) kd, upd (s_we S) (s_th S) w, upd (s_dp S) (s_th S) b, s_wa S, s_le S) (s_th S)), (s_th (w_fall (s_pe S, s_th S, s_da S, s_dr S, s_kn S, s_sh S, s_an S, upd (s_ki S) (s_th S) kd, upd (s_we S) (s_th S) w, upd (s_dp S) (s_th S) b, s_wa S, s_le S) (s_th S))) + 1, s_da (w_fall (s_pe S, s_th S, s_da S, s_dr S, s_kn S, s_sh S, s_an S, upd (s_ki S) (s_th S) kd, upd (s_we S) (s_th S) w, upd (s_dp S) (s_th S) b, s_wa S, s_le S) (s_th S)), s_dr (w_fall (s_pe S, s_th S, s_da S, s_dr S, s_kn S, s_sh S, s_an S, upd (s_ki S) (s_th S) kd, upd (s_we S) (s_th S) w, upd (s_dp S) (s_th S) b, s_wa S, s_le S) (s_th S)), s_kn (w_fall (s_pe S, s_th S, s_da S, s_dr S, s_kn S, s_sh S, s_an S, upd (s_ki S) (s_th S) kd, upd (s_we S) (s_th S) w, upd (s_dp S) (s_th S) b, s_wa S, s_le S) (s_th S)), s_sh (w_fall (s_pe S, s_th S, s_da S, s_dr S, s_kn S, s_sh S, s_an S, upd (s_ki S) (s_th S) kd, upd (s_we S) (s_th S) w, upd (s_dp S) (s_th S) b, s_wa S, s_le S) (s_th S)), s_an (w_fall (s_pe S, s_th S, s_da S, s_dr S, s_kn S, s_sh S, s_an S, upd (s_ki S) (s_th S) kd, upd (s_we S) (s_th S) w, upd (s_dp S) (s_th S) b, s_wa S, s_le S) (s_th S)), s_ki (w_fall (s_pe S, s_th S, s_da S, s_dr S, s_kn S, s_sh S, s_an S, upd (s_ki S) (s_th S) kd, upd (s_we S) (s_th S) w, upd (s_dp S) (s_th S) b, s_wa S, s_le S) (s_th S)), s_we (w_fall (s_pe S, s_th S, s_da S, s_dr S, s_kn S, s_sh S, s_an S, upd (s_ki S) (s_th S) kd, upd (s_we S) (s_th S) w, upd (s_dp S) (s_th S) b, s_wa S, s_le S) (s_th S)), s_dp (w_fall (s_pe S, s_th S, s_da S, s_dr S, s_kn S, s_sh S, s_an S, upd (s_ki S) (s_th S) kd, upd (s_we S) (s_th S) w, upd (s_dp S) (s_th S) b, s_wa S, s_le S) (s_th S)), s_wa (w_fall (s_pe S, s_th S, s_da S, s_dr S, s_kn S, s_sh S, s_an S, upd (s_ki S) (s_th S) kd, upd (s_we S) (s_th S) w, upd (s_dp S) (s_th S) b, s_wa S, s_le S) (s_th S)), s_le (w_fall (s_pe S, s_th S, s_da S, s_dr S, s_kn S, s_sh S, s_an S, upd (s_ki S) (s_th S) kd, upd (s_we S) (s_th S) w, upd (s_dp S) (s_th S) b, s_wa S, s_le S) (s_th S))) M) rfl (ws' := [ml m cI (s_pe (w_fall (s_pe S, s_th S, s_da S, s_dr S, s_kn S, s_sh S, s_an S, upd (s_ki S) (s_th S) kd, upd (s_we S) (s_th S) w, upd (s_dp S) (s_th S) b, s_wa S, s_le S) (s_th S)), (s_th (w_fall (s_pe S, s_th S, s_da S, s_dr S, s_kn S, s_sh S, s_an S, upd (s_ki S) (s_th S) kd, upd (s_we S) (s_th S) w, upd (s_dp S) (s_th S) b, s_wa S, s_le S) (s_th S))) + 1, s_da (w_fall (s_pe S, s_th S, s_da S, s_dr S, s_kn S, s_sh S, s_an S, upd (s_ki S) (s_th S) kd, upd (s_we S) (s_th S) w, upd (s_dp S) (s_th S) b, s_wa S, s_le S) (s_th S)), s_dr (w_fall (s_pe S, s_th S, s_da S, s_dr S, s_kn S, s_sh S, s_an S, upd (s_ki S) (s_th S) kd, upd (s_we S) (s_th S) w, upd (s_dp S) (s_th S) b, s_wa S, s_le S) (s_th S)), s_kn (w_fall (s_pe S, s_th S, s_da S, s_dr S, s_kn S, s_sh S, s_an S, upd (s_ki S) (s_th S) kd, upd (s_we S) (s_th S) w, upd (s_dp S) (s_th S) b, s_wa S, s_le S) (s_th S)), s_sh (w_fall (s_pe S, s_th S, s_da S, s_dr S, s_kn S, s_sh S, s_an S, upd (s_ki S) (s_th S) kd, upd (s_we S) (s_th S) w, upd (s_dp S) (s_th S) b, s_wa S, s_le S) (s_th S)), s_an (w_fall (s_pe S, s_th S, s_da S, s_dr S, s_kn S, s_sh S, s_an S, upd (s_ki S) (s_th S) kd, upd (s_we S) (s_th S) w, upd (s_dp S) (s_th S) b, s_wa S, s_le S) (s_th S)), s_ki (w_fall (s_pe S, s_th S, s_da S, s_dr S, s_kn S, s_sh S, s_an S, upd (s_ki S) (s_th S) kd, upd (s_we S) (s_th S) w, upd (s_dp S) (s_th S) b, s_wa S, s_le S) (s_th S)), s_we (w_fall (s_pe S, s_th S, s_da S, s_dr S, s_kn S, s_sh S, s_an S, upd (s_ki S) (s_th S) kd, upd (s_we S) (s_th S) w, upd (s_dp S) (s_th S) b, s_wa S, s_le S) (s_th S)), s_dp (w_fall (s_pe S, s_th S, s_da S, s_dr S, s_kn S, s_sh S, s_an S, upd (s_ki S) (s_th S) kd, upd (s_we S) (s_th S) w, upd (s_dp S) (s_th S) b, s_wa S, s_le S) (s_th S)), s_wa (w_fall (s_pe S, s_th S, s_da S, s_dr S, s_kn S, s_sh S, s_an S, upd (s_ki S) (s_th S) kd, upd (s_we S) (s_th S) w, upd (s_dp S) (s_th S) b, s_wa S, s_le S) (s_th S)), s_le (w_fall (s_pe S, s_th S, s_da S, s_dr S, s_kn S, s_sh S, s_an S, upd (s_ki S) (s_th S) kd, upd (s_we S) (s_th S) w, upd (s_dp S) (s_th S) b, s_wa S, s_le S) (s_th S))) M]) rfl ?_
  exact G.vret X Rr dX7_adds_48 (pv_mk (by simp [w_add, w_push, w_fall, upd]))

set_option maxRecDepth 20000 in
theorem tX7_isAsking (l : Launch) (D : va_G) (cI cW : ClassId) (m : Nat → Nat) (S : WS) (M : MS) (i : Nat) (hi : i < 9) : CT l D cI cW yX7_isAsking cX7_isAsking 2 (some .boolean) ⟨0, 0, 0, 0⟩ [.ref (m 0), .int (nI i)] ([ml m cI S M]) (PI (b2i (ask S i)) ([ml m cI S M])) := by
  refine CT.of RX7 rfl (by decide +kernel) (Nat.le_of_ble_eq_true rfl) [(0, .ref (m 0)), (1, .int (nI i))] rfl (fun x X Rr hnm => ?_)
  refine G.al X dX7_isAsking_0 0 rfl ?_
  refine G.get X fX7_31 dX7_isAsking_1 0 0 rfl rfl rfl ?_
  refine G.il X dX7_isAsking_4 1 rfl ?_
  refine G.nld X (i := i) dX7_isAsking_5 0 8 rfl rfl (by omega) (by decide) ?_
  refine G.z_ne X (a := ((s_wa S) i)) dX7_isAsking_6 (fun b6 => ?_) (fun b6 => ?_)
  · refine G.pu X dX7_isAsking_22 ?_
    exact G.zret X Rr (v := 0) (Or.inl rfl) dX7_isAsking_23 (pi_mk (by simp [ask, b2i, b6]) (by rfl))
  · refine G.al X dX7_isAsking_9 0 rfl ?_
    refine G.get X fX7_34 dX7_isAsking_10 0 0 rfl rfl rfl ?_
    refine G.il X dX7_isAsking_13 1 rfl ?_
    refine G.nld X (i := i) dX7_isAsking_14 0 9 rfl rfl (by omega) (by decide) ?_
    refine G.z_le X (a := ((s_le S) i)) dX7_isAsking_15 (fun b15 => ?_) (fun b15 => ?_)
    · refine G.pu X dX7_isAsking_22 ?_
      exact G.zret X Rr (v := 0) (Or.inl rfl) dX7_isAsking_23 (pi_mk (by simp [ask, b2i, b6, b15]) (by rfl))
    · refine G.pu X dX7_isAsking_18 ?_
      refine G.go X dX7_isAsking_19 ?_
      exact G.zret X Rr (v := 1) (Or.inr rfl) dX7_isAsking_23 (pi_mk (by simp [ask, b2i, b6, b15]) (by rfl))

set_option maxRecDepth 20000 in
theorem tX7_isKnown (l : Launch) (D : va_G) (cI cW : ClassId) (m : Nat → Nat) (S : WS) (M : MS) (i : Nat) (hS : Ok S) (hi : i < s_th S) : CT l D cI cW yX7_isKnown cX7_isKnown 2 (some .boolean) ⟨1, 0, 0, 22⟩ [.ref (m 0), .int (nI i)] ([ml m cI S M]) (PI (b2i (w_kno S i)) ([ml m cI S M])) := by
  refine CT.of RX7 rfl (by decide +kernel) (Nat.le_of_ble_eq_true rfl) [(0, .ref (m 0)), (1, .int (nI i))] rfl (fun x X Rr hnm => ?_)
  have hth := hS.th
  have hpe := hS.pe
  refine G.al X dX7_isKnown_0 0 rfl ?_
  refine G.get X fX7_13 dX7_isKnown_1 0 0 rfl rfl rfl ?_
  refine G.al X dX7_isKnown_4 0 rfl ?_
  refine G.get X fX7_28 dX7_isKnown_5 0 0 rfl rfl rfl ?_
  refine G.il X dX7_isKnown_8 1 rfl ?_
  refine G.nld X (i := i) dX7_isKnown_9 0 7 rfl rfl (by omega) (by decide) ?_
  obtain ⟨q, hq, eq⟩ := hS.dp hi
  have cq : (s_dp S i).toNatClampNeg = q := by rw [eq]; exact nI_clamp (by omega)
  rw [eq]
  refine G.nld X (i := q) dX7_isKnown_10 0 2 rfl rfl (by omega) (by decide) ?_
  refine G.al X dX7_isKnown_11 0 rfl ?_
  refine G.il X dX7_isKnown_12 1 rfl ?_
  refine G.cvi X kX7_topicOf lX7_175 dX7_isKnown_13 (tX7_topicOf l D cI cW m S M i (by omega)) ⟨Nat.le_of_ble_eq_true rfl, Nat.le_of_ble_eq_true rfl⟩ ⟨Nat.zero_le _, Nat.zero_le _⟩ [0] rfl ⟨rfl, rfl⟩ rfl rfl 0 0 rfl rfl rfl rfl (Nat.le_of_ble_eq_true rfl) (ff_cons (ml_fst _ _ _ _ _ _) (ff_nil)) (ws' := [ml m cI S M]) rfl ?_
  refine G.csti X kX7_has lX7_178 dX7_isKnown_16 (tX7_has l D cI cW ((s_kn S) q) (top S i)) ⟨Nat.le_of_ble_eq_true rfl, Nat.le_of_ble_eq_true rfl⟩ ⟨Nat.zero_le _, Nat.zero_le _⟩ [] rfl ⟨rfl, rfl⟩ rfl rfl rfl (Nat.le_of_ble_eq_true rfl) (ff_nil) (ws' := [ml m cI S M]) rfl ?_
  exact G.bret X Rr dX7_isKnown_19 (pi_mk (by simp [w_kno, cq]) (by rfl))

set_option maxRecDepth 20000 in
theorem tX7_asking (l : Launch) (D : va_G) (cI cW : ClassId) (m : Nat → Nat) (S : WS) (M : MS) (hth : s_th S ≤ 9) : CT l D cI cW yX7_asking cX7_asking 3 (some .int) ⟨1, 0, 0, 21⟩ [.ref (m 0)] ([ml m cI S M]) (PI (askb S (s_th S)) ([ml m cI S M])) := by
  refine CT.of RX7 rfl (by decide +kernel) (Nat.le_of_ble_eq_true rfl) [(0, .ref (m 0))] rfl (fun x X Rr hnm => ?_)
  refine G.pu X dX7_asking_0 ?_
  refine G.is X dX7_asking_1 (by decide) (lv' := [(1, .int 0), (0, .ref (m 0))]) rfl ?_
  refine G.pu X dX7_asking_2 ?_
  refine G.is X dX7_asking_3 (by decide) (lv' := [(2, .int 0), (1, .int 0), (0, .ref (m 0))]) rfl ?_
  have L4 : ∀ k, k ≤ s_th S → G x 0 0 ([ml m cI S M]) 4 [(2, .int (nI k)), (1, .int (askb S k)), (0, .ref (m 0))] [] := by
    refine loop_dn (s_th S) _ ?_ ?_
    · refine G.il X dX7_asking_4 0 rfl ?_
      refine G.al X dX7_asking_5 2 rfl ?_
      refine G.get X fX7_58 dX7_asking_6 0 0 rfl rfl rfl ?_
      refine G.n_ge X (a := s_th S) (b := s_th S) (by omega) (by omega) dX7_asking_9 (fun b9 => ?_) (fun b9 => absurd b9 (by omega))
      refine G.il X dX7_asking_36 1 rfl ?_
      exact G.iret X Rr (v := (askb S (s_th S))) dX7_asking_37 (pi_mk (by rfl) (by rfl))
    · intro k hk ih4
      refine G.il X dX7_asking_4 0 rfl ?_
      refine G.al X dX7_asking_5 2 rfl ?_
      refine G.get X fX7_58 dX7_asking_6 0 0 rfl rfl rfl ?_
      refine G.n_ge X (a := k) (b := s_th S) (by omega) (by omega) dX7_asking_9 (fun b9 => absurd b9 (by omega)) (fun b9 => ?_)
      refine G.il X dX7_asking_12 1 rfl ?_
      refine G.al X dX7_asking_13 2 rfl ?_
      refine G.il X dX7_asking_14 0 rfl ?_
      refine G.cvi X kX7_isAsking lX7_181 dX7_asking_15 (tX7_isAsking l D cI cW m S M k (by omega)) ⟨Nat.le_of_ble_eq_true rfl, Nat.le_of_ble_eq_true rfl⟩ ⟨Nat.zero_le _, Nat.zero_le _⟩ [0] rfl ⟨rfl, rfl⟩ rfl rfl 0 0 rfl rfl rfl rfl (Nat.le_of_ble_eq_true rfl) (ff_cons (ml_fst _ _ _ _ _ _) (ff_nil)) (ws' := [ml m cI S M]) rfl ?_
      refine G.b_eq X dX7_asking_18 (fun b18 => ?_) (fun b18 => ?_)
      · refine G.pu X dX7_asking_27 ?_
        refine G.ior X dX7_asking_28 ?_
        refine G.is X dX7_asking_29 (by decide) (lv' := [(1, .int ((askb S k) ||| 0)), (2, .int (nI k)), (0, .ref (m 0))]) rfl ?_
        refine G.iinc X dX7_asking_30 1 rfl (v' := nI (k + 1)) (nI_inc k) (by decide) (lv' := [(2, .int (nI (k + 1))), (1, .int ((askb S k) ||| 0)), (0, .ref (m 0))]) rfl ?_
        refine G.go X dX7_asking_33 ?_
        rw [show (askb S (k + 1)) = ((askb S k) ||| 0) from (by simp [askb, b9, b18])] at ih4
        exact ih4
      · refine G.pu X dX7_asking_21 ?_
        refine G.il X dX7_asking_22 0 rfl ?_
        refine G.ishl X dX7_asking_23 ?_
        refine G.go X dX7_asking_24 ?_
        refine G.ior X dX7_asking_28 ?_
        refine G.is X dX7_asking_29 (by decide) (lv' := [(1, .int ((askb S k) ||| (1 <<< ((nI k) &&& 31)))), (2, .int (nI k)), (0, .ref (m 0))]) rfl ?_
        refine G.iinc X dX7_asking_30 1 rfl (v' := nI (k + 1)) (nI_inc k) (by decide) (lv' := [(2, .int (nI (k + 1))), (1, .int ((askb S k) ||| (1 <<< ((nI k) &&& 31)))), (0, .ref (m 0))]) rfl ?_
        refine G.go X dX7_asking_33 ?_
        rw [show (askb S (k + 1)) = ((askb S k) ||| (1 <<< ((nI k) &&& 31))) from (by simp [askb, b9, b18])] at ih4
        exact ih4
  have L4 := L4 0 (Nat.zero_le _)
  exact L4

set_option maxRecDepth 20000 in
theorem tX7_water (l : Launch) (D : va_G) (cI cW : ClassId) (m : Nat → Nat) (S : WS) (M : MS) (hth : s_th S ≤ 9) : CT l D cI cW yX7_water cX7_water 1 (some .int) ⟨2, 0, 0, 43⟩ [.ref (m 0)] ([ml m cI S M]) (PI (b2i (w_wat S)) ([ml m cI S M])) := by
  refine CT.of RX7 rfl (by decide +kernel) (Nat.le_of_ble_eq_true rfl) [(0, .ref (m 0))] rfl (fun x X Rr hnm => ?_)
  refine G.al X dX7_water_0 0 rfl ?_
  refine G.cvi X kX7_asking lX7_184 dX7_water_1 (tX7_asking l D cI cW m S M (by omega)) ⟨Nat.le_of_ble_eq_true rfl, Nat.le_of_ble_eq_true rfl⟩ ⟨Nat.zero_le _, Nat.zero_le _⟩ [0] rfl ⟨rfl, rfl⟩ rfl rfl 0 0 rfl rfl rfl rfl (Nat.le_of_ble_eq_true rfl) (ff_cons (ml_fst _ _ _ _ _ _) (ff_nil)) (ws' := [ml m cI S M]) rfl ?_
  refine G.z_ne X (a := (askb S (s_th S))) dX7_water_4 (fun b4 => ?_) (fun b4 => ?_)
  · refine G.pu X dX7_water_11 ?_
    exact G.iret X Rr (v := 0) dX7_water_12 (pi_mk (by rw [wat_askb S hth]; simp [b2i, b4]) (by rfl))
  · refine G.pu X dX7_water_7 ?_
    refine G.go X dX7_water_8 ?_
    exact G.iret X Rr (v := 1) dX7_water_12 (pi_mk (by rw [wat_askb S hth]; simp [b2i, b4]) (by rfl))

set_option maxRecDepth 20000 in
theorem tX7_answersOne (l : Launch) (D : va_G) (cI cW : ClassId) (m : Nat → Nat) (S : WS) (M : MS) (i : Nat) (hS : Ok S) (hi : i < s_th S) : CT l D cI cW yX7_answersOne cX7_answersOne 2 none ⟨0, 0, 0, 0⟩ [.ref (m 0), .int (nI i)] ([ml m cI S M]) (PV ([ml m cI (w_ans1 S i) M])) := by
  refine CT.of RX7 rfl (by decide +kernel) (Nat.le_of_ble_eq_true rfl) [(0, .ref (m 0)), (1, .int (nI i))] rfl (fun x X Rr hnm => ?_)
  have hth := hS.th
  have hpe := hS.pe
  refine G.al X dX7_answersOne_0 0 rfl ?_
  refine G.get X fX7_34 dX7_answersOne_1 0 0 rfl rfl rfl ?_
  refine G.il X dX7_answersOne_4 1 rfl ?_
  refine G.dup2 X dX7_answersOne_5 ?_
  refine G.nld X (i := i) dX7_answersOne_6 0 9 rfl rfl (by omega) (by decide) ?_
  refine G.pu X dX7_answersOne_7 ?_
  refine G.isub X dX7_answersOne_8 ?_
  refine G.nst X (i := i) dX7_answersOne_9 0 9 rfl rfl (by omega) (by decide) (blk' := ml m cI (s_pe S, s_th S, s_da S, s_dr S, s_kn S, s_sh S, s_an S, s_ki S, s_we S, s_dp S, s_wa S, upd (s_le S) i (((s_le S) i) - 1)) M) rfl (ws' := [ml m cI (s_pe S, s_th S, s_da S, s_dr S, s_kn S, s_sh S, s_an S, s_ki S, s_we S, s_dp S, s_wa S, upd (s_le S) i (((s_le S) i) - 1)) M]) rfl ?_
  refine G.al X dX7_answersOne_10 0 rfl ?_
  refine G.get X fX7_19 dX7_answersOne_11 0 0 rfl rfl rfl ?_
  refine G.al X dX7_answersOne_14 0 rfl ?_
  refine G.get X fX7_28 dX7_answersOne_15 0 0 rfl rfl rfl ?_
  refine G.il X dX7_answersOne_18 1 rfl ?_
  refine G.nld X (i := i) dX7_answersOne_19 0 7 rfl rfl (by omega) (by decide) ?_
  obtain ⟨q, hq, eq⟩ := hS.dp hi
  have cq : (s_dp S i).toNatClampNeg = q := by rw [eq]; exact nI_clamp (by omega)
  rw [eq]
  refine G.dup2 X dX7_answersOne_20 ?_
  refine G.nld X (i := q) dX7_answersOne_21 0 4 rfl rfl (by omega) (by decide) ?_
  refine G.al X dX7_answersOne_22 0 rfl ?_
  refine G.get X fX7_19 dX7_answersOne_23 0 0 rfl rfl rfl ?_
  refine G.al X dX7_answersOne_26 0 rfl ?_
  refine G.get X fX7_28 dX7_answersOne_27 0 0 rfl rfl rfl ?_
  refine G.il X dX7_answersOne_30 1 rfl ?_
  refine G.nld X (i := i) dX7_answersOne_31 0 7 rfl rfl (by omega) (by decide) ?_
  rw [eq]
  refine G.nld X (i := q) dX7_answersOne_32 0 4 rfl rfl (by omega) (by decide) ?_
  refine G.pu X dX7_answersOne_33 ?_
  refine G.c_ge X (a := ((s_an S) q)) (b := 999) dX7_answersOne_36 (fun b36 => ?_) (fun b36 => ?_)
  · refine G.pu X dX7_answersOne_43 ?_
    refine G.iadd X dX7_answersOne_44 ?_
    refine G.nst X (i := q) dX7_answersOne_45 0 4 rfl rfl (by omega) (by decide) (blk' := ml m cI (s_pe S, s_th S, s_da S, s_dr S, s_kn S, s_sh S, upd (s_an S) q (((s_an S) q) + 0), s_ki S, s_we S, s_dp S, s_wa S, upd (s_le S) i (((s_le S) i) - 1)) M) rfl (ws' := [ml m cI (s_pe S, s_th S, s_da S, s_dr S, s_kn S, s_sh S, upd (s_an S) q (((s_an S) q) + 0), s_ki S, s_we S, s_dp S, s_wa S, upd (s_le S) i (((s_le S) i) - 1)) M]) rfl ?_
    exact G.vret X Rr dX7_answersOne_46 (pv_mk (by simp [w_ans1, cq, upd_id, b36]))
  · refine G.pu X dX7_answersOne_39 ?_
    refine G.go X dX7_answersOne_40 ?_
    refine G.iadd X dX7_answersOne_44 ?_
    refine G.nst X (i := q) dX7_answersOne_45 0 4 rfl rfl (by omega) (by decide) (blk' := ml m cI (s_pe S, s_th S, s_da S, s_dr S, s_kn S, s_sh S, upd (s_an S) q (((s_an S) q) + 1), s_ki S, s_we S, s_dp S, s_wa S, upd (s_le S) i (((s_le S) i) - 1)) M) rfl (ws' := [ml m cI (s_pe S, s_th S, s_da S, s_dr S, s_kn S, s_sh S, upd (s_an S) q (((s_an S) q) + 1), s_ki S, s_we S, s_dp S, s_wa S, upd (s_le S) i (((s_le S) i) - 1)) M]) rfl ?_
    exact G.vret X Rr dX7_answersOne_46 (pv_mk (by simp [w_ans1, cq, upd_id, b36]))
