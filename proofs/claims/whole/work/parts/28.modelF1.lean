set_option maxRecDepth 20000 in
theorem tX7_two_bad1 (l : Launch) (D : va_G) (cI cW : ClassId) (m : Nat → Nat) (S : WS) (M : MS) (i : Int32) (j : Int32) (n : Int32) (hS : Ok S) (hb : z_in i (s_pe S) = false) : CT l D cI cW yX7_two cX7_two 6 (some .int) ⟨1, 0, 0, 21⟩ [.ref (m 0), .int i, .int j, .int n] ([ml m cI S M]) (PI (-1) ([ml m cI S (m_no M 1)])) := by
  refine CT.of RX7 rfl (by decide +kernel) (Nat.le_of_ble_eq_true rfl) [(0, .ref (m 0)), (1, .int i), (2, .int j), (3, .int n)] rfl (fun x X Rr hnm => ?_)
  have hth := hS.th
  have hpe := hS.pe
  refine G.al X dX7_two_0 0 rfl ?_
  refine G.il X dX7_two_1 1 rfl ?_
  refine G.cvi X kX7_isOne lX7_106 dX7_two_2 (tX7_isOne l D cI cW m S M i) ⟨Nat.le_of_ble_eq_true rfl, Nat.le_of_ble_eq_true rfl⟩ ⟨Nat.zero_le _, Nat.zero_le _⟩ [0] rfl ⟨rfl, rfl⟩ rfl rfl 0 0 rfl rfl rfl rfl (Nat.le_of_ble_eq_true rfl) (ff_cons (ml_fst _ _ _ _ _ _) (ff_nil)) (ws' := [ml m cI S M]) rfl ?_
  refine G.b_eq X dX7_two_5 (fun b5 => ?_) (fun b5 => absurd (Eq.trans (Eq.symm hb) b5) (by decide))
  refine G.pu X dX7_two_21 ?_
  refine G.go X dX7_two_22 ?_
  refine G.is X dX7_two_29 (by decide) (lv' := [(4, .int (-1)), (0, .ref (m 0)), (1, .int i), (2, .int j), (3, .int n)]) rfl ?_
  refine G.il X dX7_two_31 0 rfl ?_
  refine G.z_eq X (a := (-1)) dX7_two_33 (fun b33 => absurd b33 (by decide)) (fun b33 => ?_)
  refine G.al X dX7_two_36 1 rfl ?_
  refine G.il X dX7_two_37 0 rfl ?_
  refine G.cvi X kX7_no lX7_74 dX7_two_39 (tX7_no l D cI cW m S M 1 (by omega) (by omega)) ⟨Nat.le_of_ble_eq_true rfl, Nat.le_of_ble_eq_true rfl⟩ ⟨Nat.zero_le _, Nat.zero_le _⟩ [0] rfl ⟨rfl, rfl⟩ rfl rfl 0 0 rfl rfl rfl rfl (Nat.le_of_ble_eq_true rfl) (ff_cons (ml_fst _ _ _ _ _ _) (ff_nil)) (ws' := [ml m cI S (m_no M 1)]) rfl ?_
  exact G.iret X Rr (v := (-(nI 1))) dX7_two_42 (pi_mk (by rfl) (by rfl))

set_option maxRecDepth 20000 in
theorem tX7_two_bad2 (l : Launch) (D : va_G) (cI cW : ClassId) (m : Nat → Nat) (S : WS) (M : MS) (i : Nat) (j : Int32) (n : Int32) (hS : Ok S) (hi : i < s_pe S) (hb : z_in j (s_pe S) = false) : CT l D cI cW yX7_two cX7_two 6 (some .int) ⟨1, 0, 0, 21⟩ [.ref (m 0), .int (nI i), .int j, .int n] ([ml m cI S M]) (PI (-1) ([ml m cI S (m_no M 1)])) := by
  refine CT.of RX7 rfl (by decide +kernel) (Nat.le_of_ble_eq_true rfl) [(0, .ref (m 0)), (1, .int (nI i)), (2, .int j), (3, .int n)] rfl (fun x X Rr hnm => ?_)
  have hth := hS.th
  have hpe := hS.pe
  refine G.al X dX7_two_0 0 rfl ?_
  refine G.il X dX7_two_1 1 rfl ?_
  refine G.cvi X kX7_isOne lX7_106 dX7_two_2 (tX7_isOne l D cI cW m S M (nI i)) ⟨Nat.le_of_ble_eq_true rfl, Nat.le_of_ble_eq_true rfl⟩ ⟨Nat.zero_le _, Nat.zero_le _⟩ [0] rfl ⟨rfl, rfl⟩ rfl rfl 0 0 rfl rfl rfl rfl (Nat.le_of_ble_eq_true rfl) (ff_cons (ml_fst _ _ _ _ _ _) (ff_nil)) (ws' := [ml m cI S M]) rfl ?_
  refine G.b_eq X dX7_two_5 (fun b5 => absurd (Eq.trans (Eq.symm (z_in_nI hi (by omega))) b5) (by decide)) (fun b5 => ?_)
  refine G.al X dX7_two_8 0 rfl ?_
  refine G.il X dX7_two_9 2 rfl ?_
  refine G.cvi X kX7_isOne lX7_106 dX7_two_10 (tX7_isOne l D cI cW m S M j) ⟨Nat.le_of_ble_eq_true rfl, Nat.le_of_ble_eq_true rfl⟩ ⟨Nat.zero_le _, Nat.zero_le _⟩ [0] rfl ⟨rfl, rfl⟩ rfl rfl 0 0 rfl rfl rfl rfl (Nat.le_of_ble_eq_true rfl) (ff_cons (ml_fst _ _ _ _ _ _) (ff_nil)) (ws' := [ml m cI S M]) rfl ?_
  refine G.b_eq X dX7_two_13 (fun b13 => ?_) (fun b13 => absurd (Eq.trans (Eq.symm hb) b13) (by decide))
  refine G.pu X dX7_two_21 ?_
  refine G.go X dX7_two_22 ?_
  refine G.is X dX7_two_29 (by decide) (lv' := [(4, .int (-1)), (0, .ref (m 0)), (1, .int (nI i)), (2, .int j), (3, .int n)]) rfl ?_
  refine G.il X dX7_two_31 0 rfl ?_
  refine G.z_eq X (a := (-1)) dX7_two_33 (fun b33 => absurd b33 (by decide)) (fun b33 => ?_)
  refine G.al X dX7_two_36 1 rfl ?_
  refine G.il X dX7_two_37 0 rfl ?_
  refine G.cvi X kX7_no lX7_74 dX7_two_39 (tX7_no l D cI cW m S M 1 (by omega) (by omega)) ⟨Nat.le_of_ble_eq_true rfl, Nat.le_of_ble_eq_true rfl⟩ ⟨Nat.zero_le _, Nat.zero_le _⟩ [0] rfl ⟨rfl, rfl⟩ rfl rfl 0 0 rfl rfl rfl rfl (Nat.le_of_ble_eq_true rfl) (ff_cons (ml_fst _ _ _ _ _ _) (ff_nil)) (ws' := [ml m cI S (m_no M 1)]) rfl ?_
  exact G.iret X Rr (v := (-(nI 1))) dX7_two_42 (pi_mk (by rfl) (by rfl))

set_option maxRecDepth 20000 in
theorem tX7_two_bad3 (l : Launch) (D : va_G) (cI cW : ClassId) (m : Nat → Nat) (S : WS) (M : MS) (i : Nat) (j : Nat) (n : Int32) (hS : Ok S) (hi : i < s_pe S) (hj : j < s_pe S) (hb : i = j) : CT l D cI cW yX7_two cX7_two 6 (some .int) ⟨1, 0, 0, 21⟩ [.ref (m 0), .int (nI i), .int (nI j), .int n] ([ml m cI S M]) (PI (-1) ([ml m cI S (m_no M 1)])) := by
  refine CT.of RX7 rfl (by decide +kernel) (Nat.le_of_ble_eq_true rfl) [(0, .ref (m 0)), (1, .int (nI i)), (2, .int (nI j)), (3, .int n)] rfl (fun x X Rr hnm => ?_)
  have hth := hS.th
  have hpe := hS.pe
  refine G.al X dX7_two_0 0 rfl ?_
  refine G.il X dX7_two_1 1 rfl ?_
  refine G.cvi X kX7_isOne lX7_106 dX7_two_2 (tX7_isOne l D cI cW m S M (nI i)) ⟨Nat.le_of_ble_eq_true rfl, Nat.le_of_ble_eq_true rfl⟩ ⟨Nat.zero_le _, Nat.zero_le _⟩ [0] rfl ⟨rfl, rfl⟩ rfl rfl 0 0 rfl rfl rfl rfl (Nat.le_of_ble_eq_true rfl) (ff_cons (ml_fst _ _ _ _ _ _) (ff_nil)) (ws' := [ml m cI S M]) rfl ?_
  refine G.b_eq X dX7_two_5 (fun b5 => absurd (Eq.trans (Eq.symm (z_in_nI hi (by omega))) b5) (by decide)) (fun b5 => ?_)
  refine G.al X dX7_two_8 0 rfl ?_
  refine G.il X dX7_two_9 2 rfl ?_
  refine G.cvi X kX7_isOne lX7_106 dX7_two_10 (tX7_isOne l D cI cW m S M (nI j)) ⟨Nat.le_of_ble_eq_true rfl, Nat.le_of_ble_eq_true rfl⟩ ⟨Nat.zero_le _, Nat.zero_le _⟩ [0] rfl ⟨rfl, rfl⟩ rfl rfl 0 0 rfl rfl rfl rfl (Nat.le_of_ble_eq_true rfl) (ff_cons (ml_fst _ _ _ _ _ _) (ff_nil)) (ws' := [ml m cI S M]) rfl ?_
  refine G.b_eq X dX7_two_13 (fun b13 => absurd (Eq.trans (Eq.symm (z_in_nI hj (by omega))) b13) (by decide)) (fun b13 => ?_)
  refine G.il X dX7_two_16 1 rfl ?_
  refine G.il X dX7_two_17 2 rfl ?_
  refine G.n_ne X (a := i) (b := j) (by omega) (by omega) dX7_two_18 (fun b18 => absurd b18 (by omega)) (fun b18 => ?_)
  refine G.pu X dX7_two_21 ?_
  refine G.go X dX7_two_22 ?_
  refine G.is X dX7_two_29 (by decide) (lv' := [(4, .int (-1)), (0, .ref (m 0)), (1, .int (nI i)), (2, .int (nI j)), (3, .int n)]) rfl ?_
  refine G.il X dX7_two_31 0 rfl ?_
  refine G.z_eq X (a := (-1)) dX7_two_33 (fun b33 => absurd b33 (by decide)) (fun b33 => ?_)
  refine G.al X dX7_two_36 1 rfl ?_
  refine G.il X dX7_two_37 0 rfl ?_
  refine G.cvi X kX7_no lX7_74 dX7_two_39 (tX7_no l D cI cW m S M 1 (by omega) (by omega)) ⟨Nat.le_of_ble_eq_true rfl, Nat.le_of_ble_eq_true rfl⟩ ⟨Nat.zero_le _, Nat.zero_le _⟩ [0] rfl ⟨rfl, rfl⟩ rfl rfl 0 0 rfl rfl rfl rfl (Nat.le_of_ble_eq_true rfl) (ff_cons (ml_fst _ _ _ _ _ _) (ff_nil)) (ws' := [ml m cI S (m_no M 1)]) rfl ?_
  exact G.iret X Rr (v := (-(nI 1))) dX7_two_42 (pi_mk (by rfl) (by rfl))

set_option maxRecDepth 20000 in
theorem tX7_two_lo (l : Launch) (D : va_G) (cI cW : ClassId) (m : Nat → Nat) (S : WS) (M : MS) (i : Nat) (j : Nat) (n : Int32) (hS : Ok S) (hi : i < s_pe S) (hj : j < s_pe S) (hij : ¬ i = j) (h1 : n < 1) : CT l D cI cW yX7_two cX7_two 6 (some .int) ⟨2, 0, 0, 42⟩ [.ref (m 0), .int (nI i), .int (nI j), .int n] ([ml m cI S M]) (PI (-4) ([ml m cI S (m_no M 4)])) := by
  refine CT.of RX7 rfl (by decide +kernel) (Nat.le_of_ble_eq_true rfl) [(0, .ref (m 0)), (1, .int (nI i)), (2, .int (nI j)), (3, .int n)] rfl (fun x X Rr hnm => ?_)
  have hth := hS.th
  have hpe := hS.pe
  refine G.al X dX7_two_0 0 rfl ?_
  refine G.il X dX7_two_1 1 rfl ?_
  refine G.cvi X kX7_isOne lX7_106 dX7_two_2 (tX7_isOne l D cI cW m S M (nI i)) ⟨Nat.le_of_ble_eq_true rfl, Nat.le_of_ble_eq_true rfl⟩ ⟨Nat.zero_le _, Nat.zero_le _⟩ [0] rfl ⟨rfl, rfl⟩ rfl rfl 0 0 rfl rfl rfl rfl (Nat.le_of_ble_eq_true rfl) (ff_cons (ml_fst _ _ _ _ _ _) (ff_nil)) (ws' := [ml m cI S M]) rfl ?_
  refine G.b_eq X dX7_two_5 (fun b5 => absurd (Eq.trans (Eq.symm (z_in_nI hi (by omega))) b5) (by decide)) (fun b5 => ?_)
  refine G.al X dX7_two_8 0 rfl ?_
  refine G.il X dX7_two_9 2 rfl ?_
  refine G.cvi X kX7_isOne lX7_106 dX7_two_10 (tX7_isOne l D cI cW m S M (nI j)) ⟨Nat.le_of_ble_eq_true rfl, Nat.le_of_ble_eq_true rfl⟩ ⟨Nat.zero_le _, Nat.zero_le _⟩ [0] rfl ⟨rfl, rfl⟩ rfl rfl 0 0 rfl rfl rfl rfl (Nat.le_of_ble_eq_true rfl) (ff_cons (ml_fst _ _ _ _ _ _) (ff_nil)) (ws' := [ml m cI S M]) rfl ?_
  refine G.b_eq X dX7_two_13 (fun b13 => absurd (Eq.trans (Eq.symm (z_in_nI hj (by omega))) b13) (by decide)) (fun b13 => ?_)
  refine G.il X dX7_two_16 1 rfl ?_
  refine G.il X dX7_two_17 2 rfl ?_
  refine G.n_ne X (a := i) (b := j) (by omega) (by omega) dX7_two_18 (fun b18 => ?_) (fun b18 => absurd b18 (by omega))
  refine G.il X dX7_two_25 3 rfl ?_
  refine G.csti X kX7_notForty lX7_241 dX7_two_26 (tX7_notForty_lo l D cI cW n h1) ⟨Nat.le_of_ble_eq_true rfl, Nat.le_of_ble_eq_true rfl⟩ ⟨Nat.zero_le _, Nat.zero_le _⟩ [] rfl ⟨rfl, rfl⟩ rfl rfl rfl (Nat.le_of_ble_eq_true rfl) (ff_nil) (ws' := [ml m cI S M]) rfl ?_
  refine G.is X dX7_two_29 (by decide) (lv' := [(4, .int (-4)), (0, .ref (m 0)), (1, .int (nI i)), (2, .int (nI j)), (3, .int n)]) rfl ?_
  refine G.il X dX7_two_31 0 rfl ?_
  refine G.z_eq X (a := (-4)) dX7_two_33 (fun b33 => absurd b33 (by decide)) (fun b33 => ?_)
  refine G.al X dX7_two_36 1 rfl ?_
  refine G.il X dX7_two_37 0 rfl ?_
  refine G.cvi X kX7_no lX7_74 dX7_two_39 (tX7_no l D cI cW m S M 4 (by omega) (by omega)) ⟨Nat.le_of_ble_eq_true rfl, Nat.le_of_ble_eq_true rfl⟩ ⟨Nat.zero_le _, Nat.zero_le _⟩ [0] rfl ⟨rfl, rfl⟩ rfl rfl 0 0 rfl rfl rfl rfl (Nat.le_of_ble_eq_true rfl) (ff_cons (ml_fst _ _ _ _ _ _) (ff_nil)) (ws' := [ml m cI S (m_no M 4)]) rfl ?_
  exact G.iret X Rr (v := (-(nI 4))) dX7_two_42 (pi_mk (by rfl) (by rfl))

set_option maxRecDepth 20000 in
theorem tX7_two_hi (l : Launch) (D : va_G) (cI cW : ClassId) (m : Nat → Nat) (S : WS) (M : MS) (i : Nat) (j : Nat) (n : Int32) (hS : Ok S) (hi : i < s_pe S) (hj : j < s_pe S) (hij : ¬ i = j) (h1 : ¬ n < 1) (h2 : 40 < n) : CT l D cI cW yX7_two cX7_two 6 (some .int) ⟨2, 0, 0, 42⟩ [.ref (m 0), .int (nI i), .int (nI j), .int n] ([ml m cI S M]) (PI (-6) ([ml m cI S (m_no M 6)])) := by
  refine CT.of RX7 rfl (by decide +kernel) (Nat.le_of_ble_eq_true rfl) [(0, .ref (m 0)), (1, .int (nI i)), (2, .int (nI j)), (3, .int n)] rfl (fun x X Rr hnm => ?_)
  have hth := hS.th
  have hpe := hS.pe
  refine G.al X dX7_two_0 0 rfl ?_
  refine G.il X dX7_two_1 1 rfl ?_
  refine G.cvi X kX7_isOne lX7_106 dX7_two_2 (tX7_isOne l D cI cW m S M (nI i)) ⟨Nat.le_of_ble_eq_true rfl, Nat.le_of_ble_eq_true rfl⟩ ⟨Nat.zero_le _, Nat.zero_le _⟩ [0] rfl ⟨rfl, rfl⟩ rfl rfl 0 0 rfl rfl rfl rfl (Nat.le_of_ble_eq_true rfl) (ff_cons (ml_fst _ _ _ _ _ _) (ff_nil)) (ws' := [ml m cI S M]) rfl ?_
  refine G.b_eq X dX7_two_5 (fun b5 => absurd (Eq.trans (Eq.symm (z_in_nI hi (by omega))) b5) (by decide)) (fun b5 => ?_)
  refine G.al X dX7_two_8 0 rfl ?_
  refine G.il X dX7_two_9 2 rfl ?_
  refine G.cvi X kX7_isOne lX7_106 dX7_two_10 (tX7_isOne l D cI cW m S M (nI j)) ⟨Nat.le_of_ble_eq_true rfl, Nat.le_of_ble_eq_true rfl⟩ ⟨Nat.zero_le _, Nat.zero_le _⟩ [0] rfl ⟨rfl, rfl⟩ rfl rfl 0 0 rfl rfl rfl rfl (Nat.le_of_ble_eq_true rfl) (ff_cons (ml_fst _ _ _ _ _ _) (ff_nil)) (ws' := [ml m cI S M]) rfl ?_
  refine G.b_eq X dX7_two_13 (fun b13 => absurd (Eq.trans (Eq.symm (z_in_nI hj (by omega))) b13) (by decide)) (fun b13 => ?_)
  refine G.il X dX7_two_16 1 rfl ?_
  refine G.il X dX7_two_17 2 rfl ?_
  refine G.n_ne X (a := i) (b := j) (by omega) (by omega) dX7_two_18 (fun b18 => ?_) (fun b18 => absurd b18 (by omega))
  refine G.il X dX7_two_25 3 rfl ?_
  refine G.csti X kX7_notForty lX7_241 dX7_two_26 (tX7_notForty_hi l D cI cW n h1 h2) ⟨Nat.le_of_ble_eq_true rfl, Nat.le_of_ble_eq_true rfl⟩ ⟨Nat.zero_le _, Nat.zero_le _⟩ [] rfl ⟨rfl, rfl⟩ rfl rfl rfl (Nat.le_of_ble_eq_true rfl) (ff_nil) (ws' := [ml m cI S M]) rfl ?_
  refine G.is X dX7_two_29 (by decide) (lv' := [(4, .int (-6)), (0, .ref (m 0)), (1, .int (nI i)), (2, .int (nI j)), (3, .int n)]) rfl ?_
  refine G.il X dX7_two_31 0 rfl ?_
  refine G.z_eq X (a := (-6)) dX7_two_33 (fun b33 => absurd b33 (by decide)) (fun b33 => ?_)
  refine G.al X dX7_two_36 1 rfl ?_
  refine G.il X dX7_two_37 0 rfl ?_
  refine G.cvi X kX7_no lX7_74 dX7_two_39 (tX7_no l D cI cW m S M 6 (by omega) (by omega)) ⟨Nat.le_of_ble_eq_true rfl, Nat.le_of_ble_eq_true rfl⟩ ⟨Nat.zero_le _, Nat.zero_le _⟩ [0] rfl ⟨rfl, rfl⟩ rfl rfl 0 0 rfl rfl rfl rfl (Nat.le_of_ble_eq_true rfl) (ff_cons (ml_fst _ _ _ _ _ _) (ff_nil)) (ws' := [ml m cI S (m_no M 6)]) rfl ?_
  exact G.iret X Rr (v := (-(nI 6))) dX7_two_42 (pi_mk (by rfl) (by rfl))

set_option maxRecDepth 20000 in
theorem tX7_two_ok (l : Launch) (D : va_G) (cI cW : ClassId) (m : Nat → Nat) (S : WS) (M : MS) (i : Nat) (j : Nat) (n : Nat) (hS : Ok S) (hco : m_co M = false) (hi : i < s_pe S) (hj : j < s_pe S) (hij : ¬ i = j) (h1 : 1 ≤ n) (h2 : n ≤ 40) : CT l D cI cW yX7_two cX7_two 6 (some .int) ⟨6, 0, 0, 135⟩ [.ref (m 0), .int (nI i), .int (nI j), .int (nI n)] ([ml m cI S M]) (PIE (w_two S i j n) (fun M9 : {M9 : MS // Mq 64 M M9} => [ml m cI S M9.1])) := by
  refine CT.of RX7 rfl (by decide +kernel) (Nat.le_of_ble_eq_true rfl) [(0, .ref (m 0)), (1, .int (nI i)), (2, .int (nI j)), (3, .int (nI n))] rfl (fun x X Rr hnm => ?_)
  have hth := hS.th
  have hpe := hS.pe
  refine G.al X dX7_two_0 0 rfl ?_
  refine G.il X dX7_two_1 1 rfl ?_
  refine G.cvi X kX7_isOne lX7_106 dX7_two_2 (tX7_isOne l D cI cW m S M (nI i)) ⟨Nat.le_of_ble_eq_true rfl, Nat.le_of_ble_eq_true rfl⟩ ⟨Nat.zero_le _, Nat.zero_le _⟩ [0] rfl ⟨rfl, rfl⟩ rfl rfl 0 0 rfl rfl rfl rfl (Nat.le_of_ble_eq_true rfl) (ff_cons (ml_fst _ _ _ _ _ _) (ff_nil)) (ws' := [ml m cI S M]) rfl ?_
  refine G.b_eq X dX7_two_5 (fun b5 => absurd (Eq.trans (Eq.symm (z_in_nI hi (by omega))) b5) (by decide)) (fun b5 => ?_)
  refine G.al X dX7_two_8 0 rfl ?_
  refine G.il X dX7_two_9 2 rfl ?_
  refine G.cvi X kX7_isOne lX7_106 dX7_two_10 (tX7_isOne l D cI cW m S M (nI j)) ⟨Nat.le_of_ble_eq_true rfl, Nat.le_of_ble_eq_true rfl⟩ ⟨Nat.zero_le _, Nat.zero_le _⟩ [0] rfl ⟨rfl, rfl⟩ rfl rfl 0 0 rfl rfl rfl rfl (Nat.le_of_ble_eq_true rfl) (ff_cons (ml_fst _ _ _ _ _ _) (ff_nil)) (ws' := [ml m cI S M]) rfl ?_
  refine G.b_eq X dX7_two_13 (fun b13 => absurd (Eq.trans (Eq.symm (z_in_nI hj (by omega))) b13) (by decide)) (fun b13 => ?_)
  refine G.il X dX7_two_16 1 rfl ?_
  refine G.il X dX7_two_17 2 rfl ?_
  refine G.n_ne X (a := i) (b := j) (by omega) (by omega) dX7_two_18 (fun b18 => ?_) (fun b18 => absurd b18 (by omega))
  refine G.il X dX7_two_25 3 rfl ?_
  refine G.csti X kX7_notForty lX7_241 dX7_two_26 (tX7_notForty_ok l D cI cW n h1 h2) ⟨Nat.le_of_ble_eq_true rfl, Nat.le_of_ble_eq_true rfl⟩ ⟨Nat.zero_le _, Nat.zero_le _⟩ [] rfl ⟨rfl, rfl⟩ rfl rfl rfl (Nat.le_of_ble_eq_true rfl) (ff_nil) (ws' := [ml m cI S M]) rfl ?_
  refine G.is X dX7_two_29 (by decide) (lv' := [(4, .int 0), (0, .ref (m 0)), (1, .int (nI i)), (2, .int (nI j)), (3, .int (nI n))]) rfl ?_
  refine G.il X dX7_two_31 0 rfl ?_
  refine G.z_eq X (a := 0) dX7_two_33 (fun b33 => ?_) (fun b33 => absurd b33 (by decide))
  refine G.al X dX7_two_43 1 rfl ?_
  refine G.il X dX7_two_44 2 rfl ?_
  refine G.il X dX7_two_45 3 rfl ?_
  refine G.il X dX7_two_46 4 rfl ?_
  refine G.cvve X kX7_findGets lX7_267 dX7_two_47 (tX7_findGets l D cI cW m S M i j n hS hco hi hj (by omega)) ⟨Nat.le_of_ble_eq_true rfl, Nat.le_of_ble_eq_true rfl⟩ ⟨Nat.zero_le _, Nat.zero_le _⟩ [0] rfl ⟨rfl, rfl⟩ rfl rfl 0 0 rfl rfl rfl rfl (Nat.le_of_ble_eq_true rfl) (fun _ => (ff_cons (ml_fst _ _ _ _ _ _) (ff_nil))) (f8 := fun M9_47 : {M9_47 : MS // Mq 64 M M9_47 ∧ m_ge M9_47 = m_gf (m_ge M) S i j n 4} => [ml m cI S M9_47.1]) (fun _ => rfl) (fun M9_47 => ?_)
  refine G.canon 0 15 rfl rfl (g := m_gg S i j n) (fun u hu => by show m_ge M9_47.1 u = _; rw [M9_47.2.2]; exact m_gf_gg _ S i j n u hu) (blk' := ml m cI S (m_rf M9_47.1, m_co M9_47.1, m_tx M9_47.1, m_lt M9_47.1, m_la M9_47.1, m_to M9_47.1, m_tn M9_47.1, m_at M9_47.1, m_st M9_47.1, m_kp M9_47.1, m_hi M9_47.1, m_kg M9_47.1, m_cu M9_47.1, m_lr M9_47.1, m_gg S i j n, m_rw M9_47.1, m_rn M9_47.1)) rfl (ws' := [ml m cI S (m_rf M9_47.1, m_co M9_47.1, m_tx M9_47.1, m_lt M9_47.1, m_la M9_47.1, m_to M9_47.1, m_tn M9_47.1, m_at M9_47.1, m_st M9_47.1, m_kp M9_47.1, m_hi M9_47.1, m_kg M9_47.1, m_cu M9_47.1, m_lr M9_47.1, m_gg S i j n, m_rw M9_47.1, m_rn M9_47.1)]) rfl ?_
  refine G.pu X dX7_two_50 ?_
  refine G.is X dX7_two_51 (by decide) (lv' := [(5, .int 0), (4, .int 0), (0, .ref (m 0)), (1, .int (nI i)), (2, .int (nI j)), (3, .int (nI n))]) rfl ?_
  have L53 : ∀ k, k ≤ 4 → (∀ u, u < k → w_st (w_ga S i j n) (w_gb S i j n) u = false) → G x 0 0 ([ml m cI S (m_rf M9_47.1, m_co M9_47.1, m_tx M9_47.1, m_lt M9_47.1, m_la M9_47.1, m_to M9_47.1, m_tn M9_47.1, m_at M9_47.1, m_st M9_47.1, m_kp M9_47.1, m_hi M9_47.1, m_kg M9_47.1, m_cu M9_47.1, m_lr M9_47.1, m_gg S i j n, m_rw M9_47.1, m_rn M9_47.1)]) 53 [(5, .int (nI k)), (0, .ref (m 0)), (1, .int (nI i)), (2, .int (nI j)), (3, .int (nI n))] [] := by
    refine loop_dn 4 _ ?_ ?_
    · intro hinv53
      refine G.il X dX7_two_53 0 rfl ?_
      refine G.pu X dX7_two_55 ?_
      refine G.n_ge X (a := 4) (b := 4) (by omega) (by omega) dX7_two_56 (fun b56 => ?_) (fun b56 => absurd b56 (by omega))
      refine G.pu X dX7_two_128 ?_
      exact G.iret X Rr (v := (-9)) dX7_two_130 (pie_mk (qk (M := M) (N := m_ges M9_47.1 (m_gg S i j n)) (M9_47.2.1.tr (mq_ges 64 _ _) (Nat.le_refl _))) (by rw [w_two, fi_none (P := w_st (w_ga S i j n) (w_gb S i j n)) hinv53]) (by rfl))
    · intro k hk ih53 hinv53
      rcases (show k = 0 ∨ k = 1 ∨ k = 2 ∨ k = 3 by omega) with rfl | rfl | rfl | rfl
      · refine G.il X dX7_two_53 0 rfl ?_
        refine G.pu X dX7_two_55 ?_
        refine G.c_ge X (a := 0) (b := 4) dX7_two_56 (fun b56 => absurd b56 (by decide)) (fun b56 => ?_)
        refine G.al X dX7_two_59 1 rfl ?_
        refine G.get X fX7_52 dX7_two_60 0 0 rfl rfl rfl ?_
        refine G.pu X dX7_two_63 ?_
        refine G.il X dX7_two_64 0 rfl ?_
        refine G.pu X dX7_two_66 ?_
        refine G.ixor X dX7_two_67 ?_
        refine G.top (b := 2) (by decide) ?_
        refine G.imul X dX7_two_68 ?_
        refine G.top (b := 4) (by decide) ?_
        refine G.nld X (i := 4) dX7_two_69 0 15 rfl rfl (by omega) (by decide) ?_
        refine G.top (b := w_ga S i j n 2) rfl ?_
        refine G.al X dX7_two_70 1 rfl ?_
        refine G.get X fX7_52 dX7_two_71 0 0 rfl rfl rfl ?_
        refine G.pu X dX7_two_74 ?_
        refine G.il X dX7_two_75 0 rfl ?_
        refine G.imul X dX7_two_77 ?_
        refine G.top (b := 0) (by decide) ?_
        refine G.nld X (i := 0) dX7_two_78 0 15 rfl rfl (by omega) (by decide) ?_
        refine G.top (b := w_ga S i j n 0) rfl ?_
        refine G.c_gt X (a := (w_ga S i j n 2)) (b := (w_ga S i j n 0)) dX7_two_79 (fun b79 => ?_) (fun b79 => ?_)
        · refine G.iinc X dX7_two_122 0 rfl (v' := 1) (by decide) (by decide) (lv' := [(5, .int 1), (0, .ref (m 0)), (1, .int (nI i)), (2, .int (nI j)), (3, .int (nI n))]) rfl ?_
          refine G.go X dX7_two_125 ?_
          rw [show (nI (0 + 1)) = 1 from (by rfl)] at ih53
          exact ih53 (lt_snoc hinv53 (by simp [-Int32.not_lt, w_st, b79]))
        · refine G.al X dX7_two_82 1 rfl ?_
          refine G.get X fX7_52 dX7_two_83 0 0 rfl rfl rfl ?_
          refine G.pu X dX7_two_86 ?_
          refine G.il X dX7_two_87 0 rfl ?_
          refine G.pu X dX7_two_89 ?_
          refine G.ixor X dX7_two_90 ?_
          refine G.top (b := 1) (by decide) ?_
          refine G.imul X dX7_two_91 ?_
          refine G.top (b := 2) (by decide) ?_
          refine G.pu X dX7_two_92 ?_
          refine G.iadd X dX7_two_93 ?_
          refine G.top (b := 3) (by decide) ?_
          refine G.nld X (i := 3) dX7_two_94 0 15 rfl rfl (by omega) (by decide) ?_
          refine G.top (b := w_gb S i j n 1) rfl ?_
          refine G.al X dX7_two_95 1 rfl ?_
          refine G.get X fX7_52 dX7_two_96 0 0 rfl rfl rfl ?_
          refine G.pu X dX7_two_99 ?_
          refine G.il X dX7_two_100 0 rfl ?_
          refine G.imul X dX7_two_102 ?_
          refine G.top (b := 0) (by decide) ?_
          refine G.pu X dX7_two_103 ?_
          refine G.iadd X dX7_two_104 ?_
          refine G.top (b := 1) (by decide) ?_
          refine G.nld X (i := 1) dX7_two_105 0 15 rfl rfl (by omega) (by decide) ?_
          refine G.top (b := w_gb S i j n 0) rfl ?_
          refine G.c_gt X (a := (w_gb S i j n 1)) (b := (w_gb S i j n 0)) dX7_two_106 (fun b106 => ?_) (fun b106 => ?_)
          · refine G.iinc X dX7_two_122 0 rfl (v' := 1) (by decide) (by decide) (lv' := [(5, .int 1), (0, .ref (m 0)), (1, .int (nI i)), (2, .int (nI j)), (3, .int (nI n))]) rfl ?_
            refine G.go X dX7_two_125 ?_
            rw [show (nI (0 + 1)) = 1 from (by rfl)] at ih53
            exact ih53 (lt_snoc hinv53 (by simp [-Int32.not_lt, w_st, b79, b106]))
          · refine G.pu X dX7_two_109 ?_
            refine G.il X dX7_two_111 0 rfl ?_
            refine G.pu X dX7_two_113 ?_
            refine G.idiv X dX7_two_114 (by decide) ?_
            refine G.top (b := 0) (by decide) ?_
            refine G.imul X dX7_two_115 ?_
            refine G.top (b := 0) (by decide) ?_
            refine G.il X dX7_two_116 0 rfl ?_
            refine G.pu X dX7_two_118 ?_
            refine G.irem X dX7_two_119 (by decide) ?_
            refine G.top (b := 0) (by decide) ?_
            refine G.iadd X dX7_two_120 ?_
            refine G.top (b := 0) (by decide) ?_
            exact G.iret X Rr (v := 0) dX7_two_121 (pie_mk (qk (M := M) (N := m_ges M9_47.1 (m_gg S i j n)) (M9_47.2.1.tr (mq_ges 64 _ _) (Nat.le_refl _))) (by rw [w_two, fi_hit (P := w_st (w_ga S i j n) (w_gb S i j n)) (k := 0) hinv53 (by simp [-Int32.not_lt, w_st, b79, b106]) (by omega)]; decide) (by rfl))
      · refine G.il X dX7_two_53 0 rfl ?_
        refine G.pu X dX7_two_55 ?_
        refine G.c_ge X (a := 1) (b := 4) dX7_two_56 (fun b56 => absurd b56 (by decide)) (fun b56 => ?_)
        refine G.al X dX7_two_59 1 rfl ?_
        refine G.get X fX7_52 dX7_two_60 0 0 rfl rfl rfl ?_
        refine G.pu X dX7_two_63 ?_
        refine G.il X dX7_two_64 0 rfl ?_
        refine G.pu X dX7_two_66 ?_
        refine G.ixor X dX7_two_67 ?_
        refine G.top (b := 3) (by decide) ?_
        refine G.imul X dX7_two_68 ?_
        refine G.top (b := 6) (by decide) ?_
        refine G.nld X (i := 6) dX7_two_69 0 15 rfl rfl (by omega) (by decide) ?_
        refine G.top (b := w_ga S i j n 3) rfl ?_
        refine G.al X dX7_two_70 1 rfl ?_
        refine G.get X fX7_52 dX7_two_71 0 0 rfl rfl rfl ?_
        refine G.pu X dX7_two_74 ?_
        refine G.il X dX7_two_75 0 rfl ?_
        refine G.imul X dX7_two_77 ?_
        refine G.top (b := 2) (by decide) ?_
        refine G.nld X (i := 2) dX7_two_78 0 15 rfl rfl (by omega) (by decide) ?_
        refine G.top (b := w_ga S i j n 1) rfl ?_
        refine G.c_gt X (a := (w_ga S i j n 3)) (b := (w_ga S i j n 1)) dX7_two_79 (fun b79 => ?_) (fun b79 => ?_)
        · refine G.iinc X dX7_two_122 0 rfl (v' := 2) (by decide) (by decide) (lv' := [(5, .int 2), (0, .ref (m 0)), (1, .int (nI i)), (2, .int (nI j)), (3, .int (nI n))]) rfl ?_
          refine G.go X dX7_two_125 ?_
          rw [show (nI (1 + 1)) = 2 from (by rfl)] at ih53
          exact ih53 (lt_snoc hinv53 (by simp [-Int32.not_lt, w_st, b79]))
        · refine G.al X dX7_two_82 1 rfl ?_
          refine G.get X fX7_52 dX7_two_83 0 0 rfl rfl rfl ?_
          refine G.pu X dX7_two_86 ?_
          refine G.il X dX7_two_87 0 rfl ?_
          refine G.pu X dX7_two_89 ?_
          refine G.ixor X dX7_two_90 ?_
          refine G.top (b := 0) (by decide) ?_
          refine G.imul X dX7_two_91 ?_
          refine G.top (b := 0) (by decide) ?_
          refine G.pu X dX7_two_92 ?_
          refine G.iadd X dX7_two_93 ?_
          refine G.top (b := 1) (by decide) ?_
          refine G.nld X (i := 1) dX7_two_94 0 15 rfl rfl (by omega) (by decide) ?_
          refine G.top (b := w_gb S i j n 0) rfl ?_
          refine G.al X dX7_two_95 1 rfl ?_
          refine G.get X fX7_52 dX7_two_96 0 0 rfl rfl rfl ?_
          refine G.pu X dX7_two_99 ?_
          refine G.il X dX7_two_100 0 rfl ?_
          refine G.imul X dX7_two_102 ?_
          refine G.top (b := 2) (by decide) ?_
          refine G.pu X dX7_two_103 ?_
          refine G.iadd X dX7_two_104 ?_
          refine G.top (b := 3) (by decide) ?_
          refine G.nld X (i := 3) dX7_two_105 0 15 rfl rfl (by omega) (by decide) ?_
          refine G.top (b := w_gb S i j n 1) rfl ?_
          refine G.c_gt X (a := (w_gb S i j n 0)) (b := (w_gb S i j n 1)) dX7_two_106 (fun b106 => ?_) (fun b106 => ?_)
          · refine G.iinc X dX7_two_122 0 rfl (v' := 2) (by decide) (by decide) (lv' := [(5, .int 2), (0, .ref (m 0)), (1, .int (nI i)), (2, .int (nI j)), (3, .int (nI n))]) rfl ?_
            refine G.go X dX7_two_125 ?_
            rw [show (nI (1 + 1)) = 2 from (by rfl)] at ih53
            exact ih53 (lt_snoc hinv53 (by simp [-Int32.not_lt, w_st, b79, b106]))
          · refine G.pu X dX7_two_109 ?_
            refine G.il X dX7_two_111 0 rfl ?_
            refine G.pu X dX7_two_113 ?_
            refine G.idiv X dX7_two_114 (by decide) ?_
            refine G.top (b := 0) (by decide) ?_
            refine G.imul X dX7_two_115 ?_
            refine G.top (b := 0) (by decide) ?_
            refine G.il X dX7_two_116 0 rfl ?_
            refine G.pu X dX7_two_118 ?_
            refine G.irem X dX7_two_119 (by decide) ?_
            refine G.top (b := 1) (by decide) ?_
            refine G.iadd X dX7_two_120 ?_
            refine G.top (b := 1) (by decide) ?_
            exact G.iret X Rr (v := 1) dX7_two_121 (pie_mk (qk (M := M) (N := m_ges M9_47.1 (m_gg S i j n)) (M9_47.2.1.tr (mq_ges 64 _ _) (Nat.le_refl _))) (by rw [w_two, fi_hit (P := w_st (w_ga S i j n) (w_gb S i j n)) (k := 1) hinv53 (by simp [-Int32.not_lt, w_st, b79, b106]) (by omega)]; decide) (by rfl))
      · refine G.il X dX7_two_53 0 rfl ?_
        refine G.pu X dX7_two_55 ?_
        refine G.c_ge X (a := 2) (b := 4) dX7_two_56 (fun b56 => absurd b56 (by decide)) (fun b56 => ?_)
        refine G.al X dX7_two_59 1 rfl ?_
        refine G.get X fX7_52 dX7_two_60 0 0 rfl rfl rfl ?_
        refine G.pu X dX7_two_63 ?_
        refine G.il X dX7_two_64 0 rfl ?_
        refine G.pu X dX7_two_66 ?_
        refine G.ixor X dX7_two_67 ?_
        refine G.top (b := 0) (by decide) ?_
        refine G.imul X dX7_two_68 ?_
        refine G.top (b := 0) (by decide) ?_
        refine G.nld X (i := 0) dX7_two_69 0 15 rfl rfl (by omega) (by decide) ?_
        refine G.top (b := w_ga S i j n 0) rfl ?_
        refine G.al X dX7_two_70 1 rfl ?_
        refine G.get X fX7_52 dX7_two_71 0 0 rfl rfl rfl ?_
        refine G.pu X dX7_two_74 ?_
        refine G.il X dX7_two_75 0 rfl ?_
        refine G.imul X dX7_two_77 ?_
        refine G.top (b := 4) (by decide) ?_
        refine G.nld X (i := 4) dX7_two_78 0 15 rfl rfl (by omega) (by decide) ?_
        refine G.top (b := w_ga S i j n 2) rfl ?_
        refine G.c_gt X (a := (w_ga S i j n 0)) (b := (w_ga S i j n 2)) dX7_two_79 (fun b79 => ?_) (fun b79 => ?_)
        · refine G.iinc X dX7_two_122 0 rfl (v' := 3) (by decide) (by decide) (lv' := [(5, .int 3), (0, .ref (m 0)), (1, .int (nI i)), (2, .int (nI j)), (3, .int (nI n))]) rfl ?_
          refine G.go X dX7_two_125 ?_
          rw [show (nI (2 + 1)) = 3 from (by rfl)] at ih53
          exact ih53 (lt_snoc hinv53 (by simp [-Int32.not_lt, w_st, b79]))
        · refine G.al X dX7_two_82 1 rfl ?_
          refine G.get X fX7_52 dX7_two_83 0 0 rfl rfl rfl ?_
          refine G.pu X dX7_two_86 ?_
          refine G.il X dX7_two_87 0 rfl ?_
          refine G.pu X dX7_two_89 ?_
          refine G.ixor X dX7_two_90 ?_
          refine G.top (b := 3) (by decide) ?_
          refine G.imul X dX7_two_91 ?_
          refine G.top (b := 6) (by decide) ?_
          refine G.pu X dX7_two_92 ?_
          refine G.iadd X dX7_two_93 ?_
          refine G.top (b := 7) (by decide) ?_
          refine G.nld X (i := 7) dX7_two_94 0 15 rfl rfl (by omega) (by decide) ?_
          refine G.top (b := w_gb S i j n 3) rfl ?_
          refine G.al X dX7_two_95 1 rfl ?_
          refine G.get X fX7_52 dX7_two_96 0 0 rfl rfl rfl ?_
          refine G.pu X dX7_two_99 ?_
          refine G.il X dX7_two_100 0 rfl ?_
          refine G.imul X dX7_two_102 ?_
          refine G.top (b := 4) (by decide) ?_
          refine G.pu X dX7_two_103 ?_
          refine G.iadd X dX7_two_104 ?_
          refine G.top (b := 5) (by decide) ?_
          refine G.nld X (i := 5) dX7_two_105 0 15 rfl rfl (by omega) (by decide) ?_
          refine G.top (b := w_gb S i j n 2) rfl ?_
          refine G.c_gt X (a := (w_gb S i j n 3)) (b := (w_gb S i j n 2)) dX7_two_106 (fun b106 => ?_) (fun b106 => ?_)
          · refine G.iinc X dX7_two_122 0 rfl (v' := 3) (by decide) (by decide) (lv' := [(5, .int 3), (0, .ref (m 0)), (1, .int (nI i)), (2, .int (nI j)), (3, .int (nI n))]) rfl ?_
            refine G.go X dX7_two_125 ?_
            rw [show (nI (2 + 1)) = 3 from (by rfl)] at ih53
            exact ih53 (lt_snoc hinv53 (by simp [-Int32.not_lt, w_st, b79, b106]))
          · refine G.pu X dX7_two_109 ?_
            refine G.il X dX7_two_111 0 rfl ?_
            refine G.pu X dX7_two_113 ?_
            refine G.idiv X dX7_two_114 (by decide) ?_
            refine G.top (b := 1) (by decide) ?_
            refine G.imul X dX7_two_115 ?_
            refine G.top (b := 10) (by decide) ?_
            refine G.il X dX7_two_116 0 rfl ?_
            refine G.pu X dX7_two_118 ?_
            refine G.irem X dX7_two_119 (by decide) ?_
            refine G.top (b := 0) (by decide) ?_
            refine G.iadd X dX7_two_120 ?_
            refine G.top (b := 10) (by decide) ?_
            exact G.iret X Rr (v := 10) dX7_two_121 (pie_mk (qk (M := M) (N := m_ges M9_47.1 (m_gg S i j n)) (M9_47.2.1.tr (mq_ges 64 _ _) (Nat.le_refl _))) (by rw [w_two, fi_hit (P := w_st (w_ga S i j n) (w_gb S i j n)) (k := 2) hinv53 (by simp [-Int32.not_lt, w_st, b79, b106]) (by omega)]; decide) (by rfl))
      · refine G.il X dX7_two_53 0 rfl ?_
        refine G.pu X dX7_two_55 ?_
        refine G.c_ge X (a := 3) (b := 4) dX7_two_56 (fun b56 => absurd b56 (by decide)) (fun b56 => ?_)
        refine G.al X dX7_two_59 1 rfl ?_
        refine G.get X fX7_52 dX7_two_60 0 0 rfl rfl rfl ?_
        refine G.pu X dX7_two_63 ?_
        refine G.il X dX7_two_64 0 rfl ?_
        refine G.pu X dX7_two_66 ?_
        refine G.ixor X dX7_two_67 ?_
        refine G.top (b := 1) (by decide) ?_
        refine G.imul X dX7_two_68 ?_
        refine G.top (b := 2) (by decide) ?_
        refine G.nld X (i := 2) dX7_two_69 0 15 rfl rfl (by omega) (by decide) ?_
        refine G.top (b := w_ga S i j n 1) rfl ?_
        refine G.al X dX7_two_70 1 rfl ?_
        refine G.get X fX7_52 dX7_two_71 0 0 rfl rfl rfl ?_
        refine G.pu X dX7_two_74 ?_
        refine G.il X dX7_two_75 0 rfl ?_
        refine G.imul X dX7_two_77 ?_
        refine G.top (b := 6) (by decide) ?_
        refine G.nld X (i := 6) dX7_two_78 0 15 rfl rfl (by omega) (by decide) ?_
        refine G.top (b := w_ga S i j n 3) rfl ?_
        refine G.c_gt X (a := (w_ga S i j n 1)) (b := (w_ga S i j n 3)) dX7_two_79 (fun b79 => ?_) (fun b79 => ?_)
        · refine G.iinc X dX7_two_122 0 rfl (v' := 4) (by decide) (by decide) (lv' := [(5, .int 4), (0, .ref (m 0)), (1, .int (nI i)), (2, .int (nI j)), (3, .int (nI n))]) rfl ?_
          refine G.go X dX7_two_125 ?_
          rw [show (nI (3 + 1)) = 4 from (by rfl)] at ih53
          exact ih53 (lt_snoc hinv53 (by simp [-Int32.not_lt, w_st, b79]))
        · refine G.al X dX7_two_82 1 rfl ?_
          refine G.get X fX7_52 dX7_two_83 0 0 rfl rfl rfl ?_
          refine G.pu X dX7_two_86 ?_
          refine G.il X dX7_two_87 0 rfl ?_
          refine G.pu X dX7_two_89 ?_
          refine G.ixor X dX7_two_90 ?_
          refine G.top (b := 2) (by decide) ?_
          refine G.imul X dX7_two_91 ?_
          refine G.top (b := 4) (by decide) ?_
          refine G.pu X dX7_two_92 ?_
          refine G.iadd X dX7_two_93 ?_
          refine G.top (b := 5) (by decide) ?_
          refine G.nld X (i := 5) dX7_two_94 0 15 rfl rfl (by omega) (by decide) ?_
          refine G.top (b := w_gb S i j n 2) rfl ?_
          refine G.al X dX7_two_95 1 rfl ?_
          refine G.get X fX7_52 dX7_two_96 0 0 rfl rfl rfl ?_
          refine G.pu X dX7_two_99 ?_
          refine G.il X dX7_two_100 0 rfl ?_
          refine G.imul X dX7_two_102 ?_
          refine G.top (b := 6) (by decide) ?_
          refine G.pu X dX7_two_103 ?_
          refine G.iadd X dX7_two_104 ?_
          refine G.top (b := 7) (by decide) ?_
          refine G.nld X (i := 7) dX7_two_105 0 15 rfl rfl (by omega) (by decide) ?_
          refine G.top (b := w_gb S i j n 3) rfl ?_
          refine G.c_gt X (a := (w_gb S i j n 2)) (b := (w_gb S i j n 3)) dX7_two_106 (fun b106 => ?_) (fun b106 => ?_)
          · refine G.iinc X dX7_two_122 0 rfl (v' := 4) (by decide) (by decide) (lv' := [(5, .int 4), (0, .ref (m 0)), (1, .int (nI i)), (2, .int (nI j)), (3, .int (nI n))]) rfl ?_
            refine G.go X dX7_two_125 ?_
            rw [show (nI (3 + 1)) = 4 from (by rfl)] at ih53
            exact ih53 (lt_snoc hinv53 (by simp [-Int32.not_lt, w_st, b79, b106]))
          · refine G.pu X dX7_two_109 ?_
            refine G.il X dX7_two_111 0 rfl ?_
            refine G.pu X dX7_two_113 ?_
            refine G.idiv X dX7_two_114 (by decide) ?_
            refine G.top (b := 1) (by decide) ?_
            refine G.imul X dX7_two_115 ?_
            refine G.top (b := 10) (by decide) ?_
            refine G.il X dX7_two_116 0 rfl ?_
            refine G.pu X dX7_two_118 ?_
            refine G.irem X dX7_two_119 (by decide) ?_
            refine G.top (b := 1) (by decide) ?_
            refine G.iadd X dX7_two_120 ?_
            refine G.top (b := 11) (by decide) ?_
            exact G.iret X Rr (v := 11) dX7_two_121 (pie_mk (qk (M := M) (N := m_ges M9_47.1 (m_gg S i j n)) (M9_47.2.1.tr (mq_ges 64 _ _) (Nat.le_refl _))) (by rw [w_two, fi_hit (P := w_st (w_ga S i j n) (w_gb S i j n)) (k := 3) hinv53 (by simp [-Int32.not_lt, w_st, b79, b106]) (by omega)]; decide) (by rfl))
  refine G.lvsub [0, 2, 3, 4, 5] (lv' := [(5, .int 0), (0, .ref (m 0)), (1, .int (nI i)), (2, .int (nI j)), (3, .int (nI n))]) rfl ?_
  have L53 := L53 0 (Nat.zero_le _) (fun u hu => absurd hu (by omega))
  exact L53

set_option maxRecDepth 20000 in
theorem tX7_divisor (l : Launch) (D : va_G) (cI cW : ClassId) (a : Int64) (b : Int64) (r : Nat) (hz : (l_it a b r).2 = 0) (hnz : ∀ j, j < r → ¬ (l_it a b j).2 = 0) : CT l D cI cW yX7_divisor cX7_divisor 10 (some .long) ⟨0, 0, 0, 0⟩ [.long a, .long b] ([]) (PJ ((l_it a b r).1) ([])) := by
  refine CT.of RX7 rfl (by decide +kernel) (Nat.le_of_ble_eq_true rfl) [(0, .long a), (2, .long b)] rfl (fun x X Rr hnm => ?_)
  refine G.ll X dX7_divisor_0 0 rfl ?_
  refine G.ls X dX7_divisor_1 (by decide) (lv' := [(4, .long a), (0, .long a), (2, .long b)]) rfl ?_
  refine G.ll X dX7_divisor_3 2 rfl ?_
  refine G.ls X dX7_divisor_4 (by decide) (lv' := [(6, .long b), (4, .long a), (0, .long a), (2, .long b)]) rfl ?_
  have L6 : ∀ k, k ≤ r → G x 0 0 ([]) 6 [(6, .long ((l_it a b k).2)), (4, .long ((l_it a b k).1)), (0, .long a), (2, .long b)] [] := by
    refine loop_dn r _ ?_ ?_
    · refine G.ll X dX7_divisor_6 0 rfl ?_
      refine G.lc X dX7_divisor_8 (v := 0) rfl ?_
      refine G.lcmp X dX7_divisor_9 ?_
      refine G.l_eq X dX7_divisor_10 (fun b10 => ?_) (fun b10 => absurd b10 ((fun h => h hz)))
      refine G.ll X dX7_divisor_31 1 rfl ?_
      exact G.lret X Rr dX7_divisor_33 (pj_mk (by rfl) (by rfl))
    · intro k hk ih6
      refine G.ll X dX7_divisor_6 0 rfl ?_
      refine G.lc X dX7_divisor_8 (v := 0) rfl ?_
      refine G.lcmp X dX7_divisor_9 ?_
      refine G.l_eq X dX7_divisor_10 (fun b10 => absurd b10 ((hnz k hk))) (fun b10 => ?_)
      refine G.ll X dX7_divisor_13 1 rfl ?_
      refine G.ll X dX7_divisor_15 0 rfl ?_
      refine G.lrem X dX7_divisor_17 (hnz k hk) ?_
      refine G.ls X dX7_divisor_18 (by decide) (lv' := [(8, .long (((l_it a b k).1) - ((l_it a b k).1) / ((l_it a b k).2) * ((l_it a b k).2))), (6, .long ((l_it a b k).2)), (4, .long ((l_it a b k).1)), (0, .long a), (2, .long b)]) rfl ?_
      refine G.ll X dX7_divisor_20 1 rfl ?_
      refine G.ls X dX7_divisor_22 (by decide) (lv' := [(4, .long ((l_it a b k).2)), (8, .long (((l_it a b k).1) - ((l_it a b k).1) / ((l_it a b k).2) * ((l_it a b k).2))), (6, .long ((l_it a b k).2)), (0, .long a), (2, .long b)]) rfl ?_
      refine G.ll X dX7_divisor_24 1 rfl ?_
      refine G.ls X dX7_divisor_26 (by decide) (lv' := [(6, .long (((l_it a b k).1) - ((l_it a b k).1) / ((l_it a b k).2) * ((l_it a b k).2))), (4, .long ((l_it a b k).2)), (8, .long (((l_it a b k).1) - ((l_it a b k).1) / ((l_it a b k).2) * ((l_it a b k).2))), (0, .long a), (2, .long b)]) rfl ?_
      refine G.go X dX7_divisor_28 ?_
      rw [show ((l_it a b (k + 1)).2) = (((l_it a b k).1) - ((l_it a b k).1) / ((l_it a b k).2) * ((l_it a b k).2)) from (by simp [l_it, hnz k hk])] at ih6
      rw [show ((l_it a b (k + 1)).1) = ((l_it a b k).2) from (by simp [l_it, hnz k hk])] at ih6
      refine G.lvsub [0, 1, 3, 4] (lv' := [(6, .long (((l_it a b k).1) - ((l_it a b k).1) / ((l_it a b k).2) * ((l_it a b k).2))), (4, .long ((l_it a b k).2)), (0, .long a), (2, .long b)]) rfl ?_
      exact ih6
  have L6 := L6 0 (Nat.zero_le _)
  exact L6

set_option maxRecDepth 20000 in
theorem tX7_partOf (l : Launch) (D : va_G) (cI cW : ClassId) (a : Int64) (b : Int64) (w : Int32) (r : Nat) (hz : (l_it a b r).2 = 0) (hnz : ∀ j, j < r → ¬ (l_it a b j).2 = 0) (hg : ¬ (l_it a b r).1 = 0) : CT l D cI cW yX7_partOf cX7_partOf 5 (some .long) ⟨1, 0, 0, 29⟩ [.long a, .long b, .int w] ([]) (PJ ((if w = 0 then a else b) / (l_it a b r).1) ([])) := by
  refine CT.of RX7 rfl (by decide +kernel) (Nat.le_of_ble_eq_true rfl) [(0, .long a), (2, .long b), (4, .int w)] rfl (fun x X Rr hnm => ?_)
  refine G.il X dX7_partOf_0 2 rfl ?_
  refine G.z_ne X (a := w) dX7_partOf_2 (fun b2 => ?_) (fun b2 => ?_)
  · refine G.ll X dX7_partOf_9 1 rfl ?_
    refine G.ll X dX7_partOf_10 0 rfl ?_
    refine G.ll X dX7_partOf_11 1 rfl ?_
    refine G.cstj X kX7_divisor lX7_270 dX7_partOf_12 (tX7_divisor l D cI cW a b r hz hnz) ⟨Nat.le_of_ble_eq_true rfl, Nat.le_of_ble_eq_true rfl⟩ ⟨Nat.zero_le _, Nat.zero_le _⟩ [] rfl ⟨rfl, rfl⟩ rfl rfl rfl (Nat.le_of_ble_eq_true rfl) (ff_nil) (ws' := []) rfl ?_
    refine G.ldiv X dX7_partOf_15 hg ?_
    exact G.lret X Rr dX7_partOf_16 (pj_mk (by simp [b2]) (by rfl))
  · refine G.ll X dX7_partOf_5 0 rfl ?_
    refine G.go X dX7_partOf_6 ?_
    refine G.ll X dX7_partOf_10 0 rfl ?_
    refine G.ll X dX7_partOf_11 1 rfl ?_
    refine G.cstj X kX7_divisor lX7_270 dX7_partOf_12 (tX7_divisor l D cI cW a b r hz hnz) ⟨Nat.le_of_ble_eq_true rfl, Nat.le_of_ble_eq_true rfl⟩ ⟨Nat.zero_le _, Nat.zero_le _⟩ [] rfl ⟨rfl, rfl⟩ rfl rfl rfl (Nat.le_of_ble_eq_true rfl) (ff_nil) (ws' := []) rfl ?_
    refine G.ldiv X dX7_partOf_15 hg ?_
    exact G.lret X Rr dX7_partOf_16 (pj_mk (by simp [b2]) (by rfl))

set_option maxRecDepth 20000 in
theorem tX7_cold_lo1 (l : Launch) (D : va_G) (cI cW : ClassId) (m : Nat → Nat) (S : WS) (M : MS) (n : Int32) (t : Int32) (w : Int32) (ha : n < 0) : CT l D cI cW yX7_cold cX7_cold 13 (some .long) ⟨1, 0, 0, 21⟩ [.ref (m 0), .int n, .int t, .int w] ([ml m cI S M]) (PJ (4000000000000000000 - Int32.toInt64 (-(nI 4))) ([ml m cI S (m_no M 4)])) := by
  refine CT.of RX7 rfl (by decide +kernel) (Nat.le_of_ble_eq_true rfl) [(0, .ref (m 0)), (1, .int n), (2, .int t), (3, .int w)] rfl (fun x X Rr hnm => ?_)
  refine G.il X dX7_cold_0 1 rfl ?_
  refine G.z_lt X (a := n) dX7_cold_1 (fun b1 => ?_) (fun b1 => absurd (ha) b1)
  refine G.pu X dX7_cold_9 ?_
  refine G.go X dX7_cold_11 ?_
  refine G.is X dX7_cold_46 (by decide) (lv' := [(4, .int (-4)), (0, .ref (m 0)), (1, .int n), (2, .int t), (3, .int w)]) rfl ?_
  refine G.il X dX7_cold_48 0 rfl ?_
  refine G.z_eq X (a := (-4)) dX7_cold_50 (fun b50 => absurd b50 (by decide)) (fun b50 => ?_)
  refine G.al X dX7_cold_53 1 rfl ?_
  refine G.il X dX7_cold_54 0 rfl ?_
  refine G.cvj X kX7_lowest lX7_274 dX7_cold_56 (tX7_lowest l D cI cW m S M 4 (by omega) (by omega)) ⟨Nat.le_of_ble_eq_true rfl, Nat.le_of_ble_eq_true rfl⟩ ⟨Nat.zero_le _, Nat.zero_le _⟩ [0] rfl ⟨rfl, rfl⟩ rfl rfl 0 0 rfl rfl rfl rfl (Nat.le_of_ble_eq_true rfl) (ff_cons (ml_fst _ _ _ _ _ _) (ff_nil)) (ws' := [ml m cI S (m_no M 4)]) rfl ?_
  exact G.lret X Rr dX7_cold_59 (pj_mk (by rfl) (by rfl))

set_option maxRecDepth 20000 in
theorem tX7_cold_lo2 (l : Launch) (D : va_G) (cI cW : ClassId) (m : Nat → Nat) (S : WS) (M : MS) (n : Int32) (t : Int32) (w : Int32) (ha : ¬ n < 0) (hb : t < 2) : CT l D cI cW yX7_cold cX7_cold 13 (some .long) ⟨1, 0, 0, 21⟩ [.ref (m 0), .int n, .int t, .int w] ([ml m cI S M]) (PJ (4000000000000000000 - Int32.toInt64 (-(nI 4))) ([ml m cI S (m_no M 4)])) := by
  refine CT.of RX7 rfl (by decide +kernel) (Nat.le_of_ble_eq_true rfl) [(0, .ref (m 0)), (1, .int n), (2, .int t), (3, .int w)] rfl (fun x X Rr hnm => ?_)
  refine G.il X dX7_cold_0 1 rfl ?_
  refine G.z_lt X (a := n) dX7_cold_1 (fun b1 => absurd b1 (ha)) (fun b1 => ?_)
  refine G.il X dX7_cold_4 2 rfl ?_
  refine G.pu X dX7_cold_5 ?_
  refine G.c_ge X (a := t) (b := 2) dX7_cold_6 (fun b6 => absurd (hb) b6) (fun b6 => ?_)
  refine G.pu X dX7_cold_9 ?_
  refine G.go X dX7_cold_11 ?_
  refine G.is X dX7_cold_46 (by decide) (lv' := [(4, .int (-4)), (0, .ref (m 0)), (1, .int n), (2, .int t), (3, .int w)]) rfl ?_
  refine G.il X dX7_cold_48 0 rfl ?_
  refine G.z_eq X (a := (-4)) dX7_cold_50 (fun b50 => absurd b50 (by decide)) (fun b50 => ?_)
  refine G.al X dX7_cold_53 1 rfl ?_
  refine G.il X dX7_cold_54 0 rfl ?_
  refine G.cvj X kX7_lowest lX7_274 dX7_cold_56 (tX7_lowest l D cI cW m S M 4 (by omega) (by omega)) ⟨Nat.le_of_ble_eq_true rfl, Nat.le_of_ble_eq_true rfl⟩ ⟨Nat.zero_le _, Nat.zero_le _⟩ [0] rfl ⟨rfl, rfl⟩ rfl rfl 0 0 rfl rfl rfl rfl (Nat.le_of_ble_eq_true rfl) (ff_cons (ml_fst _ _ _ _ _ _) (ff_nil)) (ws' := [ml m cI S (m_no M 4)]) rfl ?_
  exact G.lret X Rr dX7_cold_59 (pj_mk (by rfl) (by rfl))

set_option maxRecDepth 20000 in
theorem tX7_cold_hi1 (l : Launch) (D : va_G) (cI cW : ClassId) (m : Nat → Nat) (S : WS) (M : MS) (n : Int32) (t : Int32) (w : Int32) (ha : ¬ n < 0) (hb : ¬ t < 2) (hc : 7 < n) : CT l D cI cW yX7_cold cX7_cold 13 (some .long) ⟨1, 0, 0, 21⟩ [.ref (m 0), .int n, .int t, .int w] ([ml m cI S M]) (PJ (4000000000000000000 - Int32.toInt64 (-(nI 6))) ([ml m cI S (m_no M 6)])) := by
  refine CT.of RX7 rfl (by decide +kernel) (Nat.le_of_ble_eq_true rfl) [(0, .ref (m 0)), (1, .int n), (2, .int t), (3, .int w)] rfl (fun x X Rr hnm => ?_)
  refine G.il X dX7_cold_0 1 rfl ?_
  refine G.z_lt X (a := n) dX7_cold_1 (fun b1 => absurd b1 (ha)) (fun b1 => ?_)
  refine G.il X dX7_cold_4 2 rfl ?_
  refine G.pu X dX7_cold_5 ?_
  refine G.c_ge X (a := t) (b := 2) dX7_cold_6 (fun b6 => ?_) (fun b6 => absurd b6 (hb))
  refine G.il X dX7_cold_14 1 rfl ?_
  refine G.pu X dX7_cold_15 ?_
  refine G.c_gt X (a := n) (b := 7) dX7_cold_17 (fun b17 => ?_) (fun b17 => absurd (hc) b17)
  refine G.pu X dX7_cold_26 ?_
  refine G.go X dX7_cold_28 ?_
  refine G.is X dX7_cold_46 (by decide) (lv' := [(4, .int (-6)), (0, .ref (m 0)), (1, .int n), (2, .int t), (3, .int w)]) rfl ?_
  refine G.il X dX7_cold_48 0 rfl ?_
  refine G.z_eq X (a := (-6)) dX7_cold_50 (fun b50 => absurd b50 (by decide)) (fun b50 => ?_)
  refine G.al X dX7_cold_53 1 rfl ?_
  refine G.il X dX7_cold_54 0 rfl ?_
  refine G.cvj X kX7_lowest lX7_274 dX7_cold_56 (tX7_lowest l D cI cW m S M 6 (by omega) (by omega)) ⟨Nat.le_of_ble_eq_true rfl, Nat.le_of_ble_eq_true rfl⟩ ⟨Nat.zero_le _, Nat.zero_le _⟩ [0] rfl ⟨rfl, rfl⟩ rfl rfl 0 0 rfl rfl rfl rfl (Nat.le_of_ble_eq_true rfl) (ff_cons (ml_fst _ _ _ _ _ _) (ff_nil)) (ws' := [ml m cI S (m_no M 6)]) rfl ?_
  exact G.lret X Rr dX7_cold_59 (pj_mk (by rfl) (by rfl))

set_option maxRecDepth 20000 in
theorem tX7_cold_hi2 (l : Launch) (D : va_G) (cI cW : ClassId) (m : Nat → Nat) (S : WS) (M : MS) (n : Int32) (t : Int32) (w : Int32) (ha : ¬ n < 0) (hb : ¬ t < 2) (hc : ¬ 7 < n) (hd : 20 < t) : CT l D cI cW yX7_cold cX7_cold 13 (some .long) ⟨1, 0, 0, 21⟩ [.ref (m 0), .int n, .int t, .int w] ([ml m cI S M]) (PJ (4000000000000000000 - Int32.toInt64 (-(nI 6))) ([ml m cI S (m_no M 6)])) := by
  refine CT.of RX7 rfl (by decide +kernel) (Nat.le_of_ble_eq_true rfl) [(0, .ref (m 0)), (1, .int n), (2, .int t), (3, .int w)] rfl (fun x X Rr hnm => ?_)
  refine G.il X dX7_cold_0 1 rfl ?_
  refine G.z_lt X (a := n) dX7_cold_1 (fun b1 => absurd b1 (ha)) (fun b1 => ?_)
  refine G.il X dX7_cold_4 2 rfl ?_
  refine G.pu X dX7_cold_5 ?_
  refine G.c_ge X (a := t) (b := 2) dX7_cold_6 (fun b6 => ?_) (fun b6 => absurd b6 (hb))
  refine G.il X dX7_cold_14 1 rfl ?_
  refine G.pu X dX7_cold_15 ?_
  refine G.c_gt X (a := n) (b := 7) dX7_cold_17 (fun b17 => absurd b17 (hc)) (fun b17 => ?_)
  refine G.il X dX7_cold_20 2 rfl ?_
  refine G.pu X dX7_cold_21 ?_
  refine G.c_le X (a := t) (b := 20) dX7_cold_23 (fun b23 => absurd (hd) b23) (fun b23 => ?_)
  refine G.pu X dX7_cold_26 ?_
  refine G.go X dX7_cold_28 ?_
  refine G.is X dX7_cold_46 (by decide) (lv' := [(4, .int (-6)), (0, .ref (m 0)), (1, .int n), (2, .int t), (3, .int w)]) rfl ?_
  refine G.il X dX7_cold_48 0 rfl ?_
  refine G.z_eq X (a := (-6)) dX7_cold_50 (fun b50 => absurd b50 (by decide)) (fun b50 => ?_)
  refine G.al X dX7_cold_53 1 rfl ?_
  refine G.il X dX7_cold_54 0 rfl ?_
  refine G.cvj X kX7_lowest lX7_274 dX7_cold_56 (tX7_lowest l D cI cW m S M 6 (by omega) (by omega)) ⟨Nat.le_of_ble_eq_true rfl, Nat.le_of_ble_eq_true rfl⟩ ⟨Nat.zero_le _, Nat.zero_le _⟩ [0] rfl ⟨rfl, rfl⟩ rfl rfl 0 0 rfl rfl rfl rfl (Nat.le_of_ble_eq_true rfl) (ff_cons (ml_fst _ _ _ _ _ _) (ff_nil)) (ws' := [ml m cI S (m_no M 6)]) rfl ?_
  exact G.lret X Rr dX7_cold_59 (pj_mk (by rfl) (by rfl))

set_option maxRecDepth 20000 in
theorem tX7_cold_oth (l : Launch) (D : va_G) (cI cW : ClassId) (m : Nat → Nat) (S : WS) (M : MS) (n : Nat) (t : Nat) (w : Int32) (hn : n ≤ 7) (ht1 : 2 ≤ t) (ht2 : t ≤ 20) (hw : z_in w 2 = false) : CT l D cI cW yX7_cold cX7_cold 13 (some .long) ⟨1, 0, 0, 22⟩ [.ref (m 0), .int (nI n), .int (nI t), .int w] ([ml m cI S M]) (PJ (4000000000000000000 - Int32.toInt64 (-(nI 2))) ([ml m cI S (m_no M 2)])) := by
  refine CT.of RX7 rfl (by decide +kernel) (Nat.le_of_ble_eq_true rfl) [(0, .ref (m 0)), (1, .int (nI n)), (2, .int (nI t)), (3, .int w)] rfl (fun x X Rr hnm => ?_)
  refine G.il X dX7_cold_0 1 rfl ?_
  refine G.z_lt X (a := nI n) dX7_cold_1 (fun b1 => absurd b1 (nI_pos (by omega))) (fun b1 => ?_)
  refine G.il X dX7_cold_4 2 rfl ?_
  refine G.pu X dX7_cold_5 ?_
  refine G.n_ge X (a := t) (b := 2) (by omega) (by omega) dX7_cold_6 (fun b6 => ?_) (fun b6 => absurd b6 (by omega))
  refine G.il X dX7_cold_14 1 rfl ?_
  refine G.pu X dX7_cold_15 ?_
  refine G.n_gt X (a := n) (b := 7) (by omega) (by omega) dX7_cold_17 (fun b17 => absurd b17 (by omega)) (fun b17 => ?_)
  refine G.il X dX7_cold_20 2 rfl ?_
  refine G.pu X dX7_cold_21 ?_
  refine G.n_le X (a := t) (b := 20) (by omega) (by omega) dX7_cold_23 (fun b23 => ?_) (fun b23 => absurd b23 (by omega))
  refine G.il X dX7_cold_31 3 rfl ?_
  refine G.pu X dX7_cold_32 ?_
  refine G.pu X dX7_cold_33 ?_
  refine G.csti X kX7_isIn lX7_85 dX7_cold_34 (tX7_isIn_no l D cI cW w 0 1 (zbt_no (n := 1) hw (by decide))) ⟨Nat.le_of_ble_eq_true rfl, Nat.le_of_ble_eq_true rfl⟩ ⟨Nat.zero_le _, Nat.zero_le _⟩ [] rfl ⟨rfl, rfl⟩ rfl rfl rfl (Nat.le_of_ble_eq_true rfl) (ff_nil) (ws' := [ml m cI S M]) rfl ?_
  refine G.b_ne X dX7_cold_37 (fun b37 => absurd b37 (by decide)) (fun b37 => ?_)
  refine G.pu X dX7_cold_40 ?_
  refine G.go X dX7_cold_42 ?_
  refine G.is X dX7_cold_46 (by decide) (lv' := [(4, .int (-2)), (0, .ref (m 0)), (1, .int (nI n)), (2, .int (nI t)), (3, .int w)]) rfl ?_
  refine G.il X dX7_cold_48 0 rfl ?_
  refine G.z_eq X (a := (-2)) dX7_cold_50 (fun b50 => absurd b50 (by decide)) (fun b50 => ?_)
  refine G.al X dX7_cold_53 1 rfl ?_
  refine G.il X dX7_cold_54 0 rfl ?_
  refine G.cvj X kX7_lowest lX7_274 dX7_cold_56 (tX7_lowest l D cI cW m S M 2 (by omega) (by omega)) ⟨Nat.le_of_ble_eq_true rfl, Nat.le_of_ble_eq_true rfl⟩ ⟨Nat.zero_le _, Nat.zero_le _⟩ [0] rfl ⟨rfl, rfl⟩ rfl rfl 0 0 rfl rfl rfl rfl (Nat.le_of_ble_eq_true rfl) (ff_cons (ml_fst _ _ _ _ _ _) (ff_nil)) (ws' := [ml m cI S (m_no M 2)]) rfl ?_
  exact G.lret X Rr dX7_cold_59 (pj_mk (by rfl) (by rfl))

set_option maxRecDepth 20000 in
theorem tX7_cold_0 (l : Launch) (D : va_G) (cI cW : ClassId) (m : Nat → Nat) (S : WS) (M : MS) (n : Nat) (t : Nat) (r : Nat) (hS : Ok S) (hco : m_co M = false) (hn : n ≤ 7) (ht1 : 2 ≤ t) (ht2 : t ≤ 20) (hz : (l_it (l_up S (Int32.toInt64 (nI t - 1)) n (2 ^ n)) (l_pow (Int32.toInt64 (nI t)) n) r).2 = 0) (hnz : ∀ j, j < r → ¬ (l_it (l_up S (Int32.toInt64 (nI t - 1)) n (2 ^ n)) (l_pow (Int32.toInt64 (nI t)) n) j).2 = 0) (hg : ¬ (l_it (l_up S (Int32.toInt64 (nI t - 1)) n (2 ^ n)) (l_pow (Int32.toInt64 (nI t)) n) r).1 = 0) : CT l D cI cW yX7_cold cX7_cold 13 (some .long) ⟨4, 0, 0, 86⟩ [.ref (m 0), .int (nI n), .int (nI t), .int 0] ([ml m cI S M]) (PJE ((l_up S (Int32.toInt64 (nI t - 1)) n (2 ^ n)) / (l_it (l_up S (Int32.toInt64 (nI t - 1)) n (2 ^ n)) (l_pow (Int32.toInt64 (nI t)) n) r).1) (fun M9 : {M9 : MS // Mq 64 M M9} => [ml m cI S M9.1])) := by
  refine CT.of RX7 rfl (by decide +kernel) (Nat.le_of_ble_eq_true rfl) [(0, .ref (m 0)), (1, .int (nI n)), (2, .int (nI t)), (3, .int 0)] rfl (fun x X Rr hnm => ?_)
  have hth := hS.th
  have hpe := hS.pe
  refine G.il X dX7_cold_0 1 rfl ?_
  refine G.z_lt X (a := nI n) dX7_cold_1 (fun b1 => absurd b1 (nI_pos (by omega))) (fun b1 => ?_)
  refine G.il X dX7_cold_4 2 rfl ?_
  refine G.pu X dX7_cold_5 ?_
  refine G.n_ge X (a := t) (b := 2) (by omega) (by omega) dX7_cold_6 (fun b6 => ?_) (fun b6 => absurd b6 (by omega))
  refine G.il X dX7_cold_14 1 rfl ?_
  refine G.pu X dX7_cold_15 ?_
  refine G.n_gt X (a := n) (b := 7) (by omega) (by omega) dX7_cold_17 (fun b17 => absurd b17 (by omega)) (fun b17 => ?_)
  refine G.il X dX7_cold_20 2 rfl ?_
  refine G.pu X dX7_cold_21 ?_
  refine G.n_le X (a := t) (b := 20) (by omega) (by omega) dX7_cold_23 (fun b23 => ?_) (fun b23 => absurd b23 (by omega))
  refine G.il X dX7_cold_31 3 rfl ?_
  refine G.pu X dX7_cold_32 ?_
  refine G.pu X dX7_cold_33 ?_
  refine G.csti X kX7_isIn lX7_85 dX7_cold_34 (tX7_isIn_yes l D cI cW 0 0 1 (by omega) (by omega) (by omega)) ⟨Nat.le_of_ble_eq_true rfl, Nat.le_of_ble_eq_true rfl⟩ ⟨Nat.zero_le _, Nat.zero_le _⟩ [] rfl ⟨rfl, rfl⟩ rfl rfl rfl (Nat.le_of_ble_eq_true rfl) (ff_nil) (ws' := [ml m cI S M]) rfl ?_
  refine G.b_ne X dX7_cold_37 (fun b37 => ?_) (fun b37 => absurd b37 (by decide))
  refine G.pu X dX7_cold_45 ?_
  refine G.is X dX7_cold_46 (by decide) (lv' := [(4, .int 0), (0, .ref (m 0)), (1, .int (nI n)), (2, .int (nI t)), (3, .int 0)]) rfl ?_
  refine G.il X dX7_cold_48 0 rfl ?_
  refine G.z_eq X (a := 0) dX7_cold_50 (fun b50 => ?_) (fun b50 => absurd b50 (by decide))
  refine G.lc X dX7_cold_60 (v := 0) rfl ?_
  refine G.ls X dX7_cold_61 (by decide) (lv' := [(5, .long 0), (4, .int 0), (0, .ref (m 0)), (1, .int (nI n)), (2, .int (nI t)), (3, .int 0)]) rfl ?_
  refine G.lc X dX7_cold_63 (v := 1) rfl ?_
  refine G.ls X dX7_cold_64 (by decide) (lv' := [(7, .long 1), (5, .long 0), (4, .int 0), (0, .ref (m 0)), (1, .int (nI n)), (2, .int (nI t)), (3, .int 0)]) rfl ?_
  refine G.pu X dX7_cold_66 ?_
  refine G.is X dX7_cold_67 (by decide) (lv' := [(9, .int 0), (7, .long 1), (5, .long 0), (4, .int 0), (0, .ref (m 0)), (1, .int (nI n)), (2, .int (nI t)), (3, .int 0)]) rfl ?_
  have L69 : ∀ k, k ≤ n → G x 0 0 ([ml m cI S M]) 69 [(9, .int (nI k)), (7, .long (l_pow (Int32.toInt64 (nI t)) k)), (5, .long 0), (0, .ref (m 0)), (1, .int (nI n)), (2, .int (nI t)), (3, .int 0)] [] := by
    refine loop_dn n _ ?_ ?_
    · refine G.il X dX7_cold_69 0 rfl ?_
      refine G.il X dX7_cold_71 4 rfl ?_
      refine G.n_ge X (a := n) (b := n) (by omega) (by omega) dX7_cold_72 (fun b72 => ?_) (fun b72 => absurd b72 (by omega))
      refine G.pu X dX7_cold_88 ?_
      refine G.is X dX7_cold_89 (by decide) (lv' := [(9, .int 0), (7, .long (l_pow (Int32.toInt64 (nI t)) n)), (5, .long 0), (0, .ref (m 0)), (1, .int (nI n)), (2, .int (nI t)), (3, .int 0)]) rfl ?_
      have L91 : ∀ s, s ≤ 2 ^ n → ∀ M8 : {M8 : MS // Mq 64 M M8}, G x 0 0 ([ml m cI S M8.1]) 91 [(9, .int (nI s)), (5, .long (l_up S (Int32.toInt64 (nI t - 1)) n s)), (7, .long (l_pow (Int32.toInt64 (nI t)) n)), (0, .ref (m 0)), (1, .int (nI n)), (2, .int (nI t)), (3, .int 0)] [] := by
        refine loop_dn (2 ^ n) _ ?_ ?_
        · intro M8
          have hs7 := pow_le7 hn
          refine G.il X dX7_cold_91 0 rfl ?_
          refine G.pu X dX7_cold_93 ?_
          refine G.il X dX7_cold_94 4 rfl ?_
          refine G.ishl X dX7_cold_95 ?_
          refine G.top (b := nI (2 ^ n)) (shl_n hn) ?_
          refine G.n_ge X (a := 2 ^ n) (b := 2 ^ n) (by omega) (by omega) dX7_cold_96 (fun b96 => ?_) (fun b96 => absurd b96 (by omega))
          refine G.ll X dX7_cold_193 1 rfl ?_
          refine G.ll X dX7_cold_195 2 rfl ?_
          refine G.il X dX7_cold_197 6 rfl ?_
          refine G.cstj X kX7_partOf lX7_278 dX7_cold_198 (tX7_partOf l D cI cW (l_up S (Int32.toInt64 (nI t - 1)) n (2 ^ n)) (l_pow (Int32.toInt64 (nI t)) n) 0 r hz hnz hg) ⟨Nat.le_of_ble_eq_true rfl, Nat.le_of_ble_eq_true rfl⟩ ⟨Nat.zero_le _, Nat.zero_le _⟩ [] rfl ⟨rfl, rfl⟩ rfl rfl rfl (Nat.le_of_ble_eq_true rfl) (ff_nil) (ws' := [ml m cI S M8.1]) rfl ?_
          exact G.lret X Rr dX7_cold_201 (pje_mk (qk (M8.2)) (by simp) (by rfl))
        · intro s hs ih91 M8
          have hs7 := pow_le7 hn
          refine G.il X dX7_cold_91 0 rfl ?_
          refine G.pu X dX7_cold_93 ?_
          refine G.il X dX7_cold_94 4 rfl ?_
          refine G.ishl X dX7_cold_95 ?_
          refine G.top (b := nI (2 ^ n)) (shl_n hn) ?_
          refine G.n_ge X (a := s) (b := 2 ^ n) (by omega) (by omega) dX7_cold_96 (fun b96 => absurd b96 (by omega)) (fun b96 => ?_)
          refine G.al X dX7_cold_99 3 rfl ?_
          refine G.cvv X kX7_thinks lX7_211 dX7_cold_100 (tX7_thinks l D cI cW m S M8.1) ⟨Nat.le_of_ble_eq_true rfl, Nat.le_of_ble_eq_true rfl⟩ ⟨Nat.zero_le _, Nat.zero_le _⟩ [0] rfl ⟨rfl, rfl⟩ rfl rfl 0 0 rfl rfl rfl rfl (Nat.le_of_ble_eq_true rfl) (ff_cons (ml_fst _ _ _ _ _ _) (ff_nil)) (ws' := [ml m cI S (m_kpa M8.1 128 S)]) rfl ?_
          refine G.lc X dX7_cold_103 (v := 1) rfl ?_
          refine G.ls X dX7_cold_104 (by decide) (lv' := [(10, .long 1), (9, .int (nI s)), (5, .long (l_up S (Int32.toInt64 (nI t - 1)) n s)), (7, .long (l_pow (Int32.toInt64 (nI t)) n)), (0, .ref (m 0)), (1, .int (nI n)), (2, .int (nI t)), (3, .int 0)]) rfl ?_
          refine G.pu X dX7_cold_106 ?_
          refine G.is X dX7_cold_107 (by decide) (lv' := [(12, .int 0), (10, .long 1), (9, .int (nI s)), (5, .long (l_up S (Int32.toInt64 (nI t - 1)) n s)), (7, .long (l_pow (Int32.toInt64 (nI t)) n)), (0, .ref (m 0)), (1, .int (nI n)), (2, .int (nI t)), (3, .int 0)]) rfl ?_
          have L109 : ∀ k, k ≤ n → ∀ c8 : Bool, G x 0 0 ([ml m cI (w_sd S (nI s) k) (m_cos (m_kpa M8.1 128 S) c8)]) 109 [(12, .int (nI k)), (10, .long (l_pt (Int32.toInt64 (nI t - 1)) (nI s) k)), (9, .int (nI s)), (5, .long (l_up S (Int32.toInt64 (nI t - 1)) n s)), (7, .long (l_pow (Int32.toInt64 (nI t)) n)), (0, .ref (m 0)), (1, .int (nI n)), (2, .int (nI t)), (3, .int 0)] [] := by
            refine loop_dn n _ ?_ ?_
            · intro c8
              refine G.il X dX7_cold_109 0 rfl ?_
              refine G.il X dX7_cold_111 6 rfl ?_
              refine G.n_ge X (a := n) (b := n) (by omega) (by omega) dX7_cold_112 (fun b112 => ?_) (fun b112 => absurd b112 (by omega))
              refine G.al X dX7_cold_159 5 rfl ?_
              refine G.pu X dX7_cold_160 ?_
              refine G.put X fX7_187 fe7 dX7_cold_161 rfl (ty := .boolean) (by decide +kernel) rfl rfl 0 0 rfl rfl (Nat.le_of_ble_eq_true rfl) (blk' := ml m cI (w_sd S (nI s) n) (m_rf (m_cos (m_kpa M8.1 128 S) c8), false, m_tx (m_cos (m_kpa M8.1 128 S) c8), m_lt (m_cos (m_kpa M8.1 128 S) c8), m_la (m_cos (m_kpa M8.1 128 S) c8), m_to (m_cos (m_kpa M8.1 128 S) c8), m_tn (m_cos (m_kpa M8.1 128 S) c8), m_at (m_cos (m_kpa M8.1 128 S) c8), m_st (m_cos (m_kpa M8.1 128 S) c8), m_kp (m_cos (m_kpa M8.1 128 S) c8), m_hi (m_cos (m_kpa M8.1 128 S) c8), m_kg (m_cos (m_kpa M8.1 128 S) c8), m_cu (m_cos (m_kpa M8.1 128 S) c8), m_lr (m_cos (m_kpa M8.1 128 S) c8), m_ge (m_cos (m_kpa M8.1 128 S) c8), m_rw (m_cos (m_kpa M8.1 128 S) c8), m_rn (m_cos (m_kpa M8.1 128 S) c8))) rfl (ws' := [ml m cI (w_sd S (nI s) n) (m_rf (m_cos (m_kpa M8.1 128 S) c8), false, m_tx (m_cos (m_kpa M8.1 128 S) c8), m_lt (m_cos (m_kpa M8.1 128 S) c8), m_la (m_cos (m_kpa M8.1 128 S) c8), m_to (m_cos (m_kpa M8.1 128 S) c8), m_tn (m_cos (m_kpa M8.1 128 S) c8), m_at (m_cos (m_kpa M8.1 128 S) c8), m_st (m_cos (m_kpa M8.1 128 S) c8), m_kp (m_cos (m_kpa M8.1 128 S) c8), m_hi (m_cos (m_kpa M8.1 128 S) c8), m_kg (m_cos (m_kpa M8.1 128 S) c8), m_cu (m_cos (m_kpa M8.1 128 S) c8), m_lr (m_cos (m_kpa M8.1 128 S) c8), m_ge (m_cos (m_kpa M8.1 128 S) c8), m_rw (m_cos (m_kpa M8.1 128 S) c8), m_rn (m_cos (m_kpa M8.1 128 S) c8))]) rfl ?_
              refine G.cg (ws' := [ml m cI (w_sd S (nI s) n) (m_cos (m_kpa M8.1 128 S) false)]) rfl rfl rfl ?_
              refine G.ll X dX7_cold_164 3 rfl ?_
              refine G.al X dX7_cold_166 5 rfl ?_
              refine G.cvi X kX7_water lX7_205 dX7_cold_167 (tX7_water l D cI cW m (w_sd S (nI s) n) (m_cos (m_kpa M8.1 128 S) false) (ok_sd hS (nI s) n).th) ⟨Nat.le_of_ble_eq_true rfl, Nat.le_of_ble_eq_true rfl⟩ ⟨Nat.zero_le _, Nat.zero_le _⟩ [0] rfl ⟨rfl, rfl⟩ rfl rfl 0 0 rfl rfl rfl rfl (Nat.le_of_ble_eq_true rfl) (ff_cons (ml_fst _ _ _ _ _ _) (ff_nil)) (ws' := [ml m cI (w_sd S (nI s) n) (m_cos (m_kpa M8.1 128 S) false)]) rfl ?_
              refine G.pu X dX7_cold_170 ?_
              refine G.b1_ne X dX7_cold_171 (fun b171 => ?_) (fun b171 => ?_)
              · refine G.lc X dX7_cold_179 (v := 0) rfl ?_
                refine G.ladd X dX7_cold_180 ?_
                refine G.ls X dX7_cold_181 (by decide) (lv' := [(5, .long ((l_up S (Int32.toInt64 (nI t - 1)) n s) + 0)), (12, .int (nI n)), (10, .long (l_pt (Int32.toInt64 (nI t - 1)) (nI s) n)), (9, .int (nI s)), (7, .long (l_pow (Int32.toInt64 (nI t)) n)), (0, .ref (m 0)), (1, .int (nI n)), (2, .int (nI t)), (3, .int 0)]) rfl ?_
                refine G.al X dX7_cold_183 5 rfl ?_
                refine G.cvv X kX7_forgets lX7_214 dX7_cold_184 (tX7_forgets l D cI cW m (w_sd S (nI s) n) (m_cos (m_kpa M8.1 128 S) false) S (kpall_KP _ 128 S)) ⟨Nat.le_of_ble_eq_true rfl, Nat.le_of_ble_eq_true rfl⟩ ⟨Nat.zero_le _, Nat.zero_le _⟩ [0] rfl ⟨rfl, rfl⟩ rfl rfl 0 0 rfl rfl rfl rfl (Nat.le_of_ble_eq_true rfl) (ff_cons (ml_fst _ _ _ _ _ _) (ff_nil)) (ws' := [ml m cI S (m_set (m_cos (m_kpa M8.1 128 S) false) 192 false)]) rfl ?_
                refine G.iinc X dX7_cold_187 3 rfl (v' := nI (s + 1)) (nI_inc s) (by decide) (lv' := [(9, .int (nI (s + 1))), (5, .long ((l_up S (Int32.toInt64 (nI t - 1)) n s) + 0)), (12, .int (nI n)), (10, .long (l_pt (Int32.toInt64 (nI t - 1)) (nI s) n)), (7, .long (l_pow (Int32.toInt64 (nI t)) n)), (0, .ref (m 0)), (1, .int (nI n)), (2, .int (nI t)), (3, .int 0)]) rfl ?_
                refine G.go X dX7_cold_190 ?_
                replace ih91 := ih91 (qk ((mq_cos ((M8.2).tr (mq_kpa M8.1 128 S) (by decide)) hco).tr (mq_set 64 (m_cos (m_kpa M8.1 128 S) false) 192 false) (Nat.le_refl _)))
                rw [show (l_up S (Int32.toInt64 (nI t - 1)) n (s + 1)) = ((l_up S (Int32.toInt64 (nI t - 1)) n s) + 0) from (by simp [l_up, b96, b112, b171])] at ih91
                refine G.lvsub [0, 1, 4, 5, 6, 7, 8] (lv' := [(9, .int (nI (s + 1))), (5, .long ((l_up S (Int32.toInt64 (nI t - 1)) n s) + 0)), (7, .long (l_pow (Int32.toInt64 (nI t)) n)), (0, .ref (m 0)), (1, .int (nI n)), (2, .int (nI t)), (3, .int 0)]) rfl ?_
                exact ih91
              · refine G.ll X dX7_cold_174 1 rfl ?_
                refine G.go X dX7_cold_176 ?_
                refine G.ladd X dX7_cold_180 ?_
                refine G.ls X dX7_cold_181 (by decide) (lv' := [(5, .long ((l_up S (Int32.toInt64 (nI t - 1)) n s) + (l_pt (Int32.toInt64 (nI t - 1)) (nI s) n))), (12, .int (nI n)), (10, .long (l_pt (Int32.toInt64 (nI t - 1)) (nI s) n)), (9, .int (nI s)), (7, .long (l_pow (Int32.toInt64 (nI t)) n)), (0, .ref (m 0)), (1, .int (nI n)), (2, .int (nI t)), (3, .int 0)]) rfl ?_
                refine G.al X dX7_cold_183 5 rfl ?_
                refine G.cvv X kX7_forgets lX7_214 dX7_cold_184 (tX7_forgets l D cI cW m (w_sd S (nI s) n) (m_cos (m_kpa M8.1 128 S) false) S (kpall_KP _ 128 S)) ⟨Nat.le_of_ble_eq_true rfl, Nat.le_of_ble_eq_true rfl⟩ ⟨Nat.zero_le _, Nat.zero_le _⟩ [0] rfl ⟨rfl, rfl⟩ rfl rfl 0 0 rfl rfl rfl rfl (Nat.le_of_ble_eq_true rfl) (ff_cons (ml_fst _ _ _ _ _ _) (ff_nil)) (ws' := [ml m cI S (m_set (m_cos (m_kpa M8.1 128 S) false) 192 false)]) rfl ?_
                refine G.iinc X dX7_cold_187 3 rfl (v' := nI (s + 1)) (nI_inc s) (by decide) (lv' := [(9, .int (nI (s + 1))), (5, .long ((l_up S (Int32.toInt64 (nI t - 1)) n s) + (l_pt (Int32.toInt64 (nI t - 1)) (nI s) n))), (12, .int (nI n)), (10, .long (l_pt (Int32.toInt64 (nI t - 1)) (nI s) n)), (7, .long (l_pow (Int32.toInt64 (nI t)) n)), (0, .ref (m 0)), (1, .int (nI n)), (2, .int (nI t)), (3, .int 0)]) rfl ?_
                refine G.go X dX7_cold_190 ?_
                replace ih91 := ih91 (qk ((mq_cos ((M8.2).tr (mq_kpa M8.1 128 S) (by decide)) hco).tr (mq_set 64 (m_cos (m_kpa M8.1 128 S) false) 192 false) (Nat.le_refl _)))
                rw [show (l_up S (Int32.toInt64 (nI t - 1)) n (s + 1)) = ((l_up S (Int32.toInt64 (nI t - 1)) n s) + (l_pt (Int32.toInt64 (nI t - 1)) (nI s) n)) from (by simp [l_up, b96, b112, b171])] at ih91
                refine G.lvsub [0, 1, 4, 5, 6, 7, 8] (lv' := [(9, .int (nI (s + 1))), (5, .long ((l_up S (Int32.toInt64 (nI t - 1)) n s) + (l_pt (Int32.toInt64 (nI t - 1)) (nI s) n))), (7, .long (l_pow (Int32.toInt64 (nI t)) n)), (0, .ref (m 0)), (1, .int (nI n)), (2, .int (nI t)), (3, .int 0)]) rfl ?_
                exact ih91
            · intro k hk ih109 c8
              have hT : Ok (w_sd S (nI s) k) := ok_sd hS (nI s) k
              refine G.il X dX7_cold_109 0 rfl ?_
              refine G.il X dX7_cold_111 6 rfl ?_
              refine G.n_ge X (a := k) (b := n) (by omega) (by omega) dX7_cold_112 (fun b112 => absurd b112 (by omega)) (fun b112 => ?_)
              refine G.ll X dX7_cold_115 1 rfl ?_
              refine G.il X dX7_cold_117 2 rfl ?_
              refine G.il X dX7_cold_119 0 rfl ?_
              refine G.csti X kX7_has lX7_178 dX7_cold_121 (tX7_has l D cI cW (nI s) (nI k)) ⟨Nat.le_of_ble_eq_true rfl, Nat.le_of_ble_eq_true rfl⟩ ⟨Nat.zero_le _, Nat.zero_le _⟩ [] rfl ⟨rfl, rfl⟩ rfl rfl rfl (Nat.le_of_ble_eq_true rfl) (ff_nil) (ws' := [ml m cI (w_sd S (nI s) k) (m_cos (m_kpa M8.1 128 S) c8)]) rfl ?_
              refine G.b_eq X dX7_cold_124 (fun b124 => ?_) (fun b124 => ?_)
              · refine G.il X dX7_cold_131 7 rfl ?_
                refine G.pu X dX7_cold_132 ?_
                refine G.isub X dX7_cold_133 ?_
                refine G.i2l X dX7_cold_134 ?_
                refine G.lmul X dX7_cold_135 ?_
                refine G.ls X dX7_cold_136 (by decide) (lv' := [(10, .long ((l_pt (Int32.toInt64 (nI t - 1)) (nI s) k) * (Int32.toInt64 ((nI t) - 1)))), (12, .int (nI k)), (9, .int (nI s)), (5, .long (l_up S (Int32.toInt64 (nI t - 1)) n s)), (7, .long (l_pow (Int32.toInt64 (nI t)) n)), (0, .ref (m 0)), (1, .int (nI n)), (2, .int (nI t)), (3, .int 0)]) rfl ?_
                refine G.al X dX7_cold_138 5 rfl ?_
                refine G.il X dX7_cold_139 2 rfl ?_
                refine G.il X dX7_cold_141 1 rfl ?_
                refine G.csti X kX7_has lX7_178 dX7_cold_143 (tX7_has l D cI cW (nI s) (nI k)) ⟨Nat.le_of_ble_eq_true rfl, Nat.le_of_ble_eq_true rfl⟩ ⟨Nat.zero_le _, Nat.zero_le _⟩ [] rfl ⟨rfl, rfl⟩ rfl rfl rfl (Nat.le_of_ble_eq_true rfl) (ff_nil) (ws' := [ml m cI (w_sd S (nI s) k) (m_cos (m_kpa M8.1 128 S) c8)]) rfl ?_
                refine G.top (b := b2i false) (by rw [b124]) ?_
                refine G.put X fX7_187 fe7 dX7_cold_146 rfl (ty := .boolean) (by decide +kernel) rfl rfl 0 0 rfl rfl (Nat.le_of_ble_eq_true rfl) (blk' := ml m cI (w_sd S (nI s) k) (m_rf (m_cos (m_kpa M8.1 128 S) c8), false, m_tx (m_cos (m_kpa M8.1 128 S) c8), m_lt (m_cos (m_kpa M8.1 128 S) c8), m_la (m_cos (m_kpa M8.1 128 S) c8), m_to (m_cos (m_kpa M8.1 128 S) c8), m_tn (m_cos (m_kpa M8.1 128 S) c8), m_at (m_cos (m_kpa M8.1 128 S) c8), m_st (m_cos (m_kpa M8.1 128 S) c8), m_kp (m_cos (m_kpa M8.1 128 S) c8), m_hi (m_cos (m_kpa M8.1 128 S) c8), m_kg (m_cos (m_kpa M8.1 128 S) c8), m_cu (m_cos (m_kpa M8.1 128 S) c8), m_lr (m_cos (m_kpa M8.1 128 S) c8), m_ge (m_cos (m_kpa M8.1 128 S) c8), m_rw (m_cos (m_kpa M8.1 128 S) c8), m_rn (m_cos (m_kpa M8.1 128 S) c8))) rfl (ws' := [ml m cI (w_sd S (nI s) k) (m_rf (m_cos (m_kpa M8.1 128 S) c8), false, m_tx (m_cos (m_kpa M8.1 128 S) c8), m_lt (m_cos (m_kpa M8.1 128 S) c8), m_la (m_cos (m_kpa M8.1 128 S) c8), m_to (m_cos (m_kpa M8.1 128 S) c8), m_tn (m_cos (m_kpa M8.1 128 S) c8), m_at (m_cos (m_kpa M8.1 128 S) c8), m_st (m_cos (m_kpa M8.1 128 S) c8), m_kp (m_cos (m_kpa M8.1 128 S) c8), m_hi (m_cos (m_kpa M8.1 128 S) c8), m_kg (m_cos (m_kpa M8.1 128 S) c8), m_cu (m_cos (m_kpa M8.1 128 S) c8), m_lr (m_cos (m_kpa M8.1 128 S) c8), m_ge (m_cos (m_kpa M8.1 128 S) c8), m_rw (m_cos (m_kpa M8.1 128 S) c8), m_rn (m_cos (m_kpa M8.1 128 S) c8))]) rfl ?_
                refine G.cg (ws' := [ml m cI (w_sd S (nI s) k) (m_cos (m_kpa M8.1 128 S) false)]) rfl rfl rfl ?_
                refine G.al X dX7_cold_149 5 rfl ?_
                refine G.cvv X kX7_goesDay lX7_199 dX7_cold_150 (tX7_goesDay l D cI cW m (w_sd S (nI s) k) (m_cos (m_kpa M8.1 128 S) false) hT rfl) ⟨Nat.le_of_ble_eq_true rfl, Nat.le_of_ble_eq_true rfl⟩ ⟨Nat.zero_le _, Nat.zero_le _⟩ [0] rfl ⟨rfl, rfl⟩ rfl rfl 0 0 rfl rfl rfl rfl (Nat.le_of_ble_eq_true rfl) (ff_cons (ml_fst _ _ _ _ _ _) (ff_nil)) (ws' := [ml m cI (w_day true (w_sd S (nI s) k)) (m_cos (m_kpa M8.1 128 S) false)]) rfl ?_
                refine G.iinc X dX7_cold_153 1 rfl (v' := nI (k + 1)) (nI_inc k) (by decide) (lv' := [(12, .int (nI (k + 1))), (10, .long ((l_pt (Int32.toInt64 (nI t - 1)) (nI s) k) * (Int32.toInt64 ((nI t) - 1)))), (9, .int (nI s)), (5, .long (l_up S (Int32.toInt64 (nI t - 1)) n s)), (7, .long (l_pow (Int32.toInt64 (nI t)) n)), (0, .ref (m 0)), (1, .int (nI n)), (2, .int (nI t)), (3, .int 0)]) rfl ?_
                refine G.go X dX7_cold_156 ?_
                replace ih109 := ih109 false
                rw [show (l_pt (Int32.toInt64 (nI t - 1)) (nI s) (k + 1)) = ((l_pt (Int32.toInt64 (nI t - 1)) (nI s) k) * (Int32.toInt64 ((nI t) - 1))) from (by simp [w_sd, l_pt, b124])] at ih109
                rw [show (w_sd S (nI s) (k + 1)) = (w_day true (w_sd S (nI s) k)) from (by simp [w_sd, l_pt, b124])] at ih109
                exact ih109
              · refine G.lc X dX7_cold_127 (v := 1) rfl ?_
                refine G.go X dX7_cold_128 ?_
                refine G.lmul X dX7_cold_135 ?_
                refine G.ls X dX7_cold_136 (by decide) (lv' := [(10, .long ((l_pt (Int32.toInt64 (nI t - 1)) (nI s) k) * 1)), (12, .int (nI k)), (9, .int (nI s)), (5, .long (l_up S (Int32.toInt64 (nI t - 1)) n s)), (7, .long (l_pow (Int32.toInt64 (nI t)) n)), (0, .ref (m 0)), (1, .int (nI n)), (2, .int (nI t)), (3, .int 0)]) rfl ?_
                refine G.al X dX7_cold_138 5 rfl ?_
                refine G.il X dX7_cold_139 2 rfl ?_
                refine G.il X dX7_cold_141 1 rfl ?_
                refine G.csti X kX7_has lX7_178 dX7_cold_143 (tX7_has l D cI cW (nI s) (nI k)) ⟨Nat.le_of_ble_eq_true rfl, Nat.le_of_ble_eq_true rfl⟩ ⟨Nat.zero_le _, Nat.zero_le _⟩ [] rfl ⟨rfl, rfl⟩ rfl rfl rfl (Nat.le_of_ble_eq_true rfl) (ff_nil) (ws' := [ml m cI (w_sd S (nI s) k) (m_cos (m_kpa M8.1 128 S) c8)]) rfl ?_
                refine G.top (b := b2i true) (by rw [b124]) ?_
                refine G.put X fX7_187 fe7 dX7_cold_146 rfl (ty := .boolean) (by decide +kernel) rfl rfl 0 0 rfl rfl (Nat.le_of_ble_eq_true rfl) (blk' := ml m cI (w_sd S (nI s) k) (m_rf (m_cos (m_kpa M8.1 128 S) c8), true, m_tx (m_cos (m_kpa M8.1 128 S) c8), m_lt (m_cos (m_kpa M8.1 128 S) c8), m_la (m_cos (m_kpa M8.1 128 S) c8), m_to (m_cos (m_kpa M8.1 128 S) c8), m_tn (m_cos (m_kpa M8.1 128 S) c8), m_at (m_cos (m_kpa M8.1 128 S) c8), m_st (m_cos (m_kpa M8.1 128 S) c8), m_kp (m_cos (m_kpa M8.1 128 S) c8), m_hi (m_cos (m_kpa M8.1 128 S) c8), m_kg (m_cos (m_kpa M8.1 128 S) c8), m_cu (m_cos (m_kpa M8.1 128 S) c8), m_lr (m_cos (m_kpa M8.1 128 S) c8), m_ge (m_cos (m_kpa M8.1 128 S) c8), m_rw (m_cos (m_kpa M8.1 128 S) c8), m_rn (m_cos (m_kpa M8.1 128 S) c8))) rfl (ws' := [ml m cI (w_sd S (nI s) k) (m_rf (m_cos (m_kpa M8.1 128 S) c8), true, m_tx (m_cos (m_kpa M8.1 128 S) c8), m_lt (m_cos (m_kpa M8.1 128 S) c8), m_la (m_cos (m_kpa M8.1 128 S) c8), m_to (m_cos (m_kpa M8.1 128 S) c8), m_tn (m_cos (m_kpa M8.1 128 S) c8), m_at (m_cos (m_kpa M8.1 128 S) c8), m_st (m_cos (m_kpa M8.1 128 S) c8), m_kp (m_cos (m_kpa M8.1 128 S) c8), m_hi (m_cos (m_kpa M8.1 128 S) c8), m_kg (m_cos (m_kpa M8.1 128 S) c8), m_cu (m_cos (m_kpa M8.1 128 S) c8), m_lr (m_cos (m_kpa M8.1 128 S) c8), m_ge (m_cos (m_kpa M8.1 128 S) c8), m_rw (m_cos (m_kpa M8.1 128 S) c8), m_rn (m_cos (m_kpa M8.1 128 S) c8))]) rfl ?_
                refine G.cg (ws' := [ml m cI (w_sd S (nI s) k) (m_cos (m_kpa M8.1 128 S) true)]) rfl rfl rfl ?_
                refine G.al X dX7_cold_149 5 rfl ?_
                refine G.cvv X kX7_goesDay lX7_199 dX7_cold_150 (tX7_goesDay_cold l D cI cW m (w_sd S (nI s) k) (m_cos (m_kpa M8.1 128 S) true) hT rfl) ⟨Nat.le_of_ble_eq_true rfl, Nat.le_of_ble_eq_true rfl⟩ ⟨Nat.zero_le _, Nat.zero_le _⟩ [0] rfl ⟨rfl, rfl⟩ rfl rfl 0 0 rfl rfl rfl rfl (Nat.le_of_ble_eq_true rfl) (ff_cons (ml_fst _ _ _ _ _ _) (ff_nil)) (ws' := [ml m cI (w_day false (w_sd S (nI s) k)) (m_cos (m_kpa M8.1 128 S) true)]) rfl ?_
                refine G.iinc X dX7_cold_153 1 rfl (v' := nI (k + 1)) (nI_inc k) (by decide) (lv' := [(12, .int (nI (k + 1))), (10, .long ((l_pt (Int32.toInt64 (nI t - 1)) (nI s) k) * 1)), (9, .int (nI s)), (5, .long (l_up S (Int32.toInt64 (nI t - 1)) n s)), (7, .long (l_pow (Int32.toInt64 (nI t)) n)), (0, .ref (m 0)), (1, .int (nI n)), (2, .int (nI t)), (3, .int 0)]) rfl ?_
                refine G.go X dX7_cold_156 ?_
                replace ih109 := ih109 true
                rw [show (l_pt (Int32.toInt64 (nI t - 1)) (nI s) (k + 1)) = ((l_pt (Int32.toInt64 (nI t - 1)) (nI s) k) * 1) from (by simp [w_sd, l_pt, b124])] at ih109
                rw [show (w_sd S (nI s) (k + 1)) = (w_day false (w_sd S (nI s) k)) from (by simp [w_sd, l_pt, b124])] at ih109
                exact ih109
          have L109 := L109 0 (Nat.zero_le _) (m_co M8.1)
          exact L109
      refine G.lvsub [0, 2, 1, 3, 4, 5, 6] (lv' := [(9, .int 0), (5, .long 0), (7, .long (l_pow (Int32.toInt64 (nI t)) n)), (0, .ref (m 0)), (1, .int (nI n)), (2, .int (nI t)), (3, .int 0)]) rfl ?_
      have L91 := L91 0 (Nat.zero_le _) (qk (Mq.rf 64 M))
      exact L91
    · intro k hk ih69
      refine G.il X dX7_cold_69 0 rfl ?_
      refine G.il X dX7_cold_71 4 rfl ?_
      refine G.n_ge X (a := k) (b := n) (by omega) (by omega) dX7_cold_72 (fun b72 => absurd b72 (by omega)) (fun b72 => ?_)
      refine G.ll X dX7_cold_75 1 rfl ?_
      refine G.il X dX7_cold_77 5 rfl ?_
      refine G.i2l X dX7_cold_78 ?_
      refine G.lmul X dX7_cold_79 ?_
      refine G.ls X dX7_cold_80 (by decide) (lv' := [(7, .long ((l_pow (Int32.toInt64 (nI t)) k) * (Int32.toInt64 (nI t)))), (9, .int (nI k)), (5, .long 0), (0, .ref (m 0)), (1, .int (nI n)), (2, .int (nI t)), (3, .int 0)]) rfl ?_
      refine G.iinc X dX7_cold_82 1 rfl (v' := nI (k + 1)) (nI_inc k) (by decide) (lv' := [(9, .int (nI (k + 1))), (7, .long ((l_pow (Int32.toInt64 (nI t)) k) * (Int32.toInt64 (nI t)))), (5, .long 0), (0, .ref (m 0)), (1, .int (nI n)), (2, .int (nI t)), (3, .int 0)]) rfl ?_
      refine G.go X dX7_cold_85 ?_
      rw [show (l_pow (Int32.toInt64 (nI t)) (k + 1)) = ((l_pow (Int32.toInt64 (nI t)) k) * (Int32.toInt64 (nI t))) from (by rfl)] at ih69
      exact ih69
  refine G.lvsub [0, 1, 2, 4, 5, 6, 7] (lv' := [(9, .int 0), (7, .long 1), (5, .long 0), (0, .ref (m 0)), (1, .int (nI n)), (2, .int (nI t)), (3, .int 0)]) rfl ?_
  have L69 := L69 0 (Nat.zero_le _)
  exact L69

set_option maxRecDepth 20000 in
theorem tX7_cold_1 (l : Launch) (D : va_G) (cI cW : ClassId) (m : Nat → Nat) (S : WS) (M : MS) (n : Nat) (t : Nat) (r : Nat) (hS : Ok S) (hco : m_co M = false) (hn : n ≤ 7) (ht1 : 2 ≤ t) (ht2 : t ≤ 20) (hz : (l_it (l_up S (Int32.toInt64 (nI t - 1)) n (2 ^ n)) (l_pow (Int32.toInt64 (nI t)) n) r).2 = 0) (hnz : ∀ j, j < r → ¬ (l_it (l_up S (Int32.toInt64 (nI t - 1)) n (2 ^ n)) (l_pow (Int32.toInt64 (nI t)) n) j).2 = 0) (hg : ¬ (l_it (l_up S (Int32.toInt64 (nI t - 1)) n (2 ^ n)) (l_pow (Int32.toInt64 (nI t)) n) r).1 = 0) : CT l D cI cW yX7_cold cX7_cold 13 (some .long) ⟨4, 0, 0, 86⟩ [.ref (m 0), .int (nI n), .int (nI t), .int 1] ([ml m cI S M]) (PJE ((l_pow (Int32.toInt64 (nI t)) n) / (l_it (l_up S (Int32.toInt64 (nI t - 1)) n (2 ^ n)) (l_pow (Int32.toInt64 (nI t)) n) r).1) (fun M9 : {M9 : MS // Mq 64 M M9} => [ml m cI S M9.1])) := by
  refine CT.of RX7 rfl (by decide +kernel) (Nat.le_of_ble_eq_true rfl) [(0, .ref (m 0)), (1, .int (nI n)), (2, .int (nI t)), (3, .int 1)] rfl (fun x X Rr hnm => ?_)
  have hth := hS.th
  have hpe := hS.pe
  refine G.il X dX7_cold_0 1 rfl ?_
  refine G.z_lt X (a := nI n) dX7_cold_1 (fun b1 => absurd b1 (nI_pos (by omega))) (fun b1 => ?_)
  refine G.il X dX7_cold_4 2 rfl ?_
  refine G.pu X dX7_cold_5 ?_
  refine G.n_ge X (a := t) (b := 2) (by omega) (by omega) dX7_cold_6 (fun b6 => ?_) (fun b6 => absurd b6 (by omega))
  refine G.il X dX7_cold_14 1 rfl ?_
  refine G.pu X dX7_cold_15 ?_
  refine G.n_gt X (a := n) (b := 7) (by omega) (by omega) dX7_cold_17 (fun b17 => absurd b17 (by omega)) (fun b17 => ?_)
  refine G.il X dX7_cold_20 2 rfl ?_
  refine G.pu X dX7_cold_21 ?_
  refine G.n_le X (a := t) (b := 20) (by omega) (by omega) dX7_cold_23 (fun b23 => ?_) (fun b23 => absurd b23 (by omega))
  refine G.il X dX7_cold_31 3 rfl ?_
  refine G.pu X dX7_cold_32 ?_
  refine G.pu X dX7_cold_33 ?_
  refine G.csti X kX7_isIn lX7_85 dX7_cold_34 (tX7_isIn_yes l D cI cW 1 0 1 (by omega) (by omega) (by omega)) ⟨Nat.le_of_ble_eq_true rfl, Nat.le_of_ble_eq_true rfl⟩ ⟨Nat.zero_le _, Nat.zero_le _⟩ [] rfl ⟨rfl, rfl⟩ rfl rfl rfl (Nat.le_of_ble_eq_true rfl) (ff_nil) (ws' := [ml m cI S M]) rfl ?_
  refine G.b_ne X dX7_cold_37 (fun b37 => ?_) (fun b37 => absurd b37 (by decide))
  refine G.pu X dX7_cold_45 ?_
  refine G.is X dX7_cold_46 (by decide) (lv' := [(4, .int 0), (0, .ref (m 0)), (1, .int (nI n)), (2, .int (nI t)), (3, .int 1)]) rfl ?_
  refine G.il X dX7_cold_48 0 rfl ?_
  refine G.z_eq X (a := 0) dX7_cold_50 (fun b50 => ?_) (fun b50 => absurd b50 (by decide))
  refine G.lc X dX7_cold_60 (v := 0) rfl ?_
  refine G.ls X dX7_cold_61 (by decide) (lv' := [(5, .long 0), (4, .int 0), (0, .ref (m 0)), (1, .int (nI n)), (2, .int (nI t)), (3, .int 1)]) rfl ?_
  refine G.lc X dX7_cold_63 (v := 1) rfl ?_
  refine G.ls X dX7_cold_64 (by decide) (lv' := [(7, .long 1), (5, .long 0), (4, .int 0), (0, .ref (m 0)), (1, .int (nI n)), (2, .int (nI t)), (3, .int 1)]) rfl ?_
  refine G.pu X dX7_cold_66 ?_
  refine G.is X dX7_cold_67 (by decide) (lv' := [(9, .int 0), (7, .long 1), (5, .long 0), (4, .int 0), (0, .ref (m 0)), (1, .int (nI n)), (2, .int (nI t)), (3, .int 1)]) rfl ?_
  have L69 : ∀ k, k ≤ n → G x 0 0 ([ml m cI S M]) 69 [(9, .int (nI k)), (7, .long (l_pow (Int32.toInt64 (nI t)) k)), (5, .long 0), (0, .ref (m 0)), (1, .int (nI n)), (2, .int (nI t)), (3, .int 1)] [] := by
    refine loop_dn n _ ?_ ?_
    · refine G.il X dX7_cold_69 0 rfl ?_
      refine G.il X dX7_cold_71 4 rfl ?_
      refine G.n_ge X (a := n) (b := n) (by omega) (by omega) dX7_cold_72 (fun b72 => ?_) (fun b72 => absurd b72 (by omega))
      refine G.pu X dX7_cold_88 ?_
      refine G.is X dX7_cold_89 (by decide) (lv' := [(9, .int 0), (7, .long (l_pow (Int32.toInt64 (nI t)) n)), (5, .long 0), (0, .ref (m 0)), (1, .int (nI n)), (2, .int (nI t)), (3, .int 1)]) rfl ?_
      have L91 : ∀ s, s ≤ 2 ^ n → ∀ M8 : {M8 : MS // Mq 64 M M8}, G x 0 0 ([ml m cI S M8.1]) 91 [(9, .int (nI s)), (5, .long (l_up S (Int32.toInt64 (nI t - 1)) n s)), (7, .long (l_pow (Int32.toInt64 (nI t)) n)), (0, .ref (m 0)), (1, .int (nI n)), (2, .int (nI t)), (3, .int 1)] [] := by
        refine loop_dn (2 ^ n) _ ?_ ?_
        · intro M8
          have hs7 := pow_le7 hn
          refine G.il X dX7_cold_91 0 rfl ?_
          refine G.pu X dX7_cold_93 ?_
          refine G.il X dX7_cold_94 4 rfl ?_
          refine G.ishl X dX7_cold_95 ?_
          refine G.top (b := nI (2 ^ n)) (shl_n hn) ?_
          refine G.n_ge X (a := 2 ^ n) (b := 2 ^ n) (by omega) (by omega) dX7_cold_96 (fun b96 => ?_) (fun b96 => absurd b96 (by omega))
          refine G.ll X dX7_cold_193 1 rfl ?_
          refine G.ll X dX7_cold_195 2 rfl ?_
          refine G.il X dX7_cold_197 6 rfl ?_
          refine G.cstj X kX7_partOf lX7_278 dX7_cold_198 (tX7_partOf l D cI cW (l_up S (Int32.toInt64 (nI t - 1)) n (2 ^ n)) (l_pow (Int32.toInt64 (nI t)) n) 1 r hz hnz hg) ⟨Nat.le_of_ble_eq_true rfl, Nat.le_of_ble_eq_true rfl⟩ ⟨Nat.zero_le _, Nat.zero_le _⟩ [] rfl ⟨rfl, rfl⟩ rfl rfl rfl (Nat.le_of_ble_eq_true rfl) (ff_nil) (ws' := [ml m cI S M8.1]) rfl ?_
          exact G.lret X Rr dX7_cold_201 (pje_mk (qk (M8.2)) (by simp) (by rfl))
        · intro s hs ih91 M8
          have hs7 := pow_le7 hn
          refine G.il X dX7_cold_91 0 rfl ?_
          refine G.pu X dX7_cold_93 ?_
          refine G.il X dX7_cold_94 4 rfl ?_
          refine G.ishl X dX7_cold_95 ?_
          refine G.top (b := nI (2 ^ n)) (shl_n hn) ?_
          refine G.n_ge X (a := s) (b := 2 ^ n) (by omega) (by omega) dX7_cold_96 (fun b96 => absurd b96 (by omega)) (fun b96 => ?_)
          refine G.al X dX7_cold_99 3 rfl ?_
          refine G.cvv X kX7_thinks lX7_211 dX7_cold_100 (tX7_thinks l D cI cW m S M8.1) ⟨Nat.le_of_ble_eq_true rfl, Nat.le_of_ble_eq_true rfl⟩ ⟨Nat.zero_le _, Nat.zero_le _⟩ [0] rfl ⟨rfl, rfl⟩ rfl rfl 0 0 rfl rfl rfl rfl (Nat.le_of_ble_eq_true rfl) (ff_cons (ml_fst _ _ _ _ _ _) (ff_nil)) (ws' := [ml m cI S (m_kpa M8.1 128 S)]) rfl ?_
          refine G.lc X dX7_cold_103 (v := 1) rfl ?_
          refine G.ls X dX7_cold_104 (by decide) (lv' := [(10, .long 1), (9, .int (nI s)), (5, .long (l_up S (Int32.toInt64 (nI t - 1)) n s)), (7, .long (l_pow (Int32.toInt64 (nI t)) n)), (0, .ref (m 0)), (1, .int (nI n)), (2, .int (nI t)), (3, .int 1)]) rfl ?_
          refine G.pu X dX7_cold_106 ?_
          refine G.is X dX7_cold_107 (by decide) (lv' := [(12, .int 0), (10, .long 1), (9, .int (nI s)), (5, .long (l_up S (Int32.toInt64 (nI t - 1)) n s)), (7, .long (l_pow (Int32.toInt64 (nI t)) n)), (0, .ref (m 0)), (1, .int (nI n)), (2, .int (nI t)), (3, .int 1)]) rfl ?_
          have L109 : ∀ k, k ≤ n → ∀ c8 : Bool, G x 0 0 ([ml m cI (w_sd S (nI s) k) (m_cos (m_kpa M8.1 128 S) c8)]) 109 [(12, .int (nI k)), (10, .long (l_pt (Int32.toInt64 (nI t - 1)) (nI s) k)), (9, .int (nI s)), (5, .long (l_up S (Int32.toInt64 (nI t - 1)) n s)), (7, .long (l_pow (Int32.toInt64 (nI t)) n)), (0, .ref (m 0)), (1, .int (nI n)), (2, .int (nI t)), (3, .int 1)] [] := by
            refine loop_dn n _ ?_ ?_
            · intro c8
              refine G.il X dX7_cold_109 0 rfl ?_
              refine G.il X dX7_cold_111 6 rfl ?_
              refine G.n_ge X (a := n) (b := n) (by omega) (by omega) dX7_cold_112 (fun b112 => ?_) (fun b112 => absurd b112 (by omega))
              refine G.al X dX7_cold_159 5 rfl ?_
              refine G.pu X dX7_cold_160 ?_
              refine G.put X fX7_187 fe7 dX7_cold_161 rfl (ty := .boolean) (by decide +kernel) rfl rfl 0 0 rfl rfl (Nat.le_of_ble_eq_true rfl) (blk' := ml m cI (w_sd S (nI s) n) (m_rf (m_cos (m_kpa M8.1 128 S) c8), false, m_tx (m_cos (m_kpa M8.1 128 S) c8), m_lt (m_cos (m_kpa M8.1 128 S) c8), m_la (m_cos (m_kpa M8.1 128 S) c8), m_to (m_cos (m_kpa M8.1 128 S) c8), m_tn (m_cos (m_kpa M8.1 128 S) c8), m_at (m_cos (m_kpa M8.1 128 S) c8), m_st (m_cos (m_kpa M8.1 128 S) c8), m_kp (m_cos (m_kpa M8.1 128 S) c8), m_hi (m_cos (m_kpa M8.1 128 S) c8), m_kg (m_cos (m_kpa M8.1 128 S) c8), m_cu (m_cos (m_kpa M8.1 128 S) c8), m_lr (m_cos (m_kpa M8.1 128 S) c8), m_ge (m_cos (m_kpa M8.1 128 S) c8), m_rw (m_cos (m_kpa M8.1 128 S) c8), m_rn (m_cos (m_kpa M8.1 128 S) c8))) rfl (ws' := [ml m cI (w_sd S (nI s) n) (m_rf (m_cos (m_kpa M8.1 128 S) c8), false, m_tx (m_cos (m_kpa M8.1 128 S) c8), m_lt (m_cos (m_kpa M8.1 128 S) c8), m_la (m_cos (m_kpa M8.1 128 S) c8), m_to (m_cos (m_kpa M8.1 128 S) c8), m_tn (m_cos (m_kpa M8.1 128 S) c8), m_at (m_cos (m_kpa M8.1 128 S) c8), m_st (m_cos (m_kpa M8.1 128 S) c8), m_kp (m_cos (m_kpa M8.1 128 S) c8), m_hi (m_cos (m_kpa M8.1 128 S) c8), m_kg (m_cos (m_kpa M8.1 128 S) c8), m_cu (m_cos (m_kpa M8.1 128 S) c8), m_lr (m_cos (m_kpa M8.1 128 S) c8), m_ge (m_cos (m_kpa M8.1 128 S) c8), m_rw (m_cos (m_kpa M8.1 128 S) c8), m_rn (m_cos (m_kpa M8.1 128 S) c8))]) rfl ?_
              refine G.cg (ws' := [ml m cI (w_sd S (nI s) n) (m_cos (m_kpa M8.1 128 S) false)]) rfl rfl rfl ?_
              refine G.ll X dX7_cold_164 3 rfl ?_
              refine G.al X dX7_cold_166 5 rfl ?_
              refine G.cvi X kX7_water lX7_205 dX7_cold_167 (tX7_water l D cI cW m (w_sd S (nI s) n) (m_cos (m_kpa M8.1 128 S) false) (ok_sd hS (nI s) n).th) ⟨Nat.le_of_ble_eq_true rfl, Nat.le_of_ble_eq_true rfl⟩ ⟨Nat.zero_le _, Nat.zero_le _⟩ [0] rfl ⟨rfl, rfl⟩ rfl rfl 0 0 rfl rfl rfl rfl (Nat.le_of_ble_eq_true rfl) (ff_cons (ml_fst _ _ _ _ _ _) (ff_nil)) (ws' := [ml m cI (w_sd S (nI s) n) (m_cos (m_kpa M8.1 128 S) false)]) rfl ?_
              refine G.pu X dX7_cold_170 ?_
              refine G.b1_ne X dX7_cold_171 (fun b171 => ?_) (fun b171 => ?_)
              · refine G.lc X dX7_cold_179 (v := 0) rfl ?_
                refine G.ladd X dX7_cold_180 ?_
                refine G.ls X dX7_cold_181 (by decide) (lv' := [(5, .long ((l_up S (Int32.toInt64 (nI t - 1)) n s) + 0)), (12, .int (nI n)), (10, .long (l_pt (Int32.toInt64 (nI t - 1)) (nI s) n)), (9, .int (nI s)), (7, .long (l_pow (Int32.toInt64 (nI t)) n)), (0, .ref (m 0)), (1, .int (nI n)), (2, .int (nI t)), (3, .int 1)]) rfl ?_
                refine G.al X dX7_cold_183 5 rfl ?_
                refine G.cvv X kX7_forgets lX7_214 dX7_cold_184 (tX7_forgets l D cI cW m (w_sd S (nI s) n) (m_cos (m_kpa M8.1 128 S) false) S (kpall_KP _ 128 S)) ⟨Nat.le_of_ble_eq_true rfl, Nat.le_of_ble_eq_true rfl⟩ ⟨Nat.zero_le _, Nat.zero_le _⟩ [0] rfl ⟨rfl, rfl⟩ rfl rfl 0 0 rfl rfl rfl rfl (Nat.le_of_ble_eq_true rfl) (ff_cons (ml_fst _ _ _ _ _ _) (ff_nil)) (ws' := [ml m cI S (m_set (m_cos (m_kpa M8.1 128 S) false) 192 false)]) rfl ?_
                refine G.iinc X dX7_cold_187 3 rfl (v' := nI (s + 1)) (nI_inc s) (by decide) (lv' := [(9, .int (nI (s + 1))), (5, .long ((l_up S (Int32.toInt64 (nI t - 1)) n s) + 0)), (12, .int (nI n)), (10, .long (l_pt (Int32.toInt64 (nI t - 1)) (nI s) n)), (7, .long (l_pow (Int32.toInt64 (nI t)) n)), (0, .ref (m 0)), (1, .int (nI n)), (2, .int (nI t)), (3, .int 1)]) rfl ?_
                refine G.go X dX7_cold_190 ?_
                replace ih91 := ih91 (qk ((mq_cos ((M8.2).tr (mq_kpa M8.1 128 S) (by decide)) hco).tr (mq_set 64 (m_cos (m_kpa M8.1 128 S) false) 192 false) (Nat.le_refl _)))
                rw [show (l_up S (Int32.toInt64 (nI t - 1)) n (s + 1)) = ((l_up S (Int32.toInt64 (nI t - 1)) n s) + 0) from (by simp [l_up, b96, b112, b171])] at ih91
                refine G.lvsub [0, 1, 4, 5, 6, 7, 8] (lv' := [(9, .int (nI (s + 1))), (5, .long ((l_up S (Int32.toInt64 (nI t - 1)) n s) + 0)), (7, .long (l_pow (Int32.toInt64 (nI t)) n)), (0, .ref (m 0)), (1, .int (nI n)), (2, .int (nI t)), (3, .int 1)]) rfl ?_
                exact ih91
              · refine G.ll X dX7_cold_174 1 rfl ?_
                refine G.go X dX7_cold_176 ?_
                refine G.ladd X dX7_cold_180 ?_
                refine G.ls X dX7_cold_181 (by decide) (lv' := [(5, .long ((l_up S (Int32.toInt64 (nI t - 1)) n s) + (l_pt (Int32.toInt64 (nI t - 1)) (nI s) n))), (12, .int (nI n)), (10, .long (l_pt (Int32.toInt64 (nI t - 1)) (nI s) n)), (9, .int (nI s)), (7, .long (l_pow (Int32.toInt64 (nI t)) n)), (0, .ref (m 0)), (1, .int (nI n)), (2, .int (nI t)), (3, .int 1)]) rfl ?_
                refine G.al X dX7_cold_183 5 rfl ?_
                refine G.cvv X kX7_forgets lX7_214 dX7_cold_184 (tX7_forgets l D cI cW m (w_sd S (nI s) n) (m_cos (m_kpa M8.1 128 S) false) S (kpall_KP _ 128 S)) ⟨Nat.le_of_ble_eq_true rfl, Nat.le_of_ble_eq_true rfl⟩ ⟨Nat.zero_le _, Nat.zero_le _⟩ [0] rfl ⟨rfl, rfl⟩ rfl rfl 0 0 rfl rfl rfl rfl (Nat.le_of_ble_eq_true rfl) (ff_cons (ml_fst _ _ _ _ _ _) (ff_nil)) (ws' := [ml m cI S (m_set (m_cos (m_kpa M8.1 128 S) false) 192 false)]) rfl ?_
                refine G.iinc X dX7_cold_187 3 rfl (v' := nI (s + 1)) (nI_inc s) (by decide) (lv' := [(9, .int (nI (s + 1))), (5, .long ((l_up S (Int32.toInt64 (nI t - 1)) n s) + (l_pt (Int32.toInt64 (nI t - 1)) (nI s) n))), (12, .int (nI n)), (10, .long (l_pt (Int32.toInt64 (nI t - 1)) (nI s) n)), (7, .long (l_pow (Int32.toInt64 (nI t)) n)), (0, .ref (m 0)), (1, .int (nI n)), (2, .int (nI t)), (3, .int 1)]) rfl ?_
                refine G.go X dX7_cold_190 ?_
                replace ih91 := ih91 (qk ((mq_cos ((M8.2).tr (mq_kpa M8.1 128 S) (by decide)) hco).tr (mq_set 64 (m_cos (m_kpa M8.1 128 S) false) 192 false) (Nat.le_refl _)))
                rw [show (l_up S (Int32.toInt64 (nI t - 1)) n (s + 1)) = ((l_up S (Int32.toInt64 (nI t - 1)) n s) + (l_pt (Int32.toInt64 (nI t - 1)) (nI s) n)) from (by simp [l_up, b96, b112, b171])] at ih91
                refine G.lvsub [0, 1, 4, 5, 6, 7, 8] (lv' := [(9, .int (nI (s + 1))), (5, .long ((l_up S (Int32.toInt64 (nI t - 1)) n s) + (l_pt (Int32.toInt64 (nI t - 1)) (nI s) n))), (7, .long (l_pow (Int32.toInt64 (nI t)) n)), (0, .ref (m 0)), (1, .int (nI n)), (2, .int (nI t)), (3, .int 1)]) rfl ?_
                exact ih91
            · intro k hk ih109 c8
              have hT : Ok (w_sd S (nI s) k) := ok_sd hS (nI s) k
              refine G.il X dX7_cold_109 0 rfl ?_
              refine G.il X dX7_cold_111 6 rfl ?_
              refine G.n_ge X (a := k) (b := n) (by omega) (by omega) dX7_cold_112 (fun b112 => absurd b112 (by omega)) (fun b112 => ?_)
              refine G.ll X dX7_cold_115 1 rfl ?_
              refine G.il X dX7_cold_117 2 rfl ?_
              refine G.il X dX7_cold_119 0 rfl ?_
              refine G.csti X kX7_has lX7_178 dX7_cold_121 (tX7_has l D cI cW (nI s) (nI k)) ⟨Nat.le_of_ble_eq_true rfl, Nat.le_of_ble_eq_true rfl⟩ ⟨Nat.zero_le _, Nat.zero_le _⟩ [] rfl ⟨rfl, rfl⟩ rfl rfl rfl (Nat.le_of_ble_eq_true rfl) (ff_nil) (ws' := [ml m cI (w_sd S (nI s) k) (m_cos (m_kpa M8.1 128 S) c8)]) rfl ?_
              refine G.b_eq X dX7_cold_124 (fun b124 => ?_) (fun b124 => ?_)
              · refine G.il X dX7_cold_131 7 rfl ?_
                refine G.pu X dX7_cold_132 ?_
                refine G.isub X dX7_cold_133 ?_
                refine G.i2l X dX7_cold_134 ?_
                refine G.lmul X dX7_cold_135 ?_
                refine G.ls X dX7_cold_136 (by decide) (lv' := [(10, .long ((l_pt (Int32.toInt64 (nI t - 1)) (nI s) k) * (Int32.toInt64 ((nI t) - 1)))), (12, .int (nI k)), (9, .int (nI s)), (5, .long (l_up S (Int32.toInt64 (nI t - 1)) n s)), (7, .long (l_pow (Int32.toInt64 (nI t)) n)), (0, .ref (m 0)), (1, .int (nI n)), (2, .int (nI t)), (3, .int 1)]) rfl ?_
                refine G.al X dX7_cold_138 5 rfl ?_
                refine G.il X dX7_cold_139 2 rfl ?_
                refine G.il X dX7_cold_141 1 rfl ?_
                refine G.csti X kX7_has lX7_178 dX7_cold_143 (tX7_has l D cI cW (nI s) (nI k)) ⟨Nat.le_of_ble_eq_true rfl, Nat.le_of_ble_eq_true rfl⟩ ⟨Nat.zero_le _, Nat.zero_le _⟩ [] rfl ⟨rfl, rfl⟩ rfl rfl rfl (Nat.le_of_ble_eq_true rfl) (ff_nil) (ws' := [ml m cI (w_sd S (nI s) k) (m_cos (m_kpa M8.1 128 S) c8)]) rfl ?_
                refine G.top (b := b2i false) (by rw [b124]) ?_
                refine G.put X fX7_187 fe7 dX7_cold_146 rfl (ty := .boolean) (by decide +kernel) rfl rfl 0 0 rfl rfl (Nat.le_of_ble_eq_true rfl) (blk' := ml m cI (w_sd S (nI s) k) (m_rf (m_cos (m_kpa M8.1 128 S) c8), false, m_tx (m_cos (m_kpa M8.1 128 S) c8), m_lt (m_cos (m_kpa M8.1 128 S) c8), m_la (m_cos (m_kpa M8.1 128 S) c8), m_to (m_cos (m_kpa M8.1 128 S) c8), m_tn (m_cos (m_kpa M8.1 128 S) c8), m_at (m_cos (m_kpa M8.1 128 S) c8), m_st (m_cos (m_kpa M8.1 128 S) c8), m_kp (m_cos (m_kpa M8.1 128 S) c8), m_hi (m_cos (m_kpa M8.1 128 S) c8), m_kg (m_cos (m_kpa M8.1 128 S) c8), m_cu (m_cos (m_kpa M8.1 128 S) c8), m_lr (m_cos (m_kpa M8.1 128 S) c8), m_ge (m_cos (m_kpa M8.1 128 S) c8), m_rw (m_cos (m_kpa M8.1 128 S) c8), m_rn (m_cos (m_kpa M8.1 128 S) c8))) rfl (ws' := [ml m cI (w_sd S (nI s) k) (m_rf (m_cos (m_kpa M8.1 128 S) c8), false, m_tx (m_cos (m_kpa M8.1 128 S) c8), m_lt (m_cos (m_kpa M8.1 128 S) c8), m_la (m_cos (m_kpa M8.1 128 S) c8), m_to (m_cos (m_kpa M8.1 128 S) c8), m_tn (m_cos (m_kpa M8.1 128 S) c8), m_at (m_cos (m_kpa M8.1 128 S) c8), m_st (m_cos (m_kpa M8.1 128 S) c8), m_kp (m_cos (m_kpa M8.1 128 S) c8), m_hi (m_cos (m_kpa M8.1 128 S) c8), m_kg (m_cos (m_kpa M8.1 128 S) c8), m_cu (m_cos (m_kpa M8.1 128 S) c8), m_lr (m_cos (m_kpa M8.1 128 S) c8), m_ge (m_cos (m_kpa M8.1 128 S) c8), m_rw (m_cos (m_kpa M8.1 128 S) c8), m_rn (m_cos (m_kpa M8.1 128 S) c8))]) rfl ?_
                refine G.cg (ws' := [ml m cI (w_sd S (nI s) k) (m_cos (m_kpa M8.1 128 S) false)]) rfl rfl rfl ?_
                refine G.al X dX7_cold_149 5 rfl ?_
                refine G.cvv X kX7_goesDay lX7_199 dX7_cold_150 (tX7_goesDay l D cI cW m (w_sd S (nI s) k) (m_cos (m_kpa M8.1 128 S) false) hT rfl) ⟨Nat.le_of_ble_eq_true rfl, Nat.le_of_ble_eq_true rfl⟩ ⟨Nat.zero_le _, Nat.zero_le _⟩ [0] rfl ⟨rfl, rfl⟩ rfl rfl 0 0 rfl rfl rfl rfl (Nat.le_of_ble_eq_true rfl) (ff_cons (ml_fst _ _ _ _ _ _) (ff_nil)) (ws' := [ml m cI (w_day true (w_sd S (nI s) k)) (m_cos (m_kpa M8.1 128 S) false)]) rfl ?_
                refine G.iinc X dX7_cold_153 1 rfl (v' := nI (k + 1)) (nI_inc k) (by decide) (lv' := [(12, .int (nI (k + 1))), (10, .long ((l_pt (Int32.toInt64 (nI t - 1)) (nI s) k) * (Int32.toInt64 ((nI t) - 1)))), (9, .int (nI s)), (5, .long (l_up S (Int32.toInt64 (nI t - 1)) n s)), (7, .long (l_pow (Int32.toInt64 (nI t)) n)), (0, .ref (m 0)), (1, .int (nI n)), (2, .int (nI t)), (3, .int 1)]) rfl ?_
                refine G.go X dX7_cold_156 ?_
                replace ih109 := ih109 false
                rw [show (l_pt (Int32.toInt64 (nI t - 1)) (nI s) (k + 1)) = ((l_pt (Int32.toInt64 (nI t - 1)) (nI s) k) * (Int32.toInt64 ((nI t) - 1))) from (by simp [w_sd, l_pt, b124])] at ih109
                rw [show (w_sd S (nI s) (k + 1)) = (w_day true (w_sd S (nI s) k)) from (by simp [w_sd, l_pt, b124])] at ih109
                exact ih109
              · refine G.lc X dX7_cold_127 (v := 1) rfl ?_
                refine G.go X dX7_cold_128 ?_
                refine G.lmul X dX7_cold_135 ?_
                refine G.ls X dX7_cold_136 (by decide) (lv' := [(10, .long ((l_pt (Int32.toInt64 (nI t - 1)) (nI s) k) * 1)), (12, .int (nI k)), (9, .int (nI s)), (5, .long (l_up S (Int32.toInt64 (nI t - 1)) n s)), (7, .long (l_pow (Int32.toInt64 (nI t)) n)), (0, .ref (m 0)), (1, .int (nI n)), (2, .int (nI t)), (3, .int 1)]) rfl ?_
                refine G.al X dX7_cold_138 5 rfl ?_
                refine G.il X dX7_cold_139 2 rfl ?_
                refine G.il X dX7_cold_141 1 rfl ?_
                refine G.csti X kX7_has lX7_178 dX7_cold_143 (tX7_has l D cI cW (nI s) (nI k)) ⟨Nat.le_of_ble_eq_true rfl, Nat.le_of_ble_eq_true rfl⟩ ⟨Nat.zero_le _, Nat.zero_le _⟩ [] rfl ⟨rfl, rfl⟩ rfl rfl rfl (Nat.le_of_ble_eq_true rfl) (ff_nil) (ws' := [ml m cI (w_sd S (nI s) k) (m_cos (m_kpa M8.1 128 S) c8)]) rfl ?_
                refine G.top (b := b2i true) (by rw [b124]) ?_
                refine G.put X fX7_187 fe7 dX7_cold_146 rfl (ty := .boolean) (by decide +kernel) rfl rfl 0 0 rfl rfl (Nat.le_of_ble_eq_true rfl) (blk' := ml m cI (w_sd S (nI s) k) (m_rf (m_cos (m_kpa M8.1 128 S) c8), true, m_tx (m_cos (m_kpa M8.1 128 S) c8), m_lt (m_cos (m_kpa M8.1 128 S) c8), m_la (m_cos (m_kpa M8.1 128 S) c8), m_to (m_cos (m_kpa M8.1 128 S) c8), m_tn (m_cos (m_kpa M8.1 128 S) c8), m_at (m_cos (m_kpa M8.1 128 S) c8), m_st (m_cos (m_kpa M8.1 128 S) c8), m_kp (m_cos (m_kpa M8.1 128 S) c8), m_hi (m_cos (m_kpa M8.1 128 S) c8), m_kg (m_cos (m_kpa M8.1 128 S) c8), m_cu (m_cos (m_kpa M8.1 128 S) c8), m_lr (m_cos (m_kpa M8.1 128 S) c8), m_ge (m_cos (m_kpa M8.1 128 S) c8), m_rw (m_cos (m_kpa M8.1 128 S) c8), m_rn (m_cos (m_kpa M8.1 128 S) c8))) rfl (ws' := [ml m cI (w_sd S (nI s) k) (m_rf (m_cos (m_kpa M8.1 128 S) c8), true, m_tx (m_cos (m_kpa M8.1 128 S) c8), m_lt (m_cos (m_kpa M8.1 128 S) c8), m_la (m_cos (m_kpa M8.1 128 S) c8), m_to (m_cos (m_kpa M8.1 128 S) c8), m_tn (m_cos (m_kpa M8.1 128 S) c8), m_at (m_cos (m_kpa M8.1 128 S) c8), m_st (m_cos (m_kpa M8.1 128 S) c8), m_kp (m_cos (m_kpa M8.1 128 S) c8), m_hi (m_cos (m_kpa M8.1 128 S) c8), m_kg (m_cos (m_kpa M8.1 128 S) c8), m_cu (m_cos (m_kpa M8.1 128 S) c8), m_lr (m_cos (m_kpa M8.1 128 S) c8), m_ge (m_cos (m_kpa M8.1 128 S) c8), m_rw (m_cos (m_kpa M8.1 128 S) c8), m_rn (m_cos (m_kpa M8.1 128 S) c8))]) rfl ?_
                refine G.cg (ws' := [ml m cI (w_sd S (nI s) k) (m_cos (m_kpa M8.1 128 S) true)]) rfl rfl rfl ?_
                refine G.al X dX7_cold_149 5 rfl ?_
                refine G.cvv X kX7_goesDay lX7_199 dX7_cold_150 (tX7_goesDay_cold l D cI cW m (w_sd S (nI s) k) (m_cos (m_kpa M8.1 128 S) true) hT rfl) ⟨Nat.le_of_ble_eq_true rfl, Nat.le_of_ble_eq_true rfl⟩ ⟨Nat.zero_le _, Nat.zero_le _⟩ [0] rfl ⟨rfl, rfl⟩ rfl rfl 0 0 rfl rfl rfl rfl (Nat.le_of_ble_eq_true rfl) (ff_cons (ml_fst _ _ _ _ _ _) (ff_nil)) (ws' := [ml m cI (w_day false (w_sd S (nI s) k)) (m_cos (m_kpa M8.1 128 S) true)]) rfl ?_
                refine G.iinc X dX7_cold_153 1 rfl (v' := nI (k + 1)) (nI_inc k) (by decide) (lv' := [(12, .int (nI (k + 1))), (10, .long ((l_pt (Int32.toInt64 (nI t - 1)) (nI s) k) * 1)), (9, .int (nI s)), (5, .long (l_up S (Int32.toInt64 (nI t - 1)) n s)), (7, .long (l_pow (Int32.toInt64 (nI t)) n)), (0, .ref (m 0)), (1, .int (nI n)), (2, .int (nI t)), (3, .int 1)]) rfl ?_
                refine G.go X dX7_cold_156 ?_
                replace ih109 := ih109 true
                rw [show (l_pt (Int32.toInt64 (nI t - 1)) (nI s) (k + 1)) = ((l_pt (Int32.toInt64 (nI t - 1)) (nI s) k) * 1) from (by simp [w_sd, l_pt, b124])] at ih109
                rw [show (w_sd S (nI s) (k + 1)) = (w_day false (w_sd S (nI s) k)) from (by simp [w_sd, l_pt, b124])] at ih109
                exact ih109
          have L109 := L109 0 (Nat.zero_le _) (m_co M8.1)
          exact L109
      refine G.lvsub [0, 2, 1, 3, 4, 5, 6] (lv' := [(9, .int 0), (5, .long 0), (7, .long (l_pow (Int32.toInt64 (nI t)) n)), (0, .ref (m 0)), (1, .int (nI n)), (2, .int (nI t)), (3, .int 1)]) rfl ?_
      have L91 := L91 0 (Nat.zero_le _) (qk (Mq.rf 64 M))
      exact L91
    · intro k hk ih69
      refine G.il X dX7_cold_69 0 rfl ?_
      refine G.il X dX7_cold_71 4 rfl ?_
      refine G.n_ge X (a := k) (b := n) (by omega) (by omega) dX7_cold_72 (fun b72 => absurd b72 (by omega)) (fun b72 => ?_)
      refine G.ll X dX7_cold_75 1 rfl ?_
      refine G.il X dX7_cold_77 5 rfl ?_
      refine G.i2l X dX7_cold_78 ?_
      refine G.lmul X dX7_cold_79 ?_
      refine G.ls X dX7_cold_80 (by decide) (lv' := [(7, .long ((l_pow (Int32.toInt64 (nI t)) k) * (Int32.toInt64 (nI t)))), (9, .int (nI k)), (5, .long 0), (0, .ref (m 0)), (1, .int (nI n)), (2, .int (nI t)), (3, .int 1)]) rfl ?_
      refine G.iinc X dX7_cold_82 1 rfl (v' := nI (k + 1)) (nI_inc k) (by decide) (lv' := [(9, .int (nI (k + 1))), (7, .long ((l_pow (Int32.toInt64 (nI t)) k) * (Int32.toInt64 (nI t)))), (5, .long 0), (0, .ref (m 0)), (1, .int (nI n)), (2, .int (nI t)), (3, .int 1)]) rfl ?_
      refine G.go X dX7_cold_85 ?_
      rw [show (l_pow (Int32.toInt64 (nI t)) (k + 1)) = ((l_pow (Int32.toInt64 (nI t)) k) * (Int32.toInt64 (nI t))) from (by rfl)] at ih69
      exact ih69
  refine G.lvsub [0, 1, 2, 4, 5, 6, 7] (lv' := [(9, .int 0), (7, .long 1), (5, .long 0), (0, .ref (m 0)), (1, .int (nI n)), (2, .int (nI t)), (3, .int 1)]) rfl ?_
  have L69 := L69 0 (Nat.zero_le _)
  exact L69

set_option maxRecDepth 20000 in
theorem tX7_mean_oth (l : Launch) (D : va_G) (cI cW : ClassId) (m : Nat → Nat) (S : WS) (M : MS) (w : Int32) (hS : Ok S) (hw : z_in w 2 = false) : CT l D cI cW yX7_mean cX7_mean 2 (some .long) ⟨1, 0, 0, 22⟩ [.ref (m 0), .int w] ([ml m cI S M]) (PJ (4000000000000000000 - Int32.toInt64 (-(nI 2))) ([ml m cI S (m_no M 2)])) := by
  refine CT.of RX7 rfl (by decide +kernel) (Nat.le_of_ble_eq_true rfl) [(0, .ref (m 0)), (1, .int w)] rfl (fun x X Rr hnm => ?_)
  have hth := hS.th
  have hpe := hS.pe
  refine G.il X dX7_mean_0 1 rfl ?_
  refine G.pu X dX7_mean_1 ?_
  refine G.pu X dX7_mean_2 ?_
  refine G.csti X kX7_isIn lX7_85 dX7_mean_3 (tX7_isIn_no l D cI cW w 0 1 (zbt_no (n := 1) hw (by decide))) ⟨Nat.le_of_ble_eq_true rfl, Nat.le_of_ble_eq_true rfl⟩ ⟨Nat.zero_le _, Nat.zero_le _⟩ [] rfl ⟨rfl, rfl⟩ rfl rfl rfl (Nat.le_of_ble_eq_true rfl) (ff_nil) (ws' := [ml m cI S M]) rfl ?_
  refine G.b_ne X dX7_mean_6 (fun b6 => absurd b6 (by decide)) (fun b6 => ?_)
  refine G.al X dX7_mean_9 0 rfl ?_
  refine G.pu X dX7_mean_10 ?_
  refine G.cvj X kX7_lowest lX7_274 dX7_mean_12 (tX7_lowest l D cI cW m S M 2 (by omega) (by omega)) ⟨Nat.le_of_ble_eq_true rfl, Nat.le_of_ble_eq_true rfl⟩ ⟨Nat.zero_le _, Nat.zero_le _⟩ [0] rfl ⟨rfl, rfl⟩ rfl rfl 0 0 rfl rfl rfl rfl (Nat.le_of_ble_eq_true rfl) (ff_cons (ml_fst _ _ _ _ _ _) (ff_nil)) (ws' := [ml m cI S (m_no M 2)]) rfl ?_
  exact G.lret X Rr dX7_mean_15 (pj_mk (by rfl) (by rfl))

set_option maxRecDepth 20000 in
theorem tX7_mean_e0 (l : Launch) (D : va_G) (cI cW : ClassId) (m : Nat → Nat) (S : WS) (M : MS) (hS : Ok S) (h0 : s_th S = 0) : CT l D cI cW yX7_mean cX7_mean 2 (some .long) ⟨1, 0, 0, 22⟩ [.ref (m 0), .int 0] ([ml m cI S M]) (PJ (0) ([ml m cI S M])) := by
  refine CT.of RX7 rfl (by decide +kernel) (Nat.le_of_ble_eq_true rfl) [(0, .ref (m 0)), (1, .int 0)] rfl (fun x X Rr hnm => ?_)
  have hth := hS.th
  have hpe := hS.pe
  refine G.il X dX7_mean_0 1 rfl ?_
  refine G.pu X dX7_mean_1 ?_
  refine G.pu X dX7_mean_2 ?_
  refine G.csti X kX7_isIn lX7_85 dX7_mean_3 (tX7_isIn_yes l D cI cW 0 0 1 (by omega) (by omega) (by omega)) ⟨Nat.le_of_ble_eq_true rfl, Nat.le_of_ble_eq_true rfl⟩ ⟨Nat.zero_le _, Nat.zero_le _⟩ [] rfl ⟨rfl, rfl⟩ rfl rfl rfl (Nat.le_of_ble_eq_true rfl) (ff_nil) (ws' := [ml m cI S M]) rfl ?_
  refine G.b_ne X dX7_mean_6 (fun b6 => ?_) (fun b6 => absurd b6 (by decide))
  refine G.al X dX7_mean_16 0 rfl ?_
  refine G.get X fX7_58 dX7_mean_17 0 0 rfl rfl rfl ?_
  refine G.nz_ne X (a := s_th S) (by omega) dX7_mean_20 (fun b20 => absurd b20 (by omega)) (fun b20 => ?_)
  refine G.il X dX7_mean_23 1 rfl ?_
  refine G.i2l X dX7_mean_24 ?_
  refine G.go X dX7_mean_25 ?_
  exact G.lret X Rr dX7_mean_42 (pj_mk (by decide) (by rfl))

set_option maxRecDepth 20000 in
theorem tX7_mean_0 (l : Launch) (D : va_G) (cI cW : ClassId) (m : Nat → Nat) (S : WS) (M : MS) (r : Nat) (hS : Ok S) (h0 : 0 < s_th S) (hz : (l_it (Int32.toInt64 (sumf (s_le S) (s_th S))) (Int32.toInt64 (nI (s_th S))) r).2 = 0) (hnz : ∀ j, j < r → ¬ (l_it (Int32.toInt64 (sumf (s_le S) (s_th S))) (Int32.toInt64 (nI (s_th S))) j).2 = 0) (hg : ¬ (l_it (Int32.toInt64 (sumf (s_le S) (s_th S))) (Int32.toInt64 (nI (s_th S))) r).1 = 0) : CT l D cI cW yX7_mean cX7_mean 2 (some .long) ⟨2, 0, 0, 53⟩ [.ref (m 0), .int 0] ([ml m cI S M]) (PJ ((Int32.toInt64 (sumf (s_le S) (s_th S))) / (l_it (Int32.toInt64 (sumf (s_le S) (s_th S))) (Int32.toInt64 (nI (s_th S))) r).1) ([ml m cI S M])) := by
  refine CT.of RX7 rfl (by decide +kernel) (Nat.le_of_ble_eq_true rfl) [(0, .ref (m 0)), (1, .int 0)] rfl (fun x X Rr hnm => ?_)
  have hth := hS.th
  have hpe := hS.pe
  refine G.il X dX7_mean_0 1 rfl ?_
  refine G.pu X dX7_mean_1 ?_
  refine G.pu X dX7_mean_2 ?_
  refine G.csti X kX7_isIn lX7_85 dX7_mean_3 (tX7_isIn_yes l D cI cW 0 0 1 (by omega) (by omega) (by omega)) ⟨Nat.le_of_ble_eq_true rfl, Nat.le_of_ble_eq_true rfl⟩ ⟨Nat.zero_le _, Nat.zero_le _⟩ [] rfl ⟨rfl, rfl⟩ rfl rfl rfl (Nat.le_of_ble_eq_true rfl) (ff_nil) (ws' := [ml m cI S M]) rfl ?_
  refine G.b_ne X dX7_mean_6 (fun b6 => ?_) (fun b6 => absurd b6 (by decide))
  refine G.al X dX7_mean_16 0 rfl ?_
  refine G.get X fX7_58 dX7_mean_17 0 0 rfl rfl rfl ?_
  refine G.nz_ne X (a := s_th S) (by omega) dX7_mean_20 (fun b20 => ?_) (fun b20 => absurd b20 (by omega))
  refine G.al X dX7_mean_28 0 rfl ?_
  refine G.cvi X kX7_allLeft lX7_220 dX7_mean_29 (tX7_allLeft l D cI cW m S M (by omega)) ⟨Nat.le_of_ble_eq_true rfl, Nat.le_of_ble_eq_true rfl⟩ ⟨Nat.zero_le _, Nat.zero_le _⟩ [0] rfl ⟨rfl, rfl⟩ rfl rfl 0 0 rfl rfl rfl rfl (Nat.le_of_ble_eq_true rfl) (ff_cons (ml_fst _ _ _ _ _ _) (ff_nil)) (ws' := [ml m cI S M]) rfl ?_
  refine G.i2l X dX7_mean_32 ?_
  refine G.al X dX7_mean_33 0 rfl ?_
  refine G.get X fX7_58 dX7_mean_34 0 0 rfl rfl rfl ?_
  refine G.i2l X dX7_mean_37 ?_
  refine G.il X dX7_mean_38 1 rfl ?_
  refine G.cstj X kX7_partOf lX7_278 dX7_mean_39 (tX7_partOf l D cI cW (Int32.toInt64 (sumf (s_le S) (s_th S))) (Int32.toInt64 (nI (s_th S))) 0 r hz hnz hg) ⟨Nat.le_of_ble_eq_true rfl, Nat.le_of_ble_eq_true rfl⟩ ⟨Nat.zero_le _, Nat.zero_le _⟩ [] rfl ⟨rfl, rfl⟩ rfl rfl rfl (Nat.le_of_ble_eq_true rfl) (ff_nil) (ws' := [ml m cI S M]) rfl ?_
  exact G.lret X Rr dX7_mean_42 (pj_mk (by simp) (by rfl))

set_option maxRecDepth 20000 in
theorem tX7_mean_e1 (l : Launch) (D : va_G) (cI cW : ClassId) (m : Nat → Nat) (S : WS) (M : MS) (hS : Ok S) (h0 : s_th S = 0) : CT l D cI cW yX7_mean cX7_mean 2 (some .long) ⟨1, 0, 0, 22⟩ [.ref (m 0), .int 1] ([ml m cI S M]) (PJ (1) ([ml m cI S M])) := by
  refine CT.of RX7 rfl (by decide +kernel) (Nat.le_of_ble_eq_true rfl) [(0, .ref (m 0)), (1, .int 1)] rfl (fun x X Rr hnm => ?_)
  have hth := hS.th
  have hpe := hS.pe
  refine G.il X dX7_mean_0 1 rfl ?_
  refine G.pu X dX7_mean_1 ?_
  refine G.pu X dX7_mean_2 ?_
  refine G.csti X kX7_isIn lX7_85 dX7_mean_3 (tX7_isIn_yes l D cI cW 1 0 1 (by omega) (by omega) (by omega)) ⟨Nat.le_of_ble_eq_true rfl, Nat.le_of_ble_eq_true rfl⟩ ⟨Nat.zero_le _, Nat.zero_le _⟩ [] rfl ⟨rfl, rfl⟩ rfl rfl rfl (Nat.le_of_ble_eq_true rfl) (ff_nil) (ws' := [ml m cI S M]) rfl ?_
  refine G.b_ne X dX7_mean_6 (fun b6 => ?_) (fun b6 => absurd b6 (by decide))
  refine G.al X dX7_mean_16 0 rfl ?_
  refine G.get X fX7_58 dX7_mean_17 0 0 rfl rfl rfl ?_
  refine G.nz_ne X (a := s_th S) (by omega) dX7_mean_20 (fun b20 => absurd b20 (by omega)) (fun b20 => ?_)
  refine G.il X dX7_mean_23 1 rfl ?_
  refine G.i2l X dX7_mean_24 ?_
  refine G.go X dX7_mean_25 ?_
  exact G.lret X Rr dX7_mean_42 (pj_mk (by decide) (by rfl))

set_option maxRecDepth 20000 in
theorem tX7_mean_1 (l : Launch) (D : va_G) (cI cW : ClassId) (m : Nat → Nat) (S : WS) (M : MS) (r : Nat) (hS : Ok S) (h0 : 0 < s_th S) (hz : (l_it (Int32.toInt64 (sumf (s_le S) (s_th S))) (Int32.toInt64 (nI (s_th S))) r).2 = 0) (hnz : ∀ j, j < r → ¬ (l_it (Int32.toInt64 (sumf (s_le S) (s_th S))) (Int32.toInt64 (nI (s_th S))) j).2 = 0) (hg : ¬ (l_it (Int32.toInt64 (sumf (s_le S) (s_th S))) (Int32.toInt64 (nI (s_th S))) r).1 = 0) : CT l D cI cW yX7_mean cX7_mean 2 (some .long) ⟨2, 0, 0, 53⟩ [.ref (m 0), .int 1] ([ml m cI S M]) (PJ ((Int32.toInt64 (nI (s_th S))) / (l_it (Int32.toInt64 (sumf (s_le S) (s_th S))) (Int32.toInt64 (nI (s_th S))) r).1) ([ml m cI S M])) := by
  refine CT.of RX7 rfl (by decide +kernel) (Nat.le_of_ble_eq_true rfl) [(0, .ref (m 0)), (1, .int 1)] rfl (fun x X Rr hnm => ?_)
  have hth := hS.th
  have hpe := hS.pe
  refine G.il X dX7_mean_0 1 rfl ?_
  refine G.pu X dX7_mean_1 ?_
  refine G.pu X dX7_mean_2 ?_
  refine G.csti X kX7_isIn lX7_85 dX7_mean_3 (tX7_isIn_yes l D cI cW 1 0 1 (by omega) (by omega) (by omega)) ⟨Nat.le_of_ble_eq_true rfl, Nat.le_of_ble_eq_true rfl⟩ ⟨Nat.zero_le _, Nat.zero_le _⟩ [] rfl ⟨rfl, rfl⟩ rfl rfl rfl (Nat.le_of_ble_eq_true rfl) (ff_nil) (ws' := [ml m cI S M]) rfl ?_
  refine G.b_ne X dX7_mean_6 (fun b6 => ?_) (fun b6 => absurd b6 (by decide))
  refine G.al X dX7_mean_16 0 rfl ?_
  refine G.get X fX7_58 dX7_mean_17 0 0 rfl rfl rfl ?_
  refine G.nz_ne X (a := s_th S) (by omega) dX7_mean_20 (fun b20 => ?_) (fun b20 => absurd b20 (by omega))
  refine G.al X dX7_mean_28 0 rfl ?_
  refine G.cvi X kX7_allLeft lX7_220 dX7_mean_29 (tX7_allLeft l D cI cW m S M (by omega)) ⟨Nat.le_of_ble_eq_true rfl, Nat.le_of_ble_eq_true rfl⟩ ⟨Nat.zero_le _, Nat.zero_le _⟩ [0] rfl ⟨rfl, rfl⟩ rfl rfl 0 0 rfl rfl rfl rfl (Nat.le_of_ble_eq_true rfl) (ff_cons (ml_fst _ _ _ _ _ _) (ff_nil)) (ws' := [ml m cI S M]) rfl ?_
  refine G.i2l X dX7_mean_32 ?_
  refine G.al X dX7_mean_33 0 rfl ?_
  refine G.get X fX7_58 dX7_mean_34 0 0 rfl rfl rfl ?_
  refine G.i2l X dX7_mean_37 ?_
  refine G.il X dX7_mean_38 1 rfl ?_
  refine G.cstj X kX7_partOf lX7_278 dX7_mean_39 (tX7_partOf l D cI cW (Int32.toInt64 (sumf (s_le S) (s_th S))) (Int32.toInt64 (nI (s_th S))) 1 r hz hnz hg) ⟨Nat.le_of_ble_eq_true rfl, Nat.le_of_ble_eq_true rfl⟩ ⟨Nat.zero_le _, Nat.zero_le _⟩ [] rfl ⟨rfl, rfl⟩ rfl rfl rfl (Nat.le_of_ble_eq_true rfl) (ff_nil) (ws' := [ml m cI S M]) rfl ?_
  exact G.lret X Rr dX7_mean_42 (pj_mk (by simp) (by rfl))
