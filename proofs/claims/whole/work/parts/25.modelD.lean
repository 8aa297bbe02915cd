set_option maxRecDepth 20000 in
theorem tX7_isIn_yes (l : Launch) (D : va_G) (cI cW : ClassId) (v : Nat) (lo : Nat) (hi : Nat) (ha : lo ≤ v) (hb : v ≤ hi) (hc : hi < 2 ^ 31) : CT l D cI cW yX7_isIn cX7_isIn 3 (some .boolean) ⟨0, 0, 0, 0⟩ [.int (nI v), .int (nI lo), .int (nI hi)] ([]) (PI (b2i (true)) ([])) := by
  refine CT.of RX7 rfl (by decide +kernel) (Nat.le_of_ble_eq_true rfl) [(0, .int (nI v)), (1, .int (nI lo)), (2, .int (nI hi))] rfl (fun x X Rr hnm => ?_)
  refine G.il X dX7_isIn_0 0 rfl ?_
  refine G.il X dX7_isIn_1 1 rfl ?_
  refine G.n_lt X (a := v) (b := lo) (by omega) (by omega) dX7_isIn_2 (fun b2 => absurd b2 (by omega)) (fun b2 => ?_)
  refine G.il X dX7_isIn_5 0 rfl ?_
  refine G.il X dX7_isIn_6 2 rfl ?_
  refine G.n_gt X (a := v) (b := hi) (by omega) (by omega) dX7_isIn_7 (fun b7 => absurd b7 (by omega)) (fun b7 => ?_)
  refine G.pu X dX7_isIn_10 ?_
  refine G.go X dX7_isIn_11 ?_
  exact G.zret X Rr (v := 1) (Or.inr rfl) dX7_isIn_15 (pi_mk (by rfl) (by rfl))

set_option maxRecDepth 20000 in
theorem tX7_isIn_no (l : Launch) (D : va_G) (cI cW : ClassId) (v : Int32) (lo : Int32) (hi : Int32) (hz : z_bt v lo hi = false) : CT l D cI cW yX7_isIn cX7_isIn 3 (some .boolean) ⟨0, 0, 0, 0⟩ [.int v, .int lo, .int hi] ([]) (PI (b2i (false)) ([])) := by
  refine CT.of RX7 rfl (by decide +kernel) (Nat.le_of_ble_eq_true rfl) [(0, .int v), (1, .int lo), (2, .int hi)] rfl (fun x X Rr hnm => ?_)
  refine G.il X dX7_isIn_0 0 rfl ?_
  refine G.il X dX7_isIn_1 1 rfl ?_
  refine G.c_lt X (a := v) (b := lo) dX7_isIn_2 (fun b2 => ?_) (fun b2 => ?_)
  · refine G.pu X dX7_isIn_14 ?_
    exact G.zret X Rr (v := 0) (Or.inl rfl) dX7_isIn_15 (pi_mk (by grind [z_bt, b2i]) (by rfl))
  · refine G.il X dX7_isIn_5 0 rfl ?_
    refine G.il X dX7_isIn_6 2 rfl ?_
    refine G.c_gt X (a := v) (b := hi) dX7_isIn_7 (fun b7 => ?_) (fun b7 => ?_)
    · refine G.pu X dX7_isIn_14 ?_
      exact G.zret X Rr (v := 0) (Or.inl rfl) dX7_isIn_15 (pi_mk (by grind [z_bt, b2i]) (by rfl))
    · refine G.pu X dX7_isIn_10 ?_
      refine G.go X dX7_isIn_11 ?_
      exact G.zret X Rr (v := 1) (Or.inr rfl) dX7_isIn_15 (pi_mk (by grind [z_bt, b2i]) (by rfl))

set_option maxRecDepth 20000 in
theorem tX7_notForty_lo (l : Launch) (D : va_G) (cI cW : ClassId) (v : Int32) (ha : v < 1) : CT l D cI cW yX7_notForty cX7_notForty 1 (some .int) ⟨1, 0, 0, 22⟩ [.int v] ([]) (PI (-4) ([])) := by
  refine CT.of RX7 rfl (by decide +kernel) (Nat.le_of_ble_eq_true rfl) [(0, .int v)] rfl (fun x X Rr hnm => ?_)
  refine G.il X dX7_notForty_0 0 rfl ?_
  refine G.pu X dX7_notForty_1 ?_
  refine G.pu X dX7_notForty_2 ?_
  refine G.csti X kX7_bound lX7_67 dX7_notForty_4 (tX7_bound_lo l D cI cW v 1 40 ha) ⟨Nat.le_of_ble_eq_true rfl, Nat.le_of_ble_eq_true rfl⟩ ⟨Nat.zero_le _, Nat.zero_le _⟩ [] rfl ⟨rfl, rfl⟩ rfl rfl rfl (Nat.le_of_ble_eq_true rfl) (ff_nil) (ws' := []) rfl ?_
  exact G.iret X Rr (v := (-4)) dX7_notForty_7 (pi_mk (by rfl) (by rfl))

set_option maxRecDepth 20000 in
theorem tX7_notForty_hi (l : Launch) (D : va_G) (cI cW : ClassId) (v : Int32) (ha : ¬ v < 1) (hb : 40 < v) : CT l D cI cW yX7_notForty cX7_notForty 1 (some .int) ⟨1, 0, 0, 22⟩ [.int v] ([]) (PI (-6) ([])) := by
  refine CT.of RX7 rfl (by decide +kernel) (Nat.le_of_ble_eq_true rfl) [(0, .int v)] rfl (fun x X Rr hnm => ?_)
  refine G.il X dX7_notForty_0 0 rfl ?_
  refine G.pu X dX7_notForty_1 ?_
  refine G.pu X dX7_notForty_2 ?_
  refine G.csti X kX7_bound lX7_67 dX7_notForty_4 (tX7_bound_hi l D cI cW v 1 40 ha hb) ⟨Nat.le_of_ble_eq_true rfl, Nat.le_of_ble_eq_true rfl⟩ ⟨Nat.zero_le _, Nat.zero_le _⟩ [] rfl ⟨rfl, rfl⟩ rfl rfl rfl (Nat.le_of_ble_eq_true rfl) (ff_nil) (ws' := []) rfl ?_
  exact G.iret X Rr (v := (-6)) dX7_notForty_7 (pi_mk (by rfl) (by rfl))

set_option maxRecDepth 20000 in
theorem tX7_notForty_ok (l : Launch) (D : va_G) (cI cW : ClassId) (v : Nat) (ha : 1 ≤ v) (hb : v ≤ 40) : CT l D cI cW yX7_notForty cX7_notForty 1 (some .int) ⟨1, 0, 0, 22⟩ [.int (nI v)] ([]) (PI (0) ([])) := by
  refine CT.of RX7 rfl (by decide +kernel) (Nat.le_of_ble_eq_true rfl) [(0, .int (nI v))] rfl (fun x X Rr hnm => ?_)
  refine G.il X dX7_notForty_0 0 rfl ?_
  refine G.pu X dX7_notForty_1 ?_
  refine G.pu X dX7_notForty_2 ?_
  refine G.csti X kX7_bound lX7_67 dX7_notForty_4 (tX7_bound_ok l D cI cW v 1 40 ha hb (by omega)) ⟨Nat.le_of_ble_eq_true rfl, Nat.le_of_ble_eq_true rfl⟩ ⟨Nat.zero_le _, Nat.zero_le _⟩ [] rfl ⟨rfl, rfl⟩ rfl rfl rfl (Nat.le_of_ble_eq_true rfl) (ff_nil) (ws' := []) rfl ?_
  exact G.iret X Rr (v := 0) dX7_notForty_7 (pi_mk (by rfl) (by rfl))

set_option maxRecDepth 20000 in
theorem tX7_notDays_lo (l : Launch) (D : va_G) (cI cW : ClassId) (v : Int32) (ha : v < 0) : CT l D cI cW yX7_notDays cX7_notDays 1 (some .int) ⟨1, 0, 0, 22⟩ [.int v] ([]) (PI (-4) ([])) := by
  refine CT.of RX7 rfl (by decide +kernel) (Nat.le_of_ble_eq_true rfl) [(0, .int v)] rfl (fun x X Rr hnm => ?_)
  refine G.il X dX7_notDays_0 0 rfl ?_
  refine G.pu X dX7_notDays_1 ?_
  refine G.pu X dX7_notDays_2 ?_
  refine G.csti X kX7_bound lX7_67 dX7_notDays_4 (tX7_bound_lo l D cI cW v 0 99 ha) ⟨Nat.le_of_ble_eq_true rfl, Nat.le_of_ble_eq_true rfl⟩ ⟨Nat.zero_le _, Nat.zero_le _⟩ [] rfl ⟨rfl, rfl⟩ rfl rfl rfl (Nat.le_of_ble_eq_true rfl) (ff_nil) (ws' := []) rfl ?_
  exact G.iret X Rr (v := (-4)) dX7_notDays_7 (pi_mk (by rfl) (by rfl))

set_option maxRecDepth 20000 in
theorem tX7_notDays_hi (l : Launch) (D : va_G) (cI cW : ClassId) (v : Int32) (ha : ¬ v < 0) (hb : 99 < v) : CT l D cI cW yX7_notDays cX7_notDays 1 (some .int) ⟨1, 0, 0, 22⟩ [.int v] ([]) (PI (-6) ([])) := by
  refine CT.of RX7 rfl (by decide +kernel) (Nat.le_of_ble_eq_true rfl) [(0, .int v)] rfl (fun x X Rr hnm => ?_)
  refine G.il X dX7_notDays_0 0 rfl ?_
  refine G.pu X dX7_notDays_1 ?_
  refine G.pu X dX7_notDays_2 ?_
  refine G.csti X kX7_bound lX7_67 dX7_notDays_4 (tX7_bound_hi l D cI cW v 0 99 ha hb) ⟨Nat.le_of_ble_eq_true rfl, Nat.le_of_ble_eq_true rfl⟩ ⟨Nat.zero_le _, Nat.zero_le _⟩ [] rfl ⟨rfl, rfl⟩ rfl rfl rfl (Nat.le_of_ble_eq_true rfl) (ff_nil) (ws' := []) rfl ?_
  exact G.iret X Rr (v := (-6)) dX7_notDays_7 (pi_mk (by rfl) (by rfl))

set_option maxRecDepth 20000 in
theorem tX7_notDays_ok (l : Launch) (D : va_G) (cI cW : ClassId) (v : Nat) (hb : v ≤ 99) : CT l D cI cW yX7_notDays cX7_notDays 1 (some .int) ⟨1, 0, 0, 22⟩ [.int (nI v)] ([]) (PI (0) ([])) := by
  refine CT.of RX7 rfl (by decide +kernel) (Nat.le_of_ble_eq_true rfl) [(0, .int (nI v))] rfl (fun x X Rr hnm => ?_)
  refine G.il X dX7_notDays_0 0 rfl ?_
  refine G.pu X dX7_notDays_1 ?_
  refine G.pu X dX7_notDays_2 ?_
  refine G.csti X kX7_bound lX7_67 dX7_notDays_4 (tX7_bound_ok l D cI cW v 0 99 (by omega) hb (by omega)) ⟨Nat.le_of_ble_eq_true rfl, Nat.le_of_ble_eq_true rfl⟩ ⟨Nat.zero_le _, Nat.zero_le _⟩ [] rfl ⟨rfl, rfl⟩ rfl rfl rfl (Nat.le_of_ble_eq_true rfl) (ff_nil) (ws' := []) rfl ?_
  exact G.iret X Rr (v := 0) dX7_notDays_7 (pi_mk (by rfl) (by rfl))

set_option maxRecDepth 20000 in
theorem tX7_letter_lo (l : Launch) (D : va_G) (cI cW : ClassId) (m : Nat → Nat) (S : WS) (M : MS) (c : Int32) (h1 : c < 0) : CT l D cI cW yX7_letter cX7_letter 3 (some .int) ⟨1, 0, 0, 22⟩ [.ref (m 0), .int c] ([ml m cI S M]) (PI (-4) ([ml m cI S (m_no M 4)])) := by
  refine CT.of RX7 rfl (by decide +kernel) (Nat.le_of_ble_eq_true rfl) [(0, .ref (m 0)), (1, .int c)] rfl (fun x X Rr hnm => ?_)
  refine G.il X dX7_letter_0 1 rfl ?_
  refine G.pu X dX7_letter_1 ?_
  refine G.pu X dX7_letter_2 ?_
  refine G.csti X kX7_bound lX7_67 dX7_letter_5 (tX7_bound_lo l D cI cW c 0 255 h1) ⟨Nat.le_of_ble_eq_true rfl, Nat.le_of_ble_eq_true rfl⟩ ⟨Nat.zero_le _, Nat.zero_le _⟩ [] rfl ⟨rfl, rfl⟩ rfl rfl rfl (Nat.le_of_ble_eq_true rfl) (ff_nil) (ws' := [ml m cI S M]) rfl ?_
  refine G.is X dX7_letter_8 (by decide) (lv' := [(2, .int (-4)), (0, .ref (m 0)), (1, .int c)]) rfl ?_
  refine G.il X dX7_letter_9 0 rfl ?_
  refine G.z_ne X (a := (-4)) dX7_letter_10 (fun b10 => ?_) (fun b10 => absurd b10 (by decide))
  refine G.il X dX7_letter_25 0 rfl ?_
  refine G.z_eq X (a := (-4)) dX7_letter_26 (fun b26 => absurd b26 (by decide)) (fun b26 => ?_)
  refine G.al X dX7_letter_29 1 rfl ?_
  refine G.il X dX7_letter_30 0 rfl ?_
  refine G.cvi X kX7_no lX7_74 dX7_letter_31 (tX7_no l D cI cW m S M 4 (by omega) (by omega)) ⟨Nat.le_of_ble_eq_true rfl, Nat.le_of_ble_eq_true rfl⟩ ⟨Nat.zero_le _, Nat.zero_le _⟩ [0] rfl ⟨rfl, rfl⟩ rfl rfl 0 0 rfl rfl rfl rfl (Nat.le_of_ble_eq_true rfl) (ff_cons (ml_fst _ _ _ _ _ _) (ff_nil)) (ws' := [ml m cI S (m_no M 4)]) rfl ?_
  exact G.iret X Rr (v := (-(nI 4))) dX7_letter_34 (pi_mk (by rfl) (by rfl))

set_option maxRecDepth 20000 in
theorem tX7_letter_hi (l : Launch) (D : va_G) (cI cW : ClassId) (m : Nat → Nat) (S : WS) (M : MS) (c : Int32) (h1 : ¬ c < 0) (h2 : 255 < c) : CT l D cI cW yX7_letter cX7_letter 3 (some .int) ⟨1, 0, 0, 22⟩ [.ref (m 0), .int c] ([ml m cI S M]) (PI (-6) ([ml m cI S (m_no M 6)])) := by
  refine CT.of RX7 rfl (by decide +kernel) (Nat.le_of_ble_eq_true rfl) [(0, .ref (m 0)), (1, .int c)] rfl (fun x X Rr hnm => ?_)
  refine G.il X dX7_letter_0 1 rfl ?_
  refine G.pu X dX7_letter_1 ?_
  refine G.pu X dX7_letter_2 ?_
  refine G.csti X kX7_bound lX7_67 dX7_letter_5 (tX7_bound_hi l D cI cW c 0 255 h1 h2) ⟨Nat.le_of_ble_eq_true rfl, Nat.le_of_ble_eq_true rfl⟩ ⟨Nat.zero_le _, Nat.zero_le _⟩ [] rfl ⟨rfl, rfl⟩ rfl rfl rfl (Nat.le_of_ble_eq_true rfl) (ff_nil) (ws' := [ml m cI S M]) rfl ?_
  refine G.is X dX7_letter_8 (by decide) (lv' := [(2, .int (-6)), (0, .ref (m 0)), (1, .int c)]) rfl ?_
  refine G.il X dX7_letter_9 0 rfl ?_
  refine G.z_ne X (a := (-6)) dX7_letter_10 (fun b10 => ?_) (fun b10 => absurd b10 (by decide))
  refine G.il X dX7_letter_25 0 rfl ?_
  refine G.z_eq X (a := (-6)) dX7_letter_26 (fun b26 => absurd b26 (by decide)) (fun b26 => ?_)
  refine G.al X dX7_letter_29 1 rfl ?_
  refine G.il X dX7_letter_30 0 rfl ?_
  refine G.cvi X kX7_no lX7_74 dX7_letter_31 (tX7_no l D cI cW m S M 6 (by omega) (by omega)) ⟨Nat.le_of_ble_eq_true rfl, Nat.le_of_ble_eq_true rfl⟩ ⟨Nat.zero_le _, Nat.zero_le _⟩ [0] rfl ⟨rfl, rfl⟩ rfl rfl 0 0 rfl rfl rfl rfl (Nat.le_of_ble_eq_true rfl) (ff_cons (ml_fst _ _ _ _ _ _) (ff_nil)) (ws' := [ml m cI S (m_no M 6)]) rfl ?_
  exact G.iret X Rr (v := (-(nI 6))) dX7_letter_34 (pi_mk (by rfl) (by rfl))

set_option maxRecDepth 20000 in
theorem tX7_letter_full (l : Launch) (D : va_G) (cI cW : ClassId) (m : Nat → Nat) (S : WS) (M : MS) (c : Int32) (h1 : ¬ c < 0) (h2 : ¬ 255 < c) (hq : m_tn M = 96) : CT l D cI cW yX7_letter cX7_letter 3 (some .int) ⟨1, 0, 0, 22⟩ [.ref (m 0), .int c] ([ml m cI S M]) (PI (-6) ([ml m cI S (m_no M 6)])) := by
  refine CT.of RX7 rfl (by decide +kernel) (Nat.le_of_ble_eq_true rfl) [(0, .ref (m 0)), (1, .int c)] rfl (fun x X Rr hnm => ?_)
  refine G.il X dX7_letter_0 1 rfl ?_
  refine G.pu X dX7_letter_1 ?_
  refine G.pu X dX7_letter_2 ?_
  refine G.csti X kX7_bound lX7_67 dX7_letter_5 (tX7_bound_okI l D cI cW c 0 255 h1 h2) ⟨Nat.le_of_ble_eq_true rfl, Nat.le_of_ble_eq_true rfl⟩ ⟨Nat.zero_le _, Nat.zero_le _⟩ [] rfl ⟨rfl, rfl⟩ rfl rfl rfl (Nat.le_of_ble_eq_true rfl) (ff_nil) (ws' := [ml m cI S M]) rfl ?_
  refine G.is X dX7_letter_8 (by decide) (lv' := [(2, .int 0), (0, .ref (m 0)), (1, .int c)]) rfl ?_
  refine G.il X dX7_letter_9 0 rfl ?_
  refine G.z_ne X (a := 0) dX7_letter_10 (fun b10 => absurd b10 (by decide)) (fun b10 => ?_)
  refine G.al X dX7_letter_13 1 rfl ?_
  refine G.get X fX7_71 dX7_letter_14 0 0 rfl rfl rfl ?_
  refine G.pu X dX7_letter_17 ?_
  refine G.n_ne X (a := m_tn M) (b := 96) (by omega) (by omega) dX7_letter_19 (fun b19 => absurd b19 (by omega)) (fun b19 => ?_)
  refine G.pu X dX7_letter_22 ?_
  refine G.is X dX7_letter_24 (by decide) (lv' := [(2, .int (-6)), (0, .ref (m 0)), (1, .int c)]) rfl ?_
  refine G.il X dX7_letter_25 0 rfl ?_
  refine G.z_eq X (a := (-6)) dX7_letter_26 (fun b26 => absurd b26 (by decide)) (fun b26 => ?_)
  refine G.al X dX7_letter_29 1 rfl ?_
  refine G.il X dX7_letter_30 0 rfl ?_
  refine G.cvi X kX7_no lX7_74 dX7_letter_31 (tX7_no l D cI cW m S M 6 (by omega) (by omega)) ⟨Nat.le_of_ble_eq_true rfl, Nat.le_of_ble_eq_true rfl⟩ ⟨Nat.zero_le _, Nat.zero_le _⟩ [0] rfl ⟨rfl, rfl⟩ rfl rfl 0 0 rfl rfl rfl rfl (Nat.le_of_ble_eq_true rfl) (ff_cons (ml_fst _ _ _ _ _ _) (ff_nil)) (ws' := [ml m cI S (m_no M 6)]) rfl ?_
  exact G.iret X Rr (v := (-(nI 6))) dX7_letter_34 (pi_mk (by rfl) (by rfl))

set_option maxRecDepth 20000 in
theorem tX7_letter_ok (l : Launch) (D : va_G) (cI cW : ClassId) (m : Nat → Nat) (S : WS) (M : MS) (c : Int32) (h1 : ¬ c < 0) (h2 : ¬ 255 < c) (hq : m_tn M < 96) : CT l D cI cW yX7_letter cX7_letter 3 (some .int) ⟨1, 0, 0, 22⟩ [.ref (m 0), .int c] ([ml m cI S M]) (PI (nI (m_tn M + 1)) ([ml m cI S (m_txa M c)])) := by
  refine CT.of RX7 rfl (by decide +kernel) (Nat.le_of_ble_eq_true rfl) [(0, .ref (m 0)), (1, .int c)] rfl (fun x X Rr hnm => ?_)
  refine G.il X dX7_letter_0 1 rfl ?_
  refine G.pu X dX7_letter_1 ?_
  refine G.pu X dX7_letter_2 ?_
  refine G.csti X kX7_bound lX7_67 dX7_letter_5 (tX7_bound_okI l D cI cW c 0 255 h1 h2) ⟨Nat.le_of_ble_eq_true rfl, Nat.le_of_ble_eq_true rfl⟩ ⟨Nat.zero_le _, Nat.zero_le _⟩ [] rfl ⟨rfl, rfl⟩ rfl rfl rfl (Nat.le_of_ble_eq_true rfl) (ff_nil) (ws' := [ml m cI S M]) rfl ?_
  refine G.is X dX7_letter_8 (by decide) (lv' := [(2, .int 0), (0, .ref (m 0)), (1, .int c)]) rfl ?_
  refine G.il X dX7_letter_9 0 rfl ?_
  refine G.z_ne X (a := 0) dX7_letter_10 (fun b10 => absurd b10 (by decide)) (fun b10 => ?_)
  refine G.al X dX7_letter_13 1 rfl ?_
  refine G.get X fX7_71 dX7_letter_14 0 0 rfl rfl rfl ?_
  refine G.pu X dX7_letter_17 ?_
  refine G.n_ne X (a := m_tn M) (b := 96) (by omega) (by omega) dX7_letter_19 (fun b19 => ?_) (fun b19 => absurd b19 (by omega))
  refine G.il X dX7_letter_25 0 rfl ?_
  refine G.z_eq X (a := 0) dX7_letter_26 (fun b26 => ?_) (fun b26 => absurd b26 (by decide))
  refine G.al X dX7_letter_35 1 rfl ?_
  refine G.get X fX7_37 dX7_letter_36 0 0 rfl rfl rfl ?_
  refine G.al X dX7_letter_39 1 rfl ?_
  refine G.get X fX7_71 dX7_letter_40 0 0 rfl rfl rfl ?_
  refine G.il X dX7_letter_43 2 rfl ?_
  refine G.nst X (i := m_tn M) dX7_letter_44 0 10 rfl rfl (by omega) (by decide) (blk' := ml m cI S (m_rf M, m_co M, upd (m_tx M) (m_tn M) c, m_lt M, m_la M, m_to M, m_tn M, m_at M, m_st M, m_kp M, m_hi M, m_kg M, m_cu M, m_lr M, m_ge M, m_rw M, m_rn M)) rfl (ws' := [ml m cI S (m_rf M, m_co M, upd (m_tx M) (m_tn M) c, m_lt M, m_la M, m_to M, m_tn M, m_at M, m_st M, m_kp M, m_hi M, m_kg M, m_cu M, m_lr M, m_ge M, m_rw M, m_rn M)]) rfl ?_
  refine G.al X dX7_letter_45 1 rfl ?_
  refine G.dupr X dX7_letter_46 ?_
  refine G.get X fX7_71 dX7_letter_47 0 0 rfl rfl rfl ?_
  refine G.pu X dX7_letter_50 ?_
  refine G.nadd X (a := m_tn M) (b := 1) dX7_letter_51 ?_
  refine G.puti X fX7_71 fe7 dX7_letter_52 rfl rfl 0 0 rfl rfl (Nat.le_of_ble_eq_true rfl) (blk' := ml m cI S (m_rf M, m_co M, upd (m_tx M) (m_tn M) c, m_lt M, m_la M, m_to M, (m_tn M) + 1, m_at M, m_st M, m_kp M, m_hi M, m_kg M, m_cu M, m_lr M, m_ge M, m_rw M, m_rn M)) rfl (ws' := [ml m cI S (m_rf M, m_co M, upd (m_tx M) (m_tn M) c, m_lt M, m_la M, m_to M, (m_tn M) + 1, m_at M, m_st M, m_kp M, m_hi M, m_kg M, m_cu M, m_lr M, m_ge M, m_rw M, m_rn M)]) rfl ?_
  refine G.al X dX7_letter_55 1 rfl ?_
  refine G.get X fX7_71 dX7_letter_56 0 0 rfl rfl rfl ?_
  exact G.iret X Rr (v := nI ((m_tn M) + 1)) dX7_letter_59 (pi_mk (by rfl) (by rfl))

set_option maxRecDepth 20000 in
theorem tX7_person_bad (l : Launch) (D : va_G) (cI cW : ClassId) (m : Nat → Nat) (S : WS) (M : MS) (p : Int32) (w : Int32) (hS : Ok S) (hp : z_in p (s_pe S) = false) : CT l D cI cW yX7_person cX7_person 3 (some .int) ⟨1, 0, 0, 21⟩ [.ref (m 0), .int p, .int w] ([ml m cI S M]) (PI (-1) ([ml m cI S (m_no M 1)])) := by
  refine CT.of RX7 rfl (by decide +kernel) (Nat.le_of_ble_eq_true rfl) [(0, .ref (m 0)), (1, .int p), (2, .int w)] rfl (fun x X Rr hnm => ?_)
  have hth := hS.th
  have hpe := hS.pe
  refine G.al X dX7_person_0 0 rfl ?_
  refine G.il X dX7_person_1 1 rfl ?_
  refine G.cvi X kX7_isOne lX7_106 dX7_person_2 (tX7_isOne l D cI cW m S M p) ⟨Nat.le_of_ble_eq_true rfl, Nat.le_of_ble_eq_true rfl⟩ ⟨Nat.zero_le _, Nat.zero_le _⟩ [0] rfl ⟨rfl, rfl⟩ rfl rfl 0 0 rfl rfl rfl rfl (Nat.le_of_ble_eq_true rfl) (ff_cons (ml_fst _ _ _ _ _ _) (ff_nil)) (ws' := [ml m cI S M]) rfl ?_
  refine G.b_ne X dX7_person_5 (fun b5 => absurd (Eq.trans (Eq.symm hp) b5) (by decide)) (fun b5 => ?_)
  refine G.al X dX7_person_8 0 rfl ?_
  refine G.pu X dX7_person_9 ?_
  refine G.cvi X kX7_no lX7_74 dX7_person_10 (tX7_no l D cI cW m S M 1 (by omega) (by omega)) ⟨Nat.le_of_ble_eq_true rfl, Nat.le_of_ble_eq_true rfl⟩ ⟨Nat.zero_le _, Nat.zero_le _⟩ [0] rfl ⟨rfl, rfl⟩ rfl rfl 0 0 rfl rfl rfl rfl (Nat.le_of_ble_eq_true rfl) (ff_cons (ml_fst _ _ _ _ _ _) (ff_nil)) (ws' := [ml m cI S (m_no M 1)]) rfl ?_
  exact G.iret X Rr (v := (-(nI 1))) dX7_person_13 (pi_mk (by rfl) (by rfl))

set_option maxRecDepth 20000 in
theorem tX7_person_0 (l : Launch) (D : va_G) (cI cW : ClassId) (m : Nat → Nat) (S : WS) (M : MS) (p : Nat) (hS : Ok S) (hp : p < s_pe S) : CT l D cI cW yX7_person cX7_person 3 (some .int) ⟨1, 0, 0, 21⟩ [.ref (m 0), .int (nI p), .int 0] ([ml m cI S M]) (PI (s_kn S p) ([ml m cI S M])) := by
  refine CT.of RX7 rfl (by decide +kernel) (Nat.le_of_ble_eq_true rfl) [(0, .ref (m 0)), (1, .int (nI p)), (2, .int 0)] rfl (fun x X Rr hnm => ?_)
  have hth := hS.th
  have hpe := hS.pe
  refine G.al X dX7_person_0 0 rfl ?_
  refine G.il X dX7_person_1 1 rfl ?_
  refine G.cvi X kX7_isOne lX7_106 dX7_person_2 (tX7_isOne l D cI cW m S M (nI p)) ⟨Nat.le_of_ble_eq_true rfl, Nat.le_of_ble_eq_true rfl⟩ ⟨Nat.zero_le _, Nat.zero_le _⟩ [0] rfl ⟨rfl, rfl⟩ rfl rfl 0 0 rfl rfl rfl rfl (Nat.le_of_ble_eq_true rfl) (ff_cons (ml_fst _ _ _ _ _ _) (ff_nil)) (ws' := [ml m cI S M]) rfl ?_
  refine G.b_ne X dX7_person_5 (fun b5 => ?_) (fun b5 => absurd (Eq.trans (Eq.symm (z_in_nI hp (by omega))) b5) (by decide))
  refine G.il X dX7_person_14 2 rfl ?_
  refine G.tsi X dX7_person_15 0 rfl (29) 44 (by decide) ?_
  refine G.al X dX7_person_44 0 rfl ?_
  refine G.get X fX7_13 dX7_person_45 0 0 rfl rfl rfl ?_
  refine G.il X dX7_person_48 1 rfl ?_
  refine G.nld X (i := p) dX7_person_49 0 2 rfl rfl (by omega) (by decide) ?_
  exact G.iret X Rr (v := ((s_kn S) p)) dX7_person_50 (pi_mk (by rfl) (by rfl))

set_option maxRecDepth 20000 in
theorem tX7_person_1 (l : Launch) (D : va_G) (cI cW : ClassId) (m : Nat → Nat) (S : WS) (M : MS) (p : Nat) (hS : Ok S) (hp : p < s_pe S) : CT l D cI cW yX7_person cX7_person 3 (some .int) ⟨1, 0, 0, 21⟩ [.ref (m 0), .int (nI p), .int 1] ([ml m cI S M]) (PI (s_sh S p) ([ml m cI S M])) := by
  refine CT.of RX7 rfl (by decide +kernel) (Nat.le_of_ble_eq_true rfl) [(0, .ref (m 0)), (1, .int (nI p)), (2, .int 1)] rfl (fun x X Rr hnm => ?_)
  have hth := hS.th
  have hpe := hS.pe
  refine G.al X dX7_person_0 0 rfl ?_
  refine G.il X dX7_person_1 1 rfl ?_
  refine G.cvi X kX7_isOne lX7_106 dX7_person_2 (tX7_isOne l D cI cW m S M (nI p)) ⟨Nat.le_of_ble_eq_true rfl, Nat.le_of_ble_eq_true rfl⟩ ⟨Nat.zero_le _, Nat.zero_le _⟩ [0] rfl ⟨rfl, rfl⟩ rfl rfl 0 0 rfl rfl rfl rfl (Nat.le_of_ble_eq_true rfl) (ff_cons (ml_fst _ _ _ _ _ _) (ff_nil)) (ws' := [ml m cI S M]) rfl ?_
  refine G.b_ne X dX7_person_5 (fun b5 => ?_) (fun b5 => absurd (Eq.trans (Eq.symm (z_in_nI hp (by omega))) b5) (by decide))
  refine G.il X dX7_person_14 2 rfl ?_
  refine G.tsi X dX7_person_15 1 rfl (36) 51 (by decide) ?_
  refine G.al X dX7_person_51 0 rfl ?_
  refine G.get X fX7_16 dX7_person_52 0 0 rfl rfl rfl ?_
  refine G.il X dX7_person_55 1 rfl ?_
  refine G.nld X (i := p) dX7_person_56 0 3 rfl rfl (by omega) (by decide) ?_
  exact G.iret X Rr (v := ((s_sh S) p)) dX7_person_57 (pi_mk (by rfl) (by rfl))

set_option maxRecDepth 20000 in
theorem tX7_person_2 (l : Launch) (D : va_G) (cI cW : ClassId) (m : Nat → Nat) (S : WS) (M : MS) (p : Nat) (hS : Ok S) (hp : p < s_pe S) : CT l D cI cW yX7_person cX7_person 3 (some .int) ⟨1, 0, 0, 21⟩ [.ref (m 0), .int (nI p), .int 2] ([ml m cI S M]) (PI (s_an S p) ([ml m cI S M])) := by
  refine CT.of RX7 rfl (by decide +kernel) (Nat.le_of_ble_eq_true rfl) [(0, .ref (m 0)), (1, .int (nI p)), (2, .int 2)] rfl (fun x X Rr hnm => ?_)
  have hth := hS.th
  have hpe := hS.pe
  refine G.al X dX7_person_0 0 rfl ?_
  refine G.il X dX7_person_1 1 rfl ?_
  refine G.cvi X kX7_isOne lX7_106 dX7_person_2 (tX7_isOne l D cI cW m S M (nI p)) ⟨Nat.le_of_ble_eq_true rfl, Nat.le_of_ble_eq_true rfl⟩ ⟨Nat.zero_le _, Nat.zero_le _⟩ [0] rfl ⟨rfl, rfl⟩ rfl rfl 0 0 rfl rfl rfl rfl (Nat.le_of_ble_eq_true rfl) (ff_cons (ml_fst _ _ _ _ _ _) (ff_nil)) (ws' := [ml m cI S M]) rfl ?_
  refine G.b_ne X dX7_person_5 (fun b5 => ?_) (fun b5 => absurd (Eq.trans (Eq.symm (z_in_nI hp (by omega))) b5) (by decide))
  refine G.il X dX7_person_14 2 rfl ?_
  refine G.tsi X dX7_person_15 2 rfl (43) 58 (by decide) ?_
  refine G.al X dX7_person_58 0 rfl ?_
  refine G.get X fX7_19 dX7_person_59 0 0 rfl rfl rfl ?_
  refine G.il X dX7_person_62 1 rfl ?_
  refine G.nld X (i := p) dX7_person_63 0 4 rfl rfl (by omega) (by decide) ?_
  exact G.iret X Rr (v := ((s_an S) p)) dX7_person_64 (pi_mk (by rfl) (by rfl))

set_option maxRecDepth 20000 in
theorem tX7_person_3 (l : Launch) (D : va_G) (cI cW : ClassId) (m : Nat → Nat) (S : WS) (M : MS) (p : Nat) (hS : Ok S) (hp : p < s_pe S) : CT l D cI cW yX7_person cX7_person 3 (some .int) ⟨1, 0, 0, 23⟩ [.ref (m 0), .int (nI p), .int 3] ([ml m cI S M]) (PI (w_qs S (nI p) (s_th S)) ([ml m cI S M])) := by
  refine CT.of RX7 rfl (by decide +kernel) (Nat.le_of_ble_eq_true rfl) [(0, .ref (m 0)), (1, .int (nI p)), (2, .int 3)] rfl (fun x X Rr hnm => ?_)
  have hth := hS.th
  have hpe := hS.pe
  refine G.al X dX7_person_0 0 rfl ?_
  refine G.il X dX7_person_1 1 rfl ?_
  refine G.cvi X kX7_isOne lX7_106 dX7_person_2 (tX7_isOne l D cI cW m S M (nI p)) ⟨Nat.le_of_ble_eq_true rfl, Nat.le_of_ble_eq_true rfl⟩ ⟨Nat.zero_le _, Nat.zero_le _⟩ [0] rfl ⟨rfl, rfl⟩ rfl rfl 0 0 rfl rfl rfl rfl (Nat.le_of_ble_eq_true rfl) (ff_cons (ml_fst _ _ _ _ _ _) (ff_nil)) (ws' := [ml m cI S M]) rfl ?_
  refine G.b_ne X dX7_person_5 (fun b5 => ?_) (fun b5 => absurd (Eq.trans (Eq.symm (z_in_nI hp (by omega))) b5) (by decide))
  refine G.il X dX7_person_14 2 rfl ?_
  refine G.tsi X dX7_person_15 3 rfl (50) 65 (by decide) ?_
  refine G.al X dX7_person_65 0 rfl ?_
  refine G.il X dX7_person_66 1 rfl ?_
  refine G.cvi X kX7_queueOf lX7_202 dX7_person_67 (tX7_queueOf l D cI cW m S M (nI p) (by omega)) ⟨Nat.le_of_ble_eq_true rfl, Nat.le_of_ble_eq_true rfl⟩ ⟨Nat.zero_le _, Nat.zero_le _⟩ [0] rfl ⟨rfl, rfl⟩ rfl rfl 0 0 rfl rfl rfl rfl (Nat.le_of_ble_eq_true rfl) (ff_cons (ml_fst _ _ _ _ _ _) (ff_nil)) (ws' := [ml m cI S M]) rfl ?_
  exact G.iret X Rr (v := (w_qs S (nI p) (s_th S))) dX7_person_70 (pi_mk (by rfl) (by rfl))

set_option maxRecDepth 20000 in
theorem tX7_person_oth (l : Launch) (D : va_G) (cI cW : ClassId) (m : Nat → Nat) (S : WS) (M : MS) (p : Nat) (w : Int32) (hS : Ok S) (hp : p < s_pe S) (hw : z_in w 4 = false) : CT l D cI cW yX7_person cX7_person 3 (some .int) ⟨1, 0, 0, 21⟩ [.ref (m 0), .int (nI p), .int w] ([ml m cI S M]) (PI (-2) ([ml m cI S (m_no M 2)])) := by
  refine CT.of RX7 rfl (by decide +kernel) (Nat.le_of_ble_eq_true rfl) [(0, .ref (m 0)), (1, .int (nI p)), (2, .int w)] rfl (fun x X Rr hnm => ?_)
  have hth := hS.th
  have hpe := hS.pe
  refine G.al X dX7_person_0 0 rfl ?_
  refine G.il X dX7_person_1 1 rfl ?_
  refine G.cvi X kX7_isOne lX7_106 dX7_person_2 (tX7_isOne l D cI cW m S M (nI p)) ⟨Nat.le_of_ble_eq_true rfl, Nat.le_of_ble_eq_true rfl⟩ ⟨Nat.zero_le _, Nat.zero_le _⟩ [0] rfl ⟨rfl, rfl⟩ rfl rfl 0 0 rfl rfl rfl rfl (Nat.le_of_ble_eq_true rfl) (ff_cons (ml_fst _ _ _ _ _ _) (ff_nil)) (ws' := [ml m cI S M]) rfl ?_
  refine G.b_ne X dX7_person_5 (fun b5 => ?_) (fun b5 => absurd (Eq.trans (Eq.symm (z_in_nI hp (by omega))) b5) (by decide))
  refine G.il X dX7_person_14 2 rfl ?_
  refine G.tsd X dX7_person_15 [0, 1, 2, 3] (List.forall_mem_cons.mpr ⟨(z_ne (v := 0) hw (by decide) (by decide)), List.forall_mem_cons.mpr ⟨(z_ne (v := 1) hw (by decide) (by decide)), List.forall_mem_cons.mpr ⟨(z_ne (v := 2) hw (by decide) (by decide)), List.forall_mem_cons.mpr ⟨(z_ne (v := 3) hw (by decide) (by decide)), fun _ h9 => absurd h9 List.not_mem_nil⟩⟩⟩⟩) 71 (by decide) ?_
  refine G.al X dX7_person_71 0 rfl ?_
  refine G.pu X dX7_person_72 ?_
  refine G.cvi X kX7_no lX7_74 dX7_person_74 (tX7_no l D cI cW m S M 2 (by omega) (by omega)) ⟨Nat.le_of_ble_eq_true rfl, Nat.le_of_ble_eq_true rfl⟩ ⟨Nat.zero_le _, Nat.zero_le _⟩ [0] rfl ⟨rfl, rfl⟩ rfl rfl 0 0 rfl rfl rfl rfl (Nat.le_of_ble_eq_true rfl) (ff_cons (ml_fst _ _ _ _ _ _) (ff_nil)) (ws' := [ml m cI S (m_no M 2)]) rfl ?_
  exact G.iret X Rr (v := (-(nI 2))) dX7_person_77 (pi_mk (by rfl) (by rfl))

set_option maxRecDepth 20000 in
theorem tX7_thing_bad (l : Launch) (D : va_G) (cI cW : ClassId) (m : Nat → Nat) (S : WS) (M : MS) (p : Int32) (w : Int32) (hS : Ok S) (hp : z_in p (s_th S) = false) : CT l D cI cW yX7_thing cX7_thing 3 (some .int) ⟨1, 0, 0, 21⟩ [.ref (m 0), .int p, .int w] ([ml m cI S M]) (PI (-1) ([ml m cI S (m_no M 1)])) := by
  refine CT.of RX7 rfl (by decide +kernel) (Nat.le_of_ble_eq_true rfl) [(0, .ref (m 0)), (1, .int p), (2, .int w)] rfl (fun x X Rr hnm => ?_)
  have hth := hS.th
  have hpe := hS.pe
  refine G.al X dX7_thing_0 0 rfl ?_
  refine G.il X dX7_thing_1 1 rfl ?_
  refine G.cvi X kX7_isThing lX7_126 dX7_thing_2 (tX7_isThing l D cI cW m S M p) ⟨Nat.le_of_ble_eq_true rfl, Nat.le_of_ble_eq_true rfl⟩ ⟨Nat.zero_le _, Nat.zero_le _⟩ [0] rfl ⟨rfl, rfl⟩ rfl rfl 0 0 rfl rfl rfl rfl (Nat.le_of_ble_eq_true rfl) (ff_cons (ml_fst _ _ _ _ _ _) (ff_nil)) (ws' := [ml m cI S M]) rfl ?_
  refine G.b_ne X dX7_thing_5 (fun b5 => absurd (Eq.trans (Eq.symm hp) b5) (by decide)) (fun b5 => ?_)
  refine G.al X dX7_thing_8 0 rfl ?_
  refine G.pu X dX7_thing_9 ?_
  refine G.cvi X kX7_no lX7_74 dX7_thing_10 (tX7_no l D cI cW m S M 1 (by omega) (by omega)) ⟨Nat.le_of_ble_eq_true rfl, Nat.le_of_ble_eq_true rfl⟩ ⟨Nat.zero_le _, Nat.zero_le _⟩ [0] rfl ⟨rfl, rfl⟩ rfl rfl 0 0 rfl rfl rfl rfl (Nat.le_of_ble_eq_true rfl) (ff_cons (ml_fst _ _ _ _ _ _) (ff_nil)) (ws' := [ml m cI S (m_no M 1)]) rfl ?_
  exact G.iret X Rr (v := (-(nI 1))) dX7_thing_13 (pi_mk (by rfl) (by rfl))

set_option maxRecDepth 20000 in
theorem tX7_thing_0 (l : Launch) (D : va_G) (cI cW : ClassId) (m : Nat → Nat) (S : WS) (M : MS) (p : Nat) (hS : Ok S) (hp : p < s_th S) : CT l D cI cW yX7_thing cX7_thing 3 (some .int) ⟨1, 0, 0, 21⟩ [.ref (m 0), .int (nI p), .int 0] ([ml m cI S M]) (PI (s_ki S p) ([ml m cI S M])) := by
  refine CT.of RX7 rfl (by decide +kernel) (Nat.le_of_ble_eq_true rfl) [(0, .ref (m 0)), (1, .int (nI p)), (2, .int 0)] rfl (fun x X Rr hnm => ?_)
  have hth := hS.th
  have hpe := hS.pe
  refine G.al X dX7_thing_0 0 rfl ?_
  refine G.il X dX7_thing_1 1 rfl ?_
  refine G.cvi X kX7_isThing lX7_126 dX7_thing_2 (tX7_isThing l D cI cW m S M (nI p)) ⟨Nat.le_of_ble_eq_true rfl, Nat.le_of_ble_eq_true rfl⟩ ⟨Nat.zero_le _, Nat.zero_le _⟩ [0] rfl ⟨rfl, rfl⟩ rfl rfl 0 0 rfl rfl rfl rfl (Nat.le_of_ble_eq_true rfl) (ff_cons (ml_fst _ _ _ _ _ _) (ff_nil)) (ws' := [ml m cI S M]) rfl ?_
  refine G.b_ne X dX7_thing_5 (fun b5 => ?_) (fun b5 => absurd (Eq.trans (Eq.symm (z_in_nI hp (by omega))) b5) (by decide))
  refine G.il X dX7_thing_14 2 rfl ?_
  refine G.tsi X dX7_thing_15 0 rfl (41) 56 (by decide) ?_
  refine G.al X dX7_thing_56 0 rfl ?_
  refine G.get X fX7_22 dX7_thing_57 0 0 rfl rfl rfl ?_
  refine G.il X dX7_thing_60 1 rfl ?_
  refine G.nld X (i := p) dX7_thing_61 0 5 rfl rfl (by omega) (by decide) ?_
  exact G.iret X Rr (v := ((s_ki S) p)) dX7_thing_62 (pi_mk (by rfl) (by rfl))

set_option maxRecDepth 20000 in
theorem tX7_thing_1 (l : Launch) (D : va_G) (cI cW : ClassId) (m : Nat → Nat) (S : WS) (M : MS) (p : Nat) (hS : Ok S) (hp : p < s_th S) : CT l D cI cW yX7_thing cX7_thing 3 (some .int) ⟨1, 0, 0, 21⟩ [.ref (m 0), .int (nI p), .int 1] ([ml m cI S M]) (PI (s_we S p) ([ml m cI S M])) := by
  refine CT.of RX7 rfl (by decide +kernel) (Nat.le_of_ble_eq_true rfl) [(0, .ref (m 0)), (1, .int (nI p)), (2, .int 1)] rfl (fun x X Rr hnm => ?_)
  have hth := hS.th
  have hpe := hS.pe
  refine G.al X dX7_thing_0 0 rfl ?_
  refine G.il X dX7_thing_1 1 rfl ?_
  refine G.cvi X kX7_isThing lX7_126 dX7_thing_2 (tX7_isThing l D cI cW m S M (nI p)) ⟨Nat.le_of_ble_eq_true rfl, Nat.le_of_ble_eq_true rfl⟩ ⟨Nat.zero_le _, Nat.zero_le _⟩ [0] rfl ⟨rfl, rfl⟩ rfl rfl 0 0 rfl rfl rfl rfl (Nat.le_of_ble_eq_true rfl) (ff_cons (ml_fst _ _ _ _ _ _) (ff_nil)) (ws' := [ml m cI S M]) rfl ?_
  refine G.b_ne X dX7_thing_5 (fun b5 => ?_) (fun b5 => absurd (Eq.trans (Eq.symm (z_in_nI hp (by omega))) b5) (by decide))
  refine G.il X dX7_thing_14 2 rfl ?_
  refine G.tsi X dX7_thing_15 1 rfl (48) 63 (by decide) ?_
  refine G.al X dX7_thing_63 0 rfl ?_
  refine G.get X fX7_25 dX7_thing_64 0 0 rfl rfl rfl ?_
  refine G.il X dX7_thing_67 1 rfl ?_
  refine G.nld X (i := p) dX7_thing_68 0 6 rfl rfl (by omega) (by decide) ?_
  exact G.iret X Rr (v := ((s_we S) p)) dX7_thing_69 (pi_mk (by rfl) (by rfl))

set_option maxRecDepth 20000 in
theorem tX7_thing_2 (l : Launch) (D : va_G) (cI cW : ClassId) (m : Nat → Nat) (S : WS) (M : MS) (p : Nat) (hS : Ok S) (hp : p < s_th S) : CT l D cI cW yX7_thing cX7_thing 3 (some .int) ⟨1, 0, 0, 21⟩ [.ref (m 0), .int (nI p), .int 2] ([ml m cI S M]) (PI (s_dp S p) ([ml m cI S M])) := by
  refine CT.of RX7 rfl (by decide +kernel) (Nat.le_of_ble_eq_true rfl) [(0, .ref (m 0)), (1, .int (nI p)), (2, .int 2)] rfl (fun x X Rr hnm => ?_)
  have hth := hS.th
  have hpe := hS.pe
  refine G.al X dX7_thing_0 0 rfl ?_
  refine G.il X dX7_thing_1 1 rfl ?_
  refine G.cvi X kX7_isThing lX7_126 dX7_thing_2 (tX7_isThing l D cI cW m S M (nI p)) ⟨Nat.le_of_ble_eq_true rfl, Nat.le_of_ble_eq_true rfl⟩ ⟨Nat.zero_le _, Nat.zero_le _⟩ [0] rfl ⟨rfl, rfl⟩ rfl rfl 0 0 rfl rfl rfl rfl (Nat.le_of_ble_eq_true rfl) (ff_cons (ml_fst _ _ _ _ _ _) (ff_nil)) (ws' := [ml m cI S M]) rfl ?_
  refine G.b_ne X dX7_thing_5 (fun b5 => ?_) (fun b5 => absurd (Eq.trans (Eq.symm (z_in_nI hp (by omega))) b5) (by decide))
  refine G.il X dX7_thing_14 2 rfl ?_
  refine G.tsi X dX7_thing_15 2 rfl (55) 70 (by decide) ?_
  refine G.al X dX7_thing_70 0 rfl ?_
  refine G.get X fX7_28 dX7_thing_71 0 0 rfl rfl rfl ?_
  refine G.il X dX7_thing_74 1 rfl ?_
  refine G.nld X (i := p) dX7_thing_75 0 7 rfl rfl (by omega) (by decide) ?_
  exact G.iret X Rr (v := ((s_dp S) p)) dX7_thing_76 (pi_mk (by rfl) (by rfl))

set_option maxRecDepth 20000 in
theorem tX7_thing_3 (l : Launch) (D : va_G) (cI cW : ClassId) (m : Nat → Nat) (S : WS) (M : MS) (p : Nat) (hS : Ok S) (hp : p < s_th S) : CT l D cI cW yX7_thing cX7_thing 3 (some .int) ⟨1, 0, 0, 21⟩ [.ref (m 0), .int (nI p), .int 3] ([ml m cI S M]) (PI (s_wa S p) ([ml m cI S M])) := by
  refine CT.of RX7 rfl (by decide +kernel) (Nat.le_of_ble_eq_true rfl) [(0, .ref (m 0)), (1, .int (nI p)), (2, .int 3)] rfl (fun x X Rr hnm => ?_)
  have hth := hS.th
  have hpe := hS.pe
  refine G.al X dX7_thing_0 0 rfl ?_
  refine G.il X dX7_thing_1 1 rfl ?_
  refine G.cvi X kX7_isThing lX7_126 dX7_thing_2 (tX7_isThing l D cI cW m S M (nI p)) ⟨Nat.le_of_ble_eq_true rfl, Nat.le_of_ble_eq_true rfl⟩ ⟨Nat.zero_le _, Nat.zero_le _⟩ [0] rfl ⟨rfl, rfl⟩ rfl rfl 0 0 rfl rfl rfl rfl (Nat.le_of_ble_eq_true rfl) (ff_cons (ml_fst _ _ _ _ _ _) (ff_nil)) (ws' := [ml m cI S M]) rfl ?_
  refine G.b_ne X dX7_thing_5 (fun b5 => ?_) (fun b5 => absurd (Eq.trans (Eq.symm (z_in_nI hp (by omega))) b5) (by decide))
  refine G.il X dX7_thing_14 2 rfl ?_
  refine G.tsi X dX7_thing_15 3 rfl (62) 77 (by decide) ?_
  refine G.al X dX7_thing_77 0 rfl ?_
  refine G.get X fX7_31 dX7_thing_78 0 0 rfl rfl rfl ?_
  refine G.il X dX7_thing_81 1 rfl ?_
  refine G.nld X (i := p) dX7_thing_82 0 8 rfl rfl (by omega) (by decide) ?_
  exact G.iret X Rr (v := ((s_wa S) p)) dX7_thing_83 (pi_mk (by rfl) (by rfl))

set_option maxRecDepth 20000 in
theorem tX7_thing_4 (l : Launch) (D : va_G) (cI cW : ClassId) (m : Nat → Nat) (S : WS) (M : MS) (p : Nat) (hS : Ok S) (hp : p < s_th S) : CT l D cI cW yX7_thing cX7_thing 3 (some .int) ⟨1, 0, 0, 21⟩ [.ref (m 0), .int (nI p), .int 4] ([ml m cI S M]) (PI (s_le S p) ([ml m cI S M])) := by
  refine CT.of RX7 rfl (by decide +kernel) (Nat.le_of_ble_eq_true rfl) [(0, .ref (m 0)), (1, .int (nI p)), (2, .int 4)] rfl (fun x X Rr hnm => ?_)
  have hth := hS.th
  have hpe := hS.pe
  refine G.al X dX7_thing_0 0 rfl ?_
  refine G.il X dX7_thing_1 1 rfl ?_
  refine G.cvi X kX7_isThing lX7_126 dX7_thing_2 (tX7_isThing l D cI cW m S M (nI p)) ⟨Nat.le_of_ble_eq_true rfl, Nat.le_of_ble_eq_true rfl⟩ ⟨Nat.zero_le _, Nat.zero_le _⟩ [0] rfl ⟨rfl, rfl⟩ rfl rfl 0 0 rfl rfl rfl rfl (Nat.le_of_ble_eq_true rfl) (ff_cons (ml_fst _ _ _ _ _ _) (ff_nil)) (ws' := [ml m cI S M]) rfl ?_
  refine G.b_ne X dX7_thing_5 (fun b5 => ?_) (fun b5 => absurd (Eq.trans (Eq.symm (z_in_nI hp (by omega))) b5) (by decide))
  refine G.il X dX7_thing_14 2 rfl ?_
  refine G.tsi X dX7_thing_15 4 rfl (69) 84 (by decide) ?_
  refine G.al X dX7_thing_84 0 rfl ?_
  refine G.get X fX7_34 dX7_thing_85 0 0 rfl rfl rfl ?_
  refine G.il X dX7_thing_88 1 rfl ?_
  refine G.nld X (i := p) dX7_thing_89 0 9 rfl rfl (by omega) (by decide) ?_
  exact G.iret X Rr (v := ((s_le S) p)) dX7_thing_90 (pi_mk (by rfl) (by rfl))

set_option maxRecDepth 20000 in
theorem tX7_thing_5 (l : Launch) (D : va_G) (cI cW : ClassId) (m : Nat → Nat) (S : WS) (M : MS) (p : Nat) (hS : Ok S) (hp : p < s_th S) : CT l D cI cW yX7_thing cX7_thing 3 (some .int) ⟨1, 0, 0, 22⟩ [.ref (m 0), .int (nI p), .int 5] ([ml m cI S M]) (PI (top S p) ([ml m cI S M])) := by
  refine CT.of RX7 rfl (by decide +kernel) (Nat.le_of_ble_eq_true rfl) [(0, .ref (m 0)), (1, .int (nI p)), (2, .int 5)] rfl (fun x X Rr hnm => ?_)
  have hth := hS.th
  have hpe := hS.pe
  refine G.al X dX7_thing_0 0 rfl ?_
  refine G.il X dX7_thing_1 1 rfl ?_
  refine G.cvi X kX7_isThing lX7_126 dX7_thing_2 (tX7_isThing l D cI cW m S M (nI p)) ⟨Nat.le_of_ble_eq_true rfl, Nat.le_of_ble_eq_true rfl⟩ ⟨Nat.zero_le _, Nat.zero_le _⟩ [0] rfl ⟨rfl, rfl⟩ rfl rfl 0 0 rfl rfl rfl rfl (Nat.le_of_ble_eq_true rfl) (ff_cons (ml_fst _ _ _ _ _ _) (ff_nil)) (ws' := [ml m cI S M]) rfl ?_
  refine G.b_ne X dX7_thing_5 (fun b5 => ?_) (fun b5 => absurd (Eq.trans (Eq.symm (z_in_nI hp (by omega))) b5) (by decide))
  refine G.il X dX7_thing_14 2 rfl ?_
  refine G.tsi X dX7_thing_15 5 rfl (76) 91 (by decide) ?_
  refine G.al X dX7_thing_91 0 rfl ?_
  refine G.il X dX7_thing_92 1 rfl ?_
  refine G.cvi X kX7_topicOf lX7_175 dX7_thing_93 (tX7_topicOf l D cI cW m S M p (by omega)) ⟨Nat.le_of_ble_eq_true rfl, Nat.le_of_ble_eq_true rfl⟩ ⟨Nat.zero_le _, Nat.zero_le _⟩ [0] rfl ⟨rfl, rfl⟩ rfl rfl 0 0 rfl rfl rfl rfl (Nat.le_of_ble_eq_true rfl) (ff_cons (ml_fst _ _ _ _ _ _) (ff_nil)) (ws' := [ml m cI S M]) rfl ?_
  exact G.iret X Rr (v := (top S p)) dX7_thing_96 (pi_mk (by rfl) (by rfl))

set_option maxRecDepth 20000 in
theorem tX7_thing_6 (l : Launch) (D : va_G) (cI cW : ClassId) (m : Nat → Nat) (S : WS) (M : MS) (p : Nat) (hS : Ok S) (hp : p < s_th S) : CT l D cI cW yX7_thing cX7_thing 3 (some .int) ⟨1, 0, 0, 21⟩ [.ref (m 0), .int (nI p), .int 6] ([ml m cI S M]) (PI (b2i (ask S p)) ([ml m cI S M])) := by
  refine CT.of RX7 rfl (by decide +kernel) (Nat.le_of_ble_eq_true rfl) [(0, .ref (m 0)), (1, .int (nI p)), (2, .int 6)] rfl (fun x X Rr hnm => ?_)
  have hth := hS.th
  have hpe := hS.pe
  refine G.al X dX7_thing_0 0 rfl ?_
  refine G.il X dX7_thing_1 1 rfl ?_
  refine G.cvi X kX7_isThing lX7_126 dX7_thing_2 (tX7_isThing l D cI cW m S M (nI p)) ⟨Nat.le_of_ble_eq_true rfl, Nat.le_of_ble_eq_true rfl⟩ ⟨Nat.zero_le _, Nat.zero_le _⟩ [0] rfl ⟨rfl, rfl⟩ rfl rfl 0 0 rfl rfl rfl rfl (Nat.le_of_ble_eq_true rfl) (ff_cons (ml_fst _ _ _ _ _ _) (ff_nil)) (ws' := [ml m cI S M]) rfl ?_
  refine G.b_ne X dX7_thing_5 (fun b5 => ?_) (fun b5 => absurd (Eq.trans (Eq.symm (z_in_nI hp (by omega))) b5) (by decide))
  refine G.il X dX7_thing_14 2 rfl ?_
  refine G.tsi X dX7_thing_15 6 rfl (82) 97 (by decide) ?_
  refine G.al X dX7_thing_97 0 rfl ?_
  refine G.il X dX7_thing_98 1 rfl ?_
  refine G.cvi X kX7_isAsking lX7_181 dX7_thing_99 (tX7_isAsking l D cI cW m S M p (by omega)) ⟨Nat.le_of_ble_eq_true rfl, Nat.le_of_ble_eq_true rfl⟩ ⟨Nat.zero_le _, Nat.zero_le _⟩ [0] rfl ⟨rfl, rfl⟩ rfl rfl 0 0 rfl rfl rfl rfl (Nat.le_of_ble_eq_true rfl) (ff_cons (ml_fst _ _ _ _ _ _) (ff_nil)) (ws' := [ml m cI S M]) rfl ?_
  refine G.b_eq X dX7_thing_102 (fun b102 => ?_) (fun b102 => ?_)
  · refine G.pu X dX7_thing_109 ?_
    exact G.iret X Rr (v := 0) dX7_thing_110 (pi_mk (by simp [b2i, b5, b102]) (by rfl))
  · refine G.pu X dX7_thing_105 ?_
    refine G.go X dX7_thing_106 ?_
    exact G.iret X Rr (v := 1) dX7_thing_110 (pi_mk (by simp [b2i, b5, b102]) (by rfl))

set_option maxRecDepth 20000 in
theorem tX7_thing_oth (l : Launch) (D : va_G) (cI cW : ClassId) (m : Nat → Nat) (S : WS) (M : MS) (p : Nat) (w : Int32) (hS : Ok S) (hp : p < s_th S) (hw : z_in w 7 = false) : CT l D cI cW yX7_thing cX7_thing 3 (some .int) ⟨1, 0, 0, 21⟩ [.ref (m 0), .int (nI p), .int w] ([ml m cI S M]) (PI (-2) ([ml m cI S (m_no M 2)])) := by
  refine CT.of RX7 rfl (by decide +kernel) (Nat.le_of_ble_eq_true rfl) [(0, .ref (m 0)), (1, .int (nI p)), (2, .int w)] rfl (fun x X Rr hnm => ?_)
  have hth := hS.th
  have hpe := hS.pe
  refine G.al X dX7_thing_0 0 rfl ?_
  refine G.il X dX7_thing_1 1 rfl ?_
  refine G.cvi X kX7_isThing lX7_126 dX7_thing_2 (tX7_isThing l D cI cW m S M (nI p)) ⟨Nat.le_of_ble_eq_true rfl, Nat.le_of_ble_eq_true rfl⟩ ⟨Nat.zero_le _, Nat.zero_le _⟩ [0] rfl ⟨rfl, rfl⟩ rfl rfl 0 0 rfl rfl rfl rfl (Nat.le_of_ble_eq_true rfl) (ff_cons (ml_fst _ _ _ _ _ _) (ff_nil)) (ws' := [ml m cI S M]) rfl ?_
  refine G.b_ne X dX7_thing_5 (fun b5 => ?_) (fun b5 => absurd (Eq.trans (Eq.symm (z_in_nI hp (by omega))) b5) (by decide))
  refine G.il X dX7_thing_14 2 rfl ?_
  refine G.tsd X dX7_thing_15 [0, 1, 2, 3, 4, 5, 6] (List.forall_mem_cons.mpr ⟨(z_ne (v := 0) hw (by decide) (by decide)), List.forall_mem_cons.mpr ⟨(z_ne (v := 1) hw (by decide) (by decide)), List.forall_mem_cons.mpr ⟨(z_ne (v := 2) hw (by decide) (by decide)), List.forall_mem_cons.mpr ⟨(z_ne (v := 3) hw (by decide) (by decide)), List.forall_mem_cons.mpr ⟨(z_ne (v := 4) hw (by decide) (by decide)), List.forall_mem_cons.mpr ⟨(z_ne (v := 5) hw (by decide) (by decide)), List.forall_mem_cons.mpr ⟨(z_ne (v := 6) hw (by decide) (by decide)), fun _ h9 => absurd h9 List.not_mem_nil⟩⟩⟩⟩⟩⟩⟩) 111 (by decide) ?_
  refine G.al X dX7_thing_111 0 rfl ?_
  refine G.pu X dX7_thing_112 ?_
  refine G.cvi X kX7_no lX7_74 dX7_thing_114 (tX7_no l D cI cW m S M 2 (by omega) (by omega)) ⟨Nat.le_of_ble_eq_true rfl, Nat.le_of_ble_eq_true rfl⟩ ⟨Nat.zero_le _, Nat.zero_le _⟩ [0] rfl ⟨rfl, rfl⟩ rfl rfl 0 0 rfl rfl rfl rfl (Nat.le_of_ble_eq_true rfl) (ff_cons (ml_fst _ _ _ _ _ _) (ff_nil)) (ws' := [ml m cI S (m_no M 2)]) rfl ?_
  exact G.iret X Rr (v := (-(nI 2))) dX7_thing_117 (pi_mk (by rfl) (by rfl))

set_option maxRecDepth 20000 in
theorem tX7_drops_bad (l : Launch) (D : va_G) (cI cW : ClassId) (m : Nat → Nat) (S : WS) (M : MS) (p : Int32) (hS : Ok S) (hp : z_in p (s_th S) = false) : CT l D cI cW yX7_drops cX7_drops 2 (some .int) ⟨1, 0, 0, 21⟩ [.ref (m 0), .int p] ([ml m cI S M]) (PI (-1) ([ml m cI S (m_no M 1)])) := by
  refine CT.of RX7 rfl (by decide +kernel) (Nat.le_of_ble_eq_true rfl) [(0, .ref (m 0)), (1, .int p)] rfl (fun x X Rr hnm => ?_)
  have hth := hS.th
  have hpe := hS.pe
  refine G.al X dX7_drops_0 0 rfl ?_
  refine G.il X dX7_drops_1 1 rfl ?_
  refine G.cvi X kX7_isThing lX7_126 dX7_drops_2 (tX7_isThing l D cI cW m S M p) ⟨Nat.le_of_ble_eq_true rfl, Nat.le_of_ble_eq_true rfl⟩ ⟨Nat.zero_le _, Nat.zero_le _⟩ [0] rfl ⟨rfl, rfl⟩ rfl rfl 0 0 rfl rfl rfl rfl (Nat.le_of_ble_eq_true rfl) (ff_cons (ml_fst _ _ _ _ _ _) (ff_nil)) (ws' := [ml m cI S M]) rfl ?_
  refine G.b_ne X dX7_drops_5 (fun b5 => absurd (Eq.trans (Eq.symm hp) b5) (by decide)) (fun b5 => ?_)
  refine G.al X dX7_drops_8 0 rfl ?_
  refine G.pu X dX7_drops_9 ?_
  refine G.cvi X kX7_no lX7_74 dX7_drops_10 (tX7_no l D cI cW m S M 1 (by omega) (by omega)) ⟨Nat.le_of_ble_eq_true rfl, Nat.le_of_ble_eq_true rfl⟩ ⟨Nat.zero_le _, Nat.zero_le _⟩ [0] rfl ⟨rfl, rfl⟩ rfl rfl 0 0 rfl rfl rfl rfl (Nat.le_of_ble_eq_true rfl) (ff_cons (ml_fst _ _ _ _ _ _) (ff_nil)) (ws' := [ml m cI S (m_no M 1)]) rfl ?_
  exact G.iret X Rr (v := (-(nI 1))) dX7_drops_13 (pi_mk (by rfl) (by rfl))

set_option maxRecDepth 20000 in
theorem tX7_drops_ok (l : Launch) (D : va_G) (cI cW : ClassId) (m : Nat → Nat) (S : WS) (M : MS) (p : Nat) (hS : Ok S) (hp : p < s_th S) : CT l D cI cW yX7_drops cX7_drops 2 (some .int) ⟨2, 0, 0, 43⟩ [.ref (m 0), .int (nI p)] ([ml m cI S M]) (PI (s_wa (w_fall S p) p) ([ml m cI (w_fall S p) M])) := by
  refine CT.of RX7 rfl (by decide +kernel) (Nat.le_of_ble_eq_true rfl) [(0, .ref (m 0)), (1, .int (nI p))] rfl (fun x X Rr hnm => ?_)
  have hth := hS.th
  have hpe := hS.pe
  refine G.al X dX7_drops_0 0 rfl ?_
  refine G.il X dX7_drops_1 1 rfl ?_
  refine G.cvi X kX7_isThing lX7_126 dX7_drops_2 (tX7_isThing l D cI cW m S M (nI p)) ⟨Nat.le_of_ble_eq_true rfl, Nat.le_of_ble_eq_true rfl⟩ ⟨Nat.zero_le _, Nat.zero_le _⟩ [0] rfl ⟨rfl, rfl⟩ rfl rfl 0 0 rfl rfl rfl rfl (Nat.le_of_ble_eq_true rfl) (ff_cons (ml_fst _ _ _ _ _ _) (ff_nil)) (ws' := [ml m cI S M]) rfl ?_
  refine G.b_ne X dX7_drops_5 (fun b5 => ?_) (fun b5 => absurd (Eq.trans (Eq.symm (z_in_nI hp (by omega))) b5) (by decide))
  refine G.al X dX7_drops_14 0 rfl ?_
  refine G.il X dX7_drops_15 1 rfl ?_
  refine G.cvv X kX7_falls lX7_129 dX7_drops_16 (tX7_falls l D cI cW m S M p (by omega)) ⟨Nat.le_of_ble_eq_true rfl, Nat.le_of_ble_eq_true rfl⟩ ⟨Nat.zero_le _, Nat.zero_le _⟩ [0] rfl ⟨rfl, rfl⟩ rfl rfl 0 0 rfl rfl rfl rfl (Nat.le_of_ble_eq_true rfl) (ff_cons (ml_fst _ _ _ _ _ _) (ff_nil)) (ws' := [ml m cI (w_fall S p) M]) rfl ?_
  refine G.al X dX7_drops_19 0 rfl ?_
  refine G.get X fX7_31 dX7_drops_20 0 0 rfl rfl rfl ?_
  refine G.il X dX7_drops_23 1 rfl ?_
  refine G.nld X (i := p) dX7_drops_24 0 8 rfl rfl (by omega) (by decide) ?_
  exact G.iret X Rr (v := ((s_wa (w_fall S p)) p)) dX7_drops_25 (pi_mk (by rfl) (by rfl))

set_option maxRecDepth 20000 in
theorem tX7_learns_bad1 (l : Launch) (D : va_G) (cI cW : ClassId) (m : Nat → Nat) (S : WS) (M : MS) (p : Int32) (t : Int32) (hS : Ok S) (hp : z_in p (s_pe S) = false) : CT l D cI cW yX7_learns cX7_learns 3 (some .int) ⟨1, 0, 0, 21⟩ [.ref (m 0), .int p, .int t] ([ml m cI S M]) (PI (-1) ([ml m cI S (m_no M 1)])) := by
  refine CT.of RX7 rfl (by decide +kernel) (Nat.le_of_ble_eq_true rfl) [(0, .ref (m 0)), (1, .int p), (2, .int t)] rfl (fun x X Rr hnm => ?_)
  have hth := hS.th
  have hpe := hS.pe
  refine G.al X dX7_learns_0 0 rfl ?_
  refine G.il X dX7_learns_1 1 rfl ?_
  refine G.cvi X kX7_isOne lX7_106 dX7_learns_2 (tX7_isOne l D cI cW m S M p) ⟨Nat.le_of_ble_eq_true rfl, Nat.le_of_ble_eq_true rfl⟩ ⟨Nat.zero_le _, Nat.zero_le _⟩ [0] rfl ⟨rfl, rfl⟩ rfl rfl 0 0 rfl rfl rfl rfl (Nat.le_of_ble_eq_true rfl) (ff_cons (ml_fst _ _ _ _ _ _) (ff_nil)) (ws' := [ml m cI S M]) rfl ?_
  refine G.b_eq X dX7_learns_5 (fun b5 => ?_) (fun b5 => absurd (Eq.trans (Eq.symm hp) b5) (by decide))
  refine G.al X dX7_learns_18 0 rfl ?_
  refine G.pu X dX7_learns_19 ?_
  refine G.cvi X kX7_no lX7_74 dX7_learns_20 (tX7_no l D cI cW m S M 1 (by omega) (by omega)) ⟨Nat.le_of_ble_eq_true rfl, Nat.le_of_ble_eq_true rfl⟩ ⟨Nat.zero_le _, Nat.zero_le _⟩ [0] rfl ⟨rfl, rfl⟩ rfl rfl 0 0 rfl rfl rfl rfl (Nat.le_of_ble_eq_true rfl) (ff_cons (ml_fst _ _ _ _ _ _) (ff_nil)) (ws' := [ml m cI S (m_no M 1)]) rfl ?_
  exact G.iret X Rr (v := (-(nI 1))) dX7_learns_23 (pi_mk (by rfl) (by rfl))

set_option maxRecDepth 20000 in
theorem tX7_learns_bad2 (l : Launch) (D : va_G) (cI cW : ClassId) (m : Nat → Nat) (S : WS) (M : MS) (p : Nat) (t : Int32) (hS : Ok S) (hp : p < s_pe S) (ht : z_in t 8 = false) : CT l D cI cW yX7_learns cX7_learns 3 (some .int) ⟨1, 0, 0, 22⟩ [.ref (m 0), .int (nI p), .int t] ([ml m cI S M]) (PI (-1) ([ml m cI S (m_no M 1)])) := by
  refine CT.of RX7 rfl (by decide +kernel) (Nat.le_of_ble_eq_true rfl) [(0, .ref (m 0)), (1, .int (nI p)), (2, .int t)] rfl (fun x X Rr hnm => ?_)
  have hth := hS.th
  have hpe := hS.pe
  refine G.al X dX7_learns_0 0 rfl ?_
  refine G.il X dX7_learns_1 1 rfl ?_
  refine G.cvi X kX7_isOne lX7_106 dX7_learns_2 (tX7_isOne l D cI cW m S M (nI p)) ⟨Nat.le_of_ble_eq_true rfl, Nat.le_of_ble_eq_true rfl⟩ ⟨Nat.zero_le _, Nat.zero_le _⟩ [0] rfl ⟨rfl, rfl⟩ rfl rfl 0 0 rfl rfl rfl rfl (Nat.le_of_ble_eq_true rfl) (ff_cons (ml_fst _ _ _ _ _ _) (ff_nil)) (ws' := [ml m cI S M]) rfl ?_
  refine G.b_eq X dX7_learns_5 (fun b5 => absurd (Eq.trans (Eq.symm (z_in_nI hp (by omega))) b5) (by decide)) (fun b5 => ?_)
  refine G.il X dX7_learns_8 2 rfl ?_
  refine G.pu X dX7_learns_9 ?_
  refine G.pu X dX7_learns_10 ?_
  refine G.csti X kX7_isIn lX7_85 dX7_learns_12 (tX7_isIn_no l D cI cW t 0 7 (zbt_no (n := 7) ht (by decide))) ⟨Nat.le_of_ble_eq_true rfl, Nat.le_of_ble_eq_true rfl⟩ ⟨Nat.zero_le _, Nat.zero_le _⟩ [] rfl ⟨rfl, rfl⟩ rfl rfl rfl (Nat.le_of_ble_eq_true rfl) (ff_nil) (ws' := [ml m cI S M]) rfl ?_
  refine G.b_ne X dX7_learns_15 (fun b15 => absurd b15 (by decide)) (fun b15 => ?_)
  refine G.al X dX7_learns_18 0 rfl ?_
  refine G.pu X dX7_learns_19 ?_
  refine G.cvi X kX7_no lX7_74 dX7_learns_20 (tX7_no l D cI cW m S M 1 (by omega) (by omega)) ⟨Nat.le_of_ble_eq_true rfl, Nat.le_of_ble_eq_true rfl⟩ ⟨Nat.zero_le _, Nat.zero_le _⟩ [0] rfl ⟨rfl, rfl⟩ rfl rfl 0 0 rfl rfl rfl rfl (Nat.le_of_ble_eq_true rfl) (ff_cons (ml_fst _ _ _ _ _ _) (ff_nil)) (ws' := [ml m cI S (m_no M 1)]) rfl ?_
  exact G.iret X Rr (v := (-(nI 1))) dX7_learns_23 (pi_mk (by rfl) (by rfl))

set_option maxRecDepth 20000 in
theorem tX7_learns_ok (l : Launch) (D : va_G) (cI cW : ClassId) (m : Nat → Nat) (S : WS) (M : MS) (p : Nat) (t : Nat) (hS : Ok S) (hp : p < s_pe S) (ht : t < 8) : CT l D cI cW yX7_learns cX7_learns 3 (some .int) ⟨1, 0, 0, 22⟩ [.ref (m 0), .int (nI p), .int (nI t)] ([ml m cI S M]) (PI ((s_kn (w_lrn S p (nI t)) p >>> (nI t &&& 31)) &&& 1) ([ml m cI (w_lrn S p (nI t)) M])) := by
  refine CT.of RX7 rfl (by decide +kernel) (Nat.le_of_ble_eq_true rfl) [(0, .ref (m 0)), (1, .int (nI p)), (2, .int (nI t))] rfl (fun x X Rr hnm => ?_)
  have hth := hS.th
  have hpe := hS.pe
  refine G.al X dX7_learns_0 0 rfl ?_
  refine G.il X dX7_learns_1 1 rfl ?_
  refine G.cvi X kX7_isOne lX7_106 dX7_learns_2 (tX7_isOne l D cI cW m S M (nI p)) ⟨Nat.le_of_ble_eq_true rfl, Nat.le_of_ble_eq_true rfl⟩ ⟨Nat.zero_le _, Nat.zero_le _⟩ [0] rfl ⟨rfl, rfl⟩ rfl rfl 0 0 rfl rfl rfl rfl (Nat.le_of_ble_eq_true rfl) (ff_cons (ml_fst _ _ _ _ _ _) (ff_nil)) (ws' := [ml m cI S M]) rfl ?_
  refine G.b_eq X dX7_learns_5 (fun b5 => absurd (Eq.trans (Eq.symm (z_in_nI hp (by omega))) b5) (by decide)) (fun b5 => ?_)
  refine G.il X dX7_learns_8 2 rfl ?_
  refine G.pu X dX7_learns_9 ?_
  refine G.pu X dX7_learns_10 ?_
  refine G.csti X kX7_isIn lX7_85 dX7_learns_12 (tX7_isIn_yes l D cI cW t 0 7 (by omega) (by omega) (by omega)) ⟨Nat.le_of_ble_eq_true rfl, Nat.le_of_ble_eq_true rfl⟩ ⟨Nat.zero_le _, Nat.zero_le _⟩ [] rfl ⟨rfl, rfl⟩ rfl rfl rfl (Nat.le_of_ble_eq_true rfl) (ff_nil) (ws' := [ml m cI S M]) rfl ?_
  refine G.b_ne X dX7_learns_15 (fun b15 => ?_) (fun b15 => absurd b15 (by decide))
  refine G.al X dX7_learns_24 0 rfl ?_
  refine G.get X fX7_13 dX7_learns_25 0 0 rfl rfl rfl ?_
  refine G.il X dX7_learns_28 1 rfl ?_
  refine G.dup2 X dX7_learns_29 ?_
  refine G.nld X (i := p) dX7_learns_30 0 2 rfl rfl (by omega) (by decide) ?_
  refine G.pu X dX7_learns_31 ?_
  refine G.il X dX7_learns_32 2 rfl ?_
  refine G.ishl X dX7_learns_33 ?_
  refine G.ixor X dX7_learns_34 ?_
  refine G.nst X (i := p) dX7_learns_35 0 2 rfl rfl (by omega) (by decide) (blk' := ml m cI (s_pe S, s_th S, s_da S, s_dr S, upd (s_kn S) p (((s_kn S) p) ^^^ (1 <<< ((nI t) &&& 31))), s_sh S, s_an S, s_ki S, s_we S, s_dp S, s_wa S, s_le S) M) rfl (ws' := [ml m cI (s_pe S, s_th S, s_da S, s_dr S, upd (s_kn S) p (((s_kn S) p) ^^^ (1 <<< ((nI t) &&& 31))), s_sh S, s_an S, s_ki S, s_we S, s_dp S, s_wa S, s_le S) M]) rfl ?_
  refine G.al X dX7_learns_36 0 rfl ?_
  refine G.get X fX7_13 dX7_learns_37 0 0 rfl rfl rfl ?_
  refine G.il X dX7_learns_40 1 rfl ?_
  refine G.nld X (i := p) dX7_learns_41 0 2 rfl rfl (by omega) (by decide) ?_
  refine G.il X dX7_learns_42 2 rfl ?_
  refine G.ishr X dX7_learns_43 ?_
  refine G.pu X dX7_learns_44 ?_
  refine G.iand X dX7_learns_45 ?_
  exact G.iret X Rr (v := ((((upd (s_kn S) p (((s_kn S) p) ^^^ (1 <<< ((nI t) &&& 31)))) p) >>> ((nI t) &&& 31)) &&& 1)) dX7_learns_46 (pi_mk (by rfl) (by rfl))

set_option maxRecDepth 20000 in
theorem tX7_shy_bad (l : Launch) (D : va_G) (cI cW : ClassId) (m : Nat → Nat) (S : WS) (M : MS) (p : Int32) (v : Int32) (hS : Ok S) (hp : z_in p (s_pe S) = false) : CT l D cI cW yX7_shy cX7_shy 5 (some .int) ⟨1, 0, 0, 21⟩ [.ref (m 0), .int p, .int v] ([ml m cI S M]) (PI (-1) ([ml m cI S (m_no M 1)])) := by
  refine CT.of RX7 rfl (by decide +kernel) (Nat.le_of_ble_eq_true rfl) [(0, .ref (m 0)), (1, .int p), (2, .int v)] rfl (fun x X Rr hnm => ?_)
  have hth := hS.th
  have hpe := hS.pe
  refine G.al X dX7_shy_0 0 rfl ?_
  refine G.il X dX7_shy_1 1 rfl ?_
  refine G.cvi X kX7_isOne lX7_106 dX7_shy_2 (tX7_isOne l D cI cW m S M p) ⟨Nat.le_of_ble_eq_true rfl, Nat.le_of_ble_eq_true rfl⟩ ⟨Nat.zero_le _, Nat.zero_le _⟩ [0] rfl ⟨rfl, rfl⟩ rfl rfl 0 0 rfl rfl rfl rfl (Nat.le_of_ble_eq_true rfl) (ff_cons (ml_fst _ _ _ _ _ _) (ff_nil)) (ws' := [ml m cI S M]) rfl ?_
  refine G.b_ne X dX7_shy_5 (fun b5 => absurd (Eq.trans (Eq.symm hp) b5) (by decide)) (fun b5 => ?_)
  refine G.pu X dX7_shy_8 ?_
  refine G.go X dX7_shy_9 ?_
  refine G.is X dX7_shy_19 (by decide) (lv' := [(3, .int (-1)), (0, .ref (m 0)), (1, .int p), (2, .int v)]) rfl ?_
  refine G.il X dX7_shy_20 0 rfl ?_
  refine G.z_eq X (a := (-1)) dX7_shy_21 (fun b21 => absurd b21 (by decide)) (fun b21 => ?_)
  refine G.al X dX7_shy_24 1 rfl ?_
  refine G.il X dX7_shy_25 0 rfl ?_
  refine G.cvi X kX7_no lX7_74 dX7_shy_26 (tX7_no l D cI cW m S M 1 (by omega) (by omega)) ⟨Nat.le_of_ble_eq_true rfl, Nat.le_of_ble_eq_true rfl⟩ ⟨Nat.zero_le _, Nat.zero_le _⟩ [0] rfl ⟨rfl, rfl⟩ rfl rfl 0 0 rfl rfl rfl rfl (Nat.le_of_ble_eq_true rfl) (ff_cons (ml_fst _ _ _ _ _ _) (ff_nil)) (ws' := [ml m cI S (m_no M 1)]) rfl ?_
  exact G.iret X Rr (v := (-(nI 1))) dX7_shy_29 (pi_mk (by rfl) (by rfl))

set_option maxRecDepth 20000 in
theorem tX7_shy_lo (l : Launch) (D : va_G) (cI cW : ClassId) (m : Nat → Nat) (S : WS) (M : MS) (p : Nat) (v : Int32) (hS : Ok S) (hp : p < s_pe S) (h1 : v < 0) : CT l D cI cW yX7_shy cX7_shy 5 (some .int) ⟨1, 0, 0, 22⟩ [.ref (m 0), .int (nI p), .int v] ([ml m cI S M]) (PI (-4) ([ml m cI S (m_no M 4)])) := by
  refine CT.of RX7 rfl (by decide +kernel) (Nat.le_of_ble_eq_true rfl) [(0, .ref (m 0)), (1, .int (nI p)), (2, .int v)] rfl (fun x X Rr hnm => ?_)
  have hth := hS.th
  have hpe := hS.pe
  refine G.al X dX7_shy_0 0 rfl ?_
  refine G.il X dX7_shy_1 1 rfl ?_
  refine G.cvi X kX7_isOne lX7_106 dX7_shy_2 (tX7_isOne l D cI cW m S M (nI p)) ⟨Nat.le_of_ble_eq_true rfl, Nat.le_of_ble_eq_true rfl⟩ ⟨Nat.zero_le _, Nat.zero_le _⟩ [0] rfl ⟨rfl, rfl⟩ rfl rfl 0 0 rfl rfl rfl rfl (Nat.le_of_ble_eq_true rfl) (ff_cons (ml_fst _ _ _ _ _ _) (ff_nil)) (ws' := [ml m cI S M]) rfl ?_
  refine G.b_ne X dX7_shy_5 (fun b5 => ?_) (fun b5 => absurd (Eq.trans (Eq.symm (z_in_nI hp (by omega))) b5) (by decide))
  refine G.il X dX7_shy_12 2 rfl ?_
  refine G.pu X dX7_shy_13 ?_
  refine G.pu X dX7_shy_14 ?_
  refine G.csti X kX7_bound lX7_67 dX7_shy_16 (tX7_bound_lo l D cI cW v 0 9 h1) ⟨Nat.le_of_ble_eq_true rfl, Nat.le_of_ble_eq_true rfl⟩ ⟨Nat.zero_le _, Nat.zero_le _⟩ [] rfl ⟨rfl, rfl⟩ rfl rfl rfl (Nat.le_of_ble_eq_true rfl) (ff_nil) (ws' := [ml m cI S M]) rfl ?_
  refine G.is X dX7_shy_19 (by decide) (lv' := [(3, .int (-4)), (0, .ref (m 0)), (1, .int (nI p)), (2, .int v)]) rfl ?_
  refine G.il X dX7_shy_20 0 rfl ?_
  refine G.z_eq X (a := (-4)) dX7_shy_21 (fun b21 => absurd b21 (by decide)) (fun b21 => ?_)
  refine G.al X dX7_shy_24 1 rfl ?_
  refine G.il X dX7_shy_25 0 rfl ?_
  refine G.cvi X kX7_no lX7_74 dX7_shy_26 (tX7_no l D cI cW m S M 4 (by omega) (by omega)) ⟨Nat.le_of_ble_eq_true rfl, Nat.le_of_ble_eq_true rfl⟩ ⟨Nat.zero_le _, Nat.zero_le _⟩ [0] rfl ⟨rfl, rfl⟩ rfl rfl 0 0 rfl rfl rfl rfl (Nat.le_of_ble_eq_true rfl) (ff_cons (ml_fst _ _ _ _ _ _) (ff_nil)) (ws' := [ml m cI S (m_no M 4)]) rfl ?_
  exact G.iret X Rr (v := (-(nI 4))) dX7_shy_29 (pi_mk (by rfl) (by rfl))

set_option maxRecDepth 20000 in
theorem tX7_shy_hi (l : Launch) (D : va_G) (cI cW : ClassId) (m : Nat → Nat) (S : WS) (M : MS) (p : Nat) (v : Int32) (hS : Ok S) (hp : p < s_pe S) (h1 : ¬ v < 0) (h2 : 9 < v) : CT l D cI cW yX7_shy cX7_shy 5 (some .int) ⟨1, 0, 0, 22⟩ [.ref (m 0), .int (nI p), .int v] ([ml m cI S M]) (PI (-6) ([ml m cI S (m_no M 6)])) := by
  refine CT.of RX7 rfl (by decide +kernel) (Nat.le_of_ble_eq_true rfl) [(0, .ref (m 0)), (1, .int (nI p)), (2, .int v)] rfl (fun x X Rr hnm => ?_)
  have hth := hS.th
  have hpe := hS.pe
  refine G.al X dX7_shy_0 0 rfl ?_
  refine G.il X dX7_shy_1 1 rfl ?_
  refine G.cvi X kX7_isOne lX7_106 dX7_shy_2 (tX7_isOne l D cI cW m S M (nI p)) ⟨Nat.le_of_ble_eq_true rfl, Nat.le_of_ble_eq_true rfl⟩ ⟨Nat.zero_le _, Nat.zero_le _⟩ [0] rfl ⟨rfl, rfl⟩ rfl rfl 0 0 rfl rfl rfl rfl (Nat.le_of_ble_eq_true rfl) (ff_cons (ml_fst _ _ _ _ _ _) (ff_nil)) (ws' := [ml m cI S M]) rfl ?_
  refine G.b_ne X dX7_shy_5 (fun b5 => ?_) (fun b5 => absurd (Eq.trans (Eq.symm (z_in_nI hp (by omega))) b5) (by decide))
  refine G.il X dX7_shy_12 2 rfl ?_
  refine G.pu X dX7_shy_13 ?_
  refine G.pu X dX7_shy_14 ?_
  refine G.csti X kX7_bound lX7_67 dX7_shy_16 (tX7_bound_hi l D cI cW v 0 9 h1 h2) ⟨Nat.le_of_ble_eq_true rfl, Nat.le_of_ble_eq_true rfl⟩ ⟨Nat.zero_le _, Nat.zero_le _⟩ [] rfl ⟨rfl, rfl⟩ rfl rfl rfl (Nat.le_of_ble_eq_true rfl) (ff_nil) (ws' := [ml m cI S M]) rfl ?_
  refine G.is X dX7_shy_19 (by decide) (lv' := [(3, .int (-6)), (0, .ref (m 0)), (1, .int (nI p)), (2, .int v)]) rfl ?_
  refine G.il X dX7_shy_20 0 rfl ?_
  refine G.z_eq X (a := (-6)) dX7_shy_21 (fun b21 => absurd b21 (by decide)) (fun b21 => ?_)
  refine G.al X dX7_shy_24 1 rfl ?_
  refine G.il X dX7_shy_25 0 rfl ?_
  refine G.cvi X kX7_no lX7_74 dX7_shy_26 (tX7_no l D cI cW m S M 6 (by omega) (by omega)) ⟨Nat.le_of_ble_eq_true rfl, Nat.le_of_ble_eq_true rfl⟩ ⟨Nat.zero_le _, Nat.zero_le _⟩ [0] rfl ⟨rfl, rfl⟩ rfl rfl 0 0 rfl rfl rfl rfl (Nat.le_of_ble_eq_true rfl) (ff_cons (ml_fst _ _ _ _ _ _) (ff_nil)) (ws' := [ml m cI S (m_no M 6)]) rfl ?_
  exact G.iret X Rr (v := (-(nI 6))) dX7_shy_29 (pi_mk (by rfl) (by rfl))

set_option maxRecDepth 20000 in
theorem tX7_shy_ok (l : Launch) (D : va_G) (cI cW : ClassId) (m : Nat → Nat) (S : WS) (M : MS) (p : Nat) (v : Nat) (hS : Ok S) (hp : p < s_pe S) (hv : v ≤ 9) : CT l D cI cW yX7_shy cX7_shy 5 (some .int) ⟨1, 0, 0, 22⟩ [.ref (m 0), .int (nI p), .int (nI v)] ([ml m cI S M]) (PI (s_sh S p) ([ml m cI (w_shy S p (nI v)) M])) := by
  refine CT.of RX7 rfl (by decide +kernel) (Nat.le_of_ble_eq_true rfl) [(0, .ref (m 0)), (1, .int (nI p)), (2, .int (nI v))] rfl (fun x X Rr hnm => ?_)
  have hth := hS.th
  have hpe := hS.pe
  refine G.al X dX7_shy_0 0 rfl ?_
  refine G.il X dX7_shy_1 1 rfl ?_
  refine G.cvi X kX7_isOne lX7_106 dX7_shy_2 (tX7_isOne l D cI cW m S M (nI p)) ⟨Nat.le_of_ble_eq_true rfl, Nat.le_of_ble_eq_true rfl⟩ ⟨Nat.zero_le _, Nat.zero_le _⟩ [0] rfl ⟨rfl, rfl⟩ rfl rfl 0 0 rfl rfl rfl rfl (Nat.le_of_ble_eq_true rfl) (ff_cons (ml_fst _ _ _ _ _ _) (ff_nil)) (ws' := [ml m cI S M]) rfl ?_
  refine G.b_ne X dX7_shy_5 (fun b5 => ?_) (fun b5 => absurd (Eq.trans (Eq.symm (z_in_nI hp (by omega))) b5) (by decide))
  refine G.il X dX7_shy_12 2 rfl ?_
  refine G.pu X dX7_shy_13 ?_
  refine G.pu X dX7_shy_14 ?_
  refine G.csti X kX7_bound lX7_67 dX7_shy_16 (tX7_bound_ok l D cI cW v 0 9 (by omega) hv (by omega)) ⟨Nat.le_of_ble_eq_true rfl, Nat.le_of_ble_eq_true rfl⟩ ⟨Nat.zero_le _, Nat.zero_le _⟩ [] rfl ⟨rfl, rfl⟩ rfl rfl rfl (Nat.le_of_ble_eq_true rfl) (ff_nil) (ws' := [ml m cI S M]) rfl ?_
  refine G.is X dX7_shy_19 (by decide) (lv' := [(3, .int 0), (0, .ref (m 0)), (1, .int (nI p)), (2, .int (nI v))]) rfl ?_
  refine G.il X dX7_shy_20 0 rfl ?_
  refine G.z_eq X (a := 0) dX7_shy_21 (fun b21 => ?_) (fun b21 => absurd b21 (by decide))
  refine G.al X dX7_shy_30 1 rfl ?_
  refine G.get X fX7_16 dX7_shy_31 0 0 rfl rfl rfl ?_
  refine G.il X dX7_shy_34 2 rfl ?_
  refine G.nld X (i := p) dX7_shy_35 0 3 rfl rfl (by omega) (by decide) ?_
  refine G.is X dX7_shy_36 (by decide) (lv' := [(4, .int ((s_sh S) p)), (3, .int 0), (0, .ref (m 0)), (1, .int (nI p)), (2, .int (nI v))]) rfl ?_
  refine G.al X dX7_shy_38 2 rfl ?_
  refine G.get X fX7_16 dX7_shy_39 0 0 rfl rfl rfl ?_
  refine G.il X dX7_shy_42 3 rfl ?_
  refine G.il X dX7_shy_43 4 rfl ?_
  refine G.nst X (i := p) dX7_shy_44 0 3 rfl rfl (by omega) (by decide) (blk' := ml m cI (s_pe S, s_th S, s_da S, s_dr S, s_kn S, upd (s_sh S) p (nI v), s_an S, s_ki S, s_we S, s_dp S, s_wa S, s_le S) M) rfl (ws' := [ml m cI (s_pe S, s_th S, s_da S, s_dr S, s_kn S, upd (s_sh S) p (nI v), s_an S, s_ki S, s_we S, s_dp S, s_wa S, s_le S) M]) rfl ?_
  refine G.il X dX7_shy_45 0 rfl ?_
  exact G.iret X Rr (v := ((s_sh S) p)) dX7_shy_47 (pi_mk (by rfl) (by rfl))

set_option maxRecDepth 20000 in
theorem tX7_drought_lo (l : Launch) (D : va_G) (cI cW : ClassId) (m : Nat → Nat) (S : WS) (M : MS) (v : Int32) (h1 : v < 0) : CT l D cI cW yX7_drought cX7_drought 4 (some .int) ⟨1, 0, 0, 22⟩ [.ref (m 0), .int v] ([ml m cI S M]) (PI (-4) ([ml m cI S (m_no M 4)])) := by
  refine CT.of RX7 rfl (by decide +kernel) (Nat.le_of_ble_eq_true rfl) [(0, .ref (m 0)), (1, .int v)] rfl (fun x X Rr hnm => ?_)
  refine G.il X dX7_drought_0 1 rfl ?_
  refine G.pu X dX7_drought_1 ?_
  refine G.pu X dX7_drought_2 ?_
  refine G.csti X kX7_bound lX7_67 dX7_drought_4 (tX7_bound_lo l D cI cW v 0 9 h1) ⟨Nat.le_of_ble_eq_true rfl, Nat.le_of_ble_eq_true rfl⟩ ⟨Nat.zero_le _, Nat.zero_le _⟩ [] rfl ⟨rfl, rfl⟩ rfl rfl rfl (Nat.le_of_ble_eq_true rfl) (ff_nil) (ws' := [ml m cI S M]) rfl ?_
  refine G.is X dX7_drought_7 (by decide) (lv' := [(2, .int (-4)), (0, .ref (m 0)), (1, .int v)]) rfl ?_
  refine G.il X dX7_drought_8 0 rfl ?_
  refine G.z_eq X (a := (-4)) dX7_drought_9 (fun b9 => absurd b9 (by decide)) (fun b9 => ?_)
  refine G.al X dX7_drought_12 1 rfl ?_
  refine G.il X dX7_drought_13 0 rfl ?_
  refine G.cvi X kX7_no lX7_74 dX7_drought_14 (tX7_no l D cI cW m S M 4 (by omega) (by omega)) ⟨Nat.le_of_ble_eq_true rfl, Nat.le_of_ble_eq_true rfl⟩ ⟨Nat.zero_le _, Nat.zero_le _⟩ [0] rfl ⟨rfl, rfl⟩ rfl rfl 0 0 rfl rfl rfl rfl (Nat.le_of_ble_eq_true rfl) (ff_cons (ml_fst _ _ _ _ _ _) (ff_nil)) (ws' := [ml m cI S (m_no M 4)]) rfl ?_
  exact G.iret X Rr (v := (-(nI 4))) dX7_drought_17 (pi_mk (by rfl) (by rfl))

set_option maxRecDepth 20000 in
theorem tX7_drought_hi (l : Launch) (D : va_G) (cI cW : ClassId) (m : Nat → Nat) (S : WS) (M : MS) (v : Int32) (h1 : ¬ v < 0) (h2 : 9 < v) : CT l D cI cW yX7_drought cX7_drought 4 (some .int) ⟨1, 0, 0, 22⟩ [.ref (m 0), .int v] ([ml m cI S M]) (PI (-6) ([ml m cI S (m_no M 6)])) := by
  refine CT.of RX7 rfl (by decide +kernel) (Nat.le_of_ble_eq_true rfl) [(0, .ref (m 0)), (1, .int v)] rfl (fun x X Rr hnm => ?_)
  refine G.il X dX7_drought_0 1 rfl ?_
  refine G.pu X dX7_drought_1 ?_
  refine G.pu X dX7_drought_2 ?_
  refine G.csti X kX7_bound lX7_67 dX7_drought_4 (tX7_bound_hi l D cI cW v 0 9 h1 h2) ⟨Nat.le_of_ble_eq_true rfl, Nat.le_of_ble_eq_true rfl⟩ ⟨Nat.zero_le _, Nat.zero_le _⟩ [] rfl ⟨rfl, rfl⟩ rfl rfl rfl (Nat.le_of_ble_eq_true rfl) (ff_nil) (ws' := [ml m cI S M]) rfl ?_
  refine G.is X dX7_drought_7 (by decide) (lv' := [(2, .int (-6)), (0, .ref (m 0)), (1, .int v)]) rfl ?_
  refine G.il X dX7_drought_8 0 rfl ?_
  refine G.z_eq X (a := (-6)) dX7_drought_9 (fun b9 => absurd b9 (by decide)) (fun b9 => ?_)
  refine G.al X dX7_drought_12 1 rfl ?_
  refine G.il X dX7_drought_13 0 rfl ?_
  refine G.cvi X kX7_no lX7_74 dX7_drought_14 (tX7_no l D cI cW m S M 6 (by omega) (by omega)) ⟨Nat.le_of_ble_eq_true rfl, Nat.le_of_ble_eq_true rfl⟩ ⟨Nat.zero_le _, Nat.zero_le _⟩ [0] rfl ⟨rfl, rfl⟩ rfl rfl 0 0 rfl rfl rfl rfl (Nat.le_of_ble_eq_true rfl) (ff_cons (ml_fst _ _ _ _ _ _) (ff_nil)) (ws' := [ml m cI S (m_no M 6)]) rfl ?_
  exact G.iret X Rr (v := (-(nI 6))) dX7_drought_17 (pi_mk (by rfl) (by rfl))

set_option maxRecDepth 20000 in
theorem tX7_drought_ok (l : Launch) (D : va_G) (cI cW : ClassId) (m : Nat → Nat) (S : WS) (M : MS) (v : Nat) (hv : v ≤ 9) : CT l D cI cW yX7_drought cX7_drought 4 (some .int) ⟨1, 0, 0, 22⟩ [.ref (m 0), .int (nI v)] ([ml m cI S M]) (PI (s_dr S) ([ml m cI (w_dr S (nI v)) M])) := by
  refine CT.of RX7 rfl (by decide +kernel) (Nat.le_of_ble_eq_true rfl) [(0, .ref (m 0)), (1, .int (nI v))] rfl (fun x X Rr hnm => ?_)
  refine G.il X dX7_drought_0 1 rfl ?_
  refine G.pu X dX7_drought_1 ?_
  refine G.pu X dX7_drought_2 ?_
  refine G.csti X kX7_bound lX7_67 dX7_drought_4 (tX7_bound_ok l D cI cW v 0 9 (by omega) hv (by omega)) ⟨Nat.le_of_ble_eq_true rfl, Nat.le_of_ble_eq_true rfl⟩ ⟨Nat.zero_le _, Nat.zero_le _⟩ [] rfl ⟨rfl, rfl⟩ rfl rfl rfl (Nat.le_of_ble_eq_true rfl) (ff_nil) (ws' := [ml m cI S M]) rfl ?_
  refine G.is X dX7_drought_7 (by decide) (lv' := [(2, .int 0), (0, .ref (m 0)), (1, .int (nI v))]) rfl ?_
  refine G.il X dX7_drought_8 0 rfl ?_
  refine G.z_eq X (a := 0) dX7_drought_9 (fun b9 => ?_) (fun b9 => absurd b9 (by decide))
  refine G.al X dX7_drought_18 1 rfl ?_
  refine G.get X fX7_135 dX7_drought_19 0 0 rfl rfl rfl ?_
  refine G.is X dX7_drought_22 (by decide) (lv' := [(3, .int (s_dr S)), (2, .int 0), (0, .ref (m 0)), (1, .int (nI v))]) rfl ?_
  refine G.al X dX7_drought_23 2 rfl ?_
  refine G.il X dX7_drought_24 3 rfl ?_
  refine G.puti X fX7_135 fe7 dX7_drought_25 rfl rfl 0 0 rfl rfl (Nat.le_of_ble_eq_true rfl) (blk' := ml m cI (s_pe S, s_th S, s_da S, nI v, s_kn S, s_sh S, s_an S, s_ki S, s_we S, s_dp S, s_wa S, s_le S) M) rfl (ws' := [ml m cI (s_pe S, s_th S, s_da S, nI v, s_kn S, s_sh S, s_an S, s_ki S, s_we S, s_dp S, s_wa S, s_le S) M]) rfl ?_
  refine G.il X dX7_drought_28 0 rfl ?_
  exact G.iret X Rr (v := (s_dr S)) dX7_drought_29 (pi_mk (by rfl) (by rfl))

set_option maxRecDepth 20000 in
theorem tX7_turn_bad (l : Launch) (D : va_G) (cI cW : ClassId) (m : Nat → Nat) (S : WS) (M : MS) (p : Int32) (kd : Int32) (v : Int32) (hS : Ok S) (hp : z_in p (s_th S) = false) : CT l D cI cW yX7_turn cX7_turn 6 (some .int) ⟨1, 0, 0, 21⟩ [.ref (m 0), .int p, .int kd, .int v] ([ml m cI S M]) (PI (-1) ([ml m cI S (m_no M 1)])) := by
  refine CT.of RX7 rfl (by decide +kernel) (Nat.le_of_ble_eq_true rfl) [(0, .ref (m 0)), (1, .int p), (2, .int kd), (3, .int v)] rfl (fun x X Rr hnm => ?_)
  have hth := hS.th
  have hpe := hS.pe
  refine G.al X dX7_turn_0 0 rfl ?_
  refine G.il X dX7_turn_1 1 rfl ?_
  refine G.cvi X kX7_isThing lX7_126 dX7_turn_2 (tX7_isThing l D cI cW m S M p) ⟨Nat.le_of_ble_eq_true rfl, Nat.le_of_ble_eq_true rfl⟩ ⟨Nat.zero_le _, Nat.zero_le _⟩ [0] rfl ⟨rfl, rfl⟩ rfl rfl 0 0 rfl rfl rfl rfl (Nat.le_of_ble_eq_true rfl) (ff_cons (ml_fst _ _ _ _ _ _) (ff_nil)) (ws' := [ml m cI S M]) rfl ?_
  refine G.b_ne X dX7_turn_5 (fun b5 => absurd (Eq.trans (Eq.symm hp) b5) (by decide)) (fun b5 => ?_)
  refine G.pu X dX7_turn_8 ?_
  refine G.go X dX7_turn_9 ?_
  refine G.is X dX7_turn_33 (by decide) (lv' := [(4, .int (-1)), (0, .ref (m 0)), (1, .int p), (2, .int kd), (3, .int v)]) rfl ?_
  refine G.il X dX7_turn_35 0 rfl ?_
  refine G.z_eq X (a := (-1)) dX7_turn_37 (fun b37 => absurd b37 (by decide)) (fun b37 => ?_)
  refine G.al X dX7_turn_40 1 rfl ?_
  refine G.il X dX7_turn_41 0 rfl ?_
  refine G.cvi X kX7_no lX7_74 dX7_turn_43 (tX7_no l D cI cW m S M 1 (by omega) (by omega)) ⟨Nat.le_of_ble_eq_true rfl, Nat.le_of_ble_eq_true rfl⟩ ⟨Nat.zero_le _, Nat.zero_le _⟩ [0] rfl ⟨rfl, rfl⟩ rfl rfl 0 0 rfl rfl rfl rfl (Nat.le_of_ble_eq_true rfl) (ff_cons (ml_fst _ _ _ _ _ _) (ff_nil)) (ws' := [ml m cI S (m_no M 1)]) rfl ?_
  exact G.iret X Rr (v := (-(nI 1))) dX7_turn_46 (pi_mk (by rfl) (by rfl))

set_option maxRecDepth 20000 in
theorem tX7_turn_oth (l : Launch) (D : va_G) (cI cW : ClassId) (m : Nat → Nat) (S : WS) (M : MS) (p : Nat) (kd : Int32) (v : Int32) (hS : Ok S) (hp : p < s_th S) (hk : z_in kd 6 = false) : CT l D cI cW yX7_turn cX7_turn 6 (some .int) ⟨1, 0, 0, 22⟩ [.ref (m 0), .int (nI p), .int kd, .int v] ([ml m cI S M]) (PI (-2) ([ml m cI S (m_no M 2)])) := by
  refine CT.of RX7 rfl (by decide +kernel) (Nat.le_of_ble_eq_true rfl) [(0, .ref (m 0)), (1, .int (nI p)), (2, .int kd), (3, .int v)] rfl (fun x X Rr hnm => ?_)
  have hth := hS.th
  have hpe := hS.pe
  refine G.al X dX7_turn_0 0 rfl ?_
  refine G.il X dX7_turn_1 1 rfl ?_
  refine G.cvi X kX7_isThing lX7_126 dX7_turn_2 (tX7_isThing l D cI cW m S M (nI p)) ⟨Nat.le_of_ble_eq_true rfl, Nat.le_of_ble_eq_true rfl⟩ ⟨Nat.zero_le _, Nat.zero_le _⟩ [0] rfl ⟨rfl, rfl⟩ rfl rfl 0 0 rfl rfl rfl rfl (Nat.le_of_ble_eq_true rfl) (ff_cons (ml_fst _ _ _ _ _ _) (ff_nil)) (ws' := [ml m cI S M]) rfl ?_
  refine G.b_ne X dX7_turn_5 (fun b5 => ?_) (fun b5 => absurd (Eq.trans (Eq.symm (z_in_nI hp (by omega))) b5) (by decide))
  refine G.il X dX7_turn_12 2 rfl ?_
  refine G.pu X dX7_turn_13 ?_
  refine G.pu X dX7_turn_14 ?_
  refine G.csti X kX7_isIn lX7_85 dX7_turn_15 (tX7_isIn_no l D cI cW kd 0 5 (zbt_no (n := 5) hk (by decide))) ⟨Nat.le_of_ble_eq_true rfl, Nat.le_of_ble_eq_true rfl⟩ ⟨Nat.zero_le _, Nat.zero_le _⟩ [] rfl ⟨rfl, rfl⟩ rfl rfl rfl (Nat.le_of_ble_eq_true rfl) (ff_nil) (ws' := [ml m cI S M]) rfl ?_
  refine G.b_ne X dX7_turn_18 (fun b18 => absurd b18 (by decide)) (fun b18 => ?_)
  refine G.pu X dX7_turn_21 ?_
  refine G.go X dX7_turn_23 ?_
  refine G.is X dX7_turn_33 (by decide) (lv' := [(4, .int (-2)), (0, .ref (m 0)), (1, .int (nI p)), (2, .int kd), (3, .int v)]) rfl ?_
  refine G.il X dX7_turn_35 0 rfl ?_
  refine G.z_eq X (a := (-2)) dX7_turn_37 (fun b37 => absurd b37 (by decide)) (fun b37 => ?_)
  refine G.al X dX7_turn_40 1 rfl ?_
  refine G.il X dX7_turn_41 0 rfl ?_
  refine G.cvi X kX7_no lX7_74 dX7_turn_43 (tX7_no l D cI cW m S M 2 (by omega) (by omega)) ⟨Nat.le_of_ble_eq_true rfl, Nat.le_of_ble_eq_true rfl⟩ ⟨Nat.zero_le _, Nat.zero_le _⟩ [0] rfl ⟨rfl, rfl⟩ rfl rfl 0 0 rfl rfl rfl rfl (Nat.le_of_ble_eq_true rfl) (ff_cons (ml_fst _ _ _ _ _ _) (ff_nil)) (ws' := [ml m cI S (m_no M 2)]) rfl ?_
  exact G.iret X Rr (v := (-(nI 2))) dX7_turn_46 (pi_mk (by rfl) (by rfl))

set_option maxRecDepth 20000 in
theorem tX7_turn_lo (l : Launch) (D : va_G) (cI cW : ClassId) (m : Nat → Nat) (S : WS) (M : MS) (p : Nat) (kd : Nat) (v : Int32) (hS : Ok S) (hp : p < s_th S) (hk : kd < 6) (h1 : v < 0) : CT l D cI cW yX7_turn cX7_turn 6 (some .int) ⟨1, 0, 0, 22⟩ [.ref (m 0), .int (nI p), .int (nI kd), .int v] ([ml m cI S M]) (PI (-4) ([ml m cI S (m_no M 4)])) := by
  refine CT.of RX7 rfl (by decide +kernel) (Nat.le_of_ble_eq_true rfl) [(0, .ref (m 0)), (1, .int (nI p)), (2, .int (nI kd)), (3, .int v)] rfl (fun x X Rr hnm => ?_)
  have hth := hS.th
  have hpe := hS.pe
  refine G.al X dX7_turn_0 0 rfl ?_
  refine G.il X dX7_turn_1 1 rfl ?_
  refine G.cvi X kX7_isThing lX7_126 dX7_turn_2 (tX7_isThing l D cI cW m S M (nI p)) ⟨Nat.le_of_ble_eq_true rfl, Nat.le_of_ble_eq_true rfl⟩ ⟨Nat.zero_le _, Nat.zero_le _⟩ [0] rfl ⟨rfl, rfl⟩ rfl rfl 0 0 rfl rfl rfl rfl (Nat.le_of_ble_eq_true rfl) (ff_cons (ml_fst _ _ _ _ _ _) (ff_nil)) (ws' := [ml m cI S M]) rfl ?_
  refine G.b_ne X dX7_turn_5 (fun b5 => ?_) (fun b5 => absurd (Eq.trans (Eq.symm (z_in_nI hp (by omega))) b5) (by decide))
  refine G.il X dX7_turn_12 2 rfl ?_
  refine G.pu X dX7_turn_13 ?_
  refine G.pu X dX7_turn_14 ?_
  refine G.csti X kX7_isIn lX7_85 dX7_turn_15 (tX7_isIn_yes l D cI cW kd 0 5 (by omega) (by omega) (by omega)) ⟨Nat.le_of_ble_eq_true rfl, Nat.le_of_ble_eq_true rfl⟩ ⟨Nat.zero_le _, Nat.zero_le _⟩ [] rfl ⟨rfl, rfl⟩ rfl rfl rfl (Nat.le_of_ble_eq_true rfl) (ff_nil) (ws' := [ml m cI S M]) rfl ?_
  refine G.b_ne X dX7_turn_18 (fun b18 => ?_) (fun b18 => absurd b18 (by decide))
  refine G.il X dX7_turn_26 3 rfl ?_
  refine G.pu X dX7_turn_27 ?_
  refine G.pu X dX7_turn_28 ?_
  refine G.csti X kX7_bound lX7_67 dX7_turn_30 (tX7_bound_lo l D cI cW v 0 9 h1) ⟨Nat.le_of_ble_eq_true rfl, Nat.le_of_ble_eq_true rfl⟩ ⟨Nat.zero_le _, Nat.zero_le _⟩ [] rfl ⟨rfl, rfl⟩ rfl rfl rfl (Nat.le_of_ble_eq_true rfl) (ff_nil) (ws' := [ml m cI S M]) rfl ?_
  refine G.is X dX7_turn_33 (by decide) (lv' := [(4, .int (-4)), (0, .ref (m 0)), (1, .int (nI p)), (2, .int (nI kd)), (3, .int v)]) rfl ?_
  refine G.il X dX7_turn_35 0 rfl ?_
  refine G.z_eq X (a := (-4)) dX7_turn_37 (fun b37 => absurd b37 (by decide)) (fun b37 => ?_)
  refine G.al X dX7_turn_40 1 rfl ?_
  refine G.il X dX7_turn_41 0 rfl ?_
  refine G.cvi X kX7_no lX7_74 dX7_turn_43 (tX7_no l D cI cW m S M 4 (by omega) (by omega)) ⟨Nat.le_of_ble_eq_true rfl, Nat.le_of_ble_eq_true rfl⟩ ⟨Nat.zero_le _, Nat.zero_le _⟩ [0] rfl ⟨rfl, rfl⟩ rfl rfl 0 0 rfl rfl rfl rfl (Nat.le_of_ble_eq_true rfl) (ff_cons (ml_fst _ _ _ _ _ _) (ff_nil)) (ws' := [ml m cI S (m_no M 4)]) rfl ?_
  exact G.iret X Rr (v := (-(nI 4))) dX7_turn_46 (pi_mk (by rfl) (by rfl))

set_option maxRecDepth 20000 in
theorem tX7_turn_hi (l : Launch) (D : va_G) (cI cW : ClassId) (m : Nat → Nat) (S : WS) (M : MS) (p : Nat) (kd : Nat) (v : Int32) (hS : Ok S) (hp : p < s_th S) (hk : kd < 6) (h1 : ¬ v < 0) (h2 : 9 < v) : CT l D cI cW yX7_turn cX7_turn 6 (some .int) ⟨1, 0, 0, 22⟩ [.ref (m 0), .int (nI p), .int (nI kd), .int v] ([ml m cI S M]) (PI (-6) ([ml m cI S (m_no M 6)])) := by
  refine CT.of RX7 rfl (by decide +kernel) (Nat.le_of_ble_eq_true rfl) [(0, .ref (m 0)), (1, .int (nI p)), (2, .int (nI kd)), (3, .int v)] rfl (fun x X Rr hnm => ?_)
  have hth := hS.th
  have hpe := hS.pe
  refine G.al X dX7_turn_0 0 rfl ?_
  refine G.il X dX7_turn_1 1 rfl ?_
  refine G.cvi X kX7_isThing lX7_126 dX7_turn_2 (tX7_isThing l D cI cW m S M (nI p)) ⟨Nat.le_of_ble_eq_true rfl, Nat.le_of_ble_eq_true rfl⟩ ⟨Nat.zero_le _, Nat.zero_le _⟩ [0] rfl ⟨rfl, rfl⟩ rfl rfl 0 0 rfl rfl rfl rfl (Nat.le_of_ble_eq_true rfl) (ff_cons (ml_fst _ _ _ _ _ _) (ff_nil)) (ws' := [ml m cI S M]) rfl ?_
  refine G.b_ne X dX7_turn_5 (fun b5 => ?_) (fun b5 => absurd (Eq.trans (Eq.symm (z_in_nI hp (by omega))) b5) (by decide))
  refine G.il X dX7_turn_12 2 rfl ?_
  refine G.pu X dX7_turn_13 ?_
  refine G.pu X dX7_turn_14 ?_
  refine G.csti X kX7_isIn lX7_85 dX7_turn_15 (tX7_isIn_yes l D cI cW kd 0 5 (by omega) (by omega) (by omega)) ⟨Nat.le_of_ble_eq_true rfl, Nat.le_of_ble_eq_true rfl⟩ ⟨Nat.zero_le _, Nat.zero_le _⟩ [] rfl ⟨rfl, rfl⟩ rfl rfl rfl (Nat.le_of_ble_eq_true rfl) (ff_nil) (ws' := [ml m cI S M]) rfl ?_
  refine G.b_ne X dX7_turn_18 (fun b18 => ?_) (fun b18 => absurd b18 (by decide))
  refine G.il X dX7_turn_26 3 rfl ?_
  refine G.pu X dX7_turn_27 ?_
  refine G.pu X dX7_turn_28 ?_
  refine G.csti X kX7_bound lX7_67 dX7_turn_30 (tX7_bound_hi l D cI cW v 0 9 h1 h2) ⟨Nat.le_of_ble_eq_true rfl, Nat.le_of_ble_eq_true rfl⟩ ⟨Nat.zero_le _, Nat.zero_le _⟩ [] rfl ⟨rfl, rfl⟩ rfl rfl rfl (Nat.le_of_ble_eq_true rfl) (ff_nil) (ws' := [ml m cI S M]) rfl ?_
  refine G.is X dX7_turn_33 (by decide) (lv' := [(4, .int (-6)), (0, .ref (m 0)), (1, .int (nI p)), (2, .int (nI kd)), (3, .int v)]) rfl ?_
  refine G.il X dX7_turn_35 0 rfl ?_
  refine G.z_eq X (a := (-6)) dX7_turn_37 (fun b37 => absurd b37 (by decide)) (fun b37 => ?_)
  refine G.al X dX7_turn_40 1 rfl ?_
  refine G.il X dX7_turn_41 0 rfl ?_
  refine G.cvi X kX7_no lX7_74 dX7_turn_43 (tX7_no l D cI cW m S M 6 (by omega) (by omega)) ⟨Nat.le_of_ble_eq_true rfl, Nat.le_of_ble_eq_true rfl⟩ ⟨Nat.zero_le _, Nat.zero_le _⟩ [0] rfl ⟨rfl, rfl⟩ rfl rfl 0 0 rfl rfl rfl rfl (Nat.le_of_ble_eq_true rfl) (ff_cons (ml_fst _ _ _ _ _ _) (ff_nil)) (ws' := [ml m cI S (m_no M 6)]) rfl ?_
  exact G.iret X Rr (v := (-(nI 6))) dX7_turn_46 (pi_mk (by rfl) (by rfl))

set_option maxRecDepth 20000 in
theorem tX7_turn_ok (l : Launch) (D : va_G) (cI cW : ClassId) (m : Nat → Nat) (S : WS) (M : MS) (p : Nat) (kd : Nat) (v : Nat) (hS : Ok S) (hp : p < s_th S) (hk : kd < 6) (hv : v ≤ 9) : CT l D cI cW yX7_turn cX7_turn 6 (some .int) ⟨1, 0, 0, 22⟩ [.ref (m 0), .int (nI p), .int (nI kd), .int (nI v)] ([ml m cI S M]) (PI (10 * s_ki S p + s_we S p) ([ml m cI (w_kw S p (nI kd) (nI v)) M])) := by
  refine CT.of RX7 rfl (by decide +kernel) (Nat.le_of_ble_eq_true rfl) [(0, .ref (m 0)), (1, .int (nI p)), (2, .int (nI kd)), (3, .int (nI v))] rfl (fun x X Rr hnm => ?_)
  have hth := hS.th
  have hpe := hS.pe
  refine G.al X dX7_turn_0 0 rfl ?_
  refine G.il X dX7_turn_1 1 rfl ?_
  refine G.cvi X kX7_isThing lX7_126 dX7_turn_2 (tX7_isThing l D cI cW m S M (nI p)) ⟨Nat.le_of_ble_eq_true rfl, Nat.le_of_ble_eq_true rfl⟩ ⟨Nat.zero_le _, Nat.zero_le _⟩ [0] rfl ⟨rfl, rfl⟩ rfl rfl 0 0 rfl rfl rfl rfl (Nat.le_of_ble_eq_true rfl) (ff_cons (ml_fst _ _ _ _ _ _) (ff_nil)) (ws' := [ml m cI S M]) rfl ?_
  refine G.b_ne X dX7_turn_5 (fun b5 => ?_) (fun b5 => absurd (Eq.trans (Eq.symm (z_in_nI hp (by omega))) b5) (by decide))
  refine G.il X dX7_turn_12 2 rfl ?_
  refine G.pu X dX7_turn_13 ?_
  refine G.pu X dX7_turn_14 ?_
  refine G.csti X kX7_isIn lX7_85 dX7_turn_15 (tX7_isIn_yes l D cI cW kd 0 5 (by omega) (by omega) (by omega)) ⟨Nat.le_of_ble_eq_true rfl, Nat.le_of_ble_eq_true rfl⟩ ⟨Nat.zero_le _, Nat.zero_le _⟩ [] rfl ⟨rfl, rfl⟩ rfl rfl rfl (Nat.le_of_ble_eq_true rfl) (ff_nil) (ws' := [ml m cI S M]) rfl ?_
  refine G.b_ne X dX7_turn_18 (fun b18 => ?_) (fun b18 => absurd b18 (by decide))
  refine G.il X dX7_turn_26 3 rfl ?_
  refine G.pu X dX7_turn_27 ?_
  refine G.pu X dX7_turn_28 ?_
  refine G.csti X kX7_bound lX7_67 dX7_turn_30 (tX7_bound_ok l D cI cW v 0 9 (by omega) hv (by omega)) ⟨Nat.le_of_ble_eq_true rfl, Nat.le_of_ble_eq_true rfl⟩ ⟨Nat.zero_le _, Nat.zero_le _⟩ [] rfl ⟨rfl, rfl⟩ rfl rfl rfl (Nat.le_of_ble_eq_true rfl) (ff_nil) (ws' := [ml m cI S M]) rfl ?_
  refine G.is X dX7_turn_33 (by decide) (lv' := [(4, .int 0), (0, .ref (m 0)), (1, .int (nI p)), (2, .int (nI kd)), (3, .int (nI v))]) rfl ?_
  refine G.il X dX7_turn_35 0 rfl ?_
  refine G.z_eq X (a := 0) dX7_turn_37 (fun b37 => ?_) (fun b37 => absurd b37 (by decide))
  refine G.pu X dX7_turn_47 ?_
  refine G.al X dX7_turn_49 1 rfl ?_
  refine G.get X fX7_22 dX7_turn_50 0 0 rfl rfl rfl ?_
  refine G.il X dX7_turn_53 2 rfl ?_
  refine G.nld X (i := p) dX7_turn_54 0 5 rfl rfl (by omega) (by decide) ?_
  refine G.imul X dX7_turn_55 ?_
  refine G.al X dX7_turn_56 1 rfl ?_
  refine G.get X fX7_25 dX7_turn_57 0 0 rfl rfl rfl ?_
  refine G.il X dX7_turn_60 2 rfl ?_
  refine G.nld X (i := p) dX7_turn_61 0 6 rfl rfl (by omega) (by decide) ?_
  refine G.iadd X dX7_turn_62 ?_
  refine G.is X dX7_turn_63 (by decide) (lv' := [(5, .int ((10 * ((s_ki S) p)) + ((s_we S) p))), (4, .int 0), (0, .ref (m 0)), (1, .int (nI p)), (2, .int (nI kd)), (3, .int (nI v))]) rfl ?_
  refine G.al X dX7_turn_65 2 rfl ?_
  refine G.get X fX7_22 dX7_turn_66 0 0 rfl rfl rfl ?_
  refine G.il X dX7_turn_69 3 rfl ?_
  refine G.il X dX7_turn_70 4 rfl ?_
  refine G.nst X (i := p) dX7_turn_71 0 5 rfl rfl (by omega) (by decide) (blk' := ml m cI (s_pe S, s_th S, s_da S, s_dr S, s_kn S, s_sh S, s_an S, upd (s_ki S) p (nI kd), s_we S, s_dp S, s_wa S, s_le S) M) rfl (ws' := [ml m cI (s_pe S, s_th S, s_da S, s_dr S, s_kn S, s_sh S, s_an S, upd (s_ki S) p (nI kd), s_we S, s_dp S, s_wa S, s_le S) M]) rfl ?_
  refine G.al X dX7_turn_72 2 rfl ?_
  refine G.get X fX7_25 dX7_turn_73 0 0 rfl rfl rfl ?_
  refine G.il X dX7_turn_76 3 rfl ?_
  refine G.il X dX7_turn_77 5 rfl ?_
  refine G.nst X (i := p) dX7_turn_78 0 6 rfl rfl (by omega) (by decide) (blk' := ml m cI (s_pe S, s_th S, s_da S, s_dr S, s_kn S, s_sh S, s_an S, upd (s_ki S) p (nI kd), upd (s_we S) p (nI v), s_dp S, s_wa S, s_le S) M) rfl (ws' := [ml m cI (s_pe S, s_th S, s_da S, s_dr S, s_kn S, s_sh S, s_an S, upd (s_ki S) p (nI kd), upd (s_we S) p (nI v), s_dp S, s_wa S, s_le S) M]) rfl ?_
  refine G.il X dX7_turn_79 0 rfl ?_
  exact G.iret X Rr (v := ((10 * ((s_ki S) p)) + ((s_we S) p))) dX7_turn_81 (pi_mk (by rfl) (by rfl))

set_option maxRecDepth 20000 in
theorem tX7_answers_bad (l : Launch) (D : va_G) (cI cW : ClassId) (m : Nat → Nat) (S : WS) (M : MS) (p : Int32) (hS : Ok S) (hp : z_in p (s_th S) = false) : CT l D cI cW yX7_answers cX7_answers 3 (some .int) ⟨1, 0, 0, 21⟩ [.ref (m 0), .int p] ([ml m cI S M]) (PI (-1) ([ml m cI S (m_no M 1)])) := by
  refine CT.of RX7 rfl (by decide +kernel) (Nat.le_of_ble_eq_true rfl) [(0, .ref (m 0)), (1, .int p)] rfl (fun x X Rr hnm => ?_)
  have hth := hS.th
  have hpe := hS.pe
  refine G.al X dX7_answers_0 0 rfl ?_
  refine G.il X dX7_answers_1 1 rfl ?_
  refine G.cvi X kX7_isThing lX7_126 dX7_answers_2 (tX7_isThing l D cI cW m S M p) ⟨Nat.le_of_ble_eq_true rfl, Nat.le_of_ble_eq_true rfl⟩ ⟨Nat.zero_le _, Nat.zero_le _⟩ [0] rfl ⟨rfl, rfl⟩ rfl rfl 0 0 rfl rfl rfl rfl (Nat.le_of_ble_eq_true rfl) (ff_cons (ml_fst _ _ _ _ _ _) (ff_nil)) (ws' := [ml m cI S M]) rfl ?_
  refine G.b_ne X dX7_answers_5 (fun b5 => absurd (Eq.trans (Eq.symm hp) b5) (by decide)) (fun b5 => ?_)
  refine G.pu X dX7_answers_8 ?_
  refine G.go X dX7_answers_9 ?_
  refine G.is X dX7_answers_34 (by decide) (lv' := [(2, .int (-1)), (0, .ref (m 0)), (1, .int p)]) rfl ?_
  refine G.il X dX7_answers_35 0 rfl ?_
  refine G.z_eq X (a := (-1)) dX7_answers_36 (fun b36 => absurd b36 (by decide)) (fun b36 => ?_)
  refine G.al X dX7_answers_39 1 rfl ?_
  refine G.il X dX7_answers_40 0 rfl ?_
  refine G.cvi X kX7_no lX7_74 dX7_answers_41 (tX7_no l D cI cW m S M 1 (by omega) (by omega)) ⟨Nat.le_of_ble_eq_true rfl, Nat.le_of_ble_eq_true rfl⟩ ⟨Nat.zero_le _, Nat.zero_le _⟩ [0] rfl ⟨rfl, rfl⟩ rfl rfl 0 0 rfl rfl rfl rfl (Nat.le_of_ble_eq_true rfl) (ff_cons (ml_fst _ _ _ _ _ _) (ff_nil)) (ws' := [ml m cI S (m_no M 1)]) rfl ?_
  exact G.iret X Rr (v := (-(nI 1))) dX7_answers_44 (pi_mk (by rfl) (by rfl))

set_option maxRecDepth 20000 in
theorem tX7_answers_no (l : Launch) (D : va_G) (cI cW : ClassId) (m : Nat → Nat) (S : WS) (M : MS) (p : Nat) (hS : Ok S) (hp : p < s_th S) (ha : (ask S p && w_kno S p) = false) : CT l D cI cW yX7_answers cX7_answers 3 (some .int) ⟨2, 0, 0, 43⟩ [.ref (m 0), .int (nI p)] ([ml m cI S M]) (PI (-3) ([ml m cI S (m_no M 3)])) := by
  refine CT.of RX7 rfl (by decide +kernel) (Nat.le_of_ble_eq_true rfl) [(0, .ref (m 0)), (1, .int (nI p))] rfl (fun x X Rr hnm => ?_)
  have hth := hS.th
  have hpe := hS.pe
  refine G.al X dX7_answers_0 0 rfl ?_
  refine G.il X dX7_answers_1 1 rfl ?_
  refine G.cvi X kX7_isThing lX7_126 dX7_answers_2 (tX7_isThing l D cI cW m S M (nI p)) ⟨Nat.le_of_ble_eq_true rfl, Nat.le_of_ble_eq_true rfl⟩ ⟨Nat.zero_le _, Nat.zero_le _⟩ [0] rfl ⟨rfl, rfl⟩ rfl rfl 0 0 rfl rfl rfl rfl (Nat.le_of_ble_eq_true rfl) (ff_cons (ml_fst _ _ _ _ _ _) (ff_nil)) (ws' := [ml m cI S M]) rfl ?_
  refine G.b_ne X dX7_answers_5 (fun b5 => ?_) (fun b5 => absurd (Eq.trans (Eq.symm (z_in_nI hp (by omega))) b5) (by decide))
  refine G.al X dX7_answers_12 0 rfl ?_
  refine G.il X dX7_answers_13 1 rfl ?_
  refine G.cvi X kX7_isAsking lX7_181 dX7_answers_14 (tX7_isAsking l D cI cW m S M p (by omega)) ⟨Nat.le_of_ble_eq_true rfl, Nat.le_of_ble_eq_true rfl⟩ ⟨Nat.zero_le _, Nat.zero_le _⟩ [0] rfl ⟨rfl, rfl⟩ rfl rfl 0 0 rfl rfl rfl rfl (Nat.le_of_ble_eq_true rfl) (ff_cons (ml_fst _ _ _ _ _ _) (ff_nil)) (ws' := [ml m cI S M]) rfl ?_
  refine G.b_eq X dX7_answers_17 (fun b17 => ?_) (fun b17 => ?_)
  · refine G.pu X dX7_answers_28 ?_
    refine G.go X dX7_answers_30 ?_
    refine G.is X dX7_answers_34 (by decide) (lv' := [(2, .int (-3)), (0, .ref (m 0)), (1, .int (nI p))]) rfl ?_
    refine G.il X dX7_answers_35 0 rfl ?_
    refine G.z_eq X (a := (-3)) dX7_answers_36 (fun b36 => absurd b36 (by decide)) (fun b36 => ?_)
    refine G.al X dX7_answers_39 1 rfl ?_
    refine G.il X dX7_answers_40 0 rfl ?_
    refine G.cvi X kX7_no lX7_74 dX7_answers_41 (tX7_no l D cI cW m S M 3 (by omega) (by omega)) ⟨Nat.le_of_ble_eq_true rfl, Nat.le_of_ble_eq_true rfl⟩ ⟨Nat.zero_le _, Nat.zero_le _⟩ [0] rfl ⟨rfl, rfl⟩ rfl rfl 0 0 rfl rfl rfl rfl (Nat.le_of_ble_eq_true rfl) (ff_cons (ml_fst _ _ _ _ _ _) (ff_nil)) (ws' := [ml m cI S (m_no M 3)]) rfl ?_
    exact G.iret X Rr (v := (-(nI 3))) dX7_answers_44 (pi_mk (by rfl) (by rfl))
  · refine G.al X dX7_answers_20 0 rfl ?_
    refine G.il X dX7_answers_21 1 rfl ?_
    refine G.cvi X kX7_isKnown lX7_190 dX7_answers_22 (tX7_isKnown l D cI cW m S M p hS hp) ⟨Nat.le_of_ble_eq_true rfl, Nat.le_of_ble_eq_true rfl⟩ ⟨Nat.zero_le _, Nat.zero_le _⟩ [0] rfl ⟨rfl, rfl⟩ rfl rfl 0 0 rfl rfl rfl rfl (Nat.le_of_ble_eq_true rfl) (ff_cons (ml_fst _ _ _ _ _ _) (ff_nil)) (ws' := [ml m cI S M]) rfl ?_
    refine G.b_ne X dX7_answers_25 (fun b25 => absurd b25 ((by rw [b17] at ha; simp at ha; simp [ha]))) (fun b25 => ?_)
    refine G.pu X dX7_answers_28 ?_
    refine G.go X dX7_answers_30 ?_
    refine G.is X dX7_answers_34 (by decide) (lv' := [(2, .int (-3)), (0, .ref (m 0)), (1, .int (nI p))]) rfl ?_
    refine G.il X dX7_answers_35 0 rfl ?_
    refine G.z_eq X (a := (-3)) dX7_answers_36 (fun b36 => absurd b36 (by decide)) (fun b36 => ?_)
    refine G.al X dX7_answers_39 1 rfl ?_
    refine G.il X dX7_answers_40 0 rfl ?_
    refine G.cvi X kX7_no lX7_74 dX7_answers_41 (tX7_no l D cI cW m S M 3 (by omega) (by omega)) ⟨Nat.le_of_ble_eq_true rfl, Nat.le_of_ble_eq_true rfl⟩ ⟨Nat.zero_le _, Nat.zero_le _⟩ [0] rfl ⟨rfl, rfl⟩ rfl rfl 0 0 rfl rfl rfl rfl (Nat.le_of_ble_eq_true rfl) (ff_cons (ml_fst _ _ _ _ _ _) (ff_nil)) (ws' := [ml m cI S (m_no M 3)]) rfl ?_
    exact G.iret X Rr (v := (-(nI 3))) dX7_answers_44 (pi_mk (by rfl) (by rfl))

set_option maxRecDepth 20000 in
theorem tX7_answers_ok (l : Launch) (D : va_G) (cI cW : ClassId) (m : Nat → Nat) (S : WS) (M : MS) (p : Nat) (hS : Ok S) (hp : p < s_th S) (ha : ask S p = true) (hb : w_kno S p = true) : CT l D cI cW yX7_answers cX7_answers 3 (some .int) ⟨2, 0, 0, 43⟩ [.ref (m 0), .int (nI p)] ([ml m cI S M]) (PI (s_le (w_ans1 S p) p) ([ml m cI (w_ans1 S p) M])) := by
  refine CT.of RX7 rfl (by decide +kernel) (Nat.le_of_ble_eq_true rfl) [(0, .ref (m 0)), (1, .int (nI p))] rfl (fun x X Rr hnm => ?_)
  have hth := hS.th
  have hpe := hS.pe
  refine G.al X dX7_answers_0 0 rfl ?_
  refine G.il X dX7_answers_1 1 rfl ?_
  refine G.cvi X kX7_isThing lX7_126 dX7_answers_2 (tX7_isThing l D cI cW m S M (nI p)) ⟨Nat.le_of_ble_eq_true rfl, Nat.le_of_ble_eq_true rfl⟩ ⟨Nat.zero_le _, Nat.zero_le _⟩ [0] rfl ⟨rfl, rfl⟩ rfl rfl 0 0 rfl rfl rfl rfl (Nat.le_of_ble_eq_true rfl) (ff_cons (ml_fst _ _ _ _ _ _) (ff_nil)) (ws' := [ml m cI S M]) rfl ?_
  refine G.b_ne X dX7_answers_5 (fun b5 => ?_) (fun b5 => absurd (Eq.trans (Eq.symm (z_in_nI hp (by omega))) b5) (by decide))
  refine G.al X dX7_answers_12 0 rfl ?_
  refine G.il X dX7_answers_13 1 rfl ?_
  refine G.cvi X kX7_isAsking lX7_181 dX7_answers_14 (tX7_isAsking l D cI cW m S M p (by omega)) ⟨Nat.le_of_ble_eq_true rfl, Nat.le_of_ble_eq_true rfl⟩ ⟨Nat.zero_le _, Nat.zero_le _⟩ [0] rfl ⟨rfl, rfl⟩ rfl rfl 0 0 rfl rfl rfl rfl (Nat.le_of_ble_eq_true rfl) (ff_cons (ml_fst _ _ _ _ _ _) (ff_nil)) (ws' := [ml m cI S M]) rfl ?_
  refine G.b_eq X dX7_answers_17 (fun b17 => absurd (Eq.trans (Eq.symm ha) b17) (by decide)) (fun b17 => ?_)
  refine G.al X dX7_answers_20 0 rfl ?_
  refine G.il X dX7_answers_21 1 rfl ?_
  refine G.cvi X kX7_isKnown lX7_190 dX7_answers_22 (tX7_isKnown l D cI cW m S M p hS hp) ⟨Nat.le_of_ble_eq_true rfl, Nat.le_of_ble_eq_true rfl⟩ ⟨Nat.zero_le _, Nat.zero_le _⟩ [0] rfl ⟨rfl, rfl⟩ rfl rfl 0 0 rfl rfl rfl rfl (Nat.le_of_ble_eq_true rfl) (ff_cons (ml_fst _ _ _ _ _ _) (ff_nil)) (ws' := [ml m cI S M]) rfl ?_
  refine G.b_ne X dX7_answers_25 (fun b25 => ?_) (fun b25 => absurd (Eq.trans (Eq.symm hb) b25) (by decide))
  refine G.pu X dX7_answers_33 ?_
  refine G.is X dX7_answers_34 (by decide) (lv' := [(2, .int 0), (0, .ref (m 0)), (1, .int (nI p))]) rfl ?_
  refine G.il X dX7_answers_35 0 rfl ?_
  refine G.z_eq X (a := 0) dX7_answers_36 (fun b36 => ?_) (fun b36 => absurd b36 (by decide))
  refine G.al X dX7_answers_45 1 rfl ?_
  refine G.il X dX7_answers_46 2 rfl ?_
  refine G.cvv X kX7_answersOne lX7_193 dX7_answers_47 (tX7_answersOne l D cI cW m S M p hS hp) ⟨Nat.le_of_ble_eq_true rfl, Nat.le_of_ble_eq_true rfl⟩ ⟨Nat.zero_le _, Nat.zero_le _⟩ [0] rfl ⟨rfl, rfl⟩ rfl rfl 0 0 rfl rfl rfl rfl (Nat.le_of_ble_eq_true rfl) (ff_cons (ml_fst _ _ _ _ _ _) (ff_nil)) (ws' := [ml m cI (w_ans1 S p) M]) rfl ?_
  refine G.al X dX7_answers_50 1 rfl ?_
  refine G.get X fX7_34 dX7_answers_51 0 0 rfl rfl rfl ?_
  refine G.il X dX7_answers_54 2 rfl ?_
  refine G.nld X (i := p) dX7_answers_55 0 9 rfl rfl (by omega) (by decide) ?_
  exact G.iret X Rr (v := ((s_le (w_ans1 S p)) p)) dX7_answers_56 (pi_mk (by rfl) (by rfl))

set_option maxRecDepth 20000 in
theorem tX7_days_lo (l : Launch) (D : va_G) (cI cW : ClassId) (m : Nat → Nat) (S : WS) (M : MS) (n : Int32) (hS : Ok S) (h1 : n < 1) : CT l D cI cW yX7_days cX7_days 3 (some .int) ⟨1, 0, 0, 22⟩ [.ref (m 0), .int n] ([ml m cI S M]) (PI (-4) ([ml m cI S (m_no M 4)])) := by
  refine CT.of RX7 rfl (by decide +kernel) (Nat.le_of_ble_eq_true rfl) [(0, .ref (m 0)), (1, .int n)] rfl (fun x X Rr hnm => ?_)
  have hth := hS.th
  have hpe := hS.pe
  refine G.il X dX7_days_0 1 rfl ?_
  refine G.pu X dX7_days_1 ?_
  refine G.pu X dX7_days_2 ?_
  refine G.csti X kX7_bound lX7_67 dX7_days_4 (tX7_bound_lo l D cI cW n 1 60 h1) ⟨Nat.le_of_ble_eq_true rfl, Nat.le_of_ble_eq_true rfl⟩ ⟨Nat.zero_le _, Nat.zero_le _⟩ [] rfl ⟨rfl, rfl⟩ rfl rfl rfl (Nat.le_of_ble_eq_true rfl) (ff_nil) (ws' := [ml m cI S M]) rfl ?_
  refine G.is X dX7_days_7 (by decide) (lv' := [(2, .int (-4)), (0, .ref (m 0)), (1, .int n)]) rfl ?_
  refine G.il X dX7_days_8 0 rfl ?_
  refine G.z_ne X (a := (-4)) dX7_days_9 (fun b9 => ?_) (fun b9 => absurd b9 (by decide))
  refine G.il X dX7_days_27 0 rfl ?_
  refine G.z_eq X (a := (-4)) dX7_days_28 (fun b28 => absurd b28 (by decide)) (fun b28 => ?_)
  refine G.al X dX7_days_31 1 rfl ?_
  refine G.il X dX7_days_32 0 rfl ?_
  refine G.cvi X kX7_no lX7_74 dX7_days_33 (tX7_no l D cI cW m S M 4 (by omega) (by omega)) ⟨Nat.le_of_ble_eq_true rfl, Nat.le_of_ble_eq_true rfl⟩ ⟨Nat.zero_le _, Nat.zero_le _⟩ [0] rfl ⟨rfl, rfl⟩ rfl rfl 0 0 rfl rfl rfl rfl (Nat.le_of_ble_eq_true rfl) (ff_cons (ml_fst _ _ _ _ _ _) (ff_nil)) (ws' := [ml m cI S (m_no M 4)]) rfl ?_
  exact G.iret X Rr (v := (-(nI 4))) dX7_days_36 (pi_mk (by rfl) (by rfl))

set_option maxRecDepth 20000 in
theorem tX7_days_hi (l : Launch) (D : va_G) (cI cW : ClassId) (m : Nat → Nat) (S : WS) (M : MS) (n : Int32) (hS : Ok S) (h1 : ¬ n < 1) (h2 : 60 < n) : CT l D cI cW yX7_days cX7_days 3 (some .int) ⟨1, 0, 0, 22⟩ [.ref (m 0), .int n] ([ml m cI S M]) (PI (-6) ([ml m cI S (m_no M 6)])) := by
  refine CT.of RX7 rfl (by decide +kernel) (Nat.le_of_ble_eq_true rfl) [(0, .ref (m 0)), (1, .int n)] rfl (fun x X Rr hnm => ?_)
  have hth := hS.th
  have hpe := hS.pe
  refine G.il X dX7_days_0 1 rfl ?_
  refine G.pu X dX7_days_1 ?_
  refine G.pu X dX7_days_2 ?_
  refine G.csti X kX7_bound lX7_67 dX7_days_4 (tX7_bound_hi l D cI cW n 1 60 h1 h2) ⟨Nat.le_of_ble_eq_true rfl, Nat.le_of_ble_eq_true rfl⟩ ⟨Nat.zero_le _, Nat.zero_le _⟩ [] rfl ⟨rfl, rfl⟩ rfl rfl rfl (Nat.le_of_ble_eq_true rfl) (ff_nil) (ws' := [ml m cI S M]) rfl ?_
  refine G.is X dX7_days_7 (by decide) (lv' := [(2, .int (-6)), (0, .ref (m 0)), (1, .int n)]) rfl ?_
  refine G.il X dX7_days_8 0 rfl ?_
  refine G.z_ne X (a := (-6)) dX7_days_9 (fun b9 => ?_) (fun b9 => absurd b9 (by decide))
  refine G.il X dX7_days_27 0 rfl ?_
  refine G.z_eq X (a := (-6)) dX7_days_28 (fun b28 => absurd b28 (by decide)) (fun b28 => ?_)
  refine G.al X dX7_days_31 1 rfl ?_
  refine G.il X dX7_days_32 0 rfl ?_
  refine G.cvi X kX7_no lX7_74 dX7_days_33 (tX7_no l D cI cW m S M 6 (by omega) (by omega)) ⟨Nat.le_of_ble_eq_true rfl, Nat.le_of_ble_eq_true rfl⟩ ⟨Nat.zero_le _, Nat.zero_le _⟩ [0] rfl ⟨rfl, rfl⟩ rfl rfl 0 0 rfl rfl rfl rfl (Nat.le_of_ble_eq_true rfl) (ff_cons (ml_fst _ _ _ _ _ _) (ff_nil)) (ws' := [ml m cI S (m_no M 6)]) rfl ?_
  exact G.iret X Rr (v := (-(nI 6))) dX7_days_36 (pi_mk (by rfl) (by rfl))

set_option maxRecDepth 20000 in
theorem tX7_days_hi2 (l : Launch) (D : va_G) (cI cW : ClassId) (m : Nat → Nat) (S : WS) (M : MS) (n : Nat) (hS : Ok S) (h1 : 1 ≤ n) (h2 : n ≤ 60) (h3 : 999 < s_da S + nI n) : CT l D cI cW yX7_days cX7_days 3 (some .int) ⟨1, 0, 0, 22⟩ [.ref (m 0), .int (nI n)] ([ml m cI S M]) (PI (-6) ([ml m cI S (m_no M 6)])) := by
  refine CT.of RX7 rfl (by decide +kernel) (Nat.le_of_ble_eq_true rfl) [(0, .ref (m 0)), (1, .int (nI n))] rfl (fun x X Rr hnm => ?_)
  have hth := hS.th
  have hpe := hS.pe
  refine G.il X dX7_days_0 1 rfl ?_
  refine G.pu X dX7_days_1 ?_
  refine G.pu X dX7_days_2 ?_
  refine G.csti X kX7_bound lX7_67 dX7_days_4 (tX7_bound_ok l D cI cW n 1 60 h1 h2 (by omega)) ⟨Nat.le_of_ble_eq_true rfl, Nat.le_of_ble_eq_true rfl⟩ ⟨Nat.zero_le _, Nat.zero_le _⟩ [] rfl ⟨rfl, rfl⟩ rfl rfl rfl (Nat.le_of_ble_eq_true rfl) (ff_nil) (ws' := [ml m cI S M]) rfl ?_
  refine G.is X dX7_days_7 (by decide) (lv' := [(2, .int 0), (0, .ref (m 0)), (1, .int (nI n))]) rfl ?_
  refine G.il X dX7_days_8 0 rfl ?_
  refine G.z_ne X (a := 0) dX7_days_9 (fun b9 => absurd b9 (by decide)) (fun b9 => ?_)
  refine G.al X dX7_days_12 1 rfl ?_
  refine G.get X fX7_113 dX7_days_13 0 0 rfl rfl rfl ?_
  refine G.il X dX7_days_16 2 rfl ?_
  refine G.iadd X dX7_days_17 ?_
  refine G.pu X dX7_days_18 ?_
  refine G.c_le X (a := ((s_da S) + (nI n))) (b := 999) dX7_days_21 (fun b21 => absurd b21 ((fun h => h h3))) (fun b21 => ?_)
  refine G.pu X dX7_days_24 ?_
  refine G.is X dX7_days_26 (by decide) (lv' := [(2, .int (-6)), (0, .ref (m 0)), (1, .int (nI n))]) rfl ?_
  refine G.il X dX7_days_27 0 rfl ?_
  refine G.z_eq X (a := (-6)) dX7_days_28 (fun b28 => absurd b28 (by decide)) (fun b28 => ?_)
  refine G.al X dX7_days_31 1 rfl ?_
  refine G.il X dX7_days_32 0 rfl ?_
  refine G.cvi X kX7_no lX7_74 dX7_days_33 (tX7_no l D cI cW m S M 6 (by omega) (by omega)) ⟨Nat.le_of_ble_eq_true rfl, Nat.le_of_ble_eq_true rfl⟩ ⟨Nat.zero_le _, Nat.zero_le _⟩ [0] rfl ⟨rfl, rfl⟩ rfl rfl 0 0 rfl rfl rfl rfl (Nat.le_of_ble_eq_true rfl) (ff_cons (ml_fst _ _ _ _ _ _) (ff_nil)) (ws' := [ml m cI S (m_no M 6)]) rfl ?_
  exact G.iret X Rr (v := (-(nI 6))) dX7_days_36 (pi_mk (by rfl) (by rfl))

set_option maxRecDepth 20000 in
theorem tX7_days_ok (l : Launch) (D : va_G) (cI cW : ClassId) (m : Nat → Nat) (S : WS) (M : MS) (n : Nat) (hS : Ok S) (hco : m_co M = false) (h1 : 1 ≤ n) (h2 : n ≤ 60) (h3 : ¬ 999 < s_da S + nI n) : CT l D cI cW yX7_days cX7_days 3 (some .int) ⟨5, 0, 0, 108⟩ [.ref (m 0), .int (nI n)] ([ml m cI S M]) (PI (b2i (w_wat (w_dayN S n))) ([ml m cI (w_dayN S n) M])) := by
  refine CT.of RX7 rfl (by decide +kernel) (Nat.le_of_ble_eq_true rfl) [(0, .ref (m 0)), (1, .int (nI n))] rfl (fun x X Rr hnm => ?_)
  have hth := hS.th
  have hpe := hS.pe
  refine G.il X dX7_days_0 1 rfl ?_
  refine G.pu X dX7_days_1 ?_
  refine G.pu X dX7_days_2 ?_
  refine G.csti X kX7_bound lX7_67 dX7_days_4 (tX7_bound_ok l D cI cW n 1 60 h1 h2 (by omega)) ⟨Nat.le_of_ble_eq_true rfl, Nat.le_of_ble_eq_true rfl⟩ ⟨Nat.zero_le _, Nat.zero_le _⟩ [] rfl ⟨rfl, rfl⟩ rfl rfl rfl (Nat.le_of_ble_eq_true rfl) (ff_nil) (ws' := [ml m cI S M]) rfl ?_
  refine G.is X dX7_days_7 (by decide) (lv' := [(2, .int 0), (0, .ref (m 0)), (1, .int (nI n))]) rfl ?_
  refine G.il X dX7_days_8 0 rfl ?_
  refine G.z_ne X (a := 0) dX7_days_9 (fun b9 => absurd b9 (by decide)) (fun b9 => ?_)
  refine G.al X dX7_days_12 1 rfl ?_
  refine G.get X fX7_113 dX7_days_13 0 0 rfl rfl rfl ?_
  refine G.il X dX7_days_16 2 rfl ?_
  refine G.iadd X dX7_days_17 ?_
  refine G.pu X dX7_days_18 ?_
  refine G.c_le X (a := ((s_da S) + (nI n))) (b := 999) dX7_days_21 (fun b21 => ?_) (fun b21 => absurd b21 (h3))
  refine G.il X dX7_days_27 0 rfl ?_
  refine G.z_eq X (a := 0) dX7_days_28 (fun b28 => ?_) (fun b28 => absurd b28 (by decide))
  refine G.al X dX7_days_37 1 rfl ?_
  refine G.il X dX7_days_38 2 rfl ?_
  refine G.cvv X kX7_goes lX7_116 dX7_days_39 (tX7_goes l D cI cW m S M n hS hco (by omega)) ⟨Nat.le_of_ble_eq_true rfl, Nat.le_of_ble_eq_true rfl⟩ ⟨Nat.zero_le _, Nat.zero_le _⟩ [0] rfl ⟨rfl, rfl⟩ rfl rfl 0 0 rfl rfl rfl rfl (Nat.le_of_ble_eq_true rfl) (ff_cons (ml_fst _ _ _ _ _ _) (ff_nil)) (ws' := [ml m cI (w_dayN S n) M]) rfl ?_
  refine G.al X dX7_days_42 1 rfl ?_
  refine G.cvi X kX7_water lX7_205 dX7_days_43 (tX7_water l D cI cW m (w_dayN S n) M (ok_dayN hS n).th) ⟨Nat.le_of_ble_eq_true rfl, Nat.le_of_ble_eq_true rfl⟩ ⟨Nat.zero_le _, Nat.zero_le _⟩ [0] rfl ⟨rfl, rfl⟩ rfl rfl 0 0 rfl rfl rfl rfl (Nat.le_of_ble_eq_true rfl) (ff_cons (ml_fst _ _ _ _ _ _) (ff_nil)) (ws' := [ml m cI (w_dayN S n) M]) rfl ?_
  exact G.iret X Rr (v := b2i (w_wat (w_dayN S n))) dX7_days_46 (pi_mk (by rfl) (by rfl))

set_option maxRecDepth 20000 in
theorem tX7_thingThen_bad (l : Launch) (D : va_G) (cI cW : ClassId) (m : Nat → Nat) (S : WS) (M : MS) (p : Int32) (n : Int32) (w : Int32) (hS : Ok S) (hp : z_in p (s_th S) = false) : CT l D cI cW yX7_thingThen cX7_thingThen 6 (some .int) ⟨1, 0, 0, 21⟩ [.ref (m 0), .int p, .int n, .int w] ([ml m cI S M]) (PI (-1) ([ml m cI S (m_no M 1)])) := by
  refine CT.of RX7 rfl (by decide +kernel) (Nat.le_of_ble_eq_true rfl) [(0, .ref (m 0)), (1, .int p), (2, .int n), (3, .int w)] rfl (fun x X Rr hnm => ?_)
  have hth := hS.th
  have hpe := hS.pe
  refine G.al X dX7_thingThen_0 0 rfl ?_
  refine G.il X dX7_thingThen_1 1 rfl ?_
  refine G.cvi X kX7_isThing lX7_126 dX7_thingThen_2 (tX7_isThing l D cI cW m S M p) ⟨Nat.le_of_ble_eq_true rfl, Nat.le_of_ble_eq_true rfl⟩ ⟨Nat.zero_le _, Nat.zero_le _⟩ [0] rfl ⟨rfl, rfl⟩ rfl rfl 0 0 rfl rfl rfl rfl (Nat.le_of_ble_eq_true rfl) (ff_cons (ml_fst _ _ _ _ _ _) (ff_nil)) (ws' := [ml m cI S M]) rfl ?_
  refine G.b_ne X dX7_thingThen_5 (fun b5 => absurd (Eq.trans (Eq.symm hp) b5) (by decide)) (fun b5 => ?_)
  refine G.pu X dX7_thingThen_8 ?_
  refine G.go X dX7_thingThen_9 ?_
  refine G.is X dX7_thingThen_16 (by decide) (lv' := [(4, .int (-1)), (0, .ref (m 0)), (1, .int p), (2, .int n), (3, .int w)]) rfl ?_
  refine G.il X dX7_thingThen_18 0 rfl ?_
  refine G.z_ne X (a := (-1)) dX7_thingThen_20 (fun b20 => ?_) (fun b20 => absurd b20 (by decide))
  refine G.il X dX7_thingThen_36 0 rfl ?_
  refine G.z_eq X (a := (-1)) dX7_thingThen_38 (fun b38 => absurd b38 (by decide)) (fun b38 => ?_)
  refine G.al X dX7_thingThen_41 1 rfl ?_
  refine G.il X dX7_thingThen_42 0 rfl ?_
  refine G.cvi X kX7_no lX7_74 dX7_thingThen_44 (tX7_no l D cI cW m S M 1 (by omega) (by omega)) ⟨Nat.le_of_ble_eq_true rfl, Nat.le_of_ble_eq_true rfl⟩ ⟨Nat.zero_le _, Nat.zero_le _⟩ [0] rfl ⟨rfl, rfl⟩ rfl rfl 0 0 rfl rfl rfl rfl (Nat.le_of_ble_eq_true rfl) (ff_cons (ml_fst _ _ _ _ _ _) (ff_nil)) (ws' := [ml m cI S (m_no M 1)]) rfl ?_
  exact G.iret X Rr (v := (-(nI 1))) dX7_thingThen_47 (pi_mk (by rfl) (by rfl))

set_option maxRecDepth 20000 in
theorem tX7_thingThen_lo (l : Launch) (D : va_G) (cI cW : ClassId) (m : Nat → Nat) (S : WS) (M : MS) (p : Nat) (n : Int32) (w : Int32) (hS : Ok S) (hp : p < s_th S) (h1 : n < 0) : CT l D cI cW yX7_thingThen cX7_thingThen 6 (some .int) ⟨2, 0, 0, 42⟩ [.ref (m 0), .int (nI p), .int n, .int w] ([ml m cI S M]) (PI (-4) ([ml m cI S (m_no M 4)])) := by
  refine CT.of RX7 rfl (by decide +kernel) (Nat.le_of_ble_eq_true rfl) [(0, .ref (m 0)), (1, .int (nI p)), (2, .int n), (3, .int w)] rfl (fun x X Rr hnm => ?_)
  have hth := hS.th
  have hpe := hS.pe
  refine G.al X dX7_thingThen_0 0 rfl ?_
  refine G.il X dX7_thingThen_1 1 rfl ?_
  refine G.cvi X kX7_isThing lX7_126 dX7_thingThen_2 (tX7_isThing l D cI cW m S M (nI p)) ⟨Nat.le_of_ble_eq_true rfl, Nat.le_of_ble_eq_true rfl⟩ ⟨Nat.zero_le _, Nat.zero_le _⟩ [0] rfl ⟨rfl, rfl⟩ rfl rfl 0 0 rfl rfl rfl rfl (Nat.le_of_ble_eq_true rfl) (ff_cons (ml_fst _ _ _ _ _ _) (ff_nil)) (ws' := [ml m cI S M]) rfl ?_
  refine G.b_ne X dX7_thingThen_5 (fun b5 => ?_) (fun b5 => absurd (Eq.trans (Eq.symm (z_in_nI hp (by omega))) b5) (by decide))
  refine G.il X dX7_thingThen_12 2 rfl ?_
  refine G.csti X kX7_notDays lX7_208 dX7_thingThen_13 (tX7_notDays_lo l D cI cW n h1) ⟨Nat.le_of_ble_eq_true rfl, Nat.le_of_ble_eq_true rfl⟩ ⟨Nat.zero_le _, Nat.zero_le _⟩ [] rfl ⟨rfl, rfl⟩ rfl rfl rfl (Nat.le_of_ble_eq_true rfl) (ff_nil) (ws' := [ml m cI S M]) rfl ?_
  refine G.is X dX7_thingThen_16 (by decide) (lv' := [(4, .int (-4)), (0, .ref (m 0)), (1, .int (nI p)), (2, .int n), (3, .int w)]) rfl ?_
  refine G.il X dX7_thingThen_18 0 rfl ?_
  refine G.z_ne X (a := (-4)) dX7_thingThen_20 (fun b20 => ?_) (fun b20 => absurd b20 (by decide))
  refine G.il X dX7_thingThen_36 0 rfl ?_
  refine G.z_eq X (a := (-4)) dX7_thingThen_38 (fun b38 => absurd b38 (by decide)) (fun b38 => ?_)
  refine G.al X dX7_thingThen_41 1 rfl ?_
  refine G.il X dX7_thingThen_42 0 rfl ?_
  refine G.cvi X kX7_no lX7_74 dX7_thingThen_44 (tX7_no l D cI cW m S M 4 (by omega) (by omega)) ⟨Nat.le_of_ble_eq_true rfl, Nat.le_of_ble_eq_true rfl⟩ ⟨Nat.zero_le _, Nat.zero_le _⟩ [0] rfl ⟨rfl, rfl⟩ rfl rfl 0 0 rfl rfl rfl rfl (Nat.le_of_ble_eq_true rfl) (ff_cons (ml_fst _ _ _ _ _ _) (ff_nil)) (ws' := [ml m cI S (m_no M 4)]) rfl ?_
  exact G.iret X Rr (v := (-(nI 4))) dX7_thingThen_47 (pi_mk (by rfl) (by rfl))

set_option maxRecDepth 20000 in
theorem tX7_thingThen_hi (l : Launch) (D : va_G) (cI cW : ClassId) (m : Nat → Nat) (S : WS) (M : MS) (p : Nat) (n : Int32) (w : Int32) (hS : Ok S) (hp : p < s_th S) (h1 : ¬ n < 0) (h2 : 99 < n) : CT l D cI cW yX7_thingThen cX7_thingThen 6 (some .int) ⟨2, 0, 0, 42⟩ [.ref (m 0), .int (nI p), .int n, .int w] ([ml m cI S M]) (PI (-6) ([ml m cI S (m_no M 6)])) := by
  refine CT.of RX7 rfl (by decide +kernel) (Nat.le_of_ble_eq_true rfl) [(0, .ref (m 0)), (1, .int (nI p)), (2, .int n), (3, .int w)] rfl (fun x X Rr hnm => ?_)
  have hth := hS.th
  have hpe := hS.pe
  refine G.al X dX7_thingThen_0 0 rfl ?_
  refine G.il X dX7_thingThen_1 1 rfl ?_
  refine G.cvi X kX7_isThing lX7_126 dX7_thingThen_2 (tX7_isThing l D cI cW m S M (nI p)) ⟨Nat.le_of_ble_eq_true rfl, Nat.le_of_ble_eq_true rfl⟩ ⟨Nat.zero_le _, Nat.zero_le _⟩ [0] rfl ⟨rfl, rfl⟩ rfl rfl 0 0 rfl rfl rfl rfl (Nat.le_of_ble_eq_true rfl) (ff_cons (ml_fst _ _ _ _ _ _) (ff_nil)) (ws' := [ml m cI S M]) rfl ?_
  refine G.b_ne X dX7_thingThen_5 (fun b5 => ?_) (fun b5 => absurd (Eq.trans (Eq.symm (z_in_nI hp (by omega))) b5) (by decide))
  refine G.il X dX7_thingThen_12 2 rfl ?_
  refine G.csti X kX7_notDays lX7_208 dX7_thingThen_13 (tX7_notDays_hi l D cI cW n h1 h2) ⟨Nat.le_of_ble_eq_true rfl, Nat.le_of_ble_eq_true rfl⟩ ⟨Nat.zero_le _, Nat.zero_le _⟩ [] rfl ⟨rfl, rfl⟩ rfl rfl rfl (Nat.le_of_ble_eq_true rfl) (ff_nil) (ws' := [ml m cI S M]) rfl ?_
  refine G.is X dX7_thingThen_16 (by decide) (lv' := [(4, .int (-6)), (0, .ref (m 0)), (1, .int (nI p)), (2, .int n), (3, .int w)]) rfl ?_
  refine G.il X dX7_thingThen_18 0 rfl ?_
  refine G.z_ne X (a := (-6)) dX7_thingThen_20 (fun b20 => ?_) (fun b20 => absurd b20 (by decide))
  refine G.il X dX7_thingThen_36 0 rfl ?_
  refine G.z_eq X (a := (-6)) dX7_thingThen_38 (fun b38 => absurd b38 (by decide)) (fun b38 => ?_)
  refine G.al X dX7_thingThen_41 1 rfl ?_
  refine G.il X dX7_thingThen_42 0 rfl ?_
  refine G.cvi X kX7_no lX7_74 dX7_thingThen_44 (tX7_no l D cI cW m S M 6 (by omega) (by omega)) ⟨Nat.le_of_ble_eq_true rfl, Nat.le_of_ble_eq_true rfl⟩ ⟨Nat.zero_le _, Nat.zero_le _⟩ [0] rfl ⟨rfl, rfl⟩ rfl rfl 0 0 rfl rfl rfl rfl (Nat.le_of_ble_eq_true rfl) (ff_cons (ml_fst _ _ _ _ _ _) (ff_nil)) (ws' := [ml m cI S (m_no M 6)]) rfl ?_
  exact G.iret X Rr (v := (-(nI 6))) dX7_thingThen_47 (pi_mk (by rfl) (by rfl))

set_option maxRecDepth 20000 in
theorem tX7_thingThen_oth (l : Launch) (D : va_G) (cI cW : ClassId) (m : Nat → Nat) (S : WS) (M : MS) (p : Nat) (n : Nat) (w : Int32) (hS : Ok S) (hp : p < s_th S) (hn : n ≤ 99) (hw : z_in w 2 = false) : CT l D cI cW yX7_thingThen cX7_thingThen 6 (some .int) ⟨2, 0, 0, 42⟩ [.ref (m 0), .int (nI p), .int (nI n), .int w] ([ml m cI S M]) (PI (-2) ([ml m cI S (m_no M 2)])) := by
  refine CT.of RX7 rfl (by decide +kernel) (Nat.le_of_ble_eq_true rfl) [(0, .ref (m 0)), (1, .int (nI p)), (2, .int (nI n)), (3, .int w)] rfl (fun x X Rr hnm => ?_)
  have hth := hS.th
  have hpe := hS.pe
  refine G.al X dX7_thingThen_0 0 rfl ?_
  refine G.il X dX7_thingThen_1 1 rfl ?_
  refine G.cvi X kX7_isThing lX7_126 dX7_thingThen_2 (tX7_isThing l D cI cW m S M (nI p)) ⟨Nat.le_of_ble_eq_true rfl, Nat.le_of_ble_eq_true rfl⟩ ⟨Nat.zero_le _, Nat.zero_le _⟩ [0] rfl ⟨rfl, rfl⟩ rfl rfl 0 0 rfl rfl rfl rfl (Nat.le_of_ble_eq_true rfl) (ff_cons (ml_fst _ _ _ _ _ _) (ff_nil)) (ws' := [ml m cI S M]) rfl ?_
  refine G.b_ne X dX7_thingThen_5 (fun b5 => ?_) (fun b5 => absurd (Eq.trans (Eq.symm (z_in_nI hp (by omega))) b5) (by decide))
  refine G.il X dX7_thingThen_12 2 rfl ?_
  refine G.csti X kX7_notDays lX7_208 dX7_thingThen_13 (tX7_notDays_ok l D cI cW n hn) ⟨Nat.le_of_ble_eq_true rfl, Nat.le_of_ble_eq_true rfl⟩ ⟨Nat.zero_le _, Nat.zero_le _⟩ [] rfl ⟨rfl, rfl⟩ rfl rfl rfl (Nat.le_of_ble_eq_true rfl) (ff_nil) (ws' := [ml m cI S M]) rfl ?_
  refine G.is X dX7_thingThen_16 (by decide) (lv' := [(4, .int 0), (0, .ref (m 0)), (1, .int (nI p)), (2, .int (nI n)), (3, .int w)]) rfl ?_
  refine G.il X dX7_thingThen_18 0 rfl ?_
  refine G.z_ne X (a := 0) dX7_thingThen_20 (fun b20 => absurd b20 (by decide)) (fun b20 => ?_)
  refine G.il X dX7_thingThen_23 4 rfl ?_
  refine G.pu X dX7_thingThen_24 ?_
  refine G.pu X dX7_thingThen_25 ?_
  refine G.csti X kX7_isIn lX7_85 dX7_thingThen_26 (tX7_isIn_no l D cI cW w 0 1 (zbt_no (n := 1) hw (by decide))) ⟨Nat.le_of_ble_eq_true rfl, Nat.le_of_ble_eq_true rfl⟩ ⟨Nat.zero_le _, Nat.zero_le _⟩ [] rfl ⟨rfl, rfl⟩ rfl rfl rfl (Nat.le_of_ble_eq_true rfl) (ff_nil) (ws' := [ml m cI S M]) rfl ?_
  refine G.b_ne X dX7_thingThen_29 (fun b29 => absurd b29 (by decide)) (fun b29 => ?_)
  refine G.pu X dX7_thingThen_32 ?_
  refine G.is X dX7_thingThen_34 (by decide) (lv' := [(4, .int (-2)), (0, .ref (m 0)), (1, .int (nI p)), (2, .int (nI n)), (3, .int w)]) rfl ?_
  refine G.il X dX7_thingThen_36 0 rfl ?_
  refine G.z_eq X (a := (-2)) dX7_thingThen_38 (fun b38 => absurd b38 (by decide)) (fun b38 => ?_)
  refine G.al X dX7_thingThen_41 1 rfl ?_
  refine G.il X dX7_thingThen_42 0 rfl ?_
  refine G.cvi X kX7_no lX7_74 dX7_thingThen_44 (tX7_no l D cI cW m S M 2 (by omega) (by omega)) ⟨Nat.le_of_ble_eq_true rfl, Nat.le_of_ble_eq_true rfl⟩ ⟨Nat.zero_le _, Nat.zero_le _⟩ [0] rfl ⟨rfl, rfl⟩ rfl rfl 0 0 rfl rfl rfl rfl (Nat.le_of_ble_eq_true rfl) (ff_cons (ml_fst _ _ _ _ _ _) (ff_nil)) (ws' := [ml m cI S (m_no M 2)]) rfl ?_
  exact G.iret X Rr (v := (-(nI 2))) dX7_thingThen_47 (pi_mk (by rfl) (by rfl))

set_option maxRecDepth 20000 in
theorem tX7_thingThen_0 (l : Launch) (D : va_G) (cI cW : ClassId) (m : Nat → Nat) (S : WS) (M : MS) (p : Nat) (n : Nat) (hS : Ok S) (hco : m_co M = false) (hp : p < s_th S) (hn : n ≤ 99) : CT l D cI cW yX7_thingThen cX7_thingThen 6 (some .int) ⟨5, 0, 0, 108⟩ [.ref (m 0), .int (nI p), .int (nI n), .int 0] ([ml m cI S M]) (PIE (s_wa (w_dayN S n) p) (fun M9 : {M9 : MS // Mq 64 M M9} => [ml m cI S M9.1])) := by
  refine CT.of RX7 rfl (by decide +kernel) (Nat.le_of_ble_eq_true rfl) [(0, .ref (m 0)), (1, .int (nI p)), (2, .int (nI n)), (3, .int 0)] rfl (fun x X Rr hnm => ?_)
  have hth := hS.th
  have hpe := hS.pe
  refine G.al X dX7_thingThen_0 0 rfl ?_
  refine G.il X dX7_thingThen_1 1 rfl ?_
  refine G.cvi X kX7_isThing lX7_126 dX7_thingThen_2 (tX7_isThing l D cI cW m S M (nI p)) ⟨Nat.le_of_ble_eq_true rfl, Nat.le_of_ble_eq_true rfl⟩ ⟨Nat.zero_le _, Nat.zero_le _⟩ [0] rfl ⟨rfl, rfl⟩ rfl rfl 0 0 rfl rfl rfl rfl (Nat.le_of_ble_eq_true rfl) (ff_cons (ml_fst _ _ _ _ _ _) (ff_nil)) (ws' := [ml m cI S M]) rfl ?_
  refine G.b_ne X dX7_thingThen_5 (fun b5 => ?_) (fun b5 => absurd (Eq.trans (Eq.symm (z_in_nI hp (by omega))) b5) (by decide))
  refine G.il X dX7_thingThen_12 2 rfl ?_
  refine G.csti X kX7_notDays lX7_208 dX7_thingThen_13 (tX7_notDays_ok l D cI cW n hn) ⟨Nat.le_of_ble_eq_true rfl, Nat.le_of_ble_eq_true rfl⟩ ⟨Nat.zero_le _, Nat.zero_le _⟩ [] rfl ⟨rfl, rfl⟩ rfl rfl rfl (Nat.le_of_ble_eq_true rfl) (ff_nil) (ws' := [ml m cI S M]) rfl ?_
  refine G.is X dX7_thingThen_16 (by decide) (lv' := [(4, .int 0), (0, .ref (m 0)), (1, .int (nI p)), (2, .int (nI n)), (3, .int 0)]) rfl ?_
  refine G.il X dX7_thingThen_18 0 rfl ?_
  refine G.z_ne X (a := 0) dX7_thingThen_20 (fun b20 => absurd b20 (by decide)) (fun b20 => ?_)
  refine G.il X dX7_thingThen_23 4 rfl ?_
  refine G.pu X dX7_thingThen_24 ?_
  refine G.pu X dX7_thingThen_25 ?_
  refine G.csti X kX7_isIn lX7_85 dX7_thingThen_26 (tX7_isIn_yes l D cI cW 0 0 1 (by omega) (by omega) (by omega)) ⟨Nat.le_of_ble_eq_true rfl, Nat.le_of_ble_eq_true rfl⟩ ⟨Nat.zero_le _, Nat.zero_le _⟩ [] rfl ⟨rfl, rfl⟩ rfl rfl rfl (Nat.le_of_ble_eq_true rfl) (ff_nil) (ws' := [ml m cI S M]) rfl ?_
  refine G.b_ne X dX7_thingThen_29 (fun b29 => ?_) (fun b29 => absurd b29 (by decide))
  refine G.il X dX7_thingThen_36 0 rfl ?_
  refine G.z_eq X (a := 0) dX7_thingThen_38 (fun b38 => ?_) (fun b38 => absurd b38 (by decide))
  refine G.al X dX7_thingThen_48 1 rfl ?_
  refine G.cvv X kX7_thinks lX7_211 dX7_thingThen_49 (tX7_thinks l D cI cW m S M) ⟨Nat.le_of_ble_eq_true rfl, Nat.le_of_ble_eq_true rfl⟩ ⟨Nat.zero_le _, Nat.zero_le _⟩ [0] rfl ⟨rfl, rfl⟩ rfl rfl 0 0 rfl rfl rfl rfl (Nat.le_of_ble_eq_true rfl) (ff_cons (ml_fst _ _ _ _ _ _) (ff_nil)) (ws' := [ml m cI S (m_kpa M 128 S)]) rfl ?_
  refine G.al X dX7_thingThen_52 1 rfl ?_
  refine G.il X dX7_thingThen_53 3 rfl ?_
  refine G.cvv X kX7_goes lX7_116 dX7_thingThen_54 (tX7_goes l D cI cW m S (m_kpa M 128 S) n hS hco (by omega)) ⟨Nat.le_of_ble_eq_true rfl, Nat.le_of_ble_eq_true rfl⟩ ⟨Nat.zero_le _, Nat.zero_le _⟩ [0] rfl ⟨rfl, rfl⟩ rfl rfl 0 0 rfl rfl rfl rfl (Nat.le_of_ble_eq_true rfl) (ff_cons (ml_fst _ _ _ _ _ _) (ff_nil)) (ws' := [ml m cI (w_dayN S n) (m_kpa M 128 S)]) rfl ?_
  refine G.il X dX7_thingThen_57 4 rfl ?_
  refine G.z_ne X (a := 0) dX7_thingThen_58 (fun b58 => absurd b58 (by decide)) (fun b58 => ?_)
  refine G.al X dX7_thingThen_61 1 rfl ?_
  refine G.get X fX7_31 dX7_thingThen_62 0 0 rfl rfl rfl ?_
  refine G.il X dX7_thingThen_65 2 rfl ?_
  refine G.nld X (i := p) dX7_thingThen_66 0 8 rfl rfl (by omega) (by decide) ?_
  refine G.go X dX7_thingThen_67 ?_
  refine G.is X dX7_thingThen_76 (by decide) (lv' := [(5, .int ((s_wa (w_dayN S n)) p)), (4, .int 0), (0, .ref (m 0)), (1, .int (nI p)), (2, .int (nI n)), (3, .int 0)]) rfl ?_
  refine G.al X dX7_thingThen_78 2 rfl ?_
  refine G.cvv X kX7_forgets lX7_214 dX7_thingThen_79 (tX7_forgets l D cI cW m (w_dayN S n) (m_kpa M 128 S) S (kpall_KP _ 128 S)) ⟨Nat.le_of_ble_eq_true rfl, Nat.le_of_ble_eq_true rfl⟩ ⟨Nat.zero_le _, Nat.zero_le _⟩ [0] rfl ⟨rfl, rfl⟩ rfl rfl 0 0 rfl rfl rfl rfl (Nat.le_of_ble_eq_true rfl) (ff_cons (ml_fst _ _ _ _ _ _) (ff_nil)) (ws' := [ml m cI S (m_set (m_kpa M 128 S) 192 false)]) rfl ?_
  refine G.il X dX7_thingThen_82 0 rfl ?_
  exact G.iret X Rr (v := ((s_wa (w_dayN S n)) p)) dX7_thingThen_84 (pie_mk (qk (((Mq.rf 64 M).tr (mq_kpa M 128 S) (by decide)).tr (mq_set 64 (m_kpa M 128 S) 192 false) (Nat.le_refl _))) (by rfl) (by rfl))

set_option maxRecDepth 20000 in
theorem tX7_thingThen_1 (l : Launch) (D : va_G) (cI cW : ClassId) (m : Nat → Nat) (S : WS) (M : MS) (p : Nat) (n : Nat) (hS : Ok S) (hco : m_co M = false) (hp : p < s_th S) (hn : n ≤ 99) : CT l D cI cW yX7_thingThen cX7_thingThen 6 (some .int) ⟨5, 0, 0, 108⟩ [.ref (m 0), .int (nI p), .int (nI n), .int 1] ([ml m cI S M]) (PIE (s_le (w_dayN S n) p) (fun M9 : {M9 : MS // Mq 64 M M9} => [ml m cI S M9.1])) := by
  refine CT.of RX7 rfl (by decide +kernel) (Nat.le_of_ble_eq_true rfl) [(0, .ref (m 0)), (1, .int (nI p)), (2, .int (nI n)), (3, .int 1)] rfl (fun x X Rr hnm => ?_)
  have hth := hS.th
  have hpe := hS.pe
  refine G.al X dX7_thingThen_0 0 rfl ?_
  refine G.il X dX7_thingThen_1 1 rfl ?_
  refine G.cvi X kX7_isThing lX7_126 dX7_thingThen_2 (tX7_isThing l D cI cW m S M (nI p)) ⟨Nat.le_of_ble_eq_true rfl, Nat.le_of_ble_eq_true rfl⟩ ⟨Nat.zero_le _, Nat.zero_le _⟩ [0] rfl ⟨rfl, rfl⟩ rfl rfl 0 0 rfl rfl rfl rfl (Nat.le_of_ble_eq_true rfl) (ff_cons (ml_fst _ _ _ _ _ _) (ff_nil)) (ws' := [ml m cI S M]) rfl ?_
  refine G.b_ne X dX7_thingThen_5 (fun b5 => ?_) (fun b5 => absurd (Eq.trans (Eq.symm (z_in_nI hp (by omega))) b5) (by decide))
  refine G.il X dX7_thingThen_12 2 rfl ?_
  refine G.csti X kX7_notDays lX7_208 dX7_thingThen_13 (tX7_notDays_ok l D cI cW n hn) ⟨Nat.le_of_ble_eq_true rfl, Nat.le_of_ble_eq_true rfl⟩ ⟨Nat.zero_le _, Nat.zero_le _⟩ [] rfl ⟨rfl, rfl⟩ rfl rfl rfl (Nat.le_of_ble_eq_true rfl) (ff_nil) (ws' := [ml m cI S M]) rfl ?_
  refine G.is X dX7_thingThen_16 (by decide) (lv' := [(4, .int 0), (0, .ref (m 0)), (1, .int (nI p)), (2, .int (nI n)), (3, .int 1)]) rfl ?_
  refine G.il X dX7_thingThen_18 0 rfl ?_
  refine G.z_ne X (a := 0) dX7_thingThen_20 (fun b20 => absurd b20 (by decide)) (fun b20 => ?_)
  refine G.il X dX7_thingThen_23 4 rfl ?_
  refine G.pu X dX7_thingThen_24 ?_
  refine G.pu X dX7_thingThen_25 ?_
  refine G.csti X kX7_isIn lX7_85 dX7_thingThen_26 (tX7_isIn_yes l D cI cW 1 0 1 (by omega) (by omega) (by omega)) ⟨Nat.le_of_ble_eq_true rfl, Nat.le_of_ble_eq_true rfl⟩ ⟨Nat.zero_le _, Nat.zero_le _⟩ [] rfl ⟨rfl, rfl⟩ rfl rfl rfl (Nat.le_of_ble_eq_true rfl) (ff_nil) (ws' := [ml m cI S M]) rfl ?_
  refine G.b_ne X dX7_thingThen_29 (fun b29 => ?_) (fun b29 => absurd b29 (by decide))
  refine G.il X dX7_thingThen_36 0 rfl ?_
  refine G.z_eq X (a := 0) dX7_thingThen_38 (fun b38 => ?_) (fun b38 => absurd b38 (by decide))
  refine G.al X dX7_thingThen_48 1 rfl ?_
  refine G.cvv X kX7_thinks lX7_211 dX7_thingThen_49 (tX7_thinks l D cI cW m S M) ⟨Nat.le_of_ble_eq_true rfl, Nat.le_of_ble_eq_true rfl⟩ ⟨Nat.zero_le _, Nat.zero_le _⟩ [0] rfl ⟨rfl, rfl⟩ rfl rfl 0 0 rfl rfl rfl rfl (Nat.le_of_ble_eq_true rfl) (ff_cons (ml_fst _ _ _ _ _ _) (ff_nil)) (ws' := [ml m cI S (m_kpa M 128 S)]) rfl ?_
  refine G.al X dX7_thingThen_52 1 rfl ?_
  refine G.il X dX7_thingThen_53 3 rfl ?_
  refine G.cvv X kX7_goes lX7_116 dX7_thingThen_54 (tX7_goes l D cI cW m S (m_kpa M 128 S) n hS hco (by omega)) ⟨Nat.le_of_ble_eq_true rfl, Nat.le_of_ble_eq_true rfl⟩ ⟨Nat.zero_le _, Nat.zero_le _⟩ [0] rfl ⟨rfl, rfl⟩ rfl rfl 0 0 rfl rfl rfl rfl (Nat.le_of_ble_eq_true rfl) (ff_cons (ml_fst _ _ _ _ _ _) (ff_nil)) (ws' := [ml m cI (w_dayN S n) (m_kpa M 128 S)]) rfl ?_
  refine G.il X dX7_thingThen_57 4 rfl ?_
  refine G.z_ne X (a := 1) dX7_thingThen_58 (fun b58 => ?_) (fun b58 => absurd b58 (by decide))
  refine G.al X dX7_thingThen_70 1 rfl ?_
  refine G.get X fX7_34 dX7_thingThen_71 0 0 rfl rfl rfl ?_
  refine G.il X dX7_thingThen_74 2 rfl ?_
  refine G.nld X (i := p) dX7_thingThen_75 0 9 rfl rfl (by omega) (by decide) ?_
  refine G.is X dX7_thingThen_76 (by decide) (lv' := [(5, .int ((s_le (w_dayN S n)) p)), (4, .int 0), (0, .ref (m 0)), (1, .int (nI p)), (2, .int (nI n)), (3, .int 1)]) rfl ?_
  refine G.al X dX7_thingThen_78 2 rfl ?_
  refine G.cvv X kX7_forgets lX7_214 dX7_thingThen_79 (tX7_forgets l D cI cW m (w_dayN S n) (m_kpa M 128 S) S (kpall_KP _ 128 S)) ⟨Nat.le_of_ble_eq_true rfl, Nat.le_of_ble_eq_true rfl⟩ ⟨Nat.zero_le _, Nat.zero_le _⟩ [0] rfl ⟨rfl, rfl⟩ rfl rfl 0 0 rfl rfl rfl rfl (Nat.le_of_ble_eq_true rfl) (ff_cons (ml_fst _ _ _ _ _ _) (ff_nil)) (ws' := [ml m cI S (m_set (m_kpa M 128 S) 192 false)]) rfl ?_
  refine G.il X dX7_thingThen_82 0 rfl ?_
  exact G.iret X Rr (v := ((s_le (w_dayN S n)) p)) dX7_thingThen_84 (pie_mk (qk (((Mq.rf 64 M).tr (mq_kpa M 128 S) (by decide)).tr (mq_set 64 (m_kpa M 128 S) 192 false) (Nat.le_refl _))) (by rfl) (by rfl))

set_option maxRecDepth 20000 in
theorem tX7_askThen_lo (l : Launch) (D : va_G) (cI cW : ClassId) (m : Nat → Nat) (S : WS) (M : MS) (n : Int32) (w : Int32) (hS : Ok S) (h1 : n < 0) : CT l D cI cW yX7_askThen cX7_askThen 5 (some .int) ⟨2, 0, 0, 42⟩ [.ref (m 0), .int n, .int w] ([ml m cI S M]) (PI (-4) ([ml m cI S (m_no M 4)])) := by
  refine CT.of RX7 rfl (by decide +kernel) (Nat.le_of_ble_eq_true rfl) [(0, .ref (m 0)), (1, .int n), (2, .int w)] rfl (fun x X Rr hnm => ?_)
  have hth := hS.th
  have hpe := hS.pe
  refine G.il X dX7_askThen_0 1 rfl ?_
  refine G.csti X kX7_notDays lX7_208 dX7_askThen_1 (tX7_notDays_lo l D cI cW n h1) ⟨Nat.le_of_ble_eq_true rfl, Nat.le_of_ble_eq_true rfl⟩ ⟨Nat.zero_le _, Nat.zero_le _⟩ [] rfl ⟨rfl, rfl⟩ rfl rfl rfl (Nat.le_of_ble_eq_true rfl) (ff_nil) (ws' := [ml m cI S M]) rfl ?_
  refine G.is X dX7_askThen_4 (by decide) (lv' := [(3, .int (-4)), (0, .ref (m 0)), (1, .int n), (2, .int w)]) rfl ?_
  refine G.il X dX7_askThen_5 0 rfl ?_
  refine G.z_ne X (a := (-4)) dX7_askThen_6 (fun b6 => ?_) (fun b6 => absurd b6 (by decide))
  refine G.il X dX7_askThen_21 0 rfl ?_
  refine G.z_eq X (a := (-4)) dX7_askThen_22 (fun b22 => absurd b22 (by decide)) (fun b22 => ?_)
  refine G.al X dX7_askThen_25 1 rfl ?_
  refine G.il X dX7_askThen_26 0 rfl ?_
  refine G.cvi X kX7_no lX7_74 dX7_askThen_27 (tX7_no l D cI cW m S M 4 (by omega) (by omega)) ⟨Nat.le_of_ble_eq_true rfl, Nat.le_of_ble_eq_true rfl⟩ ⟨Nat.zero_le _, Nat.zero_le _⟩ [0] rfl ⟨rfl, rfl⟩ rfl rfl 0 0 rfl rfl rfl rfl (Nat.le_of_ble_eq_true rfl) (ff_cons (ml_fst _ _ _ _ _ _) (ff_nil)) (ws' := [ml m cI S (m_no M 4)]) rfl ?_
  exact G.iret X Rr (v := (-(nI 4))) dX7_askThen_30 (pi_mk (by rfl) (by rfl))

set_option maxRecDepth 20000 in
theorem tX7_askThen_hi (l : Launch) (D : va_G) (cI cW : ClassId) (m : Nat → Nat) (S : WS) (M : MS) (n : Int32) (w : Int32) (hS : Ok S) (h1 : ¬ n < 0) (h2 : 99 < n) : CT l D cI cW yX7_askThen cX7_askThen 5 (some .int) ⟨2, 0, 0, 42⟩ [.ref (m 0), .int n, .int w] ([ml m cI S M]) (PI (-6) ([ml m cI S (m_no M 6)])) := by
  refine CT.of RX7 rfl (by decide +kernel) (Nat.le_of_ble_eq_true rfl) [(0, .ref (m 0)), (1, .int n), (2, .int w)] rfl (fun x X Rr hnm => ?_)
  have hth := hS.th
  have hpe := hS.pe
  refine G.il X dX7_askThen_0 1 rfl ?_
  refine G.csti X kX7_notDays lX7_208 dX7_askThen_1 (tX7_notDays_hi l D cI cW n h1 h2) ⟨Nat.le_of_ble_eq_true rfl, Nat.le_of_ble_eq_true rfl⟩ ⟨Nat.zero_le _, Nat.zero_le _⟩ [] rfl ⟨rfl, rfl⟩ rfl rfl rfl (Nat.le_of_ble_eq_true rfl) (ff_nil) (ws' := [ml m cI S M]) rfl ?_
  refine G.is X dX7_askThen_4 (by decide) (lv' := [(3, .int (-6)), (0, .ref (m 0)), (1, .int n), (2, .int w)]) rfl ?_
  refine G.il X dX7_askThen_5 0 rfl ?_
  refine G.z_ne X (a := (-6)) dX7_askThen_6 (fun b6 => ?_) (fun b6 => absurd b6 (by decide))
  refine G.il X dX7_askThen_21 0 rfl ?_
  refine G.z_eq X (a := (-6)) dX7_askThen_22 (fun b22 => absurd b22 (by decide)) (fun b22 => ?_)
  refine G.al X dX7_askThen_25 1 rfl ?_
  refine G.il X dX7_askThen_26 0 rfl ?_
  refine G.cvi X kX7_no lX7_74 dX7_askThen_27 (tX7_no l D cI cW m S M 6 (by omega) (by omega)) ⟨Nat.le_of_ble_eq_true rfl, Nat.le_of_ble_eq_true rfl⟩ ⟨Nat.zero_le _, Nat.zero_le _⟩ [0] rfl ⟨rfl, rfl⟩ rfl rfl 0 0 rfl rfl rfl rfl (Nat.le_of_ble_eq_true rfl) (ff_cons (ml_fst _ _ _ _ _ _) (ff_nil)) (ws' := [ml m cI S (m_no M 6)]) rfl ?_
  exact G.iret X Rr (v := (-(nI 6))) dX7_askThen_30 (pi_mk (by rfl) (by rfl))

set_option maxRecDepth 20000 in
theorem tX7_askThen_oth (l : Launch) (D : va_G) (cI cW : ClassId) (m : Nat → Nat) (S : WS) (M : MS) (n : Nat) (w : Int32) (hS : Ok S) (hn : n ≤ 99) (hw : z_in w 2 = false) : CT l D cI cW yX7_askThen cX7_askThen 5 (some .int) ⟨2, 0, 0, 42⟩ [.ref (m 0), .int (nI n), .int w] ([ml m cI S M]) (PI (-2) ([ml m cI S (m_no M 2)])) := by
  refine CT.of RX7 rfl (by decide +kernel) (Nat.le_of_ble_eq_true rfl) [(0, .ref (m 0)), (1, .int (nI n)), (2, .int w)] rfl (fun x X Rr hnm => ?_)
  have hth := hS.th
  have hpe := hS.pe
  refine G.il X dX7_askThen_0 1 rfl ?_
  refine G.csti X kX7_notDays lX7_208 dX7_askThen_1 (tX7_notDays_ok l D cI cW n hn) ⟨Nat.le_of_ble_eq_true rfl, Nat.le_of_ble_eq_true rfl⟩ ⟨Nat.zero_le _, Nat.zero_le _⟩ [] rfl ⟨rfl, rfl⟩ rfl rfl rfl (Nat.le_of_ble_eq_true rfl) (ff_nil) (ws' := [ml m cI S M]) rfl ?_
  refine G.is X dX7_askThen_4 (by decide) (lv' := [(3, .int 0), (0, .ref (m 0)), (1, .int (nI n)), (2, .int w)]) rfl ?_
  refine G.il X dX7_askThen_5 0 rfl ?_
  refine G.z_ne X (a := 0) dX7_askThen_6 (fun b6 => absurd b6 (by decide)) (fun b6 => ?_)
  refine G.il X dX7_askThen_9 3 rfl ?_
  refine G.pu X dX7_askThen_10 ?_
  refine G.pu X dX7_askThen_11 ?_
  refine G.csti X kX7_isIn lX7_85 dX7_askThen_12 (tX7_isIn_no l D cI cW w 0 1 (zbt_no (n := 1) hw (by decide))) ⟨Nat.le_of_ble_eq_true rfl, Nat.le_of_ble_eq_true rfl⟩ ⟨Nat.zero_le _, Nat.zero_le _⟩ [] rfl ⟨rfl, rfl⟩ rfl rfl rfl (Nat.le_of_ble_eq_true rfl) (ff_nil) (ws' := [ml m cI S M]) rfl ?_
  refine G.b_ne X dX7_askThen_15 (fun b15 => absurd b15 (by decide)) (fun b15 => ?_)
  refine G.pu X dX7_askThen_18 ?_
  refine G.is X dX7_askThen_20 (by decide) (lv' := [(3, .int (-2)), (0, .ref (m 0)), (1, .int (nI n)), (2, .int w)]) rfl ?_
  refine G.il X dX7_askThen_21 0 rfl ?_
  refine G.z_eq X (a := (-2)) dX7_askThen_22 (fun b22 => absurd b22 (by decide)) (fun b22 => ?_)
  refine G.al X dX7_askThen_25 1 rfl ?_
  refine G.il X dX7_askThen_26 0 rfl ?_
  refine G.cvi X kX7_no lX7_74 dX7_askThen_27 (tX7_no l D cI cW m S M 2 (by omega) (by omega)) ⟨Nat.le_of_ble_eq_true rfl, Nat.le_of_ble_eq_true rfl⟩ ⟨Nat.zero_le _, Nat.zero_le _⟩ [0] rfl ⟨rfl, rfl⟩ rfl rfl 0 0 rfl rfl rfl rfl (Nat.le_of_ble_eq_true rfl) (ff_cons (ml_fst _ _ _ _ _ _) (ff_nil)) (ws' := [ml m cI S (m_no M 2)]) rfl ?_
  exact G.iret X Rr (v := (-(nI 2))) dX7_askThen_30 (pi_mk (by rfl) (by rfl))

set_option maxRecDepth 20000 in
theorem tX7_askThen_0 (l : Launch) (D : va_G) (cI cW : ClassId) (m : Nat → Nat) (S : WS) (M : MS) (n : Nat) (hS : Ok S) (hco : m_co M = false) (hn : n ≤ 99) : CT l D cI cW yX7_askThen cX7_askThen 5 (some .int) ⟨5, 0, 0, 108⟩ [.ref (m 0), .int (nI n), .int 0] ([ml m cI S M]) (PIE (askb (w_dayN S n) (s_th (w_dayN S n))) (fun M9 : {M9 : MS // Mq 64 M M9} => [ml m cI S M9.1])) := by
  refine CT.of RX7 rfl (by decide +kernel) (Nat.le_of_ble_eq_true rfl) [(0, .ref (m 0)), (1, .int (nI n)), (2, .int 0)] rfl (fun x X Rr hnm => ?_)
  have hth := hS.th
  have hpe := hS.pe
  refine G.il X dX7_askThen_0 1 rfl ?_
  refine G.csti X kX7_notDays lX7_208 dX7_askThen_1 (tX7_notDays_ok l D cI cW n hn) ⟨Nat.le_of_ble_eq_true rfl, Nat.le_of_ble_eq_true rfl⟩ ⟨Nat.zero_le _, Nat.zero_le _⟩ [] rfl ⟨rfl, rfl⟩ rfl rfl rfl (Nat.le_of_ble_eq_true rfl) (ff_nil) (ws' := [ml m cI S M]) rfl ?_
  refine G.is X dX7_askThen_4 (by decide) (lv' := [(3, .int 0), (0, .ref (m 0)), (1, .int (nI n)), (2, .int 0)]) rfl ?_
  refine G.il X dX7_askThen_5 0 rfl ?_
  refine G.z_ne X (a := 0) dX7_askThen_6 (fun b6 => absurd b6 (by decide)) (fun b6 => ?_)
  refine G.il X dX7_askThen_9 3 rfl ?_
  refine G.pu X dX7_askThen_10 ?_
  refine G.pu X dX7_askThen_11 ?_
  refine G.csti X kX7_isIn lX7_85 dX7_askThen_12 (tX7_isIn_yes l D cI cW 0 0 1 (by omega) (by omega) (by omega)) ⟨Nat.le_of_ble_eq_true rfl, Nat.le_of_ble_eq_true rfl⟩ ⟨Nat.zero_le _, Nat.zero_le _⟩ [] rfl ⟨rfl, rfl⟩ rfl rfl rfl (Nat.le_of_ble_eq_true rfl) (ff_nil) (ws' := [ml m cI S M]) rfl ?_
  refine G.b_ne X dX7_askThen_15 (fun b15 => ?_) (fun b15 => absurd b15 (by decide))
  refine G.il X dX7_askThen_21 0 rfl ?_
  refine G.z_eq X (a := 0) dX7_askThen_22 (fun b22 => ?_) (fun b22 => absurd b22 (by decide))
  refine G.al X dX7_askThen_31 1 rfl ?_
  refine G.cvv X kX7_thinks lX7_211 dX7_askThen_32 (tX7_thinks l D cI cW m S M) ⟨Nat.le_of_ble_eq_true rfl, Nat.le_of_ble_eq_true rfl⟩ ⟨Nat.zero_le _, Nat.zero_le _⟩ [0] rfl ⟨rfl, rfl⟩ rfl rfl 0 0 rfl rfl rfl rfl (Nat.le_of_ble_eq_true rfl) (ff_cons (ml_fst _ _ _ _ _ _) (ff_nil)) (ws' := [ml m cI S (m_kpa M 128 S)]) rfl ?_
  refine G.al X dX7_askThen_35 1 rfl ?_
  refine G.il X dX7_askThen_36 2 rfl ?_
  refine G.cvv X kX7_goes lX7_116 dX7_askThen_37 (tX7_goes l D cI cW m S (m_kpa M 128 S) n hS hco (by omega)) ⟨Nat.le_of_ble_eq_true rfl, Nat.le_of_ble_eq_true rfl⟩ ⟨Nat.zero_le _, Nat.zero_le _⟩ [0] rfl ⟨rfl, rfl⟩ rfl rfl 0 0 rfl rfl rfl rfl (Nat.le_of_ble_eq_true rfl) (ff_cons (ml_fst _ _ _ _ _ _) (ff_nil)) (ws' := [ml m cI (w_dayN S n) (m_kpa M 128 S)]) rfl ?_
  refine G.il X dX7_askThen_40 3 rfl ?_
  refine G.z_ne X (a := 0) dX7_askThen_41 (fun b41 => absurd b41 (by decide)) (fun b41 => ?_)
  refine G.al X dX7_askThen_44 1 rfl ?_
  refine G.cvi X kX7_asking lX7_184 dX7_askThen_45 (tX7_asking l D cI cW m (w_dayN S n) (m_kpa M 128 S) (ok_dayN hS n).th) ⟨Nat.le_of_ble_eq_true rfl, Nat.le_of_ble_eq_true rfl⟩ ⟨Nat.zero_le _, Nat.zero_le _⟩ [0] rfl ⟨rfl, rfl⟩ rfl rfl 0 0 rfl rfl rfl rfl (Nat.le_of_ble_eq_true rfl) (ff_cons (ml_fst _ _ _ _ _ _) (ff_nil)) (ws' := [ml m cI (w_dayN S n) (m_kpa M 128 S)]) rfl ?_
  refine G.go X dX7_askThen_48 ?_
  refine G.is X dX7_askThen_55 (by decide) (lv' := [(4, .int (askb (w_dayN S n) (s_th (w_dayN S n)))), (3, .int 0), (0, .ref (m 0)), (1, .int (nI n)), (2, .int 0)]) rfl ?_
  refine G.al X dX7_askThen_57 2 rfl ?_
  refine G.cvv X kX7_forgets lX7_214 dX7_askThen_58 (tX7_forgets l D cI cW m (w_dayN S n) (m_kpa M 128 S) S (kpall_KP _ 128 S)) ⟨Nat.le_of_ble_eq_true rfl, Nat.le_of_ble_eq_true rfl⟩ ⟨Nat.zero_le _, Nat.zero_le _⟩ [0] rfl ⟨rfl, rfl⟩ rfl rfl 0 0 rfl rfl rfl rfl (Nat.le_of_ble_eq_true rfl) (ff_cons (ml_fst _ _ _ _ _ _) (ff_nil)) (ws' := [ml m cI S (m_set (m_kpa M 128 S) 192 false)]) rfl ?_
  refine G.il X dX7_askThen_61 0 rfl ?_
  exact G.iret X Rr (v := (askb (w_dayN S n) (s_th (w_dayN S n)))) dX7_askThen_63 (pie_mk (qk (((Mq.rf 64 M).tr (mq_kpa M 128 S) (by decide)).tr (mq_set 64 (m_kpa M 128 S) 192 false) (Nat.le_refl _))) (by rfl) (by rfl))

set_option maxRecDepth 20000 in
theorem tX7_askThen_1 (l : Launch) (D : va_G) (cI cW : ClassId) (m : Nat → Nat) (S : WS) (M : MS) (n : Nat) (hS : Ok S) (hco : m_co M = false) (hn : n ≤ 99) : CT l D cI cW yX7_askThen cX7_askThen 5 (some .int) ⟨5, 0, 0, 108⟩ [.ref (m 0), .int (nI n), .int 1] ([ml m cI S M]) (PIE (b2i (w_wat (w_dayN S n))) (fun M9 : {M9 : MS // Mq 64 M M9} => [ml m cI S M9.1])) := by
  refine CT.of RX7 rfl (by decide +kernel) (Nat.le_of_ble_eq_true rfl) [(0, .ref (m 0)), (1, .int (nI n)), (2, .int 1)] rfl (fun x X Rr hnm => ?_)
  have hth := hS.th
  have hpe := hS.pe
  refine G.il X dX7_askThen_0 1 rfl ?_
  refine G.csti X kX7_notDays lX7_208 dX7_askThen_1 (tX7_notDays_ok l D cI cW n hn) ⟨Nat.le_of_ble_eq_true rfl, Nat.le_of_ble_eq_true rfl⟩ ⟨Nat.zero_le _, Nat.zero_le _⟩ [] rfl ⟨rfl, rfl⟩ rfl rfl rfl (Nat.le_of_ble_eq_true rfl) (ff_nil) (ws' := [ml m cI S M]) rfl ?_
  refine G.is X dX7_askThen_4 (by decide) (lv' := [(3, .int 0), (0, .ref (m 0)), (1, .int (nI n)), (2, .int 1)]) rfl ?_
  refine G.il X dX7_askThen_5 0 rfl ?_
  refine G.z_ne X (a := 0) dX7_askThen_6 (fun b6 => absurd b6 (by decide)) (fun b6 => ?_)
  refine G.il X dX7_askThen_9 3 rfl ?_
  refine G.pu X dX7_askThen_10 ?_
  refine G.pu X dX7_askThen_11 ?_
  refine G.csti X kX7_isIn lX7_85 dX7_askThen_12 (tX7_isIn_yes l D cI cW 1 0 1 (by omega) (by omega) (by omega)) ⟨Nat.le_of_ble_eq_true rfl, Nat.le_of_ble_eq_true rfl⟩ ⟨Nat.zero_le _, Nat.zero_le _⟩ [] rfl ⟨rfl, rfl⟩ rfl rfl rfl (Nat.le_of_ble_eq_true rfl) (ff_nil) (ws' := [ml m cI S M]) rfl ?_
  refine G.b_ne X dX7_askThen_15 (fun b15 => ?_) (fun b15 => absurd b15 (by decide))
  refine G.il X dX7_askThen_21 0 rfl ?_
  refine G.z_eq X (a := 0) dX7_askThen_22 (fun b22 => ?_) (fun b22 => absurd b22 (by decide))
  refine G.al X dX7_askThen_31 1 rfl ?_
  refine G.cvv X kX7_thinks lX7_211 dX7_askThen_32 (tX7_thinks l D cI cW m S M) ⟨Nat.le_of_ble_eq_true rfl, Nat.le_of_ble_eq_true rfl⟩ ⟨Nat.zero_le _, Nat.zero_le _⟩ [0] rfl ⟨rfl, rfl⟩ rfl rfl 0 0 rfl rfl rfl rfl (Nat.le_of_ble_eq_true rfl) (ff_cons (ml_fst _ _ _ _ _ _) (ff_nil)) (ws' := [ml m cI S (m_kpa M 128 S)]) rfl ?_
  refine G.al X dX7_askThen_35 1 rfl ?_
  refine G.il X dX7_askThen_36 2 rfl ?_
  refine G.cvv X kX7_goes lX7_116 dX7_askThen_37 (tX7_goes l D cI cW m S (m_kpa M 128 S) n hS hco (by omega)) ⟨Nat.le_of_ble_eq_true rfl, Nat.le_of_ble_eq_true rfl⟩ ⟨Nat.zero_le _, Nat.zero_le _⟩ [0] rfl ⟨rfl, rfl⟩ rfl rfl 0 0 rfl rfl rfl rfl (Nat.le_of_ble_eq_true rfl) (ff_cons (ml_fst _ _ _ _ _ _) (ff_nil)) (ws' := [ml m cI (w_dayN S n) (m_kpa M 128 S)]) rfl ?_
  refine G.il X dX7_askThen_40 3 rfl ?_
  refine G.z_ne X (a := 1) dX7_askThen_41 (fun b41 => ?_) (fun b41 => absurd b41 (by decide))
  refine G.al X dX7_askThen_51 1 rfl ?_
  refine G.cvi X kX7_water lX7_205 dX7_askThen_52 (tX7_water l D cI cW m (w_dayN S n) (m_kpa M 128 S) (ok_dayN hS n).th) ⟨Nat.le_of_ble_eq_true rfl, Nat.le_of_ble_eq_true rfl⟩ ⟨Nat.zero_le _, Nat.zero_le _⟩ [0] rfl ⟨rfl, rfl⟩ rfl rfl 0 0 rfl rfl rfl rfl (Nat.le_of_ble_eq_true rfl) (ff_cons (ml_fst _ _ _ _ _ _) (ff_nil)) (ws' := [ml m cI (w_dayN S n) (m_kpa M 128 S)]) rfl ?_
  refine G.is X dX7_askThen_55 (by decide) (lv' := [(4, .int (b2i (w_wat (w_dayN S n)))), (3, .int 0), (0, .ref (m 0)), (1, .int (nI n)), (2, .int 1)]) rfl ?_
  refine G.al X dX7_askThen_57 2 rfl ?_
  refine G.cvv X kX7_forgets lX7_214 dX7_askThen_58 (tX7_forgets l D cI cW m (w_dayN S n) (m_kpa M 128 S) S (kpall_KP _ 128 S)) ⟨Nat.le_of_ble_eq_true rfl, Nat.le_of_ble_eq_true rfl⟩ ⟨Nat.zero_le _, Nat.zero_le _⟩ [0] rfl ⟨rfl, rfl⟩ rfl rfl 0 0 rfl rfl rfl rfl (Nat.le_of_ble_eq_true rfl) (ff_cons (ml_fst _ _ _ _ _ _) (ff_nil)) (ws' := [ml m cI S (m_set (m_kpa M 128 S) 192 false)]) rfl ?_
  refine G.il X dX7_askThen_61 0 rfl ?_
  exact G.iret X Rr (v := b2i (w_wat (w_dayN S n))) dX7_askThen_63 (pie_mk (qk (((Mq.rf 64 M).tr (mq_kpa M 128 S) (by decide)).tr (mq_set 64 (m_kpa M 128 S) 192 false) (Nat.le_refl _))) (by rfl) (by rfl))

set_option maxRecDepth 20000 in
theorem tX7_quietAt (l : Launch) (D : va_G) (cI cW : ClassId) (m : Nat → Nat) (S : WS) (M : MS) (t : Nat) (hS : Ok S) (hco : m_co M = false) (ht : t < 9) : CT l D cI cW yX7_quietAt cX7_quietAt 4 (some .int) ⟨4, 0, 0, 86⟩ [.ref (m 0), .int (nI t)] ([ml m cI S M]) (PIE (o2i (fi (w_qz S t) 100)) (fun M9 : {M9 : MS // Mq 128 M M9} => [ml m cI S M9.1])) := by
  refine CT.of RX7 rfl (by decide +kernel) (Nat.le_of_ble_eq_true rfl) [(0, .ref (m 0)), (1, .int (nI t))] rfl (fun x X Rr hnm => ?_)
  have hth := hS.th
  have hpe := hS.pe
  refine G.al X dX7_quietAt_0 0 rfl ?_
  refine G.cvv X kX7_thinks lX7_211 dX7_quietAt_1 (tX7_thinks l D cI cW m S M) ⟨Nat.le_of_ble_eq_true rfl, Nat.le_of_ble_eq_true rfl⟩ ⟨Nat.zero_le _, Nat.zero_le _⟩ [0] rfl ⟨rfl, rfl⟩ rfl rfl 0 0 rfl rfl rfl rfl (Nat.le_of_ble_eq_true rfl) (ff_cons (ml_fst _ _ _ _ _ _) (ff_nil)) (ws' := [ml m cI S (m_kpa M 128 S)]) rfl ?_
  refine G.pu X dX7_quietAt_4 ?_
  refine G.is X dX7_quietAt_6 (by decide) (lv' := [(2, .int (-9)), (0, .ref (m 0)), (1, .int (nI t))]) rfl ?_
  refine G.pu X dX7_quietAt_7 ?_
  refine G.is X dX7_quietAt_8 (by decide) (lv' := [(3, .int 0), (2, .int (-9)), (0, .ref (m 0)), (1, .int (nI t))]) rfl ?_
  have L9 : ∀ k, k ≤ 100 → (∀ j, j < k → (w_qz S t) j = false) → G x 0 0 ([ml m cI (w_dayN S k) (m_kpa M 128 S)]) 9 [(3, .int (nI k)), (2, .int (-9)), (0, .ref (m 0)), (1, .int (nI t))] [] := by
    refine loop_dn 100 _ ?_ ?_
    · intro hinv9
      refine G.il X dX7_quietAt_9 0 rfl ?_
      refine G.pu X dX7_quietAt_10 ?_
      refine G.n_gt X (a := 100) (b := 99) (by omega) (by omega) dX7_quietAt_12 (fun b12 => ?_) (fun b12 => absurd b12 (by omega))
      refine G.al X dX7_quietAt_45 2 rfl ?_
      refine G.cvv X kX7_forgets lX7_214 dX7_quietAt_46 (tX7_forgets l D cI cW m (w_dayN S 100) (m_kpa M 128 S) S (kpall_KP _ 128 S)) ⟨Nat.le_of_ble_eq_true rfl, Nat.le_of_ble_eq_true rfl⟩ ⟨Nat.zero_le _, Nat.zero_le _⟩ [0] rfl ⟨rfl, rfl⟩ rfl rfl 0 0 rfl rfl rfl rfl (Nat.le_of_ble_eq_true rfl) (ff_cons (ml_fst _ _ _ _ _ _) (ff_nil)) (ws' := [ml m cI S (m_set (m_kpa M 128 S) 192 false)]) rfl ?_
      refine G.il X dX7_quietAt_49 1 rfl ?_
      exact G.iret X Rr (v := (-9)) dX7_quietAt_50 (pie_mk (qk (((Mq.rf 128 M).tr (mq_kpa M 128 S) (by decide)).tr (mq_set 128 (m_kpa M 128 S) 192 false) (Nat.le_refl _))) (by rw [fi_none (P := w_qz S t) hinv9]; rfl) (by rfl))
    · intro k hk ih9 hinv9
      have hT : Ok (w_dayN S k) := ok_dayN hS k
      have f1 : s_th (w_dayN S k) = s_th S := (fr_dayN S k).2.1
      refine G.il X dX7_quietAt_9 0 rfl ?_
      refine G.pu X dX7_quietAt_10 ?_
      refine G.n_gt X (a := k) (b := 99) (by omega) (by omega) dX7_quietAt_12 (fun b12 => absurd b12 (by omega)) (fun b12 => ?_)
      refine G.il X dX7_quietAt_15 1 rfl ?_
      refine G.z_ge X (a := (-9)) dX7_quietAt_16 (fun b16 => absurd b16 (by decide)) (fun b16 => ?_)
      refine G.al X dX7_quietAt_19 2 rfl ?_
      refine G.get X fX7_34 dX7_quietAt_20 0 0 rfl rfl rfl ?_
      refine G.il X dX7_quietAt_23 3 rfl ?_
      refine G.nld X (i := t) dX7_quietAt_24 0 9 rfl rfl (by omega) (by decide) ?_
      refine G.z_ne X (a := ((s_le (w_dayN S k)) t)) dX7_quietAt_25 (fun b25 => ?_) (fun b25 => ?_)
      · refine G.pu X dX7_quietAt_32 ?_
        refine G.is X dX7_quietAt_34 (by decide) (lv' := [(2, .int (-9)), (3, .int (nI k)), (0, .ref (m 0)), (1, .int (nI t))]) rfl ?_
        refine G.al X dX7_quietAt_35 2 rfl ?_
        refine G.cvv X kX7_goesDay lX7_199 dX7_quietAt_36 (tX7_goesDay l D cI cW m (w_dayN S k) (m_kpa M 128 S) hT hco) ⟨Nat.le_of_ble_eq_true rfl, Nat.le_of_ble_eq_true rfl⟩ ⟨Nat.zero_le _, Nat.zero_le _⟩ [0] rfl ⟨rfl, rfl⟩ rfl rfl 0 0 rfl rfl rfl rfl (Nat.le_of_ble_eq_true rfl) (ff_cons (ml_fst _ _ _ _ _ _) (ff_nil)) (ws' := [ml m cI (w_day true (w_dayN S k)) (m_kpa M 128 S)]) rfl ?_
        refine G.iinc X dX7_quietAt_39 1 rfl (v' := nI (k + 1)) (nI_inc k) (by decide) (lv' := [(3, .int (nI (k + 1))), (2, .int (-9)), (0, .ref (m 0)), (1, .int (nI t))]) rfl ?_
        refine G.go X dX7_quietAt_42 ?_
        exact ih9 (lt_snoc hinv9 (by simp [w_qz, b12, b25]))
      · refine G.il X dX7_quietAt_28 0 rfl ?_
        refine G.go X dX7_quietAt_29 ?_
        refine G.is X dX7_quietAt_34 (by decide) (lv' := [(2, .int (nI k)), (3, .int (nI k)), (0, .ref (m 0)), (1, .int (nI t))]) rfl ?_
        refine G.al X dX7_quietAt_35 2 rfl ?_
        refine G.cvv X kX7_goesDay lX7_199 dX7_quietAt_36 (tX7_goesDay l D cI cW m (w_dayN S k) (m_kpa M 128 S) hT hco) ⟨Nat.le_of_ble_eq_true rfl, Nat.le_of_ble_eq_true rfl⟩ ⟨Nat.zero_le _, Nat.zero_le _⟩ [0] rfl ⟨rfl, rfl⟩ rfl rfl 0 0 rfl rfl rfl rfl (Nat.le_of_ble_eq_true rfl) (ff_cons (ml_fst _ _ _ _ _ _) (ff_nil)) (ws' := [ml m cI (w_day true (w_dayN S k)) (m_kpa M 128 S)]) rfl ?_
        refine G.iinc X dX7_quietAt_39 1 rfl (v' := nI (k + 1)) (nI_inc k) (by decide) (lv' := [(3, .int (nI (k + 1))), (2, .int (nI k)), (0, .ref (m 0)), (1, .int (nI t))]) rfl ?_
        refine G.go X dX7_quietAt_42 ?_
        refine G.il X dX7_quietAt_9 0 rfl ?_
        refine G.pu X dX7_quietAt_10 ?_
        refine G.n_gt X (a := k + 1) (b := 99) (by omega) (by omega) dX7_quietAt_12 (fun b12_2 => ?_) (fun b12_2 => ?_)
        · refine G.al X dX7_quietAt_45 2 rfl ?_
          refine G.cvv X kX7_forgets lX7_214 dX7_quietAt_46 (tX7_forgets l D cI cW m (w_day true (w_dayN S k)) (m_kpa M 128 S) S (kpall_KP _ 128 S)) ⟨Nat.le_of_ble_eq_true rfl, Nat.le_of_ble_eq_true rfl⟩ ⟨Nat.zero_le _, Nat.zero_le _⟩ [0] rfl ⟨rfl, rfl⟩ rfl rfl 0 0 rfl rfl rfl rfl (Nat.le_of_ble_eq_true rfl) (ff_cons (ml_fst _ _ _ _ _ _) (ff_nil)) (ws' := [ml m cI S (m_set (m_kpa M 128 S) 192 false)]) rfl ?_
          refine G.il X dX7_quietAt_49 1 rfl ?_
          exact G.iret X Rr (v := nI k) dX7_quietAt_50 (pie_mk (qk (((Mq.rf 128 M).tr (mq_kpa M 128 S) (by decide)).tr (mq_set 128 (m_kpa M 128 S) 192 false) (Nat.le_refl _))) (by rw [fi_hit (P := w_qz S t) hinv9 (by simp [w_qz, b25]) hk]; rfl) (by rfl))
        · refine G.il X dX7_quietAt_15 1 rfl ?_
          refine G.z_ge X (a := nI k) dX7_quietAt_16 (fun b16 => ?_) (fun b16 => absurd b16 (nI_pos (by omega)))
          refine G.al X dX7_quietAt_45 2 rfl ?_
          refine G.cvv X kX7_forgets lX7_214 dX7_quietAt_46 (tX7_forgets l D cI cW m (w_day true (w_dayN S k)) (m_kpa M 128 S) S (kpall_KP _ 128 S)) ⟨Nat.le_of_ble_eq_true rfl, Nat.le_of_ble_eq_true rfl⟩ ⟨Nat.zero_le _, Nat.zero_le _⟩ [0] rfl ⟨rfl, rfl⟩ rfl rfl 0 0 rfl rfl rfl rfl (Nat.le_of_ble_eq_true rfl) (ff_cons (ml_fst _ _ _ _ _ _) (ff_nil)) (ws' := [ml m cI S (m_set (m_kpa M 128 S) 192 false)]) rfl ?_
          refine G.il X dX7_quietAt_49 1 rfl ?_
          exact G.iret X Rr (v := nI k) dX7_quietAt_50 (pie_mk (qk (((Mq.rf 128 M).tr (mq_kpa M 128 S) (by decide)).tr (mq_set 128 (m_kpa M 128 S) 192 false) (Nat.le_refl _))) (by rw [fi_hit (P := w_qz S t) hinv9 (by simp [w_qz, b25]) hk]; rfl) (by rfl))
  have L9 := L9 0 (Nat.zero_le _) (fun j hj => absurd hj (by omega))
  exact L9

set_option maxRecDepth 20000 in
theorem tX7_quiet_bad (l : Launch) (D : va_G) (cI cW : ClassId) (m : Nat → Nat) (S : WS) (M : MS) (p : Int32) (hS : Ok S) (hp : z_in p (s_th S) = false) : CT l D cI cW yX7_quiet cX7_quiet 2 (some .int) ⟨1, 0, 0, 21⟩ [.ref (m 0), .int p] ([ml m cI S M]) (PI (-1) ([ml m cI S (m_no M 1)])) := by
  refine CT.of RX7 rfl (by decide +kernel) (Nat.le_of_ble_eq_true rfl) [(0, .ref (m 0)), (1, .int p)] rfl (fun x X Rr hnm => ?_)
  have hth := hS.th
  have hpe := hS.pe
  refine G.al X dX7_quiet_0 0 rfl ?_
  refine G.il X dX7_quiet_1 1 rfl ?_
  refine G.cvi X kX7_isThing lX7_126 dX7_quiet_2 (tX7_isThing l D cI cW m S M p) ⟨Nat.le_of_ble_eq_true rfl, Nat.le_of_ble_eq_true rfl⟩ ⟨Nat.zero_le _, Nat.zero_le _⟩ [0] rfl ⟨rfl, rfl⟩ rfl rfl 0 0 rfl rfl rfl rfl (Nat.le_of_ble_eq_true rfl) (ff_cons (ml_fst _ _ _ _ _ _) (ff_nil)) (ws' := [ml m cI S M]) rfl ?_
  refine G.b_eq X dX7_quiet_5 (fun b5 => ?_) (fun b5 => absurd (Eq.trans (Eq.symm hp) b5) (by decide))
  refine G.al X dX7_quiet_16 0 rfl ?_
  refine G.pu X dX7_quiet_17 ?_
  refine G.cvi X kX7_no lX7_74 dX7_quiet_18 (tX7_no l D cI cW m S M 1 (by omega) (by omega)) ⟨Nat.le_of_ble_eq_true rfl, Nat.le_of_ble_eq_true rfl⟩ ⟨Nat.zero_le _, Nat.zero_le _⟩ [0] rfl ⟨rfl, rfl⟩ rfl rfl 0 0 rfl rfl rfl rfl (Nat.le_of_ble_eq_true rfl) (ff_cons (ml_fst _ _ _ _ _ _) (ff_nil)) (ws' := [ml m cI S (m_no M 1)]) rfl ?_
  exact G.iret X Rr (v := (-(nI 1))) dX7_quiet_21 (pi_mk (by rfl) (by rfl))

set_option maxRecDepth 20000 in
theorem tX7_quiet_ok (l : Launch) (D : va_G) (cI cW : ClassId) (m : Nat → Nat) (S : WS) (M : MS) (p : Nat) (hS : Ok S) (hco : m_co M = false) (hp : p < s_th S) : CT l D cI cW yX7_quiet cX7_quiet 2 (some .int) ⟨5, 0, 0, 109⟩ [.ref (m 0), .int (nI p)] ([ml m cI S M]) (PIE (o2i (fi (w_qz S p) 100)) (fun M9 : {M9 : MS // Mq 64 M M9} => [ml m cI S M9.1])) := by
  refine CT.of RX7 rfl (by decide +kernel) (Nat.le_of_ble_eq_true rfl) [(0, .ref (m 0)), (1, .int (nI p))] rfl (fun x X Rr hnm => ?_)
  have hth := hS.th
  have hpe := hS.pe
  refine G.al X dX7_quiet_0 0 rfl ?_
  refine G.il X dX7_quiet_1 1 rfl ?_
  refine G.cvi X kX7_isThing lX7_126 dX7_quiet_2 (tX7_isThing l D cI cW m S M (nI p)) ⟨Nat.le_of_ble_eq_true rfl, Nat.le_of_ble_eq_true rfl⟩ ⟨Nat.zero_le _, Nat.zero_le _⟩ [0] rfl ⟨rfl, rfl⟩ rfl rfl 0 0 rfl rfl rfl rfl (Nat.le_of_ble_eq_true rfl) (ff_cons (ml_fst _ _ _ _ _ _) (ff_nil)) (ws' := [ml m cI S M]) rfl ?_
  refine G.b_eq X dX7_quiet_5 (fun b5 => absurd (Eq.trans (Eq.symm (z_in_nI hp (by omega))) b5) (by decide)) (fun b5 => ?_)
  refine G.al X dX7_quiet_8 0 rfl ?_
  refine G.il X dX7_quiet_9 1 rfl ?_
  refine G.cvie X kX7_quietAt lX7_217 dX7_quiet_10 (tX7_quietAt l D cI cW m S M p hS hco (by omega)) ⟨Nat.le_of_ble_eq_true rfl, Nat.le_of_ble_eq_true rfl⟩ ⟨Nat.zero_le _, Nat.zero_le _⟩ [0] rfl ⟨rfl, rfl⟩ rfl rfl 0 0 rfl rfl rfl rfl (Nat.le_of_ble_eq_true rfl) (fun _ => (ff_cons (ml_fst _ _ _ _ _ _) (ff_nil))) (f8 := fun M9_10 : {M9_10 : MS // Mq 128 M M9_10} => [ml m cI S M9_10.1]) (fun _ => rfl) (fun M9_10 => ?_)
  refine G.go X dX7_quiet_13 ?_
  exact G.iret X Rr (v := (o2i (fi (w_qz S p) 100))) dX7_quiet_21 (pie_mk (qk ((Mq.rf 64 M).tr M9_10.2 (by decide))) (by rfl) (by rfl))

set_option maxRecDepth 20000 in
theorem tX7_isFirst_0 (l : Launch) (D : va_G) (cI cW : ClassId) (m : Nat → Nat) (S : WS) (M : MS) (hth : s_th S ≤ 9) : CT l D cI cW yX7_isFirst cX7_isFirst 2 (some .boolean) ⟨3, 0, 0, 63⟩ [.ref (m 0), .int 0] ([ml m cI S M]) (PI (b2i (w_isf S 0)) ([ml m cI S M])) := by
  refine CT.of RX7 rfl (by decide +kernel) (Nat.le_of_ble_eq_true rfl) [(0, .ref (m 0)), (1, .int 0)] rfl (fun x X Rr hnm => ?_)
  refine G.il X dX7_isFirst_0 1 rfl ?_
  refine G.z_ne X (a := 0) dX7_isFirst_1 (fun b1 => absurd b1 (by decide)) (fun b1 => ?_)
  refine G.al X dX7_isFirst_4 0 rfl ?_
  refine G.cvi X kX7_water lX7_205 dX7_isFirst_5 (tX7_water l D cI cW m S M hth) ⟨Nat.le_of_ble_eq_true rfl, Nat.le_of_ble_eq_true rfl⟩ ⟨Nat.zero_le _, Nat.zero_le _⟩ [0] rfl ⟨rfl, rfl⟩ rfl rfl 0 0 rfl rfl rfl rfl (Nat.le_of_ble_eq_true rfl) (ff_cons (ml_fst _ _ _ _ _ _) (ff_nil)) (ws' := [ml m cI S M]) rfl ?_
  refine G.b_ne X dX7_isFirst_8 (fun b8 => ?_) (fun b8 => ?_)
  · refine G.pu X dX7_isFirst_15 ?_
    refine G.go X dX7_isFirst_16 ?_
    exact G.zret X Rr (v := 0) (Or.inl rfl) dX7_isFirst_52 (pi_mk (by simp [w_isf, b2i, b8]) (by rfl))
  · refine G.pu X dX7_isFirst_11 ?_
    refine G.go X dX7_isFirst_12 ?_
    exact G.zret X Rr (v := 1) (Or.inr rfl) dX7_isFirst_52 (pi_mk (by simp [w_isf, b2i, b8]) (by rfl))

set_option maxRecDepth 20000 in
theorem tX7_isFirst_1 (l : Launch) (D : va_G) (cI cW : ClassId) (m : Nat → Nat) (S : WS) (M : MS) (hth : s_th S ≤ 9) : CT l D cI cW yX7_isFirst cX7_isFirst 2 (some .boolean) ⟨3, 0, 0, 63⟩ [.ref (m 0), .int 1] ([ml m cI S M]) (PI (b2i (w_isf S 1)) ([ml m cI S M])) := by
  refine CT.of RX7 rfl (by decide +kernel) (Nat.le_of_ble_eq_true rfl) [(0, .ref (m 0)), (1, .int 1)] rfl (fun x X Rr hnm => ?_)
  refine G.il X dX7_isFirst_0 1 rfl ?_
  refine G.z_ne X (a := 1) dX7_isFirst_1 (fun b1 => ?_) (fun b1 => absurd b1 (by decide))
  refine G.il X dX7_isFirst_19 1 rfl ?_
  refine G.pu X dX7_isFirst_20 ?_
  refine G.c_ne X (a := 1) (b := 1) dX7_isFirst_21 (fun b21 => absurd b21 (by decide)) (fun b21 => ?_)
  refine G.al X dX7_isFirst_24 0 rfl ?_
  refine G.cvi X kX7_water lX7_205 dX7_isFirst_25 (tX7_water l D cI cW m S M hth) ⟨Nat.le_of_ble_eq_true rfl, Nat.le_of_ble_eq_true rfl⟩ ⟨Nat.zero_le _, Nat.zero_le _⟩ [0] rfl ⟨rfl, rfl⟩ rfl rfl 0 0 rfl rfl rfl rfl (Nat.le_of_ble_eq_true rfl) (ff_cons (ml_fst _ _ _ _ _ _) (ff_nil)) (ws' := [ml m cI S M]) rfl ?_
  refine G.pu X dX7_isFirst_28 ?_
  refine G.b1_ne X dX7_isFirst_29 (fun b29 => ?_) (fun b29 => ?_)
  · refine G.pu X dX7_isFirst_36 ?_
    refine G.go X dX7_isFirst_37 ?_
    exact G.zret X Rr (v := 0) (Or.inl rfl) dX7_isFirst_52 (pi_mk (by simp [w_isf, b2i, b29]) (by rfl))
  · refine G.pu X dX7_isFirst_32 ?_
    refine G.go X dX7_isFirst_33 ?_
    exact G.zret X Rr (v := 1) (Or.inr rfl) dX7_isFirst_52 (pi_mk (by simp [w_isf, b2i, b29]) (by rfl))

set_option maxRecDepth 20000 in
theorem tX7_isFirst_2 (l : Launch) (D : va_G) (cI cW : ClassId) (m : Nat → Nat) (S : WS) (M : MS) (hth : s_th S ≤ 9) : CT l D cI cW yX7_isFirst cX7_isFirst 2 (some .boolean) ⟨1, 0, 0, 22⟩ [.ref (m 0), .int 2] ([ml m cI S M]) (PI (b2i (w_isf S 2)) ([ml m cI S M])) := by
  refine CT.of RX7 rfl (by decide +kernel) (Nat.le_of_ble_eq_true rfl) [(0, .ref (m 0)), (1, .int 2)] rfl (fun x X Rr hnm => ?_)
  refine G.il X dX7_isFirst_0 1 rfl ?_
  refine G.z_ne X (a := 2) dX7_isFirst_1 (fun b1 => ?_) (fun b1 => absurd b1 (by decide))
  refine G.il X dX7_isFirst_19 1 rfl ?_
  refine G.pu X dX7_isFirst_20 ?_
  refine G.c_ne X (a := 2) (b := 1) dX7_isFirst_21 (fun b21 => ?_) (fun b21 => absurd b21 (by decide))
  refine G.al X dX7_isFirst_40 0 rfl ?_
  refine G.cvi X kX7_allLeft lX7_220 dX7_isFirst_41 (tX7_allLeft l D cI cW m S M hth) ⟨Nat.le_of_ble_eq_true rfl, Nat.le_of_ble_eq_true rfl⟩ ⟨Nat.zero_le _, Nat.zero_le _⟩ [0] rfl ⟨rfl, rfl⟩ rfl rfl 0 0 rfl rfl rfl rfl (Nat.le_of_ble_eq_true rfl) (ff_cons (ml_fst _ _ _ _ _ _) (ff_nil)) (ws' := [ml m cI S M]) rfl ?_
  refine G.z_ne X (a := (sumf (s_le S) (s_th S))) dX7_isFirst_44 (fun b44 => ?_) (fun b44 => ?_)
  · refine G.pu X dX7_isFirst_51 ?_
    exact G.zret X Rr (v := 0) (Or.inl rfl) dX7_isFirst_52 (pi_mk (by simp [w_isf, b2i, b44]) (by rfl))
  · refine G.pu X dX7_isFirst_47 ?_
    refine G.go X dX7_isFirst_48 ?_
    exact G.zret X Rr (v := 1) (Or.inr rfl) dX7_isFirst_52 (pi_mk (by simp [w_isf, b2i, b44]) (by rfl))

set_option maxRecDepth 20000 in
theorem tX7_firstAt_0 (l : Launch) (D : va_G) (cI cW : ClassId) (m : Nat → Nat) (S : WS) (M : MS) (hS : Ok S) (hco : m_co M = false) : CT l D cI cW yX7_firstAt cX7_firstAt 4 (some .int) ⟨4, 0, 0, 86⟩ [.ref (m 0), .int 0] ([ml m cI S M]) (PIE (o2i (fi (fun d => w_isf (w_dayN S d) 0) 100)) (fun M9 : {M9 : MS // Mq 128 M M9} => [ml m cI S M9.1])) := by
  refine CT.of RX7 rfl (by decide +kernel) (Nat.le_of_ble_eq_true rfl) [(0, .ref (m 0)), (1, .int 0)] rfl (fun x X Rr hnm => ?_)
  have hth := hS.th
  have hpe := hS.pe
  refine G.al X dX7_firstAt_0 0 rfl ?_
  refine G.cvv X kX7_thinks lX7_211 dX7_firstAt_1 (tX7_thinks l D cI cW m S M) ⟨Nat.le_of_ble_eq_true rfl, Nat.le_of_ble_eq_true rfl⟩ ⟨Nat.zero_le _, Nat.zero_le _⟩ [0] rfl ⟨rfl, rfl⟩ rfl rfl 0 0 rfl rfl rfl rfl (Nat.le_of_ble_eq_true rfl) (ff_cons (ml_fst _ _ _ _ _ _) (ff_nil)) (ws' := [ml m cI S (m_kpa M 128 S)]) rfl ?_
  refine G.pu X dX7_firstAt_4 ?_
  refine G.is X dX7_firstAt_6 (by decide) (lv' := [(2, .int (-9)), (0, .ref (m 0)), (1, .int 0)]) rfl ?_
  refine G.pu X dX7_firstAt_7 ?_
  refine G.is X dX7_firstAt_8 (by decide) (lv' := [(3, .int 0), (2, .int (-9)), (0, .ref (m 0)), (1, .int 0)]) rfl ?_
  have L9 : ∀ k, k ≤ 100 → (∀ j, j < k → (fun d => w_isf (w_dayN S d) 0) j = false) → G x 0 0 ([ml m cI (w_dayN S k) (m_kpa M 128 S)]) 9 [(3, .int (nI k)), (2, .int (-9)), (0, .ref (m 0)), (1, .int 0)] [] := by
    refine loop_dn 100 _ ?_ ?_
    · intro hinv9
      refine G.il X dX7_firstAt_9 0 rfl ?_
      refine G.pu X dX7_firstAt_10 ?_
      refine G.n_gt X (a := 100) (b := 99) (by omega) (by omega) dX7_firstAt_12 (fun b12 => ?_) (fun b12 => absurd b12 (by omega))
      refine G.al X dX7_firstAt_44 2 rfl ?_
      refine G.cvv X kX7_forgets lX7_214 dX7_firstAt_45 (tX7_forgets l D cI cW m (w_dayN S 100) (m_kpa M 128 S) S (kpall_KP _ 128 S)) ⟨Nat.le_of_ble_eq_true rfl, Nat.le_of_ble_eq_true rfl⟩ ⟨Nat.zero_le _, Nat.zero_le _⟩ [0] rfl ⟨rfl, rfl⟩ rfl rfl 0 0 rfl rfl rfl rfl (Nat.le_of_ble_eq_true rfl) (ff_cons (ml_fst _ _ _ _ _ _) (ff_nil)) (ws' := [ml m cI S (m_set (m_kpa M 128 S) 192 false)]) rfl ?_
      refine G.il X dX7_firstAt_48 1 rfl ?_
      exact G.iret X Rr (v := (-9)) dX7_firstAt_49 (pie_mk (qk (((Mq.rf 128 M).tr (mq_kpa M 128 S) (by decide)).tr (mq_set 128 (m_kpa M 128 S) 192 false) (Nat.le_refl _))) (by rw [fi_none (P := fun d => w_isf (w_dayN S d) 0) hinv9]; rfl) (by rfl))
    · intro k hk ih9 hinv9
      have hT : Ok (w_dayN S k) := ok_dayN hS k
      have f1 : s_th (w_dayN S k) = s_th S := (fr_dayN S k).2.1
      refine G.il X dX7_firstAt_9 0 rfl ?_
      refine G.pu X dX7_firstAt_10 ?_
      refine G.n_gt X (a := k) (b := 99) (by omega) (by omega) dX7_firstAt_12 (fun b12 => absurd b12 (by omega)) (fun b12 => ?_)
      refine G.il X dX7_firstAt_15 1 rfl ?_
      refine G.z_ge X (a := (-9)) dX7_firstAt_16 (fun b16 => absurd b16 (by decide)) (fun b16 => ?_)
      refine G.al X dX7_firstAt_19 2 rfl ?_
      refine G.il X dX7_firstAt_20 3 rfl ?_
      refine G.cvi X kX7_isFirst lX7_223 dX7_firstAt_21 (tX7_isFirst_0 l D cI cW m (w_dayN S k) (m_kpa M 128 S) hT.th) ⟨Nat.le_of_ble_eq_true rfl, Nat.le_of_ble_eq_true rfl⟩ ⟨Nat.zero_le _, Nat.zero_le _⟩ [0] rfl ⟨rfl, rfl⟩ rfl rfl 0 0 rfl rfl rfl rfl (Nat.le_of_ble_eq_true rfl) (ff_cons (ml_fst _ _ _ _ _ _) (ff_nil)) (ws' := [ml m cI (w_dayN S k) (m_kpa M 128 S)]) rfl ?_
      refine G.b_eq X dX7_firstAt_24 (fun b24 => ?_) (fun b24 => ?_)
      · refine G.pu X dX7_firstAt_31 ?_
        refine G.is X dX7_firstAt_33 (by decide) (lv' := [(2, .int (-9)), (3, .int (nI k)), (0, .ref (m 0)), (1, .int 0)]) rfl ?_
        refine G.al X dX7_firstAt_34 2 rfl ?_
        refine G.cvv X kX7_goesDay lX7_199 dX7_firstAt_35 (tX7_goesDay l D cI cW m (w_dayN S k) (m_kpa M 128 S) hT hco) ⟨Nat.le_of_ble_eq_true rfl, Nat.le_of_ble_eq_true rfl⟩ ⟨Nat.zero_le _, Nat.zero_le _⟩ [0] rfl ⟨rfl, rfl⟩ rfl rfl 0 0 rfl rfl rfl rfl (Nat.le_of_ble_eq_true rfl) (ff_cons (ml_fst _ _ _ _ _ _) (ff_nil)) (ws' := [ml m cI (w_day true (w_dayN S k)) (m_kpa M 128 S)]) rfl ?_
        refine G.iinc X dX7_firstAt_38 1 rfl (v' := nI (k + 1)) (nI_inc k) (by decide) (lv' := [(3, .int (nI (k + 1))), (2, .int (-9)), (0, .ref (m 0)), (1, .int 0)]) rfl ?_
        refine G.go X dX7_firstAt_41 ?_
        exact ih9 (lt_snoc hinv9 b24)
      · refine G.il X dX7_firstAt_27 0 rfl ?_
        refine G.go X dX7_firstAt_28 ?_
        refine G.is X dX7_firstAt_33 (by decide) (lv' := [(2, .int (nI k)), (3, .int (nI k)), (0, .ref (m 0)), (1, .int 0)]) rfl ?_
        refine G.al X dX7_firstAt_34 2 rfl ?_
        refine G.cvv X kX7_goesDay lX7_199 dX7_firstAt_35 (tX7_goesDay l D cI cW m (w_dayN S k) (m_kpa M 128 S) hT hco) ⟨Nat.le_of_ble_eq_true rfl, Nat.le_of_ble_eq_true rfl⟩ ⟨Nat.zero_le _, Nat.zero_le _⟩ [0] rfl ⟨rfl, rfl⟩ rfl rfl 0 0 rfl rfl rfl rfl (Nat.le_of_ble_eq_true rfl) (ff_cons (ml_fst _ _ _ _ _ _) (ff_nil)) (ws' := [ml m cI (w_day true (w_dayN S k)) (m_kpa M 128 S)]) rfl ?_
        refine G.iinc X dX7_firstAt_38 1 rfl (v' := nI (k + 1)) (nI_inc k) (by decide) (lv' := [(3, .int (nI (k + 1))), (2, .int (nI k)), (0, .ref (m 0)), (1, .int 0)]) rfl ?_
        refine G.go X dX7_firstAt_41 ?_
        refine G.il X dX7_firstAt_9 0 rfl ?_
        refine G.pu X dX7_firstAt_10 ?_
        refine G.n_gt X (a := k + 1) (b := 99) (by omega) (by omega) dX7_firstAt_12 (fun b12_2 => ?_) (fun b12_2 => ?_)
        · refine G.al X dX7_firstAt_44 2 rfl ?_
          refine G.cvv X kX7_forgets lX7_214 dX7_firstAt_45 (tX7_forgets l D cI cW m (w_day true (w_dayN S k)) (m_kpa M 128 S) S (kpall_KP _ 128 S)) ⟨Nat.le_of_ble_eq_true rfl, Nat.le_of_ble_eq_true rfl⟩ ⟨Nat.zero_le _, Nat.zero_le _⟩ [0] rfl ⟨rfl, rfl⟩ rfl rfl 0 0 rfl rfl rfl rfl (Nat.le_of_ble_eq_true rfl) (ff_cons (ml_fst _ _ _ _ _ _) (ff_nil)) (ws' := [ml m cI S (m_set (m_kpa M 128 S) 192 false)]) rfl ?_
          refine G.il X dX7_firstAt_48 1 rfl ?_
          exact G.iret X Rr (v := nI k) dX7_firstAt_49 (pie_mk (qk (((Mq.rf 128 M).tr (mq_kpa M 128 S) (by decide)).tr (mq_set 128 (m_kpa M 128 S) 192 false) (Nat.le_refl _))) (by rw [fi_hit (P := fun d => w_isf (w_dayN S d) 0) hinv9 (by exact b24) hk]; rfl) (by rfl))
        · refine G.il X dX7_firstAt_15 1 rfl ?_
          refine G.z_ge X (a := nI k) dX7_firstAt_16 (fun b16 => ?_) (fun b16 => absurd b16 (nI_pos (by omega)))
          refine G.al X dX7_firstAt_44 2 rfl ?_
          refine G.cvv X kX7_forgets lX7_214 dX7_firstAt_45 (tX7_forgets l D cI cW m (w_day true (w_dayN S k)) (m_kpa M 128 S) S (kpall_KP _ 128 S)) ⟨Nat.le_of_ble_eq_true rfl, Nat.le_of_ble_eq_true rfl⟩ ⟨Nat.zero_le _, Nat.zero_le _⟩ [0] rfl ⟨rfl, rfl⟩ rfl rfl 0 0 rfl rfl rfl rfl (Nat.le_of_ble_eq_true rfl) (ff_cons (ml_fst _ _ _ _ _ _) (ff_nil)) (ws' := [ml m cI S (m_set (m_kpa M 128 S) 192 false)]) rfl ?_
          refine G.il X dX7_firstAt_48 1 rfl ?_
          exact G.iret X Rr (v := nI k) dX7_firstAt_49 (pie_mk (qk (((Mq.rf 128 M).tr (mq_kpa M 128 S) (by decide)).tr (mq_set 128 (m_kpa M 128 S) 192 false) (Nat.le_refl _))) (by rw [fi_hit (P := fun d => w_isf (w_dayN S d) 0) hinv9 (by exact b24) hk]; rfl) (by rfl))
  have L9 := L9 0 (Nat.zero_le _) (fun j hj => absurd hj (by omega))
  exact L9

set_option maxRecDepth 20000 in
theorem tX7_firstAt_1 (l : Launch) (D : va_G) (cI cW : ClassId) (m : Nat → Nat) (S : WS) (M : MS) (hS : Ok S) (hco : m_co M = false) : CT l D cI cW yX7_firstAt cX7_firstAt 4 (some .int) ⟨4, 0, 0, 86⟩ [.ref (m 0), .int 1] ([ml m cI S M]) (PIE (o2i (fi (fun d => w_isf (w_dayN S d) 1) 100)) (fun M9 : {M9 : MS // Mq 128 M M9} => [ml m cI S M9.1])) := by
  refine CT.of RX7 rfl (by decide +kernel) (Nat.le_of_ble_eq_true rfl) [(0, .ref (m 0)), (1, .int 1)] rfl (fun x X Rr hnm => ?_)
  have hth := hS.th
  have hpe := hS.pe
  refine G.al X dX7_firstAt_0 0 rfl ?_
  refine G.cvv X kX7_thinks lX7_211 dX7_firstAt_1 (tX7_thinks l D cI cW m S M) ⟨Nat.le_of_ble_eq_true rfl, Nat.le_of_ble_eq_true rfl⟩ ⟨Nat.zero_le _, Nat.zero_le _⟩ [0] rfl ⟨rfl, rfl⟩ rfl rfl 0 0 rfl rfl rfl rfl (Nat.le_of_ble_eq_true rfl) (ff_cons (ml_fst _ _ _ _ _ _) (ff_nil)) (ws' := [ml m cI S (m_kpa M 128 S)]) rfl ?_
  refine G.pu X dX7_firstAt_4 ?_
  refine G.is X dX7_firstAt_6 (by decide) (lv' := [(2, .int (-9)), (0, .ref (m 0)), (1, .int 1)]) rfl ?_
  refine G.pu X dX7_firstAt_7 ?_
  refine G.is X dX7_firstAt_8 (by decide) (lv' := [(3, .int 0), (2, .int (-9)), (0, .ref (m 0)), (1, .int 1)]) rfl ?_
  have L9 : ∀ k, k ≤ 100 → (∀ j, j < k → (fun d => w_isf (w_dayN S d) 1) j = false) → G x 0 0 ([ml m cI (w_dayN S k) (m_kpa M 128 S)]) 9 [(3, .int (nI k)), (2, .int (-9)), (0, .ref (m 0)), (1, .int 1)] [] := by
    refine loop_dn 100 _ ?_ ?_
    · intro hinv9
      refine G.il X dX7_firstAt_9 0 rfl ?_
      refine G.pu X dX7_firstAt_10 ?_
      refine G.n_gt X (a := 100) (b := 99) (by omega) (by omega) dX7_firstAt_12 (fun b12 => ?_) (fun b12 => absurd b12 (by omega))
      refine G.al X dX7_firstAt_44 2 rfl ?_
      refine G.cvv X kX7_forgets lX7_214 dX7_firstAt_45 (tX7_forgets l D cI cW m (w_dayN S 100) (m_kpa M 128 S) S (kpall_KP _ 128 S)) ⟨Nat.le_of_ble_eq_true rfl, Nat.le_of_ble_eq_true rfl⟩ ⟨Nat.zero_le _, Nat.zero_le _⟩ [0] rfl ⟨rfl, rfl⟩ rfl rfl 0 0 rfl rfl rfl rfl (Nat.le_of_ble_eq_true rfl) (ff_cons (ml_fst _ _ _ _ _ _) (ff_nil)) (ws' := [ml m cI S (m_set (m_kpa M 128 S) 192 false)]) rfl ?_
      refine G.il X dX7_firstAt_48 1 rfl ?_
      exact G.iret X Rr (v := (-9)) dX7_firstAt_49 (pie_mk (qk (((Mq.rf 128 M).tr (mq_kpa M 128 S) (by decide)).tr (mq_set 128 (m_kpa M 128 S) 192 false) (Nat.le_refl _))) (by rw [fi_none (P := fun d => w_isf (w_dayN S d) 1) hinv9]; rfl) (by rfl))
    · intro k hk ih9 hinv9
      have hT : Ok (w_dayN S k) := ok_dayN hS k
      have f1 : s_th (w_dayN S k) = s_th S := (fr_dayN S k).2.1
      refine G.il X dX7_firstAt_9 0 rfl ?_
      refine G.pu X dX7_firstAt_10 ?_
      refine G.n_gt X (a := k) (b := 99) (by omega) (by omega) dX7_firstAt_12 (fun b12 => absurd b12 (by omega)) (fun b12 => ?_)
      refine G.il X dX7_firstAt_15 1 rfl ?_
      refine G.z_ge X (a := (-9)) dX7_firstAt_16 (fun b16 => absurd b16 (by decide)) (fun b16 => ?_)
      refine G.al X dX7_firstAt_19 2 rfl ?_
      refine G.il X dX7_firstAt_20 3 rfl ?_
      refine G.cvi X kX7_isFirst lX7_223 dX7_firstAt_21 (tX7_isFirst_1 l D cI cW m (w_dayN S k) (m_kpa M 128 S) hT.th) ⟨Nat.le_of_ble_eq_true rfl, Nat.le_of_ble_eq_true rfl⟩ ⟨Nat.zero_le _, Nat.zero_le _⟩ [0] rfl ⟨rfl, rfl⟩ rfl rfl 0 0 rfl rfl rfl rfl (Nat.le_of_ble_eq_true rfl) (ff_cons (ml_fst _ _ _ _ _ _) (ff_nil)) (ws' := [ml m cI (w_dayN S k) (m_kpa M 128 S)]) rfl ?_
      refine G.b_eq X dX7_firstAt_24 (fun b24 => ?_) (fun b24 => ?_)
      · refine G.pu X dX7_firstAt_31 ?_
        refine G.is X dX7_firstAt_33 (by decide) (lv' := [(2, .int (-9)), (3, .int (nI k)), (0, .ref (m 0)), (1, .int 1)]) rfl ?_
        refine G.al X dX7_firstAt_34 2 rfl ?_
        refine G.cvv X kX7_goesDay lX7_199 dX7_firstAt_35 (tX7_goesDay l D cI cW m (w_dayN S k) (m_kpa M 128 S) hT hco) ⟨Nat.le_of_ble_eq_true rfl, Nat.le_of_ble_eq_true rfl⟩ ⟨Nat.zero_le _, Nat.zero_le _⟩ [0] rfl ⟨rfl, rfl⟩ rfl rfl 0 0 rfl rfl rfl rfl (Nat.le_of_ble_eq_true rfl) (ff_cons (ml_fst _ _ _ _ _ _) (ff_nil)) (ws' := [ml m cI (w_day true (w_dayN S k)) (m_kpa M 128 S)]) rfl ?_
        refine G.iinc X dX7_firstAt_38 1 rfl (v' := nI (k + 1)) (nI_inc k) (by decide) (lv' := [(3, .int (nI (k + 1))), (2, .int (-9)), (0, .ref (m 0)), (1, .int 1)]) rfl ?_
        refine G.go X dX7_firstAt_41 ?_
        exact ih9 (lt_snoc hinv9 b24)
      · refine G.il X dX7_firstAt_27 0 rfl ?_
        refine G.go X dX7_firstAt_28 ?_
        refine G.is X dX7_firstAt_33 (by decide) (lv' := [(2, .int (nI k)), (3, .int (nI k)), (0, .ref (m 0)), (1, .int 1)]) rfl ?_
        refine G.al X dX7_firstAt_34 2 rfl ?_
        refine G.cvv X kX7_goesDay lX7_199 dX7_firstAt_35 (tX7_goesDay l D cI cW m (w_dayN S k) (m_kpa M 128 S) hT hco) ⟨Nat.le_of_ble_eq_true rfl, Nat.le_of_ble_eq_true rfl⟩ ⟨Nat.zero_le _, Nat.zero_le _⟩ [0] rfl ⟨rfl, rfl⟩ rfl rfl 0 0 rfl rfl rfl rfl (Nat.le_of_ble_eq_true rfl) (ff_cons (ml_fst _ _ _ _ _ _) (ff_nil)) (ws' := [ml m cI (w_day true (w_dayN S k)) (m_kpa M 128 S)]) rfl ?_
        refine G.iinc X dX7_firstAt_38 1 rfl (v' := nI (k + 1)) (nI_inc k) (by decide) (lv' := [(3, .int (nI (k + 1))), (2, .int (nI k)), (0, .ref (m 0)), (1, .int 1)]) rfl ?_
        refine G.go X dX7_firstAt_41 ?_
        refine G.il X dX7_firstAt_9 0 rfl ?_
        refine G.pu X dX7_firstAt_10 ?_
        refine G.n_gt X (a := k + 1) (b := 99) (by omega) (by omega) dX7_firstAt_12 (fun b12_2 => ?_) (fun b12_2 => ?_)
        · refine G.al X dX7_firstAt_44 2 rfl ?_
          refine G.cvv X kX7_forgets lX7_214 dX7_firstAt_45 (tX7_forgets l D cI cW m (w_day true (w_dayN S k)) (m_kpa M 128 S) S (kpall_KP _ 128 S)) ⟨Nat.le_of_ble_eq_true rfl, Nat.le_of_ble_eq_true rfl⟩ ⟨Nat.zero_le _, Nat.zero_le _⟩ [0] rfl ⟨rfl, rfl⟩ rfl rfl 0 0 rfl rfl rfl rfl (Nat.le_of_ble_eq_true rfl) (ff_cons (ml_fst _ _ _ _ _ _) (ff_nil)) (ws' := [ml m cI S (m_set (m_kpa M 128 S) 192 false)]) rfl ?_
          refine G.il X dX7_firstAt_48 1 rfl ?_
          exact G.iret X Rr (v := nI k) dX7_firstAt_49 (pie_mk (qk (((Mq.rf 128 M).tr (mq_kpa M 128 S) (by decide)).tr (mq_set 128 (m_kpa M 128 S) 192 false) (Nat.le_refl _))) (by rw [fi_hit (P := fun d => w_isf (w_dayN S d) 1) hinv9 (by exact b24) hk]; rfl) (by rfl))
        · refine G.il X dX7_firstAt_15 1 rfl ?_
          refine G.z_ge X (a := nI k) dX7_firstAt_16 (fun b16 => ?_) (fun b16 => absurd b16 (nI_pos (by omega)))
          refine G.al X dX7_firstAt_44 2 rfl ?_
          refine G.cvv X kX7_forgets lX7_214 dX7_firstAt_45 (tX7_forgets l D cI cW m (w_day true (w_dayN S k)) (m_kpa M 128 S) S (kpall_KP _ 128 S)) ⟨Nat.le_of_ble_eq_true rfl, Nat.le_of_ble_eq_true rfl⟩ ⟨Nat.zero_le _, Nat.zero_le _⟩ [0] rfl ⟨rfl, rfl⟩ rfl rfl 0 0 rfl rfl rfl rfl (Nat.le_of_ble_eq_true rfl) (ff_cons (ml_fst _ _ _ _ _ _) (ff_nil)) (ws' := [ml m cI S (m_set (m_kpa M 128 S) 192 false)]) rfl ?_
          refine G.il X dX7_firstAt_48 1 rfl ?_
          exact G.iret X Rr (v := nI k) dX7_firstAt_49 (pie_mk (qk (((Mq.rf 128 M).tr (mq_kpa M 128 S) (by decide)).tr (mq_set 128 (m_kpa M 128 S) 192 false) (Nat.le_refl _))) (by rw [fi_hit (P := fun d => w_isf (w_dayN S d) 1) hinv9 (by exact b24) hk]; rfl) (by rfl))
  have L9 := L9 0 (Nat.zero_le _) (fun j hj => absurd hj (by omega))
  exact L9

set_option maxRecDepth 20000 in
theorem tX7_firstAt_2 (l : Launch) (D : va_G) (cI cW : ClassId) (m : Nat → Nat) (S : WS) (M : MS) (hS : Ok S) (hco : m_co M = false) : CT l D cI cW yX7_firstAt cX7_firstAt 4 (some .int) ⟨4, 0, 0, 86⟩ [.ref (m 0), .int 2] ([ml m cI S M]) (PIE (o2i (fi (fun d => w_isf (w_dayN S d) 2) 100)) (fun M9 : {M9 : MS // Mq 128 M M9} => [ml m cI S M9.1])) := by
  refine CT.of RX7 rfl (by decide +kernel) (Nat.le_of_ble_eq_true rfl) [(0, .ref (m 0)), (1, .int 2)] rfl (fun x X Rr hnm => ?_)
  have hth := hS.th
  have hpe := hS.pe
  refine G.al X dX7_firstAt_0 0 rfl ?_
  refine G.cvv X kX7_thinks lX7_211 dX7_firstAt_1 (tX7_thinks l D cI cW m S M) ⟨Nat.le_of_ble_eq_true rfl, Nat.le_of_ble_eq_true rfl⟩ ⟨Nat.zero_le _, Nat.zero_le _⟩ [0] rfl ⟨rfl, rfl⟩ rfl rfl 0 0 rfl rfl rfl rfl (Nat.le_of_ble_eq_true rfl) (ff_cons (ml_fst _ _ _ _ _ _) (ff_nil)) (ws' := [ml m cI S (m_kpa M 128 S)]) rfl ?_
  refine G.pu X dX7_firstAt_4 ?_
  refine G.is X dX7_firstAt_6 (by decide) (lv' := [(2, .int (-9)), (0, .ref (m 0)), (1, .int 2)]) rfl ?_
  refine G.pu X dX7_firstAt_7 ?_
  refine G.is X dX7_firstAt_8 (by decide) (lv' := [(3, .int 0), (2, .int (-9)), (0, .ref (m 0)), (1, .int 2)]) rfl ?_
  have L9 : ∀ k, k ≤ 100 → (∀ j, j < k → (fun d => w_isf (w_dayN S d) 2) j = false) → G x 0 0 ([ml m cI (w_dayN S k) (m_kpa M 128 S)]) 9 [(3, .int (nI k)), (2, .int (-9)), (0, .ref (m 0)), (1, .int 2)] [] := by
    refine loop_dn 100 _ ?_ ?_
    · intro hinv9
      refine G.il X dX7_firstAt_9 0 rfl ?_
      refine G.pu X dX7_firstAt_10 ?_
      refine G.n_gt X (a := 100) (b := 99) (by omega) (by omega) dX7_firstAt_12 (fun b12 => ?_) (fun b12 => absurd b12 (by omega))
      refine G.al X dX7_firstAt_44 2 rfl ?_
      refine G.cvv X kX7_forgets lX7_214 dX7_firstAt_45 (tX7_forgets l D cI cW m (w_dayN S 100) (m_kpa M 128 S) S (kpall_KP _ 128 S)) ⟨Nat.le_of_ble_eq_true rfl, Nat.le_of_ble_eq_true rfl⟩ ⟨Nat.zero_le _, Nat.zero_le _⟩ [0] rfl ⟨rfl, rfl⟩ rfl rfl 0 0 rfl rfl rfl rfl (Nat.le_of_ble_eq_true rfl) (ff_cons (ml_fst _ _ _ _ _ _) (ff_nil)) (ws' := [ml m cI S (m_set (m_kpa M 128 S) 192 false)]) rfl ?_
      refine G.il X dX7_firstAt_48 1 rfl ?_
      exact G.iret X Rr (v := (-9)) dX7_firstAt_49 (pie_mk (qk (((Mq.rf 128 M).tr (mq_kpa M 128 S) (by decide)).tr (mq_set 128 (m_kpa M 128 S) 192 false) (Nat.le_refl _))) (by rw [fi_none (P := fun d => w_isf (w_dayN S d) 2) hinv9]; rfl) (by rfl))
    · intro k hk ih9 hinv9
      have hT : Ok (w_dayN S k) := ok_dayN hS k
      have f1 : s_th (w_dayN S k) = s_th S := (fr_dayN S k).2.1
      refine G.il X dX7_firstAt_9 0 rfl ?_
      refine G.pu X dX7_firstAt_10 ?_
      refine G.n_gt X (a := k) (b := 99) (by omega) (by omega) dX7_firstAt_12 (fun b12 => absurd b12 (by omega)) (fun b12 => ?_)
      refine G.il X dX7_firstAt_15 1 rfl ?_
      refine G.z_ge X (a := (-9)) dX7_firstAt_16 (fun b16 => absurd b16 (by decide)) (fun b16 => ?_)
      refine G.al X dX7_firstAt_19 2 rfl ?_
      refine G.il X dX7_firstAt_20 3 rfl ?_
      refine G.cvi X kX7_isFirst lX7_223 dX7_firstAt_21 (tX7_isFirst_2 l D cI cW m (w_dayN S k) (m_kpa M 128 S) hT.th) ⟨Nat.le_of_ble_eq_true rfl, Nat.le_of_ble_eq_true rfl⟩ ⟨Nat.zero_le _, Nat.zero_le _⟩ [0] rfl ⟨rfl, rfl⟩ rfl rfl 0 0 rfl rfl rfl rfl (Nat.le_of_ble_eq_true rfl) (ff_cons (ml_fst _ _ _ _ _ _) (ff_nil)) (ws' := [ml m cI (w_dayN S k) (m_kpa M 128 S)]) rfl ?_
      refine G.b_eq X dX7_firstAt_24 (fun b24 => ?_) (fun b24 => ?_)
      · refine G.pu X dX7_firstAt_31 ?_
        refine G.is X dX7_firstAt_33 (by decide) (lv' := [(2, .int (-9)), (3, .int (nI k)), (0, .ref (m 0)), (1, .int 2)]) rfl ?_
        refine G.al X dX7_firstAt_34 2 rfl ?_
        refine G.cvv X kX7_goesDay lX7_199 dX7_firstAt_35 (tX7_goesDay l D cI cW m (w_dayN S k) (m_kpa M 128 S) hT hco) ⟨Nat.le_of_ble_eq_true rfl, Nat.le_of_ble_eq_true rfl⟩ ⟨Nat.zero_le _, Nat.zero_le _⟩ [0] rfl ⟨rfl, rfl⟩ rfl rfl 0 0 rfl rfl rfl rfl (Nat.le_of_ble_eq_true rfl) (ff_cons (ml_fst _ _ _ _ _ _) (ff_nil)) (ws' := [ml m cI (w_day true (w_dayN S k)) (m_kpa M 128 S)]) rfl ?_
        refine G.iinc X dX7_firstAt_38 1 rfl (v' := nI (k + 1)) (nI_inc k) (by decide) (lv' := [(3, .int (nI (k + 1))), (2, .int (-9)), (0, .ref (m 0)), (1, .int 2)]) rfl ?_
        refine G.go X dX7_firstAt_41 ?_
        exact ih9 (lt_snoc hinv9 b24)
      · refine G.il X dX7_firstAt_27 0 rfl ?_
        refine G.go X dX7_firstAt_28 ?_
        refine G.is X dX7_firstAt_33 (by decide) (lv' := [(2, .int (nI k)), (3, .int (nI k)), (0, .ref (m 0)), (1, .int 2)]) rfl ?_
        refine G.al X dX7_firstAt_34 2 rfl ?_
        refine G.cvv X kX7_goesDay lX7_199 dX7_firstAt_35 (tX7_goesDay l D cI cW m (w_dayN S k) (m_kpa M 128 S) hT hco) ⟨Nat.le_of_ble_eq_true rfl, Nat.le_of_ble_eq_true rfl⟩ ⟨Nat.zero_le _, Nat.zero_le _⟩ [0] rfl ⟨rfl, rfl⟩ rfl rfl 0 0 rfl rfl rfl rfl (Nat.le_of_ble_eq_true rfl) (ff_cons (ml_fst _ _ _ _ _ _) (ff_nil)) (ws' := [ml m cI (w_day true (w_dayN S k)) (m_kpa M 128 S)]) rfl ?_
        refine G.iinc X dX7_firstAt_38 1 rfl (v' := nI (k + 1)) (nI_inc k) (by decide) (lv' := [(3, .int (nI (k + 1))), (2, .int (nI k)), (0, .ref (m 0)), (1, .int 2)]) rfl ?_
        refine G.go X dX7_firstAt_41 ?_
        refine G.il X dX7_firstAt_9 0 rfl ?_
        refine G.pu X dX7_firstAt_10 ?_
        refine G.n_gt X (a := k + 1) (b := 99) (by omega) (by omega) dX7_firstAt_12 (fun b12_2 => ?_) (fun b12_2 => ?_)
        · refine G.al X dX7_firstAt_44 2 rfl ?_
          refine G.cvv X kX7_forgets lX7_214 dX7_firstAt_45 (tX7_forgets l D cI cW m (w_day true (w_dayN S k)) (m_kpa M 128 S) S (kpall_KP _ 128 S)) ⟨Nat.le_of_ble_eq_true rfl, Nat.le_of_ble_eq_true rfl⟩ ⟨Nat.zero_le _, Nat.zero_le _⟩ [0] rfl ⟨rfl, rfl⟩ rfl rfl 0 0 rfl rfl rfl rfl (Nat.le_of_ble_eq_true rfl) (ff_cons (ml_fst _ _ _ _ _ _) (ff_nil)) (ws' := [ml m cI S (m_set (m_kpa M 128 S) 192 false)]) rfl ?_
          refine G.il X dX7_firstAt_48 1 rfl ?_
          exact G.iret X Rr (v := nI k) dX7_firstAt_49 (pie_mk (qk (((Mq.rf 128 M).tr (mq_kpa M 128 S) (by decide)).tr (mq_set 128 (m_kpa M 128 S) 192 false) (Nat.le_refl _))) (by rw [fi_hit (P := fun d => w_isf (w_dayN S d) 2) hinv9 (by exact b24) hk]; rfl) (by rfl))
        · refine G.il X dX7_firstAt_15 1 rfl ?_
          refine G.z_ge X (a := nI k) dX7_firstAt_16 (fun b16 => ?_) (fun b16 => absurd b16 (nI_pos (by omega)))
          refine G.al X dX7_firstAt_44 2 rfl ?_
          refine G.cvv X kX7_forgets lX7_214 dX7_firstAt_45 (tX7_forgets l D cI cW m (w_day true (w_dayN S k)) (m_kpa M 128 S) S (kpall_KP _ 128 S)) ⟨Nat.le_of_ble_eq_true rfl, Nat.le_of_ble_eq_true rfl⟩ ⟨Nat.zero_le _, Nat.zero_le _⟩ [0] rfl ⟨rfl, rfl⟩ rfl rfl 0 0 rfl rfl rfl rfl (Nat.le_of_ble_eq_true rfl) (ff_cons (ml_fst _ _ _ _ _ _) (ff_nil)) (ws' := [ml m cI S (m_set (m_kpa M 128 S) 192 false)]) rfl ?_
          refine G.il X dX7_firstAt_48 1 rfl ?_
          exact G.iret X Rr (v := nI k) dX7_firstAt_49 (pie_mk (qk (((Mq.rf 128 M).tr (mq_kpa M 128 S) (by decide)).tr (mq_set 128 (m_kpa M 128 S) 192 false) (Nat.le_refl _))) (by rw [fi_hit (P := fun d => w_isf (w_dayN S d) 2) hinv9 (by exact b24) hk]; rfl) (by rfl))
  have L9 := L9 0 (Nat.zero_le _) (fun j hj => absurd hj (by omega))
  exact L9

set_option maxRecDepth 20000 in
theorem tX7_lateOf (l : Launch) (D : va_G) (cI cW : ClassId) (m : Nat → Nat) (S : WS) (M : MS) (t : Nat) (hS : Ok S) (hco : m_co M = false) (ht : t < 9) : CT l D cI cW yX7_lateOf cX7_lateOf 2 (some .int) ⟨5, 0, 0, 109⟩ [.ref (m 0), .int (nI t)] ([ml m cI S M]) (PIE (w_late S t) (fun M9 : {M9 : MS // Mq 128 M M9} => [ml m cI S M9.1])) := by
  refine CT.of RX7 rfl (by decide +kernel) (Nat.le_of_ble_eq_true rfl) [(0, .ref (m 0)), (1, .int (nI t))] rfl (fun x X Rr hnm => ?_)
  have hth := hS.th
  have hpe := hS.pe
  refine G.al X dX7_lateOf_0 0 rfl ?_
  refine G.il X dX7_lateOf_1 1 rfl ?_
  refine G.cvie X kX7_quietAt lX7_217 dX7_lateOf_2 (tX7_quietAt l D cI cW m S M t hS hco ht) ⟨Nat.le_of_ble_eq_true rfl, Nat.le_of_ble_eq_true rfl⟩ ⟨Nat.zero_le _, Nat.zero_le _⟩ [0] rfl ⟨rfl, rfl⟩ rfl rfl 0 0 rfl rfl rfl rfl (Nat.le_of_ble_eq_true rfl) (fun _ => (ff_cons (ml_fst _ _ _ _ _ _) (ff_nil))) (f8 := fun M9_2 : {M9_2 : MS // Mq 128 M M9_2} => [ml m cI S M9_2.1]) (fun _ => rfl) (fun M9_2 => ?_)
  refine G.z_ge X (a := (o2i (fi (w_qz S t) 100))) dX7_lateOf_5 (fun b5 => ?_) (fun b5 => ?_)
  · refine G.al X dX7_lateOf_14 0 rfl ?_
    refine G.il X dX7_lateOf_15 1 rfl ?_
    refine G.cvie X kX7_quietAt lX7_217 dX7_lateOf_16 (tX7_quietAt l D cI cW m S M9_2.1 t hS (M9_2.2.co hco) ht) ⟨Nat.le_of_ble_eq_true rfl, Nat.le_of_ble_eq_true rfl⟩ ⟨Nat.zero_le _, Nat.zero_le _⟩ [0] rfl ⟨rfl, rfl⟩ rfl rfl 0 0 rfl rfl rfl rfl (Nat.le_of_ble_eq_true rfl) (fun _ => (ff_cons (ml_fst _ _ _ _ _ _) (ff_nil))) (f8 := fun M9_16 : {M9_16 : MS // Mq 128 M9_2.1 M9_16} => [ml m cI S M9_16.1]) (fun _ => rfl) (fun M9_16 => ?_)
    exact G.iret X Rr (v := (o2i (fi (w_qz S t) 100))) dX7_lateOf_19 (pie_mk (qk (((Mq.rf 128 M).tr M9_2.2 (by decide)).tr M9_16.2 (by decide))) (by simp [-Int32.not_lt, w_late, b5]) (by rfl))
  · refine G.pu X dX7_lateOf_8 ?_
    refine G.go X dX7_lateOf_11 ?_
    exact G.iret X Rr (v := 1000) dX7_lateOf_19 (pie_mk (qk ((Mq.rf 128 M).tr M9_2.2 (by decide))) (by simp [-Int32.not_lt, w_late, b5]) (by rfl))

set_option maxRecDepth 20000 in
theorem tX7_busiest (l : Launch) (D : va_G) (cI cW : ClassId) (m : Nat → Nat) (S : WS) (M : MS) (hS : Ok S) : CT l D cI cW yX7_busiest cX7_busiest 3 (some .int) ⟨1, 0, 0, 23⟩ [.ref (m 0)] ([ml m cI S M]) (PI (o2i (bix yes (fun i j => decide (w_qs S (nI i) (s_th S) < w_qs S (nI j) (s_th S))) (s_pe S))) ([ml m cI S M])) := by
  refine CT.of RX7 rfl (by decide +kernel) (Nat.le_of_ble_eq_true rfl) [(0, .ref (m 0))] rfl (fun x X Rr hnm => ?_)
  have hth := hS.th
  have hpe := hS.pe
  refine G.pu X dX7_busiest_0 ?_
  refine G.is X dX7_busiest_2 (by decide) (lv' := [(1, .int (-9)), (0, .ref (m 0))]) rfl ?_
  refine G.pu X dX7_busiest_3 ?_
  refine G.is X dX7_busiest_4 (by decide) (lv' := [(2, .int 0), (1, .int (-9)), (0, .ref (m 0))]) rfl ?_
  have L5 : ∀ k, k ≤ s_pe S → G x 0 0 ([ml m cI S M]) 5 [(2, .int (nI k)), (1, .int (o2i (bix yes (fun i j => decide (w_qs S (nI i) (s_th S) < w_qs S (nI j) (s_th S))) k))), (0, .ref (m 0))] [] := by
    refine loop_dn (s_pe S) _ ?_ ?_
    · refine G.il X dX7_busiest_5 0 rfl ?_
      refine G.al X dX7_busiest_6 2 rfl ?_
      refine G.get X fX7_64 dX7_busiest_7 0 0 rfl rfl rfl ?_
      refine G.n_ge X (a := s_pe S) (b := s_pe S) (by omega) (by omega) dX7_busiest_10 (fun b10 => ?_) (fun b10 => absurd b10 (by omega))
      refine G.il X dX7_busiest_42 1 rfl ?_
      exact G.iret X Rr (v := (o2i (bix yes (fun i j => decide (w_qs S (nI i) (s_th S) < w_qs S (nI j) (s_th S))) (s_pe S)))) dX7_busiest_43 (pi_mk (by rfl) (by rfl))
    · intro k hk ih5
      refine G.il X dX7_busiest_5 0 rfl ?_
      refine G.al X dX7_busiest_6 2 rfl ?_
      refine G.get X fX7_64 dX7_busiest_7 0 0 rfl rfl rfl ?_
      refine G.n_ge X (a := k) (b := s_pe S) (by omega) (by omega) dX7_busiest_10 (fun b10 => absurd b10 (by omega)) (fun b10 => ?_)
      rcases eb : bix yes (fun i j => decide (w_qs S (nI i) (s_th S) < w_qs S (nI j) (s_th S))) k with _ | j9
      · refine G.cg (lv' := [(2, .int (nI k)), (1, .int (-9)), (0, .ref (m 0))]) rfl rfl rfl ?_
        refine G.il X dX7_busiest_13 1 rfl ?_
        refine G.z_lt X (a := (-9)) dX7_busiest_14 (fun b14 => ?_) (fun b14 => absurd b14 (by decide))
        refine G.il X dX7_busiest_30 0 rfl ?_
        refine G.go X dX7_busiest_31 ?_
        refine G.is X dX7_busiest_35 (by decide) (lv' := [(1, .int (nI k)), (2, .int (nI k)), (0, .ref (m 0))]) rfl ?_
        refine G.iinc X dX7_busiest_36 1 rfl (v' := nI (k + 1)) (nI_inc k) (by decide) (lv' := [(2, .int (nI (k + 1))), (1, .int (nI k)), (0, .ref (m 0))]) rfl ?_
        refine G.go X dX7_busiest_39 ?_
        rw [show (o2i (bix yes (fun i j => decide (w_qs S (nI i) (s_th S) < w_qs S (nI j) (s_th S))) (k + 1))) = (nI k) from (by simp [-Int32.not_lt, bix, yes, o2i, obv, b10, eb])] at ih5
        exact ih5
      · refine G.cg (lv' := [(2, .int (nI k)), (1, .int (nI j9)), (0, .ref (m 0))]) rfl rfl rfl ?_
        have hj9 : j9 < k := bix_lt eb
        refine G.il X dX7_busiest_13 1 rfl ?_
        refine G.z_lt X (a := nI j9) dX7_busiest_14 (fun b14 => absurd b14 (nI_pos (by omega))) (fun b14 => ?_)
        refine G.al X dX7_busiest_17 2 rfl ?_
        refine G.il X dX7_busiest_18 0 rfl ?_
        refine G.cvi X kX7_queueOf lX7_202 dX7_busiest_19 (tX7_queueOf l D cI cW m S M (nI k) (by omega)) ⟨Nat.le_of_ble_eq_true rfl, Nat.le_of_ble_eq_true rfl⟩ ⟨Nat.zero_le _, Nat.zero_le _⟩ [0] rfl ⟨rfl, rfl⟩ rfl rfl 0 0 rfl rfl rfl rfl (Nat.le_of_ble_eq_true rfl) (ff_cons (ml_fst _ _ _ _ _ _) (ff_nil)) (ws' := [ml m cI S M]) rfl ?_
        refine G.al X dX7_busiest_22 2 rfl ?_
        refine G.il X dX7_busiest_23 1 rfl ?_
        refine G.cvi X kX7_queueOf lX7_202 dX7_busiest_24 (tX7_queueOf l D cI cW m S M (nI j9) (by omega)) ⟨Nat.le_of_ble_eq_true rfl, Nat.le_of_ble_eq_true rfl⟩ ⟨Nat.zero_le _, Nat.zero_le _⟩ [0] rfl ⟨rfl, rfl⟩ rfl rfl 0 0 rfl rfl rfl rfl (Nat.le_of_ble_eq_true rfl) (ff_cons (ml_fst _ _ _ _ _ _) (ff_nil)) (ws' := [ml m cI S M]) rfl ?_
        refine G.c_le X (a := (w_qs S (nI k) (s_th S))) (b := (w_qs S (nI j9) (s_th S))) dX7_busiest_27 (fun b27 => ?_) (fun b27 => ?_)
        · refine G.il X dX7_busiest_34 1 rfl ?_
          refine G.is X dX7_busiest_35 (by decide) (lv' := [(1, .int (nI j9)), (2, .int (nI k)), (0, .ref (m 0))]) rfl ?_
          refine G.iinc X dX7_busiest_36 1 rfl (v' := nI (k + 1)) (nI_inc k) (by decide) (lv' := [(2, .int (nI (k + 1))), (1, .int (nI j9)), (0, .ref (m 0))]) rfl ?_
          refine G.go X dX7_busiest_39 ?_
          rw [show (o2i (bix yes (fun i j => decide (w_qs S (nI i) (s_th S) < w_qs S (nI j) (s_th S))) (k + 1))) = (nI j9) from (by simp [-Int32.not_lt, bix, yes, o2i, obv, b10, eb, b14, b27])] at ih5
          exact ih5
        · refine G.il X dX7_busiest_30 0 rfl ?_
          refine G.go X dX7_busiest_31 ?_
          refine G.is X dX7_busiest_35 (by decide) (lv' := [(1, .int (nI k)), (2, .int (nI k)), (0, .ref (m 0))]) rfl ?_
          refine G.iinc X dX7_busiest_36 1 rfl (v' := nI (k + 1)) (nI_inc k) (by decide) (lv' := [(2, .int (nI (k + 1))), (1, .int (nI k)), (0, .ref (m 0))]) rfl ?_
          refine G.go X dX7_busiest_39 ?_
          rw [show (o2i (bix yes (fun i j => decide (w_qs S (nI i) (s_th S) < w_qs S (nI j) (s_th S))) (k + 1))) = (nI k) from (by simp [-Int32.not_lt, bix, yes, o2i, obv, b10, eb, b14, b27])] at ih5
          exact ih5
  have L5 := L5 0 (Nat.zero_le _)
  exact L5

set_option maxRecDepth 20000 in
theorem tX7_hardest (l : Launch) (D : va_G) (cI cW : ClassId) (m : Nat → Nat) (S : WS) (M : MS) (hS : Ok S) : CT l D cI cW yX7_hardest cX7_hardest 3 (some .int) ⟨1, 0, 0, 21⟩ [.ref (m 0)] ([ml m cI S M]) (PI (o2i (bix yes (fun i j => decide (n_of (s_ki S i) (s_we S i) < n_of (s_ki S j) (s_we S j))) (s_th S))) ([ml m cI S M])) := by
  refine CT.of RX7 rfl (by decide +kernel) (Nat.le_of_ble_eq_true rfl) [(0, .ref (m 0))] rfl (fun x X Rr hnm => ?_)
  have hth := hS.th
  have hpe := hS.pe
  refine G.pu X dX7_hardest_0 ?_
  refine G.is X dX7_hardest_2 (by decide) (lv' := [(1, .int (-9)), (0, .ref (m 0))]) rfl ?_
  refine G.pu X dX7_hardest_3 ?_
  refine G.is X dX7_hardest_4 (by decide) (lv' := [(2, .int 0), (1, .int (-9)), (0, .ref (m 0))]) rfl ?_
  have L5 : ∀ k, k ≤ s_th S → G x 0 0 ([ml m cI S M]) 5 [(2, .int (nI k)), (1, .int (o2i (bix yes (fun i j => decide (n_of (s_ki S i) (s_we S i) < n_of (s_ki S j) (s_we S j))) k))), (0, .ref (m 0))] [] := by
    refine loop_dn (s_th S) _ ?_ ?_
    · refine G.il X dX7_hardest_5 0 rfl ?_
      refine G.al X dX7_hardest_6 2 rfl ?_
      refine G.get X fX7_58 dX7_hardest_7 0 0 rfl rfl rfl ?_
      refine G.n_ge X (a := s_th S) (b := s_th S) (by omega) (by omega) dX7_hardest_10 (fun b10 => ?_) (fun b10 => absurd b10 (by omega))
      refine G.il X dX7_hardest_42 1 rfl ?_
      exact G.iret X Rr (v := (o2i (bix yes (fun i j => decide (n_of (s_ki S i) (s_we S i) < n_of (s_ki S j) (s_we S j))) (s_th S)))) dX7_hardest_43 (pi_mk (by rfl) (by rfl))
    · intro k hk ih5
      refine G.il X dX7_hardest_5 0 rfl ?_
      refine G.al X dX7_hardest_6 2 rfl ?_
      refine G.get X fX7_58 dX7_hardest_7 0 0 rfl rfl rfl ?_
      refine G.n_ge X (a := k) (b := s_th S) (by omega) (by omega) dX7_hardest_10 (fun b10 => absurd b10 (by omega)) (fun b10 => ?_)
      rcases eb : bix yes (fun i j => decide (n_of (s_ki S i) (s_we S i) < n_of (s_ki S j) (s_we S j))) k with _ | j9
      · refine G.cg (lv' := [(2, .int (nI k)), (1, .int (-9)), (0, .ref (m 0))]) rfl rfl rfl ?_
        refine G.il X dX7_hardest_13 1 rfl ?_
        refine G.z_lt X (a := (-9)) dX7_hardest_14 (fun b14 => ?_) (fun b14 => absurd b14 (by decide))
        refine G.il X dX7_hardest_30 0 rfl ?_
        refine G.go X dX7_hardest_31 ?_
        refine G.is X dX7_hardest_35 (by decide) (lv' := [(1, .int (nI k)), (2, .int (nI k)), (0, .ref (m 0))]) rfl ?_
        refine G.iinc X dX7_hardest_36 1 rfl (v' := nI (k + 1)) (nI_inc k) (by decide) (lv' := [(2, .int (nI (k + 1))), (1, .int (nI k)), (0, .ref (m 0))]) rfl ?_
        refine G.go X dX7_hardest_39 ?_
        rw [show (o2i (bix yes (fun i j => decide (n_of (s_ki S i) (s_we S i) < n_of (s_ki S j) (s_we S j))) (k + 1))) = (nI k) from (by simp [-Int32.not_lt, bix, yes, o2i, obv, b10, eb])] at ih5
        exact ih5
      · refine G.cg (lv' := [(2, .int (nI k)), (1, .int (nI j9)), (0, .ref (m 0))]) rfl rfl rfl ?_
        have hj9 : j9 < k := bix_lt eb
        refine G.il X dX7_hardest_13 1 rfl ?_
        refine G.z_lt X (a := nI j9) dX7_hardest_14 (fun b14 => absurd b14 (nI_pos (by omega))) (fun b14 => ?_)
        refine G.al X dX7_hardest_17 2 rfl ?_
        refine G.il X dX7_hardest_18 0 rfl ?_
        refine G.cvi X kX7_timesOf lX7_172 dX7_hardest_19 (tX7_timesOf l D cI cW m S M k (by omega)) ⟨Nat.le_of_ble_eq_true rfl, Nat.le_of_ble_eq_true rfl⟩ ⟨Nat.zero_le _, Nat.zero_le _⟩ [0] rfl ⟨rfl, rfl⟩ rfl rfl 0 0 rfl rfl rfl rfl (Nat.le_of_ble_eq_true rfl) (ff_cons (ml_fst _ _ _ _ _ _) (ff_nil)) (ws' := [ml m cI S M]) rfl ?_
        refine G.al X dX7_hardest_22 2 rfl ?_
        refine G.il X dX7_hardest_23 1 rfl ?_
        refine G.cvi X kX7_timesOf lX7_172 dX7_hardest_24 (tX7_timesOf l D cI cW m S M j9 (by omega)) ⟨Nat.le_of_ble_eq_true rfl, Nat.le_of_ble_eq_true rfl⟩ ⟨Nat.zero_le _, Nat.zero_le _⟩ [0] rfl ⟨rfl, rfl⟩ rfl rfl 0 0 rfl rfl rfl rfl (Nat.le_of_ble_eq_true rfl) (ff_cons (ml_fst _ _ _ _ _ _) (ff_nil)) (ws' := [ml m cI S M]) rfl ?_
        refine G.c_le X (a := (n_of (s_ki S k) (s_we S k))) (b := (n_of (s_ki S j9) (s_we S j9))) dX7_hardest_27 (fun b27 => ?_) (fun b27 => ?_)
        · refine G.il X dX7_hardest_34 1 rfl ?_
          refine G.is X dX7_hardest_35 (by decide) (lv' := [(1, .int (nI j9)), (2, .int (nI k)), (0, .ref (m 0))]) rfl ?_
          refine G.iinc X dX7_hardest_36 1 rfl (v' := nI (k + 1)) (nI_inc k) (by decide) (lv' := [(2, .int (nI (k + 1))), (1, .int (nI j9)), (0, .ref (m 0))]) rfl ?_
          refine G.go X dX7_hardest_39 ?_
          rw [show (o2i (bix yes (fun i j => decide (n_of (s_ki S i) (s_we S i) < n_of (s_ki S j) (s_we S j))) (k + 1))) = (nI j9) from (by simp [-Int32.not_lt, bix, yes, o2i, obv, b10, eb, b14, b27])] at ih5
          exact ih5
        · refine G.il X dX7_hardest_30 0 rfl ?_
          refine G.go X dX7_hardest_31 ?_
          refine G.is X dX7_hardest_35 (by decide) (lv' := [(1, .int (nI k)), (2, .int (nI k)), (0, .ref (m 0))]) rfl ?_
          refine G.iinc X dX7_hardest_36 1 rfl (v' := nI (k + 1)) (nI_inc k) (by decide) (lv' := [(2, .int (nI (k + 1))), (1, .int (nI k)), (0, .ref (m 0))]) rfl ?_
          refine G.go X dX7_hardest_39 ?_
          rw [show (o2i (bix yes (fun i j => decide (n_of (s_ki S i) (s_we S i) < n_of (s_ki S j) (s_we S j))) (k + 1))) = (nI k) from (by simp [-Int32.not_lt, bix, yes, o2i, obv, b10, eb, b14, b27])] at ih5
          exact ih5
  have L5 := L5 0 (Nat.zero_le _)
  exact L5

set_option maxRecDepth 20000 in
theorem tX7_knower_bad (l : Launch) (D : va_G) (cI cW : ClassId) (m : Nat → Nat) (S : WS) (M : MS) (t : Int32) (hS : Ok S) (ht : z_in t 8 = false) : CT l D cI cW yX7_knower cX7_knower 4 (some .int) ⟨1, 0, 0, 22⟩ [.ref (m 0), .int t] ([ml m cI S M]) (PI (-1) ([ml m cI S (m_no M 1)])) := by
  refine CT.of RX7 rfl (by decide +kernel) (Nat.le_of_ble_eq_true rfl) [(0, .ref (m 0)), (1, .int t)] rfl (fun x X Rr hnm => ?_)
  have hth := hS.th
  have hpe := hS.pe
  refine G.il X dX7_knower_0 1 rfl ?_
  refine G.pu X dX7_knower_1 ?_
  refine G.pu X dX7_knower_2 ?_
  refine G.csti X kX7_isIn lX7_85 dX7_knower_4 (tX7_isIn_no l D cI cW t 0 7 (zbt_no (n := 7) ht (by decide))) ⟨Nat.le_of_ble_eq_true rfl, Nat.le_of_ble_eq_true rfl⟩ ⟨Nat.zero_le _, Nat.zero_le _⟩ [] rfl ⟨rfl, rfl⟩ rfl rfl rfl (Nat.le_of_ble_eq_true rfl) (ff_nil) (ws' := [ml m cI S M]) rfl ?_
  refine G.b_ne X dX7_knower_7 (fun b7 => absurd b7 (by decide)) (fun b7 => ?_)
  refine G.al X dX7_knower_10 0 rfl ?_
  refine G.pu X dX7_knower_11 ?_
  refine G.cvi X kX7_no lX7_74 dX7_knower_12 (tX7_no l D cI cW m S M 1 (by omega) (by omega)) ⟨Nat.le_of_ble_eq_true rfl, Nat.le_of_ble_eq_true rfl⟩ ⟨Nat.zero_le _, Nat.zero_le _⟩ [0] rfl ⟨rfl, rfl⟩ rfl rfl 0 0 rfl rfl rfl rfl (Nat.le_of_ble_eq_true rfl) (ff_cons (ml_fst _ _ _ _ _ _) (ff_nil)) (ws' := [ml m cI S (m_no M 1)]) rfl ?_
  exact G.iret X Rr (v := (-(nI 1))) dX7_knower_15 (pi_mk (by rfl) (by rfl))

set_option maxRecDepth 20000 in
theorem tX7_knower_ok (l : Launch) (D : va_G) (cI cW : ClassId) (m : Nat → Nat) (S : WS) (M : MS) (t : Nat) (hS : Ok S) (ht : t < 8) : CT l D cI cW yX7_knower cX7_knower 4 (some .int) ⟨1, 0, 0, 22⟩ [.ref (m 0), .int (nI t)] ([ml m cI S M]) (PI (o2i (bix (fun p => hasb (s_kn S p) (nI t)) (fun i j => decide (s_an S i < s_an S j)) (s_pe S))) ([ml m cI S M])) := by
  refine CT.of RX7 rfl (by decide +kernel) (Nat.le_of_ble_eq_true rfl) [(0, .ref (m 0)), (1, .int (nI t))] rfl (fun x X Rr hnm => ?_)
  have hth := hS.th
  have hpe := hS.pe
  refine G.il X dX7_knower_0 1 rfl ?_
  refine G.pu X dX7_knower_1 ?_
  refine G.pu X dX7_knower_2 ?_
  refine G.csti X kX7_isIn lX7_85 dX7_knower_4 (tX7_isIn_yes l D cI cW t 0 7 (by omega) (by omega) (by omega)) ⟨Nat.le_of_ble_eq_true rfl, Nat.le_of_ble_eq_true rfl⟩ ⟨Nat.zero_le _, Nat.zero_le _⟩ [] rfl ⟨rfl, rfl⟩ rfl rfl rfl (Nat.le_of_ble_eq_true rfl) (ff_nil) (ws' := [ml m cI S M]) rfl ?_
  refine G.b_ne X dX7_knower_7 (fun b7 => ?_) (fun b7 => absurd b7 (by decide))
  refine G.pu X dX7_knower_16 ?_
  refine G.is X dX7_knower_18 (by decide) (lv' := [(2, .int (-9)), (0, .ref (m 0)), (1, .int (nI t))]) rfl ?_
  refine G.pu X dX7_knower_19 ?_
  refine G.is X dX7_knower_20 (by decide) (lv' := [(3, .int 0), (2, .int (-9)), (0, .ref (m 0)), (1, .int (nI t))]) rfl ?_
  have L21 : ∀ k, k ≤ s_pe S → G x 0 0 ([ml m cI S M]) 21 [(3, .int (nI k)), (2, .int (o2i (bix (fun p => hasb (s_kn S p) (nI t)) (fun i j => decide (s_an S i < s_an S j)) k))), (0, .ref (m 0)), (1, .int (nI t))] [] := by
    refine loop_dn (s_pe S) _ ?_ ?_
    · refine G.il X dX7_knower_21 0 rfl ?_
      refine G.al X dX7_knower_22 2 rfl ?_
      refine G.get X fX7_64 dX7_knower_23 0 0 rfl rfl rfl ?_
      refine G.n_ge X (a := s_pe S) (b := s_pe S) (by omega) (by omega) dX7_knower_26 (fun b26 => ?_) (fun b26 => absurd b26 (by omega))
      refine G.il X dX7_knower_69 1 rfl ?_
      exact G.iret X Rr (v := (o2i (bix (fun p => hasb (s_kn S p) (nI t)) (fun i j => decide (s_an S i < s_an S j)) (s_pe S)))) dX7_knower_70 (pi_mk (by rfl) (by rfl))
    · intro k hk ih21
      refine G.il X dX7_knower_21 0 rfl ?_
      refine G.al X dX7_knower_22 2 rfl ?_
      refine G.get X fX7_64 dX7_knower_23 0 0 rfl rfl rfl ?_
      refine G.n_ge X (a := k) (b := s_pe S) (by omega) (by omega) dX7_knower_26 (fun b26 => absurd b26 (by omega)) (fun b26 => ?_)
      refine G.al X dX7_knower_29 2 rfl ?_
      refine G.get X fX7_13 dX7_knower_30 0 0 rfl rfl rfl ?_
      refine G.il X dX7_knower_33 0 rfl ?_
      refine G.nld X (i := k) dX7_knower_34 0 2 rfl rfl (by omega) (by decide) ?_
      refine G.il X dX7_knower_35 3 rfl ?_
      refine G.csti X kX7_has lX7_178 dX7_knower_36 (tX7_has l D cI cW ((s_kn S) k) (nI t)) ⟨Nat.le_of_ble_eq_true rfl, Nat.le_of_ble_eq_true rfl⟩ ⟨Nat.zero_le _, Nat.zero_le _⟩ [] rfl ⟨rfl, rfl⟩ rfl rfl rfl (Nat.le_of_ble_eq_true rfl) (ff_nil) (ws' := [ml m cI S M]) rfl ?_
      refine G.b_eq X dX7_knower_39 (fun b39 => ?_) (fun b39 => ?_)
      · refine G.iinc X dX7_knower_63 0 rfl (v' := nI (k + 1)) (nI_inc k) (by decide) (lv' := [(3, .int (nI (k + 1))), (2, .int (o2i (bix (fun p => hasb (s_kn S p) (nI t)) (fun i j => decide (s_an S i < s_an S j)) k))), (0, .ref (m 0)), (1, .int (nI t))]) rfl ?_
        refine G.go X dX7_knower_66 ?_
        rw [show (o2i (bix (fun p => hasb (s_kn S p) (nI t)) (fun i j => decide (s_an S i < s_an S j)) (k + 1))) = (o2i (bix (fun p => hasb (s_kn S p) (nI t)) (fun i j => decide (s_an S i < s_an S j)) k)) from (by simp [-Int32.not_lt, bix, yes, o2i, obv, b26, b39])] at ih21
        exact ih21
      · rcases eb : bix (fun p => hasb (s_kn S p) (nI t)) (fun i j => decide (s_an S i < s_an S j)) k with _ | j9
        · refine G.cg (lv' := [(3, .int (nI k)), (2, .int (-9)), (0, .ref (m 0)), (1, .int (nI t))]) rfl rfl rfl ?_
          refine G.il X dX7_knower_42 1 rfl ?_
          refine G.z_lt X (a := (-9)) dX7_knower_43 (fun b43 => ?_) (fun b43 => absurd b43 (by decide))
          refine G.il X dX7_knower_61 0 rfl ?_
          refine G.is X dX7_knower_62 (by decide) (lv' := [(2, .int (nI k)), (3, .int (nI k)), (0, .ref (m 0)), (1, .int (nI t))]) rfl ?_
          refine G.iinc X dX7_knower_63 1 rfl (v' := nI (k + 1)) (nI_inc k) (by decide) (lv' := [(3, .int (nI (k + 1))), (2, .int (nI k)), (0, .ref (m 0)), (1, .int (nI t))]) rfl ?_
          refine G.go X dX7_knower_66 ?_
          rw [show (o2i (bix (fun p => hasb (s_kn S p) (nI t)) (fun i j => decide (s_an S i < s_an S j)) (k + 1))) = (nI k) from (by simp [-Int32.not_lt, bix, yes, o2i, obv, b26, b39, eb])] at ih21
          exact ih21
        · refine G.cg (lv' := [(3, .int (nI k)), (2, .int (nI j9)), (0, .ref (m 0)), (1, .int (nI t))]) rfl rfl rfl ?_
          have hj9 : j9 < k := bix_lt eb
          refine G.il X dX7_knower_42 1 rfl ?_
          refine G.z_lt X (a := nI j9) dX7_knower_43 (fun b43 => absurd b43 (nI_pos (by omega))) (fun b43 => ?_)
          refine G.al X dX7_knower_46 2 rfl ?_
          refine G.get X fX7_19 dX7_knower_47 0 0 rfl rfl rfl ?_
          refine G.il X dX7_knower_50 0 rfl ?_
          refine G.nld X (i := k) dX7_knower_51 0 4 rfl rfl (by omega) (by decide) ?_
          refine G.al X dX7_knower_52 2 rfl ?_
          refine G.get X fX7_19 dX7_knower_53 0 0 rfl rfl rfl ?_
          refine G.il X dX7_knower_56 1 rfl ?_
          refine G.nld X (i := j9) dX7_knower_57 0 4 rfl rfl (by omega) (by decide) ?_
          refine G.c_le X (a := ((s_an S) k)) (b := ((s_an S) j9)) dX7_knower_58 (fun b58 => ?_) (fun b58 => ?_)
          · refine G.iinc X dX7_knower_63 0 rfl (v' := nI (k + 1)) (nI_inc k) (by decide) (lv' := [(3, .int (nI (k + 1))), (2, .int (nI j9)), (0, .ref (m 0)), (1, .int (nI t))]) rfl ?_
            refine G.go X dX7_knower_66 ?_
            rw [show (o2i (bix (fun p => hasb (s_kn S p) (nI t)) (fun i j => decide (s_an S i < s_an S j)) (k + 1))) = (nI j9) from (by simp [-Int32.not_lt, bix, yes, o2i, obv, b26, b39, eb, b43, b58])] at ih21
            exact ih21
          · refine G.il X dX7_knower_61 0 rfl ?_
            refine G.is X dX7_knower_62 (by decide) (lv' := [(2, .int (nI k)), (3, .int (nI k)), (0, .ref (m 0)), (1, .int (nI t))]) rfl ?_
            refine G.iinc X dX7_knower_63 1 rfl (v' := nI (k + 1)) (nI_inc k) (by decide) (lv' := [(3, .int (nI (k + 1))), (2, .int (nI k)), (0, .ref (m 0)), (1, .int (nI t))]) rfl ?_
            refine G.go X dX7_knower_66 ?_
            rw [show (o2i (bix (fun p => hasb (s_kn S p) (nI t)) (fun i j => decide (s_an S i < s_an S j)) (k + 1))) = (nI k) from (by simp [-Int32.not_lt, bix, yes, o2i, obv, b26, b39, eb, b43, b58])] at ih21
            exact ih21
  have L21 := L21 0 (Nat.zero_le _)
  exact L21

set_option maxRecDepth 20000 in
theorem tX7_blocking (l : Launch) (D : va_G) (cI cW : ClassId) (m : Nat → Nat) (S : WS) (M : MS) (hS : Ok S) (hco : m_co M = false) : CT l D cI cW yX7_blocking cX7_blocking 3 (some .int) ⟨6, 0, 0, 130⟩ [.ref (m 0)] ([ml m cI S M]) (PIE (o2i (bix (ask S) (fun i j => decide (w_late S i < w_late S j)) (s_th S))) (fun M9 : {M9 : MS // Mq 128 M M9} => [ml m cI S M9.1])) := by
  refine CT.of RX7 rfl (by decide +kernel) (Nat.le_of_ble_eq_true rfl) [(0, .ref (m 0))] rfl (fun x X Rr hnm => ?_)
  have hth := hS.th
  have hpe := hS.pe
  refine G.pu X dX7_blocking_0 ?_
  refine G.is X dX7_blocking_2 (by decide) (lv' := [(1, .int (-9)), (0, .ref (m 0))]) rfl ?_
  refine G.pu X dX7_blocking_3 ?_
  refine G.is X dX7_blocking_4 (by decide) (lv' := [(2, .int 0), (1, .int (-9)), (0, .ref (m 0))]) rfl ?_
  have L5 : ∀ k, k ≤ s_th S → ∀ M8 : {M8 : MS // Mq 128 M M8}, G x 0 0 ([ml m cI S M8.1]) 5 [(2, .int (nI k)), (1, .int (o2i (bix (ask S) (fun i j => decide (w_late S i < w_late S j)) k))), (0, .ref (m 0))] [] := by
    refine loop_dn (s_th S) _ ?_ ?_
    · intro M8
      refine G.il X dX7_blocking_5 0 rfl ?_
      refine G.al X dX7_blocking_6 2 rfl ?_
      refine G.get X fX7_58 dX7_blocking_7 0 0 rfl rfl rfl ?_
      refine G.n_ge X (a := s_th S) (b := s_th S) (by omega) (by omega) dX7_blocking_10 (fun b10 => ?_) (fun b10 => absurd b10 (by omega))
      refine G.il X dX7_blocking_46 1 rfl ?_
      exact G.iret X Rr (v := (o2i (bix (ask S) (fun i j => decide (w_late S i < w_late S j)) (s_th S)))) dX7_blocking_47 (pie_mk (qk (M8.2)) (by rfl) (by rfl))
    · intro k hk ih5 M8
      refine G.il X dX7_blocking_5 0 rfl ?_
      refine G.al X dX7_blocking_6 2 rfl ?_
      refine G.get X fX7_58 dX7_blocking_7 0 0 rfl rfl rfl ?_
      refine G.n_ge X (a := k) (b := s_th S) (by omega) (by omega) dX7_blocking_10 (fun b10 => absurd b10 (by omega)) (fun b10 => ?_)
      refine G.al X dX7_blocking_13 2 rfl ?_
      refine G.il X dX7_blocking_14 0 rfl ?_
      refine G.cvi X kX7_isAsking lX7_181 dX7_blocking_15 (tX7_isAsking l D cI cW m S M8.1 k (by omega)) ⟨Nat.le_of_ble_eq_true rfl, Nat.le_of_ble_eq_true rfl⟩ ⟨Nat.zero_le _, Nat.zero_le _⟩ [0] rfl ⟨rfl, rfl⟩ rfl rfl 0 0 rfl rfl rfl rfl (Nat.le_of_ble_eq_true rfl) (ff_cons (ml_fst _ _ _ _ _ _) (ff_nil)) (ws' := [ml m cI S M8.1]) rfl ?_
      refine G.b_eq X dX7_blocking_18 (fun b18 => ?_) (fun b18 => ?_)
      · refine G.iinc X dX7_blocking_40 0 rfl (v' := nI (k + 1)) (nI_inc k) (by decide) (lv' := [(2, .int (nI (k + 1))), (1, .int (o2i (bix (ask S) (fun i j => decide (w_late S i < w_late S j)) k))), (0, .ref (m 0))]) rfl ?_
        refine G.go X dX7_blocking_43 ?_
        replace ih5 := ih5 (qk (M8.2))
        rw [show (o2i (bix (ask S) (fun i j => decide (w_late S i < w_late S j)) (k + 1))) = (o2i (bix (ask S) (fun i j => decide (w_late S i < w_late S j)) k)) from (by simp [-Int32.not_lt, bix, yes, o2i, obv, b10, b18])] at ih5
        exact ih5
      · rcases eb : bix (ask S) (fun i j => decide (w_late S i < w_late S j)) k with _ | j9
        · refine G.cg (lv' := [(2, .int (nI k)), (1, .int (-9)), (0, .ref (m 0))]) rfl rfl rfl ?_
          refine G.il X dX7_blocking_21 1 rfl ?_
          refine G.z_lt X (a := (-9)) dX7_blocking_22 (fun b22 => ?_) (fun b22 => absurd b22 (by decide))
          refine G.il X dX7_blocking_38 0 rfl ?_
          refine G.is X dX7_blocking_39 (by decide) (lv' := [(1, .int (nI k)), (2, .int (nI k)), (0, .ref (m 0))]) rfl ?_
          refine G.iinc X dX7_blocking_40 1 rfl (v' := nI (k + 1)) (nI_inc k) (by decide) (lv' := [(2, .int (nI (k + 1))), (1, .int (nI k)), (0, .ref (m 0))]) rfl ?_
          refine G.go X dX7_blocking_43 ?_
          replace ih5 := ih5 (qk (M8.2))
          rw [show (o2i (bix (ask S) (fun i j => decide (w_late S i < w_late S j)) (k + 1))) = (nI k) from (by simp [-Int32.not_lt, bix, yes, o2i, obv, b10, b18, eb])] at ih5
          exact ih5
        · refine G.cg (lv' := [(2, .int (nI k)), (1, .int (nI j9)), (0, .ref (m 0))]) rfl rfl rfl ?_
          have hj9 : j9 < k := bix_lt eb
          refine G.il X dX7_blocking_21 1 rfl ?_
          refine G.z_lt X (a := nI j9) dX7_blocking_22 (fun b22 => absurd b22 (nI_pos (by omega))) (fun b22 => ?_)
          refine G.al X dX7_blocking_25 2 rfl ?_
          refine G.il X dX7_blocking_26 0 rfl ?_
          refine G.cvie X kX7_lateOf lX7_226 dX7_blocking_27 (tX7_lateOf l D cI cW m S M8.1 k hS (M8.2.co hco) (by omega)) ⟨Nat.le_of_ble_eq_true rfl, Nat.le_of_ble_eq_true rfl⟩ ⟨Nat.zero_le _, Nat.zero_le _⟩ [0] rfl ⟨rfl, rfl⟩ rfl rfl 0 0 rfl rfl rfl rfl (Nat.le_of_ble_eq_true rfl) (fun _ => (ff_cons (ml_fst _ _ _ _ _ _) (ff_nil))) (f8 := fun M9_27 : {M9_27 : MS // Mq 128 M8.1 M9_27} => [ml m cI S M9_27.1]) (fun _ => rfl) (fun M9_27 => ?_)
          refine G.al X dX7_blocking_30 2 rfl ?_
          refine G.il X dX7_blocking_31 1 rfl ?_
          refine G.cvie X kX7_lateOf lX7_226 dX7_blocking_32 (tX7_lateOf l D cI cW m S M9_27.1 j9 hS (M9_27.2.co (M8.2.co hco)) (by omega)) ⟨Nat.le_of_ble_eq_true rfl, Nat.le_of_ble_eq_true rfl⟩ ⟨Nat.zero_le _, Nat.zero_le _⟩ [0] rfl ⟨rfl, rfl⟩ rfl rfl 0 0 rfl rfl rfl rfl (Nat.le_of_ble_eq_true rfl) (fun _ => (ff_cons (ml_fst _ _ _ _ _ _) (ff_nil))) (f8 := fun M9_32 : {M9_32 : MS // Mq 128 M9_27.1 M9_32} => [ml m cI S M9_32.1]) (fun _ => rfl) (fun M9_32 => ?_)
          refine G.c_le X (a := (w_late S k)) (b := (w_late S j9)) dX7_blocking_35 (fun b35 => ?_) (fun b35 => ?_)
          · refine G.iinc X dX7_blocking_40 0 rfl (v' := nI (k + 1)) (nI_inc k) (by decide) (lv' := [(2, .int (nI (k + 1))), (1, .int (nI j9)), (0, .ref (m 0))]) rfl ?_
            refine G.go X dX7_blocking_43 ?_
            replace ih5 := ih5 (qk (((M8.2).tr M9_27.2 (by decide)).tr M9_32.2 (by decide)))
            rw [show (o2i (bix (ask S) (fun i j => decide (w_late S i < w_late S j)) (k + 1))) = (nI j9) from (by simp [-Int32.not_lt, bix, yes, o2i, obv, b10, b18, eb, b22, b35])] at ih5
            exact ih5
          · refine G.il X dX7_blocking_38 0 rfl ?_
            refine G.is X dX7_blocking_39 (by decide) (lv' := [(1, .int (nI k)), (2, .int (nI k)), (0, .ref (m 0))]) rfl ?_
            refine G.iinc X dX7_blocking_40 1 rfl (v' := nI (k + 1)) (nI_inc k) (by decide) (lv' := [(2, .int (nI (k + 1))), (1, .int (nI k)), (0, .ref (m 0))]) rfl ?_
            refine G.go X dX7_blocking_43 ?_
            replace ih5 := ih5 (qk (((M8.2).tr M9_27.2 (by decide)).tr M9_32.2 (by decide)))
            rw [show (o2i (bix (ask S) (fun i j => decide (w_late S i < w_late S j)) (k + 1))) = (nI k) from (by simp [-Int32.not_lt, bix, yes, o2i, obv, b10, b18, eb, b22, b35])] at ih5
            exact ih5
  have L5 := L5 0 (Nat.zero_le _) (qk (Mq.rf 128 M))
  exact L5

set_option maxRecDepth 20000 in
theorem tX7_first_oth (l : Launch) (D : va_G) (cI cW : ClassId) (m : Nat → Nat) (S : WS) (M : MS) (w : Int32) (hw : z_in w 4 = false) : CT l D cI cW yX7_first cX7_first 2 (some .int) ⟨1, 0, 0, 22⟩ [.ref (m 0), .int w] ([ml m cI S M]) (PI (-2) ([ml m cI S (m_no M 2)])) := by
  refine CT.of RX7 rfl (by decide +kernel) (Nat.le_of_ble_eq_true rfl) [(0, .ref (m 0)), (1, .int w)] rfl (fun x X Rr hnm => ?_)
  refine G.il X dX7_first_0 1 rfl ?_
  refine G.pu X dX7_first_1 ?_
  refine G.pu X dX7_first_2 ?_
  refine G.csti X kX7_isIn lX7_85 dX7_first_3 (tX7_isIn_no l D cI cW w 0 3 (zbt_no (n := 3) hw (by decide))) ⟨Nat.le_of_ble_eq_true rfl, Nat.le_of_ble_eq_true rfl⟩ ⟨Nat.zero_le _, Nat.zero_le _⟩ [] rfl ⟨rfl, rfl⟩ rfl rfl rfl (Nat.le_of_ble_eq_true rfl) (ff_nil) (ws' := [ml m cI S M]) rfl ?_
  refine G.b_ne X dX7_first_6 (fun b6 => absurd b6 (by decide)) (fun b6 => ?_)
  refine G.al X dX7_first_9 0 rfl ?_
  refine G.pu X dX7_first_10 ?_
  refine G.cvi X kX7_no lX7_74 dX7_first_12 (tX7_no l D cI cW m S M 2 (by omega) (by omega)) ⟨Nat.le_of_ble_eq_true rfl, Nat.le_of_ble_eq_true rfl⟩ ⟨Nat.zero_le _, Nat.zero_le _⟩ [0] rfl ⟨rfl, rfl⟩ rfl rfl 0 0 rfl rfl rfl rfl (Nat.le_of_ble_eq_true rfl) (ff_cons (ml_fst _ _ _ _ _ _) (ff_nil)) (ws' := [ml m cI S (m_no M 2)]) rfl ?_
  exact G.iret X Rr (v := (-(nI 2))) dX7_first_15 (pi_mk (by rfl) (by rfl))

set_option maxRecDepth 20000 in
theorem tX7_first_0 (l : Launch) (D : va_G) (cI cW : ClassId) (m : Nat → Nat) (S : WS) (M : MS) (hS : Ok S) (hco : m_co M = false) : CT l D cI cW yX7_first cX7_first 2 (some .int) ⟨5, 0, 0, 109⟩ [.ref (m 0), .int 0] ([ml m cI S M]) (PIE (o2i (fi (fun d => w_isf (w_dayN S d) 0) 100)) (fun M9 : {M9 : MS // Mq 64 M M9} => [ml m cI S M9.1])) := by
  refine CT.of RX7 rfl (by decide +kernel) (Nat.le_of_ble_eq_true rfl) [(0, .ref (m 0)), (1, .int 0)] rfl (fun x X Rr hnm => ?_)
  have hth := hS.th
  have hpe := hS.pe
  refine G.il X dX7_first_0 1 rfl ?_
  refine G.pu X dX7_first_1 ?_
  refine G.pu X dX7_first_2 ?_
  refine G.csti X kX7_isIn lX7_85 dX7_first_3 (tX7_isIn_yes l D cI cW 0 0 3 (by omega) (by omega) (by omega)) ⟨Nat.le_of_ble_eq_true rfl, Nat.le_of_ble_eq_true rfl⟩ ⟨Nat.zero_le _, Nat.zero_le _⟩ [] rfl ⟨rfl, rfl⟩ rfl rfl rfl (Nat.le_of_ble_eq_true rfl) (ff_nil) (ws' := [ml m cI S M]) rfl ?_
  refine G.b_ne X dX7_first_6 (fun b6 => ?_) (fun b6 => absurd b6 (by decide))
  refine G.il X dX7_first_16 1 rfl ?_
  refine G.pu X dX7_first_17 ?_
  refine G.c_ne X (a := 0) (b := 3) dX7_first_18 (fun b18 => ?_) (fun b18 => absurd b18 (by decide))
  refine G.al X dX7_first_28 0 rfl ?_
  refine G.il X dX7_first_29 1 rfl ?_
  refine G.cvie X kX7_firstAt lX7_232 dX7_first_30 (tX7_firstAt_0 l D cI cW m S M hS hco) ⟨Nat.le_of_ble_eq_true rfl, Nat.le_of_ble_eq_true rfl⟩ ⟨Nat.zero_le _, Nat.zero_le _⟩ [0] rfl ⟨rfl, rfl⟩ rfl rfl 0 0 rfl rfl rfl rfl (Nat.le_of_ble_eq_true rfl) (fun _ => (ff_cons (ml_fst _ _ _ _ _ _) (ff_nil))) (f8 := fun M9_30 : {M9_30 : MS // Mq 128 M M9_30} => [ml m cI S M9_30.1]) (fun _ => rfl) (fun M9_30 => ?_)
  exact G.iret X Rr (v := (o2i (fi (fun d => w_isf (w_dayN S d) 0) 100))) dX7_first_33 (pie_mk (qk ((Mq.rf 64 M).tr M9_30.2 (by decide))) (by rfl) (by rfl))

set_option maxRecDepth 20000 in
theorem tX7_first_1 (l : Launch) (D : va_G) (cI cW : ClassId) (m : Nat → Nat) (S : WS) (M : MS) (hS : Ok S) (hco : m_co M = false) : CT l D cI cW yX7_first cX7_first 2 (some .int) ⟨5, 0, 0, 109⟩ [.ref (m 0), .int 1] ([ml m cI S M]) (PIE (o2i (fi (fun d => w_isf (w_dayN S d) 1) 100)) (fun M9 : {M9 : MS // Mq 64 M M9} => [ml m cI S M9.1])) := by
  refine CT.of RX7 rfl (by decide +kernel) (Nat.le_of_ble_eq_true rfl) [(0, .ref (m 0)), (1, .int 1)] rfl (fun x X Rr hnm => ?_)
  have hth := hS.th
  have hpe := hS.pe
  refine G.il X dX7_first_0 1 rfl ?_
  refine G.pu X dX7_first_1 ?_
  refine G.pu X dX7_first_2 ?_
  refine G.csti X kX7_isIn lX7_85 dX7_first_3 (tX7_isIn_yes l D cI cW 1 0 3 (by omega) (by omega) (by omega)) ⟨Nat.le_of_ble_eq_true rfl, Nat.le_of_ble_eq_true rfl⟩ ⟨Nat.zero_le _, Nat.zero_le _⟩ [] rfl ⟨rfl, rfl⟩ rfl rfl rfl (Nat.le_of_ble_eq_true rfl) (ff_nil) (ws' := [ml m cI S M]) rfl ?_
  refine G.b_ne X dX7_first_6 (fun b6 => ?_) (fun b6 => absurd b6 (by decide))
  refine G.il X dX7_first_16 1 rfl ?_
  refine G.pu X dX7_first_17 ?_
  refine G.c_ne X (a := 1) (b := 3) dX7_first_18 (fun b18 => ?_) (fun b18 => absurd b18 (by decide))
  refine G.al X dX7_first_28 0 rfl ?_
  refine G.il X dX7_first_29 1 rfl ?_
  refine G.cvie X kX7_firstAt lX7_232 dX7_first_30 (tX7_firstAt_1 l D cI cW m S M hS hco) ⟨Nat.le_of_ble_eq_true rfl, Nat.le_of_ble_eq_true rfl⟩ ⟨Nat.zero_le _, Nat.zero_le _⟩ [0] rfl ⟨rfl, rfl⟩ rfl rfl 0 0 rfl rfl rfl rfl (Nat.le_of_ble_eq_true rfl) (fun _ => (ff_cons (ml_fst _ _ _ _ _ _) (ff_nil))) (f8 := fun M9_30 : {M9_30 : MS // Mq 128 M M9_30} => [ml m cI S M9_30.1]) (fun _ => rfl) (fun M9_30 => ?_)
  exact G.iret X Rr (v := (o2i (fi (fun d => w_isf (w_dayN S d) 1) 100))) dX7_first_33 (pie_mk (qk ((Mq.rf 64 M).tr M9_30.2 (by decide))) (by rfl) (by rfl))

set_option maxRecDepth 20000 in
theorem tX7_first_2 (l : Launch) (D : va_G) (cI cW : ClassId) (m : Nat → Nat) (S : WS) (M : MS) (hS : Ok S) (hco : m_co M = false) : CT l D cI cW yX7_first cX7_first 2 (some .int) ⟨5, 0, 0, 109⟩ [.ref (m 0), .int 2] ([ml m cI S M]) (PIE (o2i (fi (fun d => w_isf (w_dayN S d) 2) 100)) (fun M9 : {M9 : MS // Mq 64 M M9} => [ml m cI S M9.1])) := by
  refine CT.of RX7 rfl (by decide +kernel) (Nat.le_of_ble_eq_true rfl) [(0, .ref (m 0)), (1, .int 2)] rfl (fun x X Rr hnm => ?_)
  have hth := hS.th
  have hpe := hS.pe
  refine G.il X dX7_first_0 1 rfl ?_
  refine G.pu X dX7_first_1 ?_
  refine G.pu X dX7_first_2 ?_
  refine G.csti X kX7_isIn lX7_85 dX7_first_3 (tX7_isIn_yes l D cI cW 2 0 3 (by omega) (by omega) (by omega)) ⟨Nat.le_of_ble_eq_true rfl, Nat.le_of_ble_eq_true rfl⟩ ⟨Nat.zero_le _, Nat.zero_le _⟩ [] rfl ⟨rfl, rfl⟩ rfl rfl rfl (Nat.le_of_ble_eq_true rfl) (ff_nil) (ws' := [ml m cI S M]) rfl ?_
  refine G.b_ne X dX7_first_6 (fun b6 => ?_) (fun b6 => absurd b6 (by decide))
  refine G.il X dX7_first_16 1 rfl ?_
  refine G.pu X dX7_first_17 ?_
  refine G.c_ne X (a := 2) (b := 3) dX7_first_18 (fun b18 => ?_) (fun b18 => absurd b18 (by decide))
  refine G.al X dX7_first_28 0 rfl ?_
  refine G.il X dX7_first_29 1 rfl ?_
  refine G.cvie X kX7_firstAt lX7_232 dX7_first_30 (tX7_firstAt_2 l D cI cW m S M hS hco) ⟨Nat.le_of_ble_eq_true rfl, Nat.le_of_ble_eq_true rfl⟩ ⟨Nat.zero_le _, Nat.zero_le _⟩ [0] rfl ⟨rfl, rfl⟩ rfl rfl 0 0 rfl rfl rfl rfl (Nat.le_of_ble_eq_true rfl) (fun _ => (ff_cons (ml_fst _ _ _ _ _ _) (ff_nil))) (f8 := fun M9_30 : {M9_30 : MS // Mq 128 M M9_30} => [ml m cI S M9_30.1]) (fun _ => rfl) (fun M9_30 => ?_)
  exact G.iret X Rr (v := (o2i (fi (fun d => w_isf (w_dayN S d) 2) 100))) dX7_first_33 (pie_mk (qk ((Mq.rf 64 M).tr M9_30.2 (by decide))) (by rfl) (by rfl))

set_option maxRecDepth 20000 in
theorem tX7_first_3 (l : Launch) (D : va_G) (cI cW : ClassId) (m : Nat → Nat) (S : WS) (M : MS) (hS : Ok S) (hco : m_co M = false) : CT l D cI cW yX7_first cX7_first 2 (some .int) ⟨7, 0, 0, 152⟩ [.ref (m 0), .int 3] ([ml m cI S M]) (PIE (o2i (bix (ask S) (fun i j => decide (w_late S i < w_late S j)) (s_th S))) (fun M9 : {M9 : MS // Mq 64 M M9} => [ml m cI S M9.1])) := by
  refine CT.of RX7 rfl (by decide +kernel) (Nat.le_of_ble_eq_true rfl) [(0, .ref (m 0)), (1, .int 3)] rfl (fun x X Rr hnm => ?_)
  have hth := hS.th
  have hpe := hS.pe
  refine G.il X dX7_first_0 1 rfl ?_
  refine G.pu X dX7_first_1 ?_
  refine G.pu X dX7_first_2 ?_
  refine G.csti X kX7_isIn lX7_85 dX7_first_3 (tX7_isIn_yes l D cI cW 3 0 3 (by omega) (by omega) (by omega)) ⟨Nat.le_of_ble_eq_true rfl, Nat.le_of_ble_eq_true rfl⟩ ⟨Nat.zero_le _, Nat.zero_le _⟩ [] rfl ⟨rfl, rfl⟩ rfl rfl rfl (Nat.le_of_ble_eq_true rfl) (ff_nil) (ws' := [ml m cI S M]) rfl ?_
  refine G.b_ne X dX7_first_6 (fun b6 => ?_) (fun b6 => absurd b6 (by decide))
  refine G.il X dX7_first_16 1 rfl ?_
  refine G.pu X dX7_first_17 ?_
  refine G.c_ne X (a := 3) (b := 3) dX7_first_18 (fun b18 => absurd b18 (by decide)) (fun b18 => ?_)
  refine G.al X dX7_first_21 0 rfl ?_
  refine G.cvie X kX7_blocking lX7_229 dX7_first_22 (tX7_blocking l D cI cW m S M hS hco) ⟨Nat.le_of_ble_eq_true rfl, Nat.le_of_ble_eq_true rfl⟩ ⟨Nat.zero_le _, Nat.zero_le _⟩ [0] rfl ⟨rfl, rfl⟩ rfl rfl 0 0 rfl rfl rfl rfl (Nat.le_of_ble_eq_true rfl) (fun _ => (ff_cons (ml_fst _ _ _ _ _ _) (ff_nil))) (f8 := fun M9_22 : {M9_22 : MS // Mq 128 M M9_22} => [ml m cI S M9_22.1]) (fun _ => rfl) (fun M9_22 => ?_)
  refine G.go X dX7_first_25 ?_
  exact G.iret X Rr (v := (o2i (bix (ask S) (fun i j => decide (w_late S i < w_late S j)) (s_th S)))) dX7_first_33 (pie_mk (qk ((Mq.rf 64 M).tr M9_22.2 (by decide))) (by rfl) (by rfl))
