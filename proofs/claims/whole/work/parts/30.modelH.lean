theorem n_m10b {v : Nat} (h1 : 11 ≤ v) (h2 : v ≤ 16) : nI v - 10 = nI (v - 10) := by
  rcases (show v = 11 ∨ v = 12 ∨ v = 13 ∨ v = 14 ∨ v = 15 ∨ v = 16 by omega) with rfl | rfl | rfl | rfl | rfl | rfl <;> decide
set_option maxRecDepth 20000 in
theorem tX7_lots_lo (l : Launch) (D : va_G) (cI cW : ClassId) (m : Nat → Nat) (S : WS) (M : MS) (n : Int32) (z : Int32) (w : Int32) (ha : n < 1) : CT l D cI cW yX7_lots cX7_lots 10 (some .int) ⟨1, 0, 0, 22⟩ [.ref (m 0), .int n, .int z, .int w] ([ml m cI S M]) (PI (-4) ([ml m cI S (m_no M 4)])) := by
  refine CT.of RX7 rfl (by decide +kernel) (Nat.le_of_ble_eq_true rfl) [(0, .ref (m 0)), (1, .int n), (2, .int z), (3, .int w)] rfl (fun x X Rr hnm => ?_)
  refine G.il X dX7_lots_0 1 rfl ?_
  refine G.pu X dX7_lots_1 ?_
  refine G.pu X dX7_lots_2 ?_
  refine G.csti X kX7_bound lX7_67 dX7_lots_4 (tX7_bound_lo l D cI cW n 1 20 ha) ⟨Nat.le_of_ble_eq_true rfl, Nat.le_of_ble_eq_true rfl⟩ ⟨Nat.zero_le _, Nat.zero_le _⟩ [] rfl ⟨rfl, rfl⟩ rfl rfl rfl (Nat.le_of_ble_eq_true rfl) (ff_nil) (ws' := [ml m cI S M]) rfl ?_
  refine G.is X dX7_lots_7 (by decide) (lv' := [(4, .int (-4)), (0, .ref (m 0)), (1, .int n), (2, .int z), (3, .int w)]) rfl ?_
  refine G.il X dX7_lots_9 0 rfl ?_
  refine G.z_ne X (a := (-4)) dX7_lots_11 (fun b11 => ?_) (fun b11 => absurd b11 (by decide))
  refine G.il X dX7_lots_43 0 rfl ?_
  refine G.z_eq X (a := (-4)) dX7_lots_45 (fun b45 => absurd b45 (by decide)) (fun b45 => ?_)
  refine G.al X dX7_lots_48 1 rfl ?_
  refine G.il X dX7_lots_49 0 rfl ?_
  refine G.cvi X kX7_no lX7_74 dX7_lots_51 (tX7_no l D cI cW m S M 4 (by omega) (by omega)) ⟨Nat.le_of_ble_eq_true rfl, Nat.le_of_ble_eq_true rfl⟩ ⟨Nat.zero_le _, Nat.zero_le _⟩ [0] rfl ⟨rfl, rfl⟩ rfl rfl 0 0 rfl rfl rfl rfl (Nat.le_of_ble_eq_true rfl) (ff_cons (ml_fst _ _ _ _ _ _) (ff_nil)) (ws' := [ml m cI S (m_no M 4)]) rfl ?_
  exact G.iret X Rr (v := (-(nI 4))) dX7_lots_54 (pi_mk (by rfl) (by rfl))

set_option maxRecDepth 20000 in
theorem tX7_lots_hi (l : Launch) (D : va_G) (cI cW : ClassId) (m : Nat → Nat) (S : WS) (M : MS) (n : Int32) (z : Int32) (w : Int32) (ha : ¬ n < 1) (hb : 20 < n) : CT l D cI cW yX7_lots cX7_lots 10 (some .int) ⟨1, 0, 0, 22⟩ [.ref (m 0), .int n, .int z, .int w] ([ml m cI S M]) (PI (-6) ([ml m cI S (m_no M 6)])) := by
  refine CT.of RX7 rfl (by decide +kernel) (Nat.le_of_ble_eq_true rfl) [(0, .ref (m 0)), (1, .int n), (2, .int z), (3, .int w)] rfl (fun x X Rr hnm => ?_)
  refine G.il X dX7_lots_0 1 rfl ?_
  refine G.pu X dX7_lots_1 ?_
  refine G.pu X dX7_lots_2 ?_
  refine G.csti X kX7_bound lX7_67 dX7_lots_4 (tX7_bound_hi l D cI cW n 1 20 ha hb) ⟨Nat.le_of_ble_eq_true rfl, Nat.le_of_ble_eq_true rfl⟩ ⟨Nat.zero_le _, Nat.zero_le _⟩ [] rfl ⟨rfl, rfl⟩ rfl rfl rfl (Nat.le_of_ble_eq_true rfl) (ff_nil) (ws' := [ml m cI S M]) rfl ?_
  refine G.is X dX7_lots_7 (by decide) (lv' := [(4, .int (-6)), (0, .ref (m 0)), (1, .int n), (2, .int z), (3, .int w)]) rfl ?_
  refine G.il X dX7_lots_9 0 rfl ?_
  refine G.z_ne X (a := (-6)) dX7_lots_11 (fun b11 => ?_) (fun b11 => absurd b11 (by decide))
  refine G.il X dX7_lots_43 0 rfl ?_
  refine G.z_eq X (a := (-6)) dX7_lots_45 (fun b45 => absurd b45 (by decide)) (fun b45 => ?_)
  refine G.al X dX7_lots_48 1 rfl ?_
  refine G.il X dX7_lots_49 0 rfl ?_
  refine G.cvi X kX7_no lX7_74 dX7_lots_51 (tX7_no l D cI cW m S M 6 (by omega) (by omega)) ⟨Nat.le_of_ble_eq_true rfl, Nat.le_of_ble_eq_true rfl⟩ ⟨Nat.zero_le _, Nat.zero_le _⟩ [0] rfl ⟨rfl, rfl⟩ rfl rfl 0 0 rfl rfl rfl rfl (Nat.le_of_ble_eq_true rfl) (ff_cons (ml_fst _ _ _ _ _ _) (ff_nil)) (ws' := [ml m cI S (m_no M 6)]) rfl ?_
  exact G.iret X Rr (v := (-(nI 6))) dX7_lots_54 (pi_mk (by rfl) (by rfl))

set_option maxRecDepth 20000 in
theorem tX7_lots_oth (l : Launch) (D : va_G) (cI cW : ClassId) (m : Nat → Nat) (S : WS) (M : MS) (n : Nat) (z : Int32) (w : Int32) (ha : 1 ≤ n) (hn : n ≤ 20) (hw : z_in w 2 = false) : CT l D cI cW yX7_lots cX7_lots 10 (some .int) ⟨1, 0, 0, 22⟩ [.ref (m 0), .int (nI n), .int z, .int w] ([ml m cI S M]) (PI (-2) ([ml m cI S (m_no M 2)])) := by
  refine CT.of RX7 rfl (by decide +kernel) (Nat.le_of_ble_eq_true rfl) [(0, .ref (m 0)), (1, .int (nI n)), (2, .int z), (3, .int w)] rfl (fun x X Rr hnm => ?_)
  refine G.il X dX7_lots_0 1 rfl ?_
  refine G.pu X dX7_lots_1 ?_
  refine G.pu X dX7_lots_2 ?_
  refine G.csti X kX7_bound lX7_67 dX7_lots_4 (tX7_bound_ok l D cI cW n 1 20 ha hn (by omega)) ⟨Nat.le_of_ble_eq_true rfl, Nat.le_of_ble_eq_true rfl⟩ ⟨Nat.zero_le _, Nat.zero_le _⟩ [] rfl ⟨rfl, rfl⟩ rfl rfl rfl (Nat.le_of_ble_eq_true rfl) (ff_nil) (ws' := [ml m cI S M]) rfl ?_
  refine G.is X dX7_lots_7 (by decide) (lv' := [(4, .int 0), (0, .ref (m 0)), (1, .int (nI n)), (2, .int z), (3, .int w)]) rfl ?_
  refine G.il X dX7_lots_9 0 rfl ?_
  refine G.z_ne X (a := 0) dX7_lots_11 (fun b11 => absurd b11 (by decide)) (fun b11 => ?_)
  refine G.il X dX7_lots_14 4 rfl ?_
  refine G.pu X dX7_lots_15 ?_
  refine G.pu X dX7_lots_16 ?_
  refine G.csti X kX7_isIn lX7_85 dX7_lots_17 (tX7_isIn_no l D cI cW w 0 1 (zbt_no (n := 1) hw (by decide))) ⟨Nat.le_of_ble_eq_true rfl, Nat.le_of_ble_eq_true rfl⟩ ⟨Nat.zero_le _, Nat.zero_le _⟩ [] rfl ⟨rfl, rfl⟩ rfl rfl rfl (Nat.le_of_ble_eq_true rfl) (ff_nil) (ws' := [ml m cI S M]) rfl ?_
  refine G.b_ne X dX7_lots_20 (fun b20 => absurd b20 (by decide)) (fun b20 => ?_)
  refine G.pu X dX7_lots_23 ?_
  refine G.go X dX7_lots_25 ?_
  refine G.is X dX7_lots_41 (by decide) (lv' := [(4, .int (-2)), (0, .ref (m 0)), (1, .int (nI n)), (2, .int z), (3, .int w)]) rfl ?_
  refine G.il X dX7_lots_43 0 rfl ?_
  refine G.z_eq X (a := (-2)) dX7_lots_45 (fun b45 => absurd b45 (by decide)) (fun b45 => ?_)
  refine G.al X dX7_lots_48 1 rfl ?_
  refine G.il X dX7_lots_49 0 rfl ?_
  refine G.cvi X kX7_no lX7_74 dX7_lots_51 (tX7_no l D cI cW m S M 2 (by omega) (by omega)) ⟨Nat.le_of_ble_eq_true rfl, Nat.le_of_ble_eq_true rfl⟩ ⟨Nat.zero_le _, Nat.zero_le _⟩ [0] rfl ⟨rfl, rfl⟩ rfl rfl 0 0 rfl rfl rfl rfl (Nat.le_of_ble_eq_true rfl) (ff_cons (ml_fst _ _ _ _ _ _) (ff_nil)) (ws' := [ml m cI S (m_no M 2)]) rfl ?_
  exact G.iret X Rr (v := (-(nI 2))) dX7_lots_54 (pi_mk (by rfl) (by rfl))

set_option maxRecDepth 20000 in
theorem tX7_lots_no0 (l : Launch) (D : va_G) (cI cW : ClassId) (m : Nat → Nat) (S : WS) (M : MS) (n : Nat) (z : Int32) (hS : Ok S) (ha : 1 ≤ n) (hn : n ≤ 20) (hp0 : s_pe S = 0) : CT l D cI cW yX7_lots cX7_lots 10 (some .int) ⟨1, 0, 0, 22⟩ [.ref (m 0), .int (nI n), .int z, .int 0] ([ml m cI S M]) (PI (-3) ([ml m cI S (m_no M 3)])) := by
  refine CT.of RX7 rfl (by decide +kernel) (Nat.le_of_ble_eq_true rfl) [(0, .ref (m 0)), (1, .int (nI n)), (2, .int z), (3, .int 0)] rfl (fun x X Rr hnm => ?_)
  have hth := hS.th
  have hpe := hS.pe
  refine G.il X dX7_lots_0 1 rfl ?_
  refine G.pu X dX7_lots_1 ?_
  refine G.pu X dX7_lots_2 ?_
  refine G.csti X kX7_bound lX7_67 dX7_lots_4 (tX7_bound_ok l D cI cW n 1 20 ha hn (by omega)) ⟨Nat.le_of_ble_eq_true rfl, Nat.le_of_ble_eq_true rfl⟩ ⟨Nat.zero_le _, Nat.zero_le _⟩ [] rfl ⟨rfl, rfl⟩ rfl rfl rfl (Nat.le_of_ble_eq_true rfl) (ff_nil) (ws' := [ml m cI S M]) rfl ?_
  refine G.is X dX7_lots_7 (by decide) (lv' := [(4, .int 0), (0, .ref (m 0)), (1, .int (nI n)), (2, .int z), (3, .int 0)]) rfl ?_
  refine G.il X dX7_lots_9 0 rfl ?_
  refine G.z_ne X (a := 0) dX7_lots_11 (fun b11 => absurd b11 (by decide)) (fun b11 => ?_)
  refine G.il X dX7_lots_14 4 rfl ?_
  refine G.pu X dX7_lots_15 ?_
  refine G.pu X dX7_lots_16 ?_
  refine G.csti X kX7_isIn lX7_85 dX7_lots_17 (tX7_isIn_yes l D cI cW 0 0 1 (by omega) (by omega) (by omega)) ⟨Nat.le_of_ble_eq_true rfl, Nat.le_of_ble_eq_true rfl⟩ ⟨Nat.zero_le _, Nat.zero_le _⟩ [] rfl ⟨rfl, rfl⟩ rfl rfl rfl (Nat.le_of_ble_eq_true rfl) (ff_nil) (ws' := [ml m cI S M]) rfl ?_
  refine G.b_ne X dX7_lots_20 (fun b20 => ?_) (fun b20 => absurd b20 (by decide))
  refine G.al X dX7_lots_28 1 rfl ?_
  refine G.get X fX7_64 dX7_lots_29 0 0 rfl rfl rfl ?_
  refine G.nz_ne X (a := s_pe S) (by omega) dX7_lots_32 (fun b32 => absurd b32 (by omega)) (fun b32 => ?_)
  refine G.pu X dX7_lots_35 ?_
  refine G.go X dX7_lots_37 ?_
  refine G.is X dX7_lots_41 (by decide) (lv' := [(4, .int (-3)), (0, .ref (m 0)), (1, .int (nI n)), (2, .int z), (3, .int 0)]) rfl ?_
  refine G.il X dX7_lots_43 0 rfl ?_
  refine G.z_eq X (a := (-3)) dX7_lots_45 (fun b45 => absurd b45 (by decide)) (fun b45 => ?_)
  refine G.al X dX7_lots_48 1 rfl ?_
  refine G.il X dX7_lots_49 0 rfl ?_
  refine G.cvi X kX7_no lX7_74 dX7_lots_51 (tX7_no l D cI cW m S M 3 (by omega) (by omega)) ⟨Nat.le_of_ble_eq_true rfl, Nat.le_of_ble_eq_true rfl⟩ ⟨Nat.zero_le _, Nat.zero_le _⟩ [0] rfl ⟨rfl, rfl⟩ rfl rfl 0 0 rfl rfl rfl rfl (Nat.le_of_ble_eq_true rfl) (ff_cons (ml_fst _ _ _ _ _ _) (ff_nil)) (ws' := [ml m cI S (m_no M 3)]) rfl ?_
  exact G.iret X Rr (v := (-(nI 3))) dX7_lots_54 (pi_mk (by rfl) (by rfl))

set_option maxRecDepth 20000 in
theorem tX7_lots_no1 (l : Launch) (D : va_G) (cI cW : ClassId) (m : Nat → Nat) (S : WS) (M : MS) (n : Nat) (z : Int32) (hS : Ok S) (ha : 1 ≤ n) (hn : n ≤ 20) (hp0 : s_pe S = 0) : CT l D cI cW yX7_lots cX7_lots 10 (some .int) ⟨1, 0, 0, 22⟩ [.ref (m 0), .int (nI n), .int z, .int 1] ([ml m cI S M]) (PI (-3) ([ml m cI S (m_no M 3)])) := by
  refine CT.of RX7 rfl (by decide +kernel) (Nat.le_of_ble_eq_true rfl) [(0, .ref (m 0)), (1, .int (nI n)), (2, .int z), (3, .int 1)] rfl (fun x X Rr hnm => ?_)
  have hth := hS.th
  have hpe := hS.pe
  refine G.il X dX7_lots_0 1 rfl ?_
  refine G.pu X dX7_lots_1 ?_
  refine G.pu X dX7_lots_2 ?_
  refine G.csti X kX7_bound lX7_67 dX7_lots_4 (tX7_bound_ok l D cI cW n 1 20 ha hn (by omega)) ⟨Nat.le_of_ble_eq_true rfl, Nat.le_of_ble_eq_true rfl⟩ ⟨Nat.zero_le _, Nat.zero_le _⟩ [] rfl ⟨rfl, rfl⟩ rfl rfl rfl (Nat.le_of_ble_eq_true rfl) (ff_nil) (ws' := [ml m cI S M]) rfl ?_
  refine G.is X dX7_lots_7 (by decide) (lv' := [(4, .int 0), (0, .ref (m 0)), (1, .int (nI n)), (2, .int z), (3, .int 1)]) rfl ?_
  refine G.il X dX7_lots_9 0 rfl ?_
  refine G.z_ne X (a := 0) dX7_lots_11 (fun b11 => absurd b11 (by decide)) (fun b11 => ?_)
  refine G.il X dX7_lots_14 4 rfl ?_
  refine G.pu X dX7_lots_15 ?_
  refine G.pu X dX7_lots_16 ?_
  refine G.csti X kX7_isIn lX7_85 dX7_lots_17 (tX7_isIn_yes l D cI cW 1 0 1 (by omega) (by omega) (by omega)) ⟨Nat.le_of_ble_eq_true rfl, Nat.le_of_ble_eq_true rfl⟩ ⟨Nat.zero_le _, Nat.zero_le _⟩ [] rfl ⟨rfl, rfl⟩ rfl rfl rfl (Nat.le_of_ble_eq_true rfl) (ff_nil) (ws' := [ml m cI S M]) rfl ?_
  refine G.b_ne X dX7_lots_20 (fun b20 => ?_) (fun b20 => absurd b20 (by decide))
  refine G.al X dX7_lots_28 1 rfl ?_
  refine G.get X fX7_64 dX7_lots_29 0 0 rfl rfl rfl ?_
  refine G.nz_ne X (a := s_pe S) (by omega) dX7_lots_32 (fun b32 => absurd b32 (by omega)) (fun b32 => ?_)
  refine G.pu X dX7_lots_35 ?_
  refine G.go X dX7_lots_37 ?_
  refine G.is X dX7_lots_41 (by decide) (lv' := [(4, .int (-3)), (0, .ref (m 0)), (1, .int (nI n)), (2, .int z), (3, .int 1)]) rfl ?_
  refine G.il X dX7_lots_43 0 rfl ?_
  refine G.z_eq X (a := (-3)) dX7_lots_45 (fun b45 => absurd b45 (by decide)) (fun b45 => ?_)
  refine G.al X dX7_lots_48 1 rfl ?_
  refine G.il X dX7_lots_49 0 rfl ?_
  refine G.cvi X kX7_no lX7_74 dX7_lots_51 (tX7_no l D cI cW m S M 3 (by omega) (by omega)) ⟨Nat.le_of_ble_eq_true rfl, Nat.le_of_ble_eq_true rfl⟩ ⟨Nat.zero_le _, Nat.zero_le _⟩ [0] rfl ⟨rfl, rfl⟩ rfl rfl 0 0 rfl rfl rfl rfl (Nat.le_of_ble_eq_true rfl) (ff_cons (ml_fst _ _ _ _ _ _) (ff_nil)) (ws' := [ml m cI S (m_no M 3)]) rfl ?_
  exact G.iret X Rr (v := (-(nI 3))) dX7_lots_54 (pi_mk (by rfl) (by rfl))

set_option maxRecDepth 20000 in
theorem tX7_lots_0 (l : Launch) (D : va_G) (cI cW : ClassId) (m : Nat → Nat) (S : WS) (M : MS) (n : Nat) (z : Int32) (hS : Ok S) (hco : m_co M = false) (ha : 1 ≤ n) (hn : n ≤ 20) (hp0 : 0 < s_pe S) : CT l D cI cW yX7_lots cX7_lots 10 (some .int) ⟨5, 0, 0, 110⟩ [.ref (m 0), .int (nI n), .int z, .int 0] ([ml m cI S M]) (PIE (k_w (m_lots S z (-nI n * sumf (s_an S) (s_pe S)) n)) (fun M9 : {M9 : MS // Mq 64 M M9} => [ml m cI S M9.1])) := by
  refine CT.of RX7 rfl (by decide +kernel) (Nat.le_of_ble_eq_true rfl) [(0, .ref (m 0)), (1, .int (nI n)), (2, .int z), (3, .int 0)] rfl (fun x X Rr hnm => ?_)
  have hth := hS.th
  have hpe := hS.pe
  refine G.il X dX7_lots_0 1 rfl ?_
  refine G.pu X dX7_lots_1 ?_
  refine G.pu X dX7_lots_2 ?_
  refine G.csti X kX7_bound lX7_67 dX7_lots_4 (tX7_bound_ok l D cI cW n 1 20 ha hn (by omega)) ⟨Nat.le_of_ble_eq_true rfl, Nat.le_of_ble_eq_true rfl⟩ ⟨Nat.zero_le _, Nat.zero_le _⟩ [] rfl ⟨rfl, rfl⟩ rfl rfl rfl (Nat.le_of_ble_eq_true rfl) (ff_nil) (ws' := [ml m cI S M]) rfl ?_
  refine G.is X dX7_lots_7 (by decide) (lv' := [(4, .int 0), (0, .ref (m 0)), (1, .int (nI n)), (2, .int z), (3, .int 0)]) rfl ?_
  refine G.il X dX7_lots_9 0 rfl ?_
  refine G.z_ne X (a := 0) dX7_lots_11 (fun b11 => absurd b11 (by decide)) (fun b11 => ?_)
  refine G.il X dX7_lots_14 4 rfl ?_
  refine G.pu X dX7_lots_15 ?_
  refine G.pu X dX7_lots_16 ?_
  refine G.csti X kX7_isIn lX7_85 dX7_lots_17 (tX7_isIn_yes l D cI cW 0 0 1 (by omega) (by omega) (by omega)) ⟨Nat.le_of_ble_eq_true rfl, Nat.le_of_ble_eq_true rfl⟩ ⟨Nat.zero_le _, Nat.zero_le _⟩ [] rfl ⟨rfl, rfl⟩ rfl rfl rfl (Nat.le_of_ble_eq_true rfl) (ff_nil) (ws' := [ml m cI S M]) rfl ?_
  refine G.b_ne X dX7_lots_20 (fun b20 => ?_) (fun b20 => absurd b20 (by decide))
  refine G.al X dX7_lots_28 1 rfl ?_
  refine G.get X fX7_64 dX7_lots_29 0 0 rfl rfl rfl ?_
  refine G.nz_ne X (a := s_pe S) (by omega) dX7_lots_32 (fun b32 => ?_) (fun b32 => absurd b32 (by omega))
  refine G.pu X dX7_lots_40 ?_
  refine G.is X dX7_lots_41 (by decide) (lv' := [(4, .int 0), (0, .ref (m 0)), (1, .int (nI n)), (2, .int z), (3, .int 0)]) rfl ?_
  refine G.il X dX7_lots_43 0 rfl ?_
  refine G.z_eq X (a := 0) dX7_lots_45 (fun b45 => ?_) (fun b45 => absurd b45 (by decide))
  refine G.il X dX7_lots_55 3 rfl ?_
  refine G.is X dX7_lots_56 (by decide) (lv' := [(5, .int z), (4, .int 0), (0, .ref (m 0)), (1, .int (nI n)), (2, .int z), (3, .int 0)]) rfl ?_
  refine G.pu X dX7_lots_58 ?_
  refine G.is X dX7_lots_59 (by decide) (lv' := [(6, .int 0), (5, .int z), (4, .int 0), (0, .ref (m 0)), (1, .int (nI n)), (2, .int z), (3, .int 0)]) rfl ?_
  refine G.il X dX7_lots_61 4 rfl ?_
  refine G.ineg X dX7_lots_62 ?_
  refine G.al X dX7_lots_63 3 rfl ?_
  refine G.cvi X kX7_allAnswered lX7_292 dX7_lots_64 (tX7_allAnswered l D cI cW m S M (by omega)) ⟨Nat.le_of_ble_eq_true rfl, Nat.le_of_ble_eq_true rfl⟩ ⟨Nat.zero_le _, Nat.zero_le _⟩ [0] rfl ⟨rfl, rfl⟩ rfl rfl 0 0 rfl rfl rfl rfl (Nat.le_of_ble_eq_true rfl) (ff_cons (ml_fst _ _ _ _ _ _) (ff_nil)) (ws' := [ml m cI S M]) rfl ?_
  refine G.imul X dX7_lots_67 ?_
  refine G.is X dX7_lots_68 (by decide) (lv' := [(7, .int ((-(nI n)) * (sumf (s_an S) (s_pe S)))), (6, .int 0), (5, .int z), (4, .int 0), (0, .ref (m 0)), (1, .int (nI n)), (2, .int z), (3, .int 0)]) rfl ?_
  refine G.pu X dX7_lots_70 ?_
  refine G.is X dX7_lots_71 (by decide) (lv' := [(8, .int 0), (7, .int ((-(nI n)) * (sumf (s_an S) (s_pe S)))), (6, .int 0), (5, .int z), (4, .int 0), (0, .ref (m 0)), (1, .int (nI n)), (2, .int z), (3, .int 0)]) rfl ?_
  have L73 : ∀ j, j ≤ n → ∀ M8 : {M8 : MS // Mq 64 M M8}, G x 0 0 ([ml m cI S M8.1]) 73 [(8, .int (nI j)), (7, .int (k_a (m_lots S z (-nI n * sumf (s_an S) (s_pe S)) j))), (6, .int (k_w (m_lots S z (-nI n * sumf (s_an S) (s_pe S)) j))), (5, .int (k_s (m_lots S z (-nI n * sumf (s_an S) (s_pe S)) j))), (0, .ref (m 0)), (1, .int (nI n)), (2, .int z), (3, .int 0)] [] := by
    refine loop_dn n _ ?_ ?_
    · intro M8
      refine G.il X dX7_lots_73 0 rfl ?_
      refine G.il X dX7_lots_75 5 rfl ?_
      refine G.n_ge X (a := n) (b := n) (by omega) (by omega) dX7_lots_76 (fun b76 => ?_) (fun b76 => absurd b76 (by omega))
      refine G.il X dX7_lots_177 7 rfl ?_
      refine G.z_ne X (a := 0) dX7_lots_178 (fun b178 => absurd b178 (by decide)) (fun b178 => ?_)
      refine G.il X dX7_lots_181 2 rfl ?_
      refine G.go X dX7_lots_183 ?_
      exact G.iret X Rr (v := (k_w (m_lots S z (-nI n * sumf (s_an S) (s_pe S)) n))) dX7_lots_188 (pie_mk (qk (M8.2)) (by rfl) (by rfl))
    · intro j hj ih73 M8
      refine G.il X dX7_lots_73 0 rfl ?_
      refine G.il X dX7_lots_75 5 rfl ?_
      refine G.n_ge X (a := j) (b := n) (by omega) (by omega) dX7_lots_76 (fun b76 => absurd b76 (by omega)) (fun b76 => ?_)
      refine G.al X dX7_lots_79 4 rfl ?_
      refine G.cvv X kX7_changes lX7_250 dX7_lots_80 (tX7_changes l D cI cW m S M8.1) ⟨Nat.le_of_ble_eq_true rfl, Nat.le_of_ble_eq_true rfl⟩ ⟨Nat.zero_le _, Nat.zero_le _⟩ [0] rfl ⟨rfl, rfl⟩ rfl rfl 0 0 rfl rfl rfl rfl (Nat.le_of_ble_eq_true rfl) (ff_cons (ml_fst _ _ _ _ _ _) (ff_nil)) (ws' := [ml m cI S (m_kpa M8.1 64 S)]) rfl ?_
      refine G.pu X dX7_lots_83 ?_
      refine G.is X dX7_lots_84 (by decide) (lv' := [(9, .int 0), (8, .int (nI j)), (7, .int (k_a (m_lots S z (-nI n * sumf (s_an S) (s_pe S)) j))), (6, .int (k_w (m_lots S z (-nI n * sumf (s_an S) (s_pe S)) j))), (5, .int (k_s (m_lots S z (-nI n * sumf (s_an S) (s_pe S)) j))), (0, .ref (m 0)), (1, .int (nI n)), (2, .int z), (3, .int 0)]) rfl ?_
      have L86 : ∀ i, i ≤ s_th S → G x 0 0 ([ml m cI ((w_lot S (k_s (m_lots S z (-nI n * sumf (s_an S) (s_pe S)) j)) i).1) (m_kpa M8.1 64 S)]) 86 [(9, .int (nI i)), (5, .int ((w_lot S (k_s (m_lots S z (-nI n * sumf (s_an S) (s_pe S)) j)) i).2)), (8, .int (nI j)), (7, .int (k_a (m_lots S z (-nI n * sumf (s_an S) (s_pe S)) j))), (6, .int (k_w (m_lots S z (-nI n * sumf (s_an S) (s_pe S)) j))), (0, .ref (m 0)), (1, .int (nI n)), (2, .int z), (3, .int 0)] [] := by
        refine loop_dn (s_th S) _ ?_ ?_
        · have hL : Ok ((w_lot S (k_s (m_lots S z (-nI n * sumf (s_an S) (s_pe S)) j)) (s_th S)).1) := ok_lot hS hp0 _ (s_th S) (Nat.le_refl _)
          have ft : s_th ((w_lot S (k_s (m_lots S z (-nI n * sumf (s_an S) (s_pe S)) j)) (s_th S)).1) = s_th S := th_lot S _ (s_th S)
          have fp : s_pe ((w_lot S (k_s (m_lots S z (-nI n * sumf (s_an S) (s_pe S)) j)) (s_th S)).1) = s_pe S := pe_lot S _ (s_th S)
          have fq : s_pe (w_dayN ((w_lot S (k_s (m_lots S z (-nI n * sumf (s_an S) (s_pe S)) j)) (s_th S)).1) 15) = s_pe S := (fr_dayN _ 15).1.trans fp
          refine G.il X dX7_lots_86 0 rfl ?_
          refine G.al X dX7_lots_88 5 rfl ?_
          refine G.get X fX7_58 dX7_lots_89 0 0 rfl rfl rfl ?_
          refine G.n_ge X (a := s_th S) (b := s_th ((w_lot S (k_s (m_lots S z (-nI n * sumf (s_an S) (s_pe S)) j)) (s_th S)).1)) (by omega) (by omega) dX7_lots_92 (fun b92 => ?_) (fun b92 => absurd b92 (by omega))
          refine G.il X dX7_lots_141 4 rfl ?_
          refine G.al X dX7_lots_143 5 rfl ?_
          refine G.pu X dX7_lots_144 ?_
          refine G.cvi X kX7_wetDays lX7_238 dX7_lots_146 (tX7_wetDays l D cI cW m ((w_lot S (k_s (m_lots S z (-nI n * sumf (s_an S) (s_pe S)) j)) (s_th S)).1) (m_kpa M8.1 64 S) 15 hL (M8.2.co hco) (by omega)) ⟨Nat.le_of_ble_eq_true rfl, Nat.le_of_ble_eq_true rfl⟩ ⟨Nat.zero_le _, Nat.zero_le _⟩ [0] rfl ⟨rfl, rfl⟩ rfl rfl 0 0 rfl rfl rfl rfl (Nat.le_of_ble_eq_true rfl) (ff_cons (ml_fst _ _ _ _ _ _) (ff_nil)) (ws' := [ml m cI ((w_lot S (k_s (m_lots S z (-nI n * sumf (s_an S) (s_pe S)) j)) (s_th S)).1) (m_wd (m_kpa M8.1 64 S) ((w_lot S (k_s (m_lots S z (-nI n * sumf (s_an S) (s_pe S)) j)) (s_th S)).1) 15)]) rfl ?_
          refine G.iadd X dX7_lots_149 ?_
          refine G.is X dX7_lots_150 (by decide) (lv' := [(6, .int ((k_w (m_lots S z (-nI n * sumf (s_an S) (s_pe S)) j)) + (nI (w_wet ((w_lot S (k_s (m_lots S z (-nI n * sumf (s_an S) (s_pe S)) j)) (s_th S)).1) 15)))), (9, .int (nI (s_th S))), (5, .int ((w_lot S (k_s (m_lots S z (-nI n * sumf (s_an S) (s_pe S)) j)) (s_th S)).2)), (8, .int (nI j)), (7, .int (k_a (m_lots S z (-nI n * sumf (s_an S) (s_pe S)) j))), (0, .ref (m 0)), (1, .int (nI n)), (2, .int z), (3, .int 0)]) rfl ?_
          refine G.al X dX7_lots_152 5 rfl ?_
          refine G.pu X dX7_lots_153 ?_
          refine G.cvv X kX7_goes lX7_116 dX7_lots_155 (tX7_goes l D cI cW m ((w_lot S (k_s (m_lots S z (-nI n * sumf (s_an S) (s_pe S)) j)) (s_th S)).1) (m_wd (m_kpa M8.1 64 S) ((w_lot S (k_s (m_lots S z (-nI n * sumf (s_an S) (s_pe S)) j)) (s_th S)).1) 15) 15 hL (M8.2.co hco) (by omega)) ⟨Nat.le_of_ble_eq_true rfl, Nat.le_of_ble_eq_true rfl⟩ ⟨Nat.zero_le _, Nat.zero_le _⟩ [0] rfl ⟨rfl, rfl⟩ rfl rfl 0 0 rfl rfl rfl rfl (Nat.le_of_ble_eq_true rfl) (ff_cons (ml_fst _ _ _ _ _ _) (ff_nil)) (ws' := [ml m cI (w_dayN ((w_lot S (k_s (m_lots S z (-nI n * sumf (s_an S) (s_pe S)) j)) (s_th S)).1) 15) (m_wd (m_kpa M8.1 64 S) ((w_lot S (k_s (m_lots S z (-nI n * sumf (s_an S) (s_pe S)) j)) (s_th S)).1) 15)]) rfl ?_
          refine G.il X dX7_lots_158 4 rfl ?_
          refine G.al X dX7_lots_160 5 rfl ?_
          refine G.cvi X kX7_allAnswered lX7_292 dX7_lots_161 (tX7_allAnswered l D cI cW m (w_dayN ((w_lot S (k_s (m_lots S z (-nI n * sumf (s_an S) (s_pe S)) j)) (s_th S)).1) 15) (m_wd (m_kpa M8.1 64 S) ((w_lot S (k_s (m_lots S z (-nI n * sumf (s_an S) (s_pe S)) j)) (s_th S)).1) 15) (by omega)) ⟨Nat.le_of_ble_eq_true rfl, Nat.le_of_ble_eq_true rfl⟩ ⟨Nat.zero_le _, Nat.zero_le _⟩ [0] rfl ⟨rfl, rfl⟩ rfl rfl 0 0 rfl rfl rfl rfl (Nat.le_of_ble_eq_true rfl) (ff_cons (ml_fst _ _ _ _ _ _) (ff_nil)) (ws' := [ml m cI (w_dayN ((w_lot S (k_s (m_lots S z (-nI n * sumf (s_an S) (s_pe S)) j)) (s_th S)).1) 15) (m_wd (m_kpa M8.1 64 S) ((w_lot S (k_s (m_lots S z (-nI n * sumf (s_an S) (s_pe S)) j)) (s_th S)).1) 15)]) rfl ?_
          refine G.iadd X dX7_lots_164 ?_
          refine G.is X dX7_lots_165 (by decide) (lv' := [(7, .int ((k_a (m_lots S z (-nI n * sumf (s_an S) (s_pe S)) j)) + (sumf (s_an (w_dayN ((w_lot S (k_s (m_lots S z (-nI n * sumf (s_an S) (s_pe S)) j)) (s_th S)).1) 15)) (s_pe (w_dayN ((w_lot S (k_s (m_lots S z (-nI n * sumf (s_an S) (s_pe S)) j)) (s_th S)).1) 15))))), (6, .int ((k_w (m_lots S z (-nI n * sumf (s_an S) (s_pe S)) j)) + (nI (w_wet ((w_lot S (k_s (m_lots S z (-nI n * sumf (s_an S) (s_pe S)) j)) (s_th S)).1) 15)))), (9, .int (nI (s_th S))), (5, .int ((w_lot S (k_s (m_lots S z (-nI n * sumf (s_an S) (s_pe S)) j)) (s_th S)).2)), (8, .int (nI j)), (0, .ref (m 0)), (1, .int (nI n)), (2, .int z), (3, .int 0)]) rfl ?_
          refine G.al X dX7_lots_167 5 rfl ?_
          refine G.cvv X kX7_changesBack lX7_253 dX7_lots_168 (tX7_changesBack l D cI cW m (w_dayN ((w_lot S (k_s (m_lots S z (-nI n * sumf (s_an S) (s_pe S)) j)) (s_th S)).1) 15) (m_wd (m_kpa M8.1 64 S) ((w_lot S (k_s (m_lots S z (-nI n * sumf (s_an S) (s_pe S)) j)) (s_th S)).1) 15) S ((mq_wd _ _ _).kpof (Nat.le_refl _))) ⟨Nat.le_of_ble_eq_true rfl, Nat.le_of_ble_eq_true rfl⟩ ⟨Nat.zero_le _, Nat.zero_le _⟩ [0] rfl ⟨rfl, rfl⟩ rfl rfl 0 0 rfl rfl rfl rfl (Nat.le_of_ble_eq_true rfl) (ff_cons (ml_fst _ _ _ _ _ _) (ff_nil)) (ws' := [ml m cI S (m_set (m_wd (m_kpa M8.1 64 S) ((w_lot S (k_s (m_lots S z (-nI n * sumf (s_an S) (s_pe S)) j)) (s_th S)).1) 15) 128 false)]) rfl ?_
          refine G.iinc X dX7_lots_171 4 rfl (v' := nI (j + 1)) (nI_inc j) (by decide) (lv' := [(8, .int (nI (j + 1))), (7, .int ((k_a (m_lots S z (-nI n * sumf (s_an S) (s_pe S)) j)) + (sumf (s_an (w_dayN ((w_lot S (k_s (m_lots S z (-nI n * sumf (s_an S) (s_pe S)) j)) (s_th S)).1) 15)) (s_pe (w_dayN ((w_lot S (k_s (m_lots S z (-nI n * sumf (s_an S) (s_pe S)) j)) (s_th S)).1) 15))))), (6, .int ((k_w (m_lots S z (-nI n * sumf (s_an S) (s_pe S)) j)) + (nI (w_wet ((w_lot S (k_s (m_lots S z (-nI n * sumf (s_an S) (s_pe S)) j)) (s_th S)).1) 15)))), (9, .int (nI (s_th S))), (5, .int ((w_lot S (k_s (m_lots S z (-nI n * sumf (s_an S) (s_pe S)) j)) (s_th S)).2)), (0, .ref (m 0)), (1, .int (nI n)), (2, .int z), (3, .int 0)]) rfl ?_
          refine G.go X dX7_lots_174 ?_
          replace ih73 := ih73 (qk ((((M8.2).tr (mq_kpa M8.1 64 S) (by decide)).tr (mq_wd (m_kpa M8.1 64 S) ((w_lot S (k_s (m_lots S z (-nI n * sumf (s_an S) (s_pe S)) j)) (s_th S)).1) 15) (by decide)).tr (mq_set 64 (m_wd (m_kpa M8.1 64 S) ((w_lot S (k_s (m_lots S z (-nI n * sumf (s_an S) (s_pe S)) j)) (s_th S)).1) 15) 128 false) (Nat.le_refl _)))
          rw [show (k_a (m_lots S z (-nI n * sumf (s_an S) (s_pe S)) (j + 1))) = ((k_a (m_lots S z (-nI n * sumf (s_an S) (s_pe S)) j)) + (sumf (s_an (w_dayN ((w_lot S (k_s (m_lots S z (-nI n * sumf (s_an S) (s_pe S)) j)) (s_th S)).1) 15)) (s_pe (w_dayN ((w_lot S (k_s (m_lots S z (-nI n * sumf (s_an S) (s_pe S)) j)) (s_th S)).1) 15)))) from (by rfl)] at ih73
          rw [show (k_w (m_lots S z (-nI n * sumf (s_an S) (s_pe S)) (j + 1))) = ((k_w (m_lots S z (-nI n * sumf (s_an S) (s_pe S)) j)) + (nI (w_wet ((w_lot S (k_s (m_lots S z (-nI n * sumf (s_an S) (s_pe S)) j)) (s_th S)).1) 15))) from (by rfl)] at ih73
          rw [show (k_s (m_lots S z (-nI n * sumf (s_an S) (s_pe S)) (j + 1))) = ((w_lot S (k_s (m_lots S z (-nI n * sumf (s_an S) (s_pe S)) j)) (s_th S)).2) from (by rfl)] at ih73
          refine G.lvsub [0, 1, 2, 4, 5, 6, 7, 8] (lv' := [(8, .int (nI (j + 1))), (7, .int ((k_a (m_lots S z (-nI n * sumf (s_an S) (s_pe S)) j)) + (sumf (s_an (w_dayN ((w_lot S (k_s (m_lots S z (-nI n * sumf (s_an S) (s_pe S)) j)) (s_th S)).1) 15)) (s_pe (w_dayN ((w_lot S (k_s (m_lots S z (-nI n * sumf (s_an S) (s_pe S)) j)) (s_th S)).1) 15))))), (6, .int ((k_w (m_lots S z (-nI n * sumf (s_an S) (s_pe S)) j)) + (nI (w_wet ((w_lot S (k_s (m_lots S z (-nI n * sumf (s_an S) (s_pe S)) j)) (s_th S)).1) 15)))), (5, .int ((w_lot S (k_s (m_lots S z (-nI n * sumf (s_an S) (s_pe S)) j)) (s_th S)).2)), (0, .ref (m 0)), (1, .int (nI n)), (2, .int z), (3, .int 0)]) rfl ?_
          exact ih73
        · intro i hi ih86
          have fp : s_pe (w_lot S (k_s (m_lots S z (-nI n * sumf (s_an S) (s_pe S)) j)) i).1 = s_pe S := pe_lot S _ i
          have ft : s_th (w_lot S (k_s (m_lots S z (-nI n * sumf (s_an S) (s_pe S)) j)) i).1 = s_th S := th_lot S _ i
          refine G.il X dX7_lots_86 0 rfl ?_
          refine G.al X dX7_lots_88 5 rfl ?_
          refine G.get X fX7_58 dX7_lots_89 0 0 rfl rfl rfl ?_
          refine G.n_ge X (a := i) (b := s_th ((w_lot S (k_s (m_lots S z (-nI n * sumf (s_an S) (s_pe S)) j)) i).1)) (by omega) (by omega) dX7_lots_92 (fun b92 => absurd b92 (by omega)) (fun b92 => ?_)
          refine G.il X dX7_lots_95 1 rfl ?_
          refine G.ldcw X dX7_lots_97 qX7_295 ?_
          refine G.imul X dX7_lots_100 ?_
          refine G.ldcw X dX7_lots_101 qX7_296 ?_
          refine G.iadd X dX7_lots_104 ?_
          refine G.top (b := d_nx (w_lot S (k_s (m_lots S z (-nI n * sumf (s_an S) (s_pe S)) j)) i).2) rfl ?_
          refine G.is X dX7_lots_105 (by decide) (lv' := [(5, .int (d_nx (w_lot S (k_s (m_lots S z (-nI n * sumf (s_an S) (s_pe S)) j)) i).2)), (9, .int (nI i)), (8, .int (nI j)), (7, .int (k_a (m_lots S z (-nI n * sumf (s_an S) (s_pe S)) j))), (6, .int (k_w (m_lots S z (-nI n * sumf (s_an S) (s_pe S)) j))), (0, .ref (m 0)), (1, .int (nI n)), (2, .int z), (3, .int 0)]) rfl ?_
          refine G.al X dX7_lots_107 5 rfl ?_
          refine G.get X fX7_28 dX7_lots_108 0 0 rfl rfl rfl ?_
          refine G.il X dX7_lots_111 1 rfl ?_
          refine G.il X dX7_lots_113 0 rfl ?_
          refine G.ldcw X dX7_lots_115 qX7_297 ?_
          refine G.iand X dX7_lots_118 ?_
          refine G.pu X dX7_lots_119 ?_
          refine G.idiv X dX7_lots_122 (by decide) ?_
          refine G.al X dX7_lots_123 5 rfl ?_
          refine G.get X fX7_64 dX7_lots_124 0 0 rfl rfl rfl ?_
          refine G.irem X dX7_lots_127 (nI_ne0 (by omega) (by omega)) ?_
          refine G.nst X (i := i) dX7_lots_128 0 7 rfl rfl (by omega) (by decide) (blk' := ml m cI (s_pe ((w_lot S (k_s (m_lots S z (-nI n * sumf (s_an S) (s_pe S)) j)) i).1), s_th ((w_lot S (k_s (m_lots S z (-nI n * sumf (s_an S) (s_pe S)) j)) i).1), s_da ((w_lot S (k_s (m_lots S z (-nI n * sumf (s_an S) (s_pe S)) j)) i).1), s_dr ((w_lot S (k_s (m_lots S z (-nI n * sumf (s_an S) (s_pe S)) j)) i).1), s_kn ((w_lot S (k_s (m_lots S z (-nI n * sumf (s_an S) (s_pe S)) j)) i).1), s_sh ((w_lot S (k_s (m_lots S z (-nI n * sumf (s_an S) (s_pe S)) j)) i).1), s_an ((w_lot S (k_s (m_lots S z (-nI n * sumf (s_an S) (s_pe S)) j)) i).1), s_ki ((w_lot S (k_s (m_lots S z (-nI n * sumf (s_an S) (s_pe S)) j)) i).1), s_we ((w_lot S (k_s (m_lots S z (-nI n * sumf (s_an S) (s_pe S)) j)) i).1), upd (s_dp ((w_lot S (k_s (m_lots S z (-nI n * sumf (s_an S) (s_pe S)) j)) i).1)) i (rm32 (((d_nx (w_lot S (k_s (m_lots S z (-nI n * sumf (s_an S) (s_pe S)) j)) i).2) &&& 2147483647) / 256) (nI (s_pe ((w_lot S (k_s (m_lots S z (-nI n * sumf (s_an S) (s_pe S)) j)) i).1)))), s_wa ((w_lot S (k_s (m_lots S z (-nI n * sumf (s_an S) (s_pe S)) j)) i).1), s_le ((w_lot S (k_s (m_lots S z (-nI n * sumf (s_an S) (s_pe S)) j)) i).1)) (m_kpa M8.1 64 S)) rfl (ws' := [ml m cI (s_pe ((w_lot S (k_s (m_lots S z (-nI n * sumf (s_an S) (s_pe S)) j)) i).1), s_th ((w_lot S (k_s (m_lots S z (-nI n * sumf (s_an S) (s_pe S)) j)) i).1), s_da ((w_lot S (k_s (m_lots S z (-nI n * sumf (s_an S) (s_pe S)) j)) i).1), s_dr ((w_lot S (k_s (m_lots S z (-nI n * sumf (s_an S) (s_pe S)) j)) i).1), s_kn ((w_lot S (k_s (m_lots S z (-nI n * sumf (s_an S) (s_pe S)) j)) i).1), s_sh ((w_lot S (k_s (m_lots S z (-nI n * sumf (s_an S) (s_pe S)) j)) i).1), s_an ((w_lot S (k_s (m_lots S z (-nI n * sumf (s_an S) (s_pe S)) j)) i).1), s_ki ((w_lot S (k_s (m_lots S z (-nI n * sumf (s_an S) (s_pe S)) j)) i).1), s_we ((w_lot S (k_s (m_lots S z (-nI n * sumf (s_an S) (s_pe S)) j)) i).1), upd (s_dp ((w_lot S (k_s (m_lots S z (-nI n * sumf (s_an S) (s_pe S)) j)) i).1)) i (rm32 (((d_nx (w_lot S (k_s (m_lots S z (-nI n * sumf (s_an S) (s_pe S)) j)) i).2) &&& 2147483647) / 256) (nI (s_pe ((w_lot S (k_s (m_lots S z (-nI n * sumf (s_an S) (s_pe S)) j)) i).1)))), s_wa ((w_lot S (k_s (m_lots S z (-nI n * sumf (s_an S) (s_pe S)) j)) i).1), s_le ((w_lot S (k_s (m_lots S z (-nI n * sumf (s_an S) (s_pe S)) j)) i).1)) (m_kpa M8.1 64 S)]) rfl ?_
          have ftw : s_th (w_who (w_lot S (k_s (m_lots S z (-nI n * sumf (s_an S) (s_pe S)) j)) i).1 i (d_of (w_lot S (k_s (m_lots S z (-nI n * sumf (s_an S) (s_pe S)) j)) i).2 (s_pe (w_lot S (k_s (m_lots S z (-nI n * sumf (s_an S) (s_pe S)) j)) i).1))) = s_th S := ft
          refine G.cg (ws' := [ml m cI (w_who (w_lot S (k_s (m_lots S z (-nI n * sumf (s_an S) (s_pe S)) j)) i).1 i (d_of (w_lot S (k_s (m_lots S z (-nI n * sumf (s_an S) (s_pe S)) j)) i).2 (s_pe (w_lot S (k_s (m_lots S z (-nI n * sumf (s_an S) (s_pe S)) j)) i).1))) (m_kpa M8.1 64 S)]) rfl rfl rfl ?_
          refine G.al X dX7_lots_129 5 rfl ?_
          refine G.il X dX7_lots_130 1 rfl ?_
          refine G.cvv X kX7_falls lX7_129 dX7_lots_132 (tX7_falls l D cI cW m (w_who (w_lot S (k_s (m_lots S z (-nI n * sumf (s_an S) (s_pe S)) j)) i).1 i (d_of (w_lot S (k_s (m_lots S z (-nI n * sumf (s_an S) (s_pe S)) j)) i).2 (s_pe (w_lot S (k_s (m_lots S z (-nI n * sumf (s_an S) (s_pe S)) j)) i).1))) (m_kpa M8.1 64 S) i (by omega)) ⟨Nat.le_of_ble_eq_true rfl, Nat.le_of_ble_eq_true rfl⟩ ⟨Nat.zero_le _, Nat.zero_le _⟩ [0] rfl ⟨rfl, rfl⟩ rfl rfl 0 0 rfl rfl rfl rfl (Nat.le_of_ble_eq_true rfl) (ff_cons (ml_fst _ _ _ _ _ _) (ff_nil)) (ws' := [ml m cI (w_fall (w_who (w_lot S (k_s (m_lots S z (-nI n * sumf (s_an S) (s_pe S)) j)) i).1 i (d_of (w_lot S (k_s (m_lots S z (-nI n * sumf (s_an S) (s_pe S)) j)) i).2 (s_pe (w_lot S (k_s (m_lots S z (-nI n * sumf (s_an S) (s_pe S)) j)) i).1))) i) (m_kpa M8.1 64 S)]) rfl ?_
          refine G.iinc X dX7_lots_135 1 rfl (v' := nI (i + 1)) (nI_inc i) (by decide) (lv' := [(9, .int (nI (i + 1))), (5, .int (d_nx (w_lot S (k_s (m_lots S z (-nI n * sumf (s_an S) (s_pe S)) j)) i).2)), (8, .int (nI j)), (7, .int (k_a (m_lots S z (-nI n * sumf (s_an S) (s_pe S)) j))), (6, .int (k_w (m_lots S z (-nI n * sumf (s_an S) (s_pe S)) j))), (0, .ref (m 0)), (1, .int (nI n)), (2, .int z), (3, .int 0)]) rfl ?_
          refine G.go X dX7_lots_138 ?_
          rw [show ((w_lot S (k_s (m_lots S z (-nI n * sumf (s_an S) (s_pe S)) j)) (i + 1)).2) = (d_nx (w_lot S (k_s (m_lots S z (-nI n * sumf (s_an S) (s_pe S)) j)) i).2) from (by rfl)] at ih86
          rw [show ((w_lot S (k_s (m_lots S z (-nI n * sumf (s_an S) (s_pe S)) j)) (i + 1)).1) = (w_fall (w_who (w_lot S (k_s (m_lots S z (-nI n * sumf (s_an S) (s_pe S)) j)) i).1 i (d_of (w_lot S (k_s (m_lots S z (-nI n * sumf (s_an S) (s_pe S)) j)) i).2 (s_pe (w_lot S (k_s (m_lots S z (-nI n * sumf (s_an S) (s_pe S)) j)) i).1))) i) from (by (rw [fp]; rfl))] at ih86
          rw [show (m_kpa M8.1 64 S) = (m_kpa M8.1 64 S) from (by rfl)] at ih86
          exact ih86
      refine G.lvsub [0, 4, 1, 2, 3, 5, 6, 7, 8] (lv' := [(9, .int 0), (5, .int (k_s (m_lots S z (-nI n * sumf (s_an S) (s_pe S)) j))), (8, .int (nI j)), (7, .int (k_a (m_lots S z (-nI n * sumf (s_an S) (s_pe S)) j))), (6, .int (k_w (m_lots S z (-nI n * sumf (s_an S) (s_pe S)) j))), (0, .ref (m 0)), (1, .int (nI n)), (2, .int z), (3, .int 0)]) rfl ?_
      have L86 := L86 0 (Nat.zero_le _)
      exact L86
  refine G.lvsub [0, 1, 2, 3, 5, 6, 7, 8] (lv' := [(8, .int 0), (7, .int ((-(nI n)) * (sumf (s_an S) (s_pe S)))), (6, .int 0), (5, .int z), (0, .ref (m 0)), (1, .int (nI n)), (2, .int z), (3, .int 0)]) rfl ?_
  have L73 := L73 0 (Nat.zero_le _) (qk (Mq.rf 64 M))
  exact L73

set_option maxRecDepth 20000 in
theorem tX7_lots_1 (l : Launch) (D : va_G) (cI cW : ClassId) (m : Nat → Nat) (S : WS) (M : MS) (n : Nat) (z : Int32) (hS : Ok S) (hco : m_co M = false) (ha : 1 ≤ n) (hn : n ≤ 20) (hp0 : 0 < s_pe S) : CT l D cI cW yX7_lots cX7_lots 10 (some .int) ⟨5, 0, 0, 110⟩ [.ref (m 0), .int (nI n), .int z, .int 1] ([ml m cI S M]) (PIE (k_a (m_lots S z (-nI n * sumf (s_an S) (s_pe S)) n)) (fun M9 : {M9 : MS // Mq 64 M M9} => [ml m cI S M9.1])) := by
  refine CT.of RX7 rfl (by decide +kernel) (Nat.le_of_ble_eq_true rfl) [(0, .ref (m 0)), (1, .int (nI n)), (2, .int z), (3, .int 1)] rfl (fun x X Rr hnm => ?_)
  have hth := hS.th
  have hpe := hS.pe
  refine G.il X dX7_lots_0 1 rfl ?_
  refine G.pu X dX7_lots_1 ?_
  refine G.pu X dX7_lots_2 ?_
  refine G.csti X kX7_bound lX7_67 dX7_lots_4 (tX7_bound_ok l D cI cW n 1 20 ha hn (by omega)) ⟨Nat.le_of_ble_eq_true rfl, Nat.le_of_ble_eq_true rfl⟩ ⟨Nat.zero_le _, Nat.zero_le _⟩ [] rfl ⟨rfl, rfl⟩ rfl rfl rfl (Nat.le_of_ble_eq_true rfl) (ff_nil) (ws' := [ml m cI S M]) rfl ?_
  refine G.is X dX7_lots_7 (by decide) (lv' := [(4, .int 0), (0, .ref (m 0)), (1, .int (nI n)), (2, .int z), (3, .int 1)]) rfl ?_
  refine G.il X dX7_lots_9 0 rfl ?_
  refine G.z_ne X (a := 0) dX7_lots_11 (fun b11 => absurd b11 (by decide)) (fun b11 => ?_)
  refine G.il X dX7_lots_14 4 rfl ?_
  refine G.pu X dX7_lots_15 ?_
  refine G.pu X dX7_lots_16 ?_
  refine G.csti X kX7_isIn lX7_85 dX7_lots_17 (tX7_isIn_yes l D cI cW 1 0 1 (by omega) (by omega) (by omega)) ⟨Nat.le_of_ble_eq_true rfl, Nat.le_of_ble_eq_true rfl⟩ ⟨Nat.zero_le _, Nat.zero_le _⟩ [] rfl ⟨rfl, rfl⟩ rfl rfl rfl (Nat.le_of_ble_eq_true rfl) (ff_nil) (ws' := [ml m cI S M]) rfl ?_
  refine G.b_ne X dX7_lots_20 (fun b20 => ?_) (fun b20 => absurd b20 (by decide))
  refine G.al X dX7_lots_28 1 rfl ?_
  refine G.get X fX7_64 dX7_lots_29 0 0 rfl rfl rfl ?_
  refine G.nz_ne X (a := s_pe S) (by omega) dX7_lots_32 (fun b32 => ?_) (fun b32 => absurd b32 (by omega))
  refine G.pu X dX7_lots_40 ?_
  refine G.is X dX7_lots_41 (by decide) (lv' := [(4, .int 0), (0, .ref (m 0)), (1, .int (nI n)), (2, .int z), (3, .int 1)]) rfl ?_
  refine G.il X dX7_lots_43 0 rfl ?_
  refine G.z_eq X (a := 0) dX7_lots_45 (fun b45 => ?_) (fun b45 => absurd b45 (by decide))
  refine G.il X dX7_lots_55 3 rfl ?_
  refine G.is X dX7_lots_56 (by decide) (lv' := [(5, .int z), (4, .int 0), (0, .ref (m 0)), (1, .int (nI n)), (2, .int z), (3, .int 1)]) rfl ?_
  refine G.pu X dX7_lots_58 ?_
  refine G.is X dX7_lots_59 (by decide) (lv' := [(6, .int 0), (5, .int z), (4, .int 0), (0, .ref (m 0)), (1, .int (nI n)), (2, .int z), (3, .int 1)]) rfl ?_
  refine G.il X dX7_lots_61 4 rfl ?_
  refine G.ineg X dX7_lots_62 ?_
  refine G.al X dX7_lots_63 3 rfl ?_
  refine G.cvi X kX7_allAnswered lX7_292 dX7_lots_64 (tX7_allAnswered l D cI cW m S M (by omega)) ⟨Nat.le_of_ble_eq_true rfl, Nat.le_of_ble_eq_true rfl⟩ ⟨Nat.zero_le _, Nat.zero_le _⟩ [0] rfl ⟨rfl, rfl⟩ rfl rfl 0 0 rfl rfl rfl rfl (Nat.le_of_ble_eq_true rfl) (ff_cons (ml_fst _ _ _ _ _ _) (ff_nil)) (ws' := [ml m cI S M]) rfl ?_
  refine G.imul X dX7_lots_67 ?_
  refine G.is X dX7_lots_68 (by decide) (lv' := [(7, .int ((-(nI n)) * (sumf (s_an S) (s_pe S)))), (6, .int 0), (5, .int z), (4, .int 0), (0, .ref (m 0)), (1, .int (nI n)), (2, .int z), (3, .int 1)]) rfl ?_
  refine G.pu X dX7_lots_70 ?_
  refine G.is X dX7_lots_71 (by decide) (lv' := [(8, .int 0), (7, .int ((-(nI n)) * (sumf (s_an S) (s_pe S)))), (6, .int 0), (5, .int z), (4, .int 0), (0, .ref (m 0)), (1, .int (nI n)), (2, .int z), (3, .int 1)]) rfl ?_
  have L73 : ∀ j, j ≤ n → ∀ M8 : {M8 : MS // Mq 64 M M8}, G x 0 0 ([ml m cI S M8.1]) 73 [(8, .int (nI j)), (7, .int (k_a (m_lots S z (-nI n * sumf (s_an S) (s_pe S)) j))), (6, .int (k_w (m_lots S z (-nI n * sumf (s_an S) (s_pe S)) j))), (5, .int (k_s (m_lots S z (-nI n * sumf (s_an S) (s_pe S)) j))), (0, .ref (m 0)), (1, .int (nI n)), (2, .int z), (3, .int 1)] [] := by
    refine loop_dn n _ ?_ ?_
    · intro M8
      refine G.il X dX7_lots_73 0 rfl ?_
      refine G.il X dX7_lots_75 5 rfl ?_
      refine G.n_ge X (a := n) (b := n) (by omega) (by omega) dX7_lots_76 (fun b76 => ?_) (fun b76 => absurd b76 (by omega))
      refine G.il X dX7_lots_177 7 rfl ?_
      refine G.z_ne X (a := 1) dX7_lots_178 (fun b178 => ?_) (fun b178 => absurd b178 (by decide))
      refine G.il X dX7_lots_186 1 rfl ?_
      exact G.iret X Rr (v := (k_a (m_lots S z (-nI n * sumf (s_an S) (s_pe S)) n))) dX7_lots_188 (pie_mk (qk (M8.2)) (by rfl) (by rfl))
    · intro j hj ih73 M8
      refine G.il X dX7_lots_73 0 rfl ?_
      refine G.il X dX7_lots_75 5 rfl ?_
      refine G.n_ge X (a := j) (b := n) (by omega) (by omega) dX7_lots_76 (fun b76 => absurd b76 (by omega)) (fun b76 => ?_)
      refine G.al X dX7_lots_79 4 rfl ?_
      refine G.cvv X kX7_changes lX7_250 dX7_lots_80 (tX7_changes l D cI cW m S M8.1) ⟨Nat.le_of_ble_eq_true rfl, Nat.le_of_ble_eq_true rfl⟩ ⟨Nat.zero_le _, Nat.zero_le _⟩ [0] rfl ⟨rfl, rfl⟩ rfl rfl 0 0 rfl rfl rfl rfl (Nat.le_of_ble_eq_true rfl) (ff_cons (ml_fst _ _ _ _ _ _) (ff_nil)) (ws' := [ml m cI S (m_kpa M8.1 64 S)]) rfl ?_
      refine G.pu X dX7_lots_83 ?_
      refine G.is X dX7_lots_84 (by decide) (lv' := [(9, .int 0), (8, .int (nI j)), (7, .int (k_a (m_lots S z (-nI n * sumf (s_an S) (s_pe S)) j))), (6, .int (k_w (m_lots S z (-nI n * sumf (s_an S) (s_pe S)) j))), (5, .int (k_s (m_lots S z (-nI n * sumf (s_an S) (s_pe S)) j))), (0, .ref (m 0)), (1, .int (nI n)), (2, .int z), (3, .int 1)]) rfl ?_
      have L86 : ∀ i, i ≤ s_th S → G x 0 0 ([ml m cI ((w_lot S (k_s (m_lots S z (-nI n * sumf (s_an S) (s_pe S)) j)) i).1) (m_kpa M8.1 64 S)]) 86 [(9, .int (nI i)), (5, .int ((w_lot S (k_s (m_lots S z (-nI n * sumf (s_an S) (s_pe S)) j)) i).2)), (8, .int (nI j)), (7, .int (k_a (m_lots S z (-nI n * sumf (s_an S) (s_pe S)) j))), (6, .int (k_w (m_lots S z (-nI n * sumf (s_an S) (s_pe S)) j))), (0, .ref (m 0)), (1, .int (nI n)), (2, .int z), (3, .int 1)] [] := by
        refine loop_dn (s_th S) _ ?_ ?_
        · have hL : Ok ((w_lot S (k_s (m_lots S z (-nI n * sumf (s_an S) (s_pe S)) j)) (s_th S)).1) := ok_lot hS hp0 _ (s_th S) (Nat.le_refl _)
          have ft : s_th ((w_lot S (k_s (m_lots S z (-nI n * sumf (s_an S) (s_pe S)) j)) (s_th S)).1) = s_th S := th_lot S _ (s_th S)
          have fp : s_pe ((w_lot S (k_s (m_lots S z (-nI n * sumf (s_an S) (s_pe S)) j)) (s_th S)).1) = s_pe S := pe_lot S _ (s_th S)
          have fq : s_pe (w_dayN ((w_lot S (k_s (m_lots S z (-nI n * sumf (s_an S) (s_pe S)) j)) (s_th S)).1) 15) = s_pe S := (fr_dayN _ 15).1.trans fp
          refine G.il X dX7_lots_86 0 rfl ?_
          refine G.al X dX7_lots_88 5 rfl ?_
          refine G.get X fX7_58 dX7_lots_89 0 0 rfl rfl rfl ?_
          refine G.n_ge X (a := s_th S) (b := s_th ((w_lot S (k_s (m_lots S z (-nI n * sumf (s_an S) (s_pe S)) j)) (s_th S)).1)) (by omega) (by omega) dX7_lots_92 (fun b92 => ?_) (fun b92 => absurd b92 (by omega))
          refine G.il X dX7_lots_141 4 rfl ?_
          refine G.al X dX7_lots_143 5 rfl ?_
          refine G.pu X dX7_lots_144 ?_
          refine G.cvi X kX7_wetDays lX7_238 dX7_lots_146 (tX7_wetDays l D cI cW m ((w_lot S (k_s (m_lots S z (-nI n * sumf (s_an S) (s_pe S)) j)) (s_th S)).1) (m_kpa M8.1 64 S) 15 hL (M8.2.co hco) (by omega)) ⟨Nat.le_of_ble_eq_true rfl, Nat.le_of_ble_eq_true rfl⟩ ⟨Nat.zero_le _, Nat.zero_le _⟩ [0] rfl ⟨rfl, rfl⟩ rfl rfl 0 0 rfl rfl rfl rfl (Nat.le_of_ble_eq_true rfl) (ff_cons (ml_fst _ _ _ _ _ _) (ff_nil)) (ws' := [ml m cI ((w_lot S (k_s (m_lots S z (-nI n * sumf (s_an S) (s_pe S)) j)) (s_th S)).1) (m_wd (m_kpa M8.1 64 S) ((w_lot S (k_s (m_lots S z (-nI n * sumf (s_an S) (s_pe S)) j)) (s_th S)).1) 15)]) rfl ?_
          refine G.iadd X dX7_lots_149 ?_
          refine G.is X dX7_lots_150 (by decide) (lv' := [(6, .int ((k_w (m_lots S z (-nI n * sumf (s_an S) (s_pe S)) j)) + (nI (w_wet ((w_lot S (k_s (m_lots S z (-nI n * sumf (s_an S) (s_pe S)) j)) (s_th S)).1) 15)))), (9, .int (nI (s_th S))), (5, .int ((w_lot S (k_s (m_lots S z (-nI n * sumf (s_an S) (s_pe S)) j)) (s_th S)).2)), (8, .int (nI j)), (7, .int (k_a (m_lots S z (-nI n * sumf (s_an S) (s_pe S)) j))), (0, .ref (m 0)), (1, .int (nI n)), (2, .int z), (3, .int 1)]) rfl ?_
          refine G.al X dX7_lots_152 5 rfl ?_
          refine G.pu X dX7_lots_153 ?_
          refine G.cvv X kX7_goes lX7_116 dX7_lots_155 (tX7_goes l D cI cW m ((w_lot S (k_s (m_lots S z (-nI n * sumf (s_an S) (s_pe S)) j)) (s_th S)).1) (m_wd (m_kpa M8.1 64 S) ((w_lot S (k_s (m_lots S z (-nI n * sumf (s_an S) (s_pe S)) j)) (s_th S)).1) 15) 15 hL (M8.2.co hco) (by omega)) ⟨Nat.le_of_ble_eq_true rfl, Nat.le_of_ble_eq_true rfl⟩ ⟨Nat.zero_le _, Nat.zero_le _⟩ [0] rfl ⟨rfl, rfl⟩ rfl rfl 0 0 rfl rfl rfl rfl (Nat.le_of_ble_eq_true rfl) (ff_cons (ml_fst _ _ _ _ _ _) (ff_nil)) (ws' := [ml m cI (w_dayN ((w_lot S (k_s (m_lots S z (-nI n * sumf (s_an S) (s_pe S)) j)) (s_th S)).1) 15) (m_wd (m_kpa M8.1 64 S) ((w_lot S (k_s (m_lots S z (-nI n * sumf (s_an S) (s_pe S)) j)) (s_th S)).1) 15)]) rfl ?_
          refine G.il X dX7_lots_158 4 rfl ?_
          refine G.al X dX7_lots_160 5 rfl ?_
          refine G.cvi X kX7_allAnswered lX7_292 dX7_lots_161 (tX7_allAnswered l D cI cW m (w_dayN ((w_lot S (k_s (m_lots S z (-nI n * sumf (s_an S) (s_pe S)) j)) (s_th S)).1) 15) (m_wd (m_kpa M8.1 64 S) ((w_lot S (k_s (m_lots S z (-nI n * sumf (s_an S) (s_pe S)) j)) (s_th S)).1) 15) (by omega)) ⟨Nat.le_of_ble_eq_true rfl, Nat.le_of_ble_eq_true rfl⟩ ⟨Nat.zero_le _, Nat.zero_le _⟩ [0] rfl ⟨rfl, rfl⟩ rfl rfl 0 0 rfl rfl rfl rfl (Nat.le_of_ble_eq_true rfl) (ff_cons (ml_fst _ _ _ _ _ _) (ff_nil)) (ws' := [ml m cI (w_dayN ((w_lot S (k_s (m_lots S z (-nI n * sumf (s_an S) (s_pe S)) j)) (s_th S)).1) 15) (m_wd (m_kpa M8.1 64 S) ((w_lot S (k_s (m_lots S z (-nI n * sumf (s_an S) (s_pe S)) j)) (s_th S)).1) 15)]) rfl ?_
          refine G.iadd X dX7_lots_164 ?_
          refine G.is X dX7_lots_165 (by decide) (lv' := [(7, .int ((k_a (m_lots S z (-nI n * sumf (s_an S) (s_pe S)) j)) + (sumf (s_an (w_dayN ((w_lot S (k_s (m_lots S z (-nI n * sumf (s_an S) (s_pe S)) j)) (s_th S)).1) 15)) (s_pe (w_dayN ((w_lot S (k_s (m_lots S z (-nI n * sumf (s_an S) (s_pe S)) j)) (s_th S)).1) 15))))), (6, .int ((k_w (m_lots S z (-nI n * sumf (s_an S) (s_pe S)) j)) + (nI (w_wet ((w_lot S (k_s (m_lots S z (-nI n * sumf (s_an S) (s_pe S)) j)) (s_th S)).1) 15)))), (9, .int (nI (s_th S))), (5, .int ((w_lot S (k_s (m_lots S z (-nI n * sumf (s_an S) (s_pe S)) j)) (s_th S)).2)), (8, .int (nI j)), (0, .ref (m 0)), (1, .int (nI n)), (2, .int z), (3, .int 1)]) rfl ?_
          refine G.al X dX7_lots_167 5 rfl ?_
          refine G.cvv X kX7_changesBack lX7_253 dX7_lots_168 (tX7_changesBack l D cI cW m (w_dayN ((w_lot S (k_s (m_lots S z (-nI n * sumf (s_an S) (s_pe S)) j)) (s_th S)).1) 15) (m_wd (m_kpa M8.1 64 S) ((w_lot S (k_s (m_lots S z (-nI n * sumf (s_an S) (s_pe S)) j)) (s_th S)).1) 15) S ((mq_wd _ _ _).kpof (Nat.le_refl _))) ⟨Nat.le_of_ble_eq_true rfl, Nat.le_of_ble_eq_true rfl⟩ ⟨Nat.zero_le _, Nat.zero_le _⟩ [0] rfl ⟨rfl, rfl⟩ rfl rfl 0 0 rfl rfl rfl rfl (Nat.le_of_ble_eq_true rfl) (ff_cons (ml_fst _ _ _ _ _ _) (ff_nil)) (ws' := [ml m cI S (m_set (m_wd (m_kpa M8.1 64 S) ((w_lot S (k_s (m_lots S z (-nI n * sumf (s_an S) (s_pe S)) j)) (s_th S)).1) 15) 128 false)]) rfl ?_
          refine G.iinc X dX7_lots_171 4 rfl (v' := nI (j + 1)) (nI_inc j) (by decide) (lv' := [(8, .int (nI (j + 1))), (7, .int ((k_a (m_lots S z (-nI n * sumf (s_an S) (s_pe S)) j)) + (sumf (s_an (w_dayN ((w_lot S (k_s (m_lots S z (-nI n * sumf (s_an S) (s_pe S)) j)) (s_th S)).1) 15)) (s_pe (w_dayN ((w_lot S (k_s (m_lots S z (-nI n * sumf (s_an S) (s_pe S)) j)) (s_th S)).1) 15))))), (6, .int ((k_w (m_lots S z (-nI n * sumf (s_an S) (s_pe S)) j)) + (nI (w_wet ((w_lot S (k_s (m_lots S z (-nI n * sumf (s_an S) (s_pe S)) j)) (s_th S)).1) 15)))), (9, .int (nI (s_th S))), (5, .int ((w_lot S (k_s (m_lots S z (-nI n * sumf (s_an S) (s_pe S)) j)) (s_th S)).2)), (0, .ref (m 0)), (1, .int (nI n)), (2, .int z), (3, .int 1)]) rfl ?_
          refine G.go X dX7_lots_174 ?_
          replace ih73 := ih73 (qk ((((M8.2).tr (mq_kpa M8.1 64 S) (by decide)).tr (mq_wd (m_kpa M8.1 64 S) ((w_lot S (k_s (m_lots S z (-nI n * sumf (s_an S) (s_pe S)) j)) (s_th S)).1) 15) (by decide)).tr (mq_set 64 (m_wd (m_kpa M8.1 64 S) ((w_lot S (k_s (m_lots S z (-nI n * sumf (s_an S) (s_pe S)) j)) (s_th S)).1) 15) 128 false) (Nat.le_refl _)))
          rw [show (k_a (m_lots S z (-nI n * sumf (s_an S) (s_pe S)) (j + 1))) = ((k_a (m_lots S z (-nI n * sumf (s_an S) (s_pe S)) j)) + (sumf (s_an (w_dayN ((w_lot S (k_s (m_lots S z (-nI n * sumf (s_an S) (s_pe S)) j)) (s_th S)).1) 15)) (s_pe (w_dayN ((w_lot S (k_s (m_lots S z (-nI n * sumf (s_an S) (s_pe S)) j)) (s_th S)).1) 15)))) from (by rfl)] at ih73
          rw [show (k_w (m_lots S z (-nI n * sumf (s_an S) (s_pe S)) (j + 1))) = ((k_w (m_lots S z (-nI n * sumf (s_an S) (s_pe S)) j)) + (nI (w_wet ((w_lot S (k_s (m_lots S z (-nI n * sumf (s_an S) (s_pe S)) j)) (s_th S)).1) 15))) from (by rfl)] at ih73
          rw [show (k_s (m_lots S z (-nI n * sumf (s_an S) (s_pe S)) (j + 1))) = ((w_lot S (k_s (m_lots S z (-nI n * sumf (s_an S) (s_pe S)) j)) (s_th S)).2) from (by rfl)] at ih73
          refine G.lvsub [0, 1, 2, 4, 5, 6, 7, 8] (lv' := [(8, .int (nI (j + 1))), (7, .int ((k_a (m_lots S z (-nI n * sumf (s_an S) (s_pe S)) j)) + (sumf (s_an (w_dayN ((w_lot S (k_s (m_lots S z (-nI n * sumf (s_an S) (s_pe S)) j)) (s_th S)).1) 15)) (s_pe (w_dayN ((w_lot S (k_s (m_lots S z (-nI n * sumf (s_an S) (s_pe S)) j)) (s_th S)).1) 15))))), (6, .int ((k_w (m_lots S z (-nI n * sumf (s_an S) (s_pe S)) j)) + (nI (w_wet ((w_lot S (k_s (m_lots S z (-nI n * sumf (s_an S) (s_pe S)) j)) (s_th S)).1) 15)))), (5, .int ((w_lot S (k_s (m_lots S z (-nI n * sumf (s_an S) (s_pe S)) j)) (s_th S)).2)), (0, .ref (m 0)), (1, .int (nI n)), (2, .int z), (3, .int 1)]) rfl ?_
          exact ih73
        · intro i hi ih86
          have fp : s_pe (w_lot S (k_s (m_lots S z (-nI n * sumf (s_an S) (s_pe S)) j)) i).1 = s_pe S := pe_lot S _ i
          have ft : s_th (w_lot S (k_s (m_lots S z (-nI n * sumf (s_an S) (s_pe S)) j)) i).1 = s_th S := th_lot S _ i
          refine G.il X dX7_lots_86 0 rfl ?_
          refine G.al X dX7_lots_88 5 rfl ?_
          refine G.get X fX7_58 dX7_lots_89 0 0 rfl rfl rfl ?_
          refine G.n_ge X (a := i) (b := s_th ((w_lot S (k_s (m_lots S z (-nI n * sumf (s_an S) (s_pe S)) j)) i).1)) (by omega) (by omega) dX7_lots_92 (fun b92 => absurd b92 (by omega)) (fun b92 => ?_)
          refine G.il X dX7_lots_95 1 rfl ?_
          refine G.ldcw X dX7_lots_97 qX7_295 ?_
          refine G.imul X dX7_lots_100 ?_
          refine G.ldcw X dX7_lots_101 qX7_296 ?_
          refine G.iadd X dX7_lots_104 ?_
          refine G.top (b := d_nx (w_lot S (k_s (m_lots S z (-nI n * sumf (s_an S) (s_pe S)) j)) i).2) rfl ?_
          refine G.is X dX7_lots_105 (by decide) (lv' := [(5, .int (d_nx (w_lot S (k_s (m_lots S z (-nI n * sumf (s_an S) (s_pe S)) j)) i).2)), (9, .int (nI i)), (8, .int (nI j)), (7, .int (k_a (m_lots S z (-nI n * sumf (s_an S) (s_pe S)) j))), (6, .int (k_w (m_lots S z (-nI n * sumf (s_an S) (s_pe S)) j))), (0, .ref (m 0)), (1, .int (nI n)), (2, .int z), (3, .int 1)]) rfl ?_
          refine G.al X dX7_lots_107 5 rfl ?_
          refine G.get X fX7_28 dX7_lots_108 0 0 rfl rfl rfl ?_
          refine G.il X dX7_lots_111 1 rfl ?_
          refine G.il X dX7_lots_113 0 rfl ?_
          refine G.ldcw X dX7_lots_115 qX7_297 ?_
          refine G.iand X dX7_lots_118 ?_
          refine G.pu X dX7_lots_119 ?_
          refine G.idiv X dX7_lots_122 (by decide) ?_
          refine G.al X dX7_lots_123 5 rfl ?_
          refine G.get X fX7_64 dX7_lots_124 0 0 rfl rfl rfl ?_
          refine G.irem X dX7_lots_127 (nI_ne0 (by omega) (by omega)) ?_
          refine G.nst X (i := i) dX7_lots_128 0 7 rfl rfl (by omega) (by decide) (blk' := ml m cI (s_pe ((w_lot S (k_s (m_lots S z (-nI n * sumf (s_an S) (s_pe S)) j)) i).1), s_th ((w_lot S (k_s (m_lots S z (-nI n * sumf (s_an S) (s_pe S)) j)) i).1), s_da ((w_lot S (k_s (m_lots S z (-nI n * sumf (s_an S) (s_pe S)) j)) i).1), s_dr ((w_lot S (k_s (m_lots S z (-nI n * sumf (s_an S) (s_pe S)) j)) i).1), s_kn ((w_lot S (k_s (m_lots S z (-nI n * sumf (s_an S) (s_pe S)) j)) i).1), s_sh ((w_lot S (k_s (m_lots S z (-nI n * sumf (s_an S) (s_pe S)) j)) i).1), s_an ((w_lot S (k_s (m_lots S z (-nI n * sumf (s_an S) (s_pe S)) j)) i).1), s_ki ((w_lot S (k_s (m_lots S z (-nI n * sumf (s_an S) (s_pe S)) j)) i).1), s_we ((w_lot S (k_s (m_lots S z (-nI n * sumf (s_an S) (s_pe S)) j)) i).1), upd (s_dp ((w_lot S (k_s (m_lots S z (-nI n * sumf (s_an S) (s_pe S)) j)) i).1)) i (rm32 (((d_nx (w_lot S (k_s (m_lots S z (-nI n * sumf (s_an S) (s_pe S)) j)) i).2) &&& 2147483647) / 256) (nI (s_pe ((w_lot S (k_s (m_lots S z (-nI n * sumf (s_an S) (s_pe S)) j)) i).1)))), s_wa ((w_lot S (k_s (m_lots S z (-nI n * sumf (s_an S) (s_pe S)) j)) i).1), s_le ((w_lot S (k_s (m_lots S z (-nI n * sumf (s_an S) (s_pe S)) j)) i).1)) (m_kpa M8.1 64 S)) rfl (ws' := [ml m cI (s_pe ((w_lot S (k_s (m_lots S z (-nI n * sumf (s_an S) (s_pe S)) j)) i).1), s_th ((w_lot S (k_s (m_lots S z (-nI n * sumf (s_an S) (s_pe S)) j)) i).1), s_da ((w_lot S (k_s (m_lots S z (-nI n * sumf (s_an S) (s_pe S)) j)) i).1), s_dr ((w_lot S (k_s (m_lots S z (-nI n * sumf (s_an S) (s_pe S)) j)) i).1), s_kn ((w_lot S (k_s (m_lots S z (-nI n * sumf (s_an S) (s_pe S)) j)) i).1), s_sh ((w_lot S (k_s (m_lots S z (-nI n * sumf (s_an S) (s_pe S)) j)) i).1), s_an ((w_lot S (k_s (m_lots S z (-nI n * sumf (s_an S) (s_pe S)) j)) i).1), s_ki ((w_lot S (k_s (m_lots S z (-nI n * sumf (s_an S) (s_pe S)) j)) i).1), s_we ((w_lot S (k_s (m_lots S z (-nI n * sumf (s_an S) (s_pe S)) j)) i).1), upd (s_dp ((w_lot S (k_s (m_lots S z (-nI n * sumf (s_an S) (s_pe S)) j)) i).1)) i (rm32 (((d_nx (w_lot S (k_s (m_lots S z (-nI n * sumf (s_an S) (s_pe S)) j)) i).2) &&& 2147483647) / 256) (nI (s_pe ((w_lot S (k_s (m_lots S z (-nI n * sumf (s_an S) (s_pe S)) j)) i).1)))), s_wa ((w_lot S (k_s (m_lots S z (-nI n * sumf (s_an S) (s_pe S)) j)) i).1), s_le ((w_lot S (k_s (m_lots S z (-nI n * sumf (s_an S) (s_pe S)) j)) i).1)) (m_kpa M8.1 64 S)]) rfl ?_
          have ftw : s_th (w_who (w_lot S (k_s (m_lots S z (-nI n * sumf (s_an S) (s_pe S)) j)) i).1 i (d_of (w_lot S (k_s (m_lots S z (-nI n * sumf (s_an S) (s_pe S)) j)) i).2 (s_pe (w_lot S (k_s (m_lots S z (-nI n * sumf (s_an S) (s_pe S)) j)) i).1))) = s_th S := ft
          refine G.cg (ws' := [ml m cI (w_who (w_lot S (k_s (m_lots S z (-nI n * sumf (s_an S) (s_pe S)) j)) i).1 i (d_of (w_lot S (k_s (m_lots S z (-nI n * sumf (s_an S) (s_pe S)) j)) i).2 (s_pe (w_lot S (k_s (m_lots S z (-nI n * sumf (s_an S) (s_pe S)) j)) i).1))) (m_kpa M8.1 64 S)]) rfl rfl rfl ?_
          refine G.al X dX7_lots_129 5 rfl ?_
          refine G.il X dX7_lots_130 1 rfl ?_
          refine G.cvv X kX7_falls lX7_129 dX7_lots_132 (tX7_falls l D cI cW m (w_who (w_lot S (k_s (m_lots S z (-nI n * sumf (s_an S) (s_pe S)) j)) i).1 i (d_of (w_lot S (k_s (m_lots S z (-nI n * sumf (s_an S) (s_pe S)) j)) i).2 (s_pe (w_lot S (k_s (m_lots S z (-nI n * sumf (s_an S) (s_pe S)) j)) i).1))) (m_kpa M8.1 64 S) i (by omega)) ⟨Nat.le_of_ble_eq_true rfl, Nat.le_of_ble_eq_true rfl⟩ ⟨Nat.zero_le _, Nat.zero_le _⟩ [0] rfl ⟨rfl, rfl⟩ rfl rfl 0 0 rfl rfl rfl rfl (Nat.le_of_ble_eq_true rfl) (ff_cons (ml_fst _ _ _ _ _ _) (ff_nil)) (ws' := [ml m cI (w_fall (w_who (w_lot S (k_s (m_lots S z (-nI n * sumf (s_an S) (s_pe S)) j)) i).1 i (d_of (w_lot S (k_s (m_lots S z (-nI n * sumf (s_an S) (s_pe S)) j)) i).2 (s_pe (w_lot S (k_s (m_lots S z (-nI n * sumf (s_an S) (s_pe S)) j)) i).1))) i) (m_kpa M8.1 64 S)]) rfl ?_
          refine G.iinc X dX7_lots_135 1 rfl (v' := nI (i + 1)) (nI_inc i) (by decide) (lv' := [(9, .int (nI (i + 1))), (5, .int (d_nx (w_lot S (k_s (m_lots S z (-nI n * sumf (s_an S) (s_pe S)) j)) i).2)), (8, .int (nI j)), (7, .int (k_a (m_lots S z (-nI n * sumf (s_an S) (s_pe S)) j))), (6, .int (k_w (m_lots S z (-nI n * sumf (s_an S) (s_pe S)) j))), (0, .ref (m 0)), (1, .int (nI n)), (2, .int z), (3, .int 1)]) rfl ?_
          refine G.go X dX7_lots_138 ?_
          rw [show ((w_lot S (k_s (m_lots S z (-nI n * sumf (s_an S) (s_pe S)) j)) (i + 1)).2) = (d_nx (w_lot S (k_s (m_lots S z (-nI n * sumf (s_an S) (s_pe S)) j)) i).2) from (by rfl)] at ih86
          rw [show ((w_lot S (k_s (m_lots S z (-nI n * sumf (s_an S) (s_pe S)) j)) (i + 1)).1) = (w_fall (w_who (w_lot S (k_s (m_lots S z (-nI n * sumf (s_an S) (s_pe S)) j)) i).1 i (d_of (w_lot S (k_s (m_lots S z (-nI n * sumf (s_an S) (s_pe S)) j)) i).2 (s_pe (w_lot S (k_s (m_lots S z (-nI n * sumf (s_an S) (s_pe S)) j)) i).1))) i) from (by (rw [fp]; rfl))] at ih86
          rw [show (m_kpa M8.1 64 S) = (m_kpa M8.1 64 S) from (by rfl)] at ih86
          exact ih86
      refine G.lvsub [0, 4, 1, 2, 3, 5, 6, 7, 8] (lv' := [(9, .int 0), (5, .int (k_s (m_lots S z (-nI n * sumf (s_an S) (s_pe S)) j))), (8, .int (nI j)), (7, .int (k_a (m_lots S z (-nI n * sumf (s_an S) (s_pe S)) j))), (6, .int (k_w (m_lots S z (-nI n * sumf (s_an S) (s_pe S)) j))), (0, .ref (m 0)), (1, .int (nI n)), (2, .int z), (3, .int 1)]) rfl ?_
      have L86 := L86 0 (Nat.zero_le _)
      exact L86
  refine G.lvsub [0, 1, 2, 3, 5, 6, 7, 8] (lv' := [(8, .int 0), (7, .int ((-(nI n)) * (sumf (s_an S) (s_pe S)))), (6, .int 0), (5, .int z), (0, .ref (m 0)), (1, .int (nI n)), (2, .int z), (3, .int 1)]) rfl ?_
  have L73 := L73 0 (Nat.zero_le _) (qk (Mq.rf 64 M))
  exact L73

set_option maxRecDepth 20000 in
theorem tX7_image (l : Launch) (D : va_G) (cI cW : ClassId) (m : Nat → Nat) (S : WS) (M : MS) : CT l D cI cW yX7_image cX7_image 1 (some .int) ⟨2, 0, 0, 44⟩ [.ref (m 0)] ([ml m cI S M]) (PI (s_da S) ([ml m cI S (m_kpa (m_img M) 0 S)])) := by
  refine CT.of RX7 rfl (by decide +kernel) (Nat.le_of_ble_eq_true rfl) [(0, .ref (m 0))] rfl (fun x X Rr hnm => ?_)
  refine G.al X dX7_image_0 0 rfl ?_
  refine G.pu X dX7_image_1 ?_
  refine G.put X fX7_166 fe7 dX7_image_2 rfl (ty := .boolean) (by decide +kernel) rfl rfl 0 0 rfl rfl (Nat.le_of_ble_eq_true rfl) (blk' := ml m cI S (m_rf M, m_co M, m_tx M, m_lt M, m_la M, m_to M, m_tn M, m_at M, m_st M, m_kp M, true, m_kg M, m_cu M, m_lr M, m_ge M, m_rw M, m_rn M)) rfl (ws' := [ml m cI S (m_rf M, m_co M, m_tx M, m_lt M, m_la M, m_to M, m_tn M, m_at M, m_st M, m_kp M, true, m_kg M, m_cu M, m_lr M, m_ge M, m_rw M, m_rn M)]) rfl ?_
  refine G.cg (ws' := [ml m cI S (m_img M)]) rfl rfl rfl ?_
  refine G.al X dX7_image_5 0 rfl ?_
  refine G.pu X dX7_image_6 ?_
  refine G.pu X dX7_image_7 ?_
  refine G.cvv X kX7_passesAll lX7_145 dX7_image_8 (tX7_passesAll_keep0 l D cI cW m S (m_img M)) ⟨Nat.le_of_ble_eq_true rfl, Nat.le_of_ble_eq_true rfl⟩ ⟨Nat.zero_le _, Nat.zero_le _⟩ [0] rfl ⟨rfl, rfl⟩ rfl rfl 0 0 rfl rfl rfl rfl (Nat.le_of_ble_eq_true rfl) (ff_cons (ml_fst _ _ _ _ _ _) (ff_nil)) (ws' := [ml m cI S (m_kpa (m_img M) 0 S)]) rfl ?_
  refine G.al X dX7_image_11 0 rfl ?_
  refine G.get X fX7_113 dX7_image_12 0 0 rfl rfl rfl ?_
  exact G.iret X Rr (v := (s_da S)) dX7_image_15 (pi_mk (by rfl) (by rfl))

set_option maxRecDepth 20000 in
theorem tX7_on_no (l : Launch) (D : va_G) (cI cW : ClassId) (m : Nat → Nat) (S : WS) (M : MS) (ha : m_hi M = false) : CT l D cI cW yX7_on cX7_on 1 (some .int) ⟨1, 0, 0, 21⟩ [.ref (m 0)] ([ml m cI S M]) (PI (-3) ([ml m cI S (m_no M 3)])) := by
  refine CT.of RX7 rfl (by decide +kernel) (Nat.le_of_ble_eq_true rfl) [(0, .ref (m 0))] rfl (fun x X Rr hnm => ?_)
  refine G.al X dX7_on_0 0 rfl ?_
  refine G.get X fX7_166 dX7_on_1 0 0 rfl rfl rfl ?_
  refine G.b_ne X dX7_on_4 (fun b4 => absurd (Eq.trans (Eq.symm ha) b4) (by decide)) (fun b4 => ?_)
  refine G.al X dX7_on_7 0 rfl ?_
  refine G.pu X dX7_on_8 ?_
  refine G.cvi X kX7_no lX7_74 dX7_on_10 (tX7_no l D cI cW m S M 3 (by omega) (by omega)) ⟨Nat.le_of_ble_eq_true rfl, Nat.le_of_ble_eq_true rfl⟩ ⟨Nat.zero_le _, Nat.zero_le _⟩ [0] rfl ⟨rfl, rfl⟩ rfl rfl 0 0 rfl rfl rfl rfl (Nat.le_of_ble_eq_true rfl) (ff_cons (ml_fst _ _ _ _ _ _) (ff_nil)) (ws' := [ml m cI S (m_no M 3)]) rfl ?_
  exact G.iret X Rr (v := (-(nI 3))) dX7_on_13 (pi_mk (by rfl) (by rfl))

set_option maxRecDepth 20000 in
theorem tX7_on_ok (l : Launch) (D : va_G) (cI cW : ClassId) (m : Nat → Nat) (S : WS) (M : MS) (T : WS) (ha : m_hi M = true) (hK : KP (m_kp M) 0 T) : CT l D cI cW yX7_on cX7_on 1 (some .int) ⟨2, 0, 0, 44⟩ [.ref (m 0)] ([ml m cI S M]) (PI (s_da T) ([ml m cI T (m_set M 64 false)])) := by
  refine CT.of RX7 rfl (by decide +kernel) (Nat.le_of_ble_eq_true rfl) [(0, .ref (m 0))] rfl (fun x X Rr hnm => ?_)
  refine G.al X dX7_on_0 0 rfl ?_
  refine G.get X fX7_166 dX7_on_1 0 0 rfl rfl rfl ?_
  refine G.b_ne X dX7_on_4 (fun b4 => ?_) (fun b4 => absurd (Eq.trans (Eq.symm ha) b4) (by decide))
  refine G.al X dX7_on_14 0 rfl ?_
  refine G.pu X dX7_on_15 ?_
  refine G.pu X dX7_on_16 ?_
  refine G.cvv X kX7_passesAll lX7_145 dX7_on_17 (tX7_passesAll_rest0 l D cI cW m S M T hK) ⟨Nat.le_of_ble_eq_true rfl, Nat.le_of_ble_eq_true rfl⟩ ⟨Nat.zero_le _, Nat.zero_le _⟩ [0] rfl ⟨rfl, rfl⟩ rfl rfl 0 0 rfl rfl rfl rfl (Nat.le_of_ble_eq_true rfl) (ff_cons (ml_fst _ _ _ _ _ _) (ff_nil)) (ws' := [ml m cI T (m_set M 64 false)]) rfl ?_
  refine G.al X dX7_on_20 0 rfl ?_
  refine G.get X fX7_113 dX7_on_21 0 0 rfl rfl rfl ?_
  exact G.iret X Rr (v := (s_da T)) dX7_on_24 (pi_mk (by rfl) (by rfl))

set_option maxRecDepth 20000 in
theorem tX7_count_0 (l : Launch) (D : va_G) (cI cW : ClassId) (m : Nat → Nat) (S : WS) (M : MS) (hS : Ok S) : CT l D cI cW yX7_count cX7_count 2 (some .int) ⟨1, 0, 0, 22⟩ [.ref (m 0), .int 0] ([ml m cI S M]) (PI (nI (s_pe S)) ([ml m cI S M])) := by
  refine CT.of RX7 rfl (by decide +kernel) (Nat.le_of_ble_eq_true rfl) [(0, .ref (m 0)), (1, .int 0)] rfl (fun x X Rr hnm => ?_)
  have hth := hS.th
  have hpe := hS.pe
  refine G.il X dX7_count_0 1 rfl ?_
  refine G.pu X dX7_count_1 ?_
  refine G.pu X dX7_count_3 ?_
  refine G.csti X kX7_isIn lX7_85 dX7_count_5 (tX7_isIn_no l D cI cW 0 11 16 (by decide)) ⟨Nat.le_of_ble_eq_true rfl, Nat.le_of_ble_eq_true rfl⟩ ⟨Nat.zero_le _, Nat.zero_le _⟩ [] rfl ⟨rfl, rfl⟩ rfl rfl rfl (Nat.le_of_ble_eq_true rfl) (ff_nil) (ws' := [ml m cI S M]) rfl ?_
  refine G.b_eq X dX7_count_8 (fun b8 => ?_) (fun b8 => absurd b8 (by decide))
  refine G.il X dX7_count_21 1 rfl ?_
  refine G.tsi X dX7_count_22 0 rfl (46) 68 (by decide) ?_
  refine G.al X dX7_count_68 0 rfl ?_
  refine G.get X fX7_64 dX7_count_69 0 0 rfl rfl rfl ?_
  exact G.iret X Rr (v := nI (s_pe S)) dX7_count_72 (pi_mk (by rfl) (by rfl))

set_option maxRecDepth 20000 in
theorem tX7_count_1 (l : Launch) (D : va_G) (cI cW : ClassId) (m : Nat → Nat) (S : WS) (M : MS) (hS : Ok S) : CT l D cI cW yX7_count cX7_count 2 (some .int) ⟨1, 0, 0, 22⟩ [.ref (m 0), .int 1] ([ml m cI S M]) (PI (nI (s_th S)) ([ml m cI S M])) := by
  refine CT.of RX7 rfl (by decide +kernel) (Nat.le_of_ble_eq_true rfl) [(0, .ref (m 0)), (1, .int 1)] rfl (fun x X Rr hnm => ?_)
  have hth := hS.th
  have hpe := hS.pe
  refine G.il X dX7_count_0 1 rfl ?_
  refine G.pu X dX7_count_1 ?_
  refine G.pu X dX7_count_3 ?_
  refine G.csti X kX7_isIn lX7_85 dX7_count_5 (tX7_isIn_no l D cI cW 1 11 16 (by decide)) ⟨Nat.le_of_ble_eq_true rfl, Nat.le_of_ble_eq_true rfl⟩ ⟨Nat.zero_le _, Nat.zero_le _⟩ [] rfl ⟨rfl, rfl⟩ rfl rfl rfl (Nat.le_of_ble_eq_true rfl) (ff_nil) (ws' := [ml m cI S M]) rfl ?_
  refine G.b_eq X dX7_count_8 (fun b8 => ?_) (fun b8 => absurd b8 (by decide))
  refine G.il X dX7_count_21 1 rfl ?_
  refine G.tsi X dX7_count_22 1 rfl (51) 73 (by decide) ?_
  refine G.al X dX7_count_73 0 rfl ?_
  refine G.get X fX7_58 dX7_count_74 0 0 rfl rfl rfl ?_
  exact G.iret X Rr (v := nI (s_th S)) dX7_count_77 (pi_mk (by rfl) (by rfl))

set_option maxRecDepth 20000 in
theorem tX7_count_2 (l : Launch) (D : va_G) (cI cW : ClassId) (m : Nat → Nat) (S : WS) (M : MS) (hS : Ok S) : CT l D cI cW yX7_count cX7_count 2 (some .int) ⟨1, 0, 0, 22⟩ [.ref (m 0), .int 2] ([ml m cI S M]) (PI (s_da S) ([ml m cI S M])) := by
  refine CT.of RX7 rfl (by decide +kernel) (Nat.le_of_ble_eq_true rfl) [(0, .ref (m 0)), (1, .int 2)] rfl (fun x X Rr hnm => ?_)
  have hth := hS.th
  have hpe := hS.pe
  refine G.il X dX7_count_0 1 rfl ?_
  refine G.pu X dX7_count_1 ?_
  refine G.pu X dX7_count_3 ?_
  refine G.csti X kX7_isIn lX7_85 dX7_count_5 (tX7_isIn_no l D cI cW 2 11 16 (by decide)) ⟨Nat.le_of_ble_eq_true rfl, Nat.le_of_ble_eq_true rfl⟩ ⟨Nat.zero_le _, Nat.zero_le _⟩ [] rfl ⟨rfl, rfl⟩ rfl rfl rfl (Nat.le_of_ble_eq_true rfl) (ff_nil) (ws' := [ml m cI S M]) rfl ?_
  refine G.b_eq X dX7_count_8 (fun b8 => ?_) (fun b8 => absurd b8 (by decide))
  refine G.il X dX7_count_21 1 rfl ?_
  refine G.tsi X dX7_count_22 2 rfl (56) 78 (by decide) ?_
  refine G.al X dX7_count_78 0 rfl ?_
  refine G.get X fX7_113 dX7_count_79 0 0 rfl rfl rfl ?_
  exact G.iret X Rr (v := (s_da S)) dX7_count_82 (pi_mk (by rfl) (by rfl))

set_option maxRecDepth 20000 in
theorem tX7_count_3 (l : Launch) (D : va_G) (cI cW : ClassId) (m : Nat → Nat) (S : WS) (M : MS) (hS : Ok S) : CT l D cI cW yX7_count cX7_count 2 (some .int) ⟨2, 0, 0, 43⟩ [.ref (m 0), .int 3] ([ml m cI S M]) (PI (askb S (s_th S)) ([ml m cI S M])) := by
  refine CT.of RX7 rfl (by decide +kernel) (Nat.le_of_ble_eq_true rfl) [(0, .ref (m 0)), (1, .int 3)] rfl (fun x X Rr hnm => ?_)
  have hth := hS.th
  have hpe := hS.pe
  refine G.il X dX7_count_0 1 rfl ?_
  refine G.pu X dX7_count_1 ?_
  refine G.pu X dX7_count_3 ?_
  refine G.csti X kX7_isIn lX7_85 dX7_count_5 (tX7_isIn_no l D cI cW 3 11 16 (by decide)) ⟨Nat.le_of_ble_eq_true rfl, Nat.le_of_ble_eq_true rfl⟩ ⟨Nat.zero_le _, Nat.zero_le _⟩ [] rfl ⟨rfl, rfl⟩ rfl rfl rfl (Nat.le_of_ble_eq_true rfl) (ff_nil) (ws' := [ml m cI S M]) rfl ?_
  refine G.b_eq X dX7_count_8 (fun b8 => ?_) (fun b8 => absurd b8 (by decide))
  refine G.il X dX7_count_21 1 rfl ?_
  refine G.tsi X dX7_count_22 3 rfl (61) 83 (by decide) ?_
  refine G.al X dX7_count_83 0 rfl ?_
  refine G.cvi X kX7_asking lX7_184 dX7_count_84 (tX7_asking l D cI cW m S M (by omega)) ⟨Nat.le_of_ble_eq_true rfl, Nat.le_of_ble_eq_true rfl⟩ ⟨Nat.zero_le _, Nat.zero_le _⟩ [0] rfl ⟨rfl, rfl⟩ rfl rfl 0 0 rfl rfl rfl rfl (Nat.le_of_ble_eq_true rfl) (ff_cons (ml_fst _ _ _ _ _ _) (ff_nil)) (ws' := [ml m cI S M]) rfl ?_
  exact G.iret X Rr (v := (askb S (s_th S))) dX7_count_87 (pi_mk (by rfl) (by rfl))

set_option maxRecDepth 20000 in
theorem tX7_count_4 (l : Launch) (D : va_G) (cI cW : ClassId) (m : Nat → Nat) (S : WS) (M : MS) (hS : Ok S) : CT l D cI cW yX7_count cX7_count 2 (some .int) ⟨1, 0, 0, 22⟩ [.ref (m 0), .int 4] ([ml m cI S M]) (PI (sumf (s_le S) (s_th S)) ([ml m cI S M])) := by
  refine CT.of RX7 rfl (by decide +kernel) (Nat.le_of_ble_eq_true rfl) [(0, .ref (m 0)), (1, .int 4)] rfl (fun x X Rr hnm => ?_)
  have hth := hS.th
  have hpe := hS.pe
  refine G.il X dX7_count_0 1 rfl ?_
  refine G.pu X dX7_count_1 ?_
  refine G.pu X dX7_count_3 ?_
  refine G.csti X kX7_isIn lX7_85 dX7_count_5 (tX7_isIn_no l D cI cW 4 11 16 (by decide)) ⟨Nat.le_of_ble_eq_true rfl, Nat.le_of_ble_eq_true rfl⟩ ⟨Nat.zero_le _, Nat.zero_le _⟩ [] rfl ⟨rfl, rfl⟩ rfl rfl rfl (Nat.le_of_ble_eq_true rfl) (ff_nil) (ws' := [ml m cI S M]) rfl ?_
  refine G.b_eq X dX7_count_8 (fun b8 => ?_) (fun b8 => absurd b8 (by decide))
  refine G.il X dX7_count_21 1 rfl ?_
  refine G.tsi X dX7_count_22 4 rfl (66) 88 (by decide) ?_
  refine G.al X dX7_count_88 0 rfl ?_
  refine G.cvi X kX7_allLeft lX7_220 dX7_count_89 (tX7_allLeft l D cI cW m S M (by omega)) ⟨Nat.le_of_ble_eq_true rfl, Nat.le_of_ble_eq_true rfl⟩ ⟨Nat.zero_le _, Nat.zero_le _⟩ [0] rfl ⟨rfl, rfl⟩ rfl rfl 0 0 rfl rfl rfl rfl (Nat.le_of_ble_eq_true rfl) (ff_cons (ml_fst _ _ _ _ _ _) (ff_nil)) (ws' := [ml m cI S M]) rfl ?_
  exact G.iret X Rr (v := (sumf (s_le S) (s_th S))) dX7_count_92 (pi_mk (by rfl) (by rfl))

set_option maxRecDepth 20000 in
theorem tX7_count_5 (l : Launch) (D : va_G) (cI cW : ClassId) (m : Nat → Nat) (S : WS) (M : MS) (hS : Ok S) : CT l D cI cW yX7_count cX7_count 2 (some .int) ⟨1, 0, 0, 22⟩ [.ref (m 0), .int 5] ([ml m cI S M]) (PI (s_dr S) ([ml m cI S M])) := by
  refine CT.of RX7 rfl (by decide +kernel) (Nat.le_of_ble_eq_true rfl) [(0, .ref (m 0)), (1, .int 5)] rfl (fun x X Rr hnm => ?_)
  have hth := hS.th
  have hpe := hS.pe
  refine G.il X dX7_count_0 1 rfl ?_
  refine G.pu X dX7_count_1 ?_
  refine G.pu X dX7_count_3 ?_
  refine G.csti X kX7_isIn lX7_85 dX7_count_5 (tX7_isIn_no l D cI cW 5 11 16 (by decide)) ⟨Nat.le_of_ble_eq_true rfl, Nat.le_of_ble_eq_true rfl⟩ ⟨Nat.zero_le _, Nat.zero_le _⟩ [] rfl ⟨rfl, rfl⟩ rfl rfl rfl (Nat.le_of_ble_eq_true rfl) (ff_nil) (ws' := [ml m cI S M]) rfl ?_
  refine G.b_eq X dX7_count_8 (fun b8 => ?_) (fun b8 => absurd b8 (by decide))
  refine G.il X dX7_count_21 1 rfl ?_
  refine G.tsi X dX7_count_22 5 rfl (71) 93 (by decide) ?_
  refine G.al X dX7_count_93 0 rfl ?_
  refine G.get X fX7_135 dX7_count_94 0 0 rfl rfl rfl ?_
  exact G.iret X Rr (v := (s_dr S)) dX7_count_97 (pi_mk (by rfl) (by rfl))

set_option maxRecDepth 20000 in
theorem tX7_count_6 (l : Launch) (D : va_G) (cI cW : ClassId) (m : Nat → Nat) (S : WS) (M : MS) (hS : Ok S) : CT l D cI cW yX7_count cX7_count 2 (some .int) ⟨1, 0, 0, 22⟩ [.ref (m 0), .int 6] ([ml m cI S M]) (PI (nI (m_rn M)) ([ml m cI S M])) := by
  refine CT.of RX7 rfl (by decide +kernel) (Nat.le_of_ble_eq_true rfl) [(0, .ref (m 0)), (1, .int 6)] rfl (fun x X Rr hnm => ?_)
  have hth := hS.th
  have hpe := hS.pe
  refine G.il X dX7_count_0 1 rfl ?_
  refine G.pu X dX7_count_1 ?_
  refine G.pu X dX7_count_3 ?_
  refine G.csti X kX7_isIn lX7_85 dX7_count_5 (tX7_isIn_no l D cI cW 6 11 16 (by decide)) ⟨Nat.le_of_ble_eq_true rfl, Nat.le_of_ble_eq_true rfl⟩ ⟨Nat.zero_le _, Nat.zero_le _⟩ [] rfl ⟨rfl, rfl⟩ rfl rfl rfl (Nat.le_of_ble_eq_true rfl) (ff_nil) (ws' := [ml m cI S M]) rfl ?_
  refine G.b_eq X dX7_count_8 (fun b8 => ?_) (fun b8 => absurd b8 (by decide))
  refine G.il X dX7_count_21 1 rfl ?_
  refine G.tsi X dX7_count_22 6 rfl (76) 98 (by decide) ?_
  refine G.al X dX7_count_98 0 rfl ?_
  refine G.get X fX7_282 dX7_count_99 0 0 rfl rfl rfl ?_
  exact G.iret X Rr (v := nI (m_rn M)) dX7_count_102 (pi_mk (by rfl) (by rfl))

set_option maxRecDepth 20000 in
theorem tX7_count_7 (l : Launch) (D : va_G) (cI cW : ClassId) (m : Nat → Nat) (S : WS) (M : MS) (hS : Ok S) : CT l D cI cW yX7_count cX7_count 2 (some .int) ⟨1, 0, 0, 22⟩ [.ref (m 0), .int 7] ([ml m cI S M]) (PI (nI (m_tn M)) ([ml m cI S M])) := by
  refine CT.of RX7 rfl (by decide +kernel) (Nat.le_of_ble_eq_true rfl) [(0, .ref (m 0)), (1, .int 7)] rfl (fun x X Rr hnm => ?_)
  have hth := hS.th
  have hpe := hS.pe
  refine G.il X dX7_count_0 1 rfl ?_
  refine G.pu X dX7_count_1 ?_
  refine G.pu X dX7_count_3 ?_
  refine G.csti X kX7_isIn lX7_85 dX7_count_5 (tX7_isIn_no l D cI cW 7 11 16 (by decide)) ⟨Nat.le_of_ble_eq_true rfl, Nat.le_of_ble_eq_true rfl⟩ ⟨Nat.zero_le _, Nat.zero_le _⟩ [] rfl ⟨rfl, rfl⟩ rfl rfl rfl (Nat.le_of_ble_eq_true rfl) (ff_nil) (ws' := [ml m cI S M]) rfl ?_
  refine G.b_eq X dX7_count_8 (fun b8 => ?_) (fun b8 => absurd b8 (by decide))
  refine G.il X dX7_count_21 1 rfl ?_
  refine G.tsi X dX7_count_22 7 rfl (81) 103 (by decide) ?_
  refine G.al X dX7_count_103 0 rfl ?_
  refine G.get X fX7_71 dX7_count_104 0 0 rfl rfl rfl ?_
  exact G.iret X Rr (v := nI (m_tn M)) dX7_count_107 (pi_mk (by rfl) (by rfl))

set_option maxRecDepth 20000 in
theorem tX7_count_ref (l : Launch) (D : va_G) (cI cW : ClassId) (m : Nat → Nat) (S : WS) (M : MS) (w : Nat) (h1 : 11 ≤ w) (h2 : w ≤ 16) : CT l D cI cW yX7_count cX7_count 2 (some .int) ⟨1, 0, 0, 22⟩ [.ref (m 0), .int (nI w)] ([ml m cI S M]) (PI (m_rf M (w - 10)) ([ml m cI S M])) := by
  refine CT.of RX7 rfl (by decide +kernel) (Nat.le_of_ble_eq_true rfl) [(0, .ref (m 0)), (1, .int (nI w))] rfl (fun x X Rr hnm => ?_)
  refine G.il X dX7_count_0 1 rfl ?_
  refine G.pu X dX7_count_1 ?_
  refine G.pu X dX7_count_3 ?_
  refine G.csti X kX7_isIn lX7_85 dX7_count_5 (tX7_isIn_yes l D cI cW w 11 16 h1 h2 (by omega)) ⟨Nat.le_of_ble_eq_true rfl, Nat.le_of_ble_eq_true rfl⟩ ⟨Nat.zero_le _, Nat.zero_le _⟩ [] rfl ⟨rfl, rfl⟩ rfl rfl rfl (Nat.le_of_ble_eq_true rfl) (ff_nil) (ws' := [ml m cI S M]) rfl ?_
  refine G.b_eq X dX7_count_8 (fun b8 => absurd b8 (by decide)) (fun b8 => ?_)
  refine G.al X dX7_count_11 0 rfl ?_
  refine G.get X fX7_7 dX7_count_12 0 0 rfl rfl rfl ?_
  refine G.il X dX7_count_15 1 rfl ?_
  refine G.pu X dX7_count_16 ?_
  refine G.isub X dX7_count_18 ?_
  refine G.top (b := nI (w - 10)) (n_m10b h1 h2) ?_
  refine G.nld X (i := w - 10) dX7_count_19 0 1 rfl rfl (by omega) (by decide) ?_
  exact G.iret X Rr (v := ((m_rf M) (w - 10))) dX7_count_20 (pi_mk (by rfl) (by rfl))

set_option maxRecDepth 20000 in
theorem tX7_count_no (l : Launch) (D : va_G) (cI cW : ClassId) (m : Nat → Nat) (S : WS) (M : MS) (w : Int32) (h0 : z_in w 8 = false) (h1 : w < 11 ∨ 16 < w) : CT l D cI cW yX7_count cX7_count 2 (some .int) ⟨1, 0, 0, 22⟩ [.ref (m 0), .int w] ([ml m cI S M]) (PI (-9) ([ml m cI S M])) := by
  refine CT.of RX7 rfl (by decide +kernel) (Nat.le_of_ble_eq_true rfl) [(0, .ref (m 0)), (1, .int w)] rfl (fun x X Rr hnm => ?_)
  refine G.il X dX7_count_0 1 rfl ?_
  refine G.pu X dX7_count_1 ?_
  refine G.pu X dX7_count_3 ?_
  refine G.csti X kX7_isIn lX7_85 dX7_count_5 (tX7_isIn_no l D cI cW w 11 16 (zbt_out h1)) ⟨Nat.le_of_ble_eq_true rfl, Nat.le_of_ble_eq_true rfl⟩ ⟨Nat.zero_le _, Nat.zero_le _⟩ [] rfl ⟨rfl, rfl⟩ rfl rfl rfl (Nat.le_of_ble_eq_true rfl) (ff_nil) (ws' := [ml m cI S M]) rfl ?_
  refine G.b_eq X dX7_count_8 (fun b8 => ?_) (fun b8 => absurd b8 (by decide))
  refine G.il X dX7_count_21 1 rfl ?_
  refine G.tsd X dX7_count_22 [0, 1, 2, 3, 4, 5, 6, 7] (List.forall_mem_cons.mpr ⟨(z_ne (v := 0) h0 (by decide) (by decide)), List.forall_mem_cons.mpr ⟨(z_ne (v := 1) h0 (by decide) (by decide)), List.forall_mem_cons.mpr ⟨(z_ne (v := 2) h0 (by decide) (by decide)), List.forall_mem_cons.mpr ⟨(z_ne (v := 3) h0 (by decide) (by decide)), List.forall_mem_cons.mpr ⟨(z_ne (v := 4) h0 (by decide) (by decide)), List.forall_mem_cons.mpr ⟨(z_ne (v := 5) h0 (by decide) (by decide)), List.forall_mem_cons.mpr ⟨(z_ne (v := 6) h0 (by decide) (by decide)), List.forall_mem_cons.mpr ⟨(z_ne (v := 7) h0 (by decide) (by decide)), fun _ h9 => absurd h9 List.not_mem_nil⟩⟩⟩⟩⟩⟩⟩⟩) 108 (by decide) ?_
  refine G.pu X dX7_count_108 ?_
  exact G.iret X Rr (v := (-9)) dX7_count_110 (pi_mk (by rfl) (by rfl))
