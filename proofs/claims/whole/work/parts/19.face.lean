set_option maxRecDepth 20000 in
theorem tX6_refuse (l : Launch) (D : va_G) (cI cW : ClassId) (xx : Nat → Nat) (xn : Nat → Nat) (xt : Nat → Nat) (xk : Nat → Nat) (xe : Nat → Nat) (xo : Nat → Nat) (xv : Nat → Nat) (xc : Nat → Nat) (xr : Nat → Nat) (Z : Bool × FN) (j : Nat) (hj1 : 1 ≤ j) (hj2 : j ≤ 6) : CT l D cI cW yX6_refuse cX6_refuse 3 (some .int) ⟨0, 0, 0, 0⟩ [.ref (xx 0), .int (-(nI j))] ([xl xx xn xt xk xe xo xv xc xr cI Z]) (PI (-(nI j)) ([xl xx xn xt xk xe xo xv xc xr cI (x_rf Z j)])) := by
  refine CT.of RX6 rfl (by decide +kernel) (Nat.le_of_ble_eq_true rfl) [(0, .ref (xx 0)), (1, .int (-(nI j)))] rfl (fun x X Rr hnm => ?_)
  refine G.il X dX6_refuse_0 1 rfl ?_
  refine G.ineg X dX6_refuse_1 ?_
  refine G.top (b := nI j) (Int32.neg_neg) ?_
  refine G.is X dX6_refuse_2 (by decide) (lv' := [(2, .int (nI j)), (0, .ref (xx 0)), (1, .int (-(nI j)))]) rfl ?_
  refine G.il X dX6_refuse_3 0 rfl ?_
  refine G.z_le X (a := nI j) dX6_refuse_4 (fun b4 => absurd ((nI_ltI (a := 0) (by decide) (by omega)).mpr (by omega)) b4) (fun b4 => ?_)
  refine G.il X dX6_refuse_7 0 rfl ?_
  refine G.al X dX6_refuse_8 1 rfl ?_
  refine G.get X fX6_61 dX6_refuse_9 0 0 rfl rfl rfl ?_
  refine G.alen X dX6_refuse_12 0 1 rfl rfl ?_
  refine G.n_ge X (a := j) (b := 7) (by omega) (by omega) dX6_refuse_13 (fun b13 => absurd b13 (by omega)) (fun b13 => ?_)
  refine G.al X dX6_refuse_16 1 rfl ?_
  refine G.get X fX6_61 dX6_refuse_17 0 0 rfl rfl rfl ?_
  refine G.il X dX6_refuse_20 0 rfl ?_
  refine G.dup2 X dX6_refuse_21 ?_
  refine G.nld X (i := j) dX6_refuse_22 0 1 rfl rfl (by omega) (by decide) ?_
  refine G.pu X dX6_refuse_23 ?_
  refine G.iadd X dX6_refuse_24 ?_
  refine G.nst X (i := j) dX6_refuse_25 0 1 rfl rfl (by omega) (by decide) (blk' := xl xx xn xt xk xe xo xv xc xr cI (x_h Z, upd (x_f Z) j (((x_f Z) j) + 1))) rfl (ws' := [xl xx xn xt xk xe xo xv xc xr cI (x_h Z, upd (x_f Z) j (((x_f Z) j) + 1))]) rfl ?_
  refine G.il X dX6_refuse_26 2 rfl ?_
  exact G.iret X Rr (v := (-(nI j))) dX6_refuse_27 (pi_mk (by rfl) (by rfl))

set_option maxRecDepth 20000 in
theorem tX6_refuseLong (l : Launch) (D : va_G) (cI cW : ClassId) (xx : Nat → Nat) (xn : Nat → Nat) (xt : Nat → Nat) (xk : Nat → Nat) (xe : Nat → Nat) (xo : Nat → Nat) (xv : Nat → Nat) (xc : Nat → Nat) (xr : Nat → Nat) (Z : Bool × FN) (j : Nat) (hj1 : 1 ≤ j) (hj2 : j ≤ 6) : CT l D cI cW yX6_refuseLong cX6_refuseLong 2 (some .long) ⟨1, 0, 0, 22⟩ [.ref (xx 0), .int (-(nI j))] ([xl xx xn xt xk xe xo xv xc xr cI Z]) (PJ (4000000000000000000 - Int32.toInt64 (-(nI j))) ([xl xx xn xt xk xe xo xv xc xr cI (x_rf Z j)])) := by
  refine CT.of RX6 rfl (by decide +kernel) (Nat.le_of_ble_eq_true rfl) [(0, .ref (xx 0)), (1, .int (-(nI j)))] rfl (fun x X Rr hnm => ?_)
  refine G.ldc2 X dX6_refuseLong_0 qX6_295 ?_
  refine G.al X dX6_refuseLong_3 0 rfl ?_
  refine G.il X dX6_refuseLong_4 1 rfl ?_
  refine G.cvi X kX6_refuse lX6_65 dX6_refuseLong_5 (tX6_refuse l D cI cW xx xn xt xk xe xo xv xc xr Z j (by omega) (by omega)) ⟨Nat.le_of_ble_eq_true rfl, Nat.le_of_ble_eq_true rfl⟩ ⟨Nat.zero_le _, Nat.zero_le _⟩ [0] rfl ⟨rfl, rfl⟩ rfl rfl 0 0 rfl rfl rfl rfl (Nat.le_of_ble_eq_true rfl) (ff_cons (xl_fst _ _ _ _ _ _ _ _ _ _ _ _) (ff_nil)) (ws' := [xl xx xn xt xk xe xo xv xc xr cI (x_rf Z j)]) rfl ?_
  refine G.i2l X dX6_refuseLong_8 ?_
  refine G.lsub X dX6_refuseLong_9 ?_
  exact G.lret X Rr dX6_refuseLong_10 (pj_mk (by rfl) (by rfl))

set_option maxRecDepth 20000 in
theorem tX6_outside_lo (l : Launch) (D : va_G) (cI cW : ClassId) (v : Int32) (lo : Int32) (hi : Int32) (h1 : v < lo) : CT l D cI cW yX6_outside cX6_outside 3 (some .int) ⟨0, 0, 0, 0⟩ [.int v, .int lo, .int hi] ([]) (PI (-4) ([])) := by
  refine CT.of RX6 rfl (by decide +kernel) (Nat.le_of_ble_eq_true rfl) [(0, .int v), (1, .int lo), (2, .int hi)] rfl (fun x X Rr hnm => ?_)
  refine G.il X dX6_outside_0 0 rfl ?_
  refine G.il X dX6_outside_1 1 rfl ?_
  refine G.c_ge X (a := v) (b := lo) dX6_outside_2 (fun b2 => absurd (h1) b2) (fun b2 => ?_)
  refine G.pu X dX6_outside_5 ?_
  exact G.iret X Rr (v := (-4)) dX6_outside_7 (pi_mk (by rfl) (by rfl))

set_option maxRecDepth 20000 in
theorem tX6_outside_hi (l : Launch) (D : va_G) (cI cW : ClassId) (v : Int32) (lo : Int32) (hi : Int32) (h1 : ¬ v < lo) (h2 : hi < v) : CT l D cI cW yX6_outside cX6_outside 3 (some .int) ⟨0, 0, 0, 0⟩ [.int v, .int lo, .int hi] ([]) (PI (-6) ([])) := by
  refine CT.of RX6 rfl (by decide +kernel) (Nat.le_of_ble_eq_true rfl) [(0, .int v), (1, .int lo), (2, .int hi)] rfl (fun x X Rr hnm => ?_)
  refine G.il X dX6_outside_0 0 rfl ?_
  refine G.il X dX6_outside_1 1 rfl ?_
  refine G.c_ge X (a := v) (b := lo) dX6_outside_2 (fun b2 => ?_) (fun b2 => absurd b2 (h1))
  refine G.il X dX6_outside_8 0 rfl ?_
  refine G.il X dX6_outside_9 2 rfl ?_
  refine G.c_le X (a := v) (b := hi) dX6_outside_10 (fun b10 => absurd (h2) b10) (fun b10 => ?_)
  refine G.pu X dX6_outside_13 ?_
  refine G.go X dX6_outside_15 ?_
  exact G.iret X Rr (v := (-6)) dX6_outside_19 (pi_mk (by rfl) (by rfl))

set_option maxRecDepth 20000 in
theorem tX6_outside_ok (l : Launch) (D : va_G) (cI cW : ClassId) (v : Nat) (lo : Nat) (hi : Nat) (h1 : lo ≤ v) (h2 : v ≤ hi) (h3 : hi < 2 ^ 31) : CT l D cI cW yX6_outside cX6_outside 3 (some .int) ⟨0, 0, 0, 0⟩ [.int (nI v), .int (nI lo), .int (nI hi)] ([]) (PI (0) ([])) := by
  refine CT.of RX6 rfl (by decide +kernel) (Nat.le_of_ble_eq_true rfl) [(0, .int (nI v)), (1, .int (nI lo)), (2, .int (nI hi))] rfl (fun x X Rr hnm => ?_)
  refine G.il X dX6_outside_0 0 rfl ?_
  refine G.il X dX6_outside_1 1 rfl ?_
  refine G.n_ge X (a := v) (b := lo) (by omega) (by omega) dX6_outside_2 (fun b2 => ?_) (fun b2 => absurd b2 (by omega))
  refine G.il X dX6_outside_8 0 rfl ?_
  refine G.il X dX6_outside_9 2 rfl ?_
  refine G.n_le X (a := v) (b := hi) (by omega) (by omega) dX6_outside_10 (fun b10 => ?_) (fun b10 => absurd b10 (by omega))
  refine G.pu X dX6_outside_18 ?_
  exact G.iret X Rr (v := 0) dX6_outside_19 (pi_mk (by rfl) (by rfl))

set_option maxRecDepth 20000 in
theorem tX6_outsideOrOther_lo (l : Launch) (D : va_G) (cI cW : ClassId) (v : Int32) (lo : Int32) (hi : Int32) (w : Int32) (lw : Int32) (h1 : v < lo) : CT l D cI cW yX6_outsideOrOther cX6_outsideOrOther 6 (some .int) ⟨1, 0, 0, 22⟩ [.int v, .int lo, .int hi, .int w, .int lw] ([]) (PI (-4) ([])) := by
  refine CT.of RX6 rfl (by decide +kernel) (Nat.le_of_ble_eq_true rfl) [(0, .int v), (1, .int lo), (2, .int hi), (3, .int w), (4, .int lw)] rfl (fun x X Rr hnm => ?_)
  refine G.il X dX6_outsideOrOther_0 0 rfl ?_
  refine G.il X dX6_outsideOrOther_1 1 rfl ?_
  refine G.il X dX6_outsideOrOther_2 2 rfl ?_
  refine G.csti X kX6_outside lX6_138 dX6_outsideOrOther_3 (tX6_outside_lo l D cI cW v lo hi h1) ⟨Nat.le_of_ble_eq_true rfl, Nat.le_of_ble_eq_true rfl⟩ ⟨Nat.zero_le _, Nat.zero_le _⟩ [] rfl ⟨rfl, rfl⟩ rfl rfl rfl (Nat.le_of_ble_eq_true rfl) (ff_nil) (ws' := []) rfl ?_
  refine G.is X dX6_outsideOrOther_6 (by decide) (lv' := [(5, .int (-4)), (0, .int v), (1, .int lo), (2, .int hi), (3, .int w), (4, .int lw)]) rfl ?_
  refine G.il X dX6_outsideOrOther_8 0 rfl ?_
  refine G.z_eq X (a := (-4)) dX6_outsideOrOther_10 (fun b10 => absurd b10 (by decide)) (fun b10 => ?_)
  refine G.il X dX6_outsideOrOther_13 0 rfl ?_
  exact G.iret X Rr (v := (-4)) dX6_outsideOrOther_15 (pi_mk (by rfl) (by rfl))

set_option maxRecDepth 20000 in
theorem tX6_outsideOrOther_hi (l : Launch) (D : va_G) (cI cW : ClassId) (v : Int32) (lo : Int32) (hi : Int32) (w : Int32) (lw : Int32) (h1 : ¬ v < lo) (h2 : hi < v) : CT l D cI cW yX6_outsideOrOther cX6_outsideOrOther 6 (some .int) ⟨1, 0, 0, 22⟩ [.int v, .int lo, .int hi, .int w, .int lw] ([]) (PI (-6) ([])) := by
  refine CT.of RX6 rfl (by decide +kernel) (Nat.le_of_ble_eq_true rfl) [(0, .int v), (1, .int lo), (2, .int hi), (3, .int w), (4, .int lw)] rfl (fun x X Rr hnm => ?_)
  refine G.il X dX6_outsideOrOther_0 0 rfl ?_
  refine G.il X dX6_outsideOrOther_1 1 rfl ?_
  refine G.il X dX6_outsideOrOther_2 2 rfl ?_
  refine G.csti X kX6_outside lX6_138 dX6_outsideOrOther_3 (tX6_outside_hi l D cI cW v lo hi h1 h2) ⟨Nat.le_of_ble_eq_true rfl, Nat.le_of_ble_eq_true rfl⟩ ⟨Nat.zero_le _, Nat.zero_le _⟩ [] rfl ⟨rfl, rfl⟩ rfl rfl rfl (Nat.le_of_ble_eq_true rfl) (ff_nil) (ws' := []) rfl ?_
  refine G.is X dX6_outsideOrOther_6 (by decide) (lv' := [(5, .int (-6)), (0, .int v), (1, .int lo), (2, .int hi), (3, .int w), (4, .int lw)]) rfl ?_
  refine G.il X dX6_outsideOrOther_8 0 rfl ?_
  refine G.z_eq X (a := (-6)) dX6_outsideOrOther_10 (fun b10 => absurd b10 (by decide)) (fun b10 => ?_)
  refine G.il X dX6_outsideOrOther_13 0 rfl ?_
  exact G.iret X Rr (v := (-6)) dX6_outsideOrOther_15 (pi_mk (by rfl) (by rfl))

set_option maxRecDepth 20000 in
theorem tX6_outsideOrOther_oth (l : Launch) (D : va_G) (cI cW : ClassId) (v : Nat) (lo : Nat) (hi : Nat) (w : Int32) (h1 : lo ≤ v) (h2 : v ≤ hi) (h3 : hi < 2 ^ 31) (h4 : w < 0 ∨ 1 < w) : CT l D cI cW yX6_outsideOrOther cX6_outsideOrOther 6 (some .int) ⟨1, 0, 0, 22⟩ [.int (nI v), .int (nI lo), .int (nI hi), .int w, .int 1] ([]) (PI (-2) ([])) := by
  refine CT.of RX6 rfl (by decide +kernel) (Nat.le_of_ble_eq_true rfl) [(0, .int (nI v)), (1, .int (nI lo)), (2, .int (nI hi)), (3, .int w), (4, .int 1)] rfl (fun x X Rr hnm => ?_)
  refine G.il X dX6_outsideOrOther_0 0 rfl ?_
  refine G.il X dX6_outsideOrOther_1 1 rfl ?_
  refine G.il X dX6_outsideOrOther_2 2 rfl ?_
  refine G.csti X kX6_outside lX6_138 dX6_outsideOrOther_3 (tX6_outside_ok l D cI cW v lo hi (by omega) (by omega) (by omega)) ⟨Nat.le_of_ble_eq_true rfl, Nat.le_of_ble_eq_true rfl⟩ ⟨Nat.zero_le _, Nat.zero_le _⟩ [] rfl ⟨rfl, rfl⟩ rfl rfl rfl (Nat.le_of_ble_eq_true rfl) (ff_nil) (ws' := []) rfl ?_
  refine G.is X dX6_outsideOrOther_6 (by decide) (lv' := [(5, .int 0), (0, .int (nI v)), (1, .int (nI lo)), (2, .int (nI hi)), (3, .int w), (4, .int 1)]) rfl ?_
  refine G.il X dX6_outsideOrOther_8 0 rfl ?_
  refine G.z_eq X (a := 0) dX6_outsideOrOther_10 (fun b10 => ?_) (fun b10 => absurd b10 (by decide))
  refine G.il X dX6_outsideOrOther_16 4 rfl ?_
  refine G.z_lt X (a := w) dX6_outsideOrOther_17 (fun b17 => ?_) (fun b17 => ?_)
  · refine G.pu X dX6_outsideOrOther_26 ?_
    refine G.go X dX6_outsideOrOther_28 ?_
    exact G.iret X Rr (v := (-2)) dX6_outsideOrOther_32 (pi_mk (by rfl) (by rfl))
  · refine G.il X dX6_outsideOrOther_20 4 rfl ?_
    refine G.il X dX6_outsideOrOther_21 5 rfl ?_
    refine G.c_le X (a := w) (b := 1) dX6_outsideOrOther_23 (fun b23 => absurd ((h4.resolve_left b17)) b23) (fun b23 => ?_)
    refine G.pu X dX6_outsideOrOther_26 ?_
    refine G.go X dX6_outsideOrOther_28 ?_
    exact G.iret X Rr (v := (-2)) dX6_outsideOrOther_32 (pi_mk (by rfl) (by rfl))

set_option maxRecDepth 20000 in
theorem tX6_outsideOrOther_ok (l : Launch) (D : va_G) (cI cW : ClassId) (v : Nat) (lo : Nat) (hi : Nat) (w : Nat) (h1 : lo ≤ v) (h2 : v ≤ hi) (h3 : hi < 2 ^ 31) (h4 : w ≤ 1) : CT l D cI cW yX6_outsideOrOther cX6_outsideOrOther 6 (some .int) ⟨1, 0, 0, 22⟩ [.int (nI v), .int (nI lo), .int (nI hi), .int (nI w), .int 1] ([]) (PI (0) ([])) := by
  refine CT.of RX6 rfl (by decide +kernel) (Nat.le_of_ble_eq_true rfl) [(0, .int (nI v)), (1, .int (nI lo)), (2, .int (nI hi)), (3, .int (nI w)), (4, .int 1)] rfl (fun x X Rr hnm => ?_)
  refine G.il X dX6_outsideOrOther_0 0 rfl ?_
  refine G.il X dX6_outsideOrOther_1 1 rfl ?_
  refine G.il X dX6_outsideOrOther_2 2 rfl ?_
  refine G.csti X kX6_outside lX6_138 dX6_outsideOrOther_3 (tX6_outside_ok l D cI cW v lo hi (by omega) (by omega) (by omega)) ⟨Nat.le_of_ble_eq_true rfl, Nat.le_of_ble_eq_true rfl⟩ ⟨Nat.zero_le _, Nat.zero_le _⟩ [] rfl ⟨rfl, rfl⟩ rfl rfl rfl (Nat.le_of_ble_eq_true rfl) (ff_nil) (ws' := []) rfl ?_
  refine G.is X dX6_outsideOrOther_6 (by decide) (lv' := [(5, .int 0), (0, .int (nI v)), (1, .int (nI lo)), (2, .int (nI hi)), (3, .int (nI w)), (4, .int 1)]) rfl ?_
  refine G.il X dX6_outsideOrOther_8 0 rfl ?_
  refine G.z_eq X (a := 0) dX6_outsideOrOther_10 (fun b10 => ?_) (fun b10 => absurd b10 (by decide))
  refine G.il X dX6_outsideOrOther_16 4 rfl ?_
  refine G.z_lt X (a := nI w) dX6_outsideOrOther_17 (fun b17 => absurd b17 (nI_pos (by omega))) (fun b17 => ?_)
  refine G.il X dX6_outsideOrOther_20 4 rfl ?_
  refine G.il X dX6_outsideOrOther_21 5 rfl ?_
  refine G.n_le X (a := w) (b := 1) (by omega) (by omega) dX6_outsideOrOther_23 (fun b23 => ?_) (fun b23 => absurd b23 (by omega))
  refine G.pu X dX6_outsideOrOther_31 ?_
  exact G.iret X Rr (v := 0) dX6_outsideOrOther_32 (pi_mk (by rfl) (by rfl))

set_option maxRecDepth 20000 in
theorem tX6_letter_lo (l : Launch) (D : va_G) (cI cW : ClassId) (xx : Nat → Nat) (xn : Nat → Nat) (xt : Nat → Nat) (xk : Nat → Nat) (xe : Nat → Nat) (xo : Nat → Nat) (xv : Nat → Nat) (xc : Nat → Nat) (xr : Nat → Nat) (Z : Bool × FN) (c : Int32) (h1 : c < 0) : CT l D cI cW yX6_letter cX6_letter 2 (some .int) ⟨1, 0, 0, 22⟩ [.ref (xx 0), .int c] ([xl xx xn xt xk xe xo xv xc xr cI Z]) (PI (-4) ([xl xx xn xt xk xe xo xv xc xr cI (x_rf Z 4)])) := by
  refine CT.of RX6 rfl (by decide +kernel) (Nat.le_of_ble_eq_true rfl) [(0, .ref (xx 0)), (1, .int c)] rfl (fun x X Rr hnm => ?_)
  refine G.il X dX6_letter_0 1 rfl ?_
  refine G.z_ge X (a := c) dX6_letter_1 (fun b1 => absurd (h1) b1) (fun b1 => ?_)
  refine G.al X dX6_letter_4 0 rfl ?_
  refine G.pu X dX6_letter_5 ?_
  refine G.cvi X kX6_refuse lX6_65 dX6_letter_7 (tX6_refuse l D cI cW xx xn xt xk xe xo xv xc xr Z 4 (by omega) (by omega)) ⟨Nat.le_of_ble_eq_true rfl, Nat.le_of_ble_eq_true rfl⟩ ⟨Nat.zero_le _, Nat.zero_le _⟩ [0] rfl ⟨rfl, rfl⟩ rfl rfl 0 0 rfl rfl rfl rfl (Nat.le_of_ble_eq_true rfl) (ff_cons (xl_fst _ _ _ _ _ _ _ _ _ _ _ _) (ff_nil)) (ws' := [xl xx xn xt xk xe xo xv xc xr cI (x_rf Z 4)]) rfl ?_
  exact G.iret X Rr (v := (-(nI 4))) dX6_letter_10 (pi_mk (by rfl) (by rfl))

set_option maxRecDepth 20000 in
theorem tX6_letter_hi (l : Launch) (D : va_G) (cI cW : ClassId) (xx : Nat → Nat) (xn : Nat → Nat) (xt : Nat → Nat) (xk : Nat → Nat) (xe : Nat → Nat) (xo : Nat → Nat) (xv : Nat → Nat) (xc : Nat → Nat) (xr : Nat → Nat) (Z : Bool × FN) (c : Int32) (h1 : ¬ c < 0) (h2 : 255 < c) : CT l D cI cW yX6_letter cX6_letter 2 (some .int) ⟨1, 0, 0, 22⟩ [.ref (xx 0), .int c] ([xl xx xn xt xk xe xo xv xc xr cI Z]) (PI (-6) ([xl xx xn xt xk xe xo xv xc xr cI (x_rf Z 6)])) := by
  refine CT.of RX6 rfl (by decide +kernel) (Nat.le_of_ble_eq_true rfl) [(0, .ref (xx 0)), (1, .int c)] rfl (fun x X Rr hnm => ?_)
  refine G.il X dX6_letter_0 1 rfl ?_
  refine G.z_ge X (a := c) dX6_letter_1 (fun b1 => ?_) (fun b1 => absurd b1 (h1))
  refine G.il X dX6_letter_11 1 rfl ?_
  refine G.pu X dX6_letter_12 ?_
  refine G.c_gt X (a := c) (b := 255) dX6_letter_15 (fun b15 => ?_) (fun b15 => absurd (h2) b15)
  refine G.al X dX6_letter_29 0 rfl ?_
  refine G.pu X dX6_letter_30 ?_
  refine G.cvi X kX6_refuse lX6_65 dX6_letter_32 (tX6_refuse l D cI cW xx xn xt xk xe xo xv xc xr Z 6 (by omega) (by omega)) ⟨Nat.le_of_ble_eq_true rfl, Nat.le_of_ble_eq_true rfl⟩ ⟨Nat.zero_le _, Nat.zero_le _⟩ [0] rfl ⟨rfl, rfl⟩ rfl rfl 0 0 rfl rfl rfl rfl (Nat.le_of_ble_eq_true rfl) (ff_cons (xl_fst _ _ _ _ _ _ _ _ _ _ _ _) (ff_nil)) (ws' := [xl xx xn xt xk xe xo xv xc xr cI (x_rf Z 6)]) rfl ?_
  exact G.iret X Rr (v := (-(nI 6))) dX6_letter_35 (pi_mk (by rfl) (by rfl))

set_option maxRecDepth 20000 in
theorem tX6_letter_full (l : Launch) (D : va_G) (cI cW : ClassId) (xx : Nat → Nat) (xn : Nat → Nat) (xt : Nat → Nat) (xk : Nat → Nat) (xe : Nat → Nat) (xo : Nat → Nat) (xv : Nat → Nat) (xc : Nat → Nat) (xr : Nat → Nat) (Z : Bool × FN) (q : FN × Nat) (c : Int32) (h1 : ¬ c < 0) (h2 : ¬ 255 < c) (hq : q_n q = 96) : CT l D cI cW yX6_letter cX6_letter 2 (some .int) ⟨1, 0, 0, 22⟩ [.ref (xx 0), .int c] ([xl xx xn xt xk xe xo xv xc xr cI Z, tl xe cI q]) (PI (-6) ([xl xx xn xt xk xe xo xv xc xr cI (x_rf Z 6), tl xe cI q])) := by
  refine CT.of RX6 rfl (by decide +kernel) (Nat.le_of_ble_eq_true rfl) [(0, .ref (xx 0)), (1, .int c)] rfl (fun x X Rr hnm => ?_)
  refine G.il X dX6_letter_0 1 rfl ?_
  refine G.z_ge X (a := c) dX6_letter_1 (fun b1 => ?_) (fun b1 => absurd b1 (h1))
  refine G.il X dX6_letter_11 1 rfl ?_
  refine G.pu X dX6_letter_12 ?_
  refine G.c_gt X (a := c) (b := 255) dX6_letter_15 (fun b15 => absurd b15 (h2)) (fun b15 => ?_)
  refine G.al X dX6_letter_18 0 rfl ?_
  refine G.get X fX6_29 dX6_letter_19 0 0 rfl rfl rfl ?_
  refine G.il X dX6_letter_22 1 rfl ?_
  refine G.cvi X kX2_take lX6_69 dX6_letter_23 (tX2_take_bad l D cI cW xe q c (by omega)) ⟨Nat.le_of_ble_eq_true rfl, Nat.le_of_ble_eq_true rfl⟩ ⟨Nat.zero_le _, Nat.zero_le _⟩ [1] rfl ⟨rfl, rfl⟩ rfl rfl 1 0 rfl rfl rfl rfl (Nat.le_of_ble_eq_true rfl) (ff_cons (tl_fst _ _ _ _) (ff_nil)) (ws' := [xl xx xn xt xk xe xo xv xc xr cI Z, tl xe cI q]) rfl ?_
  refine G.b_ne X dX6_letter_26 (fun b26 => absurd b26 (by decide)) (fun b26 => ?_)
  refine G.al X dX6_letter_29 0 rfl ?_
  refine G.pu X dX6_letter_30 ?_
  refine G.cvi X kX6_refuse lX6_65 dX6_letter_32 (tX6_refuse l D cI cW xx xn xt xk xe xo xv xc xr Z 6 (by omega) (by omega)) ⟨Nat.le_of_ble_eq_true rfl, Nat.le_of_ble_eq_true rfl⟩ ⟨Nat.zero_le _, Nat.zero_le _⟩ [0] rfl ⟨rfl, rfl⟩ rfl rfl 0 0 rfl rfl rfl rfl (Nat.le_of_ble_eq_true rfl) (ff_cons (xl_fst _ _ _ _ _ _ _ _ _ _ _ _) (ff_nil)) (ws' := [xl xx xn xt xk xe xo xv xc xr cI (x_rf Z 6), tl xe cI q]) rfl ?_
  exact G.iret X Rr (v := (-(nI 6))) dX6_letter_35 (pi_mk (by rfl) (by rfl))

set_option maxRecDepth 20000 in
theorem tX6_letter_ok (l : Launch) (D : va_G) (cI cW : ClassId) (xx : Nat → Nat) (xn : Nat → Nat) (xt : Nat → Nat) (xk : Nat → Nat) (xe : Nat → Nat) (xo : Nat → Nat) (xv : Nat → Nat) (xc : Nat → Nat) (xr : Nat → Nat) (Z : Bool × FN) (q : FN × Nat) (c : Int32) (h1 : ¬ c < 0) (h2 : ¬ 255 < c) (hq : q_n q < 96) : CT l D cI cW yX6_letter cX6_letter 2 (some .int) ⟨1, 0, 0, 21⟩ [.ref (xx 0), .int c] ([xl xx xn xt xk xe xo xv xc xr cI Z, tl xe cI q]) (PI (nI (q_n q + 1)) ([xl xx xn xt xk xe xo xv xc xr cI Z, tl xe cI (upd (q_f q) (q_n q) c, q_n q + 1)])) := by
  refine CT.of RX6 rfl (by decide +kernel) (Nat.le_of_ble_eq_true rfl) [(0, .ref (xx 0)), (1, .int c)] rfl (fun x X Rr hnm => ?_)
  refine G.il X dX6_letter_0 1 rfl ?_
  refine G.z_ge X (a := c) dX6_letter_1 (fun b1 => ?_) (fun b1 => absurd b1 (h1))
  refine G.il X dX6_letter_11 1 rfl ?_
  refine G.pu X dX6_letter_12 ?_
  refine G.c_gt X (a := c) (b := 255) dX6_letter_15 (fun b15 => absurd b15 (h2)) (fun b15 => ?_)
  refine G.al X dX6_letter_18 0 rfl ?_
  refine G.get X fX6_29 dX6_letter_19 0 0 rfl rfl rfl ?_
  refine G.il X dX6_letter_22 1 rfl ?_
  refine G.cvi X kX2_take lX6_69 dX6_letter_23 (tX2_take l D cI cW xe q c (by omega)) ⟨Nat.le_of_ble_eq_true rfl, Nat.le_of_ble_eq_true rfl⟩ ⟨Nat.zero_le _, Nat.zero_le _⟩ [1] rfl ⟨rfl, rfl⟩ rfl rfl 1 0 rfl rfl rfl rfl (Nat.le_of_ble_eq_true rfl) (ff_cons (tl_fst _ _ _ _) (ff_nil)) (ws' := [xl xx xn xt xk xe xo xv xc xr cI Z, tl xe cI (upd (q_f q) (q_n q) c, q_n q + 1)]) rfl ?_
  refine G.b_ne X dX6_letter_26 (fun b26 => ?_) (fun b26 => absurd b26 (by decide))
  refine G.al X dX6_letter_36 0 rfl ?_
  refine G.get X fX6_29 dX6_letter_37 0 0 rfl rfl rfl ?_
  refine G.get X fX6_73 dX6_letter_40 1 0 rfl rfl rfl ?_
  exact G.iret X Rr (v := nI (q_n (upd (q_f q) (q_n q) c, q_n q + 1))) dX6_letter_43 (pi_mk (by rfl) (by rfl))

set_option maxRecDepth 20000 in
theorem tX6_person_bad (l : Launch) (D : va_G) (cI cW : ClassId) (xx : Nat → Nat) (xn : Nat → Nat) (xt : Nat → Nat) (xk : Nat → Nat) (xe : Nat → Nat) (xo : Nat → Nat) (xv : Nat → Nat) (xc : Nat → Nat) (xr : Nat → Nat) (Z : Bool × FN) (S : WS) (p : Int32) (w : Int32) (hS : Ok S) (hp : z_in p (s_pe S) = false) : CT l D cI cW yX6_person cX6_person 3 (some .int) ⟨1, 0, 0, 22⟩ [.ref (xx 0), .int p, .int w] ([xl xx xn xt xk xe xo xv xc xr cI Z, wl xn cI S]) (PI (-1) ([xl xx xn xt xk xe xo xv xc xr cI (x_rf Z 1), wl xn cI S])) := by
  refine CT.of RX6 rfl (by decide +kernel) (Nat.le_of_ble_eq_true rfl) [(0, .ref (xx 0)), (1, .int p), (2, .int w)] rfl (fun x X Rr hnm => ?_)
  have hth := hS.th
  have hpe := hS.pe
  refine G.al X dX6_person_0 0 rfl ?_
  refine G.get X fX6_10 dX6_person_1 0 0 rfl rfl rfl ?_
  refine G.il X dX6_person_4 1 rfl ?_
  refine G.cvi X kX5_isPerson lX6_92 dX6_person_5 (tX5_isPerson l D cI cW xn S p (by omega)) ⟨Nat.le_of_ble_eq_true rfl, Nat.le_of_ble_eq_true rfl⟩ ⟨Nat.zero_le _, Nat.zero_le _⟩ [1] rfl ⟨rfl, rfl⟩ rfl rfl 1 0 rfl rfl rfl rfl (Nat.le_of_ble_eq_true rfl) (ff_cons (wl_fst _ _ _ _) (ff_nil)) (ws' := [xl xx xn xt xk xe xo xv xc xr cI Z, wl xn cI S]) rfl ?_
  refine G.b_ne X dX6_person_8 (fun b8 => absurd (Eq.trans (Eq.symm hp) b8) (by decide)) (fun b8 => ?_)
  refine G.al X dX6_person_11 0 rfl ?_
  refine G.pu X dX6_person_12 ?_
  refine G.cvi X kX6_refuse lX6_65 dX6_person_13 (tX6_refuse l D cI cW xx xn xt xk xe xo xv xc xr Z 1 (by omega) (by omega)) ⟨Nat.le_of_ble_eq_true rfl, Nat.le_of_ble_eq_true rfl⟩ ⟨Nat.zero_le _, Nat.zero_le _⟩ [0] rfl ⟨rfl, rfl⟩ rfl rfl 0 0 rfl rfl rfl rfl (Nat.le_of_ble_eq_true rfl) (ff_cons (xl_fst _ _ _ _ _ _ _ _ _ _ _ _) (ff_nil)) (ws' := [xl xx xn xt xk xe xo xv xc xr cI (x_rf Z 1), wl xn cI S]) rfl ?_
  exact G.iret X Rr (v := (-(nI 1))) dX6_person_16 (pi_mk (by rfl) (by rfl))

set_option maxRecDepth 20000 in
theorem tX6_person_0 (l : Launch) (D : va_G) (cI cW : ClassId) (xx : Nat → Nat) (xn : Nat → Nat) (xt : Nat → Nat) (xk : Nat → Nat) (xe : Nat → Nat) (xo : Nat → Nat) (xv : Nat → Nat) (xc : Nat → Nat) (xr : Nat → Nat) (Z : Bool × FN) (S : WS) (p : Nat) (hS : Ok S) (hp : p < s_pe S) : CT l D cI cW yX6_person cX6_person 3 (some .int) ⟨1, 0, 0, 21⟩ [.ref (xx 0), .int (nI p), .int 0] ([xl xx xn xt xk xe xo xv xc xr cI Z, wl xn cI S]) (PI (s_kn S p) ([xl xx xn xt xk xe xo xv xc xr cI Z, wl xn cI S])) := by
  refine CT.of RX6 rfl (by decide +kernel) (Nat.le_of_ble_eq_true rfl) [(0, .ref (xx 0)), (1, .int (nI p)), (2, .int 0)] rfl (fun x X Rr hnm => ?_)
  have hth := hS.th
  have hpe := hS.pe
  refine G.al X dX6_person_0 0 rfl ?_
  refine G.get X fX6_10 dX6_person_1 0 0 rfl rfl rfl ?_
  refine G.il X dX6_person_4 1 rfl ?_
  refine G.cvi X kX5_isPerson lX6_92 dX6_person_5 (tX5_isPerson l D cI cW xn S (nI p) (by omega)) ⟨Nat.le_of_ble_eq_true rfl, Nat.le_of_ble_eq_true rfl⟩ ⟨Nat.zero_le _, Nat.zero_le _⟩ [1] rfl ⟨rfl, rfl⟩ rfl rfl 1 0 rfl rfl rfl rfl (Nat.le_of_ble_eq_true rfl) (ff_cons (wl_fst _ _ _ _) (ff_nil)) (ws' := [xl xx xn xt xk xe xo xv xc xr cI Z, wl xn cI S]) rfl ?_
  refine G.b_ne X dX6_person_8 (fun b8 => ?_) (fun b8 => absurd (Eq.trans (Eq.symm (z_in_nI hp (by omega))) b8) (by decide))
  refine G.il X dX6_person_17 2 rfl ?_
  refine G.tsi X dX6_person_18 0 rfl (30) 48 (by decide) ?_
  refine G.al X dX6_person_48 0 rfl ?_
  refine G.get X fX6_10 dX6_person_49 0 0 rfl rfl rfl ?_
  refine G.get X fX6_95 dX6_person_52 1 0 rfl rfl rfl ?_
  refine G.il X dX6_person_55 1 rfl ?_
  refine G.nld X (i := p) dX6_person_56 1 1 rfl rfl (by omega) (by decide) ?_
  exact G.iret X Rr (v := ((s_kn S) p)) dX6_person_57 (pi_mk (by rfl) (by rfl))

set_option maxRecDepth 20000 in
theorem tX6_person_1 (l : Launch) (D : va_G) (cI cW : ClassId) (xx : Nat → Nat) (xn : Nat → Nat) (xt : Nat → Nat) (xk : Nat → Nat) (xe : Nat → Nat) (xo : Nat → Nat) (xv : Nat → Nat) (xc : Nat → Nat) (xr : Nat → Nat) (Z : Bool × FN) (S : WS) (p : Nat) (hS : Ok S) (hp : p < s_pe S) : CT l D cI cW yX6_person cX6_person 3 (some .int) ⟨1, 0, 0, 21⟩ [.ref (xx 0), .int (nI p), .int 1] ([xl xx xn xt xk xe xo xv xc xr cI Z, wl xn cI S]) (PI (s_sh S p) ([xl xx xn xt xk xe xo xv xc xr cI Z, wl xn cI S])) := by
  refine CT.of RX6 rfl (by decide +kernel) (Nat.le_of_ble_eq_true rfl) [(0, .ref (xx 0)), (1, .int (nI p)), (2, .int 1)] rfl (fun x X Rr hnm => ?_)
  have hth := hS.th
  have hpe := hS.pe
  refine G.al X dX6_person_0 0 rfl ?_
  refine G.get X fX6_10 dX6_person_1 0 0 rfl rfl rfl ?_
  refine G.il X dX6_person_4 1 rfl ?_
  refine G.cvi X kX5_isPerson lX6_92 dX6_person_5 (tX5_isPerson l D cI cW xn S (nI p) (by omega)) ⟨Nat.le_of_ble_eq_true rfl, Nat.le_of_ble_eq_true rfl⟩ ⟨Nat.zero_le _, Nat.zero_le _⟩ [1] rfl ⟨rfl, rfl⟩ rfl rfl 1 0 rfl rfl rfl rfl (Nat.le_of_ble_eq_true rfl) (ff_cons (wl_fst _ _ _ _) (ff_nil)) (ws' := [xl xx xn xt xk xe xo xv xc xr cI Z, wl xn cI S]) rfl ?_
  refine G.b_ne X dX6_person_8 (fun b8 => ?_) (fun b8 => absurd (Eq.trans (Eq.symm (z_in_nI hp (by omega))) b8) (by decide))
  refine G.il X dX6_person_17 2 rfl ?_
  refine G.tsi X dX6_person_18 1 rfl (40) 58 (by decide) ?_
  refine G.al X dX6_person_58 0 rfl ?_
  refine G.get X fX6_10 dX6_person_59 0 0 rfl rfl rfl ?_
  refine G.get X fX6_98 dX6_person_62 1 0 rfl rfl rfl ?_
  refine G.il X dX6_person_65 1 rfl ?_
  refine G.nld X (i := p) dX6_person_66 1 2 rfl rfl (by omega) (by decide) ?_
  exact G.iret X Rr (v := ((s_sh S) p)) dX6_person_67 (pi_mk (by rfl) (by rfl))

set_option maxRecDepth 20000 in
theorem tX6_person_2 (l : Launch) (D : va_G) (cI cW : ClassId) (xx : Nat → Nat) (xn : Nat → Nat) (xt : Nat → Nat) (xk : Nat → Nat) (xe : Nat → Nat) (xo : Nat → Nat) (xv : Nat → Nat) (xc : Nat → Nat) (xr : Nat → Nat) (Z : Bool × FN) (S : WS) (p : Nat) (hS : Ok S) (hp : p < s_pe S) : CT l D cI cW yX6_person cX6_person 3 (some .int) ⟨1, 0, 0, 21⟩ [.ref (xx 0), .int (nI p), .int 2] ([xl xx xn xt xk xe xo xv xc xr cI Z, wl xn cI S]) (PI (s_an S p) ([xl xx xn xt xk xe xo xv xc xr cI Z, wl xn cI S])) := by
  refine CT.of RX6 rfl (by decide +kernel) (Nat.le_of_ble_eq_true rfl) [(0, .ref (xx 0)), (1, .int (nI p)), (2, .int 2)] rfl (fun x X Rr hnm => ?_)
  have hth := hS.th
  have hpe := hS.pe
  refine G.al X dX6_person_0 0 rfl ?_
  refine G.get X fX6_10 dX6_person_1 0 0 rfl rfl rfl ?_
  refine G.il X dX6_person_4 1 rfl ?_
  refine G.cvi X kX5_isPerson lX6_92 dX6_person_5 (tX5_isPerson l D cI cW xn S (nI p) (by omega)) ⟨Nat.le_of_ble_eq_true rfl, Nat.le_of_ble_eq_true rfl⟩ ⟨Nat.zero_le _, Nat.zero_le _⟩ [1] rfl ⟨rfl, rfl⟩ rfl rfl 1 0 rfl rfl rfl rfl (Nat.le_of_ble_eq_true rfl) (ff_cons (wl_fst _ _ _ _) (ff_nil)) (ws' := [xl xx xn xt xk xe xo xv xc xr cI Z, wl xn cI S]) rfl ?_
  refine G.b_ne X dX6_person_8 (fun b8 => ?_) (fun b8 => absurd (Eq.trans (Eq.symm (z_in_nI hp (by omega))) b8) (by decide))
  refine G.il X dX6_person_17 2 rfl ?_
  refine G.tsi X dX6_person_18 2 rfl (50) 68 (by decide) ?_
  refine G.al X dX6_person_68 0 rfl ?_
  refine G.get X fX6_10 dX6_person_69 0 0 rfl rfl rfl ?_
  refine G.get X fX6_101 dX6_person_72 1 0 rfl rfl rfl ?_
  refine G.il X dX6_person_75 1 rfl ?_
  refine G.nld X (i := p) dX6_person_76 1 3 rfl rfl (by omega) (by decide) ?_
  exact G.iret X Rr (v := ((s_an S) p)) dX6_person_77 (pi_mk (by rfl) (by rfl))

set_option maxRecDepth 20000 in
theorem tX6_person_3 (l : Launch) (D : va_G) (cI cW : ClassId) (xx : Nat → Nat) (xn : Nat → Nat) (xt : Nat → Nat) (xk : Nat → Nat) (xe : Nat → Nat) (xo : Nat → Nat) (xv : Nat → Nat) (xc : Nat → Nat) (xr : Nat → Nat) (Z : Bool × FN) (S : WS) (p : Nat) (hS : Ok S) (hp : p < s_pe S) : CT l D cI cW yX6_person cX6_person 3 (some .int) ⟨1, 0, 0, 23⟩ [.ref (xx 0), .int (nI p), .int 3] ([xl xx xn xt xk xe xo xv xc xr cI Z, wl xn cI S]) (PI (w_qs S (nI p) (s_th S)) ([xl xx xn xt xk xe xo xv xc xr cI Z, wl xn cI S])) := by
  refine CT.of RX6 rfl (by decide +kernel) (Nat.le_of_ble_eq_true rfl) [(0, .ref (xx 0)), (1, .int (nI p)), (2, .int 3)] rfl (fun x X Rr hnm => ?_)
  have hth := hS.th
  have hpe := hS.pe
  refine G.al X dX6_person_0 0 rfl ?_
  refine G.get X fX6_10 dX6_person_1 0 0 rfl rfl rfl ?_
  refine G.il X dX6_person_4 1 rfl ?_
  refine G.cvi X kX5_isPerson lX6_92 dX6_person_5 (tX5_isPerson l D cI cW xn S (nI p) (by omega)) ⟨Nat.le_of_ble_eq_true rfl, Nat.le_of_ble_eq_true rfl⟩ ⟨Nat.zero_le _, Nat.zero_le _⟩ [1] rfl ⟨rfl, rfl⟩ rfl rfl 1 0 rfl rfl rfl rfl (Nat.le_of_ble_eq_true rfl) (ff_cons (wl_fst _ _ _ _) (ff_nil)) (ws' := [xl xx xn xt xk xe xo xv xc xr cI Z, wl xn cI S]) rfl ?_
  refine G.b_ne X dX6_person_8 (fun b8 => ?_) (fun b8 => absurd (Eq.trans (Eq.symm (z_in_nI hp (by omega))) b8) (by decide))
  refine G.il X dX6_person_17 2 rfl ?_
  refine G.tsi X dX6_person_18 3 rfl (60) 78 (by decide) ?_
  refine G.al X dX6_person_78 0 rfl ?_
  refine G.get X fX6_10 dX6_person_79 0 0 rfl rfl rfl ?_
  refine G.il X dX6_person_82 1 rfl ?_
  refine G.cvi X kX5_queueOf lX6_104 dX6_person_83 (tX5_queueOf l D cI cW xn S (nI p) (by omega)) ⟨Nat.le_of_ble_eq_true rfl, Nat.le_of_ble_eq_true rfl⟩ ⟨Nat.zero_le _, Nat.zero_le _⟩ [1] rfl ⟨rfl, rfl⟩ rfl rfl 1 0 rfl rfl rfl rfl (Nat.le_of_ble_eq_true rfl) (ff_cons (wl_fst _ _ _ _) (ff_nil)) (ws' := [xl xx xn xt xk xe xo xv xc xr cI Z, wl xn cI S]) rfl ?_
  exact G.iret X Rr (v := (w_qs S (nI p) (s_th S))) dX6_person_86 (pi_mk (by rfl) (by rfl))

set_option maxRecDepth 20000 in
theorem tX6_person_oth (l : Launch) (D : va_G) (cI cW : ClassId) (xx : Nat → Nat) (xn : Nat → Nat) (xt : Nat → Nat) (xk : Nat → Nat) (xe : Nat → Nat) (xo : Nat → Nat) (xv : Nat → Nat) (xc : Nat → Nat) (xr : Nat → Nat) (Z : Bool × FN) (S : WS) (p : Nat) (w : Int32) (hS : Ok S) (hp : p < s_pe S) (hw : z_in w 4 = false) : CT l D cI cW yX6_person cX6_person 3 (some .int) ⟨1, 0, 0, 22⟩ [.ref (xx 0), .int (nI p), .int w] ([xl xx xn xt xk xe xo xv xc xr cI Z, wl xn cI S]) (PI (-2) ([xl xx xn xt xk xe xo xv xc xr cI (x_rf Z 2), wl xn cI S])) := by
  refine CT.of RX6 rfl (by decide +kernel) (Nat.le_of_ble_eq_true rfl) [(0, .ref (xx 0)), (1, .int (nI p)), (2, .int w)] rfl (fun x X Rr hnm => ?_)
  have hth := hS.th
  have hpe := hS.pe
  refine G.al X dX6_person_0 0 rfl ?_
  refine G.get X fX6_10 dX6_person_1 0 0 rfl rfl rfl ?_
  refine G.il X dX6_person_4 1 rfl ?_
  refine G.cvi X kX5_isPerson lX6_92 dX6_person_5 (tX5_isPerson l D cI cW xn S (nI p) (by omega)) ⟨Nat.le_of_ble_eq_true rfl, Nat.le_of_ble_eq_true rfl⟩ ⟨Nat.zero_le _, Nat.zero_le _⟩ [1] rfl ⟨rfl, rfl⟩ rfl rfl 1 0 rfl rfl rfl rfl (Nat.le_of_ble_eq_true rfl) (ff_cons (wl_fst _ _ _ _) (ff_nil)) (ws' := [xl xx xn xt xk xe xo xv xc xr cI Z, wl xn cI S]) rfl ?_
  refine G.b_ne X dX6_person_8 (fun b8 => ?_) (fun b8 => absurd (Eq.trans (Eq.symm (z_in_nI hp (by omega))) b8) (by decide))
  refine G.il X dX6_person_17 2 rfl ?_
  refine G.tsd X dX6_person_18 [0, 1, 2, 3] (List.forall_mem_cons.mpr ⟨(z_ne (v := 0) hw (by decide) (by decide)), List.forall_mem_cons.mpr ⟨(z_ne (v := 1) hw (by decide) (by decide)), List.forall_mem_cons.mpr ⟨(z_ne (v := 2) hw (by decide) (by decide)), List.forall_mem_cons.mpr ⟨(z_ne (v := 3) hw (by decide) (by decide)), fun _ h9 => absurd h9 List.not_mem_nil⟩⟩⟩⟩) 87 (by decide) ?_
  refine G.al X dX6_person_87 0 rfl ?_
  refine G.pu X dX6_person_88 ?_
  refine G.cvi X kX6_refuse lX6_65 dX6_person_90 (tX6_refuse l D cI cW xx xn xt xk xe xo xv xc xr Z 2 (by omega) (by omega)) ⟨Nat.le_of_ble_eq_true rfl, Nat.le_of_ble_eq_true rfl⟩ ⟨Nat.zero_le _, Nat.zero_le _⟩ [0] rfl ⟨rfl, rfl⟩ rfl rfl 0 0 rfl rfl rfl rfl (Nat.le_of_ble_eq_true rfl) (ff_cons (xl_fst _ _ _ _ _ _ _ _ _ _ _ _) (ff_nil)) (ws' := [xl xx xn xt xk xe xo xv xc xr cI (x_rf Z 2), wl xn cI S]) rfl ?_
  exact G.iret X Rr (v := (-(nI 2))) dX6_person_93 (pi_mk (by rfl) (by rfl))

set_option maxRecDepth 20000 in
theorem tX6_thing_bad (l : Launch) (D : va_G) (cI cW : ClassId) (xx : Nat → Nat) (xn : Nat → Nat) (xt : Nat → Nat) (xk : Nat → Nat) (xe : Nat → Nat) (xo : Nat → Nat) (xv : Nat → Nat) (xc : Nat → Nat) (xr : Nat → Nat) (Z : Bool × FN) (S : WS) (p : Int32) (w : Int32) (hS : Ok S) (hp : z_in p (s_th S) = false) : CT l D cI cW yX6_thing cX6_thing 3 (some .int) ⟨1, 0, 0, 22⟩ [.ref (xx 0), .int p, .int w] ([xl xx xn xt xk xe xo xv xc xr cI Z, wl xn cI S]) (PI (-1) ([xl xx xn xt xk xe xo xv xc xr cI (x_rf Z 1), wl xn cI S])) := by
  refine CT.of RX6 rfl (by decide +kernel) (Nat.le_of_ble_eq_true rfl) [(0, .ref (xx 0)), (1, .int p), (2, .int w)] rfl (fun x X Rr hnm => ?_)
  have hth := hS.th
  have hpe := hS.pe
  refine G.al X dX6_thing_0 0 rfl ?_
  refine G.get X fX6_10 dX6_thing_1 0 0 rfl rfl rfl ?_
  refine G.il X dX6_thing_4 1 rfl ?_
  refine G.cvi X kX5_isThing lX6_107 dX6_thing_5 (tX5_isThing l D cI cW xn S p (by omega)) ⟨Nat.le_of_ble_eq_true rfl, Nat.le_of_ble_eq_true rfl⟩ ⟨Nat.zero_le _, Nat.zero_le _⟩ [1] rfl ⟨rfl, rfl⟩ rfl rfl 1 0 rfl rfl rfl rfl (Nat.le_of_ble_eq_true rfl) (ff_cons (wl_fst _ _ _ _) (ff_nil)) (ws' := [xl xx xn xt xk xe xo xv xc xr cI Z, wl xn cI S]) rfl ?_
  refine G.b_ne X dX6_thing_8 (fun b8 => absurd (Eq.trans (Eq.symm hp) b8) (by decide)) (fun b8 => ?_)
  refine G.al X dX6_thing_11 0 rfl ?_
  refine G.pu X dX6_thing_12 ?_
  refine G.cvi X kX6_refuse lX6_65 dX6_thing_13 (tX6_refuse l D cI cW xx xn xt xk xe xo xv xc xr Z 1 (by omega) (by omega)) ⟨Nat.le_of_ble_eq_true rfl, Nat.le_of_ble_eq_true rfl⟩ ⟨Nat.zero_le _, Nat.zero_le _⟩ [0] rfl ⟨rfl, rfl⟩ rfl rfl 0 0 rfl rfl rfl rfl (Nat.le_of_ble_eq_true rfl) (ff_cons (xl_fst _ _ _ _ _ _ _ _ _ _ _ _) (ff_nil)) (ws' := [xl xx xn xt xk xe xo xv xc xr cI (x_rf Z 1), wl xn cI S]) rfl ?_
  exact G.iret X Rr (v := (-(nI 1))) dX6_thing_16 (pi_mk (by rfl) (by rfl))

set_option maxRecDepth 20000 in
theorem tX6_thing_0 (l : Launch) (D : va_G) (cI cW : ClassId) (xx : Nat → Nat) (xn : Nat → Nat) (xt : Nat → Nat) (xk : Nat → Nat) (xe : Nat → Nat) (xo : Nat → Nat) (xv : Nat → Nat) (xc : Nat → Nat) (xr : Nat → Nat) (Z : Bool × FN) (S : WS) (p : Nat) (hS : Ok S) (hp : p < s_th S) : CT l D cI cW yX6_thing cX6_thing 3 (some .int) ⟨1, 0, 0, 21⟩ [.ref (xx 0), .int (nI p), .int 0] ([xl xx xn xt xk xe xo xv xc xr cI Z, wl xn cI S]) (PI (s_ki S p) ([xl xx xn xt xk xe xo xv xc xr cI Z, wl xn cI S])) := by
  refine CT.of RX6 rfl (by decide +kernel) (Nat.le_of_ble_eq_true rfl) [(0, .ref (xx 0)), (1, .int (nI p)), (2, .int 0)] rfl (fun x X Rr hnm => ?_)
  have hth := hS.th
  have hpe := hS.pe
  refine G.al X dX6_thing_0 0 rfl ?_
  refine G.get X fX6_10 dX6_thing_1 0 0 rfl rfl rfl ?_
  refine G.il X dX6_thing_4 1 rfl ?_
  refine G.cvi X kX5_isThing lX6_107 dX6_thing_5 (tX5_isThing l D cI cW xn S (nI p) (by omega)) ⟨Nat.le_of_ble_eq_true rfl, Nat.le_of_ble_eq_true rfl⟩ ⟨Nat.zero_le _, Nat.zero_le _⟩ [1] rfl ⟨rfl, rfl⟩ rfl rfl 1 0 rfl rfl rfl rfl (Nat.le_of_ble_eq_true rfl) (ff_cons (wl_fst _ _ _ _) (ff_nil)) (ws' := [xl xx xn xt xk xe xo xv xc xr cI Z, wl xn cI S]) rfl ?_
  refine G.b_ne X dX6_thing_8 (fun b8 => ?_) (fun b8 => absurd (Eq.trans (Eq.symm (z_in_nI hp (by omega))) b8) (by decide))
  refine G.il X dX6_thing_17 2 rfl ?_
  refine G.tsi X dX6_thing_18 0 rfl (42) 60 (by decide) ?_
  refine G.al X dX6_thing_60 0 rfl ?_
  refine G.get X fX6_10 dX6_thing_61 0 0 rfl rfl rfl ?_
  refine G.get X fX6_110 dX6_thing_64 1 0 rfl rfl rfl ?_
  refine G.il X dX6_thing_67 1 rfl ?_
  refine G.nld X (i := p) dX6_thing_68 1 4 rfl rfl (by omega) (by decide) ?_
  exact G.iret X Rr (v := ((s_ki S) p)) dX6_thing_69 (pi_mk (by rfl) (by rfl))

set_option maxRecDepth 20000 in
theorem tX6_thing_1 (l : Launch) (D : va_G) (cI cW : ClassId) (xx : Nat → Nat) (xn : Nat → Nat) (xt : Nat → Nat) (xk : Nat → Nat) (xe : Nat → Nat) (xo : Nat → Nat) (xv : Nat → Nat) (xc : Nat → Nat) (xr : Nat → Nat) (Z : Bool × FN) (S : WS) (p : Nat) (hS : Ok S) (hp : p < s_th S) : CT l D cI cW yX6_thing cX6_thing 3 (some .int) ⟨1, 0, 0, 21⟩ [.ref (xx 0), .int (nI p), .int 1] ([xl xx xn xt xk xe xo xv xc xr cI Z, wl xn cI S]) (PI (s_we S p) ([xl xx xn xt xk xe xo xv xc xr cI Z, wl xn cI S])) := by
  refine CT.of RX6 rfl (by decide +kernel) (Nat.le_of_ble_eq_true rfl) [(0, .ref (xx 0)), (1, .int (nI p)), (2, .int 1)] rfl (fun x X Rr hnm => ?_)
  have hth := hS.th
  have hpe := hS.pe
  refine G.al X dX6_thing_0 0 rfl ?_
  refine G.get X fX6_10 dX6_thing_1 0 0 rfl rfl rfl ?_
  refine G.il X dX6_thing_4 1 rfl ?_
  refine G.cvi X kX5_isThing lX6_107 dX6_thing_5 (tX5_isThing l D cI cW xn S (nI p) (by omega)) ⟨Nat.le_of_ble_eq_true rfl, Nat.le_of_ble_eq_true rfl⟩ ⟨Nat.zero_le _, Nat.zero_le _⟩ [1] rfl ⟨rfl, rfl⟩ rfl rfl 1 0 rfl rfl rfl rfl (Nat.le_of_ble_eq_true rfl) (ff_cons (wl_fst _ _ _ _) (ff_nil)) (ws' := [xl xx xn xt xk xe xo xv xc xr cI Z, wl xn cI S]) rfl ?_
  refine G.b_ne X dX6_thing_8 (fun b8 => ?_) (fun b8 => absurd (Eq.trans (Eq.symm (z_in_nI hp (by omega))) b8) (by decide))
  refine G.il X dX6_thing_17 2 rfl ?_
  refine G.tsi X dX6_thing_18 1 rfl (52) 70 (by decide) ?_
  refine G.al X dX6_thing_70 0 rfl ?_
  refine G.get X fX6_10 dX6_thing_71 0 0 rfl rfl rfl ?_
  refine G.get X fX6_113 dX6_thing_74 1 0 rfl rfl rfl ?_
  refine G.il X dX6_thing_77 1 rfl ?_
  refine G.nld X (i := p) dX6_thing_78 1 5 rfl rfl (by omega) (by decide) ?_
  exact G.iret X Rr (v := ((s_we S) p)) dX6_thing_79 (pi_mk (by rfl) (by rfl))

set_option maxRecDepth 20000 in
theorem tX6_thing_2 (l : Launch) (D : va_G) (cI cW : ClassId) (xx : Nat → Nat) (xn : Nat → Nat) (xt : Nat → Nat) (xk : Nat → Nat) (xe : Nat → Nat) (xo : Nat → Nat) (xv : Nat → Nat) (xc : Nat → Nat) (xr : Nat → Nat) (Z : Bool × FN) (S : WS) (p : Nat) (hS : Ok S) (hp : p < s_th S) : CT l D cI cW yX6_thing cX6_thing 3 (some .int) ⟨1, 0, 0, 21⟩ [.ref (xx 0), .int (nI p), .int 2] ([xl xx xn xt xk xe xo xv xc xr cI Z, wl xn cI S]) (PI (s_dp S p) ([xl xx xn xt xk xe xo xv xc xr cI Z, wl xn cI S])) := by
  refine CT.of RX6 rfl (by decide +kernel) (Nat.le_of_ble_eq_true rfl) [(0, .ref (xx 0)), (1, .int (nI p)), (2, .int 2)] rfl (fun x X Rr hnm => ?_)
  have hth := hS.th
  have hpe := hS.pe
  refine G.al X dX6_thing_0 0 rfl ?_
  refine G.get X fX6_10 dX6_thing_1 0 0 rfl rfl rfl ?_
  refine G.il X dX6_thing_4 1 rfl ?_
  refine G.cvi X kX5_isThing lX6_107 dX6_thing_5 (tX5_isThing l D cI cW xn S (nI p) (by omega)) ⟨Nat.le_of_ble_eq_true rfl, Nat.le_of_ble_eq_true rfl⟩ ⟨Nat.zero_le _, Nat.zero_le _⟩ [1] rfl ⟨rfl, rfl⟩ rfl rfl 1 0 rfl rfl rfl rfl (Nat.le_of_ble_eq_true rfl) (ff_cons (wl_fst _ _ _ _) (ff_nil)) (ws' := [xl xx xn xt xk xe xo xv xc xr cI Z, wl xn cI S]) rfl ?_
  refine G.b_ne X dX6_thing_8 (fun b8 => ?_) (fun b8 => absurd (Eq.trans (Eq.symm (z_in_nI hp (by omega))) b8) (by decide))
  refine G.il X dX6_thing_17 2 rfl ?_
  refine G.tsi X dX6_thing_18 2 rfl (62) 80 (by decide) ?_
  refine G.al X dX6_thing_80 0 rfl ?_
  refine G.get X fX6_10 dX6_thing_81 0 0 rfl rfl rfl ?_
  refine G.get X fX6_116 dX6_thing_84 1 0 rfl rfl rfl ?_
  refine G.il X dX6_thing_87 1 rfl ?_
  refine G.nld X (i := p) dX6_thing_88 1 6 rfl rfl (by omega) (by decide) ?_
  exact G.iret X Rr (v := ((s_dp S) p)) dX6_thing_89 (pi_mk (by rfl) (by rfl))

set_option maxRecDepth 20000 in
theorem tX6_thing_3 (l : Launch) (D : va_G) (cI cW : ClassId) (xx : Nat → Nat) (xn : Nat → Nat) (xt : Nat → Nat) (xk : Nat → Nat) (xe : Nat → Nat) (xo : Nat → Nat) (xv : Nat → Nat) (xc : Nat → Nat) (xr : Nat → Nat) (Z : Bool × FN) (S : WS) (p : Nat) (hS : Ok S) (hp : p < s_th S) : CT l D cI cW yX6_thing cX6_thing 3 (some .int) ⟨1, 0, 0, 21⟩ [.ref (xx 0), .int (nI p), .int 3] ([xl xx xn xt xk xe xo xv xc xr cI Z, wl xn cI S]) (PI (s_wa S p) ([xl xx xn xt xk xe xo xv xc xr cI Z, wl xn cI S])) := by
  refine CT.of RX6 rfl (by decide +kernel) (Nat.le_of_ble_eq_true rfl) [(0, .ref (xx 0)), (1, .int (nI p)), (2, .int 3)] rfl (fun x X Rr hnm => ?_)
  have hth := hS.th
  have hpe := hS.pe
  refine G.al X dX6_thing_0 0 rfl ?_
  refine G.get X fX6_10 dX6_thing_1 0 0 rfl rfl rfl ?_
  refine G.il X dX6_thing_4 1 rfl ?_
  refine G.cvi X kX5_isThing lX6_107 dX6_thing_5 (tX5_isThing l D cI cW xn S (nI p) (by omega)) ⟨Nat.le_of_ble_eq_true rfl, Nat.le_of_ble_eq_true rfl⟩ ⟨Nat.zero_le _, Nat.zero_le _⟩ [1] rfl ⟨rfl, rfl⟩ rfl rfl 1 0 rfl rfl rfl rfl (Nat.le_of_ble_eq_true rfl) (ff_cons (wl_fst _ _ _ _) (ff_nil)) (ws' := [xl xx xn xt xk xe xo xv xc xr cI Z, wl xn cI S]) rfl ?_
  refine G.b_ne X dX6_thing_8 (fun b8 => ?_) (fun b8 => absurd (Eq.trans (Eq.symm (z_in_nI hp (by omega))) b8) (by decide))
  refine G.il X dX6_thing_17 2 rfl ?_
  refine G.tsi X dX6_thing_18 3 rfl (72) 90 (by decide) ?_
  refine G.al X dX6_thing_90 0 rfl ?_
  refine G.get X fX6_10 dX6_thing_91 0 0 rfl rfl rfl ?_
  refine G.get X fX6_119 dX6_thing_94 1 0 rfl rfl rfl ?_
  refine G.il X dX6_thing_97 1 rfl ?_
  refine G.nld X (i := p) dX6_thing_98 1 7 rfl rfl (by omega) (by decide) ?_
  exact G.iret X Rr (v := ((s_wa S) p)) dX6_thing_99 (pi_mk (by rfl) (by rfl))

set_option maxRecDepth 20000 in
theorem tX6_thing_4 (l : Launch) (D : va_G) (cI cW : ClassId) (xx : Nat → Nat) (xn : Nat → Nat) (xt : Nat → Nat) (xk : Nat → Nat) (xe : Nat → Nat) (xo : Nat → Nat) (xv : Nat → Nat) (xc : Nat → Nat) (xr : Nat → Nat) (Z : Bool × FN) (S : WS) (p : Nat) (hS : Ok S) (hp : p < s_th S) : CT l D cI cW yX6_thing cX6_thing 3 (some .int) ⟨1, 0, 0, 21⟩ [.ref (xx 0), .int (nI p), .int 4] ([xl xx xn xt xk xe xo xv xc xr cI Z, wl xn cI S]) (PI (s_le S p) ([xl xx xn xt xk xe xo xv xc xr cI Z, wl xn cI S])) := by
  refine CT.of RX6 rfl (by decide +kernel) (Nat.le_of_ble_eq_true rfl) [(0, .ref (xx 0)), (1, .int (nI p)), (2, .int 4)] rfl (fun x X Rr hnm => ?_)
  have hth := hS.th
  have hpe := hS.pe
  refine G.al X dX6_thing_0 0 rfl ?_
  refine G.get X fX6_10 dX6_thing_1 0 0 rfl rfl rfl ?_
  refine G.il X dX6_thing_4 1 rfl ?_
  refine G.cvi X kX5_isThing lX6_107 dX6_thing_5 (tX5_isThing l D cI cW xn S (nI p) (by omega)) ⟨Nat.le_of_ble_eq_true rfl, Nat.le_of_ble_eq_true rfl⟩ ⟨Nat.zero_le _, Nat.zero_le _⟩ [1] rfl ⟨rfl, rfl⟩ rfl rfl 1 0 rfl rfl rfl rfl (Nat.le_of_ble_eq_true rfl) (ff_cons (wl_fst _ _ _ _) (ff_nil)) (ws' := [xl xx xn xt xk xe xo xv xc xr cI Z, wl xn cI S]) rfl ?_
  refine G.b_ne X dX6_thing_8 (fun b8 => ?_) (fun b8 => absurd (Eq.trans (Eq.symm (z_in_nI hp (by omega))) b8) (by decide))
  refine G.il X dX6_thing_17 2 rfl ?_
  refine G.tsi X dX6_thing_18 4 rfl (82) 100 (by decide) ?_
  refine G.al X dX6_thing_100 0 rfl ?_
  refine G.get X fX6_10 dX6_thing_101 0 0 rfl rfl rfl ?_
  refine G.get X fX6_122 dX6_thing_104 1 0 rfl rfl rfl ?_
  refine G.il X dX6_thing_107 1 rfl ?_
  refine G.nld X (i := p) dX6_thing_108 1 8 rfl rfl (by omega) (by decide) ?_
  exact G.iret X Rr (v := ((s_le S) p)) dX6_thing_109 (pi_mk (by rfl) (by rfl))

set_option maxRecDepth 20000 in
theorem tX6_thing_5 (l : Launch) (D : va_G) (cI cW : ClassId) (xx : Nat → Nat) (xn : Nat → Nat) (xt : Nat → Nat) (xk : Nat → Nat) (xe : Nat → Nat) (xo : Nat → Nat) (xv : Nat → Nat) (xc : Nat → Nat) (xr : Nat → Nat) (Z : Bool × FN) (S : WS) (p : Nat) (hS : Ok S) (hp : p < s_th S) : CT l D cI cW yX6_thing cX6_thing 3 (some .int) ⟨1, 0, 0, 22⟩ [.ref (xx 0), .int (nI p), .int 5] ([xl xx xn xt xk xe xo xv xc xr cI Z, wl xn cI S]) (PI (top S p) ([xl xx xn xt xk xe xo xv xc xr cI Z, wl xn cI S])) := by
  refine CT.of RX6 rfl (by decide +kernel) (Nat.le_of_ble_eq_true rfl) [(0, .ref (xx 0)), (1, .int (nI p)), (2, .int 5)] rfl (fun x X Rr hnm => ?_)
  have hth := hS.th
  have hpe := hS.pe
  refine G.al X dX6_thing_0 0 rfl ?_
  refine G.get X fX6_10 dX6_thing_1 0 0 rfl rfl rfl ?_
  refine G.il X dX6_thing_4 1 rfl ?_
  refine G.cvi X kX5_isThing lX6_107 dX6_thing_5 (tX5_isThing l D cI cW xn S (nI p) (by omega)) ⟨Nat.le_of_ble_eq_true rfl, Nat.le_of_ble_eq_true rfl⟩ ⟨Nat.zero_le _, Nat.zero_le _⟩ [1] rfl ⟨rfl, rfl⟩ rfl rfl 1 0 rfl rfl rfl rfl (Nat.le_of_ble_eq_true rfl) (ff_cons (wl_fst _ _ _ _) (ff_nil)) (ws' := [xl xx xn xt xk xe xo xv xc xr cI Z, wl xn cI S]) rfl ?_
  refine G.b_ne X dX6_thing_8 (fun b8 => ?_) (fun b8 => absurd (Eq.trans (Eq.symm (z_in_nI hp (by omega))) b8) (by decide))
  refine G.il X dX6_thing_17 2 rfl ?_
  refine G.tsi X dX6_thing_18 5 rfl (92) 110 (by decide) ?_
  refine G.al X dX6_thing_110 0 rfl ?_
  refine G.get X fX6_10 dX6_thing_111 0 0 rfl rfl rfl ?_
  refine G.il X dX6_thing_114 1 rfl ?_
  refine G.cvi X kX5_topicOf lX6_125 dX6_thing_115 (tX5_topicOf l D cI cW xn S p (by omega)) ⟨Nat.le_of_ble_eq_true rfl, Nat.le_of_ble_eq_true rfl⟩ ⟨Nat.zero_le _, Nat.zero_le _⟩ [1] rfl ⟨rfl, rfl⟩ rfl rfl 1 0 rfl rfl rfl rfl (Nat.le_of_ble_eq_true rfl) (ff_cons (wl_fst _ _ _ _) (ff_nil)) (ws' := [xl xx xn xt xk xe xo xv xc xr cI Z, wl xn cI S]) rfl ?_
  exact G.iret X Rr (v := (top S p)) dX6_thing_118 (pi_mk (by rfl) (by rfl))

set_option maxRecDepth 20000 in
theorem tX6_thing_6 (l : Launch) (D : va_G) (cI cW : ClassId) (xx : Nat → Nat) (xn : Nat → Nat) (xt : Nat → Nat) (xk : Nat → Nat) (xe : Nat → Nat) (xo : Nat → Nat) (xv : Nat → Nat) (xc : Nat → Nat) (xr : Nat → Nat) (Z : Bool × FN) (S : WS) (p : Nat) (hS : Ok S) (hp : p < s_th S) : CT l D cI cW yX6_thing cX6_thing 3 (some .int) ⟨1, 0, 0, 21⟩ [.ref (xx 0), .int (nI p), .int 6] ([xl xx xn xt xk xe xo xv xc xr cI Z, wl xn cI S]) (PI (b2i (ask S p)) ([xl xx xn xt xk xe xo xv xc xr cI Z, wl xn cI S])) := by
  refine CT.of RX6 rfl (by decide +kernel) (Nat.le_of_ble_eq_true rfl) [(0, .ref (xx 0)), (1, .int (nI p)), (2, .int 6)] rfl (fun x X Rr hnm => ?_)
  have hth := hS.th
  have hpe := hS.pe
  refine G.al X dX6_thing_0 0 rfl ?_
  refine G.get X fX6_10 dX6_thing_1 0 0 rfl rfl rfl ?_
  refine G.il X dX6_thing_4 1 rfl ?_
  refine G.cvi X kX5_isThing lX6_107 dX6_thing_5 (tX5_isThing l D cI cW xn S (nI p) (by omega)) ⟨Nat.le_of_ble_eq_true rfl, Nat.le_of_ble_eq_true rfl⟩ ⟨Nat.zero_le _, Nat.zero_le _⟩ [1] rfl ⟨rfl, rfl⟩ rfl rfl 1 0 rfl rfl rfl rfl (Nat.le_of_ble_eq_true rfl) (ff_cons (wl_fst _ _ _ _) (ff_nil)) (ws' := [xl xx xn xt xk xe xo xv xc xr cI Z, wl xn cI S]) rfl ?_
  refine G.b_ne X dX6_thing_8 (fun b8 => ?_) (fun b8 => absurd (Eq.trans (Eq.symm (z_in_nI hp (by omega))) b8) (by decide))
  refine G.il X dX6_thing_17 2 rfl ?_
  refine G.tsi X dX6_thing_18 6 rfl (101) 119 (by decide) ?_
  refine G.al X dX6_thing_119 0 rfl ?_
  refine G.get X fX6_10 dX6_thing_120 0 0 rfl rfl rfl ?_
  refine G.il X dX6_thing_123 1 rfl ?_
  refine G.cvi X kX5_asks lX6_128 dX6_thing_124 (tX5_asks l D cI cW xn S p (by omega)) ⟨Nat.le_of_ble_eq_true rfl, Nat.le_of_ble_eq_true rfl⟩ ⟨Nat.zero_le _, Nat.zero_le _⟩ [1] rfl ⟨rfl, rfl⟩ rfl rfl 1 0 rfl rfl rfl rfl (Nat.le_of_ble_eq_true rfl) (ff_cons (wl_fst _ _ _ _) (ff_nil)) (ws' := [xl xx xn xt xk xe xo xv xc xr cI Z, wl xn cI S]) rfl ?_
  refine G.b_eq X dX6_thing_127 (fun b127 => ?_) (fun b127 => ?_)
  · refine G.pu X dX6_thing_134 ?_
    exact G.iret X Rr (v := 0) dX6_thing_135 (pi_mk (by simp [b2i, b8, b127]) (by rfl))
  · refine G.pu X dX6_thing_130 ?_
    refine G.go X dX6_thing_131 ?_
    exact G.iret X Rr (v := 1) dX6_thing_135 (pi_mk (by simp [b2i, b8, b127]) (by rfl))

set_option maxRecDepth 20000 in
theorem tX6_thing_oth (l : Launch) (D : va_G) (cI cW : ClassId) (xx : Nat → Nat) (xn : Nat → Nat) (xt : Nat → Nat) (xk : Nat → Nat) (xe : Nat → Nat) (xo : Nat → Nat) (xv : Nat → Nat) (xc : Nat → Nat) (xr : Nat → Nat) (Z : Bool × FN) (S : WS) (p : Nat) (w : Int32) (hS : Ok S) (hp : p < s_th S) (hw : z_in w 7 = false) : CT l D cI cW yX6_thing cX6_thing 3 (some .int) ⟨1, 0, 0, 22⟩ [.ref (xx 0), .int (nI p), .int w] ([xl xx xn xt xk xe xo xv xc xr cI Z, wl xn cI S]) (PI (-2) ([xl xx xn xt xk xe xo xv xc xr cI (x_rf Z 2), wl xn cI S])) := by
  refine CT.of RX6 rfl (by decide +kernel) (Nat.le_of_ble_eq_true rfl) [(0, .ref (xx 0)), (1, .int (nI p)), (2, .int w)] rfl (fun x X Rr hnm => ?_)
  have hth := hS.th
  have hpe := hS.pe
  refine G.al X dX6_thing_0 0 rfl ?_
  refine G.get X fX6_10 dX6_thing_1 0 0 rfl rfl rfl ?_
  refine G.il X dX6_thing_4 1 rfl ?_
  refine G.cvi X kX5_isThing lX6_107 dX6_thing_5 (tX5_isThing l D cI cW xn S (nI p) (by omega)) ⟨Nat.le_of_ble_eq_true rfl, Nat.le_of_ble_eq_true rfl⟩ ⟨Nat.zero_le _, Nat.zero_le _⟩ [1] rfl ⟨rfl, rfl⟩ rfl rfl 1 0 rfl rfl rfl rfl (Nat.le_of_ble_eq_true rfl) (ff_cons (wl_fst _ _ _ _) (ff_nil)) (ws' := [xl xx xn xt xk xe xo xv xc xr cI Z, wl xn cI S]) rfl ?_
  refine G.b_ne X dX6_thing_8 (fun b8 => ?_) (fun b8 => absurd (Eq.trans (Eq.symm (z_in_nI hp (by omega))) b8) (by decide))
  refine G.il X dX6_thing_17 2 rfl ?_
  refine G.tsd X dX6_thing_18 [0, 1, 2, 3, 4, 5, 6] (List.forall_mem_cons.mpr ⟨(z_ne (v := 0) hw (by decide) (by decide)), List.forall_mem_cons.mpr ⟨(z_ne (v := 1) hw (by decide) (by decide)), List.forall_mem_cons.mpr ⟨(z_ne (v := 2) hw (by decide) (by decide)), List.forall_mem_cons.mpr ⟨(z_ne (v := 3) hw (by decide) (by decide)), List.forall_mem_cons.mpr ⟨(z_ne (v := 4) hw (by decide) (by decide)), List.forall_mem_cons.mpr ⟨(z_ne (v := 5) hw (by decide) (by decide)), List.forall_mem_cons.mpr ⟨(z_ne (v := 6) hw (by decide) (by decide)), fun _ h9 => absurd h9 List.not_mem_nil⟩⟩⟩⟩⟩⟩⟩) 136 (by decide) ?_
  refine G.al X dX6_thing_136 0 rfl ?_
  refine G.pu X dX6_thing_137 ?_
  refine G.cvi X kX6_refuse lX6_65 dX6_thing_139 (tX6_refuse l D cI cW xx xn xt xk xe xo xv xc xr Z 2 (by omega) (by omega)) ⟨Nat.le_of_ble_eq_true rfl, Nat.le_of_ble_eq_true rfl⟩ ⟨Nat.zero_le _, Nat.zero_le _⟩ [0] rfl ⟨rfl, rfl⟩ rfl rfl 0 0 rfl rfl rfl rfl (Nat.le_of_ble_eq_true rfl) (ff_cons (xl_fst _ _ _ _ _ _ _ _ _ _ _ _) (ff_nil)) (ws' := [xl xx xn xt xk xe xo xv xc xr cI (x_rf Z 2), wl xn cI S]) rfl ?_
  exact G.iret X Rr (v := (-(nI 2))) dX6_thing_142 (pi_mk (by rfl) (by rfl))

set_option maxRecDepth 20000 in
theorem tX6_drops_bad (l : Launch) (D : va_G) (cI cW : ClassId) (xx : Nat → Nat) (xn : Nat → Nat) (xt : Nat → Nat) (xk : Nat → Nat) (xe : Nat → Nat) (xo : Nat → Nat) (xv : Nat → Nat) (xc : Nat → Nat) (xr : Nat → Nat) (Z : Bool × FN) (S : WS) (p : Int32) (hS : Ok S) (hp : z_in p (s_th S) = false) : CT l D cI cW yX6_drops cX6_drops 2 (some .int) ⟨2, 0, 0, 42⟩ [.ref (xx 0), .int p] ([xl xx xn xt xk xe xo xv xc xr cI Z, wl xn cI S]) (PI (-1) ([xl xx xn xt xk xe xo xv xc xr cI (x_rf Z 1), wl xn cI S])) := by
  refine CT.of RX6 rfl (by decide +kernel) (Nat.le_of_ble_eq_true rfl) [(0, .ref (xx 0)), (1, .int p)] rfl (fun x X Rr hnm => ?_)
  have hth := hS.th
  have hpe := hS.pe
  refine G.al X dX6_drops_0 0 rfl ?_
  refine G.get X fX6_10 dX6_drops_1 0 0 rfl rfl rfl ?_
  refine G.il X dX6_drops_4 1 rfl ?_
  refine G.cvi X kX5_fall lX6_131 dX6_drops_5 (tX5_fall_bad l D cI cW xn S p (by omega) hp) ⟨Nat.le_of_ble_eq_true rfl, Nat.le_of_ble_eq_true rfl⟩ ⟨Nat.zero_le _, Nat.zero_le _⟩ [1] rfl ⟨rfl, rfl⟩ rfl rfl 1 0 rfl rfl rfl rfl (Nat.le_of_ble_eq_true rfl) (ff_cons (wl_fst _ _ _ _) (ff_nil)) (ws' := [xl xx xn xt xk xe xo xv xc xr cI Z, wl xn cI S]) rfl ?_
  refine G.b_ne X dX6_drops_8 (fun b8 => absurd b8 (by decide)) (fun b8 => ?_)
  refine G.al X dX6_drops_11 0 rfl ?_
  refine G.pu X dX6_drops_12 ?_
  refine G.cvi X kX6_refuse lX6_65 dX6_drops_13 (tX6_refuse l D cI cW xx xn xt xk xe xo xv xc xr Z 1 (by omega) (by omega)) ⟨Nat.le_of_ble_eq_true rfl, Nat.le_of_ble_eq_true rfl⟩ ⟨Nat.zero_le _, Nat.zero_le _⟩ [0] rfl ⟨rfl, rfl⟩ rfl rfl 0 0 rfl rfl rfl rfl (Nat.le_of_ble_eq_true rfl) (ff_cons (xl_fst _ _ _ _ _ _ _ _ _ _ _ _) (ff_nil)) (ws' := [xl xx xn xt xk xe xo xv xc xr cI (x_rf Z 1), wl xn cI S]) rfl ?_
  exact G.iret X Rr (v := (-(nI 1))) dX6_drops_16 (pi_mk (by rfl) (by rfl))

set_option maxRecDepth 20000 in
theorem tX6_drops_ok (l : Launch) (D : va_G) (cI cW : ClassId) (xx : Nat → Nat) (xn : Nat → Nat) (xt : Nat → Nat) (xk : Nat → Nat) (xe : Nat → Nat) (xo : Nat → Nat) (xv : Nat → Nat) (xc : Nat → Nat) (xr : Nat → Nat) (Z : Bool × FN) (S : WS) (p : Nat) (hS : Ok S) (hp : p < s_th S) : CT l D cI cW yX6_drops cX6_drops 2 (some .int) ⟨2, 0, 0, 44⟩ [.ref (xx 0), .int (nI p)] ([xl xx xn xt xk xe xo xv xc xr cI Z, wl xn cI S]) (PI (s_wa (w_fall S p) p) ([xl xx xn xt xk xe xo xv xc xr cI Z, wl xn cI (w_fall S p)])) := by
  refine CT.of RX6 rfl (by decide +kernel) (Nat.le_of_ble_eq_true rfl) [(0, .ref (xx 0)), (1, .int (nI p))] rfl (fun x X Rr hnm => ?_)
  have hth := hS.th
  have hpe := hS.pe
  refine G.al X dX6_drops_0 0 rfl ?_
  refine G.get X fX6_10 dX6_drops_1 0 0 rfl rfl rfl ?_
  refine G.il X dX6_drops_4 1 rfl ?_
  refine G.cvi X kX5_fall lX6_131 dX6_drops_5 (tX5_fall l D cI cW xn S p (by omega) (by omega)) ⟨Nat.le_of_ble_eq_true rfl, Nat.le_of_ble_eq_true rfl⟩ ⟨Nat.zero_le _, Nat.zero_le _⟩ [1] rfl ⟨rfl, rfl⟩ rfl rfl 1 0 rfl rfl rfl rfl (Nat.le_of_ble_eq_true rfl) (ff_cons (wl_fst _ _ _ _) (ff_nil)) (ws' := [xl xx xn xt xk xe xo xv xc xr cI Z, wl xn cI (w_fall S p)]) rfl ?_
  refine G.b_ne X dX6_drops_8 (fun b8 => ?_) (fun b8 => absurd b8 (by decide))
  refine G.al X dX6_drops_17 0 rfl ?_
  refine G.get X fX6_10 dX6_drops_18 0 0 rfl rfl rfl ?_
  refine G.get X fX6_119 dX6_drops_21 1 0 rfl rfl rfl ?_
  refine G.il X dX6_drops_24 1 rfl ?_
  refine G.nld X (i := p) dX6_drops_25 1 7 rfl rfl (by omega) (by decide) ?_
  exact G.iret X Rr (v := ((s_wa (w_fall S p)) p)) dX6_drops_26 (pi_mk (by rfl) (by rfl))

set_option maxRecDepth 20000 in
theorem tX6_learns_bad (l : Launch) (D : va_G) (cI cW : ClassId) (xx : Nat → Nat) (xn : Nat → Nat) (xt : Nat → Nat) (xk : Nat → Nat) (xe : Nat → Nat) (xo : Nat → Nat) (xv : Nat → Nat) (xc : Nat → Nat) (xr : Nat → Nat) (Z : Bool × FN) (S : WS) (p : Int32) (t : Int32) (hS : Ok S) (hp : z_in p (s_pe S) = false ∨ z_in t 8 = false) : CT l D cI cW yX6_learns cX6_learns 3 (some .int) ⟨2, 0, 0, 43⟩ [.ref (xx 0), .int p, .int t] ([xl xx xn xt xk xe xo xv xc xr cI Z, wl xn cI S]) (PI (-1) ([xl xx xn xt xk xe xo xv xc xr cI (x_rf Z 1), wl xn cI S])) := by
  refine CT.of RX6 rfl (by decide +kernel) (Nat.le_of_ble_eq_true rfl) [(0, .ref (xx 0)), (1, .int p), (2, .int t)] rfl (fun x X Rr hnm => ?_)
  have hth := hS.th
  have hpe := hS.pe
  refine G.al X dX6_learns_0 0 rfl ?_
  refine G.get X fX6_10 dX6_learns_1 0 0 rfl rfl rfl ?_
  refine G.il X dX6_learns_4 1 rfl ?_
  refine G.il X dX6_learns_5 2 rfl ?_
  refine G.cvi X kX5_learnOrForget lX6_134 dX6_learns_6 (tX5_learnOrForget_bad l D cI cW xn S p t (by omega) hp) ⟨Nat.le_of_ble_eq_true rfl, Nat.le_of_ble_eq_true rfl⟩ ⟨Nat.zero_le _, Nat.zero_le _⟩ [1] rfl ⟨rfl, rfl⟩ rfl rfl 1 0 rfl rfl rfl rfl (Nat.le_of_ble_eq_true rfl) (ff_cons (wl_fst _ _ _ _) (ff_nil)) (ws' := [xl xx xn xt xk xe xo xv xc xr cI Z, wl xn cI S]) rfl ?_
  refine G.b_ne X dX6_learns_9 (fun b9 => absurd b9 (by decide)) (fun b9 => ?_)
  refine G.al X dX6_learns_12 0 rfl ?_
  refine G.pu X dX6_learns_13 ?_
  refine G.cvi X kX6_refuse lX6_65 dX6_learns_14 (tX6_refuse l D cI cW xx xn xt xk xe xo xv xc xr Z 1 (by omega) (by omega)) ⟨Nat.le_of_ble_eq_true rfl, Nat.le_of_ble_eq_true rfl⟩ ⟨Nat.zero_le _, Nat.zero_le _⟩ [0] rfl ⟨rfl, rfl⟩ rfl rfl 0 0 rfl rfl rfl rfl (Nat.le_of_ble_eq_true rfl) (ff_cons (xl_fst _ _ _ _ _ _ _ _ _ _ _ _) (ff_nil)) (ws' := [xl xx xn xt xk xe xo xv xc xr cI (x_rf Z 1), wl xn cI S]) rfl ?_
  exact G.iret X Rr (v := (-(nI 1))) dX6_learns_17 (pi_mk (by rfl) (by rfl))

set_option maxRecDepth 20000 in
theorem tX6_learns_ok (l : Launch) (D : va_G) (cI cW : ClassId) (xx : Nat → Nat) (xn : Nat → Nat) (xt : Nat → Nat) (xk : Nat → Nat) (xe : Nat → Nat) (xo : Nat → Nat) (xv : Nat → Nat) (xc : Nat → Nat) (xr : Nat → Nat) (Z : Bool × FN) (S : WS) (p : Nat) (t : Nat) (hS : Ok S) (hp : p < s_pe S) (ht : t < 8) : CT l D cI cW yX6_learns cX6_learns 3 (some .int) ⟨2, 0, 0, 43⟩ [.ref (xx 0), .int (nI p), .int (nI t)] ([xl xx xn xt xk xe xo xv xc xr cI Z, wl xn cI S]) (PI ((s_kn (w_lrn S p (nI t)) p >>> (nI t &&& 31)) &&& 1) ([xl xx xn xt xk xe xo xv xc xr cI Z, wl xn cI (w_lrn S p (nI t))])) := by
  refine CT.of RX6 rfl (by decide +kernel) (Nat.le_of_ble_eq_true rfl) [(0, .ref (xx 0)), (1, .int (nI p)), (2, .int (nI t))] rfl (fun x X Rr hnm => ?_)
  have hth := hS.th
  have hpe := hS.pe
  refine G.al X dX6_learns_0 0 rfl ?_
  refine G.get X fX6_10 dX6_learns_1 0 0 rfl rfl rfl ?_
  refine G.il X dX6_learns_4 1 rfl ?_
  refine G.il X dX6_learns_5 2 rfl ?_
  refine G.cvi X kX5_learnOrForget lX6_134 dX6_learns_6 (tX5_learnOrForget l D cI cW xn S p t (by omega) (by omega) (by omega)) ⟨Nat.le_of_ble_eq_true rfl, Nat.le_of_ble_eq_true rfl⟩ ⟨Nat.zero_le _, Nat.zero_le _⟩ [1] rfl ⟨rfl, rfl⟩ rfl rfl 1 0 rfl rfl rfl rfl (Nat.le_of_ble_eq_true rfl) (ff_cons (wl_fst _ _ _ _) (ff_nil)) (ws' := [xl xx xn xt xk xe xo xv xc xr cI Z, wl xn cI (w_lrn S p (nI t))]) rfl ?_
  refine G.b_ne X dX6_learns_9 (fun b9 => ?_) (fun b9 => absurd b9 (by decide))
  refine G.al X dX6_learns_18 0 rfl ?_
  refine G.get X fX6_10 dX6_learns_19 0 0 rfl rfl rfl ?_
  refine G.get X fX6_95 dX6_learns_22 1 0 rfl rfl rfl ?_
  refine G.il X dX6_learns_25 1 rfl ?_
  refine G.nld X (i := p) dX6_learns_26 1 1 rfl rfl (by omega) (by decide) ?_
  refine G.il X dX6_learns_27 2 rfl ?_
  refine G.ishr X dX6_learns_28 ?_
  refine G.pu X dX6_learns_29 ?_
  refine G.iand X dX6_learns_30 ?_
  exact G.iret X Rr (v := ((((s_kn (w_lrn S p (nI t))) p) >>> ((nI t) &&& 31)) &&& 1)) dX6_learns_31 (pi_mk (by rfl) (by rfl))

set_option maxRecDepth 20000 in
theorem tX6_shy_bad (l : Launch) (D : va_G) (cI cW : ClassId) (xx : Nat → Nat) (xn : Nat → Nat) (xt : Nat → Nat) (xk : Nat → Nat) (xe : Nat → Nat) (xo : Nat → Nat) (xv : Nat → Nat) (xc : Nat → Nat) (xr : Nat → Nat) (Z : Bool × FN) (S : WS) (p : Int32) (v : Int32) (hS : Ok S) (hp : z_in p (s_pe S) = false) : CT l D cI cW yX6_shy cX6_shy 5 (some .int) ⟨1, 0, 0, 22⟩ [.ref (xx 0), .int p, .int v] ([xl xx xn xt xk xe xo xv xc xr cI Z, wl xn cI S]) (PI (-1) ([xl xx xn xt xk xe xo xv xc xr cI (x_rf Z 1), wl xn cI S])) := by
  refine CT.of RX6 rfl (by decide +kernel) (Nat.le_of_ble_eq_true rfl) [(0, .ref (xx 0)), (1, .int p), (2, .int v)] rfl (fun x X Rr hnm => ?_)
  have hth := hS.th
  have hpe := hS.pe
  refine G.al X dX6_shy_0 0 rfl ?_
  refine G.get X fX6_10 dX6_shy_1 0 0 rfl rfl rfl ?_
  refine G.il X dX6_shy_4 1 rfl ?_
  refine G.cvi X kX5_isPerson lX6_92 dX6_shy_5 (tX5_isPerson l D cI cW xn S p (by omega)) ⟨Nat.le_of_ble_eq_true rfl, Nat.le_of_ble_eq_true rfl⟩ ⟨Nat.zero_le _, Nat.zero_le _⟩ [1] rfl ⟨rfl, rfl⟩ rfl rfl 1 0 rfl rfl rfl rfl (Nat.le_of_ble_eq_true rfl) (ff_cons (wl_fst _ _ _ _) (ff_nil)) (ws' := [xl xx xn xt xk xe xo xv xc xr cI Z, wl xn cI S]) rfl ?_
  refine G.b_ne X dX6_shy_8 (fun b8 => absurd (Eq.trans (Eq.symm hp) b8) (by decide)) (fun b8 => ?_)
  refine G.al X dX6_shy_11 0 rfl ?_
  refine G.pu X dX6_shy_12 ?_
  refine G.cvi X kX6_refuse lX6_65 dX6_shy_13 (tX6_refuse l D cI cW xx xn xt xk xe xo xv xc xr Z 1 (by omega) (by omega)) ⟨Nat.le_of_ble_eq_true rfl, Nat.le_of_ble_eq_true rfl⟩ ⟨Nat.zero_le _, Nat.zero_le _⟩ [0] rfl ⟨rfl, rfl⟩ rfl rfl 0 0 rfl rfl rfl rfl (Nat.le_of_ble_eq_true rfl) (ff_cons (xl_fst _ _ _ _ _ _ _ _ _ _ _ _) (ff_nil)) (ws' := [xl xx xn xt xk xe xo xv xc xr cI (x_rf Z 1), wl xn cI S]) rfl ?_
  exact G.iret X Rr (v := (-(nI 1))) dX6_shy_16 (pi_mk (by rfl) (by rfl))

set_option maxRecDepth 20000 in
theorem tX6_shy_lo (l : Launch) (D : va_G) (cI cW : ClassId) (xx : Nat → Nat) (xn : Nat → Nat) (xt : Nat → Nat) (xk : Nat → Nat) (xe : Nat → Nat) (xo : Nat → Nat) (xv : Nat → Nat) (xc : Nat → Nat) (xr : Nat → Nat) (Z : Bool × FN) (S : WS) (p : Nat) (v : Int32) (hS : Ok S) (hp : p < s_pe S) (h1 : v < 0) : CT l D cI cW yX6_shy cX6_shy 5 (some .int) ⟨1, 0, 0, 22⟩ [.ref (xx 0), .int (nI p), .int v] ([xl xx xn xt xk xe xo xv xc xr cI Z, wl xn cI S]) (PI (-4) ([xl xx xn xt xk xe xo xv xc xr cI (x_rf Z 4), wl xn cI S])) := by
  refine CT.of RX6 rfl (by decide +kernel) (Nat.le_of_ble_eq_true rfl) [(0, .ref (xx 0)), (1, .int (nI p)), (2, .int v)] rfl (fun x X Rr hnm => ?_)
  have hth := hS.th
  have hpe := hS.pe
  refine G.al X dX6_shy_0 0 rfl ?_
  refine G.get X fX6_10 dX6_shy_1 0 0 rfl rfl rfl ?_
  refine G.il X dX6_shy_4 1 rfl ?_
  refine G.cvi X kX5_isPerson lX6_92 dX6_shy_5 (tX5_isPerson l D cI cW xn S (nI p) (by omega)) ⟨Nat.le_of_ble_eq_true rfl, Nat.le_of_ble_eq_true rfl⟩ ⟨Nat.zero_le _, Nat.zero_le _⟩ [1] rfl ⟨rfl, rfl⟩ rfl rfl 1 0 rfl rfl rfl rfl (Nat.le_of_ble_eq_true rfl) (ff_cons (wl_fst _ _ _ _) (ff_nil)) (ws' := [xl xx xn xt xk xe xo xv xc xr cI Z, wl xn cI S]) rfl ?_
  refine G.b_ne X dX6_shy_8 (fun b8 => ?_) (fun b8 => absurd (Eq.trans (Eq.symm (z_in_nI hp (by omega))) b8) (by decide))
  refine G.il X dX6_shy_17 2 rfl ?_
  refine G.pu X dX6_shy_18 ?_
  refine G.pu X dX6_shy_19 ?_
  refine G.csti X kX6_outside lX6_138 dX6_shy_21 (tX6_outside_lo l D cI cW v 0 9 h1) ⟨Nat.le_of_ble_eq_true rfl, Nat.le_of_ble_eq_true rfl⟩ ⟨Nat.zero_le _, Nat.zero_le _⟩ [] rfl ⟨rfl, rfl⟩ rfl rfl rfl (Nat.le_of_ble_eq_true rfl) (ff_nil) (ws' := [xl xx xn xt xk xe xo xv xc xr cI Z, wl xn cI S]) rfl ?_
  refine G.is X dX6_shy_24 (by decide) (lv' := [(3, .int (-4)), (0, .ref (xx 0)), (1, .int (nI p)), (2, .int v)]) rfl ?_
  refine G.il X dX6_shy_25 0 rfl ?_
  refine G.z_eq X (a := (-4)) dX6_shy_26 (fun b26 => absurd b26 (by decide)) (fun b26 => ?_)
  refine G.al X dX6_shy_29 1 rfl ?_
  refine G.il X dX6_shy_30 0 rfl ?_
  refine G.cvi X kX6_refuse lX6_65 dX6_shy_31 (tX6_refuse l D cI cW xx xn xt xk xe xo xv xc xr Z 4 (by omega) (by omega)) ⟨Nat.le_of_ble_eq_true rfl, Nat.le_of_ble_eq_true rfl⟩ ⟨Nat.zero_le _, Nat.zero_le _⟩ [0] rfl ⟨rfl, rfl⟩ rfl rfl 0 0 rfl rfl rfl rfl (Nat.le_of_ble_eq_true rfl) (ff_cons (xl_fst _ _ _ _ _ _ _ _ _ _ _ _) (ff_nil)) (ws' := [xl xx xn xt xk xe xo xv xc xr cI (x_rf Z 4), wl xn cI S]) rfl ?_
  exact G.iret X Rr (v := (-(nI 4))) dX6_shy_34 (pi_mk (by rfl) (by rfl))

set_option maxRecDepth 20000 in
theorem tX6_shy_hi (l : Launch) (D : va_G) (cI cW : ClassId) (xx : Nat → Nat) (xn : Nat → Nat) (xt : Nat → Nat) (xk : Nat → Nat) (xe : Nat → Nat) (xo : Nat → Nat) (xv : Nat → Nat) (xc : Nat → Nat) (xr : Nat → Nat) (Z : Bool × FN) (S : WS) (p : Nat) (v : Int32) (hS : Ok S) (hp : p < s_pe S) (h1 : ¬ v < 0) (h2 : 9 < v) : CT l D cI cW yX6_shy cX6_shy 5 (some .int) ⟨1, 0, 0, 22⟩ [.ref (xx 0), .int (nI p), .int v] ([xl xx xn xt xk xe xo xv xc xr cI Z, wl xn cI S]) (PI (-6) ([xl xx xn xt xk xe xo xv xc xr cI (x_rf Z 6), wl xn cI S])) := by
  refine CT.of RX6 rfl (by decide +kernel) (Nat.le_of_ble_eq_true rfl) [(0, .ref (xx 0)), (1, .int (nI p)), (2, .int v)] rfl (fun x X Rr hnm => ?_)
  have hth := hS.th
  have hpe := hS.pe
  refine G.al X dX6_shy_0 0 rfl ?_
  refine G.get X fX6_10 dX6_shy_1 0 0 rfl rfl rfl ?_
  refine G.il X dX6_shy_4 1 rfl ?_
  refine G.cvi X kX5_isPerson lX6_92 dX6_shy_5 (tX5_isPerson l D cI cW xn S (nI p) (by omega)) ⟨Nat.le_of_ble_eq_true rfl, Nat.le_of_ble_eq_true rfl⟩ ⟨Nat.zero_le _, Nat.zero_le _⟩ [1] rfl ⟨rfl, rfl⟩ rfl rfl 1 0 rfl rfl rfl rfl (Nat.le_of_ble_eq_true rfl) (ff_cons (wl_fst _ _ _ _) (ff_nil)) (ws' := [xl xx xn xt xk xe xo xv xc xr cI Z, wl xn cI S]) rfl ?_
  refine G.b_ne X dX6_shy_8 (fun b8 => ?_) (fun b8 => absurd (Eq.trans (Eq.symm (z_in_nI hp (by omega))) b8) (by decide))
  refine G.il X dX6_shy_17 2 rfl ?_
  refine G.pu X dX6_shy_18 ?_
  refine G.pu X dX6_shy_19 ?_
  refine G.csti X kX6_outside lX6_138 dX6_shy_21 (tX6_outside_hi l D cI cW v 0 9 h1 h2) ⟨Nat.le_of_ble_eq_true rfl, Nat.le_of_ble_eq_true rfl⟩ ⟨Nat.zero_le _, Nat.zero_le _⟩ [] rfl ⟨rfl, rfl⟩ rfl rfl rfl (Nat.le_of_ble_eq_true rfl) (ff_nil) (ws' := [xl xx xn xt xk xe xo xv xc xr cI Z, wl xn cI S]) rfl ?_
  refine G.is X dX6_shy_24 (by decide) (lv' := [(3, .int (-6)), (0, .ref (xx 0)), (1, .int (nI p)), (2, .int v)]) rfl ?_
  refine G.il X dX6_shy_25 0 rfl ?_
  refine G.z_eq X (a := (-6)) dX6_shy_26 (fun b26 => absurd b26 (by decide)) (fun b26 => ?_)
  refine G.al X dX6_shy_29 1 rfl ?_
  refine G.il X dX6_shy_30 0 rfl ?_
  refine G.cvi X kX6_refuse lX6_65 dX6_shy_31 (tX6_refuse l D cI cW xx xn xt xk xe xo xv xc xr Z 6 (by omega) (by omega)) ⟨Nat.le_of_ble_eq_true rfl, Nat.le_of_ble_eq_true rfl⟩ ⟨Nat.zero_le _, Nat.zero_le _⟩ [0] rfl ⟨rfl, rfl⟩ rfl rfl 0 0 rfl rfl rfl rfl (Nat.le_of_ble_eq_true rfl) (ff_cons (xl_fst _ _ _ _ _ _ _ _ _ _ _ _) (ff_nil)) (ws' := [xl xx xn xt xk xe xo xv xc xr cI (x_rf Z 6), wl xn cI S]) rfl ?_
  exact G.iret X Rr (v := (-(nI 6))) dX6_shy_34 (pi_mk (by rfl) (by rfl))

set_option maxRecDepth 20000 in
theorem tX6_shy_ok (l : Launch) (D : va_G) (cI cW : ClassId) (xx : Nat → Nat) (xn : Nat → Nat) (xt : Nat → Nat) (xk : Nat → Nat) (xe : Nat → Nat) (xo : Nat → Nat) (xv : Nat → Nat) (xc : Nat → Nat) (xr : Nat → Nat) (Z : Bool × FN) (S : WS) (p : Nat) (v : Nat) (hS : Ok S) (hp : p < s_pe S) (hv : v ≤ 9) : CT l D cI cW yX6_shy cX6_shy 5 (some .int) ⟨1, 0, 0, 22⟩ [.ref (xx 0), .int (nI p), .int (nI v)] ([xl xx xn xt xk xe xo xv xc xr cI Z, wl xn cI S]) (PI (s_sh S p) ([xl xx xn xt xk xe xo xv xc xr cI Z, wl xn cI (w_shy S p (nI v))])) := by
  refine CT.of RX6 rfl (by decide +kernel) (Nat.le_of_ble_eq_true rfl) [(0, .ref (xx 0)), (1, .int (nI p)), (2, .int (nI v))] rfl (fun x X Rr hnm => ?_)
  have hth := hS.th
  have hpe := hS.pe
  refine G.al X dX6_shy_0 0 rfl ?_
  refine G.get X fX6_10 dX6_shy_1 0 0 rfl rfl rfl ?_
  refine G.il X dX6_shy_4 1 rfl ?_
  refine G.cvi X kX5_isPerson lX6_92 dX6_shy_5 (tX5_isPerson l D cI cW xn S (nI p) (by omega)) ⟨Nat.le_of_ble_eq_true rfl, Nat.le_of_ble_eq_true rfl⟩ ⟨Nat.zero_le _, Nat.zero_le _⟩ [1] rfl ⟨rfl, rfl⟩ rfl rfl 1 0 rfl rfl rfl rfl (Nat.le_of_ble_eq_true rfl) (ff_cons (wl_fst _ _ _ _) (ff_nil)) (ws' := [xl xx xn xt xk xe xo xv xc xr cI Z, wl xn cI S]) rfl ?_
  refine G.b_ne X dX6_shy_8 (fun b8 => ?_) (fun b8 => absurd (Eq.trans (Eq.symm (z_in_nI hp (by omega))) b8) (by decide))
  refine G.il X dX6_shy_17 2 rfl ?_
  refine G.pu X dX6_shy_18 ?_
  refine G.pu X dX6_shy_19 ?_
  refine G.csti X kX6_outside lX6_138 dX6_shy_21 (tX6_outside_ok l D cI cW v 0 9 (by omega) (by omega) (by omega)) ⟨Nat.le_of_ble_eq_true rfl, Nat.le_of_ble_eq_true rfl⟩ ⟨Nat.zero_le _, Nat.zero_le _⟩ [] rfl ⟨rfl, rfl⟩ rfl rfl rfl (Nat.le_of_ble_eq_true rfl) (ff_nil) (ws' := [xl xx xn xt xk xe xo xv xc xr cI Z, wl xn cI S]) rfl ?_
  refine G.is X dX6_shy_24 (by decide) (lv' := [(3, .int 0), (0, .ref (xx 0)), (1, .int (nI p)), (2, .int (nI v))]) rfl ?_
  refine G.il X dX6_shy_25 0 rfl ?_
  refine G.z_eq X (a := 0) dX6_shy_26 (fun b26 => ?_) (fun b26 => absurd b26 (by decide))
  refine G.al X dX6_shy_35 1 rfl ?_
  refine G.get X fX6_10 dX6_shy_36 0 0 rfl rfl rfl ?_
  refine G.get X fX6_98 dX6_shy_39 1 0 rfl rfl rfl ?_
  refine G.il X dX6_shy_42 2 rfl ?_
  refine G.nld X (i := p) dX6_shy_43 1 2 rfl rfl (by omega) (by decide) ?_
  refine G.is X dX6_shy_44 (by decide) (lv' := [(4, .int ((s_sh S) p)), (3, .int 0), (0, .ref (xx 0)), (1, .int (nI p)), (2, .int (nI v))]) rfl ?_
  refine G.al X dX6_shy_46 2 rfl ?_
  refine G.get X fX6_10 dX6_shy_47 0 0 rfl rfl rfl ?_
  refine G.get X fX6_98 dX6_shy_50 1 0 rfl rfl rfl ?_
  refine G.il X dX6_shy_53 3 rfl ?_
  refine G.il X dX6_shy_54 4 rfl ?_
  refine G.nst X (i := p) dX6_shy_55 1 2 rfl rfl (by omega) (by decide) (blk' := wl xn cI (s_pe S, s_th S, s_da S, s_dr S, s_kn S, upd (s_sh S) p (nI v), s_an S, s_ki S, s_we S, s_dp S, s_wa S, s_le S)) rfl (ws' := [xl xx xn xt xk xe xo xv xc xr cI Z, wl xn cI (s_pe S, s_th S, s_da S, s_dr S, s_kn S, upd (s_sh S) p (nI v), s_an S, s_ki S, s_we S, s_dp S, s_wa S, s_le S)]) rfl ?_
  refine G.il X dX6_shy_56 0 rfl ?_
  exact G.iret X Rr (v := ((s_sh S) p)) dX6_shy_58 (pi_mk (by rfl) (by rfl))

set_option maxRecDepth 20000 in
theorem tX6_drought_lo (l : Launch) (D : va_G) (cI cW : ClassId) (xx : Nat → Nat) (xn : Nat → Nat) (xt : Nat → Nat) (xk : Nat → Nat) (xe : Nat → Nat) (xo : Nat → Nat) (xv : Nat → Nat) (xc : Nat → Nat) (xr : Nat → Nat) (Z : Bool × FN) (S : WS) (v : Int32) (h1 : v < 0) : CT l D cI cW yX6_drought cX6_drought 4 (some .int) ⟨1, 0, 0, 22⟩ [.ref (xx 0), .int v] ([xl xx xn xt xk xe xo xv xc xr cI Z, wl xn cI S]) (PI (-4) ([xl xx xn xt xk xe xo xv xc xr cI (x_rf Z 4), wl xn cI S])) := by
  refine CT.of RX6 rfl (by decide +kernel) (Nat.le_of_ble_eq_true rfl) [(0, .ref (xx 0)), (1, .int v)] rfl (fun x X Rr hnm => ?_)
  refine G.il X dX6_drought_0 1 rfl ?_
  refine G.pu X dX6_drought_1 ?_
  refine G.pu X dX6_drought_2 ?_
  refine G.csti X kX6_outside lX6_138 dX6_drought_4 (tX6_outside_lo l D cI cW v 0 9 h1) ⟨Nat.le_of_ble_eq_true rfl, Nat.le_of_ble_eq_true rfl⟩ ⟨Nat.zero_le _, Nat.zero_le _⟩ [] rfl ⟨rfl, rfl⟩ rfl rfl rfl (Nat.le_of_ble_eq_true rfl) (ff_nil) (ws' := [xl xx xn xt xk xe xo xv xc xr cI Z, wl xn cI S]) rfl ?_
  refine G.is X dX6_drought_7 (by decide) (lv' := [(2, .int (-4)), (0, .ref (xx 0)), (1, .int v)]) rfl ?_
  refine G.il X dX6_drought_8 0 rfl ?_
  refine G.z_eq X (a := (-4)) dX6_drought_9 (fun b9 => absurd b9 (by decide)) (fun b9 => ?_)
  refine G.al X dX6_drought_12 1 rfl ?_
  refine G.il X dX6_drought_13 0 rfl ?_
  refine G.cvi X kX6_refuse lX6_65 dX6_drought_14 (tX6_refuse l D cI cW xx xn xt xk xe xo xv xc xr Z 4 (by omega) (by omega)) ⟨Nat.le_of_ble_eq_true rfl, Nat.le_of_ble_eq_true rfl⟩ ⟨Nat.zero_le _, Nat.zero_le _⟩ [0] rfl ⟨rfl, rfl⟩ rfl rfl 0 0 rfl rfl rfl rfl (Nat.le_of_ble_eq_true rfl) (ff_cons (xl_fst _ _ _ _ _ _ _ _ _ _ _ _) (ff_nil)) (ws' := [xl xx xn xt xk xe xo xv xc xr cI (x_rf Z 4), wl xn cI S]) rfl ?_
  exact G.iret X Rr (v := (-(nI 4))) dX6_drought_17 (pi_mk (by rfl) (by rfl))

set_option maxRecDepth 20000 in
theorem tX6_drought_hi (l : Launch) (D : va_G) (cI cW : ClassId) (xx : Nat → Nat) (xn : Nat → Nat) (xt : Nat → Nat) (xk : Nat → Nat) (xe : Nat → Nat) (xo : Nat → Nat) (xv : Nat → Nat) (xc : Nat → Nat) (xr : Nat → Nat) (Z : Bool × FN) (S : WS) (v : Int32) (h1 : ¬ v < 0) (h2 : 9 < v) : CT l D cI cW yX6_drought cX6_drought 4 (some .int) ⟨1, 0, 0, 22⟩ [.ref (xx 0), .int v] ([xl xx xn xt xk xe xo xv xc xr cI Z, wl xn cI S]) (PI (-6) ([xl xx xn xt xk xe xo xv xc xr cI (x_rf Z 6), wl xn cI S])) := by
  refine CT.of RX6 rfl (by decide +kernel) (Nat.le_of_ble_eq_true rfl) [(0, .ref (xx 0)), (1, .int v)] rfl (fun x X Rr hnm => ?_)
  refine G.il X dX6_drought_0 1 rfl ?_
  refine G.pu X dX6_drought_1 ?_
  refine G.pu X dX6_drought_2 ?_
  refine G.csti X kX6_outside lX6_138 dX6_drought_4 (tX6_outside_hi l D cI cW v 0 9 h1 h2) ⟨Nat.le_of_ble_eq_true rfl, Nat.le_of_ble_eq_true rfl⟩ ⟨Nat.zero_le _, Nat.zero_le _⟩ [] rfl ⟨rfl, rfl⟩ rfl rfl rfl (Nat.le_of_ble_eq_true rfl) (ff_nil) (ws' := [xl xx xn xt xk xe xo xv xc xr cI Z, wl xn cI S]) rfl ?_
  refine G.is X dX6_drought_7 (by decide) (lv' := [(2, .int (-6)), (0, .ref (xx 0)), (1, .int v)]) rfl ?_
  refine G.il X dX6_drought_8 0 rfl ?_
  refine G.z_eq X (a := (-6)) dX6_drought_9 (fun b9 => absurd b9 (by decide)) (fun b9 => ?_)
  refine G.al X dX6_drought_12 1 rfl ?_
  refine G.il X dX6_drought_13 0 rfl ?_
  refine G.cvi X kX6_refuse lX6_65 dX6_drought_14 (tX6_refuse l D cI cW xx xn xt xk xe xo xv xc xr Z 6 (by omega) (by omega)) ⟨Nat.le_of_ble_eq_true rfl, Nat.le_of_ble_eq_true rfl⟩ ⟨Nat.zero_le _, Nat.zero_le _⟩ [0] rfl ⟨rfl, rfl⟩ rfl rfl 0 0 rfl rfl rfl rfl (Nat.le_of_ble_eq_true rfl) (ff_cons (xl_fst _ _ _ _ _ _ _ _ _ _ _ _) (ff_nil)) (ws' := [xl xx xn xt xk xe xo xv xc xr cI (x_rf Z 6), wl xn cI S]) rfl ?_
  exact G.iret X Rr (v := (-(nI 6))) dX6_drought_17 (pi_mk (by rfl) (by rfl))

set_option maxRecDepth 20000 in
theorem tX6_drought_ok (l : Launch) (D : va_G) (cI cW : ClassId) (xx : Nat → Nat) (xn : Nat → Nat) (xt : Nat → Nat) (xk : Nat → Nat) (xe : Nat → Nat) (xo : Nat → Nat) (xv : Nat → Nat) (xc : Nat → Nat) (xr : Nat → Nat) (Z : Bool × FN) (S : WS) (v : Nat) (hv : v ≤ 9) : CT l D cI cW yX6_drought cX6_drought 4 (some .int) ⟨1, 0, 0, 22⟩ [.ref (xx 0), .int (nI v)] ([xl xx xn xt xk xe xo xv xc xr cI Z, wl xn cI S]) (PI (s_dr S) ([xl xx xn xt xk xe xo xv xc xr cI Z, wl xn cI (w_dr S (nI v))])) := by
  refine CT.of RX6 rfl (by decide +kernel) (Nat.le_of_ble_eq_true rfl) [(0, .ref (xx 0)), (1, .int (nI v))] rfl (fun x X Rr hnm => ?_)
  refine G.il X dX6_drought_0 1 rfl ?_
  refine G.pu X dX6_drought_1 ?_
  refine G.pu X dX6_drought_2 ?_
  refine G.csti X kX6_outside lX6_138 dX6_drought_4 (tX6_outside_ok l D cI cW v 0 9 (by omega) (by omega) (by omega)) ⟨Nat.le_of_ble_eq_true rfl, Nat.le_of_ble_eq_true rfl⟩ ⟨Nat.zero_le _, Nat.zero_le _⟩ [] rfl ⟨rfl, rfl⟩ rfl rfl rfl (Nat.le_of_ble_eq_true rfl) (ff_nil) (ws' := [xl xx xn xt xk xe xo xv xc xr cI Z, wl xn cI S]) rfl ?_
  refine G.is X dX6_drought_7 (by decide) (lv' := [(2, .int 0), (0, .ref (xx 0)), (1, .int (nI v))]) rfl ?_
  refine G.il X dX6_drought_8 0 rfl ?_
  refine G.z_eq X (a := 0) dX6_drought_9 (fun b9 => ?_) (fun b9 => absurd b9 (by decide))
  refine G.al X dX6_drought_18 1 rfl ?_
  refine G.get X fX6_10 dX6_drought_19 0 0 rfl rfl rfl ?_
  refine G.get X fX6_142 dX6_drought_22 1 0 rfl rfl rfl ?_
  refine G.is X dX6_drought_25 (by decide) (lv' := [(3, .int (s_dr S)), (2, .int 0), (0, .ref (xx 0)), (1, .int (nI v))]) rfl ?_
  refine G.al X dX6_drought_26 2 rfl ?_
  refine G.get X fX6_10 dX6_drought_27 0 0 rfl rfl rfl ?_
  refine G.il X dX6_drought_30 3 rfl ?_
  refine G.puti X fX6_142 fe5 dX6_drought_31 rfl rfl 1 0 rfl rfl (Nat.le_of_ble_eq_true rfl) (blk' := wl xn cI (s_pe S, s_th S, s_da S, nI v, s_kn S, s_sh S, s_an S, s_ki S, s_we S, s_dp S, s_wa S, s_le S)) rfl (ws' := [xl xx xn xt xk xe xo xv xc xr cI Z, wl xn cI (s_pe S, s_th S, s_da S, nI v, s_kn S, s_sh S, s_an S, s_ki S, s_we S, s_dp S, s_wa S, s_le S)]) rfl ?_
  refine G.il X dX6_drought_34 0 rfl ?_
  exact G.iret X Rr (v := (s_dr S)) dX6_drought_35 (pi_mk (by rfl) (by rfl))

set_option maxRecDepth 20000 in
theorem tX6_turn_bad (l : Launch) (D : va_G) (cI cW : ClassId) (xx : Nat → Nat) (xn : Nat → Nat) (xt : Nat → Nat) (xk : Nat → Nat) (xe : Nat → Nat) (xo : Nat → Nat) (xv : Nat → Nat) (xc : Nat → Nat) (xr : Nat → Nat) (Z : Bool × FN) (S : WS) (p : Int32) (kd : Int32) (v : Int32) (hS : Ok S) (hp : z_in p (s_th S) = false) : CT l D cI cW yX6_turn cX6_turn 6 (some .int) ⟨1, 0, 0, 22⟩ [.ref (xx 0), .int p, .int kd, .int v] ([xl xx xn xt xk xe xo xv xc xr cI Z, wl xn cI S]) (PI (-1) ([xl xx xn xt xk xe xo xv xc xr cI (x_rf Z 1), wl xn cI S])) := by
  refine CT.of RX6 rfl (by decide +kernel) (Nat.le_of_ble_eq_true rfl) [(0, .ref (xx 0)), (1, .int p), (2, .int kd), (3, .int v)] rfl (fun x X Rr hnm => ?_)
  have hth := hS.th
  have hpe := hS.pe
  refine G.al X dX6_turn_0 0 rfl ?_
  refine G.get X fX6_10 dX6_turn_1 0 0 rfl rfl rfl ?_
  refine G.il X dX6_turn_4 1 rfl ?_
  refine G.cvi X kX5_isThing lX6_107 dX6_turn_5 (tX5_isThing l D cI cW xn S p (by omega)) ⟨Nat.le_of_ble_eq_true rfl, Nat.le_of_ble_eq_true rfl⟩ ⟨Nat.zero_le _, Nat.zero_le _⟩ [1] rfl ⟨rfl, rfl⟩ rfl rfl 1 0 rfl rfl rfl rfl (Nat.le_of_ble_eq_true rfl) (ff_cons (wl_fst _ _ _ _) (ff_nil)) (ws' := [xl xx xn xt xk xe xo xv xc xr cI Z, wl xn cI S]) rfl ?_
  refine G.b_ne X dX6_turn_8 (fun b8 => absurd (Eq.trans (Eq.symm hp) b8) (by decide)) (fun b8 => ?_)
  refine G.al X dX6_turn_11 0 rfl ?_
  refine G.pu X dX6_turn_12 ?_
  refine G.cvi X kX6_refuse lX6_65 dX6_turn_13 (tX6_refuse l D cI cW xx xn xt xk xe xo xv xc xr Z 1 (by omega) (by omega)) ⟨Nat.le_of_ble_eq_true rfl, Nat.le_of_ble_eq_true rfl⟩ ⟨Nat.zero_le _, Nat.zero_le _⟩ [0] rfl ⟨rfl, rfl⟩ rfl rfl 0 0 rfl rfl rfl rfl (Nat.le_of_ble_eq_true rfl) (ff_cons (xl_fst _ _ _ _ _ _ _ _ _ _ _ _) (ff_nil)) (ws' := [xl xx xn xt xk xe xo xv xc xr cI (x_rf Z 1), wl xn cI S]) rfl ?_
  exact G.iret X Rr (v := (-(nI 1))) dX6_turn_16 (pi_mk (by rfl) (by rfl))

set_option maxRecDepth 20000 in
theorem tX6_turn_oth (l : Launch) (D : va_G) (cI cW : ClassId) (xx : Nat → Nat) (xn : Nat → Nat) (xt : Nat → Nat) (xk : Nat → Nat) (xe : Nat → Nat) (xo : Nat → Nat) (xv : Nat → Nat) (xc : Nat → Nat) (xr : Nat → Nat) (Z : Bool × FN) (S : WS) (p : Nat) (kd : Int32) (v : Int32) (hS : Ok S) (hp : p < s_th S) (hk : z_in kd 6 = false) : CT l D cI cW yX6_turn cX6_turn 6 (some .int) ⟨1, 0, 0, 22⟩ [.ref (xx 0), .int (nI p), .int kd, .int v] ([xl xx xn xt xk xe xo xv xc xr cI Z, wl xn cI S]) (PI (-2) ([xl xx xn xt xk xe xo xv xc xr cI (x_rf Z 2), wl xn cI S])) := by
  refine CT.of RX6 rfl (by decide +kernel) (Nat.le_of_ble_eq_true rfl) [(0, .ref (xx 0)), (1, .int (nI p)), (2, .int kd), (3, .int v)] rfl (fun x X Rr hnm => ?_)
  have hth := hS.th
  have hpe := hS.pe
  refine G.al X dX6_turn_0 0 rfl ?_
  refine G.get X fX6_10 dX6_turn_1 0 0 rfl rfl rfl ?_
  refine G.il X dX6_turn_4 1 rfl ?_
  refine G.cvi X kX5_isThing lX6_107 dX6_turn_5 (tX5_isThing l D cI cW xn S (nI p) (by omega)) ⟨Nat.le_of_ble_eq_true rfl, Nat.le_of_ble_eq_true rfl⟩ ⟨Nat.zero_le _, Nat.zero_le _⟩ [1] rfl ⟨rfl, rfl⟩ rfl rfl 1 0 rfl rfl rfl rfl (Nat.le_of_ble_eq_true rfl) (ff_cons (wl_fst _ _ _ _) (ff_nil)) (ws' := [xl xx xn xt xk xe xo xv xc xr cI Z, wl xn cI S]) rfl ?_
  refine G.b_ne X dX6_turn_8 (fun b8 => ?_) (fun b8 => absurd (Eq.trans (Eq.symm (z_in_nI hp (by omega))) b8) (by decide))
  refine G.il X dX6_turn_17 2 rfl ?_
  refine G.csti X kX6_isKind lX6_145 dX6_turn_18 (tX6_isKind l D cI cW kd) ⟨Nat.le_of_ble_eq_true rfl, Nat.le_of_ble_eq_true rfl⟩ ⟨Nat.zero_le _, Nat.zero_le _⟩ [] rfl ⟨rfl, rfl⟩ rfl rfl rfl (Nat.le_of_ble_eq_true rfl) (ff_nil) (ws' := [xl xx xn xt xk xe xo xv xc xr cI Z, wl xn cI S]) rfl ?_
  refine G.b_ne X dX6_turn_21 (fun b21 => absurd (Eq.trans (Eq.symm hk) b21) (by decide)) (fun b21 => ?_)
  refine G.al X dX6_turn_24 0 rfl ?_
  refine G.pu X dX6_turn_25 ?_
  refine G.cvi X kX6_refuse lX6_65 dX6_turn_27 (tX6_refuse l D cI cW xx xn xt xk xe xo xv xc xr Z 2 (by omega) (by omega)) ⟨Nat.le_of_ble_eq_true rfl, Nat.le_of_ble_eq_true rfl⟩ ⟨Nat.zero_le _, Nat.zero_le _⟩ [0] rfl ⟨rfl, rfl⟩ rfl rfl 0 0 rfl rfl rfl rfl (Nat.le_of_ble_eq_true rfl) (ff_cons (xl_fst _ _ _ _ _ _ _ _ _ _ _ _) (ff_nil)) (ws' := [xl xx xn xt xk xe xo xv xc xr cI (x_rf Z 2), wl xn cI S]) rfl ?_
  exact G.iret X Rr (v := (-(nI 2))) dX6_turn_30 (pi_mk (by rfl) (by rfl))

set_option maxRecDepth 20000 in
theorem tX6_turn_lo (l : Launch) (D : va_G) (cI cW : ClassId) (xx : Nat → Nat) (xn : Nat → Nat) (xt : Nat → Nat) (xk : Nat → Nat) (xe : Nat → Nat) (xo : Nat → Nat) (xv : Nat → Nat) (xc : Nat → Nat) (xr : Nat → Nat) (Z : Bool × FN) (S : WS) (p : Nat) (kd : Nat) (v : Int32) (hS : Ok S) (hp : p < s_th S) (hk : kd < 6) (h1 : v < 0) : CT l D cI cW yX6_turn cX6_turn 6 (some .int) ⟨1, 0, 0, 22⟩ [.ref (xx 0), .int (nI p), .int (nI kd), .int v] ([xl xx xn xt xk xe xo xv xc xr cI Z, wl xn cI S]) (PI (-4) ([xl xx xn xt xk xe xo xv xc xr cI (x_rf Z 4), wl xn cI S])) := by
  refine CT.of RX6 rfl (by decide +kernel) (Nat.le_of_ble_eq_true rfl) [(0, .ref (xx 0)), (1, .int (nI p)), (2, .int (nI kd)), (3, .int v)] rfl (fun x X Rr hnm => ?_)
  have hth := hS.th
  have hpe := hS.pe
  refine G.al X dX6_turn_0 0 rfl ?_
  refine G.get X fX6_10 dX6_turn_1 0 0 rfl rfl rfl ?_
  refine G.il X dX6_turn_4 1 rfl ?_
  refine G.cvi X kX5_isThing lX6_107 dX6_turn_5 (tX5_isThing l D cI cW xn S (nI p) (by omega)) ⟨Nat.le_of_ble_eq_true rfl, Nat.le_of_ble_eq_true rfl⟩ ⟨Nat.zero_le _, Nat.zero_le _⟩ [1] rfl ⟨rfl, rfl⟩ rfl rfl 1 0 rfl rfl rfl rfl (Nat.le_of_ble_eq_true rfl) (ff_cons (wl_fst _ _ _ _) (ff_nil)) (ws' := [xl xx xn xt xk xe xo xv xc xr cI Z, wl xn cI S]) rfl ?_
  refine G.b_ne X dX6_turn_8 (fun b8 => ?_) (fun b8 => absurd (Eq.trans (Eq.symm (z_in_nI hp (by omega))) b8) (by decide))
  refine G.il X dX6_turn_17 2 rfl ?_
  refine G.csti X kX6_isKind lX6_145 dX6_turn_18 (tX6_isKind l D cI cW (nI kd)) ⟨Nat.le_of_ble_eq_true rfl, Nat.le_of_ble_eq_true rfl⟩ ⟨Nat.zero_le _, Nat.zero_le _⟩ [] rfl ⟨rfl, rfl⟩ rfl rfl rfl (Nat.le_of_ble_eq_true rfl) (ff_nil) (ws' := [xl xx xn xt xk xe xo xv xc xr cI Z, wl xn cI S]) rfl ?_
  refine G.b_ne X dX6_turn_21 (fun b21 => ?_) (fun b21 => absurd (Eq.trans (Eq.symm (z_in_nI hk (by omega))) b21) (by decide))
  refine G.il X dX6_turn_31 3 rfl ?_
  refine G.pu X dX6_turn_32 ?_
  refine G.pu X dX6_turn_33 ?_
  refine G.csti X kX6_outside lX6_138 dX6_turn_35 (tX6_outside_lo l D cI cW v 0 9 h1) ⟨Nat.le_of_ble_eq_true rfl, Nat.le_of_ble_eq_true rfl⟩ ⟨Nat.zero_le _, Nat.zero_le _⟩ [] rfl ⟨rfl, rfl⟩ rfl rfl rfl (Nat.le_of_ble_eq_true rfl) (ff_nil) (ws' := [xl xx xn xt xk xe xo xv xc xr cI Z, wl xn cI S]) rfl ?_
  refine G.is X dX6_turn_38 (by decide) (lv' := [(4, .int (-4)), (0, .ref (xx 0)), (1, .int (nI p)), (2, .int (nI kd)), (3, .int v)]) rfl ?_
  refine G.il X dX6_turn_40 0 rfl ?_
  refine G.z_eq X (a := (-4)) dX6_turn_42 (fun b42 => absurd b42 (by decide)) (fun b42 => ?_)
  refine G.al X dX6_turn_45 1 rfl ?_
  refine G.il X dX6_turn_46 0 rfl ?_
  refine G.cvi X kX6_refuse lX6_65 dX6_turn_48 (tX6_refuse l D cI cW xx xn xt xk xe xo xv xc xr Z 4 (by omega) (by omega)) ⟨Nat.le_of_ble_eq_true rfl, Nat.le_of_ble_eq_true rfl⟩ ⟨Nat.zero_le _, Nat.zero_le _⟩ [0] rfl ⟨rfl, rfl⟩ rfl rfl 0 0 rfl rfl rfl rfl (Nat.le_of_ble_eq_true rfl) (ff_cons (xl_fst _ _ _ _ _ _ _ _ _ _ _ _) (ff_nil)) (ws' := [xl xx xn xt xk xe xo xv xc xr cI (x_rf Z 4), wl xn cI S]) rfl ?_
  exact G.iret X Rr (v := (-(nI 4))) dX6_turn_51 (pi_mk (by rfl) (by rfl))

set_option maxRecDepth 20000 in
theorem tX6_turn_hi (l : Launch) (D : va_G) (cI cW : ClassId) (xx : Nat → Nat) (xn : Nat → Nat) (xt : Nat → Nat) (xk : Nat → Nat) (xe : Nat → Nat) (xo : Nat → Nat) (xv : Nat → Nat) (xc : Nat → Nat) (xr : Nat → Nat) (Z : Bool × FN) (S : WS) (p : Nat) (kd : Nat) (v : Int32) (hS : Ok S) (hp : p < s_th S) (hk : kd < 6) (h1 : ¬ v < 0) (h2 : 9 < v) : CT l D cI cW yX6_turn cX6_turn 6 (some .int) ⟨1, 0, 0, 22⟩ [.ref (xx 0), .int (nI p), .int (nI kd), .int v] ([xl xx xn xt xk xe xo xv xc xr cI Z, wl xn cI S]) (PI (-6) ([xl xx xn xt xk xe xo xv xc xr cI (x_rf Z 6), wl xn cI S])) := by
  refine CT.of RX6 rfl (by decide +kernel) (Nat.le_of_ble_eq_true rfl) [(0, .ref (xx 0)), (1, .int (nI p)), (2, .int (nI kd)), (3, .int v)] rfl (fun x X Rr hnm => ?_)
  have hth := hS.th
  have hpe := hS.pe
  refine G.al X dX6_turn_0 0 rfl ?_
  refine G.get X fX6_10 dX6_turn_1 0 0 rfl rfl rfl ?_
  refine G.il X dX6_turn_4 1 rfl ?_
  refine G.cvi X kX5_isThing lX6_107 dX6_turn_5 (tX5_isThing l D cI cW xn S (nI p) (by omega)) ⟨Nat.le_of_ble_eq_true rfl, Nat.le_of_ble_eq_true rfl⟩ ⟨Nat.zero_le _, Nat.zero_le _⟩ [1] rfl ⟨rfl, rfl⟩ rfl rfl 1 0 rfl rfl rfl rfl (Nat.le_of_ble_eq_true rfl) (ff_cons (wl_fst _ _ _ _) (ff_nil)) (ws' := [xl xx xn xt xk xe xo xv xc xr cI Z, wl xn cI S]) rfl ?_
  refine G.b_ne X dX6_turn_8 (fun b8 => ?_) (fun b8 => absurd (Eq.trans (Eq.symm (z_in_nI hp (by omega))) b8) (by decide))
  refine G.il X dX6_turn_17 2 rfl ?_
  refine G.csti X kX6_isKind lX6_145 dX6_turn_18 (tX6_isKind l D cI cW (nI kd)) ⟨Nat.le_of_ble_eq_true rfl, Nat.le_of_ble_eq_true rfl⟩ ⟨Nat.zero_le _, Nat.zero_le _⟩ [] rfl ⟨rfl, rfl⟩ rfl rfl rfl (Nat.le_of_ble_eq_true rfl) (ff_nil) (ws' := [xl xx xn xt xk xe xo xv xc xr cI Z, wl xn cI S]) rfl ?_
  refine G.b_ne X dX6_turn_21 (fun b21 => ?_) (fun b21 => absurd (Eq.trans (Eq.symm (z_in_nI hk (by omega))) b21) (by decide))
  refine G.il X dX6_turn_31 3 rfl ?_
  refine G.pu X dX6_turn_32 ?_
  refine G.pu X dX6_turn_33 ?_
  refine G.csti X kX6_outside lX6_138 dX6_turn_35 (tX6_outside_hi l D cI cW v 0 9 h1 h2) ⟨Nat.le_of_ble_eq_true rfl, Nat.le_of_ble_eq_true rfl⟩ ⟨Nat.zero_le _, Nat.zero_le _⟩ [] rfl ⟨rfl, rfl⟩ rfl rfl rfl (Nat.le_of_ble_eq_true rfl) (ff_nil) (ws' := [xl xx xn xt xk xe xo xv xc xr cI Z, wl xn cI S]) rfl ?_
  refine G.is X dX6_turn_38 (by decide) (lv' := [(4, .int (-6)), (0, .ref (xx 0)), (1, .int (nI p)), (2, .int (nI kd)), (3, .int v)]) rfl ?_
  refine G.il X dX6_turn_40 0 rfl ?_
  refine G.z_eq X (a := (-6)) dX6_turn_42 (fun b42 => absurd b42 (by decide)) (fun b42 => ?_)
  refine G.al X dX6_turn_45 1 rfl ?_
  refine G.il X dX6_turn_46 0 rfl ?_
  refine G.cvi X kX6_refuse lX6_65 dX6_turn_48 (tX6_refuse l D cI cW xx xn xt xk xe xo xv xc xr Z 6 (by omega) (by omega)) ⟨Nat.le_of_ble_eq_true rfl, Nat.le_of_ble_eq_true rfl⟩ ⟨Nat.zero_le _, Nat.zero_le _⟩ [0] rfl ⟨rfl, rfl⟩ rfl rfl 0 0 rfl rfl rfl rfl (Nat.le_of_ble_eq_true rfl) (ff_cons (xl_fst _ _ _ _ _ _ _ _ _ _ _ _) (ff_nil)) (ws' := [xl xx xn xt xk xe xo xv xc xr cI (x_rf Z 6), wl xn cI S]) rfl ?_
  exact G.iret X Rr (v := (-(nI 6))) dX6_turn_51 (pi_mk (by rfl) (by rfl))

set_option maxRecDepth 20000 in
theorem tX6_turn_ok (l : Launch) (D : va_G) (cI cW : ClassId) (xx : Nat → Nat) (xn : Nat → Nat) (xt : Nat → Nat) (xk : Nat → Nat) (xe : Nat → Nat) (xo : Nat → Nat) (xv : Nat → Nat) (xc : Nat → Nat) (xr : Nat → Nat) (Z : Bool × FN) (S : WS) (p : Nat) (kd : Nat) (v : Nat) (hS : Ok S) (hp : p < s_th S) (hk : kd < 6) (hv : v ≤ 9) : CT l D cI cW yX6_turn cX6_turn 6 (some .int) ⟨1, 0, 0, 22⟩ [.ref (xx 0), .int (nI p), .int (nI kd), .int (nI v)] ([xl xx xn xt xk xe xo xv xc xr cI Z, wl xn cI S]) (PI (10 * s_ki S p + s_we S p) ([xl xx xn xt xk xe xo xv xc xr cI Z, wl xn cI (w_kw S p (nI kd) (nI v))])) := by
  refine CT.of RX6 rfl (by decide +kernel) (Nat.le_of_ble_eq_true rfl) [(0, .ref (xx 0)), (1, .int (nI p)), (2, .int (nI kd)), (3, .int (nI v))] rfl (fun x X Rr hnm => ?_)
  have hth := hS.th
  have hpe := hS.pe
  refine G.al X dX6_turn_0 0 rfl ?_
  refine G.get X fX6_10 dX6_turn_1 0 0 rfl rfl rfl ?_
  refine G.il X dX6_turn_4 1 rfl ?_
  refine G.cvi X kX5_isThing lX6_107 dX6_turn_5 (tX5_isThing l D cI cW xn S (nI p) (by omega)) ⟨Nat.le_of_ble_eq_true rfl, Nat.le_of_ble_eq_true rfl⟩ ⟨Nat.zero_le _, Nat.zero_le _⟩ [1] rfl ⟨rfl, rfl⟩ rfl rfl 1 0 rfl rfl rfl rfl (Nat.le_of_ble_eq_true rfl) (ff_cons (wl_fst _ _ _ _) (ff_nil)) (ws' := [xl xx xn xt xk xe xo xv xc xr cI Z, wl xn cI S]) rfl ?_
  refine G.b_ne X dX6_turn_8 (fun b8 => ?_) (fun b8 => absurd (Eq.trans (Eq.symm (z_in_nI hp (by omega))) b8) (by decide))
  refine G.il X dX6_turn_17 2 rfl ?_
  refine G.csti X kX6_isKind lX6_145 dX6_turn_18 (tX6_isKind l D cI cW (nI kd)) ⟨Nat.le_of_ble_eq_true rfl, Nat.le_of_ble_eq_true rfl⟩ ⟨Nat.zero_le _, Nat.zero_le _⟩ [] rfl ⟨rfl, rfl⟩ rfl rfl rfl (Nat.le_of_ble_eq_true rfl) (ff_nil) (ws' := [xl xx xn xt xk xe xo xv xc xr cI Z, wl xn cI S]) rfl ?_
  refine G.b_ne X dX6_turn_21 (fun b21 => ?_) (fun b21 => absurd (Eq.trans (Eq.symm (z_in_nI hk (by omega))) b21) (by decide))
  refine G.il X dX6_turn_31 3 rfl ?_
  refine G.pu X dX6_turn_32 ?_
  refine G.pu X dX6_turn_33 ?_
  refine G.csti X kX6_outside lX6_138 dX6_turn_35 (tX6_outside_ok l D cI cW v 0 9 (by omega) (by omega) (by omega)) ⟨Nat.le_of_ble_eq_true rfl, Nat.le_of_ble_eq_true rfl⟩ ⟨Nat.zero_le _, Nat.zero_le _⟩ [] rfl ⟨rfl, rfl⟩ rfl rfl rfl (Nat.le_of_ble_eq_true rfl) (ff_nil) (ws' := [xl xx xn xt xk xe xo xv xc xr cI Z, wl xn cI S]) rfl ?_
  refine G.is X dX6_turn_38 (by decide) (lv' := [(4, .int 0), (0, .ref (xx 0)), (1, .int (nI p)), (2, .int (nI kd)), (3, .int (nI v))]) rfl ?_
  refine G.il X dX6_turn_40 0 rfl ?_
  refine G.z_eq X (a := 0) dX6_turn_42 (fun b42 => ?_) (fun b42 => absurd b42 (by decide))
  refine G.pu X dX6_turn_52 ?_
  refine G.al X dX6_turn_54 1 rfl ?_
  refine G.get X fX6_10 dX6_turn_55 0 0 rfl rfl rfl ?_
  refine G.get X fX6_110 dX6_turn_58 1 0 rfl rfl rfl ?_
  refine G.il X dX6_turn_61 2 rfl ?_
  refine G.nld X (i := p) dX6_turn_62 1 4 rfl rfl (by omega) (by decide) ?_
  refine G.imul X dX6_turn_63 ?_
  refine G.al X dX6_turn_64 1 rfl ?_
  refine G.get X fX6_10 dX6_turn_65 0 0 rfl rfl rfl ?_
  refine G.get X fX6_113 dX6_turn_68 1 0 rfl rfl rfl ?_
  refine G.il X dX6_turn_71 2 rfl ?_
  refine G.nld X (i := p) dX6_turn_72 1 5 rfl rfl (by omega) (by decide) ?_
  refine G.iadd X dX6_turn_73 ?_
  refine G.is X dX6_turn_74 (by decide) (lv' := [(5, .int ((10 * ((s_ki S) p)) + ((s_we S) p))), (4, .int 0), (0, .ref (xx 0)), (1, .int (nI p)), (2, .int (nI kd)), (3, .int (nI v))]) rfl ?_
  refine G.al X dX6_turn_76 2 rfl ?_
  refine G.get X fX6_10 dX6_turn_77 0 0 rfl rfl rfl ?_
  refine G.get X fX6_110 dX6_turn_80 1 0 rfl rfl rfl ?_
  refine G.il X dX6_turn_83 3 rfl ?_
  refine G.il X dX6_turn_84 4 rfl ?_
  refine G.nst X (i := p) dX6_turn_85 1 4 rfl rfl (by omega) (by decide) (blk' := wl xn cI (s_pe S, s_th S, s_da S, s_dr S, s_kn S, s_sh S, s_an S, upd (s_ki S) p (nI kd), s_we S, s_dp S, s_wa S, s_le S)) rfl (ws' := [xl xx xn xt xk xe xo xv xc xr cI Z, wl xn cI (s_pe S, s_th S, s_da S, s_dr S, s_kn S, s_sh S, s_an S, upd (s_ki S) p (nI kd), s_we S, s_dp S, s_wa S, s_le S)]) rfl ?_
  refine G.al X dX6_turn_86 2 rfl ?_
  refine G.get X fX6_10 dX6_turn_87 0 0 rfl rfl rfl ?_
  refine G.get X fX6_113 dX6_turn_90 1 0 rfl rfl rfl ?_
  refine G.il X dX6_turn_93 3 rfl ?_
  refine G.il X dX6_turn_94 5 rfl ?_
  refine G.nst X (i := p) dX6_turn_95 1 5 rfl rfl (by omega) (by decide) (blk' := wl xn cI (s_pe S, s_th S, s_da S, s_dr S, s_kn S, s_sh S, s_an S, upd (s_ki S) p (nI kd), upd (s_we S) p (nI v), s_dp S, s_wa S, s_le S)) rfl (ws' := [xl xx xn xt xk xe xo xv xc xr cI Z, wl xn cI (s_pe S, s_th S, s_da S, s_dr S, s_kn S, s_sh S, s_an S, upd (s_ki S) p (nI kd), upd (s_we S) p (nI v), s_dp S, s_wa S, s_le S)]) rfl ?_
  refine G.il X dX6_turn_96 0 rfl ?_
  exact G.iret X Rr (v := ((10 * ((s_ki S) p)) + ((s_we S) p))) dX6_turn_98 (pi_mk (by rfl) (by rfl))

set_option maxRecDepth 20000 in
theorem tX6_answers_bad (l : Launch) (D : va_G) (cI cW : ClassId) (xx : Nat → Nat) (xn : Nat → Nat) (xt : Nat → Nat) (xk : Nat → Nat) (xe : Nat → Nat) (xo : Nat → Nat) (xv : Nat → Nat) (xc : Nat → Nat) (xr : Nat → Nat) (Z : Bool × FN) (S : WS) (p : Int32) (hS : Ok S) (hp : z_in p (s_th S) = false) : CT l D cI cW yX6_answers cX6_answers 2 (some .int) ⟨1, 0, 0, 22⟩ [.ref (xx 0), .int p] ([xl xx xn xt xk xe xo xv xc xr cI Z, wl xn cI S]) (PI (-1) ([xl xx xn xt xk xe xo xv xc xr cI (x_rf Z 1), wl xn cI S])) := by
  refine CT.of RX6 rfl (by decide +kernel) (Nat.le_of_ble_eq_true rfl) [(0, .ref (xx 0)), (1, .int p)] rfl (fun x X Rr hnm => ?_)
  have hth := hS.th
  have hpe := hS.pe
  refine G.al X dX6_answers_0 0 rfl ?_
  refine G.get X fX6_10 dX6_answers_1 0 0 rfl rfl rfl ?_
  refine G.il X dX6_answers_4 1 rfl ?_
  refine G.cvi X kX5_isThing lX6_107 dX6_answers_5 (tX5_isThing l D cI cW xn S p (by omega)) ⟨Nat.le_of_ble_eq_true rfl, Nat.le_of_ble_eq_true rfl⟩ ⟨Nat.zero_le _, Nat.zero_le _⟩ [1] rfl ⟨rfl, rfl⟩ rfl rfl 1 0 rfl rfl rfl rfl (Nat.le_of_ble_eq_true rfl) (ff_cons (wl_fst _ _ _ _) (ff_nil)) (ws' := [xl xx xn xt xk xe xo xv xc xr cI Z, wl xn cI S]) rfl ?_
  refine G.b_ne X dX6_answers_8 (fun b8 => absurd (Eq.trans (Eq.symm hp) b8) (by decide)) (fun b8 => ?_)
  refine G.al X dX6_answers_11 0 rfl ?_
  refine G.pu X dX6_answers_12 ?_
  refine G.cvi X kX6_refuse lX6_65 dX6_answers_13 (tX6_refuse l D cI cW xx xn xt xk xe xo xv xc xr Z 1 (by omega) (by omega)) ⟨Nat.le_of_ble_eq_true rfl, Nat.le_of_ble_eq_true rfl⟩ ⟨Nat.zero_le _, Nat.zero_le _⟩ [0] rfl ⟨rfl, rfl⟩ rfl rfl 0 0 rfl rfl rfl rfl (Nat.le_of_ble_eq_true rfl) (ff_cons (xl_fst _ _ _ _ _ _ _ _ _ _ _ _) (ff_nil)) (ws' := [xl xx xn xt xk xe xo xv xc xr cI (x_rf Z 1), wl xn cI S]) rfl ?_
  exact G.iret X Rr (v := (-(nI 1))) dX6_answers_16 (pi_mk (by rfl) (by rfl))

set_option maxRecDepth 20000 in
theorem tX6_answers_no (l : Launch) (D : va_G) (cI cW : ClassId) (xx : Nat → Nat) (xn : Nat → Nat) (xt : Nat → Nat) (xk : Nat → Nat) (xe : Nat → Nat) (xo : Nat → Nat) (xv : Nat → Nat) (xc : Nat → Nat) (xr : Nat → Nat) (Z : Bool × FN) (S : WS) (p : Nat) (hS : Ok S) (hp : p < s_th S) (ha : (ask S p && w_kno S p) = false) : CT l D cI cW yX6_answers cX6_answers 2 (some .int) ⟨3, 0, 0, 64⟩ [.ref (xx 0), .int (nI p)] ([xl xx xn xt xk xe xo xv xc xr cI Z, wl xn cI S]) (PI (-3) ([xl xx xn xt xk xe xo xv xc xr cI (x_rf Z 3), wl xn cI S])) := by
  refine CT.of RX6 rfl (by decide +kernel) (Nat.le_of_ble_eq_true rfl) [(0, .ref (xx 0)), (1, .int (nI p))] rfl (fun x X Rr hnm => ?_)
  have hth := hS.th
  have hpe := hS.pe
  refine G.al X dX6_answers_0 0 rfl ?_
  refine G.get X fX6_10 dX6_answers_1 0 0 rfl rfl rfl ?_
  refine G.il X dX6_answers_4 1 rfl ?_
  refine G.cvi X kX5_isThing lX6_107 dX6_answers_5 (tX5_isThing l D cI cW xn S (nI p) (by omega)) ⟨Nat.le_of_ble_eq_true rfl, Nat.le_of_ble_eq_true rfl⟩ ⟨Nat.zero_le _, Nat.zero_le _⟩ [1] rfl ⟨rfl, rfl⟩ rfl rfl 1 0 rfl rfl rfl rfl (Nat.le_of_ble_eq_true rfl) (ff_cons (wl_fst _ _ _ _) (ff_nil)) (ws' := [xl xx xn xt xk xe xo xv xc xr cI Z, wl xn cI S]) rfl ?_
  refine G.b_ne X dX6_answers_8 (fun b8 => ?_) (fun b8 => absurd (Eq.trans (Eq.symm (z_in_nI hp (by omega))) b8) (by decide))
  refine G.al X dX6_answers_17 0 rfl ?_
  refine G.get X fX6_10 dX6_answers_18 0 0 rfl rfl rfl ?_
  refine G.il X dX6_answers_21 1 rfl ?_
  refine G.cvi X kX5_asks lX6_128 dX6_answers_22 (tX5_asks l D cI cW xn S p (by omega)) ⟨Nat.le_of_ble_eq_true rfl, Nat.le_of_ble_eq_true rfl⟩ ⟨Nat.zero_le _, Nat.zero_le _⟩ [1] rfl ⟨rfl, rfl⟩ rfl rfl 1 0 rfl rfl rfl rfl (Nat.le_of_ble_eq_true rfl) (ff_cons (wl_fst _ _ _ _) (ff_nil)) (ws' := [xl xx xn xt xk xe xo xv xc xr cI Z, wl xn cI S]) rfl ?_
  refine G.b_eq X dX6_answers_25 (fun b25 => ?_) (fun b25 => ?_)
  · refine G.al X dX6_answers_39 0 rfl ?_
    refine G.pu X dX6_answers_40 ?_
    refine G.cvi X kX6_refuse lX6_65 dX6_answers_42 (tX6_refuse l D cI cW xx xn xt xk xe xo xv xc xr Z 3 (by omega) (by omega)) ⟨Nat.le_of_ble_eq_true rfl, Nat.le_of_ble_eq_true rfl⟩ ⟨Nat.zero_le _, Nat.zero_le _⟩ [0] rfl ⟨rfl, rfl⟩ rfl rfl 0 0 rfl rfl rfl rfl (Nat.le_of_ble_eq_true rfl) (ff_cons (xl_fst _ _ _ _ _ _ _ _ _ _ _ _) (ff_nil)) (ws' := [xl xx xn xt xk xe xo xv xc xr cI (x_rf Z 3), wl xn cI S]) rfl ?_
    exact G.iret X Rr (v := (-(nI 3))) dX6_answers_45 (pi_mk (by rfl) (by rfl))
  · refine G.al X dX6_answers_28 0 rfl ?_
    refine G.get X fX6_10 dX6_answers_29 0 0 rfl rfl rfl ?_
    refine G.il X dX6_answers_32 1 rfl ?_
    refine G.cvi X kX5_dropperKnows lX6_148 dX6_answers_33 (tX5_dropperKnows l D cI cW xn S p hS (by omega)) ⟨Nat.le_of_ble_eq_true rfl, Nat.le_of_ble_eq_true rfl⟩ ⟨Nat.zero_le _, Nat.zero_le _⟩ [1] rfl ⟨rfl, rfl⟩ rfl rfl 1 0 rfl rfl rfl rfl (Nat.le_of_ble_eq_true rfl) (ff_cons (wl_fst _ _ _ _) (ff_nil)) (ws' := [xl xx xn xt xk xe xo xv xc xr cI Z, wl xn cI S]) rfl ?_
    refine G.b_ne X dX6_answers_36 (fun b36 => absurd b36 ((by rw [b25] at ha; simp at ha; simp [ha]))) (fun b36 => ?_)
    refine G.al X dX6_answers_39 0 rfl ?_
    refine G.pu X dX6_answers_40 ?_
    refine G.cvi X kX6_refuse lX6_65 dX6_answers_42 (tX6_refuse l D cI cW xx xn xt xk xe xo xv xc xr Z 3 (by omega) (by omega)) ⟨Nat.le_of_ble_eq_true rfl, Nat.le_of_ble_eq_true rfl⟩ ⟨Nat.zero_le _, Nat.zero_le _⟩ [0] rfl ⟨rfl, rfl⟩ rfl rfl 0 0 rfl rfl rfl rfl (Nat.le_of_ble_eq_true rfl) (ff_cons (xl_fst _ _ _ _ _ _ _ _ _ _ _ _) (ff_nil)) (ws' := [xl xx xn xt xk xe xo xv xc xr cI (x_rf Z 3), wl xn cI S]) rfl ?_
    exact G.iret X Rr (v := (-(nI 3))) dX6_answers_45 (pi_mk (by rfl) (by rfl))

set_option maxRecDepth 20000 in
theorem tX6_answers_ok (l : Launch) (D : va_G) (cI cW : ClassId) (xx : Nat → Nat) (xn : Nat → Nat) (xt : Nat → Nat) (xk : Nat → Nat) (xe : Nat → Nat) (xo : Nat → Nat) (xv : Nat → Nat) (xc : Nat → Nat) (xr : Nat → Nat) (Z : Bool × FN) (S : WS) (p : Nat) (hS : Ok S) (hp : p < s_th S) (ha : ask S p = true) (hb : w_kno S p = true) : CT l D cI cW yX6_answers cX6_answers 2 (some .int) ⟨3, 0, 0, 64⟩ [.ref (xx 0), .int (nI p)] ([xl xx xn xt xk xe xo xv xc xr cI Z, wl xn cI S]) (PI (s_le (w_ans1 S p) p) ([xl xx xn xt xk xe xo xv xc xr cI Z, wl xn cI (w_ans1 S p)])) := by
  refine CT.of RX6 rfl (by decide +kernel) (Nat.le_of_ble_eq_true rfl) [(0, .ref (xx 0)), (1, .int (nI p))] rfl (fun x X Rr hnm => ?_)
  have hth := hS.th
  have hpe := hS.pe
  refine G.al X dX6_answers_0 0 rfl ?_
  refine G.get X fX6_10 dX6_answers_1 0 0 rfl rfl rfl ?_
  refine G.il X dX6_answers_4 1 rfl ?_
  refine G.cvi X kX5_isThing lX6_107 dX6_answers_5 (tX5_isThing l D cI cW xn S (nI p) (by omega)) ⟨Nat.le_of_ble_eq_true rfl, Nat.le_of_ble_eq_true rfl⟩ ⟨Nat.zero_le _, Nat.zero_le _⟩ [1] rfl ⟨rfl, rfl⟩ rfl rfl 1 0 rfl rfl rfl rfl (Nat.le_of_ble_eq_true rfl) (ff_cons (wl_fst _ _ _ _) (ff_nil)) (ws' := [xl xx xn xt xk xe xo xv xc xr cI Z, wl xn cI S]) rfl ?_
  refine G.b_ne X dX6_answers_8 (fun b8 => ?_) (fun b8 => absurd (Eq.trans (Eq.symm (z_in_nI hp (by omega))) b8) (by decide))
  refine G.al X dX6_answers_17 0 rfl ?_
  refine G.get X fX6_10 dX6_answers_18 0 0 rfl rfl rfl ?_
  refine G.il X dX6_answers_21 1 rfl ?_
  refine G.cvi X kX5_asks lX6_128 dX6_answers_22 (tX5_asks l D cI cW xn S p (by omega)) ⟨Nat.le_of_ble_eq_true rfl, Nat.le_of_ble_eq_true rfl⟩ ⟨Nat.zero_le _, Nat.zero_le _⟩ [1] rfl ⟨rfl, rfl⟩ rfl rfl 1 0 rfl rfl rfl rfl (Nat.le_of_ble_eq_true rfl) (ff_cons (wl_fst _ _ _ _) (ff_nil)) (ws' := [xl xx xn xt xk xe xo xv xc xr cI Z, wl xn cI S]) rfl ?_
  refine G.b_eq X dX6_answers_25 (fun b25 => absurd (Eq.trans (Eq.symm ha) b25) (by decide)) (fun b25 => ?_)
  refine G.al X dX6_answers_28 0 rfl ?_
  refine G.get X fX6_10 dX6_answers_29 0 0 rfl rfl rfl ?_
  refine G.il X dX6_answers_32 1 rfl ?_
  refine G.cvi X kX5_dropperKnows lX6_148 dX6_answers_33 (tX5_dropperKnows l D cI cW xn S p hS (by omega)) ⟨Nat.le_of_ble_eq_true rfl, Nat.le_of_ble_eq_true rfl⟩ ⟨Nat.zero_le _, Nat.zero_le _⟩ [1] rfl ⟨rfl, rfl⟩ rfl rfl 1 0 rfl rfl rfl rfl (Nat.le_of_ble_eq_true rfl) (ff_cons (wl_fst _ _ _ _) (ff_nil)) (ws' := [xl xx xn xt xk xe xo xv xc xr cI Z, wl xn cI S]) rfl ?_
  refine G.b_ne X dX6_answers_36 (fun b36 => ?_) (fun b36 => absurd (Eq.trans (Eq.symm hb) b36) (by decide))
  refine G.al X dX6_answers_46 0 rfl ?_
  refine G.get X fX6_10 dX6_answers_47 0 0 rfl rfl rfl ?_
  refine G.il X dX6_answers_50 1 rfl ?_
  refine G.cvv X kX5_answerOnce lX6_151 dX6_answers_51 (tX5_answerOnce l D cI cW xn S p hS (by omega)) ⟨Nat.le_of_ble_eq_true rfl, Nat.le_of_ble_eq_true rfl⟩ ⟨Nat.zero_le _, Nat.zero_le _⟩ [1] rfl ⟨rfl, rfl⟩ rfl rfl 1 0 rfl rfl rfl rfl (Nat.le_of_ble_eq_true rfl) (ff_cons (wl_fst _ _ _ _) (ff_nil)) (ws' := [xl xx xn xt xk xe xo xv xc xr cI Z, wl xn cI (w_ans1 S p)]) rfl ?_
  refine G.al X dX6_answers_54 0 rfl ?_
  refine G.get X fX6_10 dX6_answers_55 0 0 rfl rfl rfl ?_
  refine G.get X fX6_122 dX6_answers_58 1 0 rfl rfl rfl ?_
  refine G.il X dX6_answers_61 1 rfl ?_
  refine G.nld X (i := p) dX6_answers_62 1 8 rfl rfl (by omega) (by decide) ?_
  exact G.iret X Rr (v := ((s_le (w_ans1 S p)) p)) dX6_answers_63 (pi_mk (by rfl) (by rfl))

set_option maxRecDepth 20000 in
theorem tX6_days_lo (l : Launch) (D : va_G) (cI cW : ClassId) (xx : Nat → Nat) (xn : Nat → Nat) (xt : Nat → Nat) (xk : Nat → Nat) (xe : Nat → Nat) (xo : Nat → Nat) (xv : Nat → Nat) (xc : Nat → Nat) (xr : Nat → Nat) (Z : Bool × FN) (S : WS) (n : Int32) (hS : Ok S) (h1 : n < 1) : CT l D cI cW yX6_days cX6_days 2 (some .int) ⟨1, 0, 0, 22⟩ [.ref (xx 0), .int n] ([xl xx xn xt xk xe xo xv xc xr cI Z, wl xn cI S]) (PI (-4) ([xl xx xn xt xk xe xo xv xc xr cI (x_rf Z 4), wl xn cI S])) := by
  refine CT.of RX6 rfl (by decide +kernel) (Nat.le_of_ble_eq_true rfl) [(0, .ref (xx 0)), (1, .int n)] rfl (fun x X Rr hnm => ?_)
  have hth := hS.th
  have hpe := hS.pe
  refine G.il X dX6_days_0 1 rfl ?_
  refine G.pu X dX6_days_1 ?_
  refine G.c_ge X (a := n) (b := 1) dX6_days_2 (fun b2 => absurd (h1) b2) (fun b2 => ?_)
  refine G.al X dX6_days_5 0 rfl ?_
  refine G.pu X dX6_days_6 ?_
  refine G.cvi X kX6_refuse lX6_65 dX6_days_8 (tX6_refuse l D cI cW xx xn xt xk xe xo xv xc xr Z 4 (by omega) (by omega)) ⟨Nat.le_of_ble_eq_true rfl, Nat.le_of_ble_eq_true rfl⟩ ⟨Nat.zero_le _, Nat.zero_le _⟩ [0] rfl ⟨rfl, rfl⟩ rfl rfl 0 0 rfl rfl rfl rfl (Nat.le_of_ble_eq_true rfl) (ff_cons (xl_fst _ _ _ _ _ _ _ _ _ _ _ _) (ff_nil)) (ws' := [xl xx xn xt xk xe xo xv xc xr cI (x_rf Z 4), wl xn cI S]) rfl ?_
  exact G.iret X Rr (v := (-(nI 4))) dX6_days_11 (pi_mk (by rfl) (by rfl))

set_option maxRecDepth 20000 in
theorem tX6_days_hi (l : Launch) (D : va_G) (cI cW : ClassId) (xx : Nat → Nat) (xn : Nat → Nat) (xt : Nat → Nat) (xk : Nat → Nat) (xe : Nat → Nat) (xo : Nat → Nat) (xv : Nat → Nat) (xc : Nat → Nat) (xr : Nat → Nat) (Z : Bool × FN) (S : WS) (n : Int32) (hS : Ok S) (h1 : ¬ n < 1) (h2 : 60 < n ∨ 999 < s_da S + n) : CT l D cI cW yX6_days cX6_days 2 (some .int) ⟨1, 0, 0, 22⟩ [.ref (xx 0), .int n] ([xl xx xn xt xk xe xo xv xc xr cI Z, wl xn cI S]) (PI (-6) ([xl xx xn xt xk xe xo xv xc xr cI (x_rf Z 6), wl xn cI S])) := by
  refine CT.of RX6 rfl (by decide +kernel) (Nat.le_of_ble_eq_true rfl) [(0, .ref (xx 0)), (1, .int n)] rfl (fun x X Rr hnm => ?_)
  have hth := hS.th
  have hpe := hS.pe
  refine G.il X dX6_days_0 1 rfl ?_
  refine G.pu X dX6_days_1 ?_
  refine G.c_ge X (a := n) (b := 1) dX6_days_2 (fun b2 => ?_) (fun b2 => absurd b2 (h1))
  refine G.al X dX6_days_12 0 rfl ?_
  refine G.get X fX6_10 dX6_days_13 0 0 rfl rfl rfl ?_
  refine G.il X dX6_days_16 1 rfl ?_
  refine G.cvi X kX5_passDays lX6_155 dX6_days_17 (tX5_passDays_bad l D cI cW xn S n (Or.inr h2)) ⟨Nat.le_of_ble_eq_true rfl, Nat.le_of_ble_eq_true rfl⟩ ⟨Nat.zero_le _, Nat.zero_le _⟩ [1] rfl ⟨rfl, rfl⟩ rfl rfl 1 0 rfl rfl rfl rfl (Nat.le_of_ble_eq_true rfl) (ff_cons (wl_fst _ _ _ _) (ff_nil)) (ws' := [xl xx xn xt xk xe xo xv xc xr cI Z, wl xn cI S]) rfl ?_
  refine G.b_ne X dX6_days_20 (fun b20 => absurd b20 (by decide)) (fun b20 => ?_)
  refine G.al X dX6_days_23 0 rfl ?_
  refine G.pu X dX6_days_24 ?_
  refine G.cvi X kX6_refuse lX6_65 dX6_days_26 (tX6_refuse l D cI cW xx xn xt xk xe xo xv xc xr Z 6 (by omega) (by omega)) ⟨Nat.le_of_ble_eq_true rfl, Nat.le_of_ble_eq_true rfl⟩ ⟨Nat.zero_le _, Nat.zero_le _⟩ [0] rfl ⟨rfl, rfl⟩ rfl rfl 0 0 rfl rfl rfl rfl (Nat.le_of_ble_eq_true rfl) (ff_cons (xl_fst _ _ _ _ _ _ _ _ _ _ _ _) (ff_nil)) (ws' := [xl xx xn xt xk xe xo xv xc xr cI (x_rf Z 6), wl xn cI S]) rfl ?_
  exact G.iret X Rr (v := (-(nI 6))) dX6_days_29 (pi_mk (by rfl) (by rfl))

set_option maxRecDepth 20000 in
theorem tX6_days_ok (l : Launch) (D : va_G) (cI cW : ClassId) (xx : Nat → Nat) (xn : Nat → Nat) (xt : Nat → Nat) (xk : Nat → Nat) (xe : Nat → Nat) (xo : Nat → Nat) (xv : Nat → Nat) (xc : Nat → Nat) (xr : Nat → Nat) (Z : Bool × FN) (S : WS) (n : Nat) (hS : Ok S) (h1 : 1 ≤ n) (h2 : n ≤ 60) (h3 : ¬ 999 < s_da S + nI n) : CT l D cI cW yX6_days cX6_days 2 (some .int) ⟨4, 0, 0, 89⟩ [.ref (xx 0), .int (nI n)] ([xl xx xn xt xk xe xo xv xc xr cI Z, wl xn cI S]) (PI (b2i (w_wat (w_dayN S n))) ([xl xx xn xt xk xe xo xv xc xr cI Z, wl xn cI (w_dayN S n)])) := by
  refine CT.of RX6 rfl (by decide +kernel) (Nat.le_of_ble_eq_true rfl) [(0, .ref (xx 0)), (1, .int (nI n))] rfl (fun x X Rr hnm => ?_)
  have hth := hS.th
  have hpe := hS.pe
  refine G.il X dX6_days_0 1 rfl ?_
  refine G.pu X dX6_days_1 ?_
  refine G.n_ge X (a := n) (b := 1) (by omega) (by omega) dX6_days_2 (fun b2 => ?_) (fun b2 => absurd b2 (by omega))
  refine G.al X dX6_days_12 0 rfl ?_
  refine G.get X fX6_10 dX6_days_13 0 0 rfl rfl rfl ?_
  refine G.il X dX6_days_16 1 rfl ?_
  refine G.cvi X kX5_passDays lX6_155 dX6_days_17 (tX5_passDays l D cI cW xn S n hS (by omega) (by omega) h3) ⟨Nat.le_of_ble_eq_true rfl, Nat.le_of_ble_eq_true rfl⟩ ⟨Nat.zero_le _, Nat.zero_le _⟩ [1] rfl ⟨rfl, rfl⟩ rfl rfl 1 0 rfl rfl rfl rfl (Nat.le_of_ble_eq_true rfl) (ff_cons (wl_fst _ _ _ _) (ff_nil)) (ws' := [xl xx xn xt xk xe xo xv xc xr cI Z, wl xn cI (w_dayN S n)]) rfl ?_
  refine G.b_ne X dX6_days_20 (fun b20 => ?_) (fun b20 => absurd b20 (by decide))
  refine G.al X dX6_days_30 0 rfl ?_
  refine G.get X fX6_10 dX6_days_31 0 0 rfl rfl rfl ?_
  refine G.cvi X kX5_hasWater lX6_158 dX6_days_34 (tX5_hasWater l D cI cW xn (w_dayN S n) (ok_dayN hS n).th) ⟨Nat.le_of_ble_eq_true rfl, Nat.le_of_ble_eq_true rfl⟩ ⟨Nat.zero_le _, Nat.zero_le _⟩ [1] rfl ⟨rfl, rfl⟩ rfl rfl 1 0 rfl rfl rfl rfl (Nat.le_of_ble_eq_true rfl) (ff_cons (wl_fst _ _ _ _) (ff_nil)) (ws' := [xl xx xn xt xk xe xo xv xc xr cI Z, wl xn cI (w_dayN S n)]) rfl ?_
  refine G.b_eq X dX6_days_37 (fun b37 => ?_) (fun b37 => ?_)
  · refine G.pu X dX6_days_44 ?_
    exact G.iret X Rr (v := 0) dX6_days_45 (pi_mk (by simp [b2i, b2, b37]) (by rfl))
  · refine G.pu X dX6_days_40 ?_
    refine G.go X dX6_days_41 ?_
    exact G.iret X Rr (v := 1) dX6_days_45 (pi_mk (by simp [b2i, b2, b37]) (by rfl))

set_option maxRecDepth 20000 in
theorem tX6_thingThen_bad (l : Launch) (D : va_G) (cI cW : ClassId) (xx : Nat → Nat) (xn : Nat → Nat) (xt : Nat → Nat) (xk : Nat → Nat) (xe : Nat → Nat) (xo : Nat → Nat) (xv : Nat → Nat) (xc : Nat → Nat) (xr : Nat → Nat) (Z : Bool × FN) (S : WS) (p : Int32) (n : Int32) (w : Int32) (hS : Ok S) (hp : z_in p (s_th S) = false) : CT l D cI cW yX6_thingThen cX6_thingThen 6 (some .int) ⟨1, 0, 0, 22⟩ [.ref (xx 0), .int p, .int n, .int w] ([xl xx xn xt xk xe xo xv xc xr cI Z, wl xn cI S]) (PI (-1) ([xl xx xn xt xk xe xo xv xc xr cI (x_rf Z 1), wl xn cI S])) := by
  refine CT.of RX6 rfl (by decide +kernel) (Nat.le_of_ble_eq_true rfl) [(0, .ref (xx 0)), (1, .int p), (2, .int n), (3, .int w)] rfl (fun x X Rr hnm => ?_)
  have hth := hS.th
  have hpe := hS.pe
  refine G.al X dX6_thingThen_0 0 rfl ?_
  refine G.get X fX6_10 dX6_thingThen_1 0 0 rfl rfl rfl ?_
  refine G.il X dX6_thingThen_4 1 rfl ?_
  refine G.cvi X kX5_isThing lX6_107 dX6_thingThen_5 (tX5_isThing l D cI cW xn S p (by omega)) ⟨Nat.le_of_ble_eq_true rfl, Nat.le_of_ble_eq_true rfl⟩ ⟨Nat.zero_le _, Nat.zero_le _⟩ [1] rfl ⟨rfl, rfl⟩ rfl rfl 1 0 rfl rfl rfl rfl (Nat.le_of_ble_eq_true rfl) (ff_cons (wl_fst _ _ _ _) (ff_nil)) (ws' := [xl xx xn xt xk xe xo xv xc xr cI Z, wl xn cI S]) rfl ?_
  refine G.b_ne X dX6_thingThen_8 (fun b8 => absurd (Eq.trans (Eq.symm hp) b8) (by decide)) (fun b8 => ?_)
  refine G.al X dX6_thingThen_11 0 rfl ?_
  refine G.pu X dX6_thingThen_12 ?_
  refine G.cvi X kX6_refuse lX6_65 dX6_thingThen_13 (tX6_refuse l D cI cW xx xn xt xk xe xo xv xc xr Z 1 (by omega) (by omega)) ⟨Nat.le_of_ble_eq_true rfl, Nat.le_of_ble_eq_true rfl⟩ ⟨Nat.zero_le _, Nat.zero_le _⟩ [0] rfl ⟨rfl, rfl⟩ rfl rfl 0 0 rfl rfl rfl rfl (Nat.le_of_ble_eq_true rfl) (ff_cons (xl_fst _ _ _ _ _ _ _ _ _ _ _ _) (ff_nil)) (ws' := [xl xx xn xt xk xe xo xv xc xr cI (x_rf Z 1), wl xn cI S]) rfl ?_
  exact G.iret X Rr (v := (-(nI 1))) dX6_thingThen_16 (pi_mk (by rfl) (by rfl))

set_option maxRecDepth 20000 in
theorem tX6_thingThen_lo (l : Launch) (D : va_G) (cI cW : ClassId) (xx : Nat → Nat) (xn : Nat → Nat) (xt : Nat → Nat) (xk : Nat → Nat) (xe : Nat → Nat) (xo : Nat → Nat) (xv : Nat → Nat) (xc : Nat → Nat) (xr : Nat → Nat) (Z : Bool × FN) (S : WS) (p : Nat) (n : Int32) (w : Int32) (hS : Ok S) (hp : p < s_th S) (h1 : n < 0) : CT l D cI cW yX6_thingThen cX6_thingThen 6 (some .int) ⟨2, 0, 0, 47⟩ [.ref (xx 0), .int (nI p), .int n, .int w] ([xl xx xn xt xk xe xo xv xc xr cI Z, wl xn cI S]) (PI (-4) ([xl xx xn xt xk xe xo xv xc xr cI (x_rf Z 4), wl xn cI S])) := by
  refine CT.of RX6 rfl (by decide +kernel) (Nat.le_of_ble_eq_true rfl) [(0, .ref (xx 0)), (1, .int (nI p)), (2, .int n), (3, .int w)] rfl (fun x X Rr hnm => ?_)
  have hth := hS.th
  have hpe := hS.pe
  refine G.al X dX6_thingThen_0 0 rfl ?_
  refine G.get X fX6_10 dX6_thingThen_1 0 0 rfl rfl rfl ?_
  refine G.il X dX6_thingThen_4 1 rfl ?_
  refine G.cvi X kX5_isThing lX6_107 dX6_thingThen_5 (tX5_isThing l D cI cW xn S (nI p) (by omega)) ⟨Nat.le_of_ble_eq_true rfl, Nat.le_of_ble_eq_true rfl⟩ ⟨Nat.zero_le _, Nat.zero_le _⟩ [1] rfl ⟨rfl, rfl⟩ rfl rfl 1 0 rfl rfl rfl rfl (Nat.le_of_ble_eq_true rfl) (ff_cons (wl_fst _ _ _ _) (ff_nil)) (ws' := [xl xx xn xt xk xe xo xv xc xr cI Z, wl xn cI S]) rfl ?_
  refine G.b_ne X dX6_thingThen_8 (fun b8 => ?_) (fun b8 => absurd (Eq.trans (Eq.symm (z_in_nI hp (by omega))) b8) (by decide))
  refine G.il X dX6_thingThen_17 2 rfl ?_
  refine G.pu X dX6_thingThen_18 ?_
  refine G.pu X dX6_thingThen_19 ?_
  refine G.il X dX6_thingThen_21 3 rfl ?_
  refine G.pu X dX6_thingThen_22 ?_
  refine G.csti X kX6_outsideOrOther lX6_162 dX6_thingThen_23 (tX6_outsideOrOther_lo l D cI cW n 0 99 w 1 h1) ⟨Nat.le_of_ble_eq_true rfl, Nat.le_of_ble_eq_true rfl⟩ ⟨Nat.zero_le _, Nat.zero_le _⟩ [] rfl ⟨rfl, rfl⟩ rfl rfl rfl (Nat.le_of_ble_eq_true rfl) (ff_nil) (ws' := [xl xx xn xt xk xe xo xv xc xr cI Z, wl xn cI S]) rfl ?_
  refine G.is X dX6_thingThen_26 (by decide) (lv' := [(4, .int (-4)), (0, .ref (xx 0)), (1, .int (nI p)), (2, .int n), (3, .int w)]) rfl ?_
  refine G.il X dX6_thingThen_28 0 rfl ?_
  refine G.z_eq X (a := (-4)) dX6_thingThen_30 (fun b30 => absurd b30 (by decide)) (fun b30 => ?_)
  refine G.al X dX6_thingThen_33 1 rfl ?_
  refine G.il X dX6_thingThen_34 0 rfl ?_
  refine G.cvi X kX6_refuse lX6_65 dX6_thingThen_36 (tX6_refuse l D cI cW xx xn xt xk xe xo xv xc xr Z 4 (by omega) (by omega)) ⟨Nat.le_of_ble_eq_true rfl, Nat.le_of_ble_eq_true rfl⟩ ⟨Nat.zero_le _, Nat.zero_le _⟩ [0] rfl ⟨rfl, rfl⟩ rfl rfl 0 0 rfl rfl rfl rfl (Nat.le_of_ble_eq_true rfl) (ff_cons (xl_fst _ _ _ _ _ _ _ _ _ _ _ _) (ff_nil)) (ws' := [xl xx xn xt xk xe xo xv xc xr cI (x_rf Z 4), wl xn cI S]) rfl ?_
  exact G.iret X Rr (v := (-(nI 4))) dX6_thingThen_39 (pi_mk (by rfl) (by rfl))

set_option maxRecDepth 20000 in
theorem tX6_thingThen_hi (l : Launch) (D : va_G) (cI cW : ClassId) (xx : Nat → Nat) (xn : Nat → Nat) (xt : Nat → Nat) (xk : Nat → Nat) (xe : Nat → Nat) (xo : Nat → Nat) (xv : Nat → Nat) (xc : Nat → Nat) (xr : Nat → Nat) (Z : Bool × FN) (S : WS) (p : Nat) (n : Int32) (w : Int32) (hS : Ok S) (hp : p < s_th S) (h1 : ¬ n < 0) (h2 : 99 < n) : CT l D cI cW yX6_thingThen cX6_thingThen 6 (some .int) ⟨2, 0, 0, 47⟩ [.ref (xx 0), .int (nI p), .int n, .int w] ([xl xx xn xt xk xe xo xv xc xr cI Z, wl xn cI S]) (PI (-6) ([xl xx xn xt xk xe xo xv xc xr cI (x_rf Z 6), wl xn cI S])) := by
  refine CT.of RX6 rfl (by decide +kernel) (Nat.le_of_ble_eq_true rfl) [(0, .ref (xx 0)), (1, .int (nI p)), (2, .int n), (3, .int w)] rfl (fun x X Rr hnm => ?_)
  have hth := hS.th
  have hpe := hS.pe
  refine G.al X dX6_thingThen_0 0 rfl ?_
  refine G.get X fX6_10 dX6_thingThen_1 0 0 rfl rfl rfl ?_
  refine G.il X dX6_thingThen_4 1 rfl ?_
  refine G.cvi X kX5_isThing lX6_107 dX6_thingThen_5 (tX5_isThing l D cI cW xn S (nI p) (by omega)) ⟨Nat.le_of_ble_eq_true rfl, Nat.le_of_ble_eq_true rfl⟩ ⟨Nat.zero_le _, Nat.zero_le _⟩ [1] rfl ⟨rfl, rfl⟩ rfl rfl 1 0 rfl rfl rfl rfl (Nat.le_of_ble_eq_true rfl) (ff_cons (wl_fst _ _ _ _) (ff_nil)) (ws' := [xl xx xn xt xk xe xo xv xc xr cI Z, wl xn cI S]) rfl ?_
  refine G.b_ne X dX6_thingThen_8 (fun b8 => ?_) (fun b8 => absurd (Eq.trans (Eq.symm (z_in_nI hp (by omega))) b8) (by decide))
  refine G.il X dX6_thingThen_17 2 rfl ?_
  refine G.pu X dX6_thingThen_18 ?_
  refine G.pu X dX6_thingThen_19 ?_
  refine G.il X dX6_thingThen_21 3 rfl ?_
  refine G.pu X dX6_thingThen_22 ?_
  refine G.csti X kX6_outsideOrOther lX6_162 dX6_thingThen_23 (tX6_outsideOrOther_hi l D cI cW n 0 99 w 1 h1 h2) ⟨Nat.le_of_ble_eq_true rfl, Nat.le_of_ble_eq_true rfl⟩ ⟨Nat.zero_le _, Nat.zero_le _⟩ [] rfl ⟨rfl, rfl⟩ rfl rfl rfl (Nat.le_of_ble_eq_true rfl) (ff_nil) (ws' := [xl xx xn xt xk xe xo xv xc xr cI Z, wl xn cI S]) rfl ?_
  refine G.is X dX6_thingThen_26 (by decide) (lv' := [(4, .int (-6)), (0, .ref (xx 0)), (1, .int (nI p)), (2, .int n), (3, .int w)]) rfl ?_
  refine G.il X dX6_thingThen_28 0 rfl ?_
  refine G.z_eq X (a := (-6)) dX6_thingThen_30 (fun b30 => absurd b30 (by decide)) (fun b30 => ?_)
  refine G.al X dX6_thingThen_33 1 rfl ?_
  refine G.il X dX6_thingThen_34 0 rfl ?_
  refine G.cvi X kX6_refuse lX6_65 dX6_thingThen_36 (tX6_refuse l D cI cW xx xn xt xk xe xo xv xc xr Z 6 (by omega) (by omega)) ⟨Nat.le_of_ble_eq_true rfl, Nat.le_of_ble_eq_true rfl⟩ ⟨Nat.zero_le _, Nat.zero_le _⟩ [0] rfl ⟨rfl, rfl⟩ rfl rfl 0 0 rfl rfl rfl rfl (Nat.le_of_ble_eq_true rfl) (ff_cons (xl_fst _ _ _ _ _ _ _ _ _ _ _ _) (ff_nil)) (ws' := [xl xx xn xt xk xe xo xv xc xr cI (x_rf Z 6), wl xn cI S]) rfl ?_
  exact G.iret X Rr (v := (-(nI 6))) dX6_thingThen_39 (pi_mk (by rfl) (by rfl))

set_option maxRecDepth 20000 in
theorem tX6_thingThen_oth (l : Launch) (D : va_G) (cI cW : ClassId) (xx : Nat → Nat) (xn : Nat → Nat) (xt : Nat → Nat) (xk : Nat → Nat) (xe : Nat → Nat) (xo : Nat → Nat) (xv : Nat → Nat) (xc : Nat → Nat) (xr : Nat → Nat) (Z : Bool × FN) (S : WS) (p : Nat) (n : Nat) (w : Int32) (hS : Ok S) (hp : p < s_th S) (hn : n ≤ 99) (hw : z_in w 2 = false) : CT l D cI cW yX6_thingThen cX6_thingThen 6 (some .int) ⟨2, 0, 0, 47⟩ [.ref (xx 0), .int (nI p), .int (nI n), .int w] ([xl xx xn xt xk xe xo xv xc xr cI Z, wl xn cI S]) (PI (-2) ([xl xx xn xt xk xe xo xv xc xr cI (x_rf Z 2), wl xn cI S])) := by
  refine CT.of RX6 rfl (by decide +kernel) (Nat.le_of_ble_eq_true rfl) [(0, .ref (xx 0)), (1, .int (nI p)), (2, .int (nI n)), (3, .int w)] rfl (fun x X Rr hnm => ?_)
  have hth := hS.th
  have hpe := hS.pe
  refine G.al X dX6_thingThen_0 0 rfl ?_
  refine G.get X fX6_10 dX6_thingThen_1 0 0 rfl rfl rfl ?_
  refine G.il X dX6_thingThen_4 1 rfl ?_
  refine G.cvi X kX5_isThing lX6_107 dX6_thingThen_5 (tX5_isThing l D cI cW xn S (nI p) (by omega)) ⟨Nat.le_of_ble_eq_true rfl, Nat.le_of_ble_eq_true rfl⟩ ⟨Nat.zero_le _, Nat.zero_le _⟩ [1] rfl ⟨rfl, rfl⟩ rfl rfl 1 0 rfl rfl rfl rfl (Nat.le_of_ble_eq_true rfl) (ff_cons (wl_fst _ _ _ _) (ff_nil)) (ws' := [xl xx xn xt xk xe xo xv xc xr cI Z, wl xn cI S]) rfl ?_
  refine G.b_ne X dX6_thingThen_8 (fun b8 => ?_) (fun b8 => absurd (Eq.trans (Eq.symm (z_in_nI hp (by omega))) b8) (by decide))
  refine G.il X dX6_thingThen_17 2 rfl ?_
  refine G.pu X dX6_thingThen_18 ?_
  refine G.pu X dX6_thingThen_19 ?_
  refine G.il X dX6_thingThen_21 3 rfl ?_
  refine G.pu X dX6_thingThen_22 ?_
  refine G.csti X kX6_outsideOrOther lX6_162 dX6_thingThen_23 (tX6_outsideOrOther_oth l D cI cW n 0 99 w (by omega) (by omega) (by omega) (z_bad2 hw)) ⟨Nat.le_of_ble_eq_true rfl, Nat.le_of_ble_eq_true rfl⟩ ⟨Nat.zero_le _, Nat.zero_le _⟩ [] rfl ⟨rfl, rfl⟩ rfl rfl rfl (Nat.le_of_ble_eq_true rfl) (ff_nil) (ws' := [xl xx xn xt xk xe xo xv xc xr cI Z, wl xn cI S]) rfl ?_
  refine G.is X dX6_thingThen_26 (by decide) (lv' := [(4, .int (-2)), (0, .ref (xx 0)), (1, .int (nI p)), (2, .int (nI n)), (3, .int w)]) rfl ?_
  refine G.il X dX6_thingThen_28 0 rfl ?_
  refine G.z_eq X (a := (-2)) dX6_thingThen_30 (fun b30 => absurd b30 (by decide)) (fun b30 => ?_)
  refine G.al X dX6_thingThen_33 1 rfl ?_
  refine G.il X dX6_thingThen_34 0 rfl ?_
  refine G.cvi X kX6_refuse lX6_65 dX6_thingThen_36 (tX6_refuse l D cI cW xx xn xt xk xe xo xv xc xr Z 2 (by omega) (by omega)) ⟨Nat.le_of_ble_eq_true rfl, Nat.le_of_ble_eq_true rfl⟩ ⟨Nat.zero_le _, Nat.zero_le _⟩ [0] rfl ⟨rfl, rfl⟩ rfl rfl 0 0 rfl rfl rfl rfl (Nat.le_of_ble_eq_true rfl) (ff_cons (xl_fst _ _ _ _ _ _ _ _ _ _ _ _) (ff_nil)) (ws' := [xl xx xn xt xk xe xo xv xc xr cI (x_rf Z 2), wl xn cI S]) rfl ?_
  exact G.iret X Rr (v := (-(nI 2))) dX6_thingThen_39 (pi_mk (by rfl) (by rfl))

set_option maxRecDepth 20000 in
theorem tX6_thingThen_0 (l : Launch) (D : va_G) (cI cW : ClassId) (xx : Nat → Nat) (xn : Nat → Nat) (xt : Nat → Nat) (xk : Nat → Nat) (xe : Nat → Nat) (xo : Nat → Nat) (xv : Nat → Nat) (xc : Nat → Nat) (xr : Nat → Nat) (Z : Bool × FN) (S : WS) (xp : Nat → Nat) (qo : FN) (T2 : WS) (p : Nat) (n : Nat) (hS : Ok S) (hp : p < s_th S) (hn : n ≤ 99) : CT l D cI cW yX6_thingThen cX6_thingThen 6 (some .int) ⟨4, 0, 0, 104⟩ [.ref (xx 0), .int (nI p), .int (nI n), .int 0] ([xl xx xn xt xk xe xo xv xc xr cI Z, wl xn cI S, ol xo xp cI qo, wl xp cI T2]) (PI (s_wa (w_dayN S n) p) ([xl xx xn xt xk xe xo xv xc xr cI Z, wl xn cI S, ol xo xp cI qo, wl xp cI (w_dayN S n)])) := by
  refine CT.of RX6 rfl (by decide +kernel) (Nat.le_of_ble_eq_true rfl) [(0, .ref (xx 0)), (1, .int (nI p)), (2, .int (nI n)), (3, .int 0)] rfl (fun x X Rr hnm => ?_)
  have hth := hS.th
  have hpe := hS.pe
  refine G.al X dX6_thingThen_0 0 rfl ?_
  refine G.get X fX6_10 dX6_thingThen_1 0 0 rfl rfl rfl ?_
  refine G.il X dX6_thingThen_4 1 rfl ?_
  refine G.cvi X kX5_isThing lX6_107 dX6_thingThen_5 (tX5_isThing l D cI cW xn S (nI p) (by omega)) ⟨Nat.le_of_ble_eq_true rfl, Nat.le_of_ble_eq_true rfl⟩ ⟨Nat.zero_le _, Nat.zero_le _⟩ [1] rfl ⟨rfl, rfl⟩ rfl rfl 1 0 rfl rfl rfl rfl (Nat.le_of_ble_eq_true rfl) (ff_cons (wl_fst _ _ _ _) (ff_nil)) (ws' := [xl xx xn xt xk xe xo xv xc xr cI Z, wl xn cI S, ol xo xp cI qo, wl xp cI T2]) rfl ?_
  refine G.b_ne X dX6_thingThen_8 (fun b8 => ?_) (fun b8 => absurd (Eq.trans (Eq.symm (z_in_nI hp (by omega))) b8) (by decide))
  refine G.il X dX6_thingThen_17 2 rfl ?_
  refine G.pu X dX6_thingThen_18 ?_
  refine G.pu X dX6_thingThen_19 ?_
  refine G.il X dX6_thingThen_21 3 rfl ?_
  refine G.pu X dX6_thingThen_22 ?_
  refine G.csti X kX6_outsideOrOther lX6_162 dX6_thingThen_23 (tX6_outsideOrOther_ok l D cI cW n 0 99 0 (by omega) (by omega) (by omega) (by omega)) ⟨Nat.le_of_ble_eq_true rfl, Nat.le_of_ble_eq_true rfl⟩ ⟨Nat.zero_le _, Nat.zero_le _⟩ [] rfl ⟨rfl, rfl⟩ rfl rfl rfl (Nat.le_of_ble_eq_true rfl) (ff_nil) (ws' := [xl xx xn xt xk xe xo xv xc xr cI Z, wl xn cI S, ol xo xp cI qo, wl xp cI T2]) rfl ?_
  refine G.is X dX6_thingThen_26 (by decide) (lv' := [(4, .int 0), (0, .ref (xx 0)), (1, .int (nI p)), (2, .int (nI n)), (3, .int 0)]) rfl ?_
  refine G.il X dX6_thingThen_28 0 rfl ?_
  refine G.z_eq X (a := 0) dX6_thingThen_30 (fun b30 => ?_) (fun b30 => absurd b30 (by decide))
  refine G.al X dX6_thingThen_40 1 rfl ?_
  refine G.get X fX6_36 dX6_thingThen_41 0 0 rfl rfl rfl ?_
  refine G.al X dX6_thingThen_44 1 rfl ?_
  refine G.get X fX6_10 dX6_thingThen_45 0 0 rfl rfl rfl ?_
  refine G.il X dX6_thingThen_48 3 rfl ?_
  refine G.cvr X kX3_after lX6_166 dX6_thingThen_49 (tX3_after l D cI cW xo xp qo T2 xn S n hS (by omega)) ⟨Nat.le_of_ble_eq_true rfl, Nat.le_of_ble_eq_true rfl⟩ ⟨Nat.zero_le _, Nat.zero_le _⟩ [2, 3, 1] rfl ⟨rfl, rfl⟩ rfl rfl 2 0 rfl rfl rfl rfl (Nat.le_of_ble_eq_true rfl) (ff_cons (ol_fst _ _ _ _ _) (ff_cons (wl_fst _ _ _ _) (ff_cons (wl_fst _ _ _ _) (ff_nil)))) (ws' := [xl xx xn xt xk xe xo xv xc xr cI Z, wl xn cI S, ol xo xp cI qo, wl xp cI (w_dayN S n)]) rfl ?_
  refine G.as X dX6_thingThen_52 (by decide) (lv' := [(5, .ref (xp 0)), (4, .int 0), (0, .ref (xx 0)), (1, .int (nI p)), (2, .int (nI n)), (3, .int 0)]) rfl ?_
  refine G.il X dX6_thingThen_54 5 rfl ?_
  refine G.z_ne X (a := 0) dX6_thingThen_55 (fun b55 => absurd b55 (by decide)) (fun b55 => ?_)
  refine G.al X dX6_thingThen_58 0 rfl ?_
  refine G.get X fX6_119 dX6_thingThen_60 3 0 rfl rfl rfl ?_
  refine G.il X dX6_thingThen_63 3 rfl ?_
  refine G.nld X (i := p) dX6_thingThen_64 3 7 rfl rfl (by omega) (by decide) ?_
  refine G.go X dX6_thingThen_65 ?_
  exact G.iret X Rr (v := ((s_wa (w_dayN S n)) p)) dX6_thingThen_75 (pi_mk (by rfl) (by rfl))

set_option maxRecDepth 20000 in
theorem tX6_thingThen_1 (l : Launch) (D : va_G) (cI cW : ClassId) (xx : Nat → Nat) (xn : Nat → Nat) (xt : Nat → Nat) (xk : Nat → Nat) (xe : Nat → Nat) (xo : Nat → Nat) (xv : Nat → Nat) (xc : Nat → Nat) (xr : Nat → Nat) (Z : Bool × FN) (S : WS) (xp : Nat → Nat) (qo : FN) (T2 : WS) (p : Nat) (n : Nat) (hS : Ok S) (hp : p < s_th S) (hn : n ≤ 99) : CT l D cI cW yX6_thingThen cX6_thingThen 6 (some .int) ⟨4, 0, 0, 104⟩ [.ref (xx 0), .int (nI p), .int (nI n), .int 1] ([xl xx xn xt xk xe xo xv xc xr cI Z, wl xn cI S, ol xo xp cI qo, wl xp cI T2]) (PI (s_le (w_dayN S n) p) ([xl xx xn xt xk xe xo xv xc xr cI Z, wl xn cI S, ol xo xp cI qo, wl xp cI (w_dayN S n)])) := by
  refine CT.of RX6 rfl (by decide +kernel) (Nat.le_of_ble_eq_true rfl) [(0, .ref (xx 0)), (1, .int (nI p)), (2, .int (nI n)), (3, .int 1)] rfl (fun x X Rr hnm => ?_)
  have hth := hS.th
  have hpe := hS.pe
  refine G.al X dX6_thingThen_0 0 rfl ?_
  refine G.get X fX6_10 dX6_thingThen_1 0 0 rfl rfl rfl ?_
  refine G.il X dX6_thingThen_4 1 rfl ?_
  refine G.cvi X kX5_isThing lX6_107 dX6_thingThen_5 (tX5_isThing l D cI cW xn S (nI p) (by omega)) ⟨Nat.le_of_ble_eq_true rfl, Nat.le_of_ble_eq_true rfl⟩ ⟨Nat.zero_le _, Nat.zero_le _⟩ [1] rfl ⟨rfl, rfl⟩ rfl rfl 1 0 rfl rfl rfl rfl (Nat.le_of_ble_eq_true rfl) (ff_cons (wl_fst _ _ _ _) (ff_nil)) (ws' := [xl xx xn xt xk xe xo xv xc xr cI Z, wl xn cI S, ol xo xp cI qo, wl xp cI T2]) rfl ?_
  refine G.b_ne X dX6_thingThen_8 (fun b8 => ?_) (fun b8 => absurd (Eq.trans (Eq.symm (z_in_nI hp (by omega))) b8) (by decide))
  refine G.il X dX6_thingThen_17 2 rfl ?_
  refine G.pu X dX6_thingThen_18 ?_
  refine G.pu X dX6_thingThen_19 ?_
  refine G.il X dX6_thingThen_21 3 rfl ?_
  refine G.pu X dX6_thingThen_22 ?_
  refine G.csti X kX6_outsideOrOther lX6_162 dX6_thingThen_23 (tX6_outsideOrOther_ok l D cI cW n 0 99 1 (by omega) (by omega) (by omega) (by omega)) ⟨Nat.le_of_ble_eq_true rfl, Nat.le_of_ble_eq_true rfl⟩ ⟨Nat.zero_le _, Nat.zero_le _⟩ [] rfl ⟨rfl, rfl⟩ rfl rfl rfl (Nat.le_of_ble_eq_true rfl) (ff_nil) (ws' := [xl xx xn xt xk xe xo xv xc xr cI Z, wl xn cI S, ol xo xp cI qo, wl xp cI T2]) rfl ?_
  refine G.is X dX6_thingThen_26 (by decide) (lv' := [(4, .int 0), (0, .ref (xx 0)), (1, .int (nI p)), (2, .int (nI n)), (3, .int 1)]) rfl ?_
  refine G.il X dX6_thingThen_28 0 rfl ?_
  refine G.z_eq X (a := 0) dX6_thingThen_30 (fun b30 => ?_) (fun b30 => absurd b30 (by decide))
  refine G.al X dX6_thingThen_40 1 rfl ?_
  refine G.get X fX6_36 dX6_thingThen_41 0 0 rfl rfl rfl ?_
  refine G.al X dX6_thingThen_44 1 rfl ?_
  refine G.get X fX6_10 dX6_thingThen_45 0 0 rfl rfl rfl ?_
  refine G.il X dX6_thingThen_48 3 rfl ?_
  refine G.cvr X kX3_after lX6_166 dX6_thingThen_49 (tX3_after l D cI cW xo xp qo T2 xn S n hS (by omega)) ⟨Nat.le_of_ble_eq_true rfl, Nat.le_of_ble_eq_true rfl⟩ ⟨Nat.zero_le _, Nat.zero_le _⟩ [2, 3, 1] rfl ⟨rfl, rfl⟩ rfl rfl 2 0 rfl rfl rfl rfl (Nat.le_of_ble_eq_true rfl) (ff_cons (ol_fst _ _ _ _ _) (ff_cons (wl_fst _ _ _ _) (ff_cons (wl_fst _ _ _ _) (ff_nil)))) (ws' := [xl xx xn xt xk xe xo xv xc xr cI Z, wl xn cI S, ol xo xp cI qo, wl xp cI (w_dayN S n)]) rfl ?_
  refine G.as X dX6_thingThen_52 (by decide) (lv' := [(5, .ref (xp 0)), (4, .int 0), (0, .ref (xx 0)), (1, .int (nI p)), (2, .int (nI n)), (3, .int 1)]) rfl ?_
  refine G.il X dX6_thingThen_54 5 rfl ?_
  refine G.z_ne X (a := 1) dX6_thingThen_55 (fun b55 => ?_) (fun b55 => absurd b55 (by decide))
  refine G.al X dX6_thingThen_68 0 rfl ?_
  refine G.get X fX6_122 dX6_thingThen_70 3 0 rfl rfl rfl ?_
  refine G.il X dX6_thingThen_73 3 rfl ?_
  refine G.nld X (i := p) dX6_thingThen_74 3 8 rfl rfl (by omega) (by decide) ?_
  exact G.iret X Rr (v := ((s_le (w_dayN S n)) p)) dX6_thingThen_75 (pi_mk (by rfl) (by rfl))

set_option maxRecDepth 20000 in
theorem tX6_askThen_lo (l : Launch) (D : va_G) (cI cW : ClassId) (xx : Nat → Nat) (xn : Nat → Nat) (xt : Nat → Nat) (xk : Nat → Nat) (xe : Nat → Nat) (xo : Nat → Nat) (xv : Nat → Nat) (xc : Nat → Nat) (xr : Nat → Nat) (Z : Bool × FN) (S : WS) (n : Int32) (w : Int32) (hS : Ok S) (h1 : n < 0) : CT l D cI cW yX6_askThen cX6_askThen 5 (some .int) ⟨2, 0, 0, 47⟩ [.ref (xx 0), .int n, .int w] ([xl xx xn xt xk xe xo xv xc xr cI Z, wl xn cI S]) (PI (-4) ([xl xx xn xt xk xe xo xv xc xr cI (x_rf Z 4), wl xn cI S])) := by
  refine CT.of RX6 rfl (by decide +kernel) (Nat.le_of_ble_eq_true rfl) [(0, .ref (xx 0)), (1, .int n), (2, .int w)] rfl (fun x X Rr hnm => ?_)
  have hth := hS.th
  have hpe := hS.pe
  refine G.il X dX6_askThen_0 1 rfl ?_
  refine G.pu X dX6_askThen_1 ?_
  refine G.pu X dX6_askThen_2 ?_
  refine G.il X dX6_askThen_4 2 rfl ?_
  refine G.pu X dX6_askThen_5 ?_
  refine G.csti X kX6_outsideOrOther lX6_162 dX6_askThen_6 (tX6_outsideOrOther_lo l D cI cW n 0 99 w 1 h1) ⟨Nat.le_of_ble_eq_true rfl, Nat.le_of_ble_eq_true rfl⟩ ⟨Nat.zero_le _, Nat.zero_le _⟩ [] rfl ⟨rfl, rfl⟩ rfl rfl rfl (Nat.le_of_ble_eq_true rfl) (ff_nil) (ws' := [xl xx xn xt xk xe xo xv xc xr cI Z, wl xn cI S]) rfl ?_
  refine G.is X dX6_askThen_9 (by decide) (lv' := [(3, .int (-4)), (0, .ref (xx 0)), (1, .int n), (2, .int w)]) rfl ?_
  refine G.il X dX6_askThen_10 0 rfl ?_
  refine G.z_eq X (a := (-4)) dX6_askThen_11 (fun b11 => absurd b11 (by decide)) (fun b11 => ?_)
  refine G.al X dX6_askThen_14 1 rfl ?_
  refine G.il X dX6_askThen_15 0 rfl ?_
  refine G.cvi X kX6_refuse lX6_65 dX6_askThen_16 (tX6_refuse l D cI cW xx xn xt xk xe xo xv xc xr Z 4 (by omega) (by omega)) ⟨Nat.le_of_ble_eq_true rfl, Nat.le_of_ble_eq_true rfl⟩ ⟨Nat.zero_le _, Nat.zero_le _⟩ [0] rfl ⟨rfl, rfl⟩ rfl rfl 0 0 rfl rfl rfl rfl (Nat.le_of_ble_eq_true rfl) (ff_cons (xl_fst _ _ _ _ _ _ _ _ _ _ _ _) (ff_nil)) (ws' := [xl xx xn xt xk xe xo xv xc xr cI (x_rf Z 4), wl xn cI S]) rfl ?_
  exact G.iret X Rr (v := (-(nI 4))) dX6_askThen_19 (pi_mk (by rfl) (by rfl))

set_option maxRecDepth 20000 in
theorem tX6_askThen_hi (l : Launch) (D : va_G) (cI cW : ClassId) (xx : Nat → Nat) (xn : Nat → Nat) (xt : Nat → Nat) (xk : Nat → Nat) (xe : Nat → Nat) (xo : Nat → Nat) (xv : Nat → Nat) (xc : Nat → Nat) (xr : Nat → Nat) (Z : Bool × FN) (S : WS) (n : Int32) (w : Int32) (hS : Ok S) (h1 : ¬ n < 0) (h2 : 99 < n) : CT l D cI cW yX6_askThen cX6_askThen 5 (some .int) ⟨2, 0, 0, 47⟩ [.ref (xx 0), .int n, .int w] ([xl xx xn xt xk xe xo xv xc xr cI Z, wl xn cI S]) (PI (-6) ([xl xx xn xt xk xe xo xv xc xr cI (x_rf Z 6), wl xn cI S])) := by
  refine CT.of RX6 rfl (by decide +kernel) (Nat.le_of_ble_eq_true rfl) [(0, .ref (xx 0)), (1, .int n), (2, .int w)] rfl (fun x X Rr hnm => ?_)
  have hth := hS.th
  have hpe := hS.pe
  refine G.il X dX6_askThen_0 1 rfl ?_
  refine G.pu X dX6_askThen_1 ?_
  refine G.pu X dX6_askThen_2 ?_
  refine G.il X dX6_askThen_4 2 rfl ?_
  refine G.pu X dX6_askThen_5 ?_
  refine G.csti X kX6_outsideOrOther lX6_162 dX6_askThen_6 (tX6_outsideOrOther_hi l D cI cW n 0 99 w 1 h1 h2) ⟨Nat.le_of_ble_eq_true rfl, Nat.le_of_ble_eq_true rfl⟩ ⟨Nat.zero_le _, Nat.zero_le _⟩ [] rfl ⟨rfl, rfl⟩ rfl rfl rfl (Nat.le_of_ble_eq_true rfl) (ff_nil) (ws' := [xl xx xn xt xk xe xo xv xc xr cI Z, wl xn cI S]) rfl ?_
  refine G.is X dX6_askThen_9 (by decide) (lv' := [(3, .int (-6)), (0, .ref (xx 0)), (1, .int n), (2, .int w)]) rfl ?_
  refine G.il X dX6_askThen_10 0 rfl ?_
  refine G.z_eq X (a := (-6)) dX6_askThen_11 (fun b11 => absurd b11 (by decide)) (fun b11 => ?_)
  refine G.al X dX6_askThen_14 1 rfl ?_
  refine G.il X dX6_askThen_15 0 rfl ?_
  refine G.cvi X kX6_refuse lX6_65 dX6_askThen_16 (tX6_refuse l D cI cW xx xn xt xk xe xo xv xc xr Z 6 (by omega) (by omega)) ⟨Nat.le_of_ble_eq_true rfl, Nat.le_of_ble_eq_true rfl⟩ ⟨Nat.zero_le _, Nat.zero_le _⟩ [0] rfl ⟨rfl, rfl⟩ rfl rfl 0 0 rfl rfl rfl rfl (Nat.le_of_ble_eq_true rfl) (ff_cons (xl_fst _ _ _ _ _ _ _ _ _ _ _ _) (ff_nil)) (ws' := [xl xx xn xt xk xe xo xv xc xr cI (x_rf Z 6), wl xn cI S]) rfl ?_
  exact G.iret X Rr (v := (-(nI 6))) dX6_askThen_19 (pi_mk (by rfl) (by rfl))

set_option maxRecDepth 20000 in
theorem tX6_askThen_oth (l : Launch) (D : va_G) (cI cW : ClassId) (xx : Nat → Nat) (xn : Nat → Nat) (xt : Nat → Nat) (xk : Nat → Nat) (xe : Nat → Nat) (xo : Nat → Nat) (xv : Nat → Nat) (xc : Nat → Nat) (xr : Nat → Nat) (Z : Bool × FN) (S : WS) (n : Nat) (w : Int32) (hS : Ok S) (hn : n ≤ 99) (hw : z_in w 2 = false) : CT l D cI cW yX6_askThen cX6_askThen 5 (some .int) ⟨2, 0, 0, 47⟩ [.ref (xx 0), .int (nI n), .int w] ([xl xx xn xt xk xe xo xv xc xr cI Z, wl xn cI S]) (PI (-2) ([xl xx xn xt xk xe xo xv xc xr cI (x_rf Z 2), wl xn cI S])) := by
  refine CT.of RX6 rfl (by decide +kernel) (Nat.le_of_ble_eq_true rfl) [(0, .ref (xx 0)), (1, .int (nI n)), (2, .int w)] rfl (fun x X Rr hnm => ?_)
  have hth := hS.th
  have hpe := hS.pe
  refine G.il X dX6_askThen_0 1 rfl ?_
  refine G.pu X dX6_askThen_1 ?_
  refine G.pu X dX6_askThen_2 ?_
  refine G.il X dX6_askThen_4 2 rfl ?_
  refine G.pu X dX6_askThen_5 ?_
  refine G.csti X kX6_outsideOrOther lX6_162 dX6_askThen_6 (tX6_outsideOrOther_oth l D cI cW n 0 99 w (by omega) (by omega) (by omega) (z_bad2 hw)) ⟨Nat.le_of_ble_eq_true rfl, Nat.le_of_ble_eq_true rfl⟩ ⟨Nat.zero_le _, Nat.zero_le _⟩ [] rfl ⟨rfl, rfl⟩ rfl rfl rfl (Nat.le_of_ble_eq_true rfl) (ff_nil) (ws' := [xl xx xn xt xk xe xo xv xc xr cI Z, wl xn cI S]) rfl ?_
  refine G.is X dX6_askThen_9 (by decide) (lv' := [(3, .int (-2)), (0, .ref (xx 0)), (1, .int (nI n)), (2, .int w)]) rfl ?_
  refine G.il X dX6_askThen_10 0 rfl ?_
  refine G.z_eq X (a := (-2)) dX6_askThen_11 (fun b11 => absurd b11 (by decide)) (fun b11 => ?_)
  refine G.al X dX6_askThen_14 1 rfl ?_
  refine G.il X dX6_askThen_15 0 rfl ?_
  refine G.cvi X kX6_refuse lX6_65 dX6_askThen_16 (tX6_refuse l D cI cW xx xn xt xk xe xo xv xc xr Z 2 (by omega) (by omega)) ⟨Nat.le_of_ble_eq_true rfl, Nat.le_of_ble_eq_true rfl⟩ ⟨Nat.zero_le _, Nat.zero_le _⟩ [0] rfl ⟨rfl, rfl⟩ rfl rfl 0 0 rfl rfl rfl rfl (Nat.le_of_ble_eq_true rfl) (ff_cons (xl_fst _ _ _ _ _ _ _ _ _ _ _ _) (ff_nil)) (ws' := [xl xx xn xt xk xe xo xv xc xr cI (x_rf Z 2), wl xn cI S]) rfl ?_
  exact G.iret X Rr (v := (-(nI 2))) dX6_askThen_19 (pi_mk (by rfl) (by rfl))

set_option maxRecDepth 20000 in
theorem tX6_askThen_0 (l : Launch) (D : va_G) (cI cW : ClassId) (xx : Nat → Nat) (xn : Nat → Nat) (xt : Nat → Nat) (xk : Nat → Nat) (xe : Nat → Nat) (xo : Nat → Nat) (xv : Nat → Nat) (xc : Nat → Nat) (xr : Nat → Nat) (Z : Bool × FN) (S : WS) (xp : Nat → Nat) (qo : FN) (T2 : WS) (n : Nat) (hS : Ok S) (hn : n ≤ 99) : CT l D cI cW yX6_askThen cX6_askThen 5 (some .int) ⟨4, 0, 0, 104⟩ [.ref (xx 0), .int (nI n), .int 0] ([xl xx xn xt xk xe xo xv xc xr cI Z, wl xn cI S, ol xo xp cI qo, wl xp cI T2]) (PI (askb (w_dayN S n) (s_th (w_dayN S n))) ([xl xx xn xt xk xe xo xv xc xr cI Z, wl xn cI S, ol xo xp cI qo, wl xp cI (w_dayN S n)])) := by
  refine CT.of RX6 rfl (by decide +kernel) (Nat.le_of_ble_eq_true rfl) [(0, .ref (xx 0)), (1, .int (nI n)), (2, .int 0)] rfl (fun x X Rr hnm => ?_)
  have hth := hS.th
  have hpe := hS.pe
  refine G.il X dX6_askThen_0 1 rfl ?_
  refine G.pu X dX6_askThen_1 ?_
  refine G.pu X dX6_askThen_2 ?_
  refine G.il X dX6_askThen_4 2 rfl ?_
  refine G.pu X dX6_askThen_5 ?_
  refine G.csti X kX6_outsideOrOther lX6_162 dX6_askThen_6 (tX6_outsideOrOther_ok l D cI cW n 0 99 0 (by omega) (by omega) (by omega) (by omega)) ⟨Nat.le_of_ble_eq_true rfl, Nat.le_of_ble_eq_true rfl⟩ ⟨Nat.zero_le _, Nat.zero_le _⟩ [] rfl ⟨rfl, rfl⟩ rfl rfl rfl (Nat.le_of_ble_eq_true rfl) (ff_nil) (ws' := [xl xx xn xt xk xe xo xv xc xr cI Z, wl xn cI S, ol xo xp cI qo, wl xp cI T2]) rfl ?_
  refine G.is X dX6_askThen_9 (by decide) (lv' := [(3, .int 0), (0, .ref (xx 0)), (1, .int (nI n)), (2, .int 0)]) rfl ?_
  refine G.il X dX6_askThen_10 0 rfl ?_
  refine G.z_eq X (a := 0) dX6_askThen_11 (fun b11 => ?_) (fun b11 => absurd b11 (by decide))
  refine G.al X dX6_askThen_20 1 rfl ?_
  refine G.get X fX6_36 dX6_askThen_21 0 0 rfl rfl rfl ?_
  refine G.al X dX6_askThen_24 1 rfl ?_
  refine G.get X fX6_10 dX6_askThen_25 0 0 rfl rfl rfl ?_
  refine G.il X dX6_askThen_28 2 rfl ?_
  refine G.cvr X kX3_after lX6_166 dX6_askThen_29 (tX3_after l D cI cW xo xp qo T2 xn S n hS (by omega)) ⟨Nat.le_of_ble_eq_true rfl, Nat.le_of_ble_eq_true rfl⟩ ⟨Nat.zero_le _, Nat.zero_le _⟩ [2, 3, 1] rfl ⟨rfl, rfl⟩ rfl rfl 2 0 rfl rfl rfl rfl (Nat.le_of_ble_eq_true rfl) (ff_cons (ol_fst _ _ _ _ _) (ff_cons (wl_fst _ _ _ _) (ff_cons (wl_fst _ _ _ _) (ff_nil)))) (ws' := [xl xx xn xt xk xe xo xv xc xr cI Z, wl xn cI S, ol xo xp cI qo, wl xp cI (w_dayN S n)]) rfl ?_
  refine G.as X dX6_askThen_32 (by decide) (lv' := [(4, .ref (xp 0)), (3, .int 0), (0, .ref (xx 0)), (1, .int (nI n)), (2, .int 0)]) rfl ?_
  refine G.il X dX6_askThen_34 4 rfl ?_
  refine G.z_ne X (a := 0) dX6_askThen_35 (fun b35 => absurd b35 (by decide)) (fun b35 => ?_)
  refine G.al X dX6_askThen_38 0 rfl ?_
  refine G.cvi X kX5_askBits lX6_170 dX6_askThen_40 (tX5_askBits l D cI cW xp (w_dayN S n) (ok_dayN hS n).th) ⟨Nat.le_of_ble_eq_true rfl, Nat.le_of_ble_eq_true rfl⟩ ⟨Nat.zero_le _, Nat.zero_le _⟩ [3] rfl ⟨rfl, rfl⟩ rfl rfl 3 0 rfl rfl rfl rfl (Nat.le_of_ble_eq_true rfl) (ff_cons (wl_fst _ _ _ _) (ff_nil)) (ws' := [xl xx xn xt xk xe xo xv xc xr cI Z, wl xn cI S, ol xo xp cI qo, wl xp cI (w_dayN S n)]) rfl ?_
  exact G.iret X Rr (v := (askb (w_dayN S n) (s_th (w_dayN S n)))) dX6_askThen_43 (pi_mk (by rfl) (by rfl))

set_option maxRecDepth 20000 in
theorem tX6_askThen_1 (l : Launch) (D : va_G) (cI cW : ClassId) (xx : Nat → Nat) (xn : Nat → Nat) (xt : Nat → Nat) (xk : Nat → Nat) (xe : Nat → Nat) (xo : Nat → Nat) (xv : Nat → Nat) (xc : Nat → Nat) (xr : Nat → Nat) (Z : Bool × FN) (S : WS) (xp : Nat → Nat) (qo : FN) (T2 : WS) (n : Nat) (hS : Ok S) (hn : n ≤ 99) : CT l D cI cW yX6_askThen cX6_askThen 5 (some .int) ⟨4, 0, 0, 104⟩ [.ref (xx 0), .int (nI n), .int 1] ([xl xx xn xt xk xe xo xv xc xr cI Z, wl xn cI S, ol xo xp cI qo, wl xp cI T2]) (PI (b2i (w_wat (w_dayN S n))) ([xl xx xn xt xk xe xo xv xc xr cI Z, wl xn cI S, ol xo xp cI qo, wl xp cI (w_dayN S n)])) := by
  refine CT.of RX6 rfl (by decide +kernel) (Nat.le_of_ble_eq_true rfl) [(0, .ref (xx 0)), (1, .int (nI n)), (2, .int 1)] rfl (fun x X Rr hnm => ?_)
  have hth := hS.th
  have hpe := hS.pe
  refine G.il X dX6_askThen_0 1 rfl ?_
  refine G.pu X dX6_askThen_1 ?_
  refine G.pu X dX6_askThen_2 ?_
  refine G.il X dX6_askThen_4 2 rfl ?_
  refine G.pu X dX6_askThen_5 ?_
  refine G.csti X kX6_outsideOrOther lX6_162 dX6_askThen_6 (tX6_outsideOrOther_ok l D cI cW n 0 99 1 (by omega) (by omega) (by omega) (by omega)) ⟨Nat.le_of_ble_eq_true rfl, Nat.le_of_ble_eq_true rfl⟩ ⟨Nat.zero_le _, Nat.zero_le _⟩ [] rfl ⟨rfl, rfl⟩ rfl rfl rfl (Nat.le_of_ble_eq_true rfl) (ff_nil) (ws' := [xl xx xn xt xk xe xo xv xc xr cI Z, wl xn cI S, ol xo xp cI qo, wl xp cI T2]) rfl ?_
  refine G.is X dX6_askThen_9 (by decide) (lv' := [(3, .int 0), (0, .ref (xx 0)), (1, .int (nI n)), (2, .int 1)]) rfl ?_
  refine G.il X dX6_askThen_10 0 rfl ?_
  refine G.z_eq X (a := 0) dX6_askThen_11 (fun b11 => ?_) (fun b11 => absurd b11 (by decide))
  refine G.al X dX6_askThen_20 1 rfl ?_
  refine G.get X fX6_36 dX6_askThen_21 0 0 rfl rfl rfl ?_
  refine G.al X dX6_askThen_24 1 rfl ?_
  refine G.get X fX6_10 dX6_askThen_25 0 0 rfl rfl rfl ?_
  refine G.il X dX6_askThen_28 2 rfl ?_
  refine G.cvr X kX3_after lX6_166 dX6_askThen_29 (tX3_after l D cI cW xo xp qo T2 xn S n hS (by omega)) ⟨Nat.le_of_ble_eq_true rfl, Nat.le_of_ble_eq_true rfl⟩ ⟨Nat.zero_le _, Nat.zero_le _⟩ [2, 3, 1] rfl ⟨rfl, rfl⟩ rfl rfl 2 0 rfl rfl rfl rfl (Nat.le_of_ble_eq_true rfl) (ff_cons (ol_fst _ _ _ _ _) (ff_cons (wl_fst _ _ _ _) (ff_cons (wl_fst _ _ _ _) (ff_nil)))) (ws' := [xl xx xn xt xk xe xo xv xc xr cI Z, wl xn cI S, ol xo xp cI qo, wl xp cI (w_dayN S n)]) rfl ?_
  refine G.as X dX6_askThen_32 (by decide) (lv' := [(4, .ref (xp 0)), (3, .int 0), (0, .ref (xx 0)), (1, .int (nI n)), (2, .int 1)]) rfl ?_
  refine G.il X dX6_askThen_34 4 rfl ?_
  refine G.z_ne X (a := 1) dX6_askThen_35 (fun b35 => ?_) (fun b35 => absurd b35 (by decide))
  refine G.al X dX6_askThen_44 0 rfl ?_
  refine G.cvi X kX5_hasWater lX6_158 dX6_askThen_46 (tX5_hasWater l D cI cW xp (w_dayN S n) (ok_dayN hS n).th) ⟨Nat.le_of_ble_eq_true rfl, Nat.le_of_ble_eq_true rfl⟩ ⟨Nat.zero_le _, Nat.zero_le _⟩ [3] rfl ⟨rfl, rfl⟩ rfl rfl 3 0 rfl rfl rfl rfl (Nat.le_of_ble_eq_true rfl) (ff_cons (wl_fst _ _ _ _) (ff_nil)) (ws' := [xl xx xn xt xk xe xo xv xc xr cI Z, wl xn cI S, ol xo xp cI qo, wl xp cI (w_dayN S n)]) rfl ?_
  refine G.b_eq X dX6_askThen_49 (fun b49 => ?_) (fun b49 => ?_)
  · refine G.pu X dX6_askThen_56 ?_
    exact G.iret X Rr (v := 0) dX6_askThen_57 (pi_mk (by simp [b2i, b49]) (by rfl))
  · refine G.pu X dX6_askThen_52 ?_
    refine G.go X dX6_askThen_53 ?_
    exact G.iret X Rr (v := 1) dX6_askThen_57 (pi_mk (by simp [b2i, b49]) (by rfl))

set_option maxRecDepth 20000 in
theorem tX6_quiet_bad (l : Launch) (D : va_G) (cI cW : ClassId) (xx : Nat → Nat) (xn : Nat → Nat) (xt : Nat → Nat) (xk : Nat → Nat) (xe : Nat → Nat) (xo : Nat → Nat) (xv : Nat → Nat) (xc : Nat → Nat) (xr : Nat → Nat) (Z : Bool × FN) (S : WS) (p : Int32) (hS : Ok S) (hp : z_in p (s_th S) = false) : CT l D cI cW yX6_quiet cX6_quiet 2 (some .int) ⟨1, 0, 0, 22⟩ [.ref (xx 0), .int p] ([xl xx xn xt xk xe xo xv xc xr cI Z, wl xn cI S]) (PI (-1) ([xl xx xn xt xk xe xo xv xc xr cI (x_rf Z 1), wl xn cI S])) := by
  refine CT.of RX6 rfl (by decide +kernel) (Nat.le_of_ble_eq_true rfl) [(0, .ref (xx 0)), (1, .int p)] rfl (fun x X Rr hnm => ?_)
  have hth := hS.th
  have hpe := hS.pe
  refine G.al X dX6_quiet_0 0 rfl ?_
  refine G.get X fX6_10 dX6_quiet_1 0 0 rfl rfl rfl ?_
  refine G.il X dX6_quiet_4 1 rfl ?_
  refine G.cvi X kX5_isThing lX6_107 dX6_quiet_5 (tX5_isThing l D cI cW xn S p (by omega)) ⟨Nat.le_of_ble_eq_true rfl, Nat.le_of_ble_eq_true rfl⟩ ⟨Nat.zero_le _, Nat.zero_le _⟩ [1] rfl ⟨rfl, rfl⟩ rfl rfl 1 0 rfl rfl rfl rfl (Nat.le_of_ble_eq_true rfl) (ff_cons (wl_fst _ _ _ _) (ff_nil)) (ws' := [xl xx xn xt xk xe xo xv xc xr cI Z, wl xn cI S]) rfl ?_
  refine G.b_ne X dX6_quiet_8 (fun b8 => absurd (Eq.trans (Eq.symm hp) b8) (by decide)) (fun b8 => ?_)
  refine G.al X dX6_quiet_11 0 rfl ?_
  refine G.pu X dX6_quiet_12 ?_
  refine G.cvi X kX6_refuse lX6_65 dX6_quiet_13 (tX6_refuse l D cI cW xx xn xt xk xe xo xv xc xr Z 1 (by omega) (by omega)) ⟨Nat.le_of_ble_eq_true rfl, Nat.le_of_ble_eq_true rfl⟩ ⟨Nat.zero_le _, Nat.zero_le _⟩ [0] rfl ⟨rfl, rfl⟩ rfl rfl 0 0 rfl rfl rfl rfl (Nat.le_of_ble_eq_true rfl) (ff_cons (xl_fst _ _ _ _ _ _ _ _ _ _ _ _) (ff_nil)) (ws' := [xl xx xn xt xk xe xo xv xc xr cI (x_rf Z 1), wl xn cI S]) rfl ?_
  exact G.iret X Rr (v := (-(nI 1))) dX6_quiet_16 (pi_mk (by rfl) (by rfl))

set_option maxRecDepth 20000 in
theorem tX6_quiet_ok (l : Launch) (D : va_G) (cI cW : ClassId) (xx : Nat → Nat) (xn : Nat → Nat) (xt : Nat → Nat) (xk : Nat → Nat) (xe : Nat → Nat) (xo : Nat → Nat) (xv : Nat → Nat) (xc : Nat → Nat) (xr : Nat → Nat) (Z : Bool × FN) (S : WS) (xp : Nat → Nat) (qo : FN) (T2 : WS) (p : Nat) (hS : Ok S) (hp : p < s_th S) : CT l D cI cW yX6_quiet cX6_quiet 2 (some .int) ⟨4, 0, 0, 104⟩ [.ref (xx 0), .int (nI p)] ([xl xx xn xt xk xe xo xv xc xr cI Z, wl xn cI S, ol xo xp cI qo, wl xp cI T2]) (PIE (o2i (fi (w_qz S p) 100)) (fun T9 : WS => [xl xx xn xt xk xe xo xv xc xr cI Z, wl xn cI S, ol xo xp cI qo, wl xp cI T9])) := by
  refine CT.of RX6 rfl (by decide +kernel) (Nat.le_of_ble_eq_true rfl) [(0, .ref (xx 0)), (1, .int (nI p))] rfl (fun x X Rr hnm => ?_)
  have hth := hS.th
  have hpe := hS.pe
  refine G.al X dX6_quiet_0 0 rfl ?_
  refine G.get X fX6_10 dX6_quiet_1 0 0 rfl rfl rfl ?_
  refine G.il X dX6_quiet_4 1 rfl ?_
  refine G.cvi X kX5_isThing lX6_107 dX6_quiet_5 (tX5_isThing l D cI cW xn S (nI p) (by omega)) ⟨Nat.le_of_ble_eq_true rfl, Nat.le_of_ble_eq_true rfl⟩ ⟨Nat.zero_le _, Nat.zero_le _⟩ [1] rfl ⟨rfl, rfl⟩ rfl rfl 1 0 rfl rfl rfl rfl (Nat.le_of_ble_eq_true rfl) (ff_cons (wl_fst _ _ _ _) (ff_nil)) (ws' := [xl xx xn xt xk xe xo xv xc xr cI Z, wl xn cI S, ol xo xp cI qo, wl xp cI T2]) rfl ?_
  refine G.b_ne X dX6_quiet_8 (fun b8 => ?_) (fun b8 => absurd (Eq.trans (Eq.symm (z_in_nI hp (by omega))) b8) (by decide))
  refine G.al X dX6_quiet_17 0 rfl ?_
  refine G.get X fX6_36 dX6_quiet_18 0 0 rfl rfl rfl ?_
  refine G.al X dX6_quiet_21 0 rfl ?_
  refine G.get X fX6_10 dX6_quiet_22 0 0 rfl rfl rfl ?_
  refine G.il X dX6_quiet_25 1 rfl ?_
  refine G.cvie X kX3_quietAfter lX6_173 dX6_quiet_26 (tX3_quietAfter l D cI cW xo xp qo T2 xn S p hS (by omega)) ⟨Nat.le_of_ble_eq_true rfl, Nat.le_of_ble_eq_true rfl⟩ ⟨Nat.zero_le _, Nat.zero_le _⟩ [2, 3, 1] rfl ⟨rfl, rfl⟩ rfl rfl 2 0 rfl rfl rfl rfl (Nat.le_of_ble_eq_true rfl) (fun _ => (ff_cons (ol_fst _ _ _ _ _) (ff_cons (wl_fst _ _ _ _) (ff_cons (wl_fst _ _ _ _) (ff_nil))))) (f8 := fun T9_26 : WS => [xl xx xn xt xk xe xo xv xc xr cI Z, wl xn cI S, ol xo xp cI qo, wl xp cI T9_26]) (fun _ => rfl) (fun T9_26 => ?_)
  exact G.iret X Rr (v := (o2i (fi (w_qz S p) 100))) dX6_quiet_29 (pie_mk (T9_26) (by rfl) (by rfl))

set_option maxRecDepth 20000 in
theorem tX6_first_oth (l : Launch) (D : va_G) (cI cW : ClassId) (xx : Nat → Nat) (xn : Nat → Nat) (xt : Nat → Nat) (xk : Nat → Nat) (xe : Nat → Nat) (xo : Nat → Nat) (xv : Nat → Nat) (xc : Nat → Nat) (xr : Nat → Nat) (Z : Bool × FN) (w : Int32) (hw : z_in w 4 = false) : CT l D cI cW yX6_first cX6_first 2 (some .int) ⟨1, 0, 0, 22⟩ [.ref (xx 0), .int w] ([xl xx xn xt xk xe xo xv xc xr cI Z]) (PI (-2) ([xl xx xn xt xk xe xo xv xc xr cI (x_rf Z 2)])) := by
  refine CT.of RX6 rfl (by decide +kernel) (Nat.le_of_ble_eq_true rfl) [(0, .ref (xx 0)), (1, .int w)] rfl (fun x X Rr hnm => ?_)
  refine G.il X dX6_first_0 1 rfl ?_
  refine G.tsd X dX6_first_1 [0, 1, 2, 3] (List.forall_mem_cons.mpr ⟨(z_ne (v := 0) hw (by decide) (by decide)), List.forall_mem_cons.mpr ⟨(z_ne (v := 1) hw (by decide) (by decide)), List.forall_mem_cons.mpr ⟨(z_ne (v := 2) hw (by decide) (by decide)), List.forall_mem_cons.mpr ⟨(z_ne (v := 3) hw (by decide) (by decide)), fun _ h9 => absurd h9 List.not_mem_nil⟩⟩⟩⟩) 82 (by decide) ?_
  refine G.al X dX6_first_82 0 rfl ?_
  refine G.pu X dX6_first_83 ?_
  refine G.cvi X kX6_refuse lX6_65 dX6_first_85 (tX6_refuse l D cI cW xx xn xt xk xe xo xv xc xr Z 2 (by omega) (by omega)) ⟨Nat.le_of_ble_eq_true rfl, Nat.le_of_ble_eq_true rfl⟩ ⟨Nat.zero_le _, Nat.zero_le _⟩ [0] rfl ⟨rfl, rfl⟩ rfl rfl 0 0 rfl rfl rfl rfl (Nat.le_of_ble_eq_true rfl) (ff_cons (xl_fst _ _ _ _ _ _ _ _ _ _ _ _) (ff_nil)) (ws' := [xl xx xn xt xk xe xo xv xc xr cI (x_rf Z 2)]) rfl ?_
  exact G.iret X Rr (v := (-(nI 2))) dX6_first_88 (pi_mk (by rfl) (by rfl))

set_option maxRecDepth 20000 in
theorem tX6_first_0 (l : Launch) (D : va_G) (cI cW : ClassId) (xx : Nat → Nat) (xn : Nat → Nat) (xt : Nat → Nat) (xk : Nat → Nat) (xe : Nat → Nat) (xo : Nat → Nat) (xv : Nat → Nat) (xc : Nat → Nat) (xr : Nat → Nat) (Z : Bool × FN) (S : WS) (xp : Nat → Nat) (qo : FN) (T2 : WS) (hS : Ok S) : CT l D cI cW yX6_first cX6_first 2 (some .int) ⟨4, 0, 0, 104⟩ [.ref (xx 0), .int 0] ([xl xx xn xt xk xe xo xv xc xr cI Z, wl xn cI S, ol xo xp cI qo, wl xp cI T2]) (PIE (o2i (fi (fun d => w_wat (w_dayN S d) == false) 100)) (fun T9 : WS => [xl xx xn xt xk xe xo xv xc xr cI Z, wl xn cI S, ol xo xp cI qo, wl xp cI T9])) := by
  refine CT.of RX6 rfl (by decide +kernel) (Nat.le_of_ble_eq_true rfl) [(0, .ref (xx 0)), (1, .int 0)] rfl (fun x X Rr hnm => ?_)
  have hth := hS.th
  have hpe := hS.pe
  refine G.il X dX6_first_0 1 rfl ?_
  refine G.tsi X dX6_first_1 0 rfl (31) 32 (by decide) ?_
  refine G.al X dX6_first_32 0 rfl ?_
  refine G.get X fX6_36 dX6_first_33 0 0 rfl rfl rfl ?_
  refine G.al X dX6_first_36 0 rfl ?_
  refine G.get X fX6_10 dX6_first_37 0 0 rfl rfl rfl ?_
  refine G.pu X dX6_first_40 ?_
  refine G.cvie X kX3_waterAfter lX6_177 dX6_first_41 (tX3_waterAfter l D cI cW xo xp qo T2 xn S false hS) ⟨Nat.le_of_ble_eq_true rfl, Nat.le_of_ble_eq_true rfl⟩ ⟨Nat.zero_le _, Nat.zero_le _⟩ [2, 3, 1] rfl ⟨rfl, rfl⟩ rfl rfl 2 0 rfl rfl rfl rfl (Nat.le_of_ble_eq_true rfl) (fun _ => (ff_cons (ol_fst _ _ _ _ _) (ff_cons (wl_fst _ _ _ _) (ff_cons (wl_fst _ _ _ _) (ff_nil))))) (f8 := fun T9_41 : WS => [xl xx xn xt xk xe xo xv xc xr cI Z, wl xn cI S, ol xo xp cI qo, wl xp cI T9_41]) (fun _ => rfl) (fun T9_41 => ?_)
  exact G.iret X Rr (v := (o2i (fi (fun d => w_wat (w_dayN S d) == false) 100))) dX6_first_44 (pie_mk (T9_41) (by rfl) (by rfl))

set_option maxRecDepth 20000 in
theorem tX6_first_1 (l : Launch) (D : va_G) (cI cW : ClassId) (xx : Nat → Nat) (xn : Nat → Nat) (xt : Nat → Nat) (xk : Nat → Nat) (xe : Nat → Nat) (xo : Nat → Nat) (xv : Nat → Nat) (xc : Nat → Nat) (xr : Nat → Nat) (Z : Bool × FN) (S : WS) (xp : Nat → Nat) (qo : FN) (T2 : WS) (hS : Ok S) : CT l D cI cW yX6_first cX6_first 2 (some .int) ⟨4, 0, 0, 104⟩ [.ref (xx 0), .int 1] ([xl xx xn xt xk xe xo xv xc xr cI Z, wl xn cI S, ol xo xp cI qo, wl xp cI T2]) (PIE (o2i (fi (fun d => w_wat (w_dayN S d) == true) 100)) (fun T9 : WS => [xl xx xn xt xk xe xo xv xc xr cI Z, wl xn cI S, ol xo xp cI qo, wl xp cI T9])) := by
  refine CT.of RX6 rfl (by decide +kernel) (Nat.le_of_ble_eq_true rfl) [(0, .ref (xx 0)), (1, .int 1)] rfl (fun x X Rr hnm => ?_)
  have hth := hS.th
  have hpe := hS.pe
  refine G.il X dX6_first_0 1 rfl ?_
  refine G.tsi X dX6_first_1 1 rfl (44) 45 (by decide) ?_
  refine G.al X dX6_first_45 0 rfl ?_
  refine G.get X fX6_36 dX6_first_46 0 0 rfl rfl rfl ?_
  refine G.al X dX6_first_49 0 rfl ?_
  refine G.get X fX6_10 dX6_first_50 0 0 rfl rfl rfl ?_
  refine G.pu X dX6_first_53 ?_
  refine G.cvie X kX3_waterAfter lX6_177 dX6_first_54 (tX3_waterAfter l D cI cW xo xp qo T2 xn S true hS) ⟨Nat.le_of_ble_eq_true rfl, Nat.le_of_ble_eq_true rfl⟩ ⟨Nat.zero_le _, Nat.zero_le _⟩ [2, 3, 1] rfl ⟨rfl, rfl⟩ rfl rfl 2 0 rfl rfl rfl rfl (Nat.le_of_ble_eq_true rfl) (fun _ => (ff_cons (ol_fst _ _ _ _ _) (ff_cons (wl_fst _ _ _ _) (ff_cons (wl_fst _ _ _ _) (ff_nil))))) (f8 := fun T9_54 : WS => [xl xx xn xt xk xe xo xv xc xr cI Z, wl xn cI S, ol xo xp cI qo, wl xp cI T9_54]) (fun _ => rfl) (fun T9_54 => ?_)
  exact G.iret X Rr (v := (o2i (fi (fun d => w_wat (w_dayN S d) == true) 100))) dX6_first_57 (pie_mk (T9_54) (by rfl) (by rfl))

set_option maxRecDepth 20000 in
theorem tX6_first_2 (l : Launch) (D : va_G) (cI cW : ClassId) (xx : Nat → Nat) (xn : Nat → Nat) (xt : Nat → Nat) (xk : Nat → Nat) (xe : Nat → Nat) (xo : Nat → Nat) (xv : Nat → Nat) (xc : Nat → Nat) (xr : Nat → Nat) (Z : Bool × FN) (S : WS) (xp : Nat → Nat) (qo : FN) (T2 : WS) (hS : Ok S) : CT l D cI cW yX6_first cX6_first 2 (some .int) ⟨4, 0, 0, 103⟩ [.ref (xx 0), .int 2] ([xl xx xn xt xk xe xo xv xc xr cI Z, wl xn cI S, ol xo xp cI qo, wl xp cI T2]) (PIE (o2i (fi (fun d => decide (sumf (s_le (w_dayN S d)) (s_th (w_dayN S d)) = 0)) 100)) (fun T9 : WS => [xl xx xn xt xk xe xo xv xc xr cI Z, wl xn cI S, ol xo xp cI qo, wl xp cI T9])) := by
  refine CT.of RX6 rfl (by decide +kernel) (Nat.le_of_ble_eq_true rfl) [(0, .ref (xx 0)), (1, .int 2)] rfl (fun x X Rr hnm => ?_)
  have hth := hS.th
  have hpe := hS.pe
  refine G.il X dX6_first_0 1 rfl ?_
  refine G.tsi X dX6_first_1 2 rfl (57) 58 (by decide) ?_
  refine G.al X dX6_first_58 0 rfl ?_
  refine G.get X fX6_36 dX6_first_59 0 0 rfl rfl rfl ?_
  refine G.al X dX6_first_62 0 rfl ?_
  refine G.get X fX6_10 dX6_first_63 0 0 rfl rfl rfl ?_
  refine G.cvie X kX3_allQuietAfter lX6_181 dX6_first_66 (tX3_allQuietAfter l D cI cW xo xp qo T2 xn S hS) ⟨Nat.le_of_ble_eq_true rfl, Nat.le_of_ble_eq_true rfl⟩ ⟨Nat.zero_le _, Nat.zero_le _⟩ [2, 3, 1] rfl ⟨rfl, rfl⟩ rfl rfl 2 0 rfl rfl rfl rfl (Nat.le_of_ble_eq_true rfl) (fun _ => (ff_cons (ol_fst _ _ _ _ _) (ff_cons (wl_fst _ _ _ _) (ff_cons (wl_fst _ _ _ _) (ff_nil))))) (f8 := fun T9_66 : WS => [xl xx xn xt xk xe xo xv xc xr cI Z, wl xn cI S, ol xo xp cI qo, wl xp cI T9_66]) (fun _ => rfl) (fun T9_66 => ?_)
  exact G.iret X Rr (v := (o2i (fi (fun d => decide (sumf (s_le (w_dayN S d)) (s_th (w_dayN S d)) = 0)) 100))) dX6_first_69 (pie_mk (T9_66) (by rfl) (by rfl))

set_option maxRecDepth 20000 in
theorem tX6_first_3 (l : Launch) (D : va_G) (cI cW : ClassId) (xx : Nat → Nat) (xn : Nat → Nat) (xt : Nat → Nat) (xk : Nat → Nat) (xe : Nat → Nat) (xo : Nat → Nat) (xv : Nat → Nat) (xc : Nat → Nat) (xr : Nat → Nat) (Z : Bool × FN) (S : WS) (xp : Nat → Nat) (qo : FN) (T2 : WS) (hS : Ok S) : CT l D cI cW yX6_first cX6_first 2 (some .int) ⟨5, 0, 0, 128⟩ [.ref (xx 0), .int 3] ([xl xx xn xt xk xe xo xv xc xr cI Z, wl xn cI S, ol xo xp cI qo, wl xp cI T2]) (PIE ((bmax (ask S) (w_q0 S 100) (-9, -1) (s_th S)).1) (fun T9 : WS => [xl xx xn xt xk xe xo xv xc xr cI Z, wl xn cI S, ol xo xp cI (w_q0 S 100), wl xp cI T9])) := by
  refine CT.of RX6 rfl (by decide +kernel) (Nat.le_of_ble_eq_true rfl) [(0, .ref (xx 0)), (1, .int 3)] rfl (fun x X Rr hnm => ?_)
  have hth := hS.th
  have hpe := hS.pe
  refine G.il X dX6_first_0 1 rfl ?_
  refine G.tsi X dX6_first_1 3 rfl (69) 70 (by decide) ?_
  refine G.al X dX6_first_70 0 rfl ?_
  refine G.get X fX6_36 dX6_first_71 0 0 rfl rfl rfl ?_
  refine G.al X dX6_first_74 0 rfl ?_
  refine G.get X fX6_10 dX6_first_75 0 0 rfl rfl rfl ?_
  refine G.cvie X kX3_inTheWay lX6_184 dX6_first_78 (tX3_inTheWay l D cI cW xo xp qo T2 xn S hS) ⟨Nat.le_of_ble_eq_true rfl, Nat.le_of_ble_eq_true rfl⟩ ⟨Nat.zero_le _, Nat.zero_le _⟩ [2, 3, 1] rfl ⟨rfl, rfl⟩ rfl rfl 2 0 rfl rfl rfl rfl (Nat.le_of_ble_eq_true rfl) (fun _ => (ff_cons (ol_fst _ _ _ _ _) (ff_cons (wl_fst _ _ _ _) (ff_cons (wl_fst _ _ _ _) (ff_nil))))) (f8 := fun T9_78 : WS => [xl xx xn xt xk xe xo xv xc xr cI Z, wl xn cI S, ol xo xp cI (w_q0 S 100), wl xp cI T9_78]) (fun _ => rfl) (fun T9_78 => ?_)
  exact G.iret X Rr (v := ((bmax (ask S) (w_q0 S 100) (-9, -1) (s_th S)).1)) dX6_first_81 (pie_mk (T9_78) (by rfl) (by rfl))

set_option maxRecDepth 20000 in
theorem tX6_runs_lo (l : Launch) (D : va_G) (cI cW : ClassId) (xx : Nat → Nat) (xn : Nat → Nat) (xt : Nat → Nat) (xk : Nat → Nat) (xe : Nat → Nat) (xo : Nat → Nat) (xv : Nat → Nat) (xc : Nat → Nat) (xr : Nat → Nat) (Z : Bool × FN) (n : Int32) (w : Int32) (h1 : n < 1) : CT l D cI cW yX6_runs cX6_runs 4 (some .int) ⟨2, 0, 0, 47⟩ [.ref (xx 0), .int n, .int w] ([xl xx xn xt xk xe xo xv xc xr cI Z]) (PI (-4) ([xl xx xn xt xk xe xo xv xc xr cI (x_rf Z 4)])) := by
  refine CT.of RX6 rfl (by decide +kernel) (Nat.le_of_ble_eq_true rfl) [(0, .ref (xx 0)), (1, .int n), (2, .int w)] rfl (fun x X Rr hnm => ?_)
  refine G.il X dX6_runs_0 1 rfl ?_
  refine G.pu X dX6_runs_1 ?_
  refine G.pu X dX6_runs_2 ?_
  refine G.il X dX6_runs_4 2 rfl ?_
  refine G.pu X dX6_runs_5 ?_
  refine G.csti X kX6_outsideOrOther lX6_162 dX6_runs_6 (tX6_outsideOrOther_lo l D cI cW n 1 99 w 1 h1) ⟨Nat.le_of_ble_eq_true rfl, Nat.le_of_ble_eq_true rfl⟩ ⟨Nat.zero_le _, Nat.zero_le _⟩ [] rfl ⟨rfl, rfl⟩ rfl rfl rfl (Nat.le_of_ble_eq_true rfl) (ff_nil) (ws' := [xl xx xn xt xk xe xo xv xc xr cI Z]) rfl ?_
  refine G.is X dX6_runs_9 (by decide) (lv' := [(3, .int (-4)), (0, .ref (xx 0)), (1, .int n), (2, .int w)]) rfl ?_
  refine G.il X dX6_runs_10 0 rfl ?_
  refine G.z_eq X (a := (-4)) dX6_runs_11 (fun b11 => absurd b11 (by decide)) (fun b11 => ?_)
  refine G.al X dX6_runs_14 1 rfl ?_
  refine G.il X dX6_runs_15 0 rfl ?_
  refine G.cvi X kX6_refuse lX6_65 dX6_runs_16 (tX6_refuse l D cI cW xx xn xt xk xe xo xv xc xr Z 4 (by omega) (by omega)) ⟨Nat.le_of_ble_eq_true rfl, Nat.le_of_ble_eq_true rfl⟩ ⟨Nat.zero_le _, Nat.zero_le _⟩ [0] rfl ⟨rfl, rfl⟩ rfl rfl 0 0 rfl rfl rfl rfl (Nat.le_of_ble_eq_true rfl) (ff_cons (xl_fst _ _ _ _ _ _ _ _ _ _ _ _) (ff_nil)) (ws' := [xl xx xn xt xk xe xo xv xc xr cI (x_rf Z 4)]) rfl ?_
  exact G.iret X Rr (v := (-(nI 4))) dX6_runs_19 (pi_mk (by rfl) (by rfl))

set_option maxRecDepth 20000 in
theorem tX6_runs_hi (l : Launch) (D : va_G) (cI cW : ClassId) (xx : Nat → Nat) (xn : Nat → Nat) (xt : Nat → Nat) (xk : Nat → Nat) (xe : Nat → Nat) (xo : Nat → Nat) (xv : Nat → Nat) (xc : Nat → Nat) (xr : Nat → Nat) (Z : Bool × FN) (n : Int32) (w : Int32) (h1 : ¬ n < 1) (h2 : 99 < n) : CT l D cI cW yX6_runs cX6_runs 4 (some .int) ⟨2, 0, 0, 47⟩ [.ref (xx 0), .int n, .int w] ([xl xx xn xt xk xe xo xv xc xr cI Z]) (PI (-6) ([xl xx xn xt xk xe xo xv xc xr cI (x_rf Z 6)])) := by
  refine CT.of RX6 rfl (by decide +kernel) (Nat.le_of_ble_eq_true rfl) [(0, .ref (xx 0)), (1, .int n), (2, .int w)] rfl (fun x X Rr hnm => ?_)
  refine G.il X dX6_runs_0 1 rfl ?_
  refine G.pu X dX6_runs_1 ?_
  refine G.pu X dX6_runs_2 ?_
  refine G.il X dX6_runs_4 2 rfl ?_
  refine G.pu X dX6_runs_5 ?_
  refine G.csti X kX6_outsideOrOther lX6_162 dX6_runs_6 (tX6_outsideOrOther_hi l D cI cW n 1 99 w 1 h1 h2) ⟨Nat.le_of_ble_eq_true rfl, Nat.le_of_ble_eq_true rfl⟩ ⟨Nat.zero_le _, Nat.zero_le _⟩ [] rfl ⟨rfl, rfl⟩ rfl rfl rfl (Nat.le_of_ble_eq_true rfl) (ff_nil) (ws' := [xl xx xn xt xk xe xo xv xc xr cI Z]) rfl ?_
  refine G.is X dX6_runs_9 (by decide) (lv' := [(3, .int (-6)), (0, .ref (xx 0)), (1, .int n), (2, .int w)]) rfl ?_
  refine G.il X dX6_runs_10 0 rfl ?_
  refine G.z_eq X (a := (-6)) dX6_runs_11 (fun b11 => absurd b11 (by decide)) (fun b11 => ?_)
  refine G.al X dX6_runs_14 1 rfl ?_
  refine G.il X dX6_runs_15 0 rfl ?_
  refine G.cvi X kX6_refuse lX6_65 dX6_runs_16 (tX6_refuse l D cI cW xx xn xt xk xe xo xv xc xr Z 6 (by omega) (by omega)) ⟨Nat.le_of_ble_eq_true rfl, Nat.le_of_ble_eq_true rfl⟩ ⟨Nat.zero_le _, Nat.zero_le _⟩ [0] rfl ⟨rfl, rfl⟩ rfl rfl 0 0 rfl rfl rfl rfl (Nat.le_of_ble_eq_true rfl) (ff_cons (xl_fst _ _ _ _ _ _ _ _ _ _ _ _) (ff_nil)) (ws' := [xl xx xn xt xk xe xo xv xc xr cI (x_rf Z 6)]) rfl ?_
  exact G.iret X Rr (v := (-(nI 6))) dX6_runs_19 (pi_mk (by rfl) (by rfl))

set_option maxRecDepth 20000 in
theorem tX6_runs_oth (l : Launch) (D : va_G) (cI cW : ClassId) (xx : Nat → Nat) (xn : Nat → Nat) (xt : Nat → Nat) (xk : Nat → Nat) (xe : Nat → Nat) (xo : Nat → Nat) (xv : Nat → Nat) (xc : Nat → Nat) (xr : Nat → Nat) (Z : Bool × FN) (n : Nat) (w : Int32) (h1 : 1 ≤ n) (hn : n ≤ 99) (hw : z_in w 2 = false) : CT l D cI cW yX6_runs cX6_runs 4 (some .int) ⟨2, 0, 0, 47⟩ [.ref (xx 0), .int (nI n), .int w] ([xl xx xn xt xk xe xo xv xc xr cI Z]) (PI (-2) ([xl xx xn xt xk xe xo xv xc xr cI (x_rf Z 2)])) := by
  refine CT.of RX6 rfl (by decide +kernel) (Nat.le_of_ble_eq_true rfl) [(0, .ref (xx 0)), (1, .int (nI n)), (2, .int w)] rfl (fun x X Rr hnm => ?_)
  refine G.il X dX6_runs_0 1 rfl ?_
  refine G.pu X dX6_runs_1 ?_
  refine G.pu X dX6_runs_2 ?_
  refine G.il X dX6_runs_4 2 rfl ?_
  refine G.pu X dX6_runs_5 ?_
  refine G.csti X kX6_outsideOrOther lX6_162 dX6_runs_6 (tX6_outsideOrOther_oth l D cI cW n 1 99 w (by omega) (by omega) (by omega) (z_bad2 hw)) ⟨Nat.le_of_ble_eq_true rfl, Nat.le_of_ble_eq_true rfl⟩ ⟨Nat.zero_le _, Nat.zero_le _⟩ [] rfl ⟨rfl, rfl⟩ rfl rfl rfl (Nat.le_of_ble_eq_true rfl) (ff_nil) (ws' := [xl xx xn xt xk xe xo xv xc xr cI Z]) rfl ?_
  refine G.is X dX6_runs_9 (by decide) (lv' := [(3, .int (-2)), (0, .ref (xx 0)), (1, .int (nI n)), (2, .int w)]) rfl ?_
  refine G.il X dX6_runs_10 0 rfl ?_
  refine G.z_eq X (a := (-2)) dX6_runs_11 (fun b11 => absurd b11 (by decide)) (fun b11 => ?_)
  refine G.al X dX6_runs_14 1 rfl ?_
  refine G.il X dX6_runs_15 0 rfl ?_
  refine G.cvi X kX6_refuse lX6_65 dX6_runs_16 (tX6_refuse l D cI cW xx xn xt xk xe xo xv xc xr Z 2 (by omega) (by omega)) ⟨Nat.le_of_ble_eq_true rfl, Nat.le_of_ble_eq_true rfl⟩ ⟨Nat.zero_le _, Nat.zero_le _⟩ [0] rfl ⟨rfl, rfl⟩ rfl rfl 0 0 rfl rfl rfl rfl (Nat.le_of_ble_eq_true rfl) (ff_cons (xl_fst _ _ _ _ _ _ _ _ _ _ _ _) (ff_nil)) (ws' := [xl xx xn xt xk xe xo xv xc xr cI (x_rf Z 2)]) rfl ?_
  exact G.iret X Rr (v := (-(nI 2))) dX6_runs_19 (pi_mk (by rfl) (by rfl))

set_option maxRecDepth 20000 in
theorem tX6_runs_0 (l : Launch) (D : va_G) (cI cW : ClassId) (xx : Nat → Nat) (xn : Nat → Nat) (xt : Nat → Nat) (xk : Nat → Nat) (xe : Nat → Nat) (xo : Nat → Nat) (xv : Nat → Nat) (xc : Nat → Nat) (xr : Nat → Nat) (Z : Bool × FN) (S : WS) (xp : Nat → Nat) (qo : FN) (T2 : WS) (n : Nat) (hS : Ok S) (h1 : 1 ≤ n) (hn : n ≤ 99) : CT l D cI cW yX6_runs cX6_runs 4 (some .int) ⟨5, 0, 0, 112⟩ [.ref (xx 0), .int (nI n), .int 0] ([xl xx xn xt xk xe xo xv xc xr cI Z, wl xn cI S, ol xo xp cI qo, wl xp cI T2]) (PI (nI (w_wet S n)) ([xl xx xn xt xk xe xo xv xc xr cI Z, wl xn cI S, ol xo xp cI qo, wl xp cI (w_dayN S n)])) := by
  refine CT.of RX6 rfl (by decide +kernel) (Nat.le_of_ble_eq_true rfl) [(0, .ref (xx 0)), (1, .int (nI n)), (2, .int 0)] rfl (fun x X Rr hnm => ?_)
  have hth := hS.th
  have hpe := hS.pe
  refine G.il X dX6_runs_0 1 rfl ?_
  refine G.pu X dX6_runs_1 ?_
  refine G.pu X dX6_runs_2 ?_
  refine G.il X dX6_runs_4 2 rfl ?_
  refine G.pu X dX6_runs_5 ?_
  refine G.csti X kX6_outsideOrOther lX6_162 dX6_runs_6 (tX6_outsideOrOther_ok l D cI cW n 1 99 0 (by omega) (by omega) (by omega) (by omega)) ⟨Nat.le_of_ble_eq_true rfl, Nat.le_of_ble_eq_true rfl⟩ ⟨Nat.zero_le _, Nat.zero_le _⟩ [] rfl ⟨rfl, rfl⟩ rfl rfl rfl (Nat.le_of_ble_eq_true rfl) (ff_nil) (ws' := [xl xx xn xt xk xe xo xv xc xr cI Z, wl xn cI S, ol xo xp cI qo, wl xp cI T2]) rfl ?_
  refine G.is X dX6_runs_9 (by decide) (lv' := [(3, .int 0), (0, .ref (xx 0)), (1, .int (nI n)), (2, .int 0)]) rfl ?_
  refine G.il X dX6_runs_10 0 rfl ?_
  refine G.z_eq X (a := 0) dX6_runs_11 (fun b11 => ?_) (fun b11 => absurd b11 (by decide))
  refine G.il X dX6_runs_20 3 rfl ?_
  refine G.z_ne X (a := 0) dX6_runs_21 (fun b21 => absurd b21 (by decide)) (fun b21 => ?_)
  refine G.al X dX6_runs_24 1 rfl ?_
  refine G.get X fX6_36 dX6_runs_25 0 0 rfl rfl rfl ?_
  refine G.al X dX6_runs_28 1 rfl ?_
  refine G.get X fX6_10 dX6_runs_29 0 0 rfl rfl rfl ?_
  refine G.il X dX6_runs_32 2 rfl ?_
  refine G.cvi X kX3_waterDays lX6_187 dX6_runs_33 (tX3_waterDays l D cI cW xo xp qo T2 xn S n hS (by omega)) ⟨Nat.le_of_ble_eq_true rfl, Nat.le_of_ble_eq_true rfl⟩ ⟨Nat.zero_le _, Nat.zero_le _⟩ [2, 3, 1] rfl ⟨rfl, rfl⟩ rfl rfl 2 0 rfl rfl rfl rfl (Nat.le_of_ble_eq_true rfl) (ff_cons (ol_fst _ _ _ _ _) (ff_cons (wl_fst _ _ _ _) (ff_cons (wl_fst _ _ _ _) (ff_nil)))) (ws' := [xl xx xn xt xk xe xo xv xc xr cI Z, wl xn cI S, ol xo xp cI qo, wl xp cI (w_dayN S n)]) rfl ?_
  refine G.go X dX6_runs_36 ?_
  exact G.iret X Rr (v := nI (w_wet S n)) dX6_runs_51 (pi_mk (by rfl) (by rfl))

set_option maxRecDepth 20000 in
theorem tX6_runs_1 (l : Launch) (D : va_G) (cI cW : ClassId) (xx : Nat → Nat) (xn : Nat → Nat) (xt : Nat → Nat) (xk : Nat → Nat) (xe : Nat → Nat) (xo : Nat → Nat) (xv : Nat → Nat) (xc : Nat → Nat) (xr : Nat → Nat) (Z : Bool × FN) (S : WS) (xp : Nat → Nat) (qo : FN) (T2 : WS) (n : Nat) (hS : Ok S) (h1 : 1 ≤ n) (hn : n ≤ 99) : CT l D cI cW yX6_runs cX6_runs 4 (some .int) ⟨4, 0, 0, 106⟩ [.ref (xx 0), .int (nI n), .int 1] ([xl xx xn xt xk xe xo xv xc xr cI Z, wl xn cI S, ol xo xp cI qo, wl xp cI T2]) (PI (w_lng S n) ([xl xx xn xt xk xe xo xv xc xr cI Z, wl xn cI S, ol xo xp cI qo, wl xp cI (w_dayN S n)])) := by
  refine CT.of RX6 rfl (by decide +kernel) (Nat.le_of_ble_eq_true rfl) [(0, .ref (xx 0)), (1, .int (nI n)), (2, .int 1)] rfl (fun x X Rr hnm => ?_)
  have hth := hS.th
  have hpe := hS.pe
  refine G.il X dX6_runs_0 1 rfl ?_
  refine G.pu X dX6_runs_1 ?_
  refine G.pu X dX6_runs_2 ?_
  refine G.il X dX6_runs_4 2 rfl ?_
  refine G.pu X dX6_runs_5 ?_
  refine G.csti X kX6_outsideOrOther lX6_162 dX6_runs_6 (tX6_outsideOrOther_ok l D cI cW n 1 99 1 (by omega) (by omega) (by omega) (by omega)) ⟨Nat.le_of_ble_eq_true rfl, Nat.le_of_ble_eq_true rfl⟩ ⟨Nat.zero_le _, Nat.zero_le _⟩ [] rfl ⟨rfl, rfl⟩ rfl rfl rfl (Nat.le_of_ble_eq_true rfl) (ff_nil) (ws' := [xl xx xn xt xk xe xo xv xc xr cI Z, wl xn cI S, ol xo xp cI qo, wl xp cI T2]) rfl ?_
  refine G.is X dX6_runs_9 (by decide) (lv' := [(3, .int 0), (0, .ref (xx 0)), (1, .int (nI n)), (2, .int 1)]) rfl ?_
  refine G.il X dX6_runs_10 0 rfl ?_
  refine G.z_eq X (a := 0) dX6_runs_11 (fun b11 => ?_) (fun b11 => absurd b11 (by decide))
  refine G.il X dX6_runs_20 3 rfl ?_
  refine G.z_ne X (a := 1) dX6_runs_21 (fun b21 => ?_) (fun b21 => absurd b21 (by decide))
  refine G.al X dX6_runs_39 1 rfl ?_
  refine G.get X fX6_36 dX6_runs_40 0 0 rfl rfl rfl ?_
  refine G.al X dX6_runs_43 1 rfl ?_
  refine G.get X fX6_10 dX6_runs_44 0 0 rfl rfl rfl ?_
  refine G.il X dX6_runs_47 2 rfl ?_
  refine G.cvi X kX3_longestWater lX6_190 dX6_runs_48 (tX3_longestWater l D cI cW xo xp qo T2 xn S n hS (by omega)) ⟨Nat.le_of_ble_eq_true rfl, Nat.le_of_ble_eq_true rfl⟩ ⟨Nat.zero_le _, Nat.zero_le _⟩ [2, 3, 1] rfl ⟨rfl, rfl⟩ rfl rfl 2 0 rfl rfl rfl rfl (Nat.le_of_ble_eq_true rfl) (ff_cons (ol_fst _ _ _ _ _) (ff_cons (wl_fst _ _ _ _) (ff_cons (wl_fst _ _ _ _) (ff_nil)))) (ws' := [xl xx xn xt xk xe xo xv xc xr cI Z, wl xn cI S, ol xo xp cI qo, wl xp cI (w_dayN S n)]) rfl ?_
  exact G.iret X Rr (v := (w_lng S n)) dX6_runs_51 (pi_mk (by rfl) (by rfl))

set_option maxRecDepth 20000 in
theorem tX6_never (l : Launch) (D : va_G) (cI cW : ClassId) (xx : Nat → Nat) (xn : Nat → Nat) (xt : Nat → Nat) (xk : Nat → Nat) (xe : Nat → Nat) (xo : Nat → Nat) (xv : Nat → Nat) (xc : Nat → Nat) (xr : Nat → Nat) (Z : Bool × FN) (S : WS) (hS : Ok S) : CT l D cI cW yX6_never cX6_never 1 (some .int) ⟨5, 0, 0, 107⟩ [.ref (xx 0)] ([xl xx xn xt xk xe xo xv xc xr cI Z, wl xn cI S]) (PI (w_nevb S (s_th S)) ([xl xx xn xt xk xe xo xv xc xr cI Z, wl xn cI S])) := by
  refine CT.of RX6 rfl (by decide +kernel) (Nat.le_of_ble_eq_true rfl) [(0, .ref (xx 0))] rfl (fun x X Rr hnm => ?_)
  have hth := hS.th
  have hpe := hS.pe
  refine G.al X dX6_never_0 0 rfl ?_
  refine G.get X fX6_10 dX6_never_1 0 0 rfl rfl rfl ?_
  refine G.cvi X kX5_neverBits lX6_193 dX6_never_4 (tX5_neverBits l D cI cW xn S hS) ⟨Nat.le_of_ble_eq_true rfl, Nat.le_of_ble_eq_true rfl⟩ ⟨Nat.zero_le _, Nat.zero_le _⟩ [1] rfl ⟨rfl, rfl⟩ rfl rfl 1 0 rfl rfl rfl rfl (Nat.le_of_ble_eq_true rfl) (ff_cons (wl_fst _ _ _ _) (ff_nil)) (ws' := [xl xx xn xt xk xe xo xv xc xr cI Z, wl xn cI S]) rfl ?_
  exact G.iret X Rr (v := (w_nevb S (s_th S))) dX6_never_7 (pi_mk (by rfl) (by rfl))

set_option maxRecDepth 20000 in
theorem tX6_busiest (l : Launch) (D : va_G) (cI cW : ClassId) (xx : Nat → Nat) (xn : Nat → Nat) (xt : Nat → Nat) (xk : Nat → Nat) (xe : Nat → Nat) (xo : Nat → Nat) (xv : Nat → Nat) (xc : Nat → Nat) (xr : Nat → Nat) (Z : Bool × FN) (S : WS) (hS : Ok S) : CT l D cI cW yX6_busiest cX6_busiest 5 (some .int) ⟨1, 0, 0, 23⟩ [.ref (xx 0)] ([xl xx xn xt xk xe xo xv xc xr cI Z, wl xn cI S]) (PI ((bmax yes (fun p => w_qs S (nI p) (s_th S)) (-9, -1) (s_pe S)).1) ([xl xx xn xt xk xe xo xv xc xr cI Z, wl xn cI S])) := by
  refine CT.of RX6 rfl (by decide +kernel) (Nat.le_of_ble_eq_true rfl) [(0, .ref (xx 0))] rfl (fun x X Rr hnm => ?_)
  have hth := hS.th
  have hpe := hS.pe
  refine G.pu X dX6_busiest_0 ?_
  refine G.is X dX6_busiest_2 (by decide) (lv' := [(1, .int (-9)), (0, .ref (xx 0))]) rfl ?_
  refine G.pu X dX6_busiest_3 ?_
  refine G.is X dX6_busiest_4 (by decide) (lv' := [(2, .int (-1)), (1, .int (-9)), (0, .ref (xx 0))]) rfl ?_
  refine G.pu X dX6_busiest_5 ?_
  refine G.is X dX6_busiest_6 (by decide) (lv' := [(3, .int 0), (2, .int (-1)), (1, .int (-9)), (0, .ref (xx 0))]) rfl ?_
  have L7 : ∀ k, k ≤ s_pe S → G x 0 0 ([xl xx xn xt xk xe xo xv xc xr cI Z, wl xn cI S]) 7 [(3, .int (nI k)), (2, .int ((bmax yes (fun p => w_qs S (nI p) (s_th S)) (-9, -1) k).2)), (1, .int ((bmax yes (fun p => w_qs S (nI p) (s_th S)) (-9, -1) k).1)), (0, .ref (xx 0))] [] := by
    refine loop_dn (s_pe S) _ ?_ ?_
    · refine G.il X dX6_busiest_7 0 rfl ?_
      refine G.al X dX6_busiest_8 3 rfl ?_
      refine G.get X fX6_10 dX6_busiest_9 0 0 rfl rfl rfl ?_
      refine G.get X fX6_196 dX6_busiest_12 1 0 rfl rfl rfl ?_
      refine G.n_ge X (a := s_pe S) (b := s_pe S) (by omega) (by omega) dX6_busiest_15 (fun b15 => ?_) (fun b15 => absurd b15 (by omega))
      refine G.il X dX6_busiest_45 2 rfl ?_
      exact G.iret X Rr (v := ((bmax yes (fun p => w_qs S (nI p) (s_th S)) (-9, -1) (s_pe S)).1)) dX6_busiest_46 (pi_mk (by rfl) (by rfl))
    · intro k hk ih7
      refine G.il X dX6_busiest_7 0 rfl ?_
      refine G.al X dX6_busiest_8 3 rfl ?_
      refine G.get X fX6_10 dX6_busiest_9 0 0 rfl rfl rfl ?_
      refine G.get X fX6_196 dX6_busiest_12 1 0 rfl rfl rfl ?_
      refine G.n_ge X (a := k) (b := s_pe S) (by omega) (by omega) dX6_busiest_15 (fun b15 => absurd b15 (by omega)) (fun b15 => ?_)
      refine G.al X dX6_busiest_18 3 rfl ?_
      refine G.get X fX6_10 dX6_busiest_19 0 0 rfl rfl rfl ?_
      refine G.il X dX6_busiest_22 0 rfl ?_
      refine G.cvi X kX5_queueOf lX6_104 dX6_busiest_23 (tX5_queueOf l D cI cW xn S (nI k) (by omega)) ⟨Nat.le_of_ble_eq_true rfl, Nat.le_of_ble_eq_true rfl⟩ ⟨Nat.zero_le _, Nat.zero_le _⟩ [1] rfl ⟨rfl, rfl⟩ rfl rfl 1 0 rfl rfl rfl rfl (Nat.le_of_ble_eq_true rfl) (ff_cons (wl_fst _ _ _ _) (ff_nil)) (ws' := [xl xx xn xt xk xe xo xv xc xr cI Z, wl xn cI S]) rfl ?_
      refine G.is X dX6_busiest_26 (by decide) (lv' := [(4, .int (w_qs S (nI k) (s_th S))), (3, .int (nI k)), (2, .int ((bmax yes (fun p => w_qs S (nI p) (s_th S)) (-9, -1) k).2)), (1, .int ((bmax yes (fun p => w_qs S (nI p) (s_th S)) (-9, -1) k).1)), (0, .ref (xx 0))]) rfl ?_
      refine G.il X dX6_busiest_28 0 rfl ?_
      refine G.il X dX6_busiest_30 2 rfl ?_
      refine G.c_le X (a := (w_qs S (nI k) (s_th S))) (b := ((bmax yes (fun p => w_qs S (nI p) (s_th S)) (-9, -1) k).2)) dX6_busiest_31 (fun b31 => ?_) (fun b31 => ?_)
      · refine G.iinc X dX6_busiest_39 1 rfl (v' := nI (k + 1)) (nI_inc k) (by decide) (lv' := [(3, .int (nI (k + 1))), (4, .int (w_qs S (nI k) (s_th S))), (2, .int ((bmax yes (fun p => w_qs S (nI p) (s_th S)) (-9, -1) k).2)), (1, .int ((bmax yes (fun p => w_qs S (nI p) (s_th S)) (-9, -1) k).1)), (0, .ref (xx 0))]) rfl ?_
        refine G.go X dX6_busiest_42 ?_
        rw [show ((bmax yes (fun p => w_qs S (nI p) (s_th S)) (-9, -1) (k + 1)).2) = ((bmax yes (fun p => w_qs S (nI p) (s_th S)) (-9, -1) k).2) from (by simp [bmax, yes, b15, b31])] at ih7
        rw [show ((bmax yes (fun p => w_qs S (nI p) (s_th S)) (-9, -1) (k + 1)).1) = ((bmax yes (fun p => w_qs S (nI p) (s_th S)) (-9, -1) k).1) from (by simp [bmax, yes, b15, b31])] at ih7
        refine G.lvsub [0, 2, 3, 4] (lv' := [(3, .int (nI (k + 1))), (2, .int ((bmax yes (fun p => w_qs S (nI p) (s_th S)) (-9, -1) k).2)), (1, .int ((bmax yes (fun p => w_qs S (nI p) (s_th S)) (-9, -1) k).1)), (0, .ref (xx 0))]) rfl ?_
        exact ih7
      · refine G.il X dX6_busiest_34 0 rfl ?_
        refine G.is X dX6_busiest_36 (by decide) (lv' := [(2, .int (w_qs S (nI k) (s_th S))), (4, .int (w_qs S (nI k) (s_th S))), (3, .int (nI k)), (1, .int ((bmax yes (fun p => w_qs S (nI p) (s_th S)) (-9, -1) k).1)), (0, .ref (xx 0))]) rfl ?_
        refine G.il X dX6_busiest_37 2 rfl ?_
        refine G.is X dX6_busiest_38 (by decide) (lv' := [(1, .int (nI k)), (2, .int (w_qs S (nI k) (s_th S))), (4, .int (w_qs S (nI k) (s_th S))), (3, .int (nI k)), (0, .ref (xx 0))]) rfl ?_
        refine G.iinc X dX6_busiest_39 3 rfl (v' := nI (k + 1)) (nI_inc k) (by decide) (lv' := [(3, .int (nI (k + 1))), (1, .int (nI k)), (2, .int (w_qs S (nI k) (s_th S))), (4, .int (w_qs S (nI k) (s_th S))), (0, .ref (xx 0))]) rfl ?_
        refine G.go X dX6_busiest_42 ?_
        rw [show ((bmax yes (fun p => w_qs S (nI p) (s_th S)) (-9, -1) (k + 1)).2) = (w_qs S (nI k) (s_th S)) from (by simp [bmax, yes, b15, b31])] at ih7
        rw [show ((bmax yes (fun p => w_qs S (nI p) (s_th S)) (-9, -1) (k + 1)).1) = (nI k) from (by simp [bmax, yes, b15, b31])] at ih7
        refine G.lvsub [0, 2, 1, 4] (lv' := [(3, .int (nI (k + 1))), (2, .int (w_qs S (nI k) (s_th S))), (1, .int (nI k)), (0, .ref (xx 0))]) rfl ?_
        exact ih7
  have L7 := L7 0 (Nat.zero_le _)
  exact L7

set_option maxRecDepth 20000 in
theorem tX6_hardest (l : Launch) (D : va_G) (cI cW : ClassId) (xx : Nat → Nat) (xn : Nat → Nat) (xt : Nat → Nat) (xk : Nat → Nat) (xe : Nat → Nat) (xo : Nat → Nat) (xv : Nat → Nat) (xc : Nat → Nat) (xr : Nat → Nat) (Z : Bool × FN) (S : WS) (hS : Ok S) : CT l D cI cW yX6_hardest cX6_hardest 5 (some .int) ⟨1, 0, 0, 21⟩ [.ref (xx 0)] ([xl xx xn xt xk xe xo xv xc xr cI Z, wl xn cI S]) (PI ((bmax yes (fun i => n_of (s_ki S i) (s_we S i)) (-9, -1) (s_th S)).1) ([xl xx xn xt xk xe xo xv xc xr cI Z, wl xn cI S])) := by
  refine CT.of RX6 rfl (by decide +kernel) (Nat.le_of_ble_eq_true rfl) [(0, .ref (xx 0))] rfl (fun x X Rr hnm => ?_)
  have hth := hS.th
  have hpe := hS.pe
  refine G.pu X dX6_hardest_0 ?_
  refine G.is X dX6_hardest_2 (by decide) (lv' := [(1, .int (-9)), (0, .ref (xx 0))]) rfl ?_
  refine G.pu X dX6_hardest_3 ?_
  refine G.is X dX6_hardest_4 (by decide) (lv' := [(2, .int (-1)), (1, .int (-9)), (0, .ref (xx 0))]) rfl ?_
  refine G.pu X dX6_hardest_5 ?_
  refine G.is X dX6_hardest_6 (by decide) (lv' := [(3, .int 0), (2, .int (-1)), (1, .int (-9)), (0, .ref (xx 0))]) rfl ?_
  have L7 : ∀ k, k ≤ s_th S → G x 0 0 ([xl xx xn xt xk xe xo xv xc xr cI Z, wl xn cI S]) 7 [(3, .int (nI k)), (2, .int ((bmax yes (fun i => n_of (s_ki S i) (s_we S i)) (-9, -1) k).2)), (1, .int ((bmax yes (fun i => n_of (s_ki S i) (s_we S i)) (-9, -1) k).1)), (0, .ref (xx 0))] [] := by
    refine loop_dn (s_th S) _ ?_ ?_
    · refine G.il X dX6_hardest_7 0 rfl ?_
      refine G.al X dX6_hardest_8 3 rfl ?_
      refine G.get X fX6_10 dX6_hardest_9 0 0 rfl rfl rfl ?_
      refine G.get X fX6_225 dX6_hardest_12 1 0 rfl rfl rfl ?_
      refine G.n_ge X (a := s_th S) (b := s_th S) (by omega) (by omega) dX6_hardest_15 (fun b15 => ?_) (fun b15 => absurd b15 (by omega))
      refine G.il X dX6_hardest_58 2 rfl ?_
      exact G.iret X Rr (v := ((bmax yes (fun i => n_of (s_ki S i) (s_we S i)) (-9, -1) (s_th S)).1)) dX6_hardest_59 (pi_mk (by rfl) (by rfl))
    · intro k hk ih7
      refine G.il X dX6_hardest_7 0 rfl ?_
      refine G.al X dX6_hardest_8 3 rfl ?_
      refine G.get X fX6_10 dX6_hardest_9 0 0 rfl rfl rfl ?_
      refine G.get X fX6_225 dX6_hardest_12 1 0 rfl rfl rfl ?_
      refine G.n_ge X (a := k) (b := s_th S) (by omega) (by omega) dX6_hardest_15 (fun b15 => absurd b15 (by omega)) (fun b15 => ?_)
      refine G.al X dX6_hardest_18 3 rfl ?_
      refine G.get X fX6_10 dX6_hardest_19 0 0 rfl rfl rfl ?_
      refine G.get X fX6_110 dX6_hardest_22 1 0 rfl rfl rfl ?_
      refine G.il X dX6_hardest_25 0 rfl ?_
      refine G.nld X (i := k) dX6_hardest_26 1 4 rfl rfl (by omega) (by decide) ?_
      refine G.al X dX6_hardest_27 3 rfl ?_
      refine G.get X fX6_10 dX6_hardest_28 0 0 rfl rfl rfl ?_
      refine G.get X fX6_113 dX6_hardest_31 1 0 rfl rfl rfl ?_
      refine G.il X dX6_hardest_34 0 rfl ?_
      refine G.nld X (i := k) dX6_hardest_35 1 5 rfl rfl (by omega) (by decide) ?_
      refine G.csti X kX6_timesOf lX6_228 dX6_hardest_36 (tX6_timesOf l D cI cW ((s_ki S) k) ((s_we S) k)) ⟨Nat.le_of_ble_eq_true rfl, Nat.le_of_ble_eq_true rfl⟩ ⟨Nat.zero_le _, Nat.zero_le _⟩ [] rfl ⟨rfl, rfl⟩ rfl rfl rfl (Nat.le_of_ble_eq_true rfl) (ff_nil) (ws' := [xl xx xn xt xk xe xo xv xc xr cI Z, wl xn cI S]) rfl ?_
      refine G.is X dX6_hardest_39 (by decide) (lv' := [(4, .int (n_of ((s_ki S) k) ((s_we S) k))), (3, .int (nI k)), (2, .int ((bmax yes (fun i => n_of (s_ki S i) (s_we S i)) (-9, -1) k).2)), (1, .int ((bmax yes (fun i => n_of (s_ki S i) (s_we S i)) (-9, -1) k).1)), (0, .ref (xx 0))]) rfl ?_
      refine G.il X dX6_hardest_41 0 rfl ?_
      refine G.il X dX6_hardest_43 2 rfl ?_
      refine G.c_le X (a := (n_of ((s_ki S) k) ((s_we S) k))) (b := ((bmax yes (fun i => n_of (s_ki S i) (s_we S i)) (-9, -1) k).2)) dX6_hardest_44 (fun b44 => ?_) (fun b44 => ?_)
      · refine G.iinc X dX6_hardest_52 1 rfl (v' := nI (k + 1)) (nI_inc k) (by decide) (lv' := [(3, .int (nI (k + 1))), (4, .int (n_of ((s_ki S) k) ((s_we S) k))), (2, .int ((bmax yes (fun i => n_of (s_ki S i) (s_we S i)) (-9, -1) k).2)), (1, .int ((bmax yes (fun i => n_of (s_ki S i) (s_we S i)) (-9, -1) k).1)), (0, .ref (xx 0))]) rfl ?_
        refine G.go X dX6_hardest_55 ?_
        rw [show ((bmax yes (fun i => n_of (s_ki S i) (s_we S i)) (-9, -1) (k + 1)).2) = ((bmax yes (fun i => n_of (s_ki S i) (s_we S i)) (-9, -1) k).2) from (by simp [bmax, yes, b15, b44])] at ih7
        rw [show ((bmax yes (fun i => n_of (s_ki S i) (s_we S i)) (-9, -1) (k + 1)).1) = ((bmax yes (fun i => n_of (s_ki S i) (s_we S i)) (-9, -1) k).1) from (by simp [bmax, yes, b15, b44])] at ih7
        refine G.lvsub [0, 2, 3, 4] (lv' := [(3, .int (nI (k + 1))), (2, .int ((bmax yes (fun i => n_of (s_ki S i) (s_we S i)) (-9, -1) k).2)), (1, .int ((bmax yes (fun i => n_of (s_ki S i) (s_we S i)) (-9, -1) k).1)), (0, .ref (xx 0))]) rfl ?_
        exact ih7
      · refine G.il X dX6_hardest_47 0 rfl ?_
        refine G.is X dX6_hardest_49 (by decide) (lv' := [(2, .int (n_of ((s_ki S) k) ((s_we S) k))), (4, .int (n_of ((s_ki S) k) ((s_we S) k))), (3, .int (nI k)), (1, .int ((bmax yes (fun i => n_of (s_ki S i) (s_we S i)) (-9, -1) k).1)), (0, .ref (xx 0))]) rfl ?_
        refine G.il X dX6_hardest_50 2 rfl ?_
        refine G.is X dX6_hardest_51 (by decide) (lv' := [(1, .int (nI k)), (2, .int (n_of ((s_ki S) k) ((s_we S) k))), (4, .int (n_of ((s_ki S) k) ((s_we S) k))), (3, .int (nI k)), (0, .ref (xx 0))]) rfl ?_
        refine G.iinc X dX6_hardest_52 3 rfl (v' := nI (k + 1)) (nI_inc k) (by decide) (lv' := [(3, .int (nI (k + 1))), (1, .int (nI k)), (2, .int (n_of ((s_ki S) k) ((s_we S) k))), (4, .int (n_of ((s_ki S) k) ((s_we S) k))), (0, .ref (xx 0))]) rfl ?_
        refine G.go X dX6_hardest_55 ?_
        rw [show ((bmax yes (fun i => n_of (s_ki S i) (s_we S i)) (-9, -1) (k + 1)).2) = (n_of ((s_ki S) k) ((s_we S) k)) from (by simp [bmax, yes, b15, b44])] at ih7
        rw [show ((bmax yes (fun i => n_of (s_ki S i) (s_we S i)) (-9, -1) (k + 1)).1) = (nI k) from (by simp [bmax, yes, b15, b44])] at ih7
        refine G.lvsub [0, 2, 1, 4] (lv' := [(3, .int (nI (k + 1))), (2, .int (n_of ((s_ki S) k) ((s_we S) k))), (1, .int (nI k)), (0, .ref (xx 0))]) rfl ?_
        exact ih7
  have L7 := L7 0 (Nat.zero_le _)
  exact L7

set_option maxRecDepth 20000 in
theorem tX6_topics (l : Launch) (D : va_G) (cI cW : ClassId) (xx : Nat → Nat) (xn : Nat → Nat) (xt : Nat → Nat) (xk : Nat → Nat) (xe : Nat → Nat) (xo : Nat → Nat) (xv : Nat → Nat) (xc : Nat → Nat) (xr : Nat → Nat) (Z : Bool × FN) (S : WS) (hS : Ok S) : CT l D cI cW yX6_topics cX6_topics 3 (some .int) ⟨1, 0, 0, 22⟩ [.ref (xx 0)] ([xl xx xn xt xk xe xo xv xc xr cI Z, wl xn cI S]) (PI (w_tb S (s_th S)) ([xl xx xn xt xk xe xo xv xc xr cI Z, wl xn cI S])) := by
  refine CT.of RX6 rfl (by decide +kernel) (Nat.le_of_ble_eq_true rfl) [(0, .ref (xx 0))] rfl (fun x X Rr hnm => ?_)
  have hth := hS.th
  have hpe := hS.pe
  refine G.pu X dX6_topics_0 ?_
  refine G.is X dX6_topics_1 (by decide) (lv' := [(1, .int 0), (0, .ref (xx 0))]) rfl ?_
  refine G.pu X dX6_topics_2 ?_
  refine G.is X dX6_topics_3 (by decide) (lv' := [(2, .int 0), (1, .int 0), (0, .ref (xx 0))]) rfl ?_
  have L4 : ∀ k, k ≤ s_th S → G x 0 0 ([xl xx xn xt xk xe xo xv xc xr cI Z, wl xn cI S]) 4 [(2, .int (nI k)), (1, .int (w_tb S k)), (0, .ref (xx 0))] [] := by
    refine loop_dn (s_th S) _ ?_ ?_
    · refine G.il X dX6_topics_4 0 rfl ?_
      refine G.al X dX6_topics_5 2 rfl ?_
      refine G.get X fX6_10 dX6_topics_6 0 0 rfl rfl rfl ?_
      refine G.get X fX6_225 dX6_topics_9 1 0 rfl rfl rfl ?_
      refine G.n_ge X (a := s_th S) (b := s_th S) (by omega) (by omega) dX6_topics_12 (fun b12 => ?_) (fun b12 => absurd b12 (by omega))
      refine G.il X dX6_topics_45 1 rfl ?_
      exact G.iret X Rr (v := (w_tb S (s_th S))) dX6_topics_46 (pi_mk (by rfl) (by rfl))
    · intro k hk ih4
      refine G.il X dX6_topics_4 0 rfl ?_
      refine G.al X dX6_topics_5 2 rfl ?_
      refine G.get X fX6_10 dX6_topics_6 0 0 rfl rfl rfl ?_
      refine G.get X fX6_225 dX6_topics_9 1 0 rfl rfl rfl ?_
      refine G.n_ge X (a := k) (b := s_th S) (by omega) (by omega) dX6_topics_12 (fun b12 => absurd b12 (by omega)) (fun b12 => ?_)
      refine G.al X dX6_topics_15 2 rfl ?_
      refine G.get X fX6_10 dX6_topics_16 0 0 rfl rfl rfl ?_
      refine G.il X dX6_topics_19 0 rfl ?_
      refine G.cvi X kX5_asks lX6_128 dX6_topics_20 (tX5_asks l D cI cW xn S k (by omega)) ⟨Nat.le_of_ble_eq_true rfl, Nat.le_of_ble_eq_true rfl⟩ ⟨Nat.zero_le _, Nat.zero_le _⟩ [1] rfl ⟨rfl, rfl⟩ rfl rfl 1 0 rfl rfl rfl rfl (Nat.le_of_ble_eq_true rfl) (ff_cons (wl_fst _ _ _ _) (ff_nil)) (ws' := [xl xx xn xt xk xe xo xv xc xr cI Z, wl xn cI S]) rfl ?_
      refine G.b_eq X dX6_topics_23 (fun b23 => ?_) (fun b23 => ?_)
      · refine G.iinc X dX6_topics_39 0 rfl (v' := nI (k + 1)) (nI_inc k) (by decide) (lv' := [(2, .int (nI (k + 1))), (1, .int (w_tb S k)), (0, .ref (xx 0))]) rfl ?_
        refine G.go X dX6_topics_42 ?_
        rw [show (w_tb S (k + 1)) = (w_tb S k) from (by simp [w_tb, b12, b23])] at ih4
        exact ih4
      · refine G.il X dX6_topics_26 1 rfl ?_
        refine G.pu X dX6_topics_27 ?_
        refine G.al X dX6_topics_28 2 rfl ?_
        refine G.get X fX6_10 dX6_topics_29 0 0 rfl rfl rfl ?_
        refine G.il X dX6_topics_32 0 rfl ?_
        refine G.cvi X kX5_topicOf lX6_125 dX6_topics_33 (tX5_topicOf l D cI cW xn S k (by omega)) ⟨Nat.le_of_ble_eq_true rfl, Nat.le_of_ble_eq_true rfl⟩ ⟨Nat.zero_le _, Nat.zero_le _⟩ [1] rfl ⟨rfl, rfl⟩ rfl rfl 1 0 rfl rfl rfl rfl (Nat.le_of_ble_eq_true rfl) (ff_cons (wl_fst _ _ _ _) (ff_nil)) (ws' := [xl xx xn xt xk xe xo xv xc xr cI Z, wl xn cI S]) rfl ?_
        refine G.ishl X dX6_topics_36 ?_
        refine G.ior X dX6_topics_37 ?_
        refine G.is X dX6_topics_38 (by decide) (lv' := [(1, .int ((w_tb S k) ||| (1 <<< ((top S k) &&& 31)))), (2, .int (nI k)), (0, .ref (xx 0))]) rfl ?_
        refine G.iinc X dX6_topics_39 1 rfl (v' := nI (k + 1)) (nI_inc k) (by decide) (lv' := [(2, .int (nI (k + 1))), (1, .int ((w_tb S k) ||| (1 <<< ((top S k) &&& 31)))), (0, .ref (xx 0))]) rfl ?_
        refine G.go X dX6_topics_42 ?_
        rw [show (w_tb S (k + 1)) = ((w_tb S k) ||| (1 <<< ((top S k) &&& 31))) from (by simp [w_tb, b12, b23])] at ih4
        exact ih4
  have L4 := L4 0 (Nat.zero_le _)
  exact L4

set_option maxRecDepth 20000 in
theorem tX6_truth (l : Launch) (D : va_G) (cI cW : ClassId) (xx : Nat → Nat) (xn : Nat → Nat) (xt : Nat → Nat) (xk : Nat → Nat) (xe : Nat → Nat) (xo : Nat → Nat) (xv : Nat → Nat) (xc : Nat → Nat) (xr : Nat → Nat) (Z : Bool × FN) (S : WS) (hS : Ok S) : CT l D cI cW yX6_truth cX6_truth 3 (some .int) ⟨3, 0, 0, 64⟩ [.ref (xx 0)] ([xl xx xn xt xk xe xo xv xc xr cI Z, wl xn cI S]) (PI (nI (w_tr S (s_th S))) ([xl xx xn xt xk xe xo xv xc xr cI Z, wl xn cI S])) := by
  refine CT.of RX6 rfl (by decide +kernel) (Nat.le_of_ble_eq_true rfl) [(0, .ref (xx 0))] rfl (fun x X Rr hnm => ?_)
  have hth := hS.th
  have hpe := hS.pe
  refine G.pu X dX6_truth_0 ?_
  refine G.is X dX6_truth_1 (by decide) (lv' := [(1, .int 0), (0, .ref (xx 0))]) rfl ?_
  refine G.pu X dX6_truth_2 ?_
  refine G.is X dX6_truth_3 (by decide) (lv' := [(2, .int 0), (1, .int 0), (0, .ref (xx 0))]) rfl ?_
  have L4 : ∀ k, k ≤ s_th S → G x 0 0 ([xl xx xn xt xk xe xo xv xc xr cI Z, wl xn cI S]) 4 [(2, .int (nI k)), (1, .int (nI (w_tr S k))), (0, .ref (xx 0))] [] := by
    refine loop_dn (s_th S) _ ?_ ?_
    · refine G.il X dX6_truth_4 0 rfl ?_
      refine G.al X dX6_truth_5 2 rfl ?_
      refine G.get X fX6_10 dX6_truth_6 0 0 rfl rfl rfl ?_
      refine G.get X fX6_225 dX6_truth_9 1 0 rfl rfl rfl ?_
      refine G.n_ge X (a := s_th S) (b := s_th S) (by omega) (by omega) dX6_truth_12 (fun b12 => ?_) (fun b12 => absurd b12 (by omega))
      refine G.il X dX6_truth_35 1 rfl ?_
      exact G.iret X Rr (v := nI (w_tr S (s_th S))) dX6_truth_36 (pi_mk (by rfl) (by rfl))
    · intro k hk ih4
      refine G.il X dX6_truth_4 0 rfl ?_
      refine G.al X dX6_truth_5 2 rfl ?_
      refine G.get X fX6_10 dX6_truth_6 0 0 rfl rfl rfl ?_
      refine G.get X fX6_225 dX6_truth_9 1 0 rfl rfl rfl ?_
      refine G.n_ge X (a := k) (b := s_th S) (by omega) (by omega) dX6_truth_12 (fun b12 => absurd b12 (by omega)) (fun b12 => ?_)
      refine G.al X dX6_truth_15 2 rfl ?_
      refine G.get X fX6_10 dX6_truth_16 0 0 rfl rfl rfl ?_
      refine G.il X dX6_truth_19 0 rfl ?_
      refine G.cvi X kX5_dropperKnows lX6_148 dX6_truth_20 (tX5_dropperKnows l D cI cW xn S k hS (by omega)) ⟨Nat.le_of_ble_eq_true rfl, Nat.le_of_ble_eq_true rfl⟩ ⟨Nat.zero_le _, Nat.zero_le _⟩ [1] rfl ⟨rfl, rfl⟩ rfl rfl 1 0 rfl rfl rfl rfl (Nat.le_of_ble_eq_true rfl) (ff_cons (wl_fst _ _ _ _) (ff_nil)) (ws' := [xl xx xn xt xk xe xo xv xc xr cI Z, wl xn cI S]) rfl ?_
      refine G.b_eq X dX6_truth_23 (fun b23 => ?_) (fun b23 => ?_)
      · refine G.iinc X dX6_truth_29 0 rfl (v' := nI (k + 1)) (nI_inc k) (by decide) (lv' := [(2, .int (nI (k + 1))), (1, .int (nI (w_tr S k))), (0, .ref (xx 0))]) rfl ?_
        refine G.go X dX6_truth_32 ?_
        rw [show (nI (w_tr S (k + 1))) = (nI (w_tr S k)) from (by simp [w_tr, b12, b23])] at ih4
        exact ih4
      · refine G.iinc X dX6_truth_26 1 rfl (v' := nI ((w_tr S k) + 1)) (nI_inc (w_tr S k)) (by decide) (lv' := [(1, .int (nI ((w_tr S k) + 1))), (2, .int (nI k)), (0, .ref (xx 0))]) rfl ?_
        refine G.iinc X dX6_truth_29 1 rfl (v' := nI (k + 1)) (nI_inc k) (by decide) (lv' := [(2, .int (nI (k + 1))), (1, .int (nI ((w_tr S k) + 1))), (0, .ref (xx 0))]) rfl ?_
        refine G.go X dX6_truth_32 ?_
        rw [show (nI (w_tr S (k + 1))) = (nI ((w_tr S k) + 1)) from (by simp [w_tr, b12, b23])] at ih4
        exact ih4
  have L4 := L4 0 (Nat.zero_le _)
  exact L4

set_option maxRecDepth 20000 in
theorem tX6_knower_bad (l : Launch) (D : va_G) (cI cW : ClassId) (xx : Nat → Nat) (xn : Nat → Nat) (xt : Nat → Nat) (xk : Nat → Nat) (xe : Nat → Nat) (xo : Nat → Nat) (xv : Nat → Nat) (xc : Nat → Nat) (xr : Nat → Nat) (Z : Bool × FN) (S : WS) (t : Int32) (hS : Ok S) (ht : z_in t 8 = false) : CT l D cI cW yX6_knower cX6_knower 5 (some .int) ⟨1, 0, 0, 22⟩ [.ref (xx 0), .int t] ([xl xx xn xt xk xe xo xv xc xr cI Z, wl xn cI S]) (PI (-1) ([xl xx xn xt xk xe xo xv xc xr cI (x_rf Z 1), wl xn cI S])) := by
  refine CT.of RX6 rfl (by decide +kernel) (Nat.le_of_ble_eq_true rfl) [(0, .ref (xx 0)), (1, .int t)] rfl (fun x X Rr hnm => ?_)
  have hth := hS.th
  have hpe := hS.pe
  refine G.il X dX6_knower_0 1 rfl ?_
  refine G.z_lt X (a := t) dX6_knower_1 (fun b1 => ?_) (fun b1 => ?_)
  · refine G.al X dX6_knower_10 0 rfl ?_
    refine G.pu X dX6_knower_11 ?_
    refine G.cvi X kX6_refuse lX6_65 dX6_knower_12 (tX6_refuse l D cI cW xx xn xt xk xe xo xv xc xr Z 1 (by omega) (by omega)) ⟨Nat.le_of_ble_eq_true rfl, Nat.le_of_ble_eq_true rfl⟩ ⟨Nat.zero_le _, Nat.zero_le _⟩ [0] rfl ⟨rfl, rfl⟩ rfl rfl 0 0 rfl rfl rfl rfl (Nat.le_of_ble_eq_true rfl) (ff_cons (xl_fst _ _ _ _ _ _ _ _ _ _ _ _) (ff_nil)) (ws' := [xl xx xn xt xk xe xo xv xc xr cI (x_rf Z 1), wl xn cI S]) rfl ?_
    exact G.iret X Rr (v := (-(nI 1))) dX6_knower_15 (pi_mk (by rfl) (by rfl))
  · refine G.il X dX6_knower_4 1 rfl ?_
    refine G.pu X dX6_knower_5 ?_
    refine G.c_lt X (a := t) (b := 8) dX6_knower_7 (fun b7 => absurd b7 ((z_bad8 ht b1))) (fun b7 => ?_)
    refine G.al X dX6_knower_10 0 rfl ?_
    refine G.pu X dX6_knower_11 ?_
    refine G.cvi X kX6_refuse lX6_65 dX6_knower_12 (tX6_refuse l D cI cW xx xn xt xk xe xo xv xc xr Z 1 (by omega) (by omega)) ⟨Nat.le_of_ble_eq_true rfl, Nat.le_of_ble_eq_true rfl⟩ ⟨Nat.zero_le _, Nat.zero_le _⟩ [0] rfl ⟨rfl, rfl⟩ rfl rfl 0 0 rfl rfl rfl rfl (Nat.le_of_ble_eq_true rfl) (ff_cons (xl_fst _ _ _ _ _ _ _ _ _ _ _ _) (ff_nil)) (ws' := [xl xx xn xt xk xe xo xv xc xr cI (x_rf Z 1), wl xn cI S]) rfl ?_
    exact G.iret X Rr (v := (-(nI 1))) dX6_knower_15 (pi_mk (by rfl) (by rfl))

set_option maxRecDepth 20000 in
theorem tX6_knower_ok (l : Launch) (D : va_G) (cI cW : ClassId) (xx : Nat → Nat) (xn : Nat → Nat) (xt : Nat → Nat) (xk : Nat → Nat) (xe : Nat → Nat) (xo : Nat → Nat) (xv : Nat → Nat) (xc : Nat → Nat) (xr : Nat → Nat) (Z : Bool × FN) (S : WS) (t : Nat) (hS : Ok S) (ht : t < 8) : CT l D cI cW yX6_knower cX6_knower 5 (some .int) ⟨2, 0, 0, 43⟩ [.ref (xx 0), .int (nI t)] ([xl xx xn xt xk xe xo xv xc xr cI Z, wl xn cI S]) (PI ((bmax (fun p => hasb (s_kn S p) (nI t)) (s_an S) (-9, -1) (s_pe S)).1) ([xl xx xn xt xk xe xo xv xc xr cI Z, wl xn cI S])) := by
  refine CT.of RX6 rfl (by decide +kernel) (Nat.le_of_ble_eq_true rfl) [(0, .ref (xx 0)), (1, .int (nI t))] rfl (fun x X Rr hnm => ?_)
  have hth := hS.th
  have hpe := hS.pe
  refine G.il X dX6_knower_0 1 rfl ?_
  refine G.z_lt X (a := nI t) dX6_knower_1 (fun b1 => absurd b1 (nI_pos (by omega))) (fun b1 => ?_)
  refine G.il X dX6_knower_4 1 rfl ?_
  refine G.pu X dX6_knower_5 ?_
  refine G.n_lt X (a := t) (b := 8) (by omega) (by omega) dX6_knower_7 (fun b7 => ?_) (fun b7 => absurd b7 (by omega))
  refine G.pu X dX6_knower_16 ?_
  refine G.is X dX6_knower_18 (by decide) (lv' := [(2, .int (-9)), (0, .ref (xx 0)), (1, .int (nI t))]) rfl ?_
  refine G.pu X dX6_knower_19 ?_
  refine G.is X dX6_knower_20 (by decide) (lv' := [(3, .int (-1)), (2, .int (-9)), (0, .ref (xx 0)), (1, .int (nI t))]) rfl ?_
  refine G.pu X dX6_knower_21 ?_
  refine G.is X dX6_knower_22 (by decide) (lv' := [(4, .int 0), (3, .int (-1)), (2, .int (-9)), (0, .ref (xx 0)), (1, .int (nI t))]) rfl ?_
  have L24 : ∀ k, k ≤ s_pe S → G x 0 0 ([xl xx xn xt xk xe xo xv xc xr cI Z, wl xn cI S]) 24 [(4, .int (nI k)), (3, .int ((bmax (fun p => hasb (s_kn S p) (nI t)) (s_an S) (-9, -1) k).2)), (2, .int ((bmax (fun p => hasb (s_kn S p) (nI t)) (s_an S) (-9, -1) k).1)), (0, .ref (xx 0)), (1, .int (nI t))] [] := by
    refine loop_dn (s_pe S) _ ?_ ?_
    · refine G.il X dX6_knower_24 0 rfl ?_
      refine G.al X dX6_knower_26 3 rfl ?_
      refine G.get X fX6_10 dX6_knower_27 0 0 rfl rfl rfl ?_
      refine G.get X fX6_196 dX6_knower_30 1 0 rfl rfl rfl ?_
      refine G.n_ge X (a := s_pe S) (b := s_pe S) (by omega) (by omega) dX6_knower_33 (fun b33 => ?_) (fun b33 => absurd b33 (by omega))
      refine G.il X dX6_knower_83 2 rfl ?_
      exact G.iret X Rr (v := ((bmax (fun p => hasb (s_kn S p) (nI t)) (s_an S) (-9, -1) (s_pe S)).1)) dX6_knower_84 (pi_mk (by rfl) (by rfl))
    · intro k hk ih24
      refine G.il X dX6_knower_24 0 rfl ?_
      refine G.al X dX6_knower_26 3 rfl ?_
      refine G.get X fX6_10 dX6_knower_27 0 0 rfl rfl rfl ?_
      refine G.get X fX6_196 dX6_knower_30 1 0 rfl rfl rfl ?_
      refine G.n_ge X (a := k) (b := s_pe S) (by omega) (by omega) dX6_knower_33 (fun b33 => absurd b33 (by omega)) (fun b33 => ?_)
      refine G.al X dX6_knower_36 3 rfl ?_
      refine G.get X fX6_10 dX6_knower_37 0 0 rfl rfl rfl ?_
      refine G.il X dX6_knower_40 0 rfl ?_
      refine G.il X dX6_knower_42 4 rfl ?_
      refine G.cvi X kX5_isKnown lX6_238 dX6_knower_43 (tX5_isKnown l D cI cW xn S k (nI t) (by omega) (by omega)) ⟨Nat.le_of_ble_eq_true rfl, Nat.le_of_ble_eq_true rfl⟩ ⟨Nat.zero_le _, Nat.zero_le _⟩ [1] rfl ⟨rfl, rfl⟩ rfl rfl 1 0 rfl rfl rfl rfl (Nat.le_of_ble_eq_true rfl) (ff_cons (wl_fst _ _ _ _) (ff_nil)) (ws' := [xl xx xn xt xk xe xo xv xc xr cI Z, wl xn cI S]) rfl ?_
      refine G.b_eq X dX6_knower_46 (fun b46 => ?_) (fun b46 => ?_)
      · refine G.iinc X dX6_knower_77 0 rfl (v' := nI (k + 1)) (nI_inc k) (by decide) (lv' := [(4, .int (nI (k + 1))), (3, .int ((bmax (fun p => hasb (s_kn S p) (nI t)) (s_an S) (-9, -1) k).2)), (2, .int ((bmax (fun p => hasb (s_kn S p) (nI t)) (s_an S) (-9, -1) k).1)), (0, .ref (xx 0)), (1, .int (nI t))]) rfl ?_
        refine G.go X dX6_knower_80 ?_
        rw [show ((bmax (fun p => hasb (s_kn S p) (nI t)) (s_an S) (-9, -1) (k + 1)).2) = ((bmax (fun p => hasb (s_kn S p) (nI t)) (s_an S) (-9, -1) k).2) from (by simp [bmax, b33, b46])] at ih24
        rw [show ((bmax (fun p => hasb (s_kn S p) (nI t)) (s_an S) (-9, -1) (k + 1)).1) = ((bmax (fun p => hasb (s_kn S p) (nI t)) (s_an S) (-9, -1) k).1) from (by simp [bmax, b33, b46])] at ih24
        exact ih24
      · refine G.al X dX6_knower_49 3 rfl ?_
        refine G.get X fX6_10 dX6_knower_50 0 0 rfl rfl rfl ?_
        refine G.get X fX6_101 dX6_knower_53 1 0 rfl rfl rfl ?_
        refine G.il X dX6_knower_56 0 rfl ?_
        refine G.nld X (i := k) dX6_knower_58 1 3 rfl rfl (by omega) (by decide) ?_
        refine G.il X dX6_knower_59 1 rfl ?_
        refine G.c_le X (a := ((s_an S) k)) (b := ((bmax (fun p => hasb (s_kn S p) (nI t)) (s_an S) (-9, -1) k).2)) dX6_knower_60 (fun b60 => ?_) (fun b60 => ?_)
        · refine G.iinc X dX6_knower_77 0 rfl (v' := nI (k + 1)) (nI_inc k) (by decide) (lv' := [(4, .int (nI (k + 1))), (3, .int ((bmax (fun p => hasb (s_kn S p) (nI t)) (s_an S) (-9, -1) k).2)), (2, .int ((bmax (fun p => hasb (s_kn S p) (nI t)) (s_an S) (-9, -1) k).1)), (0, .ref (xx 0)), (1, .int (nI t))]) rfl ?_
          refine G.go X dX6_knower_80 ?_
          rw [show ((bmax (fun p => hasb (s_kn S p) (nI t)) (s_an S) (-9, -1) (k + 1)).2) = ((bmax (fun p => hasb (s_kn S p) (nI t)) (s_an S) (-9, -1) k).2) from (by simp [bmax, b33, b46, b60])] at ih24
          rw [show ((bmax (fun p => hasb (s_kn S p) (nI t)) (s_an S) (-9, -1) (k + 1)).1) = ((bmax (fun p => hasb (s_kn S p) (nI t)) (s_an S) (-9, -1) k).1) from (by simp [bmax, b33, b46, b60])] at ih24
          exact ih24
        · refine G.al X dX6_knower_63 3 rfl ?_
          refine G.get X fX6_10 dX6_knower_64 0 0 rfl rfl rfl ?_
          refine G.get X fX6_101 dX6_knower_67 1 0 rfl rfl rfl ?_
          refine G.il X dX6_knower_70 0 rfl ?_
          refine G.nld X (i := k) dX6_knower_72 1 3 rfl rfl (by omega) (by decide) ?_
          refine G.is X dX6_knower_73 (by decide) (lv' := [(3, .int ((s_an S) k)), (4, .int (nI k)), (2, .int ((bmax (fun p => hasb (s_kn S p) (nI t)) (s_an S) (-9, -1) k).1)), (0, .ref (xx 0)), (1, .int (nI t))]) rfl ?_
          refine G.il X dX6_knower_74 1 rfl ?_
          refine G.is X dX6_knower_76 (by decide) (lv' := [(2, .int (nI k)), (3, .int ((s_an S) k)), (4, .int (nI k)), (0, .ref (xx 0)), (1, .int (nI t))]) rfl ?_
          refine G.iinc X dX6_knower_77 2 rfl (v' := nI (k + 1)) (nI_inc k) (by decide) (lv' := [(4, .int (nI (k + 1))), (2, .int (nI k)), (3, .int ((s_an S) k)), (0, .ref (xx 0)), (1, .int (nI t))]) rfl ?_
          refine G.go X dX6_knower_80 ?_
          rw [show ((bmax (fun p => hasb (s_kn S p) (nI t)) (s_an S) (-9, -1) (k + 1)).2) = ((s_an S) k) from (by simp [bmax, b33, b46, b60])] at ih24
          rw [show ((bmax (fun p => hasb (s_kn S p) (nI t)) (s_an S) (-9, -1) (k + 1)).1) = (nI k) from (by simp [bmax, b33, b46, b60])] at ih24
          refine G.lvsub [0, 2, 1, 3, 4] (lv' := [(4, .int (nI (k + 1))), (3, .int ((s_an S) k)), (2, .int (nI k)), (0, .ref (xx 0)), (1, .int (nI t))]) rfl ?_
          exact ih24
  have L24 := L24 0 (Nat.zero_le _)
  exact L24

set_option maxRecDepth 20000 in
theorem tX6_alike_oth (l : Launch) (D : va_G) (cI cW : ClassId) (xx : Nat → Nat) (xn : Nat → Nat) (xt : Nat → Nat) (xk : Nat → Nat) (xe : Nat → Nat) (xo : Nat → Nat) (xv : Nat → Nat) (xc : Nat → Nat) (xr : Nat → Nat) (Z : Bool × FN) (S : WS) (w : Int32) (hS : Ok S) (hw : z_in w 2 = false) : CT l D cI cW yX6_alike cX6_alike 2 (some .int) ⟨1, 0, 0, 22⟩ [.ref (xx 0), .int w] ([xl xx xn xt xk xe xo xv xc xr cI Z, wl xn cI S]) (PI (-2) ([xl xx xn xt xk xe xo xv xc xr cI (x_rf Z 2), wl xn cI S])) := by
  refine CT.of RX6 rfl (by decide +kernel) (Nat.le_of_ble_eq_true rfl) [(0, .ref (xx 0)), (1, .int w)] rfl (fun x X Rr hnm => ?_)
  have hth := hS.th
  have hpe := hS.pe
  refine G.il X dX6_alike_0 1 rfl ?_
  refine G.z_lt X (a := w) dX6_alike_1 (fun b1 => ?_) (fun b1 => ?_)
  · refine G.al X dX6_alike_9 0 rfl ?_
    refine G.pu X dX6_alike_10 ?_
    refine G.cvi X kX6_refuse lX6_65 dX6_alike_12 (tX6_refuse l D cI cW xx xn xt xk xe xo xv xc xr Z 2 (by omega) (by omega)) ⟨Nat.le_of_ble_eq_true rfl, Nat.le_of_ble_eq_true rfl⟩ ⟨Nat.zero_le _, Nat.zero_le _⟩ [0] rfl ⟨rfl, rfl⟩ rfl rfl 0 0 rfl rfl rfl rfl (Nat.le_of_ble_eq_true rfl) (ff_cons (xl_fst _ _ _ _ _ _ _ _ _ _ _ _) (ff_nil)) (ws' := [xl xx xn xt xk xe xo xv xc xr cI (x_rf Z 2), wl xn cI S]) rfl ?_
    exact G.iret X Rr (v := (-(nI 2))) dX6_alike_15 (pi_mk (by rfl) (by rfl))
  · refine G.il X dX6_alike_4 1 rfl ?_
    refine G.pu X dX6_alike_5 ?_
    refine G.c_le X (a := w) (b := 1) dX6_alike_6 (fun b6 => absurd (((z_bad2 hw).resolve_left b1)) b6) (fun b6 => ?_)
    refine G.al X dX6_alike_9 0 rfl ?_
    refine G.pu X dX6_alike_10 ?_
    refine G.cvi X kX6_refuse lX6_65 dX6_alike_12 (tX6_refuse l D cI cW xx xn xt xk xe xo xv xc xr Z 2 (by omega) (by omega)) ⟨Nat.le_of_ble_eq_true rfl, Nat.le_of_ble_eq_true rfl⟩ ⟨Nat.zero_le _, Nat.zero_le _⟩ [0] rfl ⟨rfl, rfl⟩ rfl rfl 0 0 rfl rfl rfl rfl (Nat.le_of_ble_eq_true rfl) (ff_cons (xl_fst _ _ _ _ _ _ _ _ _ _ _ _) (ff_nil)) (ws' := [xl xx xn xt xk xe xo xv xc xr cI (x_rf Z 2), wl xn cI S]) rfl ?_
    exact G.iret X Rr (v := (-(nI 2))) dX6_alike_15 (pi_mk (by rfl) (by rfl))

set_option maxRecDepth 20000 in
theorem tX6_alike_0 (l : Launch) (D : va_G) (cI cW : ClassId) (xx : Nat → Nat) (xn : Nat → Nat) (xt : Nat → Nat) (xk : Nat → Nat) (xe : Nat → Nat) (xo : Nat → Nat) (xv : Nat → Nat) (xc : Nat → Nat) (xr : Nat → Nat) (Z : Bool × FN) (S : WS) (hS : Ok S) : CT l D cI cW yX6_alike cX6_alike 2 (some .int) ⟨2, 0, 0, 45⟩ [.ref (xx 0), .int 0] ([xl xx xn xt xk xe xo xv xc xr cI Z, wl xn cI S]) (PI (nI (w_al S (s_th S))) ([xl xx xn xt xk xe xo xv xc xr cI Z, wl xn cI S])) := by
  refine CT.of RX6 rfl (by decide +kernel) (Nat.le_of_ble_eq_true rfl) [(0, .ref (xx 0)), (1, .int 0)] rfl (fun x X Rr hnm => ?_)
  have hth := hS.th
  have hpe := hS.pe
  refine G.il X dX6_alike_0 1 rfl ?_
  refine G.z_lt X (a := 0) dX6_alike_1 (fun b1 => absurd b1 (by decide)) (fun b1 => ?_)
  refine G.il X dX6_alike_4 1 rfl ?_
  refine G.pu X dX6_alike_5 ?_
  refine G.c_le X (a := 0) (b := 1) dX6_alike_6 (fun b6 => ?_) (fun b6 => absurd b6 (by decide))
  refine G.il X dX6_alike_16 1 rfl ?_
  refine G.z_ne X (a := 0) dX6_alike_17 (fun b17 => absurd b17 (by decide)) (fun b17 => ?_)
  refine G.al X dX6_alike_20 0 rfl ?_
  refine G.get X fX6_10 dX6_alike_21 0 0 rfl rfl rfl ?_
  refine G.cvi X kX5_twosAlike lX6_232 dX6_alike_24 (tX5_twosAlike l D cI cW xn S (by omega)) ⟨Nat.le_of_ble_eq_true rfl, Nat.le_of_ble_eq_true rfl⟩ ⟨Nat.zero_le _, Nat.zero_le _⟩ [1] rfl ⟨rfl, rfl⟩ rfl rfl 1 0 rfl rfl rfl rfl (Nat.le_of_ble_eq_true rfl) (ff_cons (wl_fst _ _ _ _) (ff_nil)) (ws' := [xl xx xn xt xk xe xo xv xc xr cI Z, wl xn cI S]) rfl ?_
  refine G.go X dX6_alike_27 ?_
  exact G.iret X Rr (v := nI (w_al S (s_th S))) dX6_alike_37 (pi_mk (by rfl) (by rfl))

set_option maxRecDepth 20000 in
theorem tX6_alike_1 (l : Launch) (D : va_G) (cI cW : ClassId) (xx : Nat → Nat) (xn : Nat → Nat) (xt : Nat → Nat) (xk : Nat → Nat) (xe : Nat → Nat) (xo : Nat → Nat) (xv : Nat → Nat) (xc : Nat → Nat) (xr : Nat → Nat) (Z : Bool × FN) (S : WS) (hS : Ok S) : CT l D cI cW yX6_alike cX6_alike 2 (some .int) ⟨2, 0, 0, 44⟩ [.ref (xx 0), .int 1] ([xl xx xn xt xk xe xo xv xc xr cI Z, wl xn cI S]) (PI (w_ft S) ([xl xx xn xt xk xe xo xv xc xr cI Z, wl xn cI S])) := by
  refine CT.of RX6 rfl (by decide +kernel) (Nat.le_of_ble_eq_true rfl) [(0, .ref (xx 0)), (1, .int 1)] rfl (fun x X Rr hnm => ?_)
  have hth := hS.th
  have hpe := hS.pe
  refine G.il X dX6_alike_0 1 rfl ?_
  refine G.z_lt X (a := 1) dX6_alike_1 (fun b1 => absurd b1 (by decide)) (fun b1 => ?_)
  refine G.il X dX6_alike_4 1 rfl ?_
  refine G.pu X dX6_alike_5 ?_
  refine G.c_le X (a := 1) (b := 1) dX6_alike_6 (fun b6 => ?_) (fun b6 => absurd b6 (by decide))
  refine G.il X dX6_alike_16 1 rfl ?_
  refine G.z_ne X (a := 1) dX6_alike_17 (fun b17 => ?_) (fun b17 => absurd b17 (by decide))
  refine G.al X dX6_alike_30 0 rfl ?_
  refine G.get X fX6_10 dX6_alike_31 0 0 rfl rfl rfl ?_
  refine G.cvi X kX5_firstTwoAlike lX6_235 dX6_alike_34 (tX5_firstTwoAlike l D cI cW xn S (by omega)) ⟨Nat.le_of_ble_eq_true rfl, Nat.le_of_ble_eq_true rfl⟩ ⟨Nat.zero_le _, Nat.zero_le _⟩ [1] rfl ⟨rfl, rfl⟩ rfl rfl 1 0 rfl rfl rfl rfl (Nat.le_of_ble_eq_true rfl) (ff_cons (wl_fst _ _ _ _) (ff_nil)) (ws' := [xl xx xn xt xk xe xo xv xc xr cI Z, wl xn cI S]) rfl ?_
  exact G.iret X Rr (v := (w_ft S)) dX6_alike_37 (pi_mk (by rfl) (by rfl))

set_option maxRecDepth 20000 in
theorem tX6_fewest_oth (l : Launch) (D : va_G) (cI cW : ClassId) (xx : Nat → Nat) (xn : Nat → Nat) (xt : Nat → Nat) (xk : Nat → Nat) (xe : Nat → Nat) (xo : Nat → Nat) (xv : Nat → Nat) (xc : Nat → Nat) (xr : Nat → Nat) (Z : Bool × FN) (S : WS) (w : Int32) (hS : Ok S) (hw : z_in w 2 = false) : CT l D cI cW yX6_fewest cX6_fewest 2 (some .int) ⟨1, 0, 0, 22⟩ [.ref (xx 0), .int w] ([xl xx xn xt xk xe xo xv xc xr cI Z, wl xn cI S]) (PI (-2) ([xl xx xn xt xk xe xo xv xc xr cI (x_rf Z 2), wl xn cI S])) := by
  refine CT.of RX6 rfl (by decide +kernel) (Nat.le_of_ble_eq_true rfl) [(0, .ref (xx 0)), (1, .int w)] rfl (fun x X Rr hnm => ?_)
  have hth := hS.th
  have hpe := hS.pe
  refine G.il X dX6_fewest_0 1 rfl ?_
  refine G.lk X dX6_fewest_1 (43) 44 (by show Op.lookupswitch.offset [(0, 27), (1, 35)] 43 (Int32.toInt w) = 43; rw [lv_osw (k := 0) (a := 0) (show ¬ w = 0 from (z_ne (v := 0) hw (by decide) (by decide))) rfl, lv_osw (k := 1) (a := 1) (show ¬ w = 1 from (z_ne (v := 1) hw (by decide) (by decide))) rfl]; rfl) (by decide) ?_
  refine G.al X dX6_fewest_44 0 rfl ?_
  refine G.pu X dX6_fewest_45 ?_
  refine G.cvi X kX6_refuse lX6_65 dX6_fewest_47 (tX6_refuse l D cI cW xx xn xt xk xe xo xv xc xr Z 2 (by omega) (by omega)) ⟨Nat.le_of_ble_eq_true rfl, Nat.le_of_ble_eq_true rfl⟩ ⟨Nat.zero_le _, Nat.zero_le _⟩ [0] rfl ⟨rfl, rfl⟩ rfl rfl 0 0 rfl rfl rfl rfl (Nat.le_of_ble_eq_true rfl) (ff_cons (xl_fst _ _ _ _ _ _ _ _ _ _ _ _) (ff_nil)) (ws' := [xl xx xn xt xk xe xo xv xc xr cI (x_rf Z 2), wl xn cI S]) rfl ?_
  exact G.iret X Rr (v := (-(nI 2))) dX6_fewest_50 (pi_mk (by rfl) (by rfl))

set_option maxRecDepth 20000 in
theorem tX6_fewest_0 (l : Launch) (D : va_G) (cI cW : ClassId) (xx : Nat → Nat) (xn : Nat → Nat) (xt : Nat → Nat) (xk : Nat → Nat) (xe : Nat → Nat) (xo : Nat → Nat) (xv : Nat → Nat) (xc : Nat → Nat) (xr : Nat → Nat) (Z : Bool × FN) (S : WS) (hS : Ok S) : CT l D cI cW yX6_fewest cX6_fewest 2 (some .int) ⟨6, 0, 0, 130⟩ [.ref (xx 0), .int 0] ([xl xx xn xt xk xe xo xv xc xr cI Z, wl xn cI S]) (PI (w_lsum S (s_pe S)) ([xl xx xn xt xk xe xo xv xc xr cI Z, wl xn cI S])) := by
  refine CT.of RX6 rfl (by decide +kernel) (Nat.le_of_ble_eq_true rfl) [(0, .ref (xx 0)), (1, .int 0)] rfl (fun x X Rr hnm => ?_)
  have hth := hS.th
  have hpe := hS.pe
  refine G.il X dX6_fewest_0 1 rfl ?_
  refine G.lk X dX6_fewest_1 (27) 28 (by decide) (by decide) ?_
  refine G.al X dX6_fewest_28 0 rfl ?_
  refine G.get X fX6_10 dX6_fewest_29 0 0 rfl rfl rfl ?_
  refine G.cvi X kX5_lessonsOfAll lX6_205 dX6_fewest_32 (tX5_lessonsOfAll l D cI cW xn S hS) ⟨Nat.le_of_ble_eq_true rfl, Nat.le_of_ble_eq_true rfl⟩ ⟨Nat.zero_le _, Nat.zero_le _⟩ [1] rfl ⟨rfl, rfl⟩ rfl rfl 1 0 rfl rfl rfl rfl (Nat.le_of_ble_eq_true rfl) (ff_cons (wl_fst _ _ _ _) (ff_nil)) (ws' := [xl xx xn xt xk xe xo xv xc xr cI Z, wl xn cI S]) rfl ?_
  exact G.iret X Rr (v := (w_lsum S (s_pe S))) dX6_fewest_35 (pi_mk (by rfl) (by rfl))

set_option maxRecDepth 20000 in
theorem tX6_fewest_1 (l : Launch) (D : va_G) (cI cW : ClassId) (xx : Nat → Nat) (xn : Nat → Nat) (xt : Nat → Nat) (xk : Nat → Nat) (xe : Nat → Nat) (xo : Nat → Nat) (xv : Nat → Nat) (xc : Nat → Nat) (xr : Nat → Nat) (Z : Bool × FN) (S : WS) (hS : Ok S) : CT l D cI cW yX6_fewest cX6_fewest 2 (some .int) ⟨6, 0, 0, 132⟩ [.ref (xx 0), .int 1] ([xl xx xn xt xk xe xo xv xc xr cI Z, wl xn cI S]) (PI ((bmax yes (fun p => bc (w_les S (nI p) (s_th S))) (-9, 0) (s_pe S)).1) ([xl xx xn xt xk xe xo xv xc xr cI Z, wl xn cI S])) := by
  refine CT.of RX6 rfl (by decide +kernel) (Nat.le_of_ble_eq_true rfl) [(0, .ref (xx 0)), (1, .int 1)] rfl (fun x X Rr hnm => ?_)
  have hth := hS.th
  have hpe := hS.pe
  refine G.il X dX6_fewest_0 1 rfl ?_
  refine G.lk X dX6_fewest_1 (35) 36 (by decide) (by decide) ?_
  refine G.al X dX6_fewest_36 0 rfl ?_
  refine G.get X fX6_10 dX6_fewest_37 0 0 rfl rfl rfl ?_
  refine G.cvi X kX5_neediest lX6_208 dX6_fewest_40 (tX5_neediest l D cI cW xn S hS) ⟨Nat.le_of_ble_eq_true rfl, Nat.le_of_ble_eq_true rfl⟩ ⟨Nat.zero_le _, Nat.zero_le _⟩ [1] rfl ⟨rfl, rfl⟩ rfl rfl 1 0 rfl rfl rfl rfl (Nat.le_of_ble_eq_true rfl) (ff_cons (wl_fst _ _ _ _) (ff_nil)) (ws' := [xl xx xn xt xk xe xo xv xc xr cI Z, wl xn cI S]) rfl ?_
  exact G.iret X Rr (v := ((bmax yes (fun p => bc (w_les S (nI p) (s_th S))) (-9, 0) (s_pe S)).1)) dX6_fewest_43 (pi_mk (by rfl) (by rfl))

set_option maxRecDepth 20000 in
theorem tX6_teach_lo (l : Launch) (D : va_G) (cI cW : ClassId) (xx : Nat → Nat) (xn : Nat → Nat) (xt : Nat → Nat) (xk : Nat → Nat) (xe : Nat → Nat) (xo : Nat → Nat) (xv : Nat → Nat) (xc : Nat → Nat) (xr : Nat → Nat) (Z : Bool × FN) (n : Int32) (h1 : n < 1) : CT l D cI cW yX6_teach cX6_teach 3 (some .int) ⟨1, 0, 0, 22⟩ [.ref (xx 0), .int n] ([xl xx xn xt xk xe xo xv xc xr cI Z]) (PI (-4) ([xl xx xn xt xk xe xo xv xc xr cI (x_rf Z 4)])) := by
  refine CT.of RX6 rfl (by decide +kernel) (Nat.le_of_ble_eq_true rfl) [(0, .ref (xx 0)), (1, .int n)] rfl (fun x X Rr hnm => ?_)
  refine G.il X dX6_teach_0 1 rfl ?_
  refine G.pu X dX6_teach_1 ?_
  refine G.pu X dX6_teach_2 ?_
  refine G.csti X kX6_outside lX6_138 dX6_teach_4 (tX6_outside_lo l D cI cW n 1 40 h1) ⟨Nat.le_of_ble_eq_true rfl, Nat.le_of_ble_eq_true rfl⟩ ⟨Nat.zero_le _, Nat.zero_le _⟩ [] rfl ⟨rfl, rfl⟩ rfl rfl rfl (Nat.le_of_ble_eq_true rfl) (ff_nil) (ws' := [xl xx xn xt xk xe xo xv xc xr cI Z]) rfl ?_
  refine G.is X dX6_teach_7 (by decide) (lv' := [(2, .int (-4)), (0, .ref (xx 0)), (1, .int n)]) rfl ?_
  refine G.il X dX6_teach_8 0 rfl ?_
  refine G.z_eq X (a := (-4)) dX6_teach_9 (fun b9 => absurd b9 (by decide)) (fun b9 => ?_)
  refine G.al X dX6_teach_12 1 rfl ?_
  refine G.il X dX6_teach_13 0 rfl ?_
  refine G.cvi X kX6_refuse lX6_65 dX6_teach_14 (tX6_refuse l D cI cW xx xn xt xk xe xo xv xc xr Z 4 (by omega) (by omega)) ⟨Nat.le_of_ble_eq_true rfl, Nat.le_of_ble_eq_true rfl⟩ ⟨Nat.zero_le _, Nat.zero_le _⟩ [0] rfl ⟨rfl, rfl⟩ rfl rfl 0 0 rfl rfl rfl rfl (Nat.le_of_ble_eq_true rfl) (ff_cons (xl_fst _ _ _ _ _ _ _ _ _ _ _ _) (ff_nil)) (ws' := [xl xx xn xt xk xe xo xv xc xr cI (x_rf Z 4)]) rfl ?_
  refine G.go X dX6_teach_17 ?_
  exact G.iret X Rr (v := (-(nI 4))) dX6_teach_32 (pi_mk (by rfl) (by rfl))

set_option maxRecDepth 20000 in
theorem tX6_teach_hi (l : Launch) (D : va_G) (cI cW : ClassId) (xx : Nat → Nat) (xn : Nat → Nat) (xt : Nat → Nat) (xk : Nat → Nat) (xe : Nat → Nat) (xo : Nat → Nat) (xv : Nat → Nat) (xc : Nat → Nat) (xr : Nat → Nat) (Z : Bool × FN) (n : Int32) (h1 : ¬ n < 1) (h2 : 40 < n) : CT l D cI cW yX6_teach cX6_teach 3 (some .int) ⟨1, 0, 0, 22⟩ [.ref (xx 0), .int n] ([xl xx xn xt xk xe xo xv xc xr cI Z]) (PI (-6) ([xl xx xn xt xk xe xo xv xc xr cI (x_rf Z 6)])) := by
  refine CT.of RX6 rfl (by decide +kernel) (Nat.le_of_ble_eq_true rfl) [(0, .ref (xx 0)), (1, .int n)] rfl (fun x X Rr hnm => ?_)
  refine G.il X dX6_teach_0 1 rfl ?_
  refine G.pu X dX6_teach_1 ?_
  refine G.pu X dX6_teach_2 ?_
  refine G.csti X kX6_outside lX6_138 dX6_teach_4 (tX6_outside_hi l D cI cW n 1 40 h1 h2) ⟨Nat.le_of_ble_eq_true rfl, Nat.le_of_ble_eq_true rfl⟩ ⟨Nat.zero_le _, Nat.zero_le _⟩ [] rfl ⟨rfl, rfl⟩ rfl rfl rfl (Nat.le_of_ble_eq_true rfl) (ff_nil) (ws' := [xl xx xn xt xk xe xo xv xc xr cI Z]) rfl ?_
  refine G.is X dX6_teach_7 (by decide) (lv' := [(2, .int (-6)), (0, .ref (xx 0)), (1, .int n)]) rfl ?_
  refine G.il X dX6_teach_8 0 rfl ?_
  refine G.z_eq X (a := (-6)) dX6_teach_9 (fun b9 => absurd b9 (by decide)) (fun b9 => ?_)
  refine G.al X dX6_teach_12 1 rfl ?_
  refine G.il X dX6_teach_13 0 rfl ?_
  refine G.cvi X kX6_refuse lX6_65 dX6_teach_14 (tX6_refuse l D cI cW xx xn xt xk xe xo xv xc xr Z 6 (by omega) (by omega)) ⟨Nat.le_of_ble_eq_true rfl, Nat.le_of_ble_eq_true rfl⟩ ⟨Nat.zero_le _, Nat.zero_le _⟩ [0] rfl ⟨rfl, rfl⟩ rfl rfl 0 0 rfl rfl rfl rfl (Nat.le_of_ble_eq_true rfl) (ff_cons (xl_fst _ _ _ _ _ _ _ _ _ _ _ _) (ff_nil)) (ws' := [xl xx xn xt xk xe xo xv xc xr cI (x_rf Z 6)]) rfl ?_
  refine G.go X dX6_teach_17 ?_
  exact G.iret X Rr (v := (-(nI 6))) dX6_teach_32 (pi_mk (by rfl) (by rfl))

set_option maxRecDepth 20000 in
theorem tX6_teach_ok (l : Launch) (D : va_G) (cI cW : ClassId) (xx : Nat → Nat) (xn : Nat → Nat) (xt : Nat → Nat) (xk : Nat → Nat) (xe : Nat → Nat) (xo : Nat → Nat) (xv : Nat → Nat) (xc : Nat → Nat) (xr : Nat → Nat) (Z : Bool × FN) (S : WS) (xq : Nat → Nat) (qa : FN × FN) (T3 : WS) (n : Nat) (hS : Ok S) (h1 : 1 ≤ n) (h2 : n ≤ 40) : CT l D cI cW yX6_teach cX6_teach 3 (some .int) ⟨6, 0, 0, 142⟩ [.ref (xx 0), .int (nI n)] ([xl xx xn xt xk xe xo xv xc xr cI Z, wl xn cI S, al xv xq cI qa, wl xq cI T3]) (PIE ((w_bl S n (s_pe S)).1) (fun T9 : WS => [xl xx xn xt xk xe xo xv xc xr cI Z, wl xn cI S, al xv xq cI qa, wl xq cI T9])) := by
  refine CT.of RX6 rfl (by decide +kernel) (Nat.le_of_ble_eq_true rfl) [(0, .ref (xx 0)), (1, .int (nI n))] rfl (fun x X Rr hnm => ?_)
  have hth := hS.th
  have hpe := hS.pe
  refine G.il X dX6_teach_0 1 rfl ?_
  refine G.pu X dX6_teach_1 ?_
  refine G.pu X dX6_teach_2 ?_
  refine G.csti X kX6_outside lX6_138 dX6_teach_4 (tX6_outside_ok l D cI cW n 1 40 (by omega) (by omega) (by omega)) ⟨Nat.le_of_ble_eq_true rfl, Nat.le_of_ble_eq_true rfl⟩ ⟨Nat.zero_le _, Nat.zero_le _⟩ [] rfl ⟨rfl, rfl⟩ rfl rfl rfl (Nat.le_of_ble_eq_true rfl) (ff_nil) (ws' := [xl xx xn xt xk xe xo xv xc xr cI Z, wl xn cI S, al xv xq cI qa, wl xq cI T3]) rfl ?_
  refine G.is X dX6_teach_7 (by decide) (lv' := [(2, .int 0), (0, .ref (xx 0)), (1, .int (nI n))]) rfl ?_
  refine G.il X dX6_teach_8 0 rfl ?_
  refine G.z_eq X (a := 0) dX6_teach_9 (fun b9 => ?_) (fun b9 => absurd b9 (by decide))
  refine G.al X dX6_teach_20 1 rfl ?_
  refine G.get X fX6_43 dX6_teach_21 0 0 rfl rfl rfl ?_
  refine G.al X dX6_teach_24 1 rfl ?_
  refine G.get X fX6_10 dX6_teach_25 0 0 rfl rfl rfl ?_
  refine G.il X dX6_teach_28 2 rfl ?_
  refine G.cvie X kX0_bestLesson lX6_199 dX6_teach_29 (tX0_bestLesson l D cI cW xv xq qa T3 xn S n hS (by omega)) ⟨Nat.le_of_ble_eq_true rfl, Nat.le_of_ble_eq_true rfl⟩ ⟨Nat.zero_le _, Nat.zero_le _⟩ [2, 3, 1] rfl ⟨rfl, rfl⟩ rfl rfl 2 0 rfl rfl rfl rfl (Nat.le_of_ble_eq_true rfl) (fun _ => (ff_cons (al_fst _ _ _ _ _) (ff_cons (wl_fst _ _ _ _) (ff_cons (wl_fst _ _ _ _) (ff_nil))))) (f8 := fun T9_29 : WS => [xl xx xn xt xk xe xo xv xc xr cI Z, wl xn cI S, al xv xq cI qa, wl xq cI T9_29]) (fun _ => rfl) (fun T9_29 => ?_)
  exact G.iret X Rr (v := ((w_bl S n (s_pe S)).1)) dX6_teach_32 (pie_mk (T9_29) (by rfl) (by rfl))

set_option maxRecDepth 20000 in
theorem tX6_bold_lo (l : Launch) (D : va_G) (cI cW : ClassId) (xx : Nat → Nat) (xn : Nat → Nat) (xt : Nat → Nat) (xk : Nat → Nat) (xe : Nat → Nat) (xo : Nat → Nat) (xv : Nat → Nat) (xc : Nat → Nat) (xr : Nat → Nat) (Z : Bool × FN) (n : Int32) (h1 : n < 1) : CT l D cI cW yX6_bold cX6_bold 3 (some .int) ⟨1, 0, 0, 22⟩ [.ref (xx 0), .int n] ([xl xx xn xt xk xe xo xv xc xr cI Z]) (PI (-4) ([xl xx xn xt xk xe xo xv xc xr cI (x_rf Z 4)])) := by
  refine CT.of RX6 rfl (by decide +kernel) (Nat.le_of_ble_eq_true rfl) [(0, .ref (xx 0)), (1, .int n)] rfl (fun x X Rr hnm => ?_)
  refine G.il X dX6_bold_0 1 rfl ?_
  refine G.pu X dX6_bold_1 ?_
  refine G.pu X dX6_bold_2 ?_
  refine G.csti X kX6_outside lX6_138 dX6_bold_4 (tX6_outside_lo l D cI cW n 1 40 h1) ⟨Nat.le_of_ble_eq_true rfl, Nat.le_of_ble_eq_true rfl⟩ ⟨Nat.zero_le _, Nat.zero_le _⟩ [] rfl ⟨rfl, rfl⟩ rfl rfl rfl (Nat.le_of_ble_eq_true rfl) (ff_nil) (ws' := [xl xx xn xt xk xe xo xv xc xr cI Z]) rfl ?_
  refine G.is X dX6_bold_7 (by decide) (lv' := [(2, .int (-4)), (0, .ref (xx 0)), (1, .int n)]) rfl ?_
  refine G.il X dX6_bold_8 0 rfl ?_
  refine G.z_eq X (a := (-4)) dX6_bold_9 (fun b9 => absurd b9 (by decide)) (fun b9 => ?_)
  refine G.al X dX6_bold_12 1 rfl ?_
  refine G.il X dX6_bold_13 0 rfl ?_
  refine G.cvi X kX6_refuse lX6_65 dX6_bold_14 (tX6_refuse l D cI cW xx xn xt xk xe xo xv xc xr Z 4 (by omega) (by omega)) ⟨Nat.le_of_ble_eq_true rfl, Nat.le_of_ble_eq_true rfl⟩ ⟨Nat.zero_le _, Nat.zero_le _⟩ [0] rfl ⟨rfl, rfl⟩ rfl rfl 0 0 rfl rfl rfl rfl (Nat.le_of_ble_eq_true rfl) (ff_cons (xl_fst _ _ _ _ _ _ _ _ _ _ _ _) (ff_nil)) (ws' := [xl xx xn xt xk xe xo xv xc xr cI (x_rf Z 4)]) rfl ?_
  refine G.go X dX6_bold_17 ?_
  exact G.iret X Rr (v := (-(nI 4))) dX6_bold_32 (pi_mk (by rfl) (by rfl))

set_option maxRecDepth 20000 in
theorem tX6_bold_hi (l : Launch) (D : va_G) (cI cW : ClassId) (xx : Nat → Nat) (xn : Nat → Nat) (xt : Nat → Nat) (xk : Nat → Nat) (xe : Nat → Nat) (xo : Nat → Nat) (xv : Nat → Nat) (xc : Nat → Nat) (xr : Nat → Nat) (Z : Bool × FN) (n : Int32) (h1 : ¬ n < 1) (h2 : 40 < n) : CT l D cI cW yX6_bold cX6_bold 3 (some .int) ⟨1, 0, 0, 22⟩ [.ref (xx 0), .int n] ([xl xx xn xt xk xe xo xv xc xr cI Z]) (PI (-6) ([xl xx xn xt xk xe xo xv xc xr cI (x_rf Z 6)])) := by
  refine CT.of RX6 rfl (by decide +kernel) (Nat.le_of_ble_eq_true rfl) [(0, .ref (xx 0)), (1, .int n)] rfl (fun x X Rr hnm => ?_)
  refine G.il X dX6_bold_0 1 rfl ?_
  refine G.pu X dX6_bold_1 ?_
  refine G.pu X dX6_bold_2 ?_
  refine G.csti X kX6_outside lX6_138 dX6_bold_4 (tX6_outside_hi l D cI cW n 1 40 h1 h2) ⟨Nat.le_of_ble_eq_true rfl, Nat.le_of_ble_eq_true rfl⟩ ⟨Nat.zero_le _, Nat.zero_le _⟩ [] rfl ⟨rfl, rfl⟩ rfl rfl rfl (Nat.le_of_ble_eq_true rfl) (ff_nil) (ws' := [xl xx xn xt xk xe xo xv xc xr cI Z]) rfl ?_
  refine G.is X dX6_bold_7 (by decide) (lv' := [(2, .int (-6)), (0, .ref (xx 0)), (1, .int n)]) rfl ?_
  refine G.il X dX6_bold_8 0 rfl ?_
  refine G.z_eq X (a := (-6)) dX6_bold_9 (fun b9 => absurd b9 (by decide)) (fun b9 => ?_)
  refine G.al X dX6_bold_12 1 rfl ?_
  refine G.il X dX6_bold_13 0 rfl ?_
  refine G.cvi X kX6_refuse lX6_65 dX6_bold_14 (tX6_refuse l D cI cW xx xn xt xk xe xo xv xc xr Z 6 (by omega) (by omega)) ⟨Nat.le_of_ble_eq_true rfl, Nat.le_of_ble_eq_true rfl⟩ ⟨Nat.zero_le _, Nat.zero_le _⟩ [0] rfl ⟨rfl, rfl⟩ rfl rfl 0 0 rfl rfl rfl rfl (Nat.le_of_ble_eq_true rfl) (ff_cons (xl_fst _ _ _ _ _ _ _ _ _ _ _ _) (ff_nil)) (ws' := [xl xx xn xt xk xe xo xv xc xr cI (x_rf Z 6)]) rfl ?_
  refine G.go X dX6_bold_17 ?_
  exact G.iret X Rr (v := (-(nI 6))) dX6_bold_32 (pi_mk (by rfl) (by rfl))

set_option maxRecDepth 20000 in
theorem tX6_bold_ok (l : Launch) (D : va_G) (cI cW : ClassId) (xx : Nat → Nat) (xn : Nat → Nat) (xt : Nat → Nat) (xk : Nat → Nat) (xe : Nat → Nat) (xo : Nat → Nat) (xv : Nat → Nat) (xc : Nat → Nat) (xr : Nat → Nat) (Z : Bool × FN) (S : WS) (xq : Nat → Nat) (qa : FN × FN) (T3 : WS) (n : Nat) (hS : Ok S) (h1 : 1 ≤ n) (h2 : n ≤ 40) : CT l D cI cW yX6_bold cX6_bold 3 (some .int) ⟨6, 0, 0, 138⟩ [.ref (xx 0), .int (nI n)] ([xl xx xn xt xk xe xo xv xc xr cI Z, wl xn cI S, al xv xq cI qa, wl xq cI T3]) (PIE ((bmax yes (fun p => nI (w_wet (w_bld S p) n)) (-9, nI (w_wet S n)) (s_pe S)).1) (fun T9 : WS => [xl xx xn xt xk xe xo xv xc xr cI Z, wl xn cI S, al xv xq cI qa, wl xq cI T9])) := by
  refine CT.of RX6 rfl (by decide +kernel) (Nat.le_of_ble_eq_true rfl) [(0, .ref (xx 0)), (1, .int (nI n))] rfl (fun x X Rr hnm => ?_)
  have hth := hS.th
  have hpe := hS.pe
  refine G.il X dX6_bold_0 1 rfl ?_
  refine G.pu X dX6_bold_1 ?_
  refine G.pu X dX6_bold_2 ?_
  refine G.csti X kX6_outside lX6_138 dX6_bold_4 (tX6_outside_ok l D cI cW n 1 40 (by omega) (by omega) (by omega)) ⟨Nat.le_of_ble_eq_true rfl, Nat.le_of_ble_eq_true rfl⟩ ⟨Nat.zero_le _, Nat.zero_le _⟩ [] rfl ⟨rfl, rfl⟩ rfl rfl rfl (Nat.le_of_ble_eq_true rfl) (ff_nil) (ws' := [xl xx xn xt xk xe xo xv xc xr cI Z, wl xn cI S, al xv xq cI qa, wl xq cI T3]) rfl ?_
  refine G.is X dX6_bold_7 (by decide) (lv' := [(2, .int 0), (0, .ref (xx 0)), (1, .int (nI n))]) rfl ?_
  refine G.il X dX6_bold_8 0 rfl ?_
  refine G.z_eq X (a := 0) dX6_bold_9 (fun b9 => ?_) (fun b9 => absurd b9 (by decide))
  refine G.al X dX6_bold_20 1 rfl ?_
  refine G.get X fX6_43 dX6_bold_21 0 0 rfl rfl rfl ?_
  refine G.al X dX6_bold_24 1 rfl ?_
  refine G.get X fX6_10 dX6_bold_25 0 0 rfl rfl rfl ?_
  refine G.il X dX6_bold_28 2 rfl ?_
  refine G.cvie X kX0_bestToEmbolden lX6_202 dX6_bold_29 (tX0_bestToEmbolden l D cI cW xv xq qa T3 xn S n hS (by omega)) ⟨Nat.le_of_ble_eq_true rfl, Nat.le_of_ble_eq_true rfl⟩ ⟨Nat.zero_le _, Nat.zero_le _⟩ [2, 3, 1] rfl ⟨rfl, rfl⟩ rfl rfl 2 0 rfl rfl rfl rfl (Nat.le_of_ble_eq_true rfl) (fun _ => (ff_cons (al_fst _ _ _ _ _) (ff_cons (wl_fst _ _ _ _) (ff_cons (wl_fst _ _ _ _) (ff_nil))))) (f8 := fun T9_29 : WS => [xl xx xn xt xk xe xo xv xc xr cI Z, wl xn cI S, al xv xq cI qa, wl xq cI T9_29]) (fun _ => rfl) (fun T9_29 => ?_)
  exact G.iret X Rr (v := ((bmax yes (fun p => nI (w_wet (w_bld S p) n)) (-9, nI (w_wet S n)) (s_pe S)).1)) dX6_bold_32 (pie_mk (T9_29) (by rfl) (by rfl))

set_option maxRecDepth 20000 in
theorem tX6_keepOut_lo (l : Launch) (D : va_G) (cI cW : ClassId) (xx : Nat → Nat) (xn : Nat → Nat) (xt : Nat → Nat) (xk : Nat → Nat) (xe : Nat → Nat) (xo : Nat → Nat) (xv : Nat → Nat) (xc : Nat → Nat) (xr : Nat → Nat) (Z : Bool × FN) (n : Int32) (h1 : n < 1) : CT l D cI cW yX6_keepOut cX6_keepOut 3 (some .int) ⟨1, 0, 0, 22⟩ [.ref (xx 0), .int n] ([xl xx xn xt xk xe xo xv xc xr cI Z]) (PI (-4) ([xl xx xn xt xk xe xo xv xc xr cI (x_rf Z 4)])) := by
  refine CT.of RX6 rfl (by decide +kernel) (Nat.le_of_ble_eq_true rfl) [(0, .ref (xx 0)), (1, .int n)] rfl (fun x X Rr hnm => ?_)
  refine G.il X dX6_keepOut_0 1 rfl ?_
  refine G.pu X dX6_keepOut_1 ?_
  refine G.pu X dX6_keepOut_2 ?_
  refine G.csti X kX6_outside lX6_138 dX6_keepOut_4 (tX6_outside_lo l D cI cW n 1 40 h1) ⟨Nat.le_of_ble_eq_true rfl, Nat.le_of_ble_eq_true rfl⟩ ⟨Nat.zero_le _, Nat.zero_le _⟩ [] rfl ⟨rfl, rfl⟩ rfl rfl rfl (Nat.le_of_ble_eq_true rfl) (ff_nil) (ws' := [xl xx xn xt xk xe xo xv xc xr cI Z]) rfl ?_
  refine G.is X dX6_keepOut_7 (by decide) (lv' := [(2, .int (-4)), (0, .ref (xx 0)), (1, .int n)]) rfl ?_
  refine G.il X dX6_keepOut_8 0 rfl ?_
  refine G.z_eq X (a := (-4)) dX6_keepOut_9 (fun b9 => absurd b9 (by decide)) (fun b9 => ?_)
  refine G.al X dX6_keepOut_12 1 rfl ?_
  refine G.il X dX6_keepOut_13 0 rfl ?_
  refine G.cvi X kX6_refuse lX6_65 dX6_keepOut_14 (tX6_refuse l D cI cW xx xn xt xk xe xo xv xc xr Z 4 (by omega) (by omega)) ⟨Nat.le_of_ble_eq_true rfl, Nat.le_of_ble_eq_true rfl⟩ ⟨Nat.zero_le _, Nat.zero_le _⟩ [0] rfl ⟨rfl, rfl⟩ rfl rfl 0 0 rfl rfl rfl rfl (Nat.le_of_ble_eq_true rfl) (ff_cons (xl_fst _ _ _ _ _ _ _ _ _ _ _ _) (ff_nil)) (ws' := [xl xx xn xt xk xe xo xv xc xr cI (x_rf Z 4)]) rfl ?_
  refine G.go X dX6_keepOut_17 ?_
  exact G.iret X Rr (v := (-(nI 4))) dX6_keepOut_32 (pi_mk (by rfl) (by rfl))

set_option maxRecDepth 20000 in
theorem tX6_keepOut_hi (l : Launch) (D : va_G) (cI cW : ClassId) (xx : Nat → Nat) (xn : Nat → Nat) (xt : Nat → Nat) (xk : Nat → Nat) (xe : Nat → Nat) (xo : Nat → Nat) (xv : Nat → Nat) (xc : Nat → Nat) (xr : Nat → Nat) (Z : Bool × FN) (n : Int32) (h1 : ¬ n < 1) (h2 : 40 < n) : CT l D cI cW yX6_keepOut cX6_keepOut 3 (some .int) ⟨1, 0, 0, 22⟩ [.ref (xx 0), .int n] ([xl xx xn xt xk xe xo xv xc xr cI Z]) (PI (-6) ([xl xx xn xt xk xe xo xv xc xr cI (x_rf Z 6)])) := by
  refine CT.of RX6 rfl (by decide +kernel) (Nat.le_of_ble_eq_true rfl) [(0, .ref (xx 0)), (1, .int n)] rfl (fun x X Rr hnm => ?_)
  refine G.il X dX6_keepOut_0 1 rfl ?_
  refine G.pu X dX6_keepOut_1 ?_
  refine G.pu X dX6_keepOut_2 ?_
  refine G.csti X kX6_outside lX6_138 dX6_keepOut_4 (tX6_outside_hi l D cI cW n 1 40 h1 h2) ⟨Nat.le_of_ble_eq_true rfl, Nat.le_of_ble_eq_true rfl⟩ ⟨Nat.zero_le _, Nat.zero_le _⟩ [] rfl ⟨rfl, rfl⟩ rfl rfl rfl (Nat.le_of_ble_eq_true rfl) (ff_nil) (ws' := [xl xx xn xt xk xe xo xv xc xr cI Z]) rfl ?_
  refine G.is X dX6_keepOut_7 (by decide) (lv' := [(2, .int (-6)), (0, .ref (xx 0)), (1, .int n)]) rfl ?_
  refine G.il X dX6_keepOut_8 0 rfl ?_
  refine G.z_eq X (a := (-6)) dX6_keepOut_9 (fun b9 => absurd b9 (by decide)) (fun b9 => ?_)
  refine G.al X dX6_keepOut_12 1 rfl ?_
  refine G.il X dX6_keepOut_13 0 rfl ?_
  refine G.cvi X kX6_refuse lX6_65 dX6_keepOut_14 (tX6_refuse l D cI cW xx xn xt xk xe xo xv xc xr Z 6 (by omega) (by omega)) ⟨Nat.le_of_ble_eq_true rfl, Nat.le_of_ble_eq_true rfl⟩ ⟨Nat.zero_le _, Nat.zero_le _⟩ [0] rfl ⟨rfl, rfl⟩ rfl rfl 0 0 rfl rfl rfl rfl (Nat.le_of_ble_eq_true rfl) (ff_cons (xl_fst _ _ _ _ _ _ _ _ _ _ _ _) (ff_nil)) (ws' := [xl xx xn xt xk xe xo xv xc xr cI (x_rf Z 6)]) rfl ?_
  refine G.go X dX6_keepOut_17 ?_
  exact G.iret X Rr (v := (-(nI 6))) dX6_keepOut_32 (pi_mk (by rfl) (by rfl))

set_option maxRecDepth 20000 in
theorem tX6_keepOut_ok (l : Launch) (D : va_G) (cI cW : ClassId) (xx : Nat → Nat) (xn : Nat → Nat) (xt : Nat → Nat) (xk : Nat → Nat) (xe : Nat → Nat) (xo : Nat → Nat) (xv : Nat → Nat) (xc : Nat → Nat) (xr : Nat → Nat) (Z : Bool × FN) (S : WS) (xq : Nat → Nat) (qa : FN × FN) (T3 : WS) (n : Nat) (hS : Ok S) (h1 : 1 ≤ n) (h2 : n ≤ 40) : CT l D cI cW yX6_keepOut cX6_keepOut 3 (some .int) ⟨6, 0, 0, 138⟩ [.ref (xx 0), .int (nI n)] ([xl xx xn xt xk xe xo xv xc xr cI Z, wl xn cI S, al xv xq cI qa, wl xq cI T3]) (PIE ((bmax yes (fun i => nI (w_wet (w_out S i) n)) (-9, nI (w_wet S n)) (s_th S)).1) (fun T9 : WS => [xl xx xn xt xk xe xo xv xc xr cI Z, wl xn cI S, al xv xq cI qa, wl xq cI T9])) := by
  refine CT.of RX6 rfl (by decide +kernel) (Nat.le_of_ble_eq_true rfl) [(0, .ref (xx 0)), (1, .int (nI n))] rfl (fun x X Rr hnm => ?_)
  have hth := hS.th
  have hpe := hS.pe
  refine G.il X dX6_keepOut_0 1 rfl ?_
  refine G.pu X dX6_keepOut_1 ?_
  refine G.pu X dX6_keepOut_2 ?_
  refine G.csti X kX6_outside lX6_138 dX6_keepOut_4 (tX6_outside_ok l D cI cW n 1 40 (by omega) (by omega) (by omega)) ⟨Nat.le_of_ble_eq_true rfl, Nat.le_of_ble_eq_true rfl⟩ ⟨Nat.zero_le _, Nat.zero_le _⟩ [] rfl ⟨rfl, rfl⟩ rfl rfl rfl (Nat.le_of_ble_eq_true rfl) (ff_nil) (ws' := [xl xx xn xt xk xe xo xv xc xr cI Z, wl xn cI S, al xv xq cI qa, wl xq cI T3]) rfl ?_
  refine G.is X dX6_keepOut_7 (by decide) (lv' := [(2, .int 0), (0, .ref (xx 0)), (1, .int (nI n))]) rfl ?_
  refine G.il X dX6_keepOut_8 0 rfl ?_
  refine G.z_eq X (a := 0) dX6_keepOut_9 (fun b9 => ?_) (fun b9 => absurd b9 (by decide))
  refine G.al X dX6_keepOut_20 1 rfl ?_
  refine G.get X fX6_43 dX6_keepOut_21 0 0 rfl rfl rfl ?_
  refine G.al X dX6_keepOut_24 1 rfl ?_
  refine G.get X fX6_10 dX6_keepOut_25 0 0 rfl rfl rfl ?_
  refine G.il X dX6_keepOut_28 2 rfl ?_
  refine G.cvie X kX0_bestWithout lX6_211 dX6_keepOut_29 (tX0_bestWithout l D cI cW xv xq qa T3 xn S n hS (by omega)) ⟨Nat.le_of_ble_eq_true rfl, Nat.le_of_ble_eq_true rfl⟩ ⟨Nat.zero_le _, Nat.zero_le _⟩ [2, 3, 1] rfl ⟨rfl, rfl⟩ rfl rfl 2 0 rfl rfl rfl rfl (Nat.le_of_ble_eq_true rfl) (fun _ => (ff_cons (al_fst _ _ _ _ _) (ff_cons (wl_fst _ _ _ _) (ff_cons (wl_fst _ _ _ _) (ff_nil))))) (f8 := fun T9_29 : WS => [xl xx xn xt xk xe xo xv xc xr cI Z, wl xn cI S, al xv xq cI qa, wl xq cI T9_29]) (fun _ => rfl) (fun T9_29 => ?_)
  exact G.iret X Rr (v := ((bmax yes (fun i => nI (w_wet (w_out S i) n)) (-9, nI (w_wet S n)) (s_th S)).1)) dX6_keepOut_32 (pie_mk (T9_29) (by rfl) (by rfl))

set_option maxRecDepth 20000 in
theorem tX6_again_lo (l : Launch) (D : va_G) (cI cW : ClassId) (xx : Nat → Nat) (xn : Nat → Nat) (xt : Nat → Nat) (xk : Nat → Nat) (xe : Nat → Nat) (xo : Nat → Nat) (xv : Nat → Nat) (xc : Nat → Nat) (xr : Nat → Nat) (Z : Bool × FN) (n : Int32) (h1 : n < 1) : CT l D cI cW yX6_again cX6_again 3 (some .int) ⟨1, 0, 0, 22⟩ [.ref (xx 0), .int n] ([xl xx xn xt xk xe xo xv xc xr cI Z]) (PI (-4) ([xl xx xn xt xk xe xo xv xc xr cI (x_rf Z 4)])) := by
  refine CT.of RX6 rfl (by decide +kernel) (Nat.le_of_ble_eq_true rfl) [(0, .ref (xx 0)), (1, .int n)] rfl (fun x X Rr hnm => ?_)
  refine G.il X dX6_again_0 1 rfl ?_
  refine G.pu X dX6_again_1 ?_
  refine G.pu X dX6_again_2 ?_
  refine G.csti X kX6_outside lX6_138 dX6_again_4 (tX6_outside_lo l D cI cW n 1 40 h1) ⟨Nat.le_of_ble_eq_true rfl, Nat.le_of_ble_eq_true rfl⟩ ⟨Nat.zero_le _, Nat.zero_le _⟩ [] rfl ⟨rfl, rfl⟩ rfl rfl rfl (Nat.le_of_ble_eq_true rfl) (ff_nil) (ws' := [xl xx xn xt xk xe xo xv xc xr cI Z]) rfl ?_
  refine G.is X dX6_again_7 (by decide) (lv' := [(2, .int (-4)), (0, .ref (xx 0)), (1, .int n)]) rfl ?_
  refine G.il X dX6_again_8 0 rfl ?_
  refine G.z_eq X (a := (-4)) dX6_again_9 (fun b9 => absurd b9 (by decide)) (fun b9 => ?_)
  refine G.al X dX6_again_12 1 rfl ?_
  refine G.il X dX6_again_13 0 rfl ?_
  refine G.cvi X kX6_refuse lX6_65 dX6_again_14 (tX6_refuse l D cI cW xx xn xt xk xe xo xv xc xr Z 4 (by omega) (by omega)) ⟨Nat.le_of_ble_eq_true rfl, Nat.le_of_ble_eq_true rfl⟩ ⟨Nat.zero_le _, Nat.zero_le _⟩ [0] rfl ⟨rfl, rfl⟩ rfl rfl 0 0 rfl rfl rfl rfl (Nat.le_of_ble_eq_true rfl) (ff_cons (xl_fst _ _ _ _ _ _ _ _ _ _ _ _) (ff_nil)) (ws' := [xl xx xn xt xk xe xo xv xc xr cI (x_rf Z 4)]) rfl ?_
  refine G.go X dX6_again_17 ?_
  exact G.iret X Rr (v := (-(nI 4))) dX6_again_32 (pi_mk (by rfl) (by rfl))

set_option maxRecDepth 20000 in
theorem tX6_again_hi (l : Launch) (D : va_G) (cI cW : ClassId) (xx : Nat → Nat) (xn : Nat → Nat) (xt : Nat → Nat) (xk : Nat → Nat) (xe : Nat → Nat) (xo : Nat → Nat) (xv : Nat → Nat) (xc : Nat → Nat) (xr : Nat → Nat) (Z : Bool × FN) (n : Int32) (h1 : ¬ n < 1) (h2 : 40 < n) : CT l D cI cW yX6_again cX6_again 3 (some .int) ⟨1, 0, 0, 22⟩ [.ref (xx 0), .int n] ([xl xx xn xt xk xe xo xv xc xr cI Z]) (PI (-6) ([xl xx xn xt xk xe xo xv xc xr cI (x_rf Z 6)])) := by
  refine CT.of RX6 rfl (by decide +kernel) (Nat.le_of_ble_eq_true rfl) [(0, .ref (xx 0)), (1, .int n)] rfl (fun x X Rr hnm => ?_)
  refine G.il X dX6_again_0 1 rfl ?_
  refine G.pu X dX6_again_1 ?_
  refine G.pu X dX6_again_2 ?_
  refine G.csti X kX6_outside lX6_138 dX6_again_4 (tX6_outside_hi l D cI cW n 1 40 h1 h2) ⟨Nat.le_of_ble_eq_true rfl, Nat.le_of_ble_eq_true rfl⟩ ⟨Nat.zero_le _, Nat.zero_le _⟩ [] rfl ⟨rfl, rfl⟩ rfl rfl rfl (Nat.le_of_ble_eq_true rfl) (ff_nil) (ws' := [xl xx xn xt xk xe xo xv xc xr cI Z]) rfl ?_
  refine G.is X dX6_again_7 (by decide) (lv' := [(2, .int (-6)), (0, .ref (xx 0)), (1, .int n)]) rfl ?_
  refine G.il X dX6_again_8 0 rfl ?_
  refine G.z_eq X (a := (-6)) dX6_again_9 (fun b9 => absurd b9 (by decide)) (fun b9 => ?_)
  refine G.al X dX6_again_12 1 rfl ?_
  refine G.il X dX6_again_13 0 rfl ?_
  refine G.cvi X kX6_refuse lX6_65 dX6_again_14 (tX6_refuse l D cI cW xx xn xt xk xe xo xv xc xr Z 6 (by omega) (by omega)) ⟨Nat.le_of_ble_eq_true rfl, Nat.le_of_ble_eq_true rfl⟩ ⟨Nat.zero_le _, Nat.zero_le _⟩ [0] rfl ⟨rfl, rfl⟩ rfl rfl 0 0 rfl rfl rfl rfl (Nat.le_of_ble_eq_true rfl) (ff_cons (xl_fst _ _ _ _ _ _ _ _ _ _ _ _) (ff_nil)) (ws' := [xl xx xn xt xk xe xo xv xc xr cI (x_rf Z 6)]) rfl ?_
  refine G.go X dX6_again_17 ?_
  exact G.iret X Rr (v := (-(nI 6))) dX6_again_32 (pi_mk (by rfl) (by rfl))

set_option maxRecDepth 20000 in
theorem tX6_again_ok (l : Launch) (D : va_G) (cI cW : ClassId) (xx : Nat → Nat) (xn : Nat → Nat) (xt : Nat → Nat) (xk : Nat → Nat) (xe : Nat → Nat) (xo : Nat → Nat) (xv : Nat → Nat) (xc : Nat → Nat) (xr : Nat → Nat) (Z : Bool × FN) (S : WS) (xq : Nat → Nat) (qa : FN × FN) (T3 : WS) (n : Nat) (hS : Ok S) (h1 : 1 ≤ n) (h2 : n ≤ 40) : CT l D cI cW yX6_again cX6_again 3 (some .int) ⟨6, 0, 0, 138⟩ [.ref (xx 0), .int (nI n)] ([xl xx xn xt xk xe xo xv xc xr cI Z, wl xn cI S, al xv xq cI qa, wl xq cI T3]) (PIE ((bmin (fun i => nI (w_wet (w_fall S i) n)) (-9, nI (w_wet S n)) (s_th S)).1) (fun T9 : WS => [xl xx xn xt xk xe xo xv xc xr cI Z, wl xn cI S, al xv xq cI qa, wl xq cI T9])) := by
  refine CT.of RX6 rfl (by decide +kernel) (Nat.le_of_ble_eq_true rfl) [(0, .ref (xx 0)), (1, .int (nI n))] rfl (fun x X Rr hnm => ?_)
  have hth := hS.th
  have hpe := hS.pe
  refine G.il X dX6_again_0 1 rfl ?_
  refine G.pu X dX6_again_1 ?_
  refine G.pu X dX6_again_2 ?_
  refine G.csti X kX6_outside lX6_138 dX6_again_4 (tX6_outside_ok l D cI cW n 1 40 (by omega) (by omega) (by omega)) ⟨Nat.le_of_ble_eq_true rfl, Nat.le_of_ble_eq_true rfl⟩ ⟨Nat.zero_le _, Nat.zero_le _⟩ [] rfl ⟨rfl, rfl⟩ rfl rfl rfl (Nat.le_of_ble_eq_true rfl) (ff_nil) (ws' := [xl xx xn xt xk xe xo xv xc xr cI Z, wl xn cI S, al xv xq cI qa, wl xq cI T3]) rfl ?_
  refine G.is X dX6_again_7 (by decide) (lv' := [(2, .int 0), (0, .ref (xx 0)), (1, .int (nI n))]) rfl ?_
  refine G.il X dX6_again_8 0 rfl ?_
  refine G.z_eq X (a := 0) dX6_again_9 (fun b9 => ?_) (fun b9 => absurd b9 (by decide))
  refine G.al X dX6_again_20 1 rfl ?_
  refine G.get X fX6_43 dX6_again_21 0 0 rfl rfl rfl ?_
  refine G.al X dX6_again_24 1 rfl ?_
  refine G.get X fX6_10 dX6_again_25 0 0 rfl rfl rfl ?_
  refine G.il X dX6_again_28 2 rfl ?_
  refine G.cvie X kX0_worstAnew lX6_222 dX6_again_29 (tX0_worstAnew l D cI cW xv xq qa T3 xn S n hS (by omega)) ⟨Nat.le_of_ble_eq_true rfl, Nat.le_of_ble_eq_true rfl⟩ ⟨Nat.zero_le _, Nat.zero_le _⟩ [2, 3, 1] rfl ⟨rfl, rfl⟩ rfl rfl 2 0 rfl rfl rfl rfl (Nat.le_of_ble_eq_true rfl) (fun _ => (ff_cons (al_fst _ _ _ _ _) (ff_cons (wl_fst _ _ _ _) (ff_cons (wl_fst _ _ _ _) (ff_nil))))) (f8 := fun T9_29 : WS => [xl xx xn xt xk xe xo xv xc xr cI Z, wl xn cI S, al xv xq cI qa, wl xq cI T9_29]) (fun _ => rfl) (fun T9_29 => ?_)
  exact G.iret X Rr (v := ((bmin (fun i => nI (w_wet (w_fall S i) n)) (-9, nI (w_wet S n)) (s_th S)).1)) dX6_again_32 (pie_mk (T9_29) (by rfl) (by rfl))

set_option maxRecDepth 20000 in
theorem tX6_drop_oth (l : Launch) (D : va_G) (cI cW : ClassId) (xx : Nat → Nat) (xn : Nat → Nat) (xt : Nat → Nat) (xk : Nat → Nat) (xe : Nat → Nat) (xo : Nat → Nat) (xv : Nat → Nat) (xc : Nat → Nat) (xr : Nat → Nat) (Z : Bool × FN) (kd : Int32) (v : Int32) (n : Int32) (w : Int32) (hk : z_in kd 6 = false) : CT l D cI cW yX6_drop cX6_drop 6 (some .int) ⟨1, 0, 0, 22⟩ [.ref (xx 0), .int kd, .int v, .int n, .int w] ([xl xx xn xt xk xe xo xv xc xr cI Z]) (PI (-2) ([xl xx xn xt xk xe xo xv xc xr cI (x_rf Z 2)])) := by
  refine CT.of RX6 rfl (by decide +kernel) (Nat.le_of_ble_eq_true rfl) [(0, .ref (xx 0)), (1, .int kd), (2, .int v), (3, .int n), (4, .int w)] rfl (fun x X Rr hnm => ?_)
  refine G.il X dX6_drop_0 1 rfl ?_
  refine G.csti X kX6_isKind lX6_145 dX6_drop_1 (tX6_isKind l D cI cW kd) ⟨Nat.le_of_ble_eq_true rfl, Nat.le_of_ble_eq_true rfl⟩ ⟨Nat.zero_le _, Nat.zero_le _⟩ [] rfl ⟨rfl, rfl⟩ rfl rfl rfl (Nat.le_of_ble_eq_true rfl) (ff_nil) (ws' := [xl xx xn xt xk xe xo xv xc xr cI Z]) rfl ?_
  refine G.b_ne X dX6_drop_4 (fun b4 => absurd (Eq.trans (Eq.symm hk) b4) (by decide)) (fun b4 => ?_)
  refine G.al X dX6_drop_7 0 rfl ?_
  refine G.pu X dX6_drop_8 ?_
  refine G.cvi X kX6_refuse lX6_65 dX6_drop_10 (tX6_refuse l D cI cW xx xn xt xk xe xo xv xc xr Z 2 (by omega) (by omega)) ⟨Nat.le_of_ble_eq_true rfl, Nat.le_of_ble_eq_true rfl⟩ ⟨Nat.zero_le _, Nat.zero_le _⟩ [0] rfl ⟨rfl, rfl⟩ rfl rfl 0 0 rfl rfl rfl rfl (Nat.le_of_ble_eq_true rfl) (ff_cons (xl_fst _ _ _ _ _ _ _ _ _ _ _ _) (ff_nil)) (ws' := [xl xx xn xt xk xe xo xv xc xr cI (x_rf Z 2)]) rfl ?_
  exact G.iret X Rr (v := (-(nI 2))) dX6_drop_13 (pi_mk (by rfl) (by rfl))

set_option maxRecDepth 20000 in
theorem tX6_drop_lo (l : Launch) (D : va_G) (cI cW : ClassId) (xx : Nat → Nat) (xn : Nat → Nat) (xt : Nat → Nat) (xk : Nat → Nat) (xe : Nat → Nat) (xo : Nat → Nat) (xv : Nat → Nat) (xc : Nat → Nat) (xr : Nat → Nat) (Z : Bool × FN) (kd : Nat) (v : Int32) (n : Int32) (w : Int32) (hk : kd < 6) (h1 : v < 0 ∨ n < 1) : CT l D cI cW yX6_drop cX6_drop 6 (some .int) ⟨1, 0, 0, 22⟩ [.ref (xx 0), .int (nI kd), .int v, .int n, .int w] ([xl xx xn xt xk xe xo xv xc xr cI Z]) (PI (-4) ([xl xx xn xt xk xe xo xv xc xr cI (x_rf Z 4)])) := by
  refine CT.of RX6 rfl (by decide +kernel) (Nat.le_of_ble_eq_true rfl) [(0, .ref (xx 0)), (1, .int (nI kd)), (2, .int v), (3, .int n), (4, .int w)] rfl (fun x X Rr hnm => ?_)
  refine G.il X dX6_drop_0 1 rfl ?_
  refine G.csti X kX6_isKind lX6_145 dX6_drop_1 (tX6_isKind l D cI cW (nI kd)) ⟨Nat.le_of_ble_eq_true rfl, Nat.le_of_ble_eq_true rfl⟩ ⟨Nat.zero_le _, Nat.zero_le _⟩ [] rfl ⟨rfl, rfl⟩ rfl rfl rfl (Nat.le_of_ble_eq_true rfl) (ff_nil) (ws' := [xl xx xn xt xk xe xo xv xc xr cI Z]) rfl ?_
  refine G.b_ne X dX6_drop_4 (fun b4 => ?_) (fun b4 => absurd (Eq.trans (Eq.symm (z_in_nI hk (by omega))) b4) (by decide))
  refine G.il X dX6_drop_14 2 rfl ?_
  refine G.z_lt X (a := v) dX6_drop_15 (fun b15 => ?_) (fun b15 => ?_)
  · refine G.al X dX6_drop_23 0 rfl ?_
    refine G.pu X dX6_drop_24 ?_
    refine G.cvi X kX6_refuse lX6_65 dX6_drop_26 (tX6_refuse l D cI cW xx xn xt xk xe xo xv xc xr Z 4 (by omega) (by omega)) ⟨Nat.le_of_ble_eq_true rfl, Nat.le_of_ble_eq_true rfl⟩ ⟨Nat.zero_le _, Nat.zero_le _⟩ [0] rfl ⟨rfl, rfl⟩ rfl rfl 0 0 rfl rfl rfl rfl (Nat.le_of_ble_eq_true rfl) (ff_cons (xl_fst _ _ _ _ _ _ _ _ _ _ _ _) (ff_nil)) (ws' := [xl xx xn xt xk xe xo xv xc xr cI (x_rf Z 4)]) rfl ?_
    exact G.iret X Rr (v := (-(nI 4))) dX6_drop_29 (pi_mk (by rfl) (by rfl))
  · refine G.il X dX6_drop_18 3 rfl ?_
    refine G.pu X dX6_drop_19 ?_
    refine G.c_ge X (a := n) (b := 1) dX6_drop_20 (fun b20 => absurd ((h1.resolve_left b15)) b20) (fun b20 => ?_)
    refine G.al X dX6_drop_23 0 rfl ?_
    refine G.pu X dX6_drop_24 ?_
    refine G.cvi X kX6_refuse lX6_65 dX6_drop_26 (tX6_refuse l D cI cW xx xn xt xk xe xo xv xc xr Z 4 (by omega) (by omega)) ⟨Nat.le_of_ble_eq_true rfl, Nat.le_of_ble_eq_true rfl⟩ ⟨Nat.zero_le _, Nat.zero_le _⟩ [0] rfl ⟨rfl, rfl⟩ rfl rfl 0 0 rfl rfl rfl rfl (Nat.le_of_ble_eq_true rfl) (ff_cons (xl_fst _ _ _ _ _ _ _ _ _ _ _ _) (ff_nil)) (ws' := [xl xx xn xt xk xe xo xv xc xr cI (x_rf Z 4)]) rfl ?_
    exact G.iret X Rr (v := (-(nI 4))) dX6_drop_29 (pi_mk (by rfl) (by rfl))

set_option maxRecDepth 20000 in
theorem tX6_drop_hi (l : Launch) (D : va_G) (cI cW : ClassId) (xx : Nat → Nat) (xn : Nat → Nat) (xt : Nat → Nat) (xk : Nat → Nat) (xe : Nat → Nat) (xo : Nat → Nat) (xv : Nat → Nat) (xc : Nat → Nat) (xr : Nat → Nat) (Z : Bool × FN) (kd : Nat) (v : Int32) (n : Int32) (w : Int32) (hk : kd < 6) (h1 : ¬ v < 0) (h2 : ¬ n < 1) (h3 : 9 < v ∨ 40 < n) : CT l D cI cW yX6_drop cX6_drop 6 (some .int) ⟨1, 0, 0, 22⟩ [.ref (xx 0), .int (nI kd), .int v, .int n, .int w] ([xl xx xn xt xk xe xo xv xc xr cI Z]) (PI (-6) ([xl xx xn xt xk xe xo xv xc xr cI (x_rf Z 6)])) := by
  refine CT.of RX6 rfl (by decide +kernel) (Nat.le_of_ble_eq_true rfl) [(0, .ref (xx 0)), (1, .int (nI kd)), (2, .int v), (3, .int n), (4, .int w)] rfl (fun x X Rr hnm => ?_)
  refine G.il X dX6_drop_0 1 rfl ?_
  refine G.csti X kX6_isKind lX6_145 dX6_drop_1 (tX6_isKind l D cI cW (nI kd)) ⟨Nat.le_of_ble_eq_true rfl, Nat.le_of_ble_eq_true rfl⟩ ⟨Nat.zero_le _, Nat.zero_le _⟩ [] rfl ⟨rfl, rfl⟩ rfl rfl rfl (Nat.le_of_ble_eq_true rfl) (ff_nil) (ws' := [xl xx xn xt xk xe xo xv xc xr cI Z]) rfl ?_
  refine G.b_ne X dX6_drop_4 (fun b4 => ?_) (fun b4 => absurd (Eq.trans (Eq.symm (z_in_nI hk (by omega))) b4) (by decide))
  refine G.il X dX6_drop_14 2 rfl ?_
  refine G.z_lt X (a := v) dX6_drop_15 (fun b15 => absurd b15 (h1)) (fun b15 => ?_)
  refine G.il X dX6_drop_18 3 rfl ?_
  refine G.pu X dX6_drop_19 ?_
  refine G.c_ge X (a := n) (b := 1) dX6_drop_20 (fun b20 => ?_) (fun b20 => absurd b20 (h2))
  refine G.il X dX6_drop_30 2 rfl ?_
  refine G.pu X dX6_drop_31 ?_
  refine G.c_gt X (a := v) (b := 9) dX6_drop_33 (fun b33 => ?_) (fun b33 => ?_)
  · refine G.al X dX6_drop_42 0 rfl ?_
    refine G.pu X dX6_drop_43 ?_
    refine G.cvi X kX6_refuse lX6_65 dX6_drop_45 (tX6_refuse l D cI cW xx xn xt xk xe xo xv xc xr Z 6 (by omega) (by omega)) ⟨Nat.le_of_ble_eq_true rfl, Nat.le_of_ble_eq_true rfl⟩ ⟨Nat.zero_le _, Nat.zero_le _⟩ [0] rfl ⟨rfl, rfl⟩ rfl rfl 0 0 rfl rfl rfl rfl (Nat.le_of_ble_eq_true rfl) (ff_cons (xl_fst _ _ _ _ _ _ _ _ _ _ _ _) (ff_nil)) (ws' := [xl xx xn xt xk xe xo xv xc xr cI (x_rf Z 6)]) rfl ?_
    exact G.iret X Rr (v := (-(nI 6))) dX6_drop_48 (pi_mk (by rfl) (by rfl))
  · refine G.il X dX6_drop_36 3 rfl ?_
    refine G.pu X dX6_drop_37 ?_
    refine G.c_le X (a := n) (b := 40) dX6_drop_39 (fun b39 => absurd ((h3.resolve_left b33)) b39) (fun b39 => ?_)
    refine G.al X dX6_drop_42 0 rfl ?_
    refine G.pu X dX6_drop_43 ?_
    refine G.cvi X kX6_refuse lX6_65 dX6_drop_45 (tX6_refuse l D cI cW xx xn xt xk xe xo xv xc xr Z 6 (by omega) (by omega)) ⟨Nat.le_of_ble_eq_true rfl, Nat.le_of_ble_eq_true rfl⟩ ⟨Nat.zero_le _, Nat.zero_le _⟩ [0] rfl ⟨rfl, rfl⟩ rfl rfl 0 0 rfl rfl rfl rfl (Nat.le_of_ble_eq_true rfl) (ff_cons (xl_fst _ _ _ _ _ _ _ _ _ _ _ _) (ff_nil)) (ws' := [xl xx xn xt xk xe xo xv xc xr cI (x_rf Z 6)]) rfl ?_
    exact G.iret X Rr (v := (-(nI 6))) dX6_drop_48 (pi_mk (by rfl) (by rfl))

set_option maxRecDepth 20000 in
theorem tX6_drop_oth2 (l : Launch) (D : va_G) (cI cW : ClassId) (xx : Nat → Nat) (xn : Nat → Nat) (xt : Nat → Nat) (xk : Nat → Nat) (xe : Nat → Nat) (xo : Nat → Nat) (xv : Nat → Nat) (xc : Nat → Nat) (xr : Nat → Nat) (Z : Bool × FN) (kd : Nat) (v : Nat) (n : Nat) (w : Int32) (hk : kd < 6) (hv : v ≤ 9) (h1 : 1 ≤ n) (h2 : n ≤ 40) (hw : z_in w 2 = false) : CT l D cI cW yX6_drop cX6_drop 6 (some .int) ⟨1, 0, 0, 22⟩ [.ref (xx 0), .int (nI kd), .int (nI v), .int (nI n), .int w] ([xl xx xn xt xk xe xo xv xc xr cI Z]) (PI (-2) ([xl xx xn xt xk xe xo xv xc xr cI (x_rf Z 2)])) := by
  refine CT.of RX6 rfl (by decide +kernel) (Nat.le_of_ble_eq_true rfl) [(0, .ref (xx 0)), (1, .int (nI kd)), (2, .int (nI v)), (3, .int (nI n)), (4, .int w)] rfl (fun x X Rr hnm => ?_)
  refine G.il X dX6_drop_0 1 rfl ?_
  refine G.csti X kX6_isKind lX6_145 dX6_drop_1 (tX6_isKind l D cI cW (nI kd)) ⟨Nat.le_of_ble_eq_true rfl, Nat.le_of_ble_eq_true rfl⟩ ⟨Nat.zero_le _, Nat.zero_le _⟩ [] rfl ⟨rfl, rfl⟩ rfl rfl rfl (Nat.le_of_ble_eq_true rfl) (ff_nil) (ws' := [xl xx xn xt xk xe xo xv xc xr cI Z]) rfl ?_
  refine G.b_ne X dX6_drop_4 (fun b4 => ?_) (fun b4 => absurd (Eq.trans (Eq.symm (z_in_nI hk (by omega))) b4) (by decide))
  refine G.il X dX6_drop_14 2 rfl ?_
  refine G.z_lt X (a := nI v) dX6_drop_15 (fun b15 => absurd b15 (nI_pos (by omega))) (fun b15 => ?_)
  refine G.il X dX6_drop_18 3 rfl ?_
  refine G.pu X dX6_drop_19 ?_
  refine G.n_ge X (a := n) (b := 1) (by omega) (by omega) dX6_drop_20 (fun b20 => ?_) (fun b20 => absurd b20 (by omega))
  refine G.il X dX6_drop_30 2 rfl ?_
  refine G.pu X dX6_drop_31 ?_
  refine G.n_gt X (a := v) (b := 9) (by omega) (by omega) dX6_drop_33 (fun b33 => absurd b33 (by omega)) (fun b33 => ?_)
  refine G.il X dX6_drop_36 3 rfl ?_
  refine G.pu X dX6_drop_37 ?_
  refine G.n_le X (a := n) (b := 40) (by omega) (by omega) dX6_drop_39 (fun b39 => ?_) (fun b39 => absurd b39 (by omega))
  refine G.il X dX6_drop_49 4 rfl ?_
  refine G.z_lt X (a := w) dX6_drop_51 (fun b51 => ?_) (fun b51 => ?_)
  · refine G.al X dX6_drop_60 0 rfl ?_
    refine G.pu X dX6_drop_61 ?_
    refine G.cvi X kX6_refuse lX6_65 dX6_drop_63 (tX6_refuse l D cI cW xx xn xt xk xe xo xv xc xr Z 2 (by omega) (by omega)) ⟨Nat.le_of_ble_eq_true rfl, Nat.le_of_ble_eq_true rfl⟩ ⟨Nat.zero_le _, Nat.zero_le _⟩ [0] rfl ⟨rfl, rfl⟩ rfl rfl 0 0 rfl rfl rfl rfl (Nat.le_of_ble_eq_true rfl) (ff_cons (xl_fst _ _ _ _ _ _ _ _ _ _ _ _) (ff_nil)) (ws' := [xl xx xn xt xk xe xo xv xc xr cI (x_rf Z 2)]) rfl ?_
    exact G.iret X Rr (v := (-(nI 2))) dX6_drop_66 (pi_mk (by rfl) (by rfl))
  · refine G.il X dX6_drop_54 4 rfl ?_
    refine G.pu X dX6_drop_56 ?_
    refine G.c_le X (a := w) (b := 1) dX6_drop_57 (fun b57 => absurd (((z_bad2 hw).resolve_left b51)) b57) (fun b57 => ?_)
    refine G.al X dX6_drop_60 0 rfl ?_
    refine G.pu X dX6_drop_61 ?_
    refine G.cvi X kX6_refuse lX6_65 dX6_drop_63 (tX6_refuse l D cI cW xx xn xt xk xe xo xv xc xr Z 2 (by omega) (by omega)) ⟨Nat.le_of_ble_eq_true rfl, Nat.le_of_ble_eq_true rfl⟩ ⟨Nat.zero_le _, Nat.zero_le _⟩ [0] rfl ⟨rfl, rfl⟩ rfl rfl 0 0 rfl rfl rfl rfl (Nat.le_of_ble_eq_true rfl) (ff_cons (xl_fst _ _ _ _ _ _ _ _ _ _ _ _) (ff_nil)) (ws' := [xl xx xn xt xk xe xo xv xc xr cI (x_rf Z 2)]) rfl ?_
    exact G.iret X Rr (v := (-(nI 2))) dX6_drop_66 (pi_mk (by rfl) (by rfl))

set_option maxRecDepth 20000 in
theorem tX6_drop_full0 (l : Launch) (D : va_G) (cI cW : ClassId) (xx : Nat → Nat) (xn : Nat → Nat) (xt : Nat → Nat) (xk : Nat → Nat) (xe : Nat → Nat) (xo : Nat → Nat) (xv : Nat → Nat) (xc : Nat → Nat) (xr : Nat → Nat) (Z : Bool × FN) (S : WS) (xq : Nat → Nat) (qa : FN × FN) (T3 : WS) (kd : Nat) (v : Nat) (n : Nat) (hS : Ok S) (hk : kd < 6) (hv : v ≤ 9) (h1 : 1 ≤ n) (h2 : n ≤ 40) (ht9 : ¬ s_th S < 9) : CT l D cI cW yX6_drop cX6_drop 6 (some .int) ⟨1, 0, 0, 28⟩ [.ref (xx 0), .int (nI kd), .int (nI v), .int (nI n), .int 0] ([xl xx xn xt xk xe xo xv xc xr cI Z, wl xn cI S, al xv xq cI qa, wl xq cI T3]) (PI (-9) ([xl xx xn xt xk xe xo xv xc xr cI Z, wl xn cI S, al xv xq cI qa, wl xq cI T3])) := by
  refine CT.of RX6 rfl (by decide +kernel) (Nat.le_of_ble_eq_true rfl) [(0, .ref (xx 0)), (1, .int (nI kd)), (2, .int (nI v)), (3, .int (nI n)), (4, .int 0)] rfl (fun x X Rr hnm => ?_)
  have hth := hS.th
  have hpe := hS.pe
  refine G.il X dX6_drop_0 1 rfl ?_
  refine G.csti X kX6_isKind lX6_145 dX6_drop_1 (tX6_isKind l D cI cW (nI kd)) ⟨Nat.le_of_ble_eq_true rfl, Nat.le_of_ble_eq_true rfl⟩ ⟨Nat.zero_le _, Nat.zero_le _⟩ [] rfl ⟨rfl, rfl⟩ rfl rfl rfl (Nat.le_of_ble_eq_true rfl) (ff_nil) (ws' := [xl xx xn xt xk xe xo xv xc xr cI Z, wl xn cI S, al xv xq cI qa, wl xq cI T3]) rfl ?_
  refine G.b_ne X dX6_drop_4 (fun b4 => ?_) (fun b4 => absurd (Eq.trans (Eq.symm (z_in_nI hk (by omega))) b4) (by decide))
  refine G.il X dX6_drop_14 2 rfl ?_
  refine G.z_lt X (a := nI v) dX6_drop_15 (fun b15 => absurd b15 (nI_pos (by omega))) (fun b15 => ?_)
  refine G.il X dX6_drop_18 3 rfl ?_
  refine G.pu X dX6_drop_19 ?_
  refine G.n_ge X (a := n) (b := 1) (by omega) (by omega) dX6_drop_20 (fun b20 => ?_) (fun b20 => absurd b20 (by omega))
  refine G.il X dX6_drop_30 2 rfl ?_
  refine G.pu X dX6_drop_31 ?_
  refine G.n_gt X (a := v) (b := 9) (by omega) (by omega) dX6_drop_33 (fun b33 => absurd b33 (by omega)) (fun b33 => ?_)
  refine G.il X dX6_drop_36 3 rfl ?_
  refine G.pu X dX6_drop_37 ?_
  refine G.n_le X (a := n) (b := 40) (by omega) (by omega) dX6_drop_39 (fun b39 => ?_) (fun b39 => absurd b39 (by omega))
  refine G.il X dX6_drop_49 4 rfl ?_
  refine G.z_lt X (a := 0) dX6_drop_51 (fun b51 => absurd b51 (by decide)) (fun b51 => ?_)
  refine G.il X dX6_drop_54 4 rfl ?_
  refine G.pu X dX6_drop_56 ?_
  refine G.c_le X (a := 0) (b := 1) dX6_drop_57 (fun b57 => ?_) (fun b57 => absurd b57 (by decide))
  refine G.al X dX6_drop_67 0 rfl ?_
  refine G.get X fX6_43 dX6_drop_68 0 0 rfl rfl rfl ?_
  refine G.al X dX6_drop_71 0 rfl ?_
  refine G.get X fX6_10 dX6_drop_72 0 0 rfl rfl rfl ?_
  refine G.il X dX6_drop_75 1 rfl ?_
  refine G.il X dX6_drop_76 2 rfl ?_
  refine G.il X dX6_drop_77 3 rfl ?_
  refine G.cvi X kX0_bestDropper lX6_214 dX6_drop_78 (tX0_bestDropper_full l D cI cW xv xq qa T3 xn S (nI kd) (nI v) n hS (by omega)) ⟨Nat.le_of_ble_eq_true rfl, Nat.le_of_ble_eq_true rfl⟩ ⟨Nat.zero_le _, Nat.zero_le _⟩ [2, 3, 1] rfl ⟨rfl, rfl⟩ rfl rfl 2 0 rfl rfl rfl rfl (Nat.le_of_ble_eq_true rfl) (ff_cons (al_fst _ _ _ _ _) (ff_cons (wl_fst _ _ _ _) (ff_cons (wl_fst _ _ _ _) (ff_nil)))) (ws' := [xl xx xn xt xk xe xo xv xc xr cI Z, wl xn cI S, al xv xq cI qa, wl xq cI T3]) rfl ?_
  refine G.is X dX6_drop_81 (by decide) (lv' := [(5, .int (-9)), (0, .ref (xx 0)), (1, .int (nI kd)), (2, .int (nI v)), (3, .int (nI n)), (4, .int 0)]) rfl ?_
  refine G.il X dX6_drop_83 5 rfl ?_
  refine G.z_eq X (a := 0) dX6_drop_85 (fun b85 => ?_) (fun b85 => absurd b85 (by decide))
  refine G.il X dX6_drop_95 0 rfl ?_
  refine G.go X dX6_drop_97 ?_
  exact G.iret X Rr (v := (-9)) dX6_drop_116 (pi_mk (by rfl) (by rfl))

set_option maxRecDepth 20000 in
theorem tX6_drop_full1 (l : Launch) (D : va_G) (cI cW : ClassId) (xx : Nat → Nat) (xn : Nat → Nat) (xt : Nat → Nat) (xk : Nat → Nat) (xe : Nat → Nat) (xo : Nat → Nat) (xv : Nat → Nat) (xc : Nat → Nat) (xr : Nat → Nat) (Z : Bool × FN) (S : WS) (xq : Nat → Nat) (qa : FN × FN) (T3 : WS) (kd : Nat) (v : Nat) (n : Nat) (hS : Ok S) (hk : kd < 6) (hv : v ≤ 9) (h1 : 1 ≤ n) (h2 : n ≤ 40) (ht9 : ¬ s_th S < 9) : CT l D cI cW yX6_drop cX6_drop 6 (some .int) ⟨1, 0, 0, 28⟩ [.ref (xx 0), .int (nI kd), .int (nI v), .int (nI n), .int 1] ([xl xx xn xt xk xe xo xv xc xr cI Z, wl xn cI S, al xv xq cI qa, wl xq cI T3]) (PI (-9) ([xl xx xn xt xk xe xo xv xc xr cI Z, wl xn cI S, al xv xq cI qa, wl xq cI T3])) := by
  refine CT.of RX6 rfl (by decide +kernel) (Nat.le_of_ble_eq_true rfl) [(0, .ref (xx 0)), (1, .int (nI kd)), (2, .int (nI v)), (3, .int (nI n)), (4, .int 1)] rfl (fun x X Rr hnm => ?_)
  have hth := hS.th
  have hpe := hS.pe
  refine G.il X dX6_drop_0 1 rfl ?_
  refine G.csti X kX6_isKind lX6_145 dX6_drop_1 (tX6_isKind l D cI cW (nI kd)) ⟨Nat.le_of_ble_eq_true rfl, Nat.le_of_ble_eq_true rfl⟩ ⟨Nat.zero_le _, Nat.zero_le _⟩ [] rfl ⟨rfl, rfl⟩ rfl rfl rfl (Nat.le_of_ble_eq_true rfl) (ff_nil) (ws' := [xl xx xn xt xk xe xo xv xc xr cI Z, wl xn cI S, al xv xq cI qa, wl xq cI T3]) rfl ?_
  refine G.b_ne X dX6_drop_4 (fun b4 => ?_) (fun b4 => absurd (Eq.trans (Eq.symm (z_in_nI hk (by omega))) b4) (by decide))
  refine G.il X dX6_drop_14 2 rfl ?_
  refine G.z_lt X (a := nI v) dX6_drop_15 (fun b15 => absurd b15 (nI_pos (by omega))) (fun b15 => ?_)
  refine G.il X dX6_drop_18 3 rfl ?_
  refine G.pu X dX6_drop_19 ?_
  refine G.n_ge X (a := n) (b := 1) (by omega) (by omega) dX6_drop_20 (fun b20 => ?_) (fun b20 => absurd b20 (by omega))
  refine G.il X dX6_drop_30 2 rfl ?_
  refine G.pu X dX6_drop_31 ?_
  refine G.n_gt X (a := v) (b := 9) (by omega) (by omega) dX6_drop_33 (fun b33 => absurd b33 (by omega)) (fun b33 => ?_)
  refine G.il X dX6_drop_36 3 rfl ?_
  refine G.pu X dX6_drop_37 ?_
  refine G.n_le X (a := n) (b := 40) (by omega) (by omega) dX6_drop_39 (fun b39 => ?_) (fun b39 => absurd b39 (by omega))
  refine G.il X dX6_drop_49 4 rfl ?_
  refine G.z_lt X (a := 1) dX6_drop_51 (fun b51 => absurd b51 (by decide)) (fun b51 => ?_)
  refine G.il X dX6_drop_54 4 rfl ?_
  refine G.pu X dX6_drop_56 ?_
  refine G.c_le X (a := 1) (b := 1) dX6_drop_57 (fun b57 => ?_) (fun b57 => absurd b57 (by decide))
  refine G.al X dX6_drop_67 0 rfl ?_
  refine G.get X fX6_43 dX6_drop_68 0 0 rfl rfl rfl ?_
  refine G.al X dX6_drop_71 0 rfl ?_
  refine G.get X fX6_10 dX6_drop_72 0 0 rfl rfl rfl ?_
  refine G.il X dX6_drop_75 1 rfl ?_
  refine G.il X dX6_drop_76 2 rfl ?_
  refine G.il X dX6_drop_77 3 rfl ?_
  refine G.cvi X kX0_bestDropper lX6_214 dX6_drop_78 (tX0_bestDropper_full l D cI cW xv xq qa T3 xn S (nI kd) (nI v) n hS (by omega)) ⟨Nat.le_of_ble_eq_true rfl, Nat.le_of_ble_eq_true rfl⟩ ⟨Nat.zero_le _, Nat.zero_le _⟩ [2, 3, 1] rfl ⟨rfl, rfl⟩ rfl rfl 2 0 rfl rfl rfl rfl (Nat.le_of_ble_eq_true rfl) (ff_cons (al_fst _ _ _ _ _) (ff_cons (wl_fst _ _ _ _) (ff_cons (wl_fst _ _ _ _) (ff_nil)))) (ws' := [xl xx xn xt xk xe xo xv xc xr cI Z, wl xn cI S, al xv xq cI qa, wl xq cI T3]) rfl ?_
  refine G.is X dX6_drop_81 (by decide) (lv' := [(5, .int (-9)), (0, .ref (xx 0)), (1, .int (nI kd)), (2, .int (nI v)), (3, .int (nI n)), (4, .int 1)]) rfl ?_
  refine G.il X dX6_drop_83 5 rfl ?_
  refine G.z_eq X (a := 1) dX6_drop_85 (fun b85 => absurd b85 (by decide)) (fun b85 => ?_)
  refine G.il X dX6_drop_88 0 rfl ?_
  refine G.pu X dX6_drop_90 ?_
  refine G.c_ne X (a := (-9)) (b := (-9)) dX6_drop_92 (fun b92 => absurd b92 ((fun h => h rfl))) (fun b92 => ?_)
  refine G.il X dX6_drop_95 0 rfl ?_
  refine G.go X dX6_drop_97 ?_
  exact G.iret X Rr (v := (-9)) dX6_drop_116 (pi_mk (by rfl) (by rfl))

set_option maxRecDepth 20000 in
theorem tX6_drop_0 (l : Launch) (D : va_G) (cI cW : ClassId) (xx : Nat → Nat) (xn : Nat → Nat) (xt : Nat → Nat) (xk : Nat → Nat) (xe : Nat → Nat) (xo : Nat → Nat) (xv : Nat → Nat) (xc : Nat → Nat) (xr : Nat → Nat) (Z : Bool × FN) (S : WS) (xq : Nat → Nat) (qa : FN × FN) (T3 : WS) (kd : Nat) (v : Nat) (n : Nat) (hS : Ok S) (hk : kd < 6) (hv : v ≤ 9) (h1 : 1 ≤ n) (h2 : n ≤ 40) (ht9 : s_th S < 9) : CT l D cI cW yX6_drop cX6_drop 6 (some .int) ⟨6, 0, 0, 143⟩ [.ref (xx 0), .int (nI kd), .int (nI v), .int (nI n), .int 0] ([xl xx xn xt xk xe xo xv xc xr cI Z, wl xn cI S, al xv xq cI qa, wl xq cI T3]) (PIE ((bmin (fun p => nI (w_wet (w_add S (nI kd) (nI v) (nI p)) n)) (-9, nI (n + 1)) (s_pe S)).1) (fun T9 : WS => [xl xx xn xt xk xe xo xv xc xr cI Z, wl xn cI S, al xv xq cI qa, wl xq cI T9])) := by
  refine CT.of RX6 rfl (by decide +kernel) (Nat.le_of_ble_eq_true rfl) [(0, .ref (xx 0)), (1, .int (nI kd)), (2, .int (nI v)), (3, .int (nI n)), (4, .int 0)] rfl (fun x X Rr hnm => ?_)
  have hth := hS.th
  have hpe := hS.pe
  refine G.il X dX6_drop_0 1 rfl ?_
  refine G.csti X kX6_isKind lX6_145 dX6_drop_1 (tX6_isKind l D cI cW (nI kd)) ⟨Nat.le_of_ble_eq_true rfl, Nat.le_of_ble_eq_true rfl⟩ ⟨Nat.zero_le _, Nat.zero_le _⟩ [] rfl ⟨rfl, rfl⟩ rfl rfl rfl (Nat.le_of_ble_eq_true rfl) (ff_nil) (ws' := [xl xx xn xt xk xe xo xv xc xr cI Z, wl xn cI S, al xv xq cI qa, wl xq cI T3]) rfl ?_
  refine G.b_ne X dX6_drop_4 (fun b4 => ?_) (fun b4 => absurd (Eq.trans (Eq.symm (z_in_nI hk (by omega))) b4) (by decide))
  refine G.il X dX6_drop_14 2 rfl ?_
  refine G.z_lt X (a := nI v) dX6_drop_15 (fun b15 => absurd b15 (nI_pos (by omega))) (fun b15 => ?_)
  refine G.il X dX6_drop_18 3 rfl ?_
  refine G.pu X dX6_drop_19 ?_
  refine G.n_ge X (a := n) (b := 1) (by omega) (by omega) dX6_drop_20 (fun b20 => ?_) (fun b20 => absurd b20 (by omega))
  refine G.il X dX6_drop_30 2 rfl ?_
  refine G.pu X dX6_drop_31 ?_
  refine G.n_gt X (a := v) (b := 9) (by omega) (by omega) dX6_drop_33 (fun b33 => absurd b33 (by omega)) (fun b33 => ?_)
  refine G.il X dX6_drop_36 3 rfl ?_
  refine G.pu X dX6_drop_37 ?_
  refine G.n_le X (a := n) (b := 40) (by omega) (by omega) dX6_drop_39 (fun b39 => ?_) (fun b39 => absurd b39 (by omega))
  refine G.il X dX6_drop_49 4 rfl ?_
  refine G.z_lt X (a := 0) dX6_drop_51 (fun b51 => absurd b51 (by decide)) (fun b51 => ?_)
  refine G.il X dX6_drop_54 4 rfl ?_
  refine G.pu X dX6_drop_56 ?_
  refine G.c_le X (a := 0) (b := 1) dX6_drop_57 (fun b57 => ?_) (fun b57 => absurd b57 (by decide))
  refine G.al X dX6_drop_67 0 rfl ?_
  refine G.get X fX6_43 dX6_drop_68 0 0 rfl rfl rfl ?_
  refine G.al X dX6_drop_71 0 rfl ?_
  refine G.get X fX6_10 dX6_drop_72 0 0 rfl rfl rfl ?_
  refine G.il X dX6_drop_75 1 rfl ?_
  refine G.il X dX6_drop_76 2 rfl ?_
  refine G.il X dX6_drop_77 3 rfl ?_
  refine G.cvie X kX0_bestDropper lX6_214 dX6_drop_78 (tX0_bestDropper l D cI cW xv xq qa T3 xn S (nI kd) (nI v) n hS (by omega) ⟨kd, by omega, rfl⟩ ⟨v, by omega, rfl⟩ (by omega)) ⟨Nat.le_of_ble_eq_true rfl, Nat.le_of_ble_eq_true rfl⟩ ⟨Nat.zero_le _, Nat.zero_le _⟩ [2, 3, 1] rfl ⟨rfl, rfl⟩ rfl rfl 2 0 rfl rfl rfl rfl (Nat.le_of_ble_eq_true rfl) (fun _ => (ff_cons (al_fst _ _ _ _ _) (ff_cons (wl_fst _ _ _ _) (ff_cons (wl_fst _ _ _ _) (ff_nil))))) (f8 := fun T9_78 : WS => [xl xx xn xt xk xe xo xv xc xr cI Z, wl xn cI S, al xv xq cI qa, wl xq cI T9_78]) (fun _ => rfl) (fun T9_78 => ?_)
  refine G.is X dX6_drop_81 (by decide) (lv' := [(5, .int ((bmin (fun p => nI (w_wet (w_add S (nI kd) (nI v) (nI p)) n)) (-9, nI (n + 1)) (s_pe S)).1)), (0, .ref (xx 0)), (1, .int (nI kd)), (2, .int (nI v)), (3, .int (nI n)), (4, .int 0)]) rfl ?_
  refine G.il X dX6_drop_83 5 rfl ?_
  refine G.z_eq X (a := 0) dX6_drop_85 (fun b85 => ?_) (fun b85 => absurd b85 (by decide))
  refine G.il X dX6_drop_95 0 rfl ?_
  refine G.go X dX6_drop_97 ?_
  exact G.iret X Rr (v := ((bmin (fun p => nI (w_wet (w_add S (nI kd) (nI v) (nI p)) n)) (-9, nI (n + 1)) (s_pe S)).1)) dX6_drop_116 (pie_mk (T9_78) (by rfl) (by rfl))

set_option maxRecDepth 20000 in
theorem tX6_drop_1n (l : Launch) (D : va_G) (cI cW : ClassId) (xx : Nat → Nat) (xn : Nat → Nat) (xt : Nat → Nat) (xk : Nat → Nat) (xe : Nat → Nat) (xo : Nat → Nat) (xv : Nat → Nat) (xc : Nat → Nat) (xr : Nat → Nat) (Z : Bool × FN) (S : WS) (xq : Nat → Nat) (qa : FN × FN) (T3 : WS) (kd : Nat) (v : Nat) (n : Nat) (hS : Ok S) (hk : kd < 6) (hv : v ≤ 9) (h1 : 1 ≤ n) (h2 : n ≤ 40) (ht9 : s_th S < 9) (hp0 : s_pe S = 0) : CT l D cI cW yX6_drop cX6_drop 6 (some .int) ⟨6, 0, 0, 143⟩ [.ref (xx 0), .int (nI kd), .int (nI v), .int (nI n), .int 1] ([xl xx xn xt xk xe xo xv xc xr cI Z, wl xn cI S, al xv xq cI qa, wl xq cI T3]) (PIE (-9) (fun T9 : WS => [xl xx xn xt xk xe xo xv xc xr cI Z, wl xn cI S, al xv xq cI qa, wl xq cI T9])) := by
  refine CT.of RX6 rfl (by decide +kernel) (Nat.le_of_ble_eq_true rfl) [(0, .ref (xx 0)), (1, .int (nI kd)), (2, .int (nI v)), (3, .int (nI n)), (4, .int 1)] rfl (fun x X Rr hnm => ?_)
  have hth := hS.th
  have hpe := hS.pe
  refine G.il X dX6_drop_0 1 rfl ?_
  refine G.csti X kX6_isKind lX6_145 dX6_drop_1 (tX6_isKind l D cI cW (nI kd)) ⟨Nat.le_of_ble_eq_true rfl, Nat.le_of_ble_eq_true rfl⟩ ⟨Nat.zero_le _, Nat.zero_le _⟩ [] rfl ⟨rfl, rfl⟩ rfl rfl rfl (Nat.le_of_ble_eq_true rfl) (ff_nil) (ws' := [xl xx xn xt xk xe xo xv xc xr cI Z, wl xn cI S, al xv xq cI qa, wl xq cI T3]) rfl ?_
  refine G.b_ne X dX6_drop_4 (fun b4 => ?_) (fun b4 => absurd (Eq.trans (Eq.symm (z_in_nI hk (by omega))) b4) (by decide))
  refine G.il X dX6_drop_14 2 rfl ?_
  refine G.z_lt X (a := nI v) dX6_drop_15 (fun b15 => absurd b15 (nI_pos (by omega))) (fun b15 => ?_)
  refine G.il X dX6_drop_18 3 rfl ?_
  refine G.pu X dX6_drop_19 ?_
  refine G.n_ge X (a := n) (b := 1) (by omega) (by omega) dX6_drop_20 (fun b20 => ?_) (fun b20 => absurd b20 (by omega))
  refine G.il X dX6_drop_30 2 rfl ?_
  refine G.pu X dX6_drop_31 ?_
  refine G.n_gt X (a := v) (b := 9) (by omega) (by omega) dX6_drop_33 (fun b33 => absurd b33 (by omega)) (fun b33 => ?_)
  refine G.il X dX6_drop_36 3 rfl ?_
  refine G.pu X dX6_drop_37 ?_
  refine G.n_le X (a := n) (b := 40) (by omega) (by omega) dX6_drop_39 (fun b39 => ?_) (fun b39 => absurd b39 (by omega))
  refine G.il X dX6_drop_49 4 rfl ?_
  refine G.z_lt X (a := 1) dX6_drop_51 (fun b51 => absurd b51 (by decide)) (fun b51 => ?_)
  refine G.il X dX6_drop_54 4 rfl ?_
  refine G.pu X dX6_drop_56 ?_
  refine G.c_le X (a := 1) (b := 1) dX6_drop_57 (fun b57 => ?_) (fun b57 => absurd b57 (by decide))
  refine G.al X dX6_drop_67 0 rfl ?_
  refine G.get X fX6_43 dX6_drop_68 0 0 rfl rfl rfl ?_
  refine G.al X dX6_drop_71 0 rfl ?_
  refine G.get X fX6_10 dX6_drop_72 0 0 rfl rfl rfl ?_
  refine G.il X dX6_drop_75 1 rfl ?_
  refine G.il X dX6_drop_76 2 rfl ?_
  refine G.il X dX6_drop_77 3 rfl ?_
  refine G.cvie X kX0_bestDropper lX6_214 dX6_drop_78 (tX0_bestDropper l D cI cW xv xq qa T3 xn S (nI kd) (nI v) n hS (by omega) ⟨kd, by omega, rfl⟩ ⟨v, by omega, rfl⟩ (by omega)) ⟨Nat.le_of_ble_eq_true rfl, Nat.le_of_ble_eq_true rfl⟩ ⟨Nat.zero_le _, Nat.zero_le _⟩ [2, 3, 1] rfl ⟨rfl, rfl⟩ rfl rfl 2 0 rfl rfl rfl rfl (Nat.le_of_ble_eq_true rfl) (fun _ => (ff_cons (al_fst _ _ _ _ _) (ff_cons (wl_fst _ _ _ _) (ff_cons (wl_fst _ _ _ _) (ff_nil))))) (f8 := fun T9_78 : WS => [xl xx xn xt xk xe xo xv xc xr cI Z, wl xn cI S, al xv xq cI qa, wl xq cI T9_78]) (fun _ => rfl) (fun T9_78 => ?_)
  refine G.top (b := -9) (by rw [hp0]; rfl) ?_
  refine G.is X dX6_drop_81 (by decide) (lv' := [(5, .int (-9)), (0, .ref (xx 0)), (1, .int (nI kd)), (2, .int (nI v)), (3, .int (nI n)), (4, .int 1)]) rfl ?_
  refine G.il X dX6_drop_83 5 rfl ?_
  refine G.z_eq X (a := 1) dX6_drop_85 (fun b85 => absurd b85 (by decide)) (fun b85 => ?_)
  refine G.il X dX6_drop_88 0 rfl ?_
  refine G.pu X dX6_drop_90 ?_
  refine G.c_ne X (a := (-9)) (b := (-9)) dX6_drop_92 (fun b92 => absurd b92 ((fun h => h rfl))) (fun b92 => ?_)
  refine G.il X dX6_drop_95 0 rfl ?_
  refine G.go X dX6_drop_97 ?_
  exact G.iret X Rr (v := (-9)) dX6_drop_116 (pie_mk (T9_78) (by rfl) (by rfl))

set_option maxRecDepth 20000 in
theorem tX6_drop_1 (l : Launch) (D : va_G) (cI cW : ClassId) (xx : Nat → Nat) (xn : Nat → Nat) (xt : Nat → Nat) (xk : Nat → Nat) (xe : Nat → Nat) (xo : Nat → Nat) (xv : Nat → Nat) (xc : Nat → Nat) (xr : Nat → Nat) (Z : Bool × FN) (S : WS) (xq : Nat → Nat) (qa : FN × FN) (T3 : WS) (kd : Nat) (v : Nat) (n : Nat) (hS : Ok S) (hk : kd < 6) (hv : v ≤ 9) (h1 : 1 ≤ n) (h2 : n ≤ 40) (ht9 : s_th S < 9) (hp0 : 0 < s_pe S) : CT l D cI cW yX6_drop cX6_drop 6 (some .int) ⟨6, 0, 0, 143⟩ [.ref (xx 0), .int (nI kd), .int (nI v), .int (nI n), .int 1] ([xl xx xn xt xk xe xo xv xc xr cI Z, wl xn cI S, al xv xq cI qa, wl xq cI T3]) (PIE ((bmin (fun p => nI (w_wet (w_add S (nI kd) (nI v) (nI p)) n)) (-9, nI (n + 1)) (s_pe S)).2) (fun T9 : WS => [xl xx xn xt xk xe xo xv xc xr cI Z, wl xn cI S, al xv xq cI qa, wl xq cI T9])) := by
  refine CT.of RX6 rfl (by decide +kernel) (Nat.le_of_ble_eq_true rfl) [(0, .ref (xx 0)), (1, .int (nI kd)), (2, .int (nI v)), (3, .int (nI n)), (4, .int 1)] rfl (fun x X Rr hnm => ?_)
  have hth := hS.th
  have hpe := hS.pe
  refine G.il X dX6_drop_0 1 rfl ?_
  refine G.csti X kX6_isKind lX6_145 dX6_drop_1 (tX6_isKind l D cI cW (nI kd)) ⟨Nat.le_of_ble_eq_true rfl, Nat.le_of_ble_eq_true rfl⟩ ⟨Nat.zero_le _, Nat.zero_le _⟩ [] rfl ⟨rfl, rfl⟩ rfl rfl rfl (Nat.le_of_ble_eq_true rfl) (ff_nil) (ws' := [xl xx xn xt xk xe xo xv xc xr cI Z, wl xn cI S, al xv xq cI qa, wl xq cI T3]) rfl ?_
  refine G.b_ne X dX6_drop_4 (fun b4 => ?_) (fun b4 => absurd (Eq.trans (Eq.symm (z_in_nI hk (by omega))) b4) (by decide))
  refine G.il X dX6_drop_14 2 rfl ?_
  refine G.z_lt X (a := nI v) dX6_drop_15 (fun b15 => absurd b15 (nI_pos (by omega))) (fun b15 => ?_)
  refine G.il X dX6_drop_18 3 rfl ?_
  refine G.pu X dX6_drop_19 ?_
  refine G.n_ge X (a := n) (b := 1) (by omega) (by omega) dX6_drop_20 (fun b20 => ?_) (fun b20 => absurd b20 (by omega))
  refine G.il X dX6_drop_30 2 rfl ?_
  refine G.pu X dX6_drop_31 ?_
  refine G.n_gt X (a := v) (b := 9) (by omega) (by omega) dX6_drop_33 (fun b33 => absurd b33 (by omega)) (fun b33 => ?_)
  refine G.il X dX6_drop_36 3 rfl ?_
  refine G.pu X dX6_drop_37 ?_
  refine G.n_le X (a := n) (b := 40) (by omega) (by omega) dX6_drop_39 (fun b39 => ?_) (fun b39 => absurd b39 (by omega))
  refine G.il X dX6_drop_49 4 rfl ?_
  refine G.z_lt X (a := 1) dX6_drop_51 (fun b51 => absurd b51 (by decide)) (fun b51 => ?_)
  refine G.il X dX6_drop_54 4 rfl ?_
  refine G.pu X dX6_drop_56 ?_
  refine G.c_le X (a := 1) (b := 1) dX6_drop_57 (fun b57 => ?_) (fun b57 => absurd b57 (by decide))
  refine G.al X dX6_drop_67 0 rfl ?_
  refine G.get X fX6_43 dX6_drop_68 0 0 rfl rfl rfl ?_
  refine G.al X dX6_drop_71 0 rfl ?_
  refine G.get X fX6_10 dX6_drop_72 0 0 rfl rfl rfl ?_
  refine G.il X dX6_drop_75 1 rfl ?_
  refine G.il X dX6_drop_76 2 rfl ?_
  refine G.il X dX6_drop_77 3 rfl ?_
  refine G.cvie X kX0_bestDropper lX6_214 dX6_drop_78 (tX0_bestDropper l D cI cW xv xq qa T3 xn S (nI kd) (nI v) n hS (by omega) ⟨kd, by omega, rfl⟩ ⟨v, by omega, rfl⟩ (by omega)) ⟨Nat.le_of_ble_eq_true rfl, Nat.le_of_ble_eq_true rfl⟩ ⟨Nat.zero_le _, Nat.zero_le _⟩ [2, 3, 1] rfl ⟨rfl, rfl⟩ rfl rfl 2 0 rfl rfl rfl rfl (Nat.le_of_ble_eq_true rfl) (fun _ => (ff_cons (al_fst _ _ _ _ _) (ff_cons (wl_fst _ _ _ _) (ff_cons (wl_fst _ _ _ _) (ff_nil))))) (f8 := fun T9_78 : WS => [xl xx xn xt xk xe xo xv xc xr cI Z, wl xn cI S, al xv xq cI qa, wl xq cI T9_78]) (fun _ => rfl) (fun T9_78 => ?_)
  obtain ⟨p, hp, ep⟩ := drop_who S (nI kd) (nI v) n hp0 (by omega)
  refine G.top (b := nI p) (by rw [ep]) ?_
  refine G.is X dX6_drop_81 (by decide) (lv' := [(5, .int (nI p)), (0, .ref (xx 0)), (1, .int (nI kd)), (2, .int (nI v)), (3, .int (nI n)), (4, .int 1)]) rfl ?_
  refine G.il X dX6_drop_83 5 rfl ?_
  refine G.z_eq X (a := 1) dX6_drop_85 (fun b85 => absurd b85 (by decide)) (fun b85 => ?_)
  refine G.il X dX6_drop_88 0 rfl ?_
  refine G.pu X dX6_drop_90 ?_
  refine G.c_ne X (a := nI p) (b := (-9)) dX6_drop_92 (fun b92 => ?_) (fun b92 => absurd b92 ((nI_ne9 (by omega))))
  refine G.al X dX6_drop_100 1 rfl ?_
  refine G.get X fX6_43 dX6_drop_101 0 0 rfl rfl rfl ?_
  refine G.al X dX6_drop_104 1 rfl ?_
  refine G.get X fX6_10 dX6_drop_105 0 0 rfl rfl rfl ?_
  refine G.il X dX6_drop_108 2 rfl ?_
  refine G.il X dX6_drop_109 3 rfl ?_
  refine G.il X dX6_drop_110 0 rfl ?_
  refine G.il X dX6_drop_112 4 rfl ?_
  refine G.cvi X kX0_waterWithOneMore lX6_218 dX6_drop_113 (tX0_waterWithOneMore l D cI cW xv xq qa T9_78 xn S (nI kd) (nI v) p n hS (by omega) (by omega) ⟨kd, by omega, rfl⟩ ⟨v, by omega, rfl⟩ (by omega)) ⟨Nat.le_of_ble_eq_true rfl, Nat.le_of_ble_eq_true rfl⟩ ⟨Nat.zero_le _, Nat.zero_le _⟩ [2, 3, 1] rfl ⟨rfl, rfl⟩ rfl rfl 2 0 rfl rfl rfl rfl (Nat.le_of_ble_eq_true rfl) (ff_cons (al_fst _ _ _ _ _) (ff_cons (wl_fst _ _ _ _) (ff_cons (wl_fst _ _ _ _) (ff_nil)))) (ws' := [xl xx xn xt xk xe xo xv xc xr cI Z, wl xn cI S, al xv xq cI qa, wl xq cI (w_dayN (w_add S (nI kd) (nI v) (nI p)) n)]) rfl ?_
  exact G.iret X Rr (v := nI (w_wet (w_add S (nI kd) (nI v) (nI p)) n)) dX6_drop_116 (pie_mk (w_dayN (w_add S (nI kd) (nI v) (nI p)) n) (by rw [ep]) (by rfl))

set_option maxRecDepth 20000 in
theorem tX6_two_bad (l : Launch) (D : va_G) (cI cW : ClassId) (xx : Nat → Nat) (xn : Nat → Nat) (xt : Nat → Nat) (xk : Nat → Nat) (xe : Nat → Nat) (xo : Nat → Nat) (xv : Nat → Nat) (xc : Nat → Nat) (xr : Nat → Nat) (Z : Bool × FN) (S : WS) (i : Int32) (j : Int32) (n : Int32) (hS : Ok S) (hb : z_in i (s_pe S) = false ∨ z_in j (s_pe S) = false ∨ i = j) : CT l D cI cW yX6_two cX6_two 5 (some .int) ⟨1, 0, 0, 22⟩ [.ref (xx 0), .int i, .int j, .int n] ([xl xx xn xt xk xe xo xv xc xr cI Z, wl xn cI S]) (PI (-1) ([xl xx xn xt xk xe xo xv xc xr cI (x_rf Z 1), wl xn cI S])) := by
  refine CT.of RX6 rfl (by decide +kernel) (Nat.le_of_ble_eq_true rfl) [(0, .ref (xx 0)), (1, .int i), (2, .int j), (3, .int n)] rfl (fun x X Rr hnm => ?_)
  have hth := hS.th
  have hpe := hS.pe
  refine G.al X dX6_two_0 0 rfl ?_
  refine G.get X fX6_10 dX6_two_1 0 0 rfl rfl rfl ?_
  refine G.il X dX6_two_4 1 rfl ?_
  refine G.cvi X kX5_isPerson lX6_92 dX6_two_5 (tX5_isPerson l D cI cW xn S i (by omega)) ⟨Nat.le_of_ble_eq_true rfl, Nat.le_of_ble_eq_true rfl⟩ ⟨Nat.zero_le _, Nat.zero_le _⟩ [1] rfl ⟨rfl, rfl⟩ rfl rfl 1 0 rfl rfl rfl rfl (Nat.le_of_ble_eq_true rfl) (ff_cons (wl_fst _ _ _ _) (ff_nil)) (ws' := [xl xx xn xt xk xe xo xv xc xr cI Z, wl xn cI S]) rfl ?_
  refine G.b_eq X dX6_two_8 (fun b8 => ?_) (fun b8 => ?_)
  · refine G.al X dX6_two_27 0 rfl ?_
    refine G.pu X dX6_two_28 ?_
    refine G.cvi X kX6_refuse lX6_65 dX6_two_29 (tX6_refuse l D cI cW xx xn xt xk xe xo xv xc xr Z 1 (by omega) (by omega)) ⟨Nat.le_of_ble_eq_true rfl, Nat.le_of_ble_eq_true rfl⟩ ⟨Nat.zero_le _, Nat.zero_le _⟩ [0] rfl ⟨rfl, rfl⟩ rfl rfl 0 0 rfl rfl rfl rfl (Nat.le_of_ble_eq_true rfl) (ff_cons (xl_fst _ _ _ _ _ _ _ _ _ _ _ _) (ff_nil)) (ws' := [xl xx xn xt xk xe xo xv xc xr cI (x_rf Z 1), wl xn cI S]) rfl ?_
    exact G.iret X Rr (v := (-(nI 1))) dX6_two_32 (pi_mk (by rfl) (by rfl))
  · refine G.al X dX6_two_11 0 rfl ?_
    refine G.get X fX6_10 dX6_two_12 0 0 rfl rfl rfl ?_
    refine G.il X dX6_two_15 2 rfl ?_
    refine G.cvi X kX5_isPerson lX6_92 dX6_two_16 (tX5_isPerson l D cI cW xn S j (by omega)) ⟨Nat.le_of_ble_eq_true rfl, Nat.le_of_ble_eq_true rfl⟩ ⟨Nat.zero_le _, Nat.zero_le _⟩ [1] rfl ⟨rfl, rfl⟩ rfl rfl 1 0 rfl rfl rfl rfl (Nat.le_of_ble_eq_true rfl) (ff_cons (wl_fst _ _ _ _) (ff_nil)) (ws' := [xl xx xn xt xk xe xo xv xc xr cI Z, wl xn cI S]) rfl ?_
    refine G.b_eq X dX6_two_19 (fun b19 => ?_) (fun b19 => ?_)
    · refine G.al X dX6_two_27 0 rfl ?_
      refine G.pu X dX6_two_28 ?_
      refine G.cvi X kX6_refuse lX6_65 dX6_two_29 (tX6_refuse l D cI cW xx xn xt xk xe xo xv xc xr Z 1 (by omega) (by omega)) ⟨Nat.le_of_ble_eq_true rfl, Nat.le_of_ble_eq_true rfl⟩ ⟨Nat.zero_le _, Nat.zero_le _⟩ [0] rfl ⟨rfl, rfl⟩ rfl rfl 0 0 rfl rfl rfl rfl (Nat.le_of_ble_eq_true rfl) (ff_cons (xl_fst _ _ _ _ _ _ _ _ _ _ _ _) (ff_nil)) (ws' := [xl xx xn xt xk xe xo xv xc xr cI (x_rf Z 1), wl xn cI S]) rfl ?_
      exact G.iret X Rr (v := (-(nI 1))) dX6_two_32 (pi_mk (by rfl) (by rfl))
    · refine G.il X dX6_two_22 1 rfl ?_
      refine G.il X dX6_two_23 2 rfl ?_
      refine G.c_ne X (a := i) (b := j) dX6_two_24 (fun b24 => absurd (((hb.resolve_left (by rw [b8]; decide)).resolve_left (by rw [b19]; decide))) b24) (fun b24 => ?_)
      refine G.al X dX6_two_27 0 rfl ?_
      refine G.pu X dX6_two_28 ?_
      refine G.cvi X kX6_refuse lX6_65 dX6_two_29 (tX6_refuse l D cI cW xx xn xt xk xe xo xv xc xr Z 1 (by omega) (by omega)) ⟨Nat.le_of_ble_eq_true rfl, Nat.le_of_ble_eq_true rfl⟩ ⟨Nat.zero_le _, Nat.zero_le _⟩ [0] rfl ⟨rfl, rfl⟩ rfl rfl 0 0 rfl rfl rfl rfl (Nat.le_of_ble_eq_true rfl) (ff_cons (xl_fst _ _ _ _ _ _ _ _ _ _ _ _) (ff_nil)) (ws' := [xl xx xn xt xk xe xo xv xc xr cI (x_rf Z 1), wl xn cI S]) rfl ?_
      exact G.iret X Rr (v := (-(nI 1))) dX6_two_32 (pi_mk (by rfl) (by rfl))

set_option maxRecDepth 20000 in
theorem tX6_two_lo (l : Launch) (D : va_G) (cI cW : ClassId) (xx : Nat → Nat) (xn : Nat → Nat) (xt : Nat → Nat) (xk : Nat → Nat) (xe : Nat → Nat) (xo : Nat → Nat) (xv : Nat → Nat) (xc : Nat → Nat) (xr : Nat → Nat) (Z : Bool × FN) (S : WS) (i : Nat) (j : Nat) (n : Int32) (hS : Ok S) (hi : i < s_pe S) (hj : j < s_pe S) (hij : ¬ i = j) (h1 : n < 1) : CT l D cI cW yX6_two cX6_two 5 (some .int) ⟨1, 0, 0, 22⟩ [.ref (xx 0), .int (nI i), .int (nI j), .int n] ([xl xx xn xt xk xe xo xv xc xr cI Z, wl xn cI S]) (PI (-4) ([xl xx xn xt xk xe xo xv xc xr cI (x_rf Z 4), wl xn cI S])) := by
  refine CT.of RX6 rfl (by decide +kernel) (Nat.le_of_ble_eq_true rfl) [(0, .ref (xx 0)), (1, .int (nI i)), (2, .int (nI j)), (3, .int n)] rfl (fun x X Rr hnm => ?_)
  have hth := hS.th
  have hpe := hS.pe
  refine G.al X dX6_two_0 0 rfl ?_
  refine G.get X fX6_10 dX6_two_1 0 0 rfl rfl rfl ?_
  refine G.il X dX6_two_4 1 rfl ?_
  refine G.cvi X kX5_isPerson lX6_92 dX6_two_5 (tX5_isPerson l D cI cW xn S (nI i) (by omega)) ⟨Nat.le_of_ble_eq_true rfl, Nat.le_of_ble_eq_true rfl⟩ ⟨Nat.zero_le _, Nat.zero_le _⟩ [1] rfl ⟨rfl, rfl⟩ rfl rfl 1 0 rfl rfl rfl rfl (Nat.le_of_ble_eq_true rfl) (ff_cons (wl_fst _ _ _ _) (ff_nil)) (ws' := [xl xx xn xt xk xe xo xv xc xr cI Z, wl xn cI S]) rfl ?_
  refine G.b_eq X dX6_two_8 (fun b8 => absurd (Eq.trans (Eq.symm (z_in_nI hi (by omega))) b8) (by decide)) (fun b8 => ?_)
  refine G.al X dX6_two_11 0 rfl ?_
  refine G.get X fX6_10 dX6_two_12 0 0 rfl rfl rfl ?_
  refine G.il X dX6_two_15 2 rfl ?_
  refine G.cvi X kX5_isPerson lX6_92 dX6_two_16 (tX5_isPerson l D cI cW xn S (nI j) (by omega)) ⟨Nat.le_of_ble_eq_true rfl, Nat.le_of_ble_eq_true rfl⟩ ⟨Nat.zero_le _, Nat.zero_le _⟩ [1] rfl ⟨rfl, rfl⟩ rfl rfl 1 0 rfl rfl rfl rfl (Nat.le_of_ble_eq_true rfl) (ff_cons (wl_fst _ _ _ _) (ff_nil)) (ws' := [xl xx xn xt xk xe xo xv xc xr cI Z, wl xn cI S]) rfl ?_
  refine G.b_eq X dX6_two_19 (fun b19 => absurd (Eq.trans (Eq.symm (z_in_nI hj (by omega))) b19) (by decide)) (fun b19 => ?_)
  refine G.il X dX6_two_22 1 rfl ?_
  refine G.il X dX6_two_23 2 rfl ?_
  refine G.n_ne X (a := i) (b := j) (by omega) (by omega) dX6_two_24 (fun b24 => ?_) (fun b24 => absurd b24 (by omega))
  refine G.il X dX6_two_33 3 rfl ?_
  refine G.pu X dX6_two_34 ?_
  refine G.pu X dX6_two_35 ?_
  refine G.csti X kX6_outside lX6_138 dX6_two_37 (tX6_outside_lo l D cI cW n 1 40 h1) ⟨Nat.le_of_ble_eq_true rfl, Nat.le_of_ble_eq_true rfl⟩ ⟨Nat.zero_le _, Nat.zero_le _⟩ [] rfl ⟨rfl, rfl⟩ rfl rfl rfl (Nat.le_of_ble_eq_true rfl) (ff_nil) (ws' := [xl xx xn xt xk xe xo xv xc xr cI Z, wl xn cI S]) rfl ?_
  refine G.is X dX6_two_40 (by decide) (lv' := [(4, .int (-4)), (0, .ref (xx 0)), (1, .int (nI i)), (2, .int (nI j)), (3, .int n)]) rfl ?_
  refine G.il X dX6_two_42 0 rfl ?_
  refine G.z_eq X (a := (-4)) dX6_two_44 (fun b44 => absurd b44 (by decide)) (fun b44 => ?_)
  refine G.al X dX6_two_47 1 rfl ?_
  refine G.il X dX6_two_48 0 rfl ?_
  refine G.cvi X kX6_refuse lX6_65 dX6_two_50 (tX6_refuse l D cI cW xx xn xt xk xe xo xv xc xr Z 4 (by omega) (by omega)) ⟨Nat.le_of_ble_eq_true rfl, Nat.le_of_ble_eq_true rfl⟩ ⟨Nat.zero_le _, Nat.zero_le _⟩ [0] rfl ⟨rfl, rfl⟩ rfl rfl 0 0 rfl rfl rfl rfl (Nat.le_of_ble_eq_true rfl) (ff_cons (xl_fst _ _ _ _ _ _ _ _ _ _ _ _) (ff_nil)) (ws' := [xl xx xn xt xk xe xo xv xc xr cI (x_rf Z 4), wl xn cI S]) rfl ?_
  refine G.go X dX6_two_53 ?_
  exact G.iret X Rr (v := (-(nI 4))) dX6_two_70 (pi_mk (by rfl) (by rfl))

set_option maxRecDepth 20000 in
theorem tX6_two_hi (l : Launch) (D : va_G) (cI cW : ClassId) (xx : Nat → Nat) (xn : Nat → Nat) (xt : Nat → Nat) (xk : Nat → Nat) (xe : Nat → Nat) (xo : Nat → Nat) (xv : Nat → Nat) (xc : Nat → Nat) (xr : Nat → Nat) (Z : Bool × FN) (S : WS) (i : Nat) (j : Nat) (n : Int32) (hS : Ok S) (hi : i < s_pe S) (hj : j < s_pe S) (hij : ¬ i = j) (h1 : ¬ n < 1) (h2 : 40 < n) : CT l D cI cW yX6_two cX6_two 5 (some .int) ⟨1, 0, 0, 22⟩ [.ref (xx 0), .int (nI i), .int (nI j), .int n] ([xl xx xn xt xk xe xo xv xc xr cI Z, wl xn cI S]) (PI (-6) ([xl xx xn xt xk xe xo xv xc xr cI (x_rf Z 6), wl xn cI S])) := by
  refine CT.of RX6 rfl (by decide +kernel) (Nat.le_of_ble_eq_true rfl) [(0, .ref (xx 0)), (1, .int (nI i)), (2, .int (nI j)), (3, .int n)] rfl (fun x X Rr hnm => ?_)
  have hth := hS.th
  have hpe := hS.pe
  refine G.al X dX6_two_0 0 rfl ?_
  refine G.get X fX6_10 dX6_two_1 0 0 rfl rfl rfl ?_
  refine G.il X dX6_two_4 1 rfl ?_
  refine G.cvi X kX5_isPerson lX6_92 dX6_two_5 (tX5_isPerson l D cI cW xn S (nI i) (by omega)) ⟨Nat.le_of_ble_eq_true rfl, Nat.le_of_ble_eq_true rfl⟩ ⟨Nat.zero_le _, Nat.zero_le _⟩ [1] rfl ⟨rfl, rfl⟩ rfl rfl 1 0 rfl rfl rfl rfl (Nat.le_of_ble_eq_true rfl) (ff_cons (wl_fst _ _ _ _) (ff_nil)) (ws' := [xl xx xn xt xk xe xo xv xc xr cI Z, wl xn cI S]) rfl ?_
  refine G.b_eq X dX6_two_8 (fun b8 => absurd (Eq.trans (Eq.symm (z_in_nI hi (by omega))) b8) (by decide)) (fun b8 => ?_)
  refine G.al X dX6_two_11 0 rfl ?_
  refine G.get X fX6_10 dX6_two_12 0 0 rfl rfl rfl ?_
  refine G.il X dX6_two_15 2 rfl ?_
  refine G.cvi X kX5_isPerson lX6_92 dX6_two_16 (tX5_isPerson l D cI cW xn S (nI j) (by omega)) ⟨Nat.le_of_ble_eq_true rfl, Nat.le_of_ble_eq_true rfl⟩ ⟨Nat.zero_le _, Nat.zero_le _⟩ [1] rfl ⟨rfl, rfl⟩ rfl rfl 1 0 rfl rfl rfl rfl (Nat.le_of_ble_eq_true rfl) (ff_cons (wl_fst _ _ _ _) (ff_nil)) (ws' := [xl xx xn xt xk xe xo xv xc xr cI Z, wl xn cI S]) rfl ?_
  refine G.b_eq X dX6_two_19 (fun b19 => absurd (Eq.trans (Eq.symm (z_in_nI hj (by omega))) b19) (by decide)) (fun b19 => ?_)
  refine G.il X dX6_two_22 1 rfl ?_
  refine G.il X dX6_two_23 2 rfl ?_
  refine G.n_ne X (a := i) (b := j) (by omega) (by omega) dX6_two_24 (fun b24 => ?_) (fun b24 => absurd b24 (by omega))
  refine G.il X dX6_two_33 3 rfl ?_
  refine G.pu X dX6_two_34 ?_
  refine G.pu X dX6_two_35 ?_
  refine G.csti X kX6_outside lX6_138 dX6_two_37 (tX6_outside_hi l D cI cW n 1 40 h1 h2) ⟨Nat.le_of_ble_eq_true rfl, Nat.le_of_ble_eq_true rfl⟩ ⟨Nat.zero_le _, Nat.zero_le _⟩ [] rfl ⟨rfl, rfl⟩ rfl rfl rfl (Nat.le_of_ble_eq_true rfl) (ff_nil) (ws' := [xl xx xn xt xk xe xo xv xc xr cI Z, wl xn cI S]) rfl ?_
  refine G.is X dX6_two_40 (by decide) (lv' := [(4, .int (-6)), (0, .ref (xx 0)), (1, .int (nI i)), (2, .int (nI j)), (3, .int n)]) rfl ?_
  refine G.il X dX6_two_42 0 rfl ?_
  refine G.z_eq X (a := (-6)) dX6_two_44 (fun b44 => absurd b44 (by decide)) (fun b44 => ?_)
  refine G.al X dX6_two_47 1 rfl ?_
  refine G.il X dX6_two_48 0 rfl ?_
  refine G.cvi X kX6_refuse lX6_65 dX6_two_50 (tX6_refuse l D cI cW xx xn xt xk xe xo xv xc xr Z 6 (by omega) (by omega)) ⟨Nat.le_of_ble_eq_true rfl, Nat.le_of_ble_eq_true rfl⟩ ⟨Nat.zero_le _, Nat.zero_le _⟩ [0] rfl ⟨rfl, rfl⟩ rfl rfl 0 0 rfl rfl rfl rfl (Nat.le_of_ble_eq_true rfl) (ff_cons (xl_fst _ _ _ _ _ _ _ _ _ _ _ _) (ff_nil)) (ws' := [xl xx xn xt xk xe xo xv xc xr cI (x_rf Z 6), wl xn cI S]) rfl ?_
  refine G.go X dX6_two_53 ?_
  exact G.iret X Rr (v := (-(nI 6))) dX6_two_70 (pi_mk (by rfl) (by rfl))

set_option maxRecDepth 20000 in
theorem tX6_two_ok (l : Launch) (D : va_G) (cI cW : ClassId) (xx : Nat → Nat) (xn : Nat → Nat) (xt : Nat → Nat) (xk : Nat → Nat) (xe : Nat → Nat) (xo : Nat → Nat) (xv : Nat → Nat) (xc : Nat → Nat) (xr : Nat → Nat) (Z : Bool × FN) (S : WS) (xq : Nat → Nat) (qa : FN × FN) (T3 : WS) (i : Nat) (j : Nat) (n : Nat) (hS : Ok S) (hi : i < s_pe S) (hj : j < s_pe S) (hij : ¬ i = j) (h1 : 1 ≤ n) (h2 : n ≤ 40) : CT l D cI cW yX6_two cX6_two 5 (some .int) ⟨6, 0, 0, 143⟩ [.ref (xx 0), .int (nI i), .int (nI j), .int (nI n)] ([xl xx xn xt xk xe xo xv xc xr cI Z, wl xn cI S, al xv xq cI qa, wl xq cI T3]) (PIE (w_two S i j n) (fun T9 : WS => [xl xx xn xt xk xe xo xv xc xr cI Z, wl xn cI S, al xv xq cI (w_ga S i j n, w_gb S i j n), wl xq cI T9])) := by
  refine CT.of RX6 rfl (by decide +kernel) (Nat.le_of_ble_eq_true rfl) [(0, .ref (xx 0)), (1, .int (nI i)), (2, .int (nI j)), (3, .int (nI n))] rfl (fun x X Rr hnm => ?_)
  have hth := hS.th
  have hpe := hS.pe
  refine G.al X dX6_two_0 0 rfl ?_
  refine G.get X fX6_10 dX6_two_1 0 0 rfl rfl rfl ?_
  refine G.il X dX6_two_4 1 rfl ?_
  refine G.cvi X kX5_isPerson lX6_92 dX6_two_5 (tX5_isPerson l D cI cW xn S (nI i) (by omega)) ⟨Nat.le_of_ble_eq_true rfl, Nat.le_of_ble_eq_true rfl⟩ ⟨Nat.zero_le _, Nat.zero_le _⟩ [1] rfl ⟨rfl, rfl⟩ rfl rfl 1 0 rfl rfl rfl rfl (Nat.le_of_ble_eq_true rfl) (ff_cons (wl_fst _ _ _ _) (ff_nil)) (ws' := [xl xx xn xt xk xe xo xv xc xr cI Z, wl xn cI S, al xv xq cI qa, wl xq cI T3]) rfl ?_
  refine G.b_eq X dX6_two_8 (fun b8 => absurd (Eq.trans (Eq.symm (z_in_nI hi (by omega))) b8) (by decide)) (fun b8 => ?_)
  refine G.al X dX6_two_11 0 rfl ?_
  refine G.get X fX6_10 dX6_two_12 0 0 rfl rfl rfl ?_
  refine G.il X dX6_two_15 2 rfl ?_
  refine G.cvi X kX5_isPerson lX6_92 dX6_two_16 (tX5_isPerson l D cI cW xn S (nI j) (by omega)) ⟨Nat.le_of_ble_eq_true rfl, Nat.le_of_ble_eq_true rfl⟩ ⟨Nat.zero_le _, Nat.zero_le _⟩ [1] rfl ⟨rfl, rfl⟩ rfl rfl 1 0 rfl rfl rfl rfl (Nat.le_of_ble_eq_true rfl) (ff_cons (wl_fst _ _ _ _) (ff_nil)) (ws' := [xl xx xn xt xk xe xo xv xc xr cI Z, wl xn cI S, al xv xq cI qa, wl xq cI T3]) rfl ?_
  refine G.b_eq X dX6_two_19 (fun b19 => absurd (Eq.trans (Eq.symm (z_in_nI hj (by omega))) b19) (by decide)) (fun b19 => ?_)
  refine G.il X dX6_two_22 1 rfl ?_
  refine G.il X dX6_two_23 2 rfl ?_
  refine G.n_ne X (a := i) (b := j) (by omega) (by omega) dX6_two_24 (fun b24 => ?_) (fun b24 => absurd b24 (by omega))
  refine G.il X dX6_two_33 3 rfl ?_
  refine G.pu X dX6_two_34 ?_
  refine G.pu X dX6_two_35 ?_
  refine G.csti X kX6_outside lX6_138 dX6_two_37 (tX6_outside_ok l D cI cW n 1 40 (by omega) (by omega) (by omega)) ⟨Nat.le_of_ble_eq_true rfl, Nat.le_of_ble_eq_true rfl⟩ ⟨Nat.zero_le _, Nat.zero_le _⟩ [] rfl ⟨rfl, rfl⟩ rfl rfl rfl (Nat.le_of_ble_eq_true rfl) (ff_nil) (ws' := [xl xx xn xt xk xe xo xv xc xr cI Z, wl xn cI S, al xv xq cI qa, wl xq cI T3]) rfl ?_
  refine G.is X dX6_two_40 (by decide) (lv' := [(4, .int 0), (0, .ref (xx 0)), (1, .int (nI i)), (2, .int (nI j)), (3, .int (nI n))]) rfl ?_
  refine G.il X dX6_two_42 0 rfl ?_
  refine G.z_eq X (a := 0) dX6_two_44 (fun b44 => ?_) (fun b44 => absurd b44 (by decide))
  refine G.al X dX6_two_56 1 rfl ?_
  refine G.get X fX6_43 dX6_two_57 0 0 rfl rfl rfl ?_
  refine G.al X dX6_two_60 1 rfl ?_
  refine G.get X fX6_10 dX6_two_61 0 0 rfl rfl rfl ?_
  refine G.il X dX6_two_64 2 rfl ?_
  refine G.il X dX6_two_65 3 rfl ?_
  refine G.il X dX6_two_66 4 rfl ?_
  refine G.cvie X kX0_steadyPair lX6_241 dX6_two_67 (tX0_steadyPair l D cI cW xv xq qa T3 xn S i j n hS (by omega) (by omega) (by omega)) ⟨Nat.le_of_ble_eq_true rfl, Nat.le_of_ble_eq_true rfl⟩ ⟨Nat.zero_le _, Nat.zero_le _⟩ [2, 3, 1] rfl ⟨rfl, rfl⟩ rfl rfl 2 0 rfl rfl rfl rfl (Nat.le_of_ble_eq_true rfl) (fun _ => (ff_cons (al_fst _ _ _ _ _) (ff_cons (wl_fst _ _ _ _) (ff_cons (wl_fst _ _ _ _) (ff_nil))))) (f8 := fun T9_67 : WS => [xl xx xn xt xk xe xo xv xc xr cI Z, wl xn cI S, al xv xq cI (w_ga S i j n, w_gb S i j n), wl xq cI T9_67]) (fun _ => rfl) (fun T9_67 => ?_)
  exact G.iret X Rr (v := (w_two S i j n)) dX6_two_70 (pie_mk (T9_67) (by rfl) (by rfl))

set_option maxRecDepth 20000 in
theorem tX6_row_lo (l : Launch) (D : va_G) (cI cW : ClassId) (xx : Nat → Nat) (xn : Nat → Nat) (xt : Nat → Nat) (xk : Nat → Nat) (xe : Nat → Nat) (xo : Nat → Nat) (xv : Nat → Nat) (xc : Nat → Nat) (xr : Nat → Nat) (Z : Bool × FN) (v : Int32) (h1 : v < 0) : CT l D cI cW yX6_row cX6_row 2 (some .int) ⟨1, 0, 0, 22⟩ [.ref (xx 0), .int v] ([xl xx xn xt xk xe xo xv xc xr cI Z]) (PI (-4) ([xl xx xn xt xk xe xo xv xc xr cI (x_rf Z 4)])) := by
  refine CT.of RX6 rfl (by decide +kernel) (Nat.le_of_ble_eq_true rfl) [(0, .ref (xx 0)), (1, .int v)] rfl (fun x X Rr hnm => ?_)
  refine G.il X dX6_row_0 1 rfl ?_
  refine G.z_ge X (a := v) dX6_row_1 (fun b1 => absurd (h1) b1) (fun b1 => ?_)
  refine G.al X dX6_row_4 0 rfl ?_
  refine G.pu X dX6_row_5 ?_
  refine G.cvi X kX6_refuse lX6_65 dX6_row_7 (tX6_refuse l D cI cW xx xn xt xk xe xo xv xc xr Z 4 (by omega) (by omega)) ⟨Nat.le_of_ble_eq_true rfl, Nat.le_of_ble_eq_true rfl⟩ ⟨Nat.zero_le _, Nat.zero_le _⟩ [0] rfl ⟨rfl, rfl⟩ rfl rfl 0 0 rfl rfl rfl rfl (Nat.le_of_ble_eq_true rfl) (ff_cons (xl_fst _ _ _ _ _ _ _ _ _ _ _ _) (ff_nil)) (ws' := [xl xx xn xt xk xe xo xv xc xr cI (x_rf Z 4)]) rfl ?_
  exact G.iret X Rr (v := (-(nI 4))) dX6_row_10 (pi_mk (by rfl) (by rfl))

set_option maxRecDepth 20000 in
theorem tX6_row_hi (l : Launch) (D : va_G) (cI cW : ClassId) (xx : Nat → Nat) (xn : Nat → Nat) (xt : Nat → Nat) (xk : Nat → Nat) (xe : Nat → Nat) (xo : Nat → Nat) (xv : Nat → Nat) (xc : Nat → Nat) (xr : Nat → Nat) (Z : Bool × FN) (v : Int32) (h1 : ¬ v < 0) (h2 : 99 < v) : CT l D cI cW yX6_row cX6_row 2 (some .int) ⟨1, 0, 0, 22⟩ [.ref (xx 0), .int v] ([xl xx xn xt xk xe xo xv xc xr cI Z]) (PI (-6) ([xl xx xn xt xk xe xo xv xc xr cI (x_rf Z 6)])) := by
  refine CT.of RX6 rfl (by decide +kernel) (Nat.le_of_ble_eq_true rfl) [(0, .ref (xx 0)), (1, .int v)] rfl (fun x X Rr hnm => ?_)
  refine G.il X dX6_row_0 1 rfl ?_
  refine G.z_ge X (a := v) dX6_row_1 (fun b1 => ?_) (fun b1 => absurd b1 (h1))
  refine G.il X dX6_row_11 1 rfl ?_
  refine G.pu X dX6_row_12 ?_
  refine G.c_gt X (a := v) (b := 99) dX6_row_14 (fun b14 => ?_) (fun b14 => absurd (h2) b14)
  refine G.al X dX6_row_28 0 rfl ?_
  refine G.pu X dX6_row_29 ?_
  refine G.cvi X kX6_refuse lX6_65 dX6_row_31 (tX6_refuse l D cI cW xx xn xt xk xe xo xv xc xr Z 6 (by omega) (by omega)) ⟨Nat.le_of_ble_eq_true rfl, Nat.le_of_ble_eq_true rfl⟩ ⟨Nat.zero_le _, Nat.zero_le _⟩ [0] rfl ⟨rfl, rfl⟩ rfl rfl 0 0 rfl rfl rfl rfl (Nat.le_of_ble_eq_true rfl) (ff_cons (xl_fst _ _ _ _ _ _ _ _ _ _ _ _) (ff_nil)) (ws' := [xl xx xn xt xk xe xo xv xc xr cI (x_rf Z 6)]) rfl ?_
  exact G.iret X Rr (v := (-(nI 6))) dX6_row_34 (pi_mk (by rfl) (by rfl))

set_option maxRecDepth 20000 in
theorem tX6_row_full (l : Launch) (D : va_G) (cI cW : ClassId) (xx : Nat → Nat) (xn : Nat → Nat) (xt : Nat → Nat) (xk : Nat → Nat) (xe : Nat → Nat) (xo : Nat → Nat) (xv : Nat → Nat) (xc : Nat → Nat) (xr : Nat → Nat) (Z : Bool × FN) (xu : Nat → Nat) (qr : FN × Nat) (v : Int32) (h1 : ¬ v < 0) (h2 : ¬ 99 < v) (hq : q_n qr = 16) : CT l D cI cW yX6_row cX6_row 2 (some .int) ⟨1, 0, 0, 22⟩ [.ref (xx 0), .int v] ([xl xx xn xt xk xe xo xv xc xr cI Z, rl xr xu cI qr]) (PI (-6) ([xl xx xn xt xk xe xo xv xc xr cI (x_rf Z 6), rl xr xu cI qr])) := by
  refine CT.of RX6 rfl (by decide +kernel) (Nat.le_of_ble_eq_true rfl) [(0, .ref (xx 0)), (1, .int v)] rfl (fun x X Rr hnm => ?_)
  refine G.il X dX6_row_0 1 rfl ?_
  refine G.z_ge X (a := v) dX6_row_1 (fun b1 => ?_) (fun b1 => absurd b1 (h1))
  refine G.il X dX6_row_11 1 rfl ?_
  refine G.pu X dX6_row_12 ?_
  refine G.c_gt X (a := v) (b := 99) dX6_row_14 (fun b14 => absurd b14 (h2)) (fun b14 => ?_)
  refine G.al X dX6_row_17 0 rfl ?_
  refine G.get X fX6_57 dX6_row_18 0 0 rfl rfl rfl ?_
  refine G.il X dX6_row_21 1 rfl ?_
  refine G.cvi X kX4_take lX6_274 dX6_row_22 (tX4_take_bad l D cI cW xr xu qr v (by omega)) ⟨Nat.le_of_ble_eq_true rfl, Nat.le_of_ble_eq_true rfl⟩ ⟨Nat.zero_le _, Nat.zero_le _⟩ [1] rfl ⟨rfl, rfl⟩ rfl rfl 1 0 rfl rfl rfl rfl (Nat.le_of_ble_eq_true rfl) (ff_cons (rl_fst _ _ _ _ _) (ff_nil)) (ws' := [xl xx xn xt xk xe xo xv xc xr cI Z, rl xr xu cI qr]) rfl ?_
  refine G.b_ne X dX6_row_25 (fun b25 => absurd b25 (by decide)) (fun b25 => ?_)
  refine G.al X dX6_row_28 0 rfl ?_
  refine G.pu X dX6_row_29 ?_
  refine G.cvi X kX6_refuse lX6_65 dX6_row_31 (tX6_refuse l D cI cW xx xn xt xk xe xo xv xc xr Z 6 (by omega) (by omega)) ⟨Nat.le_of_ble_eq_true rfl, Nat.le_of_ble_eq_true rfl⟩ ⟨Nat.zero_le _, Nat.zero_le _⟩ [0] rfl ⟨rfl, rfl⟩ rfl rfl 0 0 rfl rfl rfl rfl (Nat.le_of_ble_eq_true rfl) (ff_cons (xl_fst _ _ _ _ _ _ _ _ _ _ _ _) (ff_nil)) (ws' := [xl xx xn xt xk xe xo xv xc xr cI (x_rf Z 6), rl xr xu cI qr]) rfl ?_
  exact G.iret X Rr (v := (-(nI 6))) dX6_row_34 (pi_mk (by rfl) (by rfl))

set_option maxRecDepth 20000 in
theorem tX6_row_ok (l : Launch) (D : va_G) (cI cW : ClassId) (xx : Nat → Nat) (xn : Nat → Nat) (xt : Nat → Nat) (xk : Nat → Nat) (xe : Nat → Nat) (xo : Nat → Nat) (xv : Nat → Nat) (xc : Nat → Nat) (xr : Nat → Nat) (Z : Bool × FN) (xu : Nat → Nat) (qr : FN × Nat) (v : Int32) (h1 : ¬ v < 0) (h2 : ¬ 99 < v) (hq : q_n qr < 16) : CT l D cI cW yX6_row cX6_row 2 (some .int) ⟨1, 0, 0, 21⟩ [.ref (xx 0), .int v] ([xl xx xn xt xk xe xo xv xc xr cI Z, rl xr xu cI qr]) (PI (nI (q_n qr + 1)) ([xl xx xn xt xk xe xo xv xc xr cI Z, rl xr xu cI (upd (q_f qr) (q_n qr) v, q_n qr + 1)])) := by
  refine CT.of RX6 rfl (by decide +kernel) (Nat.le_of_ble_eq_true rfl) [(0, .ref (xx 0)), (1, .int v)] rfl (fun x X Rr hnm => ?_)
  refine G.il X dX6_row_0 1 rfl ?_
  refine G.z_ge X (a := v) dX6_row_1 (fun b1 => ?_) (fun b1 => absurd b1 (h1))
  refine G.il X dX6_row_11 1 rfl ?_
  refine G.pu X dX6_row_12 ?_
  refine G.c_gt X (a := v) (b := 99) dX6_row_14 (fun b14 => absurd b14 (h2)) (fun b14 => ?_)
  refine G.al X dX6_row_17 0 rfl ?_
  refine G.get X fX6_57 dX6_row_18 0 0 rfl rfl rfl ?_
  refine G.il X dX6_row_21 1 rfl ?_
  refine G.cvi X kX4_take lX6_274 dX6_row_22 (tX4_take l D cI cW xr xu qr v (by omega)) ⟨Nat.le_of_ble_eq_true rfl, Nat.le_of_ble_eq_true rfl⟩ ⟨Nat.zero_le _, Nat.zero_le _⟩ [1] rfl ⟨rfl, rfl⟩ rfl rfl 1 0 rfl rfl rfl rfl (Nat.le_of_ble_eq_true rfl) (ff_cons (rl_fst _ _ _ _ _) (ff_nil)) (ws' := [xl xx xn xt xk xe xo xv xc xr cI Z, rl xr xu cI (upd (q_f qr) (q_n qr) v, q_n qr + 1)]) rfl ?_
  refine G.b_ne X dX6_row_25 (fun b25 => ?_) (fun b25 => absurd b25 (by decide))
  refine G.al X dX6_row_35 0 rfl ?_
  refine G.get X fX6_57 dX6_row_36 0 0 rfl rfl rfl ?_
  refine G.get X fX6_275 dX6_row_39 1 0 rfl rfl rfl ?_
  exact G.iret X Rr (v := nI (q_n (upd (q_f qr) (q_n qr) v, q_n qr + 1))) dX6_row_42 (pi_mk (by rfl) (by rfl))

set_option maxRecDepth 20000 in
theorem tX6_clear (l : Launch) (D : va_G) (cI cW : ClassId) (xx : Nat → Nat) (xn : Nat → Nat) (xt : Nat → Nat) (xk : Nat → Nat) (xe : Nat → Nat) (xo : Nat → Nat) (xv : Nat → Nat) (xc : Nat → Nat) (xr : Nat → Nat) (Z : Bool × FN) (xu : Nat → Nat) (qr : FN × Nat) : CT l D cI cW yX6_clear cX6_clear 2 (some .int) ⟨0, 0, 0, 0⟩ [.ref (xx 0)] ([xl xx xn xt xk xe xo xv xc xr cI Z, rl xr xu cI qr]) (PI (nI (q_n qr)) ([xl xx xn xt xk xe xo xv xc xr cI Z, rl xr xu cI (q_f qr, 0)])) := by
  refine CT.of RX6 rfl (by decide +kernel) (Nat.le_of_ble_eq_true rfl) [(0, .ref (xx 0))] rfl (fun x X Rr hnm => ?_)
  refine G.al X dX6_clear_0 0 rfl ?_
  refine G.get X fX6_57 dX6_clear_1 0 0 rfl rfl rfl ?_
  refine G.get X fX6_275 dX6_clear_4 1 0 rfl rfl rfl ?_
  refine G.is X dX6_clear_7 (by decide) (lv' := [(1, .int (nI (q_n qr))), (0, .ref (xx 0))]) rfl ?_
  refine G.al X dX6_clear_8 1 rfl ?_
  refine G.get X fX6_57 dX6_clear_9 0 0 rfl rfl rfl ?_
  refine G.pu X dX6_clear_12 ?_
  refine G.puti X fX6_275 fe4 dX6_clear_13 rfl rfl 1 0 rfl rfl (Nat.le_of_ble_eq_true rfl) (blk' := rl xr xu cI (q_f qr, 0)) rfl (ws' := [xl xx xn xt xk xe xo xv xc xr cI Z, rl xr xu cI (q_f qr, 0)]) rfl ?_
  refine G.il X dX6_clear_16 0 rfl ?_
  exact G.iret X Rr (v := nI (q_n qr)) dX6_clear_17 (pi_mk (by rfl) (by rfl))

set_option maxRecDepth 20000 in
theorem tX6_judge (l : Launch) (D : va_G) (cI cW : ClassId) (xx : Nat → Nat) (xn : Nat → Nat) (xt : Nat → Nat) (xk : Nat → Nat) (xe : Nat → Nat) (xo : Nat → Nat) (xv : Nat → Nat) (xc : Nat → Nat) (xr : Nat → Nat) (Z : Bool × FN) (S : WS) (xu : Nat → Nat) (qr : FN × Nat) (T5 : WS) (hS : Ok S) (hq : q_n qr ≤ 16) : CT l D cI cW yX6_judge cX6_judge 2 (some .int) ⟨4, 0, 0, 103⟩ [.ref (xx 0)] ([xl xx xn xt xk xe xo xv xc xr cI Z, wl xn cI S, rl xr xu cI qr, wl xu cI T5]) (PIE (o2i (fi (fun d => !decide (bc (askb (w_dayN S d) (s_th (w_dayN S d))) = q_f qr d)) (q_n qr))) (fun T9 : WS => [xl xx xn xt xk xe xo xv xc xr cI Z, wl xn cI S, rl xr xu cI (q_f qr, 0), wl xu cI T9])) := by
  refine CT.of RX6 rfl (by decide +kernel) (Nat.le_of_ble_eq_true rfl) [(0, .ref (xx 0))] rfl (fun x X Rr hnm => ?_)
  have hth := hS.th
  have hpe := hS.pe
  refine G.al X dX6_judge_0 0 rfl ?_
  refine G.get X fX6_57 dX6_judge_1 0 0 rfl rfl rfl ?_
  refine G.al X dX6_judge_4 0 rfl ?_
  refine G.get X fX6_10 dX6_judge_5 0 0 rfl rfl rfl ?_
  refine G.cvie X kX4_firstWrong lX6_276 dX6_judge_8 (tX4_firstWrong l D cI cW xr xu qr T5 xn S hS (by omega)) ⟨Nat.le_of_ble_eq_true rfl, Nat.le_of_ble_eq_true rfl⟩ ⟨Nat.zero_le _, Nat.zero_le _⟩ [2, 3, 1] rfl ⟨rfl, rfl⟩ rfl rfl 2 0 rfl rfl rfl rfl (Nat.le_of_ble_eq_true rfl) (fun _ => (ff_cons (rl_fst _ _ _ _ _) (ff_cons (wl_fst _ _ _ _) (ff_cons (wl_fst _ _ _ _) (ff_nil))))) (f8 := fun T9_8 : WS => [xl xx xn xt xk xe xo xv xc xr cI Z, wl xn cI S, rl xr xu cI qr, wl xu cI T9_8]) (fun _ => rfl) (fun T9_8 => ?_)
  refine G.is X dX6_judge_11 (by decide) (lv' := [(1, .int (o2i (fi (fun d => !decide (bc (askb (w_dayN S d) (s_th (w_dayN S d))) = q_f qr d)) (q_n qr)))), (0, .ref (xx 0))]) rfl ?_
  refine G.al X dX6_judge_12 1 rfl ?_
  refine G.get X fX6_57 dX6_judge_13 0 0 rfl rfl rfl ?_
  refine G.pu X dX6_judge_16 ?_
  refine G.puti X fX6_275 fe4 dX6_judge_17 rfl rfl 2 0 rfl rfl (Nat.le_of_ble_eq_true rfl) (blk' := rl xr xu cI (q_f qr, 0)) rfl (ws' := [xl xx xn xt xk xe xo xv xc xr cI Z, wl xn cI S, rl xr xu cI (q_f qr, 0), wl xu cI T9_8]) rfl ?_
  refine G.il X dX6_judge_20 0 rfl ?_
  exact G.iret X Rr (v := (o2i (fi (fun d => !decide (bc (askb (w_dayN S d) (s_th (w_dayN S d))) = q_f qr d)) (q_n qr)))) dX6_judge_21 (pie_mk (T9_8) (by rfl) (by rfl))

set_option maxRecDepth 20000 in
theorem tX6_whatWas_bad (l : Launch) (D : va_G) (cI cW : ClassId) (xx : Nat → Nat) (xn : Nat → Nat) (xt : Nat → Nat) (xk : Nat → Nat) (xe : Nat → Nat) (xo : Nat → Nat) (xv : Nat → Nat) (xc : Nat → Nat) (xr : Nat → Nat) (Z : Bool × FN) (S : WS) (p : Int32) (w : Int32) (hS : Ok S) (hp : z_in p (s_th S) = false) : CT l D cI cW yX6_whatWas cX6_whatWas 3 (some .int) ⟨1, 0, 0, 22⟩ [.ref (xx 0), .int p, .int w] ([xl xx xn xt xk xe xo xv xc xr cI Z, wl xn cI S]) (PI (-1) ([xl xx xn xt xk xe xo xv xc xr cI (x_rf Z 1), wl xn cI S])) := by
  refine CT.of RX6 rfl (by decide +kernel) (Nat.le_of_ble_eq_true rfl) [(0, .ref (xx 0)), (1, .int p), (2, .int w)] rfl (fun x X Rr hnm => ?_)
  have hth := hS.th
  have hpe := hS.pe
  refine G.al X dX6_whatWas_0 0 rfl ?_
  refine G.get X fX6_10 dX6_whatWas_1 0 0 rfl rfl rfl ?_
  refine G.il X dX6_whatWas_4 1 rfl ?_
  refine G.cvi X kX5_isThing lX6_107 dX6_whatWas_5 (tX5_isThing l D cI cW xn S p (by omega)) ⟨Nat.le_of_ble_eq_true rfl, Nat.le_of_ble_eq_true rfl⟩ ⟨Nat.zero_le _, Nat.zero_le _⟩ [1] rfl ⟨rfl, rfl⟩ rfl rfl 1 0 rfl rfl rfl rfl (Nat.le_of_ble_eq_true rfl) (ff_cons (wl_fst _ _ _ _) (ff_nil)) (ws' := [xl xx xn xt xk xe xo xv xc xr cI Z, wl xn cI S]) rfl ?_
  refine G.b_ne X dX6_whatWas_8 (fun b8 => absurd (Eq.trans (Eq.symm hp) b8) (by decide)) (fun b8 => ?_)
  refine G.al X dX6_whatWas_11 0 rfl ?_
  refine G.pu X dX6_whatWas_12 ?_
  refine G.cvi X kX6_refuse lX6_65 dX6_whatWas_13 (tX6_refuse l D cI cW xx xn xt xk xe xo xv xc xr Z 1 (by omega) (by omega)) ⟨Nat.le_of_ble_eq_true rfl, Nat.le_of_ble_eq_true rfl⟩ ⟨Nat.zero_le _, Nat.zero_le _⟩ [0] rfl ⟨rfl, rfl⟩ rfl rfl 0 0 rfl rfl rfl rfl (Nat.le_of_ble_eq_true rfl) (ff_cons (xl_fst _ _ _ _ _ _ _ _ _ _ _ _) (ff_nil)) (ws' := [xl xx xn xt xk xe xo xv xc xr cI (x_rf Z 1), wl xn cI S]) rfl ?_
  exact G.iret X Rr (v := (-(nI 1))) dX6_whatWas_16 (pi_mk (by rfl) (by rfl))

set_option maxRecDepth 20000 in
theorem tX6_whatWas_oth (l : Launch) (D : va_G) (cI cW : ClassId) (xx : Nat → Nat) (xn : Nat → Nat) (xt : Nat → Nat) (xk : Nat → Nat) (xe : Nat → Nat) (xo : Nat → Nat) (xv : Nat → Nat) (xc : Nat → Nat) (xr : Nat → Nat) (Z : Bool × FN) (S : WS) (p : Nat) (w : Int32) (hS : Ok S) (hp : p < s_th S) (hw : z_in w 2 = false) : CT l D cI cW yX6_whatWas cX6_whatWas 3 (some .int) ⟨1, 0, 0, 22⟩ [.ref (xx 0), .int (nI p), .int w] ([xl xx xn xt xk xe xo xv xc xr cI Z, wl xn cI S]) (PI (-2) ([xl xx xn xt xk xe xo xv xc xr cI (x_rf Z 2), wl xn cI S])) := by
  refine CT.of RX6 rfl (by decide +kernel) (Nat.le_of_ble_eq_true rfl) [(0, .ref (xx 0)), (1, .int (nI p)), (2, .int w)] rfl (fun x X Rr hnm => ?_)
  have hth := hS.th
  have hpe := hS.pe
  refine G.al X dX6_whatWas_0 0 rfl ?_
  refine G.get X fX6_10 dX6_whatWas_1 0 0 rfl rfl rfl ?_
  refine G.il X dX6_whatWas_4 1 rfl ?_
  refine G.cvi X kX5_isThing lX6_107 dX6_whatWas_5 (tX5_isThing l D cI cW xn S (nI p) (by omega)) ⟨Nat.le_of_ble_eq_true rfl, Nat.le_of_ble_eq_true rfl⟩ ⟨Nat.zero_le _, Nat.zero_le _⟩ [1] rfl ⟨rfl, rfl⟩ rfl rfl 1 0 rfl rfl rfl rfl (Nat.le_of_ble_eq_true rfl) (ff_cons (wl_fst _ _ _ _) (ff_nil)) (ws' := [xl xx xn xt xk xe xo xv xc xr cI Z, wl xn cI S]) rfl ?_
  refine G.b_ne X dX6_whatWas_8 (fun b8 => ?_) (fun b8 => absurd (Eq.trans (Eq.symm (z_in_nI hp (by omega))) b8) (by decide))
  refine G.il X dX6_whatWas_17 2 rfl ?_
  refine G.lk X dX6_whatWas_18 (52) 70 (by show Op.lookupswitch.offset [(0, 26), (1, 39)] 52 (Int32.toInt w) = 52; rw [lv_osw (k := 0) (a := 0) (show ¬ w = 0 from (z_ne (v := 0) hw (by decide) (by decide))) rfl, lv_osw (k := 1) (a := 1) (show ¬ w = 1 from (z_ne (v := 1) hw (by decide) (by decide))) rfl]; rfl) (by decide) ?_
  refine G.al X dX6_whatWas_70 0 rfl ?_
  refine G.pu X dX6_whatWas_71 ?_
  refine G.cvi X kX6_refuse lX6_65 dX6_whatWas_73 (tX6_refuse l D cI cW xx xn xt xk xe xo xv xc xr Z 2 (by omega) (by omega)) ⟨Nat.le_of_ble_eq_true rfl, Nat.le_of_ble_eq_true rfl⟩ ⟨Nat.zero_le _, Nat.zero_le _⟩ [0] rfl ⟨rfl, rfl⟩ rfl rfl 0 0 rfl rfl rfl rfl (Nat.le_of_ble_eq_true rfl) (ff_cons (xl_fst _ _ _ _ _ _ _ _ _ _ _ _) (ff_nil)) (ws' := [xl xx xn xt xk xe xo xv xc xr cI (x_rf Z 2), wl xn cI S]) rfl ?_
  exact G.iret X Rr (v := (-(nI 2))) dX6_whatWas_76 (pi_mk (by rfl) (by rfl))

set_option maxRecDepth 20000 in
theorem tX6_whatWas_0 (l : Launch) (D : va_G) (cI cW : ClassId) (xx : Nat → Nat) (xn : Nat → Nat) (xt : Nat → Nat) (xk : Nat → Nat) (xe : Nat → Nat) (xo : Nat → Nat) (xv : Nat → Nat) (xc : Nat → Nat) (xr : Nat → Nat) (Z : Bool × FN) (S : WS) (xu : Nat → Nat) (qr : FN × Nat) (T5 : WS) (p : Nat) (hS : Ok S) (hq : q_n qr ≤ 16) (hp : p < s_th S) : CT l D cI cW yX6_whatWas cX6_whatWas 3 (some .int) ⟨5, 0, 0, 130⟩ [.ref (xx 0), .int (nI p), .int 0] ([xl xx xn xt xk xe xo xv xc xr cI Z, wl xn cI S, rl xr xu cI qr, wl xu cI T5]) (PIE (w_fb (fun k => w_fit S p (nI k) (s_we S p) qr) 6) (fun T9 : WS => [xl xx xn xt xk xe xo xv xc xr cI Z, wl xn cI S, rl xr xu cI qr, wl xu cI T9])) := by
  refine CT.of RX6 rfl (by decide +kernel) (Nat.le_of_ble_eq_true rfl) [(0, .ref (xx 0)), (1, .int (nI p)), (2, .int 0)] rfl (fun x X Rr hnm => ?_)
  have hth := hS.th
  have hpe := hS.pe
  refine G.al X dX6_whatWas_0 0 rfl ?_
  refine G.get X fX6_10 dX6_whatWas_1 0 0 rfl rfl rfl ?_
  refine G.il X dX6_whatWas_4 1 rfl ?_
  refine G.cvi X kX5_isThing lX6_107 dX6_whatWas_5 (tX5_isThing l D cI cW xn S (nI p) (by omega)) ⟨Nat.le_of_ble_eq_true rfl, Nat.le_of_ble_eq_true rfl⟩ ⟨Nat.zero_le _, Nat.zero_le _⟩ [1] rfl ⟨rfl, rfl⟩ rfl rfl 1 0 rfl rfl rfl rfl (Nat.le_of_ble_eq_true rfl) (ff_cons (wl_fst _ _ _ _) (ff_nil)) (ws' := [xl xx xn xt xk xe xo xv xc xr cI Z, wl xn cI S, rl xr xu cI qr, wl xu cI T5]) rfl ?_
  refine G.b_ne X dX6_whatWas_8 (fun b8 => ?_) (fun b8 => absurd (Eq.trans (Eq.symm (z_in_nI hp (by omega))) b8) (by decide))
  refine G.il X dX6_whatWas_17 2 rfl ?_
  refine G.lk X dX6_whatWas_18 (26) 44 (by decide) (by decide) ?_
  refine G.al X dX6_whatWas_44 0 rfl ?_
  refine G.get X fX6_57 dX6_whatWas_45 0 0 rfl rfl rfl ?_
  refine G.al X dX6_whatWas_48 0 rfl ?_
  refine G.get X fX6_10 dX6_whatWas_49 0 0 rfl rfl rfl ?_
  refine G.il X dX6_whatWas_52 1 rfl ?_
  refine G.cvie X kX4_kindsThatFit lX6_268 dX6_whatWas_53 (tX4_kindsThatFit l D cI cW xr xu qr T5 xn S p hS hq (by omega)) ⟨Nat.le_of_ble_eq_true rfl, Nat.le_of_ble_eq_true rfl⟩ ⟨Nat.zero_le _, Nat.zero_le _⟩ [2, 3, 1] rfl ⟨rfl, rfl⟩ rfl rfl 2 0 rfl rfl rfl rfl (Nat.le_of_ble_eq_true rfl) (fun _ => (ff_cons (rl_fst _ _ _ _ _) (ff_cons (wl_fst _ _ _ _) (ff_cons (wl_fst _ _ _ _) (ff_nil))))) (f8 := fun T9_53 : WS => [xl xx xn xt xk xe xo xv xc xr cI Z, wl xn cI S, rl xr xu cI qr, wl xu cI T9_53]) (fun _ => rfl) (fun T9_53 => ?_)
  exact G.iret X Rr (v := (w_fb (fun k => w_fit S p (nI k) (s_we S p) qr) 6)) dX6_whatWas_56 (pie_mk (T9_53) (by rfl) (by rfl))

set_option maxRecDepth 20000 in
theorem tX6_whatWas_1 (l : Launch) (D : va_G) (cI cW : ClassId) (xx : Nat → Nat) (xn : Nat → Nat) (xt : Nat → Nat) (xk : Nat → Nat) (xe : Nat → Nat) (xo : Nat → Nat) (xv : Nat → Nat) (xc : Nat → Nat) (xr : Nat → Nat) (Z : Bool × FN) (S : WS) (xu : Nat → Nat) (qr : FN × Nat) (T5 : WS) (p : Nat) (hS : Ok S) (hq : q_n qr ≤ 16) (hp : p < s_th S) : CT l D cI cW yX6_whatWas cX6_whatWas 3 (some .int) ⟨5, 0, 0, 130⟩ [.ref (xx 0), .int (nI p), .int 1] ([xl xx xn xt xk xe xo xv xc xr cI Z, wl xn cI S, rl xr xu cI qr, wl xu cI T5]) (PIE (w_fb (fun k => w_fit S p (s_ki S p) (nI k) qr) 10) (fun T9 : WS => [xl xx xn xt xk xe xo xv xc xr cI Z, wl xn cI S, rl xr xu cI qr, wl xu cI T9])) := by
  refine CT.of RX6 rfl (by decide +kernel) (Nat.le_of_ble_eq_true rfl) [(0, .ref (xx 0)), (1, .int (nI p)), (2, .int 1)] rfl (fun x X Rr hnm => ?_)
  have hth := hS.th
  have hpe := hS.pe
  refine G.al X dX6_whatWas_0 0 rfl ?_
  refine G.get X fX6_10 dX6_whatWas_1 0 0 rfl rfl rfl ?_
  refine G.il X dX6_whatWas_4 1 rfl ?_
  refine G.cvi X kX5_isThing lX6_107 dX6_whatWas_5 (tX5_isThing l D cI cW xn S (nI p) (by omega)) ⟨Nat.le_of_ble_eq_true rfl, Nat.le_of_ble_eq_true rfl⟩ ⟨Nat.zero_le _, Nat.zero_le _⟩ [1] rfl ⟨rfl, rfl⟩ rfl rfl 1 0 rfl rfl rfl rfl (Nat.le_of_ble_eq_true rfl) (ff_cons (wl_fst _ _ _ _) (ff_nil)) (ws' := [xl xx xn xt xk xe xo xv xc xr cI Z, wl xn cI S, rl xr xu cI qr, wl xu cI T5]) rfl ?_
  refine G.b_ne X dX6_whatWas_8 (fun b8 => ?_) (fun b8 => absurd (Eq.trans (Eq.symm (z_in_nI hp (by omega))) b8) (by decide))
  refine G.il X dX6_whatWas_17 2 rfl ?_
  refine G.lk X dX6_whatWas_18 (39) 57 (by decide) (by decide) ?_
  refine G.al X dX6_whatWas_57 0 rfl ?_
  refine G.get X fX6_57 dX6_whatWas_58 0 0 rfl rfl rfl ?_
  refine G.al X dX6_whatWas_61 0 rfl ?_
  refine G.get X fX6_10 dX6_whatWas_62 0 0 rfl rfl rfl ?_
  refine G.il X dX6_whatWas_65 1 rfl ?_
  refine G.cvie X kX4_weightsThatFit lX6_271 dX6_whatWas_66 (tX4_weightsThatFit l D cI cW xr xu qr T5 xn S p hS hq (by omega)) ⟨Nat.le_of_ble_eq_true rfl, Nat.le_of_ble_eq_true rfl⟩ ⟨Nat.zero_le _, Nat.zero_le _⟩ [2, 3, 1] rfl ⟨rfl, rfl⟩ rfl rfl 2 0 rfl rfl rfl rfl (Nat.le_of_ble_eq_true rfl) (fun _ => (ff_cons (rl_fst _ _ _ _ _) (ff_cons (wl_fst _ _ _ _) (ff_cons (wl_fst _ _ _ _) (ff_nil))))) (f8 := fun T9_66 : WS => [xl xx xn xt xk xe xo xv xc xr cI Z, wl xn cI S, rl xr xu cI qr, wl xu cI T9_66]) (fun _ => rfl) (fun T9_66 => ?_)
  exact G.iret X Rr (v := (w_fb (fun k => w_fit S p (s_ki S p) (nI k) qr) 10)) dX6_whatWas_69 (pie_mk (T9_66) (by rfl) (by rfl))

set_option maxRecDepth 20000 in
theorem tX6_power (l : Launch) (D : va_G) (cI cW : ClassId) (t : Int32) (n : Nat) (hn : n < 2 ^ 31) : CT l D cI cW yX6_power cX6_power 5 (some .long) ⟨0, 0, 0, 0⟩ [.int t, .int (nI n)] ([]) (PJ (l_pow (Int32.toInt64 t) n) ([])) := by
  refine CT.of RX6 rfl (by decide +kernel) (Nat.le_of_ble_eq_true rfl) [(0, .int t), (1, .int (nI n))] rfl (fun x X Rr hnm => ?_)
  refine G.lc X dX6_power_0 (v := 1) rfl ?_
  refine G.ls X dX6_power_1 (by decide) (lv' := [(2, .long 1), (0, .int t), (1, .int (nI n))]) rfl ?_
  refine G.pu X dX6_power_2 ?_
  refine G.is X dX6_power_3 (by decide) (lv' := [(4, .int 0), (2, .long 1), (0, .int t), (1, .int (nI n))]) rfl ?_
  have L5 : ∀ k, k ≤ n → G x 0 0 ([]) 5 [(4, .int (nI k)), (2, .long (l_pow (Int32.toInt64 t) k)), (0, .int t), (1, .int (nI n))] [] := by
    refine loop_dn n _ ?_ ?_
    · refine G.il X dX6_power_5 0 rfl ?_
      refine G.il X dX6_power_7 3 rfl ?_
      refine G.n_ge X (a := n) (b := n) (by omega) (by omega) dX6_power_8 (fun b8 => ?_) (fun b8 => absurd b8 (by omega))
      refine G.ll X dX6_power_22 1 rfl ?_
      exact G.lret X Rr dX6_power_23 (pj_mk (by rfl) (by rfl))
    · intro k hk ih5
      refine G.il X dX6_power_5 0 rfl ?_
      refine G.il X dX6_power_7 3 rfl ?_
      refine G.n_ge X (a := k) (b := n) (by omega) (by omega) dX6_power_8 (fun b8 => absurd b8 (by omega)) (fun b8 => ?_)
      refine G.ll X dX6_power_11 1 rfl ?_
      refine G.il X dX6_power_12 2 rfl ?_
      refine G.i2l X dX6_power_13 ?_
      refine G.lmul X dX6_power_14 ?_
      refine G.ls X dX6_power_15 (by decide) (lv' := [(2, .long ((l_pow (Int32.toInt64 t) k) * (Int32.toInt64 t))), (4, .int (nI k)), (0, .int t), (1, .int (nI n))]) rfl ?_
      refine G.iinc X dX6_power_16 1 rfl (v' := nI (k + 1)) (nI_inc k) (by decide) (lv' := [(4, .int (nI (k + 1))), (2, .long ((l_pow (Int32.toInt64 t) k) * (Int32.toInt64 t))), (0, .int t), (1, .int (nI n))]) rfl ?_
      refine G.go X dX6_power_19 ?_
      rw [show (l_pow (Int32.toInt64 t) (k + 1)) = ((l_pow (Int32.toInt64 t) k) * (Int32.toInt64 t)) from (by rfl)] at ih5
      exact ih5
  have L5 := L5 0 (Nat.zero_le _)
  exact L5

set_option maxRecDepth 20000 in
theorem tX6_partOf (l : Launch) (D : va_G) (cI cW : ClassId) (up : Int64) (dn : Int64) (part : Int32) : CT l D cI cW yX6_partOf cX6_partOf 12 (some .long) ⟨0, 0, 0, 0⟩ [.long up, .long dn, .int part] ([]) (PJ (l_part up dn part) ([])) := by
  refine CT.of RX6 rfl (by decide +kernel) (Nat.le_of_ble_eq_true rfl) [(0, .long up), (2, .long dn), (4, .int part)] rfl (fun x X Rr hnm => ?_)
  refine G.ll X dX6_partOf_0 1 rfl ?_
  refine G.ls X dX6_partOf_1 (by decide) (lv' := [(5, .long dn), (0, .long up), (2, .long dn), (4, .int part)]) rfl ?_
  refine G.ll X dX6_partOf_3 1 rfl ?_
  refine G.ls X dX6_partOf_4 (by decide) (lv' := [(7, .long up), (5, .long dn), (0, .long up), (2, .long dn), (4, .int part)]) rfl ?_
  refine G.pu X dX6_partOf_6 ?_
  refine G.is X dX6_partOf_7 (by decide) (lv' := [(9, .int 0), (7, .long up), (5, .long dn), (0, .long up), (2, .long dn), (4, .int part)]) rfl ?_
  have L9 : ∀ k, k ≤ 128 → G x 0 0 ([]) 9 [(9, .int (nI k)), (7, .long ((l_it dn up k).2)), (5, .long ((l_it dn up k).1)), (0, .long up), (2, .long dn), (4, .int part)] [] := by
    refine loop_dn 128 _ ?_ ?_
    · refine G.il X dX6_partOf_9 0 rfl ?_
      refine G.pu X dX6_partOf_11 ?_
      refine G.n_ge X (a := 128) (b := 128) (by omega) (by omega) dX6_partOf_14 (fun b14 => ?_) (fun b14 => absurd b14 (by omega))
      refine G.il X dX6_partOf_45 5 rfl ?_
      refine G.z_ne X (a := part) dX6_partOf_47 (fun b47 => ?_) (fun b47 => ?_)
      · refine G.ll X dX6_partOf_54 4 rfl ?_
        refine G.ls X dX6_partOf_55 (by decide) (lv' := [(9, .long dn), (7, .long ((l_it dn up 128).2)), (5, .long ((l_it dn up 128).1)), (0, .long up), (2, .long dn), (4, .int part)]) rfl ?_
        refine G.ll X dX6_partOf_57 2 rfl ?_
        refine G.lc X dX6_partOf_59 (v := 0) rfl ?_
        refine G.lcmp X dX6_partOf_60 ?_
        refine G.l_le X dX6_partOf_61 (fun b61 => ?_) (fun b61 => ?_)
        · refine G.ll X dX6_partOf_72 0 rfl ?_
          exact G.lret X Rr dX6_partOf_74 (pj_mk (by simp [l_part, b14, b47, b61]) (by rfl))
        · refine G.ll X dX6_partOf_64 0 rfl ?_
          refine G.ll X dX6_partOf_66 2 rfl ?_
          refine G.ldiv X dX6_partOf_68 (fun e => by rw [e] at b61; exact absurd b61 (by decide)) ?_
          refine G.go X dX6_partOf_69 ?_
          exact G.lret X Rr dX6_partOf_74 (pj_mk (by simp [l_part, b14, b47, b61]) (by rfl))
      · refine G.ll X dX6_partOf_50 3 rfl ?_
        refine G.go X dX6_partOf_51 ?_
        refine G.ls X dX6_partOf_55 (by decide) (lv' := [(9, .long up), (7, .long ((l_it dn up 128).2)), (5, .long ((l_it dn up 128).1)), (0, .long up), (2, .long dn), (4, .int part)]) rfl ?_
        refine G.ll X dX6_partOf_57 2 rfl ?_
        refine G.lc X dX6_partOf_59 (v := 0) rfl ?_
        refine G.lcmp X dX6_partOf_60 ?_
        refine G.l_le X dX6_partOf_61 (fun b61 => ?_) (fun b61 => ?_)
        · refine G.ll X dX6_partOf_72 0 rfl ?_
          exact G.lret X Rr dX6_partOf_74 (pj_mk (by simp [l_part, b14, b47, b61]) (by rfl))
        · refine G.ll X dX6_partOf_64 0 rfl ?_
          refine G.ll X dX6_partOf_66 2 rfl ?_
          refine G.ldiv X dX6_partOf_68 (fun e => by rw [e] at b61; exact absurd b61 (by decide)) ?_
          refine G.go X dX6_partOf_69 ?_
          exact G.lret X Rr dX6_partOf_74 (pj_mk (by simp [l_part, b14, b47, b61]) (by rfl))
    · intro k hk ih9
      refine G.il X dX6_partOf_9 0 rfl ?_
      refine G.pu X dX6_partOf_11 ?_
      refine G.n_ge X (a := k) (b := 128) (by omega) (by omega) dX6_partOf_14 (fun b14 => absurd b14 (by omega)) (fun b14 => ?_)
      refine G.ll X dX6_partOf_17 1 rfl ?_
      refine G.lc X dX6_partOf_19 (v := 0) rfl ?_
      refine G.lcmp X dX6_partOf_20 ?_
      refine G.l_eq X dX6_partOf_21 (fun b21 => ?_) (fun b21 => ?_)
      · have ez : l_it dn up 128 = l_it dn up k := by have := l_it_z b21 (128 - k); rw [show k + (128 - k) = 128 by omega] at this; exact this
        rw [← ez]
        refine G.il X dX6_partOf_45 5 rfl ?_
        refine G.z_ne X (a := part) dX6_partOf_47 (fun b47 => ?_) (fun b47 => ?_)
        · refine G.ll X dX6_partOf_54 4 rfl ?_
          refine G.ls X dX6_partOf_55 (by decide) (lv' := [(9, .long dn), (7, .long ((l_it dn up 128).2)), (5, .long ((l_it dn up 128).1)), (0, .long up), (2, .long dn), (4, .int part)]) rfl ?_
          refine G.ll X dX6_partOf_57 2 rfl ?_
          refine G.lc X dX6_partOf_59 (v := 0) rfl ?_
          refine G.lcmp X dX6_partOf_60 ?_
          refine G.l_le X dX6_partOf_61 (fun b61 => ?_) (fun b61 => ?_)
          · refine G.ll X dX6_partOf_72 0 rfl ?_
            exact G.lret X Rr dX6_partOf_74 (pj_mk (by simp [l_part, b14, b21, b47, b61]) (by rfl))
          · refine G.ll X dX6_partOf_64 0 rfl ?_
            refine G.ll X dX6_partOf_66 2 rfl ?_
            refine G.ldiv X dX6_partOf_68 (fun e => by rw [e] at b61; exact absurd b61 (by decide)) ?_
            refine G.go X dX6_partOf_69 ?_
            exact G.lret X Rr dX6_partOf_74 (pj_mk (by simp [l_part, b14, b21, b47, b61]) (by rfl))
        · refine G.ll X dX6_partOf_50 3 rfl ?_
          refine G.go X dX6_partOf_51 ?_
          refine G.ls X dX6_partOf_55 (by decide) (lv' := [(9, .long up), (7, .long ((l_it dn up 128).2)), (5, .long ((l_it dn up 128).1)), (0, .long up), (2, .long dn), (4, .int part)]) rfl ?_
          refine G.ll X dX6_partOf_57 2 rfl ?_
          refine G.lc X dX6_partOf_59 (v := 0) rfl ?_
          refine G.lcmp X dX6_partOf_60 ?_
          refine G.l_le X dX6_partOf_61 (fun b61 => ?_) (fun b61 => ?_)
          · refine G.ll X dX6_partOf_72 0 rfl ?_
            exact G.lret X Rr dX6_partOf_74 (pj_mk (by simp [l_part, b14, b21, b47, b61]) (by rfl))
          · refine G.ll X dX6_partOf_64 0 rfl ?_
            refine G.ll X dX6_partOf_66 2 rfl ?_
            refine G.ldiv X dX6_partOf_68 (fun e => by rw [e] at b61; exact absurd b61 (by decide)) ?_
            refine G.go X dX6_partOf_69 ?_
            exact G.lret X Rr dX6_partOf_74 (pj_mk (by simp [l_part, b14, b21, b47, b61]) (by rfl))
      · refine G.ll X dX6_partOf_24 2 rfl ?_
        refine G.ll X dX6_partOf_26 1 rfl ?_
        refine G.lrem X dX6_partOf_28 b21 ?_
        refine G.ls X dX6_partOf_29 (by decide) (lv' := [(10, .long (((l_it dn up k).1) - ((l_it dn up k).1) / ((l_it dn up k).2) * ((l_it dn up k).2))), (9, .int (nI k)), (7, .long ((l_it dn up k).2)), (5, .long ((l_it dn up k).1)), (0, .long up), (2, .long dn), (4, .int part)]) rfl ?_
        refine G.ll X dX6_partOf_31 2 rfl ?_
        refine G.ls X dX6_partOf_33 (by decide) (lv' := [(5, .long ((l_it dn up k).2)), (10, .long (((l_it dn up k).1) - ((l_it dn up k).1) / ((l_it dn up k).2) * ((l_it dn up k).2))), (9, .int (nI k)), (7, .long ((l_it dn up k).2)), (0, .long up), (2, .long dn), (4, .int part)]) rfl ?_
        refine G.ll X dX6_partOf_35 1 rfl ?_
        refine G.ls X dX6_partOf_37 (by decide) (lv' := [(7, .long (((l_it dn up k).1) - ((l_it dn up k).1) / ((l_it dn up k).2) * ((l_it dn up k).2))), (5, .long ((l_it dn up k).2)), (10, .long (((l_it dn up k).1) - ((l_it dn up k).1) / ((l_it dn up k).2) * ((l_it dn up k).2))), (9, .int (nI k)), (0, .long up), (2, .long dn), (4, .int part)]) rfl ?_
        refine G.iinc X dX6_partOf_39 3 rfl (v' := nI (k + 1)) (nI_inc k) (by decide) (lv' := [(9, .int (nI (k + 1))), (7, .long (((l_it dn up k).1) - ((l_it dn up k).1) / ((l_it dn up k).2) * ((l_it dn up k).2))), (5, .long ((l_it dn up k).2)), (10, .long (((l_it dn up k).1) - ((l_it dn up k).1) / ((l_it dn up k).2) * ((l_it dn up k).2))), (0, .long up), (2, .long dn), (4, .int part)]) rfl ?_
        refine G.go X dX6_partOf_42 ?_
        rw [show ((l_it dn up (k + 1)).2) = (((l_it dn up k).1) - ((l_it dn up k).1) / ((l_it dn up k).2) * ((l_it dn up k).2)) from (by simp [l_it, b14, b21])] at ih9
        rw [show ((l_it dn up (k + 1)).1) = ((l_it dn up k).2) from (by simp [l_it, b14, b21])] at ih9
        refine G.lvsub [0, 1, 2, 4, 5, 6] (lv' := [(9, .int (nI (k + 1))), (7, .long (((l_it dn up k).1) - ((l_it dn up k).1) / ((l_it dn up k).2) * ((l_it dn up k).2))), (5, .long ((l_it dn up k).2)), (0, .long up), (2, .long dn), (4, .int part)]) rfl ?_
        exact ih9
  have L9 := L9 0 (Nat.zero_le _)
  exact L9

set_option maxRecDepth 20000 in
theorem tX6_cold_lo (l : Launch) (D : va_G) (cI cW : ClassId) (xx : Nat → Nat) (xn : Nat → Nat) (xt : Nat → Nat) (xk : Nat → Nat) (xe : Nat → Nat) (xo : Nat → Nat) (xv : Nat → Nat) (xc : Nat → Nat) (xr : Nat → Nat) (Z : Bool × FN) (n : Int32) (t : Int32) (w : Int32) (ha : n < 0 ∨ t < 2) : CT l D cI cW yX6_cold cX6_cold 4 (some .long) ⟨2, 0, 0, 43⟩ [.ref (xx 0), .int n, .int t, .int w] ([xl xx xn xt xk xe xo xv xc xr cI Z]) (PJ (4000000000000000000 - Int32.toInt64 (-(nI 4))) ([xl xx xn xt xk xe xo xv xc xr cI (x_rf Z 4)])) := by
  refine CT.of RX6 rfl (by decide +kernel) (Nat.le_of_ble_eq_true rfl) [(0, .ref (xx 0)), (1, .int n), (2, .int t), (3, .int w)] rfl (fun x X Rr hnm => ?_)
  refine G.il X dX6_cold_0 1 rfl ?_
  refine G.z_lt X (a := n) dX6_cold_1 (fun b1 => ?_) (fun b1 => ?_)
  · refine G.al X dX6_cold_9 0 rfl ?_
    refine G.pu X dX6_cold_10 ?_
    refine G.cvj X kX6_refuseLong lX6_244 dX6_cold_12 (tX6_refuseLong l D cI cW xx xn xt xk xe xo xv xc xr Z 4 (by omega) (by omega)) ⟨Nat.le_of_ble_eq_true rfl, Nat.le_of_ble_eq_true rfl⟩ ⟨Nat.zero_le _, Nat.zero_le _⟩ [0] rfl ⟨rfl, rfl⟩ rfl rfl 0 0 rfl rfl rfl rfl (Nat.le_of_ble_eq_true rfl) (ff_cons (xl_fst _ _ _ _ _ _ _ _ _ _ _ _) (ff_nil)) (ws' := [xl xx xn xt xk xe xo xv xc xr cI (x_rf Z 4)]) rfl ?_
    exact G.lret X Rr dX6_cold_15 (pj_mk (by rfl) (by rfl))
  · refine G.il X dX6_cold_4 2 rfl ?_
    refine G.pu X dX6_cold_5 ?_
    refine G.c_ge X (a := t) (b := 2) dX6_cold_6 (fun b6 => absurd ((ha.resolve_left b1)) b6) (fun b6 => ?_)
    refine G.al X dX6_cold_9 0 rfl ?_
    refine G.pu X dX6_cold_10 ?_
    refine G.cvj X kX6_refuseLong lX6_244 dX6_cold_12 (tX6_refuseLong l D cI cW xx xn xt xk xe xo xv xc xr Z 4 (by omega) (by omega)) ⟨Nat.le_of_ble_eq_true rfl, Nat.le_of_ble_eq_true rfl⟩ ⟨Nat.zero_le _, Nat.zero_le _⟩ [0] rfl ⟨rfl, rfl⟩ rfl rfl 0 0 rfl rfl rfl rfl (Nat.le_of_ble_eq_true rfl) (ff_cons (xl_fst _ _ _ _ _ _ _ _ _ _ _ _) (ff_nil)) (ws' := [xl xx xn xt xk xe xo xv xc xr cI (x_rf Z 4)]) rfl ?_
    exact G.lret X Rr dX6_cold_15 (pj_mk (by rfl) (by rfl))

set_option maxRecDepth 20000 in
theorem tX6_cold_hi (l : Launch) (D : va_G) (cI cW : ClassId) (xx : Nat → Nat) (xn : Nat → Nat) (xt : Nat → Nat) (xk : Nat → Nat) (xe : Nat → Nat) (xo : Nat → Nat) (xv : Nat → Nat) (xc : Nat → Nat) (xr : Nat → Nat) (Z : Bool × FN) (n : Int32) (t : Int32) (w : Int32) (ha : ¬ n < 0) (hb : ¬ t < 2) (hc : 7 < n ∨ 20 < t) : CT l D cI cW yX6_cold cX6_cold 4 (some .long) ⟨2, 0, 0, 43⟩ [.ref (xx 0), .int n, .int t, .int w] ([xl xx xn xt xk xe xo xv xc xr cI Z]) (PJ (4000000000000000000 - Int32.toInt64 (-(nI 6))) ([xl xx xn xt xk xe xo xv xc xr cI (x_rf Z 6)])) := by
  refine CT.of RX6 rfl (by decide +kernel) (Nat.le_of_ble_eq_true rfl) [(0, .ref (xx 0)), (1, .int n), (2, .int t), (3, .int w)] rfl (fun x X Rr hnm => ?_)
  refine G.il X dX6_cold_0 1 rfl ?_
  refine G.z_lt X (a := n) dX6_cold_1 (fun b1 => absurd b1 (ha)) (fun b1 => ?_)
  refine G.il X dX6_cold_4 2 rfl ?_
  refine G.pu X dX6_cold_5 ?_
  refine G.c_ge X (a := t) (b := 2) dX6_cold_6 (fun b6 => ?_) (fun b6 => absurd b6 (hb))
  refine G.il X dX6_cold_16 1 rfl ?_
  refine G.pu X dX6_cold_17 ?_
  refine G.c_gt X (a := n) (b := 7) dX6_cold_19 (fun b19 => ?_) (fun b19 => ?_)
  · refine G.al X dX6_cold_28 0 rfl ?_
    refine G.pu X dX6_cold_29 ?_
    refine G.cvj X kX6_refuseLong lX6_244 dX6_cold_31 (tX6_refuseLong l D cI cW xx xn xt xk xe xo xv xc xr Z 6 (by omega) (by omega)) ⟨Nat.le_of_ble_eq_true rfl, Nat.le_of_ble_eq_true rfl⟩ ⟨Nat.zero_le _, Nat.zero_le _⟩ [0] rfl ⟨rfl, rfl⟩ rfl rfl 0 0 rfl rfl rfl rfl (Nat.le_of_ble_eq_true rfl) (ff_cons (xl_fst _ _ _ _ _ _ _ _ _ _ _ _) (ff_nil)) (ws' := [xl xx xn xt xk xe xo xv xc xr cI (x_rf Z 6)]) rfl ?_
    exact G.lret X Rr dX6_cold_34 (pj_mk (by rfl) (by rfl))
  · refine G.il X dX6_cold_22 2 rfl ?_
    refine G.pu X dX6_cold_23 ?_
    refine G.c_le X (a := t) (b := 20) dX6_cold_25 (fun b25 => absurd ((hc.resolve_left b19)) b25) (fun b25 => ?_)
    refine G.al X dX6_cold_28 0 rfl ?_
    refine G.pu X dX6_cold_29 ?_
    refine G.cvj X kX6_refuseLong lX6_244 dX6_cold_31 (tX6_refuseLong l D cI cW xx xn xt xk xe xo xv xc xr Z 6 (by omega) (by omega)) ⟨Nat.le_of_ble_eq_true rfl, Nat.le_of_ble_eq_true rfl⟩ ⟨Nat.zero_le _, Nat.zero_le _⟩ [0] rfl ⟨rfl, rfl⟩ rfl rfl 0 0 rfl rfl rfl rfl (Nat.le_of_ble_eq_true rfl) (ff_cons (xl_fst _ _ _ _ _ _ _ _ _ _ _ _) (ff_nil)) (ws' := [xl xx xn xt xk xe xo xv xc xr cI (x_rf Z 6)]) rfl ?_
    exact G.lret X Rr dX6_cold_34 (pj_mk (by rfl) (by rfl))

set_option maxRecDepth 20000 in
theorem tX6_cold_oth (l : Launch) (D : va_G) (cI cW : ClassId) (xx : Nat → Nat) (xn : Nat → Nat) (xt : Nat → Nat) (xk : Nat → Nat) (xe : Nat → Nat) (xo : Nat → Nat) (xv : Nat → Nat) (xc : Nat → Nat) (xr : Nat → Nat) (Z : Bool × FN) (n : Nat) (t : Nat) (w : Int32) (hn : n ≤ 7) (ht1 : 2 ≤ t) (ht2 : t ≤ 20) (hw : z_in w 2 = false) : CT l D cI cW yX6_cold cX6_cold 4 (some .long) ⟨2, 0, 0, 43⟩ [.ref (xx 0), .int (nI n), .int (nI t), .int w] ([xl xx xn xt xk xe xo xv xc xr cI Z]) (PJ (4000000000000000000 - Int32.toInt64 (-(nI 2))) ([xl xx xn xt xk xe xo xv xc xr cI (x_rf Z 2)])) := by
  refine CT.of RX6 rfl (by decide +kernel) (Nat.le_of_ble_eq_true rfl) [(0, .ref (xx 0)), (1, .int (nI n)), (2, .int (nI t)), (3, .int w)] rfl (fun x X Rr hnm => ?_)
  refine G.il X dX6_cold_0 1 rfl ?_
  refine G.z_lt X (a := nI n) dX6_cold_1 (fun b1 => absurd b1 (nI_pos (by omega))) (fun b1 => ?_)
  refine G.il X dX6_cold_4 2 rfl ?_
  refine G.pu X dX6_cold_5 ?_
  refine G.n_ge X (a := t) (b := 2) (by omega) (by omega) dX6_cold_6 (fun b6 => ?_) (fun b6 => absurd b6 (by omega))
  refine G.il X dX6_cold_16 1 rfl ?_
  refine G.pu X dX6_cold_17 ?_
  refine G.n_gt X (a := n) (b := 7) (by omega) (by omega) dX6_cold_19 (fun b19 => absurd b19 (by omega)) (fun b19 => ?_)
  refine G.il X dX6_cold_22 2 rfl ?_
  refine G.pu X dX6_cold_23 ?_
  refine G.n_le X (a := t) (b := 20) (by omega) (by omega) dX6_cold_25 (fun b25 => ?_) (fun b25 => absurd b25 (by omega))
  refine G.il X dX6_cold_35 3 rfl ?_
  refine G.z_lt X (a := w) dX6_cold_36 (fun b36 => ?_) (fun b36 => ?_)
  · refine G.al X dX6_cold_44 0 rfl ?_
    refine G.pu X dX6_cold_45 ?_
    refine G.cvj X kX6_refuseLong lX6_244 dX6_cold_47 (tX6_refuseLong l D cI cW xx xn xt xk xe xo xv xc xr Z 2 (by omega) (by omega)) ⟨Nat.le_of_ble_eq_true rfl, Nat.le_of_ble_eq_true rfl⟩ ⟨Nat.zero_le _, Nat.zero_le _⟩ [0] rfl ⟨rfl, rfl⟩ rfl rfl 0 0 rfl rfl rfl rfl (Nat.le_of_ble_eq_true rfl) (ff_cons (xl_fst _ _ _ _ _ _ _ _ _ _ _ _) (ff_nil)) (ws' := [xl xx xn xt xk xe xo xv xc xr cI (x_rf Z 2)]) rfl ?_
    exact G.lret X Rr dX6_cold_50 (pj_mk (by rfl) (by rfl))
  · refine G.il X dX6_cold_39 3 rfl ?_
    refine G.pu X dX6_cold_40 ?_
    refine G.c_le X (a := w) (b := 1) dX6_cold_41 (fun b41 => absurd (((z_bad2 hw).resolve_left b36)) b41) (fun b41 => ?_)
    refine G.al X dX6_cold_44 0 rfl ?_
    refine G.pu X dX6_cold_45 ?_
    refine G.cvj X kX6_refuseLong lX6_244 dX6_cold_47 (tX6_refuseLong l D cI cW xx xn xt xk xe xo xv xc xr Z 2 (by omega) (by omega)) ⟨Nat.le_of_ble_eq_true rfl, Nat.le_of_ble_eq_true rfl⟩ ⟨Nat.zero_le _, Nat.zero_le _⟩ [0] rfl ⟨rfl, rfl⟩ rfl rfl 0 0 rfl rfl rfl rfl (Nat.le_of_ble_eq_true rfl) (ff_cons (xl_fst _ _ _ _ _ _ _ _ _ _ _ _) (ff_nil)) (ws' := [xl xx xn xt xk xe xo xv xc xr cI (x_rf Z 2)]) rfl ?_
    exact G.lret X Rr dX6_cold_50 (pj_mk (by rfl) (by rfl))

set_option maxRecDepth 20000 in
theorem tX6_cold_0 (l : Launch) (D : va_G) (cI cW : ClassId) (xx : Nat → Nat) (xn : Nat → Nat) (xt : Nat → Nat) (xk : Nat → Nat) (xe : Nat → Nat) (xo : Nat → Nat) (xv : Nat → Nat) (xc : Nat → Nat) (xr : Nat → Nat) (Z : Bool × FN) (S : WS) (xs : Nat → Nat) (xw : Nat → Nat → Nat) (qc : Int32 × Int32 × Int32) (V0 : WS) (V1 : WS) (V2 : WS) (V3 : WS) (V4 : WS) (V5 : WS) (V6 : WS) (V7 : WS) (n : Nat) (t : Nat) (hS : Ok S) (hn : n ≤ 7) (ht1 : 2 ≤ t) (ht2 : t ≤ 20) : CT l D cI cW yX6_cold cX6_cold 4 (some .long) ⟨11, 0, 0, 286⟩ [.ref (xx 0), .int (nI n), .int (nI t), .int 0] ([xl xx xn xt xk xe xo xv xc xr cI Z, wl xn cI S, cl xc xs xw cW qc, wl (xw 0) cI V0, wl (xw 1) cI V1, wl (xw 2) cI V2, wl (xw 3) cI V3, wl (xw 4) cI V4, wl (xw 5) cI V5, wl (xw 6) cI V6, wl (xw 7) cI V7]) (PJE (l_part (w_ways (Int32.toInt64 (nI t - 1)) n S) (l_pow (Int32.toInt64 (nI t)) n) 0) (fun z9 : WS × WS × WS × WS × WS × WS × WS × WS => [xl xx xn xt xk xe xo xv xc xr cI Z, wl xn cI S, cl xc xs xw cW qc, wl (xw 0) cI z9.1, wl (xw 1) cI z9.2.1, wl (xw 2) cI z9.2.2.1, wl (xw 3) cI z9.2.2.2.1, wl (xw 4) cI z9.2.2.2.2.1, wl (xw 5) cI z9.2.2.2.2.2.1, wl (xw 6) cI z9.2.2.2.2.2.2.1, wl (xw 7) cI z9.2.2.2.2.2.2.2])) := by
  refine CT.of RX6 rfl (by decide +kernel) (Nat.le_of_ble_eq_true rfl) [(0, .ref (xx 0)), (1, .int (nI n)), (2, .int (nI t)), (3, .int 0)] rfl (fun x X Rr hnm => ?_)
  have hth := hS.th
  have hpe := hS.pe
  refine G.il X dX6_cold_0 1 rfl ?_
  refine G.z_lt X (a := nI n) dX6_cold_1 (fun b1 => absurd b1 (nI_pos (by omega))) (fun b1 => ?_)
  refine G.il X dX6_cold_4 2 rfl ?_
  refine G.pu X dX6_cold_5 ?_
  refine G.n_ge X (a := t) (b := 2) (by omega) (by omega) dX6_cold_6 (fun b6 => ?_) (fun b6 => absurd b6 (by omega))
  refine G.il X dX6_cold_16 1 rfl ?_
  refine G.pu X dX6_cold_17 ?_
  refine G.n_gt X (a := n) (b := 7) (by omega) (by omega) dX6_cold_19 (fun b19 => absurd b19 (by omega)) (fun b19 => ?_)
  refine G.il X dX6_cold_22 2 rfl ?_
  refine G.pu X dX6_cold_23 ?_
  refine G.n_le X (a := t) (b := 20) (by omega) (by omega) dX6_cold_25 (fun b25 => ?_) (fun b25 => absurd b25 (by omega))
  refine G.il X dX6_cold_35 3 rfl ?_
  refine G.z_lt X (a := 0) dX6_cold_36 (fun b36 => absurd b36 (by decide)) (fun b36 => ?_)
  refine G.il X dX6_cold_39 3 rfl ?_
  refine G.pu X dX6_cold_40 ?_
  refine G.c_le X (a := 0) (b := 1) dX6_cold_41 (fun b41 => ?_) (fun b41 => absurd b41 (by decide))
  refine G.al X dX6_cold_51 0 rfl ?_
  refine G.get X fX6_50 dX6_cold_52 0 0 rfl rfl rfl ?_
  refine G.al X dX6_cold_55 0 rfl ?_
  refine G.get X fX6_10 dX6_cold_56 0 0 rfl rfl rfl ?_
  refine G.il X dX6_cold_59 1 rfl ?_
  refine G.il X dX6_cold_60 2 rfl ?_
  refine G.cvje X kX1_waysToWater lX6_248 dX6_cold_61 (tX1_waysToWater l D cI cW xc xs xw qc V0 V1 V2 V3 V4 V5 V6 V7 xn S n (nI t) hS (by omega)) ⟨Nat.le_of_ble_eq_true rfl, Nat.le_of_ble_eq_true rfl⟩ ⟨Nat.zero_le _, Nat.zero_le _⟩ [2, 3, 4, 5, 6, 7, 8, 9, 10, 1] rfl ⟨rfl, rfl⟩ rfl rfl 2 0 rfl rfl rfl rfl (Nat.le_of_ble_eq_true rfl) (fun _ => (ff_cons (cl_fst _ _ _ _ _ _) (ff_cons (wl_fst _ _ _ _) (ff_cons (wl_fst _ _ _ _) (ff_cons (wl_fst _ _ _ _) (ff_cons (wl_fst _ _ _ _) (ff_cons (wl_fst _ _ _ _) (ff_cons (wl_fst _ _ _ _) (ff_cons (wl_fst _ _ _ _) (ff_cons (wl_fst _ _ _ _) (ff_cons (wl_fst _ _ _ _) (ff_nil)))))))))))) (f8 := fun z9_61 : WS × WS × WS × WS × WS × WS × WS × WS => [xl xx xn xt xk xe xo xv xc xr cI Z, wl xn cI S, cl xc xs xw cW qc, wl (xw 0) cI z9_61.1, wl (xw 1) cI z9_61.2.1, wl (xw 2) cI z9_61.2.2.1, wl (xw 3) cI z9_61.2.2.2.1, wl (xw 4) cI z9_61.2.2.2.2.1, wl (xw 5) cI z9_61.2.2.2.2.2.1, wl (xw 6) cI z9_61.2.2.2.2.2.2.1, wl (xw 7) cI z9_61.2.2.2.2.2.2.2]) (fun _ => rfl) (fun z9_61 => ?_)
  refine G.il X dX6_cold_64 2 rfl ?_
  refine G.il X dX6_cold_65 1 rfl ?_
  refine G.cstj X kX6_power lX6_252 dX6_cold_66 (tX6_power l D cI cW (nI t) n (by omega)) ⟨Nat.le_of_ble_eq_true rfl, Nat.le_of_ble_eq_true rfl⟩ ⟨Nat.zero_le _, Nat.zero_le _⟩ [] rfl ⟨rfl, rfl⟩ rfl rfl rfl (Nat.le_of_ble_eq_true rfl) (ff_nil) (ws' := [xl xx xn xt xk xe xo xv xc xr cI Z, wl xn cI S, cl xc xs xw cW qc, wl (xw 0) cI z9_61.1, wl (xw 1) cI z9_61.2.1, wl (xw 2) cI z9_61.2.2.1, wl (xw 3) cI z9_61.2.2.2.1, wl (xw 4) cI z9_61.2.2.2.2.1, wl (xw 5) cI z9_61.2.2.2.2.2.1, wl (xw 6) cI z9_61.2.2.2.2.2.2.1, wl (xw 7) cI z9_61.2.2.2.2.2.2.2]) rfl ?_
  refine G.il X dX6_cold_69 3 rfl ?_
  refine G.cstj X kX6_partOf lX6_256 dX6_cold_70 (tX6_partOf l D cI cW (w_ways (Int32.toInt64 ((nI t) - 1)) n S) (l_pow (Int32.toInt64 (nI t)) n) 0) ⟨Nat.le_of_ble_eq_true rfl, Nat.le_of_ble_eq_true rfl⟩ ⟨Nat.zero_le _, Nat.zero_le _⟩ [] rfl ⟨rfl, rfl⟩ rfl rfl rfl (Nat.le_of_ble_eq_true rfl) (ff_nil) (ws' := [xl xx xn xt xk xe xo xv xc xr cI Z, wl xn cI S, cl xc xs xw cW qc, wl (xw 0) cI z9_61.1, wl (xw 1) cI z9_61.2.1, wl (xw 2) cI z9_61.2.2.1, wl (xw 3) cI z9_61.2.2.2.1, wl (xw 4) cI z9_61.2.2.2.2.1, wl (xw 5) cI z9_61.2.2.2.2.2.1, wl (xw 6) cI z9_61.2.2.2.2.2.2.1, wl (xw 7) cI z9_61.2.2.2.2.2.2.2]) rfl ?_
  exact G.lret X Rr dX6_cold_73 (pje_mk ((z9_61.1, z9_61.2.1, z9_61.2.2.1, z9_61.2.2.2.1, z9_61.2.2.2.2.1, z9_61.2.2.2.2.2.1, z9_61.2.2.2.2.2.2.1, z9_61.2.2.2.2.2.2.2)) (by rfl) (by rfl))

set_option maxRecDepth 20000 in
theorem tX6_cold_1 (l : Launch) (D : va_G) (cI cW : ClassId) (xx : Nat → Nat) (xn : Nat → Nat) (xt : Nat → Nat) (xk : Nat → Nat) (xe : Nat → Nat) (xo : Nat → Nat) (xv : Nat → Nat) (xc : Nat → Nat) (xr : Nat → Nat) (Z : Bool × FN) (S : WS) (xs : Nat → Nat) (xw : Nat → Nat → Nat) (qc : Int32 × Int32 × Int32) (V0 : WS) (V1 : WS) (V2 : WS) (V3 : WS) (V4 : WS) (V5 : WS) (V6 : WS) (V7 : WS) (n : Nat) (t : Nat) (hS : Ok S) (hn : n ≤ 7) (ht1 : 2 ≤ t) (ht2 : t ≤ 20) : CT l D cI cW yX6_cold cX6_cold 4 (some .long) ⟨11, 0, 0, 286⟩ [.ref (xx 0), .int (nI n), .int (nI t), .int 1] ([xl xx xn xt xk xe xo xv xc xr cI Z, wl xn cI S, cl xc xs xw cW qc, wl (xw 0) cI V0, wl (xw 1) cI V1, wl (xw 2) cI V2, wl (xw 3) cI V3, wl (xw 4) cI V4, wl (xw 5) cI V5, wl (xw 6) cI V6, wl (xw 7) cI V7]) (PJE (l_part (w_ways (Int32.toInt64 (nI t - 1)) n S) (l_pow (Int32.toInt64 (nI t)) n) 1) (fun z9 : WS × WS × WS × WS × WS × WS × WS × WS => [xl xx xn xt xk xe xo xv xc xr cI Z, wl xn cI S, cl xc xs xw cW qc, wl (xw 0) cI z9.1, wl (xw 1) cI z9.2.1, wl (xw 2) cI z9.2.2.1, wl (xw 3) cI z9.2.2.2.1, wl (xw 4) cI z9.2.2.2.2.1, wl (xw 5) cI z9.2.2.2.2.2.1, wl (xw 6) cI z9.2.2.2.2.2.2.1, wl (xw 7) cI z9.2.2.2.2.2.2.2])) := by
  refine CT.of RX6 rfl (by decide +kernel) (Nat.le_of_ble_eq_true rfl) [(0, .ref (xx 0)), (1, .int (nI n)), (2, .int (nI t)), (3, .int 1)] rfl (fun x X Rr hnm => ?_)
  have hth := hS.th
  have hpe := hS.pe
  refine G.il X dX6_cold_0 1 rfl ?_
  refine G.z_lt X (a := nI n) dX6_cold_1 (fun b1 => absurd b1 (nI_pos (by omega))) (fun b1 => ?_)
  refine G.il X dX6_cold_4 2 rfl ?_
  refine G.pu X dX6_cold_5 ?_
  refine G.n_ge X (a := t) (b := 2) (by omega) (by omega) dX6_cold_6 (fun b6 => ?_) (fun b6 => absurd b6 (by omega))
  refine G.il X dX6_cold_16 1 rfl ?_
  refine G.pu X dX6_cold_17 ?_
  refine G.n_gt X (a := n) (b := 7) (by omega) (by omega) dX6_cold_19 (fun b19 => absurd b19 (by omega)) (fun b19 => ?_)
  refine G.il X dX6_cold_22 2 rfl ?_
  refine G.pu X dX6_cold_23 ?_
  refine G.n_le X (a := t) (b := 20) (by omega) (by omega) dX6_cold_25 (fun b25 => ?_) (fun b25 => absurd b25 (by omega))
  refine G.il X dX6_cold_35 3 rfl ?_
  refine G.z_lt X (a := 1) dX6_cold_36 (fun b36 => absurd b36 (by decide)) (fun b36 => ?_)
  refine G.il X dX6_cold_39 3 rfl ?_
  refine G.pu X dX6_cold_40 ?_
  refine G.c_le X (a := 1) (b := 1) dX6_cold_41 (fun b41 => ?_) (fun b41 => absurd b41 (by decide))
  refine G.al X dX6_cold_51 0 rfl ?_
  refine G.get X fX6_50 dX6_cold_52 0 0 rfl rfl rfl ?_
  refine G.al X dX6_cold_55 0 rfl ?_
  refine G.get X fX6_10 dX6_cold_56 0 0 rfl rfl rfl ?_
  refine G.il X dX6_cold_59 1 rfl ?_
  refine G.il X dX6_cold_60 2 rfl ?_
  refine G.cvje X kX1_waysToWater lX6_248 dX6_cold_61 (tX1_waysToWater l D cI cW xc xs xw qc V0 V1 V2 V3 V4 V5 V6 V7 xn S n (nI t) hS (by omega)) ⟨Nat.le_of_ble_eq_true rfl, Nat.le_of_ble_eq_true rfl⟩ ⟨Nat.zero_le _, Nat.zero_le _⟩ [2, 3, 4, 5, 6, 7, 8, 9, 10, 1] rfl ⟨rfl, rfl⟩ rfl rfl 2 0 rfl rfl rfl rfl (Nat.le_of_ble_eq_true rfl) (fun _ => (ff_cons (cl_fst _ _ _ _ _ _) (ff_cons (wl_fst _ _ _ _) (ff_cons (wl_fst _ _ _ _) (ff_cons (wl_fst _ _ _ _) (ff_cons (wl_fst _ _ _ _) (ff_cons (wl_fst _ _ _ _) (ff_cons (wl_fst _ _ _ _) (ff_cons (wl_fst _ _ _ _) (ff_cons (wl_fst _ _ _ _) (ff_cons (wl_fst _ _ _ _) (ff_nil)))))))))))) (f8 := fun z9_61 : WS × WS × WS × WS × WS × WS × WS × WS => [xl xx xn xt xk xe xo xv xc xr cI Z, wl xn cI S, cl xc xs xw cW qc, wl (xw 0) cI z9_61.1, wl (xw 1) cI z9_61.2.1, wl (xw 2) cI z9_61.2.2.1, wl (xw 3) cI z9_61.2.2.2.1, wl (xw 4) cI z9_61.2.2.2.2.1, wl (xw 5) cI z9_61.2.2.2.2.2.1, wl (xw 6) cI z9_61.2.2.2.2.2.2.1, wl (xw 7) cI z9_61.2.2.2.2.2.2.2]) (fun _ => rfl) (fun z9_61 => ?_)
  refine G.il X dX6_cold_64 2 rfl ?_
  refine G.il X dX6_cold_65 1 rfl ?_
  refine G.cstj X kX6_power lX6_252 dX6_cold_66 (tX6_power l D cI cW (nI t) n (by omega)) ⟨Nat.le_of_ble_eq_true rfl, Nat.le_of_ble_eq_true rfl⟩ ⟨Nat.zero_le _, Nat.zero_le _⟩ [] rfl ⟨rfl, rfl⟩ rfl rfl rfl (Nat.le_of_ble_eq_true rfl) (ff_nil) (ws' := [xl xx xn xt xk xe xo xv xc xr cI Z, wl xn cI S, cl xc xs xw cW qc, wl (xw 0) cI z9_61.1, wl (xw 1) cI z9_61.2.1, wl (xw 2) cI z9_61.2.2.1, wl (xw 3) cI z9_61.2.2.2.1, wl (xw 4) cI z9_61.2.2.2.2.1, wl (xw 5) cI z9_61.2.2.2.2.2.1, wl (xw 6) cI z9_61.2.2.2.2.2.2.1, wl (xw 7) cI z9_61.2.2.2.2.2.2.2]) rfl ?_
  refine G.il X dX6_cold_69 3 rfl ?_
  refine G.cstj X kX6_partOf lX6_256 dX6_cold_70 (tX6_partOf l D cI cW (w_ways (Int32.toInt64 ((nI t) - 1)) n S) (l_pow (Int32.toInt64 (nI t)) n) 1) ⟨Nat.le_of_ble_eq_true rfl, Nat.le_of_ble_eq_true rfl⟩ ⟨Nat.zero_le _, Nat.zero_le _⟩ [] rfl ⟨rfl, rfl⟩ rfl rfl rfl (Nat.le_of_ble_eq_true rfl) (ff_nil) (ws' := [xl xx xn xt xk xe xo xv xc xr cI Z, wl xn cI S, cl xc xs xw cW qc, wl (xw 0) cI z9_61.1, wl (xw 1) cI z9_61.2.1, wl (xw 2) cI z9_61.2.2.1, wl (xw 3) cI z9_61.2.2.2.1, wl (xw 4) cI z9_61.2.2.2.2.1, wl (xw 5) cI z9_61.2.2.2.2.2.1, wl (xw 6) cI z9_61.2.2.2.2.2.2.1, wl (xw 7) cI z9_61.2.2.2.2.2.2.2]) rfl ?_
  exact G.lret X Rr dX6_cold_73 (pje_mk ((z9_61.1, z9_61.2.1, z9_61.2.2.1, z9_61.2.2.2.1, z9_61.2.2.2.2.1, z9_61.2.2.2.2.2.1, z9_61.2.2.2.2.2.2.1, z9_61.2.2.2.2.2.2.2)) (by rfl) (by rfl))

set_option maxRecDepth 20000 in
theorem tX6_mean_oth (l : Launch) (D : va_G) (cI cW : ClassId) (xx : Nat → Nat) (xn : Nat → Nat) (xt : Nat → Nat) (xk : Nat → Nat) (xe : Nat → Nat) (xo : Nat → Nat) (xv : Nat → Nat) (xc : Nat → Nat) (xr : Nat → Nat) (Z : Bool × FN) (S : WS) (w : Int32) (hS : Ok S) (hw : z_in w 2 = false) : CT l D cI cW yX6_mean cX6_mean 2 (some .long) ⟨2, 0, 0, 43⟩ [.ref (xx 0), .int w] ([xl xx xn xt xk xe xo xv xc xr cI Z, wl xn cI S]) (PJ (4000000000000000000 - Int32.toInt64 (-(nI 2))) ([xl xx xn xt xk xe xo xv xc xr cI (x_rf Z 2), wl xn cI S])) := by
  refine CT.of RX6 rfl (by decide +kernel) (Nat.le_of_ble_eq_true rfl) [(0, .ref (xx 0)), (1, .int w)] rfl (fun x X Rr hnm => ?_)
  have hth := hS.th
  have hpe := hS.pe
  refine G.il X dX6_mean_0 1 rfl ?_
  refine G.z_lt X (a := w) dX6_mean_1 (fun b1 => ?_) (fun b1 => ?_)
  · refine G.al X dX6_mean_9 0 rfl ?_
    refine G.pu X dX6_mean_10 ?_
    refine G.cvj X kX6_refuseLong lX6_244 dX6_mean_12 (tX6_refuseLong l D cI cW xx xn xt xk xe xo xv xc xr Z 2 (by omega) (by omega)) ⟨Nat.le_of_ble_eq_true rfl, Nat.le_of_ble_eq_true rfl⟩ ⟨Nat.zero_le _, Nat.zero_le _⟩ [0] rfl ⟨rfl, rfl⟩ rfl rfl 0 0 rfl rfl rfl rfl (Nat.le_of_ble_eq_true rfl) (ff_cons (xl_fst _ _ _ _ _ _ _ _ _ _ _ _) (ff_nil)) (ws' := [xl xx xn xt xk xe xo xv xc xr cI (x_rf Z 2), wl xn cI S]) rfl ?_
    exact G.lret X Rr dX6_mean_15 (pj_mk (by rfl) (by rfl))
  · refine G.il X dX6_mean_4 1 rfl ?_
    refine G.pu X dX6_mean_5 ?_
    refine G.c_le X (a := w) (b := 1) dX6_mean_6 (fun b6 => absurd (((z_bad2 hw).resolve_left b1)) b6) (fun b6 => ?_)
    refine G.al X dX6_mean_9 0 rfl ?_
    refine G.pu X dX6_mean_10 ?_
    refine G.cvj X kX6_refuseLong lX6_244 dX6_mean_12 (tX6_refuseLong l D cI cW xx xn xt xk xe xo xv xc xr Z 2 (by omega) (by omega)) ⟨Nat.le_of_ble_eq_true rfl, Nat.le_of_ble_eq_true rfl⟩ ⟨Nat.zero_le _, Nat.zero_le _⟩ [0] rfl ⟨rfl, rfl⟩ rfl rfl 0 0 rfl rfl rfl rfl (Nat.le_of_ble_eq_true rfl) (ff_cons (xl_fst _ _ _ _ _ _ _ _ _ _ _ _) (ff_nil)) (ws' := [xl xx xn xt xk xe xo xv xc xr cI (x_rf Z 2), wl xn cI S]) rfl ?_
    exact G.lret X Rr dX6_mean_15 (pj_mk (by rfl) (by rfl))

set_option maxRecDepth 20000 in
theorem tX6_mean_0 (l : Launch) (D : va_G) (cI cW : ClassId) (xx : Nat → Nat) (xn : Nat → Nat) (xt : Nat → Nat) (xk : Nat → Nat) (xe : Nat → Nat) (xo : Nat → Nat) (xv : Nat → Nat) (xc : Nat → Nat) (xr : Nat → Nat) (Z : Bool × FN) (S : WS) (hS : Ok S) : CT l D cI cW yX6_mean cX6_mean 2 (some .long) ⟨1, 0, 0, 31⟩ [.ref (xx 0), .int 0] ([xl xx xn xt xk xe xo xv xc xr cI Z, wl xn cI S]) (PJ (l_part (Int32.toInt64 (sumf (s_le S) (s_th S))) (Int32.toInt64 (if nI (s_th S) < 1 then 1 else nI (s_th S))) 0) ([xl xx xn xt xk xe xo xv xc xr cI Z, wl xn cI S])) := by
  refine CT.of RX6 rfl (by decide +kernel) (Nat.le_of_ble_eq_true rfl) [(0, .ref (xx 0)), (1, .int 0)] rfl (fun x X Rr hnm => ?_)
  have hth := hS.th
  have hpe := hS.pe
  refine G.il X dX6_mean_0 1 rfl ?_
  refine G.z_lt X (a := 0) dX6_mean_1 (fun b1 => absurd b1 (by decide)) (fun b1 => ?_)
  refine G.il X dX6_mean_4 1 rfl ?_
  refine G.pu X dX6_mean_5 ?_
  refine G.c_le X (a := 0) (b := 1) dX6_mean_6 (fun b6 => ?_) (fun b6 => absurd b6 (by decide))
  refine G.al X dX6_mean_16 0 rfl ?_
  refine G.get X fX6_10 dX6_mean_17 0 0 rfl rfl rfl ?_
  refine G.cvi X kX5_leftOfAll lX6_260 dX6_mean_20 (tX5_leftOfAll l D cI cW xn S (by omega)) ⟨Nat.le_of_ble_eq_true rfl, Nat.le_of_ble_eq_true rfl⟩ ⟨Nat.zero_le _, Nat.zero_le _⟩ [1] rfl ⟨rfl, rfl⟩ rfl rfl 1 0 rfl rfl rfl rfl (Nat.le_of_ble_eq_true rfl) (ff_cons (wl_fst _ _ _ _) (ff_nil)) (ws' := [xl xx xn xt xk xe xo xv xc xr cI Z, wl xn cI S]) rfl ?_
  refine G.i2l X dX6_mean_23 ?_
  refine G.al X dX6_mean_24 0 rfl ?_
  refine G.get X fX6_10 dX6_mean_25 0 0 rfl rfl rfl ?_
  refine G.get X fX6_225 dX6_mean_28 1 0 rfl rfl rfl ?_
  refine G.pu X dX6_mean_31 ?_
  refine G.mmax X lX6_263 dX6_mean_32 (Nat.le_of_ble_eq_true rfl) (Nat.le_of_ble_eq_true rfl) ⟨Nat.zero_le _, Nat.zero_le _⟩ ?_
  refine G.i2l X dX6_mean_35 ?_
  refine G.il X dX6_mean_36 1 rfl ?_
  refine G.cstj X kX6_partOf lX6_256 dX6_mean_37 (tX6_partOf l D cI cW (Int32.toInt64 (sumf (s_le S) (s_th S))) (Int32.toInt64 (if nI (s_th S) < 1 then 1 else nI (s_th S))) 0) ⟨Nat.le_of_ble_eq_true rfl, Nat.le_of_ble_eq_true rfl⟩ ⟨Nat.zero_le _, Nat.zero_le _⟩ [] rfl ⟨rfl, rfl⟩ rfl rfl rfl (Nat.le_of_ble_eq_true rfl) (ff_nil) (ws' := [xl xx xn xt xk xe xo xv xc xr cI Z, wl xn cI S]) rfl ?_
  exact G.lret X Rr dX6_mean_40 (pj_mk (by rfl) (by rfl))

set_option maxRecDepth 20000 in
theorem tX6_mean_1 (l : Launch) (D : va_G) (cI cW : ClassId) (xx : Nat → Nat) (xn : Nat → Nat) (xt : Nat → Nat) (xk : Nat → Nat) (xe : Nat → Nat) (xo : Nat → Nat) (xv : Nat → Nat) (xc : Nat → Nat) (xr : Nat → Nat) (Z : Bool × FN) (S : WS) (hS : Ok S) : CT l D cI cW yX6_mean cX6_mean 2 (some .long) ⟨1, 0, 0, 31⟩ [.ref (xx 0), .int 1] ([xl xx xn xt xk xe xo xv xc xr cI Z, wl xn cI S]) (PJ (l_part (Int32.toInt64 (sumf (s_le S) (s_th S))) (Int32.toInt64 (if nI (s_th S) < 1 then 1 else nI (s_th S))) 1) ([xl xx xn xt xk xe xo xv xc xr cI Z, wl xn cI S])) := by
  refine CT.of RX6 rfl (by decide +kernel) (Nat.le_of_ble_eq_true rfl) [(0, .ref (xx 0)), (1, .int 1)] rfl (fun x X Rr hnm => ?_)
  have hth := hS.th
  have hpe := hS.pe
  refine G.il X dX6_mean_0 1 rfl ?_
  refine G.z_lt X (a := 1) dX6_mean_1 (fun b1 => absurd b1 (by decide)) (fun b1 => ?_)
  refine G.il X dX6_mean_4 1 rfl ?_
  refine G.pu X dX6_mean_5 ?_
  refine G.c_le X (a := 1) (b := 1) dX6_mean_6 (fun b6 => ?_) (fun b6 => absurd b6 (by decide))
  refine G.al X dX6_mean_16 0 rfl ?_
  refine G.get X fX6_10 dX6_mean_17 0 0 rfl rfl rfl ?_
  refine G.cvi X kX5_leftOfAll lX6_260 dX6_mean_20 (tX5_leftOfAll l D cI cW xn S (by omega)) ⟨Nat.le_of_ble_eq_true rfl, Nat.le_of_ble_eq_true rfl⟩ ⟨Nat.zero_le _, Nat.zero_le _⟩ [1] rfl ⟨rfl, rfl⟩ rfl rfl 1 0 rfl rfl rfl rfl (Nat.le_of_ble_eq_true rfl) (ff_cons (wl_fst _ _ _ _) (ff_nil)) (ws' := [xl xx xn xt xk xe xo xv xc xr cI Z, wl xn cI S]) rfl ?_
  refine G.i2l X dX6_mean_23 ?_
  refine G.al X dX6_mean_24 0 rfl ?_
  refine G.get X fX6_10 dX6_mean_25 0 0 rfl rfl rfl ?_
  refine G.get X fX6_225 dX6_mean_28 1 0 rfl rfl rfl ?_
  refine G.pu X dX6_mean_31 ?_
  refine G.mmax X lX6_263 dX6_mean_32 (Nat.le_of_ble_eq_true rfl) (Nat.le_of_ble_eq_true rfl) ⟨Nat.zero_le _, Nat.zero_le _⟩ ?_
  refine G.i2l X dX6_mean_35 ?_
  refine G.il X dX6_mean_36 1 rfl ?_
  refine G.cstj X kX6_partOf lX6_256 dX6_mean_37 (tX6_partOf l D cI cW (Int32.toInt64 (sumf (s_le S) (s_th S))) (Int32.toInt64 (if nI (s_th S) < 1 then 1 else nI (s_th S))) 1) ⟨Nat.le_of_ble_eq_true rfl, Nat.le_of_ble_eq_true rfl⟩ ⟨Nat.zero_le _, Nat.zero_le _⟩ [] rfl ⟨rfl, rfl⟩ rfl rfl rfl (Nat.le_of_ble_eq_true rfl) (ff_nil) (ws' := [xl xx xn xt xk xe xo xv xc xr cI Z, wl xn cI S]) rfl ?_
  exact G.lret X Rr dX6_mean_40 (pj_mk (by rfl) (by rfl))

set_option maxRecDepth 20000 in
theorem tX6_lots_lo (l : Launch) (D : va_G) (cI cW : ClassId) (xx : Nat → Nat) (xn : Nat → Nat) (xt : Nat → Nat) (xk : Nat → Nat) (xe : Nat → Nat) (xo : Nat → Nat) (xv : Nat → Nat) (xc : Nat → Nat) (xr : Nat → Nat) (Z : Bool × FN) (S : WS) (n : Int32) (z : Int32) (w : Int32) (ha : n < 1) : CT l D cI cW yX6_lots cX6_lots 5 (some .int) ⟨2, 0, 0, 47⟩ [.ref (xx 0), .int n, .int z, .int w] ([xl xx xn xt xk xe xo xv xc xr cI Z, wl xn cI S]) (PI (-4) ([xl xx xn xt xk xe xo xv xc xr cI (x_rf Z 4), wl xn cI S])) := by
  refine CT.of RX6 rfl (by decide +kernel) (Nat.le_of_ble_eq_true rfl) [(0, .ref (xx 0)), (1, .int n), (2, .int z), (3, .int w)] rfl (fun x X Rr hnm => ?_)
  refine G.il X dX6_lots_0 1 rfl ?_
  refine G.pu X dX6_lots_1 ?_
  refine G.pu X dX6_lots_2 ?_
  refine G.il X dX6_lots_4 3 rfl ?_
  refine G.pu X dX6_lots_5 ?_
  refine G.csti X kX6_outsideOrOther lX6_162 dX6_lots_6 (tX6_outsideOrOther_lo l D cI cW n 1 20 w 1 ha) ⟨Nat.le_of_ble_eq_true rfl, Nat.le_of_ble_eq_true rfl⟩ ⟨Nat.zero_le _, Nat.zero_le _⟩ [] rfl ⟨rfl, rfl⟩ rfl rfl rfl (Nat.le_of_ble_eq_true rfl) (ff_nil) (ws' := [xl xx xn xt xk xe xo xv xc xr cI Z, wl xn cI S]) rfl ?_
  refine G.is X dX6_lots_9 (by decide) (lv' := [(4, .int (-4)), (0, .ref (xx 0)), (1, .int n), (2, .int z), (3, .int w)]) rfl ?_
  refine G.il X dX6_lots_11 0 rfl ?_
  refine G.z_eq X (a := (-4)) dX6_lots_13 (fun b13 => absurd b13 (by decide)) (fun b13 => ?_)
  refine G.al X dX6_lots_16 1 rfl ?_
  refine G.il X dX6_lots_17 0 rfl ?_
  refine G.cvi X kX6_refuse lX6_65 dX6_lots_19 (tX6_refuse l D cI cW xx xn xt xk xe xo xv xc xr Z 4 (by omega) (by omega)) ⟨Nat.le_of_ble_eq_true rfl, Nat.le_of_ble_eq_true rfl⟩ ⟨Nat.zero_le _, Nat.zero_le _⟩ [0] rfl ⟨rfl, rfl⟩ rfl rfl 0 0 rfl rfl rfl rfl (Nat.le_of_ble_eq_true rfl) (ff_cons (xl_fst _ _ _ _ _ _ _ _ _ _ _ _) (ff_nil)) (ws' := [xl xx xn xt xk xe xo xv xc xr cI (x_rf Z 4), wl xn cI S]) rfl ?_
  exact G.iret X Rr (v := (-(nI 4))) dX6_lots_22 (pi_mk (by rfl) (by rfl))

set_option maxRecDepth 20000 in
theorem tX6_lots_hi (l : Launch) (D : va_G) (cI cW : ClassId) (xx : Nat → Nat) (xn : Nat → Nat) (xt : Nat → Nat) (xk : Nat → Nat) (xe : Nat → Nat) (xo : Nat → Nat) (xv : Nat → Nat) (xc : Nat → Nat) (xr : Nat → Nat) (Z : Bool × FN) (S : WS) (n : Int32) (z : Int32) (w : Int32) (ha : ¬ n < 1) (hb : 20 < n) : CT l D cI cW yX6_lots cX6_lots 5 (some .int) ⟨2, 0, 0, 47⟩ [.ref (xx 0), .int n, .int z, .int w] ([xl xx xn xt xk xe xo xv xc xr cI Z, wl xn cI S]) (PI (-6) ([xl xx xn xt xk xe xo xv xc xr cI (x_rf Z 6), wl xn cI S])) := by
  refine CT.of RX6 rfl (by decide +kernel) (Nat.le_of_ble_eq_true rfl) [(0, .ref (xx 0)), (1, .int n), (2, .int z), (3, .int w)] rfl (fun x X Rr hnm => ?_)
  refine G.il X dX6_lots_0 1 rfl ?_
  refine G.pu X dX6_lots_1 ?_
  refine G.pu X dX6_lots_2 ?_
  refine G.il X dX6_lots_4 3 rfl ?_
  refine G.pu X dX6_lots_5 ?_
  refine G.csti X kX6_outsideOrOther lX6_162 dX6_lots_6 (tX6_outsideOrOther_hi l D cI cW n 1 20 w 1 ha hb) ⟨Nat.le_of_ble_eq_true rfl, Nat.le_of_ble_eq_true rfl⟩ ⟨Nat.zero_le _, Nat.zero_le _⟩ [] rfl ⟨rfl, rfl⟩ rfl rfl rfl (Nat.le_of_ble_eq_true rfl) (ff_nil) (ws' := [xl xx xn xt xk xe xo xv xc xr cI Z, wl xn cI S]) rfl ?_
  refine G.is X dX6_lots_9 (by decide) (lv' := [(4, .int (-6)), (0, .ref (xx 0)), (1, .int n), (2, .int z), (3, .int w)]) rfl ?_
  refine G.il X dX6_lots_11 0 rfl ?_
  refine G.z_eq X (a := (-6)) dX6_lots_13 (fun b13 => absurd b13 (by decide)) (fun b13 => ?_)
  refine G.al X dX6_lots_16 1 rfl ?_
  refine G.il X dX6_lots_17 0 rfl ?_
  refine G.cvi X kX6_refuse lX6_65 dX6_lots_19 (tX6_refuse l D cI cW xx xn xt xk xe xo xv xc xr Z 6 (by omega) (by omega)) ⟨Nat.le_of_ble_eq_true rfl, Nat.le_of_ble_eq_true rfl⟩ ⟨Nat.zero_le _, Nat.zero_le _⟩ [0] rfl ⟨rfl, rfl⟩ rfl rfl 0 0 rfl rfl rfl rfl (Nat.le_of_ble_eq_true rfl) (ff_cons (xl_fst _ _ _ _ _ _ _ _ _ _ _ _) (ff_nil)) (ws' := [xl xx xn xt xk xe xo xv xc xr cI (x_rf Z 6), wl xn cI S]) rfl ?_
  exact G.iret X Rr (v := (-(nI 6))) dX6_lots_22 (pi_mk (by rfl) (by rfl))

set_option maxRecDepth 20000 in
theorem tX6_lots_oth (l : Launch) (D : va_G) (cI cW : ClassId) (xx : Nat → Nat) (xn : Nat → Nat) (xt : Nat → Nat) (xk : Nat → Nat) (xe : Nat → Nat) (xo : Nat → Nat) (xv : Nat → Nat) (xc : Nat → Nat) (xr : Nat → Nat) (Z : Bool × FN) (S : WS) (n : Nat) (z : Int32) (w : Int32) (ha : 1 ≤ n) (hn : n ≤ 20) (hw : z_in w 2 = false) : CT l D cI cW yX6_lots cX6_lots 5 (some .int) ⟨2, 0, 0, 47⟩ [.ref (xx 0), .int (nI n), .int z, .int w] ([xl xx xn xt xk xe xo xv xc xr cI Z, wl xn cI S]) (PI (-2) ([xl xx xn xt xk xe xo xv xc xr cI (x_rf Z 2), wl xn cI S])) := by
  refine CT.of RX6 rfl (by decide +kernel) (Nat.le_of_ble_eq_true rfl) [(0, .ref (xx 0)), (1, .int (nI n)), (2, .int z), (3, .int w)] rfl (fun x X Rr hnm => ?_)
  refine G.il X dX6_lots_0 1 rfl ?_
  refine G.pu X dX6_lots_1 ?_
  refine G.pu X dX6_lots_2 ?_
  refine G.il X dX6_lots_4 3 rfl ?_
  refine G.pu X dX6_lots_5 ?_
  refine G.csti X kX6_outsideOrOther lX6_162 dX6_lots_6 (tX6_outsideOrOther_oth l D cI cW n 1 20 w (by omega) (by omega) (by omega) (z_bad2 hw)) ⟨Nat.le_of_ble_eq_true rfl, Nat.le_of_ble_eq_true rfl⟩ ⟨Nat.zero_le _, Nat.zero_le _⟩ [] rfl ⟨rfl, rfl⟩ rfl rfl rfl (Nat.le_of_ble_eq_true rfl) (ff_nil) (ws' := [xl xx xn xt xk xe xo xv xc xr cI Z, wl xn cI S]) rfl ?_
  refine G.is X dX6_lots_9 (by decide) (lv' := [(4, .int (-2)), (0, .ref (xx 0)), (1, .int (nI n)), (2, .int z), (3, .int w)]) rfl ?_
  refine G.il X dX6_lots_11 0 rfl ?_
  refine G.z_eq X (a := (-2)) dX6_lots_13 (fun b13 => absurd b13 (by decide)) (fun b13 => ?_)
  refine G.al X dX6_lots_16 1 rfl ?_
  refine G.il X dX6_lots_17 0 rfl ?_
  refine G.cvi X kX6_refuse lX6_65 dX6_lots_19 (tX6_refuse l D cI cW xx xn xt xk xe xo xv xc xr Z 2 (by omega) (by omega)) ⟨Nat.le_of_ble_eq_true rfl, Nat.le_of_ble_eq_true rfl⟩ ⟨Nat.zero_le _, Nat.zero_le _⟩ [0] rfl ⟨rfl, rfl⟩ rfl rfl 0 0 rfl rfl rfl rfl (Nat.le_of_ble_eq_true rfl) (ff_cons (xl_fst _ _ _ _ _ _ _ _ _ _ _ _) (ff_nil)) (ws' := [xl xx xn xt xk xe xo xv xc xr cI (x_rf Z 2), wl xn cI S]) rfl ?_
  exact G.iret X Rr (v := (-(nI 2))) dX6_lots_22 (pi_mk (by rfl) (by rfl))

set_option maxRecDepth 20000 in
theorem tX6_lots_no0 (l : Launch) (D : va_G) (cI cW : ClassId) (xx : Nat → Nat) (xn : Nat → Nat) (xt : Nat → Nat) (xk : Nat → Nat) (xe : Nat → Nat) (xo : Nat → Nat) (xv : Nat → Nat) (xc : Nat → Nat) (xr : Nat → Nat) (Z : Bool × FN) (S : WS) (n : Nat) (z : Int32) (hS : Ok S) (ha : 1 ≤ n) (hn : n ≤ 20) (hp0 : s_pe S = 0) : CT l D cI cW yX6_lots cX6_lots 5 (some .int) ⟨2, 0, 0, 47⟩ [.ref (xx 0), .int (nI n), .int z, .int 0] ([xl xx xn xt xk xe xo xv xc xr cI Z, wl xn cI S]) (PI (-3) ([xl xx xn xt xk xe xo xv xc xr cI (x_rf Z 3), wl xn cI S])) := by
  refine CT.of RX6 rfl (by decide +kernel) (Nat.le_of_ble_eq_true rfl) [(0, .ref (xx 0)), (1, .int (nI n)), (2, .int z), (3, .int 0)] rfl (fun x X Rr hnm => ?_)
  have hth := hS.th
  have hpe := hS.pe
  refine G.il X dX6_lots_0 1 rfl ?_
  refine G.pu X dX6_lots_1 ?_
  refine G.pu X dX6_lots_2 ?_
  refine G.il X dX6_lots_4 3 rfl ?_
  refine G.pu X dX6_lots_5 ?_
  refine G.csti X kX6_outsideOrOther lX6_162 dX6_lots_6 (tX6_outsideOrOther_ok l D cI cW n 1 20 0 (by omega) (by omega) (by omega) (by omega)) ⟨Nat.le_of_ble_eq_true rfl, Nat.le_of_ble_eq_true rfl⟩ ⟨Nat.zero_le _, Nat.zero_le _⟩ [] rfl ⟨rfl, rfl⟩ rfl rfl rfl (Nat.le_of_ble_eq_true rfl) (ff_nil) (ws' := [xl xx xn xt xk xe xo xv xc xr cI Z, wl xn cI S]) rfl ?_
  refine G.is X dX6_lots_9 (by decide) (lv' := [(4, .int 0), (0, .ref (xx 0)), (1, .int (nI n)), (2, .int z), (3, .int 0)]) rfl ?_
  refine G.il X dX6_lots_11 0 rfl ?_
  refine G.z_eq X (a := 0) dX6_lots_13 (fun b13 => ?_) (fun b13 => absurd b13 (by decide))
  refine G.al X dX6_lots_23 1 rfl ?_
  refine G.get X fX6_10 dX6_lots_24 0 0 rfl rfl rfl ?_
  refine G.get X fX6_196 dX6_lots_27 1 0 rfl rfl rfl ?_
  refine G.nz_ne X (a := s_pe S) (by omega) dX6_lots_30 (fun b30 => absurd b30 (by omega)) (fun b30 => ?_)
  refine G.al X dX6_lots_33 1 rfl ?_
  refine G.pu X dX6_lots_34 ?_
  refine G.cvi X kX6_refuse lX6_65 dX6_lots_36 (tX6_refuse l D cI cW xx xn xt xk xe xo xv xc xr Z 3 (by omega) (by omega)) ⟨Nat.le_of_ble_eq_true rfl, Nat.le_of_ble_eq_true rfl⟩ ⟨Nat.zero_le _, Nat.zero_le _⟩ [0] rfl ⟨rfl, rfl⟩ rfl rfl 0 0 rfl rfl rfl rfl (Nat.le_of_ble_eq_true rfl) (ff_cons (xl_fst _ _ _ _ _ _ _ _ _ _ _ _) (ff_nil)) (ws' := [xl xx xn xt xk xe xo xv xc xr cI (x_rf Z 3), wl xn cI S]) rfl ?_
  exact G.iret X Rr (v := (-(nI 3))) dX6_lots_39 (pi_mk (by rfl) (by rfl))

set_option maxRecDepth 20000 in
theorem tX6_lots_no1 (l : Launch) (D : va_G) (cI cW : ClassId) (xx : Nat → Nat) (xn : Nat → Nat) (xt : Nat → Nat) (xk : Nat → Nat) (xe : Nat → Nat) (xo : Nat → Nat) (xv : Nat → Nat) (xc : Nat → Nat) (xr : Nat → Nat) (Z : Bool × FN) (S : WS) (n : Nat) (z : Int32) (hS : Ok S) (ha : 1 ≤ n) (hn : n ≤ 20) (hp0 : s_pe S = 0) : CT l D cI cW yX6_lots cX6_lots 5 (some .int) ⟨2, 0, 0, 47⟩ [.ref (xx 0), .int (nI n), .int z, .int 1] ([xl xx xn xt xk xe xo xv xc xr cI Z, wl xn cI S]) (PI (-3) ([xl xx xn xt xk xe xo xv xc xr cI (x_rf Z 3), wl xn cI S])) := by
  refine CT.of RX6 rfl (by decide +kernel) (Nat.le_of_ble_eq_true rfl) [(0, .ref (xx 0)), (1, .int (nI n)), (2, .int z), (3, .int 1)] rfl (fun x X Rr hnm => ?_)
  have hth := hS.th
  have hpe := hS.pe
  refine G.il X dX6_lots_0 1 rfl ?_
  refine G.pu X dX6_lots_1 ?_
  refine G.pu X dX6_lots_2 ?_
  refine G.il X dX6_lots_4 3 rfl ?_
  refine G.pu X dX6_lots_5 ?_
  refine G.csti X kX6_outsideOrOther lX6_162 dX6_lots_6 (tX6_outsideOrOther_ok l D cI cW n 1 20 1 (by omega) (by omega) (by omega) (by omega)) ⟨Nat.le_of_ble_eq_true rfl, Nat.le_of_ble_eq_true rfl⟩ ⟨Nat.zero_le _, Nat.zero_le _⟩ [] rfl ⟨rfl, rfl⟩ rfl rfl rfl (Nat.le_of_ble_eq_true rfl) (ff_nil) (ws' := [xl xx xn xt xk xe xo xv xc xr cI Z, wl xn cI S]) rfl ?_
  refine G.is X dX6_lots_9 (by decide) (lv' := [(4, .int 0), (0, .ref (xx 0)), (1, .int (nI n)), (2, .int z), (3, .int 1)]) rfl ?_
  refine G.il X dX6_lots_11 0 rfl ?_
  refine G.z_eq X (a := 0) dX6_lots_13 (fun b13 => ?_) (fun b13 => absurd b13 (by decide))
  refine G.al X dX6_lots_23 1 rfl ?_
  refine G.get X fX6_10 dX6_lots_24 0 0 rfl rfl rfl ?_
  refine G.get X fX6_196 dX6_lots_27 1 0 rfl rfl rfl ?_
  refine G.nz_ne X (a := s_pe S) (by omega) dX6_lots_30 (fun b30 => absurd b30 (by omega)) (fun b30 => ?_)
  refine G.al X dX6_lots_33 1 rfl ?_
  refine G.pu X dX6_lots_34 ?_
  refine G.cvi X kX6_refuse lX6_65 dX6_lots_36 (tX6_refuse l D cI cW xx xn xt xk xe xo xv xc xr Z 3 (by omega) (by omega)) ⟨Nat.le_of_ble_eq_true rfl, Nat.le_of_ble_eq_true rfl⟩ ⟨Nat.zero_le _, Nat.zero_le _⟩ [0] rfl ⟨rfl, rfl⟩ rfl rfl 0 0 rfl rfl rfl rfl (Nat.le_of_ble_eq_true rfl) (ff_cons (xl_fst _ _ _ _ _ _ _ _ _ _ _ _) (ff_nil)) (ws' := [xl xx xn xt xk xe xo xv xc xr cI (x_rf Z 3), wl xn cI S]) rfl ?_
  exact G.iret X Rr (v := (-(nI 3))) dX6_lots_39 (pi_mk (by rfl) (by rfl))

set_option maxRecDepth 20000 in
theorem tX6_lots_0 (l : Launch) (D : va_G) (cI cW : ClassId) (xx : Nat → Nat) (xn : Nat → Nat) (xt : Nat → Nat) (xk : Nat → Nat) (xe : Nat → Nat) (xo : Nat → Nat) (xv : Nat → Nat) (xc : Nat → Nat) (xr : Nat → Nat) (Z : Bool × FN) (S : WS) (xs : Nat → Nat) (xw : Nat → Nat → Nat) (qc : Int32 × Int32 × Int32) (T4 : WS) (n : Nat) (z : Int32) (hS : Ok S) (ha : 1 ≤ n) (hn : n ≤ 20) (hp0 : 0 < s_pe S) : CT l D cI cW yX6_lots cX6_lots 5 (some .int) ⟨5, 0, 0, 115⟩ [.ref (xx 0), .int (nI n), .int z, .int 0] ([xl xx xn xt xk xe xo xv xc xr cI Z, wl xn cI S, cl xc xs xw cW qc, wl xs cI T4]) (PIE (k_w (w_lots S z n)) (fun T9 : WS => [xl xx xn xt xk xe xo xv xc xr cI Z, wl xn cI S, cl xc xs xw cW (w_lots S z n), wl xs cI T9])) := by
  refine CT.of RX6 rfl (by decide +kernel) (Nat.le_of_ble_eq_true rfl) [(0, .ref (xx 0)), (1, .int (nI n)), (2, .int z), (3, .int 0)] rfl (fun x X Rr hnm => ?_)
  have hth := hS.th
  have hpe := hS.pe
  refine G.il X dX6_lots_0 1 rfl ?_
  refine G.pu X dX6_lots_1 ?_
  refine G.pu X dX6_lots_2 ?_
  refine G.il X dX6_lots_4 3 rfl ?_
  refine G.pu X dX6_lots_5 ?_
  refine G.csti X kX6_outsideOrOther lX6_162 dX6_lots_6 (tX6_outsideOrOther_ok l D cI cW n 1 20 0 (by omega) (by omega) (by omega) (by omega)) ⟨Nat.le_of_ble_eq_true rfl, Nat.le_of_ble_eq_true rfl⟩ ⟨Nat.zero_le _, Nat.zero_le _⟩ [] rfl ⟨rfl, rfl⟩ rfl rfl rfl (Nat.le_of_ble_eq_true rfl) (ff_nil) (ws' := [xl xx xn xt xk xe xo xv xc xr cI Z, wl xn cI S, cl xc xs xw cW qc, wl xs cI T4]) rfl ?_
  refine G.is X dX6_lots_9 (by decide) (lv' := [(4, .int 0), (0, .ref (xx 0)), (1, .int (nI n)), (2, .int z), (3, .int 0)]) rfl ?_
  refine G.il X dX6_lots_11 0 rfl ?_
  refine G.z_eq X (a := 0) dX6_lots_13 (fun b13 => ?_) (fun b13 => absurd b13 (by decide))
  refine G.al X dX6_lots_23 1 rfl ?_
  refine G.get X fX6_10 dX6_lots_24 0 0 rfl rfl rfl ?_
  refine G.get X fX6_196 dX6_lots_27 1 0 rfl rfl rfl ?_
  refine G.nz_ne X (a := s_pe S) (by omega) dX6_lots_30 (fun b30 => ?_) (fun b30 => absurd b30 (by omega))
  refine G.al X dX6_lots_40 1 rfl ?_
  refine G.get X fX6_50 dX6_lots_41 0 0 rfl rfl rfl ?_
  refine G.al X dX6_lots_44 1 rfl ?_
  refine G.get X fX6_10 dX6_lots_45 0 0 rfl rfl rfl ?_
  refine G.il X dX6_lots_48 2 rfl ?_
  refine G.il X dX6_lots_49 3 rfl ?_
  refine G.cvve X kX1_drawLots lX6_279 dX6_lots_50 (tX1_drawLots l D cI cW xc xs xw qc T4 xn S n z hS (by omega) (by omega)) ⟨Nat.le_of_ble_eq_true rfl, Nat.le_of_ble_eq_true rfl⟩ ⟨Nat.zero_le _, Nat.zero_le _⟩ [2, 3, 1] rfl ⟨rfl, rfl⟩ rfl rfl 2 0 rfl rfl rfl rfl (Nat.le_of_ble_eq_true rfl) (fun _ => (ff_cons (cl_fst _ _ _ _ _ _) (ff_cons (wl_fst _ _ _ _) (ff_cons (wl_fst _ _ _ _) (ff_nil))))) (f8 := fun T9_50 : WS => [xl xx xn xt xk xe xo xv xc xr cI Z, wl xn cI S, cl xc xs xw cW (w_lots S z n), wl xs cI T9_50]) (fun _ => rfl) (fun T9_50 => ?_)
  refine G.il X dX6_lots_53 4 rfl ?_
  refine G.z_ne X (a := 0) dX6_lots_54 (fun b54 => absurd b54 (by decide)) (fun b54 => ?_)
  refine G.al X dX6_lots_57 1 rfl ?_
  refine G.get X fX6_50 dX6_lots_58 0 0 rfl rfl rfl ?_
  refine G.get X fX6_283 dX6_lots_61 2 0 rfl rfl rfl ?_
  refine G.go X dX6_lots_64 ?_
  exact G.iret X Rr (v := (k_w (w_lots S z n))) dX6_lots_74 (pie_mk (T9_50) (by rfl) (by rfl))

set_option maxRecDepth 20000 in
theorem tX6_lots_1 (l : Launch) (D : va_G) (cI cW : ClassId) (xx : Nat → Nat) (xn : Nat → Nat) (xt : Nat → Nat) (xk : Nat → Nat) (xe : Nat → Nat) (xo : Nat → Nat) (xv : Nat → Nat) (xc : Nat → Nat) (xr : Nat → Nat) (Z : Bool × FN) (S : WS) (xs : Nat → Nat) (xw : Nat → Nat → Nat) (qc : Int32 × Int32 × Int32) (T4 : WS) (n : Nat) (z : Int32) (hS : Ok S) (ha : 1 ≤ n) (hn : n ≤ 20) (hp0 : 0 < s_pe S) : CT l D cI cW yX6_lots cX6_lots 5 (some .int) ⟨5, 0, 0, 115⟩ [.ref (xx 0), .int (nI n), .int z, .int 1] ([xl xx xn xt xk xe xo xv xc xr cI Z, wl xn cI S, cl xc xs xw cW qc, wl xs cI T4]) (PIE (k_a (w_lots S z n)) (fun T9 : WS => [xl xx xn xt xk xe xo xv xc xr cI Z, wl xn cI S, cl xc xs xw cW (w_lots S z n), wl xs cI T9])) := by
  refine CT.of RX6 rfl (by decide +kernel) (Nat.le_of_ble_eq_true rfl) [(0, .ref (xx 0)), (1, .int (nI n)), (2, .int z), (3, .int 1)] rfl (fun x X Rr hnm => ?_)
  have hth := hS.th
  have hpe := hS.pe
  refine G.il X dX6_lots_0 1 rfl ?_
  refine G.pu X dX6_lots_1 ?_
  refine G.pu X dX6_lots_2 ?_
  refine G.il X dX6_lots_4 3 rfl ?_
  refine G.pu X dX6_lots_5 ?_
  refine G.csti X kX6_outsideOrOther lX6_162 dX6_lots_6 (tX6_outsideOrOther_ok l D cI cW n 1 20 1 (by omega) (by omega) (by omega) (by omega)) ⟨Nat.le_of_ble_eq_true rfl, Nat.le_of_ble_eq_true rfl⟩ ⟨Nat.zero_le _, Nat.zero_le _⟩ [] rfl ⟨rfl, rfl⟩ rfl rfl rfl (Nat.le_of_ble_eq_true rfl) (ff_nil) (ws' := [xl xx xn xt xk xe xo xv xc xr cI Z, wl xn cI S, cl xc xs xw cW qc, wl xs cI T4]) rfl ?_
  refine G.is X dX6_lots_9 (by decide) (lv' := [(4, .int 0), (0, .ref (xx 0)), (1, .int (nI n)), (2, .int z), (3, .int 1)]) rfl ?_
  refine G.il X dX6_lots_11 0 rfl ?_
  refine G.z_eq X (a := 0) dX6_lots_13 (fun b13 => ?_) (fun b13 => absurd b13 (by decide))
  refine G.al X dX6_lots_23 1 rfl ?_
  refine G.get X fX6_10 dX6_lots_24 0 0 rfl rfl rfl ?_
  refine G.get X fX6_196 dX6_lots_27 1 0 rfl rfl rfl ?_
  refine G.nz_ne X (a := s_pe S) (by omega) dX6_lots_30 (fun b30 => ?_) (fun b30 => absurd b30 (by omega))
  refine G.al X dX6_lots_40 1 rfl ?_
  refine G.get X fX6_50 dX6_lots_41 0 0 rfl rfl rfl ?_
  refine G.al X dX6_lots_44 1 rfl ?_
  refine G.get X fX6_10 dX6_lots_45 0 0 rfl rfl rfl ?_
  refine G.il X dX6_lots_48 2 rfl ?_
  refine G.il X dX6_lots_49 3 rfl ?_
  refine G.cvve X kX1_drawLots lX6_279 dX6_lots_50 (tX1_drawLots l D cI cW xc xs xw qc T4 xn S n z hS (by omega) (by omega)) ⟨Nat.le_of_ble_eq_true rfl, Nat.le_of_ble_eq_true rfl⟩ ⟨Nat.zero_le _, Nat.zero_le _⟩ [2, 3, 1] rfl ⟨rfl, rfl⟩ rfl rfl 2 0 rfl rfl rfl rfl (Nat.le_of_ble_eq_true rfl) (fun _ => (ff_cons (cl_fst _ _ _ _ _ _) (ff_cons (wl_fst _ _ _ _) (ff_cons (wl_fst _ _ _ _) (ff_nil))))) (f8 := fun T9_50 : WS => [xl xx xn xt xk xe xo xv xc xr cI Z, wl xn cI S, cl xc xs xw cW (w_lots S z n), wl xs cI T9_50]) (fun _ => rfl) (fun T9_50 => ?_)
  refine G.il X dX6_lots_53 4 rfl ?_
  refine G.z_ne X (a := 1) dX6_lots_54 (fun b54 => ?_) (fun b54 => absurd b54 (by decide))
  refine G.al X dX6_lots_67 1 rfl ?_
  refine G.get X fX6_50 dX6_lots_68 0 0 rfl rfl rfl ?_
  refine G.get X fX6_286 dX6_lots_71 2 0 rfl rfl rfl ?_
  exact G.iret X Rr (v := (k_a (w_lots S z n))) dX6_lots_74 (pie_mk (T9_50) (by rfl) (by rfl))

set_option maxRecDepth 20000 in
theorem tX6_image (l : Launch) (D : va_G) (cI cW : ClassId) (xx : Nat → Nat) (xn : Nat → Nat) (xt : Nat → Nat) (xk : Nat → Nat) (xe : Nat → Nat) (xo : Nat → Nat) (xv : Nat → Nat) (xc : Nat → Nat) (xr : Nat → Nat) (Z : Bool × FN) (S : WS) (K1 : WS) : CT l D cI cW yX6_image cX6_image 1 (some .int) ⟨2, 0, 0, 81⟩ [.ref (xx 0)] ([xl xx xn xt xk xe xo xv xc xr cI Z, wl xn cI S, wl xk cI K1]) (PI (s_da S) ([xl xx xn xt xk xe xo xv xc xr cI (true, x_f Z), wl xn cI S, wl xk cI S])) := by
  refine CT.of RX6 rfl (by decide +kernel) (Nat.le_of_ble_eq_true rfl) [(0, .ref (xx 0))] rfl (fun x X Rr hnm => ?_)
  refine G.al X dX6_image_0 0 rfl ?_
  refine G.get X fX6_19 dX6_image_1 0 0 rfl rfl rfl ?_
  refine G.al X dX6_image_4 0 rfl ?_
  refine G.get X fX6_10 dX6_image_5 0 0 rfl rfl rfl ?_
  refine G.cvv X kX5_becomes lX6_84 dX6_image_8 (tX5_becomes l D cI cW xk K1 xn S) ⟨Nat.le_of_ble_eq_true rfl, Nat.le_of_ble_eq_true rfl⟩ ⟨Nat.zero_le _, Nat.zero_le _⟩ [2, 1] rfl ⟨rfl, rfl⟩ rfl rfl 2 0 rfl rfl rfl rfl (Nat.le_of_ble_eq_true rfl) (ff_cons (wl_fst _ _ _ _) (ff_cons (wl_fst _ _ _ _) (ff_nil))) (ws' := [xl xx xn xt xk xe xo xv xc xr cI Z, wl xn cI S, wl xk cI S]) rfl ?_
  refine G.al X dX6_image_11 0 rfl ?_
  refine G.pu X dX6_image_12 ?_
  refine G.put X fX6_22 fe6 dX6_image_13 rfl (ty := .boolean) (by decide +kernel) rfl rfl 0 0 rfl rfl (Nat.le_of_ble_eq_true rfl) (blk' := xl xx xn xt xk xe xo xv xc xr cI (true, x_f Z)) rfl (ws' := [xl xx xn xt xk xe xo xv xc xr cI (true, x_f Z), wl xn cI S, wl xk cI S]) rfl ?_
  refine G.al X dX6_image_16 0 rfl ?_
  refine G.get X fX6_10 dX6_image_17 0 0 rfl rfl rfl ?_
  refine G.get X fX6_289 dX6_image_20 1 0 rfl rfl rfl ?_
  exact G.iret X Rr (v := (s_da S)) dX6_image_23 (pi_mk (by rfl) (by rfl))

set_option maxRecDepth 20000 in
theorem tX6_on_no (l : Launch) (D : va_G) (cI cW : ClassId) (xx : Nat → Nat) (xn : Nat → Nat) (xt : Nat → Nat) (xk : Nat → Nat) (xe : Nat → Nat) (xo : Nat → Nat) (xv : Nat → Nat) (xc : Nat → Nat) (xr : Nat → Nat) (Z : Bool × FN) (ha : x_h Z = false) : CT l D cI cW yX6_on cX6_on 1 (some .int) ⟨1, 0, 0, 22⟩ [.ref (xx 0)] ([xl xx xn xt xk xe xo xv xc xr cI Z]) (PI (-3) ([xl xx xn xt xk xe xo xv xc xr cI (x_rf Z 3)])) := by
  refine CT.of RX6 rfl (by decide +kernel) (Nat.le_of_ble_eq_true rfl) [(0, .ref (xx 0))] rfl (fun x X Rr hnm => ?_)
  refine G.al X dX6_on_0 0 rfl ?_
  refine G.get X fX6_22 dX6_on_1 0 0 rfl rfl rfl ?_
  refine G.b_ne X dX6_on_4 (fun b4 => absurd (Eq.trans (Eq.symm ha) b4) (by decide)) (fun b4 => ?_)
  refine G.al X dX6_on_7 0 rfl ?_
  refine G.pu X dX6_on_8 ?_
  refine G.cvi X kX6_refuse lX6_65 dX6_on_10 (tX6_refuse l D cI cW xx xn xt xk xe xo xv xc xr Z 3 (by omega) (by omega)) ⟨Nat.le_of_ble_eq_true rfl, Nat.le_of_ble_eq_true rfl⟩ ⟨Nat.zero_le _, Nat.zero_le _⟩ [0] rfl ⟨rfl, rfl⟩ rfl rfl 0 0 rfl rfl rfl rfl (Nat.le_of_ble_eq_true rfl) (ff_cons (xl_fst _ _ _ _ _ _ _ _ _ _ _ _) (ff_nil)) (ws' := [xl xx xn xt xk xe xo xv xc xr cI (x_rf Z 3)]) rfl ?_
  exact G.iret X Rr (v := (-(nI 3))) dX6_on_13 (pi_mk (by rfl) (by rfl))

set_option maxRecDepth 20000 in
theorem tX6_on_ok (l : Launch) (D : va_G) (cI cW : ClassId) (xx : Nat → Nat) (xn : Nat → Nat) (xt : Nat → Nat) (xk : Nat → Nat) (xe : Nat → Nat) (xo : Nat → Nat) (xv : Nat → Nat) (xc : Nat → Nat) (xr : Nat → Nat) (Z : Bool × FN) (S : WS) (K1 : WS) (ha : x_h Z = true) : CT l D cI cW yX6_on cX6_on 1 (some .int) ⟨2, 0, 0, 81⟩ [.ref (xx 0)] ([xl xx xn xt xk xe xo xv xc xr cI Z, wl xn cI S, wl xk cI K1]) (PI (s_da K1) ([xl xx xn xt xk xe xo xv xc xr cI Z, wl xn cI K1, wl xk cI K1])) := by
  refine CT.of RX6 rfl (by decide +kernel) (Nat.le_of_ble_eq_true rfl) [(0, .ref (xx 0))] rfl (fun x X Rr hnm => ?_)
  refine G.al X dX6_on_0 0 rfl ?_
  refine G.get X fX6_22 dX6_on_1 0 0 rfl rfl rfl ?_
  refine G.b_ne X dX6_on_4 (fun b4 => ?_) (fun b4 => absurd (Eq.trans (Eq.symm ha) b4) (by decide))
  refine G.al X dX6_on_14 0 rfl ?_
  refine G.get X fX6_10 dX6_on_15 0 0 rfl rfl rfl ?_
  refine G.al X dX6_on_18 0 rfl ?_
  refine G.get X fX6_19 dX6_on_19 0 0 rfl rfl rfl ?_
  refine G.cvv X kX5_becomes lX6_84 dX6_on_22 (tX5_becomes l D cI cW xn S xk K1) ⟨Nat.le_of_ble_eq_true rfl, Nat.le_of_ble_eq_true rfl⟩ ⟨Nat.zero_le _, Nat.zero_le _⟩ [1, 2] rfl ⟨rfl, rfl⟩ rfl rfl 1 0 rfl rfl rfl rfl (Nat.le_of_ble_eq_true rfl) (ff_cons (wl_fst _ _ _ _) (ff_cons (wl_fst _ _ _ _) (ff_nil))) (ws' := [xl xx xn xt xk xe xo xv xc xr cI Z, wl xn cI K1, wl xk cI K1]) rfl ?_
  refine G.al X dX6_on_25 0 rfl ?_
  refine G.get X fX6_10 dX6_on_26 0 0 rfl rfl rfl ?_
  refine G.get X fX6_289 dX6_on_29 1 0 rfl rfl rfl ?_
  exact G.iret X Rr (v := (s_da K1)) dX6_on_32 (pi_mk (by rfl) (by rfl))

set_option maxRecDepth 20000 in
theorem tX6_refusalsCounted (l : Launch) (D : va_G) (cI cW : ClassId) (xx : Nat → Nat) (xn : Nat → Nat) (xt : Nat → Nat) (xk : Nat → Nat) (xe : Nat → Nat) (xo : Nat → Nat) (xv : Nat → Nat) (xc : Nat → Nat) (xr : Nat → Nat) (Z : Bool × FN) (v : Nat) (h1 : 11 ≤ v) (h2 : v ≤ 16) : CT l D cI cW yX6_refusalsCounted cX6_refusalsCounted 2 (some .int) ⟨0, 0, 0, 0⟩ [.ref (xx 0), .int (nI v)] ([xl xx xn xt xk xe xo xv xc xr cI Z]) (PI (x_f Z (v - 10)) ([xl xx xn xt xk xe xo xv xc xr cI Z])) := by
  refine CT.of RX6 rfl (by decide +kernel) (Nat.le_of_ble_eq_true rfl) [(0, .ref (xx 0)), (1, .int (nI v))] rfl (fun x X Rr hnm => ?_)
  refine G.il X dX6_refusalsCounted_0 1 rfl ?_
  refine G.pu X dX6_refusalsCounted_1 ?_
  refine G.n_lt X (a := v) (b := 11) (by omega) (by omega) dX6_refusalsCounted_3 (fun b3 => absurd b3 (by omega)) (fun b3 => ?_)
  refine G.il X dX6_refusalsCounted_6 1 rfl ?_
  refine G.pu X dX6_refusalsCounted_7 ?_
  refine G.n_le X (a := v) (b := 16) (by omega) (by omega) dX6_refusalsCounted_9 (fun b9 => ?_) (fun b9 => absurd b9 (by omega))
  refine G.al X dX6_refusalsCounted_15 0 rfl ?_
  refine G.get X fX6_61 dX6_refusalsCounted_16 0 0 rfl rfl rfl ?_
  refine G.il X dX6_refusalsCounted_19 1 rfl ?_
  refine G.pu X dX6_refusalsCounted_20 ?_
  refine G.isub X dX6_refusalsCounted_22 ?_
  refine G.pu X dX6_refusalsCounted_23 ?_
  refine G.iadd X dX6_refusalsCounted_24 ?_
  refine G.top (b := nI (v - 10)) (n_m10 h1 h2) ?_
  refine G.nld X (i := v - 10) dX6_refusalsCounted_25 0 1 rfl rfl (by omega) (by decide) ?_
  exact G.iret X Rr (v := ((x_f Z) (v - 10))) dX6_refusalsCounted_26 (pi_mk (by rfl) (by rfl))

set_option maxRecDepth 20000 in
theorem tX6_refusalsCounted_no (l : Launch) (D : va_G) (cI cW : ClassId) (xx : Nat → Nat) (xn : Nat → Nat) (xt : Nat → Nat) (xk : Nat → Nat) (xe : Nat → Nat) (xo : Nat → Nat) (xv : Nat → Nat) (xc : Nat → Nat) (xr : Nat → Nat) (Z : Bool × FN) (v : Int32) (h1 : v < 11 ∨ 16 < v) : CT l D cI cW yX6_refusalsCounted cX6_refusalsCounted 2 (some .int) ⟨0, 0, 0, 0⟩ [.ref (xx 0), .int v] ([xl xx xn xt xk xe xo xv xc xr cI Z]) (PI (-9) ([xl xx xn xt xk xe xo xv xc xr cI Z])) := by
  refine CT.of RX6 rfl (by decide +kernel) (Nat.le_of_ble_eq_true rfl) [(0, .ref (xx 0)), (1, .int v)] rfl (fun x X Rr hnm => ?_)
  refine G.il X dX6_refusalsCounted_0 1 rfl ?_
  refine G.pu X dX6_refusalsCounted_1 ?_
  refine G.c_lt X (a := v) (b := 11) dX6_refusalsCounted_3 (fun b3 => ?_) (fun b3 => ?_)
  · refine G.pu X dX6_refusalsCounted_12 ?_
    exact G.iret X Rr (v := (-9)) dX6_refusalsCounted_14 (pi_mk (by rfl) (by rfl))
  · refine G.il X dX6_refusalsCounted_6 1 rfl ?_
    refine G.pu X dX6_refusalsCounted_7 ?_
    refine G.c_le X (a := v) (b := 16) dX6_refusalsCounted_9 (fun b9 => absurd ((h1.resolve_left b3)) b9) (fun b9 => ?_)
    refine G.pu X dX6_refusalsCounted_12 ?_
    exact G.iret X Rr (v := (-9)) dX6_refusalsCounted_14 (pi_mk (by rfl) (by rfl))

set_option maxRecDepth 20000 in
theorem tX6_count_0 (l : Launch) (D : va_G) (cI cW : ClassId) (xx : Nat → Nat) (xn : Nat → Nat) (xt : Nat → Nat) (xk : Nat → Nat) (xe : Nat → Nat) (xo : Nat → Nat) (xv : Nat → Nat) (xc : Nat → Nat) (xr : Nat → Nat) (Z : Bool × FN) (S : WS) (q : FN × Nat) (xu : Nat → Nat) (qr : FN × Nat) (hS : Ok S) : CT l D cI cW yX6_count cX6_count 2 (some .int) ⟨0, 0, 0, 0⟩ [.ref (xx 0), .int 0] ([xl xx xn xt xk xe xo xv xc xr cI Z, wl xn cI S, tl xe cI q, rl xr xu cI qr]) (PI (nI (s_pe S)) ([xl xx xn xt xk xe xo xv xc xr cI Z, wl xn cI S, tl xe cI q, rl xr xu cI qr])) := by
  refine CT.of RX6 rfl (by decide +kernel) (Nat.le_of_ble_eq_true rfl) [(0, .ref (xx 0)), (1, .int 0)] rfl (fun x X Rr hnm => ?_)
  have hth := hS.th
  have hpe := hS.pe
  refine G.il X dX6_count_0 1 rfl ?_
  refine G.tsi X dX6_count_1 0 rfl (47) 48 (by decide) ?_
  refine G.al X dX6_count_48 0 rfl ?_
  refine G.get X fX6_10 dX6_count_49 0 0 rfl rfl rfl ?_
  refine G.get X fX6_196 dX6_count_52 1 0 rfl rfl rfl ?_
  exact G.iret X Rr (v := nI (s_pe S)) dX6_count_55 (pi_mk (by rfl) (by rfl))

set_option maxRecDepth 20000 in
theorem tX6_count_1 (l : Launch) (D : va_G) (cI cW : ClassId) (xx : Nat → Nat) (xn : Nat → Nat) (xt : Nat → Nat) (xk : Nat → Nat) (xe : Nat → Nat) (xo : Nat → Nat) (xv : Nat → Nat) (xc : Nat → Nat) (xr : Nat → Nat) (Z : Bool × FN) (S : WS) (q : FN × Nat) (xu : Nat → Nat) (qr : FN × Nat) (hS : Ok S) : CT l D cI cW yX6_count cX6_count 2 (some .int) ⟨0, 0, 0, 0⟩ [.ref (xx 0), .int 1] ([xl xx xn xt xk xe xo xv xc xr cI Z, wl xn cI S, tl xe cI q, rl xr xu cI qr]) (PI (nI (s_th S)) ([xl xx xn xt xk xe xo xv xc xr cI Z, wl xn cI S, tl xe cI q, rl xr xu cI qr])) := by
  refine CT.of RX6 rfl (by decide +kernel) (Nat.le_of_ble_eq_true rfl) [(0, .ref (xx 0)), (1, .int 1)] rfl (fun x X Rr hnm => ?_)
  have hth := hS.th
  have hpe := hS.pe
  refine G.il X dX6_count_0 1 rfl ?_
  refine G.tsi X dX6_count_1 1 rfl (55) 56 (by decide) ?_
  refine G.al X dX6_count_56 0 rfl ?_
  refine G.get X fX6_10 dX6_count_57 0 0 rfl rfl rfl ?_
  refine G.get X fX6_225 dX6_count_60 1 0 rfl rfl rfl ?_
  exact G.iret X Rr (v := nI (s_th S)) dX6_count_63 (pi_mk (by rfl) (by rfl))

set_option maxRecDepth 20000 in
theorem tX6_count_2 (l : Launch) (D : va_G) (cI cW : ClassId) (xx : Nat → Nat) (xn : Nat → Nat) (xt : Nat → Nat) (xk : Nat → Nat) (xe : Nat → Nat) (xo : Nat → Nat) (xv : Nat → Nat) (xc : Nat → Nat) (xr : Nat → Nat) (Z : Bool × FN) (S : WS) (q : FN × Nat) (xu : Nat → Nat) (qr : FN × Nat) (hS : Ok S) : CT l D cI cW yX6_count cX6_count 2 (some .int) ⟨0, 0, 0, 0⟩ [.ref (xx 0), .int 2] ([xl xx xn xt xk xe xo xv xc xr cI Z, wl xn cI S, tl xe cI q, rl xr xu cI qr]) (PI (s_da S) ([xl xx xn xt xk xe xo xv xc xr cI Z, wl xn cI S, tl xe cI q, rl xr xu cI qr])) := by
  refine CT.of RX6 rfl (by decide +kernel) (Nat.le_of_ble_eq_true rfl) [(0, .ref (xx 0)), (1, .int 2)] rfl (fun x X Rr hnm => ?_)
  have hth := hS.th
  have hpe := hS.pe
  refine G.il X dX6_count_0 1 rfl ?_
  refine G.tsi X dX6_count_1 2 rfl (63) 64 (by decide) ?_
  refine G.al X dX6_count_64 0 rfl ?_
  refine G.get X fX6_10 dX6_count_65 0 0 rfl rfl rfl ?_
  refine G.get X fX6_289 dX6_count_68 1 0 rfl rfl rfl ?_
  exact G.iret X Rr (v := (s_da S)) dX6_count_71 (pi_mk (by rfl) (by rfl))

set_option maxRecDepth 20000 in
theorem tX6_count_3 (l : Launch) (D : va_G) (cI cW : ClassId) (xx : Nat → Nat) (xn : Nat → Nat) (xt : Nat → Nat) (xk : Nat → Nat) (xe : Nat → Nat) (xo : Nat → Nat) (xv : Nat → Nat) (xc : Nat → Nat) (xr : Nat → Nat) (Z : Bool × FN) (S : WS) (q : FN × Nat) (xu : Nat → Nat) (qr : FN × Nat) (hS : Ok S) : CT l D cI cW yX6_count cX6_count 2 (some .int) ⟨2, 0, 0, 43⟩ [.ref (xx 0), .int 3] ([xl xx xn xt xk xe xo xv xc xr cI Z, wl xn cI S, tl xe cI q, rl xr xu cI qr]) (PI (askb S (s_th S)) ([xl xx xn xt xk xe xo xv xc xr cI Z, wl xn cI S, tl xe cI q, rl xr xu cI qr])) := by
  refine CT.of RX6 rfl (by decide +kernel) (Nat.le_of_ble_eq_true rfl) [(0, .ref (xx 0)), (1, .int 3)] rfl (fun x X Rr hnm => ?_)
  have hth := hS.th
  have hpe := hS.pe
  refine G.il X dX6_count_0 1 rfl ?_
  refine G.tsi X dX6_count_1 3 rfl (71) 72 (by decide) ?_
  refine G.al X dX6_count_72 0 rfl ?_
  refine G.get X fX6_10 dX6_count_73 0 0 rfl rfl rfl ?_
  refine G.cvi X kX5_askBits lX6_170 dX6_count_76 (tX5_askBits l D cI cW xn S (by omega)) ⟨Nat.le_of_ble_eq_true rfl, Nat.le_of_ble_eq_true rfl⟩ ⟨Nat.zero_le _, Nat.zero_le _⟩ [1] rfl ⟨rfl, rfl⟩ rfl rfl 1 0 rfl rfl rfl rfl (Nat.le_of_ble_eq_true rfl) (ff_cons (wl_fst _ _ _ _) (ff_nil)) (ws' := [xl xx xn xt xk xe xo xv xc xr cI Z, wl xn cI S, tl xe cI q, rl xr xu cI qr]) rfl ?_
  exact G.iret X Rr (v := (askb S (s_th S))) dX6_count_79 (pi_mk (by rfl) (by rfl))

set_option maxRecDepth 20000 in
theorem tX6_count_4 (l : Launch) (D : va_G) (cI cW : ClassId) (xx : Nat → Nat) (xn : Nat → Nat) (xt : Nat → Nat) (xk : Nat → Nat) (xe : Nat → Nat) (xo : Nat → Nat) (xv : Nat → Nat) (xc : Nat → Nat) (xr : Nat → Nat) (Z : Bool × FN) (S : WS) (q : FN × Nat) (xu : Nat → Nat) (qr : FN × Nat) (hS : Ok S) : CT l D cI cW yX6_count cX6_count 2 (some .int) ⟨1, 0, 0, 22⟩ [.ref (xx 0), .int 4] ([xl xx xn xt xk xe xo xv xc xr cI Z, wl xn cI S, tl xe cI q, rl xr xu cI qr]) (PI (sumf (s_le S) (s_th S)) ([xl xx xn xt xk xe xo xv xc xr cI Z, wl xn cI S, tl xe cI q, rl xr xu cI qr])) := by
  refine CT.of RX6 rfl (by decide +kernel) (Nat.le_of_ble_eq_true rfl) [(0, .ref (xx 0)), (1, .int 4)] rfl (fun x X Rr hnm => ?_)
  have hth := hS.th
  have hpe := hS.pe
  refine G.il X dX6_count_0 1 rfl ?_
  refine G.tsi X dX6_count_1 4 rfl (79) 80 (by decide) ?_
  refine G.al X dX6_count_80 0 rfl ?_
  refine G.get X fX6_10 dX6_count_81 0 0 rfl rfl rfl ?_
  refine G.cvi X kX5_leftOfAll lX6_260 dX6_count_84 (tX5_leftOfAll l D cI cW xn S (by omega)) ⟨Nat.le_of_ble_eq_true rfl, Nat.le_of_ble_eq_true rfl⟩ ⟨Nat.zero_le _, Nat.zero_le _⟩ [1] rfl ⟨rfl, rfl⟩ rfl rfl 1 0 rfl rfl rfl rfl (Nat.le_of_ble_eq_true rfl) (ff_cons (wl_fst _ _ _ _) (ff_nil)) (ws' := [xl xx xn xt xk xe xo xv xc xr cI Z, wl xn cI S, tl xe cI q, rl xr xu cI qr]) rfl ?_
  exact G.iret X Rr (v := (sumf (s_le S) (s_th S))) dX6_count_87 (pi_mk (by rfl) (by rfl))

set_option maxRecDepth 20000 in
theorem tX6_count_5 (l : Launch) (D : va_G) (cI cW : ClassId) (xx : Nat → Nat) (xn : Nat → Nat) (xt : Nat → Nat) (xk : Nat → Nat) (xe : Nat → Nat) (xo : Nat → Nat) (xv : Nat → Nat) (xc : Nat → Nat) (xr : Nat → Nat) (Z : Bool × FN) (S : WS) (q : FN × Nat) (xu : Nat → Nat) (qr : FN × Nat) (hS : Ok S) : CT l D cI cW yX6_count cX6_count 2 (some .int) ⟨0, 0, 0, 0⟩ [.ref (xx 0), .int 5] ([xl xx xn xt xk xe xo xv xc xr cI Z, wl xn cI S, tl xe cI q, rl xr xu cI qr]) (PI (s_dr S) ([xl xx xn xt xk xe xo xv xc xr cI Z, wl xn cI S, tl xe cI q, rl xr xu cI qr])) := by
  refine CT.of RX6 rfl (by decide +kernel) (Nat.le_of_ble_eq_true rfl) [(0, .ref (xx 0)), (1, .int 5)] rfl (fun x X Rr hnm => ?_)
  have hth := hS.th
  have hpe := hS.pe
  refine G.il X dX6_count_0 1 rfl ?_
  refine G.tsi X dX6_count_1 5 rfl (87) 88 (by decide) ?_
  refine G.al X dX6_count_88 0 rfl ?_
  refine G.get X fX6_10 dX6_count_89 0 0 rfl rfl rfl ?_
  refine G.get X fX6_142 dX6_count_92 1 0 rfl rfl rfl ?_
  exact G.iret X Rr (v := (s_dr S)) dX6_count_95 (pi_mk (by rfl) (by rfl))

set_option maxRecDepth 20000 in
theorem tX6_count_6 (l : Launch) (D : va_G) (cI cW : ClassId) (xx : Nat → Nat) (xn : Nat → Nat) (xt : Nat → Nat) (xk : Nat → Nat) (xe : Nat → Nat) (xo : Nat → Nat) (xv : Nat → Nat) (xc : Nat → Nat) (xr : Nat → Nat) (Z : Bool × FN) (S : WS) (q : FN × Nat) (xu : Nat → Nat) (qr : FN × Nat) (hS : Ok S) : CT l D cI cW yX6_count cX6_count 2 (some .int) ⟨0, 0, 0, 0⟩ [.ref (xx 0), .int 6] ([xl xx xn xt xk xe xo xv xc xr cI Z, wl xn cI S, tl xe cI q, rl xr xu cI qr]) (PI (nI (q_n qr)) ([xl xx xn xt xk xe xo xv xc xr cI Z, wl xn cI S, tl xe cI q, rl xr xu cI qr])) := by
  refine CT.of RX6 rfl (by decide +kernel) (Nat.le_of_ble_eq_true rfl) [(0, .ref (xx 0)), (1, .int 6)] rfl (fun x X Rr hnm => ?_)
  have hth := hS.th
  have hpe := hS.pe
  refine G.il X dX6_count_0 1 rfl ?_
  refine G.tsi X dX6_count_1 6 rfl (95) 96 (by decide) ?_
  refine G.al X dX6_count_96 0 rfl ?_
  refine G.get X fX6_57 dX6_count_97 0 0 rfl rfl rfl ?_
  refine G.get X fX6_275 dX6_count_100 3 0 rfl rfl rfl ?_
  exact G.iret X Rr (v := nI (q_n qr)) dX6_count_103 (pi_mk (by rfl) (by rfl))

set_option maxRecDepth 20000 in
theorem tX6_count_7 (l : Launch) (D : va_G) (cI cW : ClassId) (xx : Nat → Nat) (xn : Nat → Nat) (xt : Nat → Nat) (xk : Nat → Nat) (xe : Nat → Nat) (xo : Nat → Nat) (xv : Nat → Nat) (xc : Nat → Nat) (xr : Nat → Nat) (Z : Bool × FN) (S : WS) (q : FN × Nat) (xu : Nat → Nat) (qr : FN × Nat) (hS : Ok S) : CT l D cI cW yX6_count cX6_count 2 (some .int) ⟨0, 0, 0, 0⟩ [.ref (xx 0), .int 7] ([xl xx xn xt xk xe xo xv xc xr cI Z, wl xn cI S, tl xe cI q, rl xr xu cI qr]) (PI (nI (q_n q)) ([xl xx xn xt xk xe xo xv xc xr cI Z, wl xn cI S, tl xe cI q, rl xr xu cI qr])) := by
  refine CT.of RX6 rfl (by decide +kernel) (Nat.le_of_ble_eq_true rfl) [(0, .ref (xx 0)), (1, .int 7)] rfl (fun x X Rr hnm => ?_)
  have hth := hS.th
  have hpe := hS.pe
  refine G.il X dX6_count_0 1 rfl ?_
  refine G.tsi X dX6_count_1 7 rfl (103) 104 (by decide) ?_
  refine G.al X dX6_count_104 0 rfl ?_
  refine G.get X fX6_29 dX6_count_105 0 0 rfl rfl rfl ?_
  refine G.get X fX6_73 dX6_count_108 2 0 rfl rfl rfl ?_
  exact G.iret X Rr (v := nI (q_n q)) dX6_count_111 (pi_mk (by rfl) (by rfl))

set_option maxRecDepth 20000 in
theorem tX6_count_ref (l : Launch) (D : va_G) (cI cW : ClassId) (xx : Nat → Nat) (xn : Nat → Nat) (xt : Nat → Nat) (xk : Nat → Nat) (xe : Nat → Nat) (xo : Nat → Nat) (xv : Nat → Nat) (xc : Nat → Nat) (xr : Nat → Nat) (Z : Bool × FN) (w : Nat) (h1 : 11 ≤ w) (h2 : w ≤ 16) : CT l D cI cW yX6_count cX6_count 2 (some .int) ⟨1, 0, 0, 21⟩ [.ref (xx 0), .int (nI w)] ([xl xx xn xt xk xe xo xv xc xr cI Z]) (PI (x_f Z (w - 10)) ([xl xx xn xt xk xe xo xv xc xr cI Z])) := by
  refine CT.of RX6 rfl (by decide +kernel) (Nat.le_of_ble_eq_true rfl) [(0, .ref (xx 0)), (1, .int (nI w))] rfl (fun x X Rr hnm => ?_)
  refine G.il X dX6_count_0 1 rfl ?_
  refine G.tsd X dX6_count_1 [0, 1, 2, 3, 4, 5, 6, 7] (List.forall_mem_cons.mpr ⟨(n_big h1 h2 (show 0 < 11 by decide)), List.forall_mem_cons.mpr ⟨(n_big h1 h2 (show 1 < 11 by decide)), List.forall_mem_cons.mpr ⟨(n_big h1 h2 (show 2 < 11 by decide)), List.forall_mem_cons.mpr ⟨(n_big h1 h2 (show 3 < 11 by decide)), List.forall_mem_cons.mpr ⟨(n_big h1 h2 (show 4 < 11 by decide)), List.forall_mem_cons.mpr ⟨(n_big h1 h2 (show 5 < 11 by decide)), List.forall_mem_cons.mpr ⟨(n_big h1 h2 (show 6 < 11 by decide)), List.forall_mem_cons.mpr ⟨(n_big h1 h2 (show 7 < 11 by decide)), fun _ h9 => absurd h9 List.not_mem_nil⟩⟩⟩⟩⟩⟩⟩⟩) 112 (by decide) ?_
  refine G.al X dX6_count_112 0 rfl ?_
  refine G.il X dX6_count_113 1 rfl ?_
  refine G.cvi X kX6_refusalsCounted lX6_292 dX6_count_114 (tX6_refusalsCounted l D cI cW xx xn xt xk xe xo xv xc xr Z w (by omega) (by omega)) ⟨Nat.le_of_ble_eq_true rfl, Nat.le_of_ble_eq_true rfl⟩ ⟨Nat.zero_le _, Nat.zero_le _⟩ [0] rfl ⟨rfl, rfl⟩ rfl rfl 0 0 rfl rfl rfl rfl (Nat.le_of_ble_eq_true rfl) (ff_cons (xl_fst _ _ _ _ _ _ _ _ _ _ _ _) (ff_nil)) (ws' := [xl xx xn xt xk xe xo xv xc xr cI Z]) rfl ?_
  exact G.iret X Rr (v := (x_f Z (w - 10))) dX6_count_117 (pi_mk (by rfl) (by rfl))

set_option maxRecDepth 20000 in
theorem tX6_count_no (l : Launch) (D : va_G) (cI cW : ClassId) (xx : Nat → Nat) (xn : Nat → Nat) (xt : Nat → Nat) (xk : Nat → Nat) (xe : Nat → Nat) (xo : Nat → Nat) (xv : Nat → Nat) (xc : Nat → Nat) (xr : Nat → Nat) (Z : Bool × FN) (w : Int32) (h0 : z_in w 8 = false) (h1 : w < 11 ∨ 16 < w) : CT l D cI cW yX6_count cX6_count 2 (some .int) ⟨1, 0, 0, 21⟩ [.ref (xx 0), .int w] ([xl xx xn xt xk xe xo xv xc xr cI Z]) (PI (-9) ([xl xx xn xt xk xe xo xv xc xr cI Z])) := by
  refine CT.of RX6 rfl (by decide +kernel) (Nat.le_of_ble_eq_true rfl) [(0, .ref (xx 0)), (1, .int w)] rfl (fun x X Rr hnm => ?_)
  refine G.il X dX6_count_0 1 rfl ?_
  refine G.tsd X dX6_count_1 [0, 1, 2, 3, 4, 5, 6, 7] (List.forall_mem_cons.mpr ⟨(z_ne (v := 0) h0 (by decide) (by decide)), List.forall_mem_cons.mpr ⟨(z_ne (v := 1) h0 (by decide) (by decide)), List.forall_mem_cons.mpr ⟨(z_ne (v := 2) h0 (by decide) (by decide)), List.forall_mem_cons.mpr ⟨(z_ne (v := 3) h0 (by decide) (by decide)), List.forall_mem_cons.mpr ⟨(z_ne (v := 4) h0 (by decide) (by decide)), List.forall_mem_cons.mpr ⟨(z_ne (v := 5) h0 (by decide) (by decide)), List.forall_mem_cons.mpr ⟨(z_ne (v := 6) h0 (by decide) (by decide)), List.forall_mem_cons.mpr ⟨(z_ne (v := 7) h0 (by decide) (by decide)), fun _ h9 => absurd h9 List.not_mem_nil⟩⟩⟩⟩⟩⟩⟩⟩) 112 (by decide) ?_
  refine G.al X dX6_count_112 0 rfl ?_
  refine G.il X dX6_count_113 1 rfl ?_
  refine G.cvi X kX6_refusalsCounted lX6_292 dX6_count_114 (tX6_refusalsCounted_no l D cI cW xx xn xt xk xe xo xv xc xr Z w h1) ⟨Nat.le_of_ble_eq_true rfl, Nat.le_of_ble_eq_true rfl⟩ ⟨Nat.zero_le _, Nat.zero_le _⟩ [0] rfl ⟨rfl, rfl⟩ rfl rfl 0 0 rfl rfl rfl rfl (Nat.le_of_ble_eq_true rfl) (ff_cons (xl_fst _ _ _ _ _ _ _ _ _ _ _ _) (ff_nil)) (ws' := [xl xx xn xt xk xe xo xv xc xr cI Z]) rfl ?_
  exact G.iret X Rr (v := (-9)) dX6_count_117 (pi_mk (by rfl) (by rfl))
