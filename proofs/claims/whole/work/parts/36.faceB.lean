set_option maxRecDepth 20000 in
theorem tX6_well_l (l : Launch) (D : va_G) (cI cW : ClassId) (xx : Nat → Nat) (xn : Nat → Nat) (xt : Nat → Nat) (xk : Nat → Nat) (xe : Nat → Nat) (xo : Nat → Nat) (xv : Nat → Nat) (xc : Nat → Nat) (xr : Nat → Nat) (Z : Bool × FN) (S : WS) (T1 : WS) (q : FN × Nat) (hq : q_n q ≤ 96) (hwl : ¬ l_wl q = -1) : CT l D cI cW yX6_well cX6_well 4 (some .int) ⟨3, 0, 0, 81⟩ [.ref (xx 0)] ([xl xx xn xt xk xe xo xv xc xr cI Z, wl xn cI S, wl xt cI T1, tl xe cI q]) (PI (-1000 - l_wl q) ([xl xx xn xt xk xe xo xv xc xr cI Z, wl xn cI S, wl xt cI S, tl xe cI (q_f q, 0)])) := by
  refine CT.of RX6 rfl (by decide +kernel) (Nat.le_of_ble_eq_true rfl) [(0, .ref (xx 0))] rfl (fun x X Rr hnm => ?_)
  refine G.al X dX6_well_0 0 rfl ?_
  refine G.get X fX6_29 dX6_well_1 0 0 rfl rfl rfl ?_
  refine G.cvi X kX2_statements lX6_77 dX6_well_4 (tX2_statements l D cI cW xe q hq) ⟨Nat.le_of_ble_eq_true rfl, Nat.le_of_ble_eq_true rfl⟩ ⟨Nat.zero_le _, Nat.zero_le _⟩ [3] rfl ⟨rfl, rfl⟩ rfl rfl 3 0 rfl rfl rfl rfl (Nat.le_of_ble_eq_true rfl) (ff_cons (tl_fst _ _ _ _) (ff_nil)) (ws' := [xl xx xn xt xk xe xo xv xc xr cI Z, wl xn cI S, wl xt cI T1, tl xe cI q]) rfl ?_
  refine G.is X dX6_well_7 (by decide) (lv' := [(1, .int (nI (l_cnt q (q_n q)))), (0, .ref (xx 0))]) rfl ?_
  refine G.al X dX6_well_8 1 rfl ?_
  refine G.get X fX6_29 dX6_well_9 0 0 rfl rfl rfl ?_
  refine G.cvi X kX2_wrongLetter lX6_81 dX6_well_12 (tX2_wrongLetter l D cI cW xe q hq) ⟨Nat.le_of_ble_eq_true rfl, Nat.le_of_ble_eq_true rfl⟩ ⟨Nat.zero_le _, Nat.zero_le _⟩ [3] rfl ⟨rfl, rfl⟩ rfl rfl 3 0 rfl rfl rfl rfl (Nat.le_of_ble_eq_true rfl) (ff_cons (tl_fst _ _ _ _) (ff_nil)) (ws' := [xl xx xn xt xk xe xo xv xc xr cI Z, wl xn cI S, wl xt cI T1, tl xe cI q]) rfl ?_
  refine G.is X dX6_well_15 (by decide) (lv' := [(2, .int (l_wl q)), (1, .int (nI (l_cnt q (q_n q)))), (0, .ref (xx 0))]) rfl ?_
  refine G.al X dX6_well_16 2 rfl ?_
  refine G.get X fX6_16 dX6_well_17 0 0 rfl rfl rfl ?_
  refine G.al X dX6_well_20 2 rfl ?_
  refine G.get X fX6_10 dX6_well_21 0 0 rfl rfl rfl ?_
  refine G.cvv X kX5_becomes lX6_84 dX6_well_24 (tX5_becomes l D cI cW xt T1 xn S) ⟨Nat.le_of_ble_eq_true rfl, Nat.le_of_ble_eq_true rfl⟩ ⟨Nat.zero_le _, Nat.zero_le _⟩ [2, 1] rfl ⟨rfl, rfl⟩ rfl rfl 2 0 rfl rfl rfl rfl (Nat.le_of_ble_eq_true rfl) (ff_cons (wl_fst _ _ _ _) (ff_cons (wl_fst _ _ _ _) (ff_nil))) (ws' := [xl xx xn xt xk xe xo xv xc xr cI Z, wl xn cI S, wl xt cI S, tl xe cI q]) rfl ?_
  refine G.il X dX6_well_27 0 rfl ?_
  refine G.pu X dX6_well_28 ?_
  refine G.c_ne X (a := (l_wl q)) (b := (-1)) dX6_well_29 (fun b29 => ?_) (fun b29 => absurd b29 (hwl))
  refine G.pu X dX6_well_46 ?_
  refine G.is X dX6_well_47 (by decide) (lv' := [(3, .int (-1)), (2, .int (l_wl q)), (1, .int (nI (l_cnt q (q_n q)))), (0, .ref (xx 0))]) rfl ?_
  refine G.il X dX6_well_48 1 rfl ?_
  refine G.pu X dX6_well_49 ?_
  refine G.c_eq X (a := (l_wl q)) (b := (-1)) dX6_well_50 (fun b50 => absurd b50 (hwl)) (fun b50 => ?_)
  refine G.pu X dX6_well_53 ?_
  refine G.il X dX6_well_56 1 rfl ?_
  refine G.isub X dX6_well_57 ?_
  refine G.is X dX6_well_58 (by decide) (lv' := [(1, .int ((-1000) - (l_wl q))), (3, .int (-1)), (2, .int (l_wl q)), (0, .ref (xx 0))]) rfl ?_
  refine G.go X dX6_well_59 ?_
  refine G.al X dX6_well_87 3 rfl ?_
  refine G.get X fX6_29 dX6_well_88 0 0 rfl rfl rfl ?_
  refine G.pu X dX6_well_91 ?_
  refine G.puti X fX6_73 fe2 dX6_well_92 rfl rfl 3 0 rfl rfl (Nat.le_of_ble_eq_true rfl) (blk' := tl xe cI (q_f q, 0)) rfl (ws' := [xl xx xn xt xk xe xo xv xc xr cI Z, wl xn cI S, wl xt cI S, tl xe cI (q_f q, 0)]) rfl ?_
  refine G.il X dX6_well_95 0 rfl ?_
  exact G.iret X Rr (v := ((-1000) - (l_wl q))) dX6_well_96 (pi_mk (by rfl) (by rfl))

set_option maxRecDepth 20000 in
theorem tX6_well_bs (l : Launch) (D : va_G) (cI cW : ClassId) (xx : Nat → Nat) (xn : Nat → Nat) (xt : Nat → Nat) (xk : Nat → Nat) (xe : Nat → Nat) (xo : Nat → Nat) (xv : Nat → Nat) (xc : Nat → Nat) (xr : Nat → Nat) (Z : Bool × FN) (S : WS) (T1 : WS) (q : FN × Nat) (hq : q_n q ≤ 96) (hwl : l_wl q = -1) (hO : ∀ k, k ≤ q_n q → (∀ j, j < k → l_bad q S j = false) → Ok (l_go q S k)) (hws : ¬ l_ws q S = -1) : CT l D cI cW yX6_well cX6_well 4 (some .int) ⟨6, 0, 0, 133⟩ [.ref (xx 0)] ([xl xx xn xt xk xe xo xv xc xr cI Z, wl xn cI S, wl xt cI T1, tl xe cI q]) (PI (-2000 - l_ws q S) ([xl xx xn xt xk xe xo xv xc xr cI Z, wl xn cI S, wl xt cI (l_go q S (l_end q S)), tl xe cI (q_f q, 0)])) := by
  refine CT.of RX6 rfl (by decide +kernel) (Nat.le_of_ble_eq_true rfl) [(0, .ref (xx 0))] rfl (fun x X Rr hnm => ?_)
  refine G.al X dX6_well_0 0 rfl ?_
  refine G.get X fX6_29 dX6_well_1 0 0 rfl rfl rfl ?_
  refine G.cvi X kX2_statements lX6_77 dX6_well_4 (tX2_statements l D cI cW xe q hq) ⟨Nat.le_of_ble_eq_true rfl, Nat.le_of_ble_eq_true rfl⟩ ⟨Nat.zero_le _, Nat.zero_le _⟩ [3] rfl ⟨rfl, rfl⟩ rfl rfl 3 0 rfl rfl rfl rfl (Nat.le_of_ble_eq_true rfl) (ff_cons (tl_fst _ _ _ _) (ff_nil)) (ws' := [xl xx xn xt xk xe xo xv xc xr cI Z, wl xn cI S, wl xt cI T1, tl xe cI q]) rfl ?_
  refine G.is X dX6_well_7 (by decide) (lv' := [(1, .int (nI (l_cnt q (q_n q)))), (0, .ref (xx 0))]) rfl ?_
  refine G.al X dX6_well_8 1 rfl ?_
  refine G.get X fX6_29 dX6_well_9 0 0 rfl rfl rfl ?_
  refine G.cvi X kX2_wrongLetter lX6_81 dX6_well_12 (tX2_wrongLetter l D cI cW xe q hq) ⟨Nat.le_of_ble_eq_true rfl, Nat.le_of_ble_eq_true rfl⟩ ⟨Nat.zero_le _, Nat.zero_le _⟩ [3] rfl ⟨rfl, rfl⟩ rfl rfl 3 0 rfl rfl rfl rfl (Nat.le_of_ble_eq_true rfl) (ff_cons (tl_fst _ _ _ _) (ff_nil)) (ws' := [xl xx xn xt xk xe xo xv xc xr cI Z, wl xn cI S, wl xt cI T1, tl xe cI q]) rfl ?_
  refine G.is X dX6_well_15 (by decide) (lv' := [(2, .int (l_wl q)), (1, .int (nI (l_cnt q (q_n q)))), (0, .ref (xx 0))]) rfl ?_
  refine G.al X dX6_well_16 2 rfl ?_
  refine G.get X fX6_16 dX6_well_17 0 0 rfl rfl rfl ?_
  refine G.al X dX6_well_20 2 rfl ?_
  refine G.get X fX6_10 dX6_well_21 0 0 rfl rfl rfl ?_
  refine G.cvv X kX5_becomes lX6_84 dX6_well_24 (tX5_becomes l D cI cW xt T1 xn S) ⟨Nat.le_of_ble_eq_true rfl, Nat.le_of_ble_eq_true rfl⟩ ⟨Nat.zero_le _, Nat.zero_le _⟩ [2, 1] rfl ⟨rfl, rfl⟩ rfl rfl 2 0 rfl rfl rfl rfl (Nat.le_of_ble_eq_true rfl) (ff_cons (wl_fst _ _ _ _) (ff_cons (wl_fst _ _ _ _) (ff_nil))) (ws' := [xl xx xn xt xk xe xo xv xc xr cI Z, wl xn cI S, wl xt cI S, tl xe cI q]) rfl ?_
  refine G.il X dX6_well_27 0 rfl ?_
  refine G.pu X dX6_well_28 ?_
  refine G.c_ne X (a := (l_wl q)) (b := (-1)) dX6_well_29 (fun b29 => absurd (hwl) b29) (fun b29 => ?_)
  refine G.al X dX6_well_32 2 rfl ?_
  refine G.get X fX6_29 dX6_well_33 0 0 rfl rfl rfl ?_
  refine G.al X dX6_well_36 2 rfl ?_
  refine G.get X fX6_16 dX6_well_37 0 0 rfl rfl rfl ?_
  refine G.cvi X kX2_wrongStatement lX6_88 dX6_well_40 (tX2_wrongStatement l D cI cW xe q xt S hq hO) ⟨Nat.le_of_ble_eq_true rfl, Nat.le_of_ble_eq_true rfl⟩ ⟨Nat.zero_le _, Nat.zero_le _⟩ [3, 2] rfl ⟨rfl, rfl⟩ rfl rfl 3 0 rfl rfl rfl rfl (Nat.le_of_ble_eq_true rfl) (ff_cons (tl_fst _ _ _ _) (ff_cons (wl_fst _ _ _ _) (ff_nil))) (ws' := [xl xx xn xt xk xe xo xv xc xr cI Z, wl xn cI S, wl xt cI (l_go q S (l_end q S)), tl xe cI q]) rfl ?_
  refine G.go X dX6_well_43 ?_
  refine G.is X dX6_well_47 (by decide) (lv' := [(3, .int (l_ws q S)), (2, .int (l_wl q)), (1, .int (nI (l_cnt q (q_n q)))), (0, .ref (xx 0))]) rfl ?_
  refine G.il X dX6_well_48 1 rfl ?_
  refine G.pu X dX6_well_49 ?_
  refine G.c_eq X (a := (l_wl q)) (b := (-1)) dX6_well_50 (fun b50 => ?_) (fun b50 => absurd (hwl) b50)
  refine G.il X dX6_well_62 0 rfl ?_
  refine G.pu X dX6_well_63 ?_
  refine G.c_eq X (a := (l_ws q S)) (b := (-1)) dX6_well_64 (fun b64 => absurd b64 (hws)) (fun b64 => ?_)
  refine G.pu X dX6_well_67 ?_
  refine G.il X dX6_well_70 0 rfl ?_
  refine G.isub X dX6_well_71 ?_
  refine G.is X dX6_well_72 (by decide) (lv' := [(1, .int ((-2000) - (l_ws q S))), (3, .int (l_ws q S)), (2, .int (l_wl q)), (0, .ref (xx 0))]) rfl ?_
  refine G.go X dX6_well_73 ?_
  refine G.al X dX6_well_87 3 rfl ?_
  refine G.get X fX6_29 dX6_well_88 0 0 rfl rfl rfl ?_
  refine G.pu X dX6_well_91 ?_
  refine G.puti X fX6_73 fe2 dX6_well_92 rfl rfl 3 0 rfl rfl (Nat.le_of_ble_eq_true rfl) (blk' := tl xe cI (q_f q, 0)) rfl (ws' := [xl xx xn xt xk xe xo xv xc xr cI Z, wl xn cI S, wl xt cI (l_go q S (l_end q S)), tl xe cI (q_f q, 0)]) rfl ?_
  refine G.il X dX6_well_95 0 rfl ?_
  exact G.iret X Rr (v := ((-2000) - (l_ws q S))) dX6_well_96 (pi_mk (by rfl) (by rfl))

set_option maxRecDepth 20000 in
theorem tX6_well_ok (l : Launch) (D : va_G) (cI cW : ClassId) (xx : Nat → Nat) (xn : Nat → Nat) (xt : Nat → Nat) (xk : Nat → Nat) (xe : Nat → Nat) (xo : Nat → Nat) (xv : Nat → Nat) (xc : Nat → Nat) (xr : Nat → Nat) (Z : Bool × FN) (S : WS) (T1 : WS) (q : FN × Nat) (hq : q_n q ≤ 96) (hwl : l_wl q = -1) (hO : ∀ k, k ≤ q_n q → (∀ j, j < k → l_bad q S j = false) → Ok (l_go q S k)) (hws : l_ws q S = -1) : CT l D cI cW yX6_well cX6_well 4 (some .int) ⟨6, 0, 0, 133⟩ [.ref (xx 0)] ([xl xx xn xt xk xe xo xv xc xr cI Z, wl xn cI S, wl xt cI T1, tl xe cI q]) (PI (nI (l_cnt q (q_n q))) ([xl xx xn xt xk xe xo xv xc xr cI Z, wl xn cI (l_go q S (l_end q S)), wl xt cI (l_go q S (l_end q S)), tl xe cI (q_f q, 0)])) := by
  refine CT.of RX6 rfl (by decide +kernel) (Nat.le_of_ble_eq_true rfl) [(0, .ref (xx 0))] rfl (fun x X Rr hnm => ?_)
  refine G.al X dX6_well_0 0 rfl ?_
  refine G.get X fX6_29 dX6_well_1 0 0 rfl rfl rfl ?_
  refine G.cvi X kX2_statements lX6_77 dX6_well_4 (tX2_statements l D cI cW xe q hq) ⟨Nat.le_of_ble_eq_true rfl, Nat.le_of_ble_eq_true rfl⟩ ⟨Nat.zero_le _, Nat.zero_le _⟩ [3] rfl ⟨rfl, rfl⟩ rfl rfl 3 0 rfl rfl rfl rfl (Nat.le_of_ble_eq_true rfl) (ff_cons (tl_fst _ _ _ _) (ff_nil)) (ws' := [xl xx xn xt xk xe xo xv xc xr cI Z, wl xn cI S, wl xt cI T1, tl xe cI q]) rfl ?_
  refine G.is X dX6_well_7 (by decide) (lv' := [(1, .int (nI (l_cnt q (q_n q)))), (0, .ref (xx 0))]) rfl ?_
  refine G.al X dX6_well_8 1 rfl ?_
  refine G.get X fX6_29 dX6_well_9 0 0 rfl rfl rfl ?_
  refine G.cvi X kX2_wrongLetter lX6_81 dX6_well_12 (tX2_wrongLetter l D cI cW xe q hq) ⟨Nat.le_of_ble_eq_true rfl, Nat.le_of_ble_eq_true rfl⟩ ⟨Nat.zero_le _, Nat.zero_le _⟩ [3] rfl ⟨rfl, rfl⟩ rfl rfl 3 0 rfl rfl rfl rfl (Nat.le_of_ble_eq_true rfl) (ff_cons (tl_fst _ _ _ _) (ff_nil)) (ws' := [xl xx xn xt xk xe xo xv xc xr cI Z, wl xn cI S, wl xt cI T1, tl xe cI q]) rfl ?_
  refine G.is X dX6_well_15 (by decide) (lv' := [(2, .int (l_wl q)), (1, .int (nI (l_cnt q (q_n q)))), (0, .ref (xx 0))]) rfl ?_
  refine G.al X dX6_well_16 2 rfl ?_
  refine G.get X fX6_16 dX6_well_17 0 0 rfl rfl rfl ?_
  refine G.al X dX6_well_20 2 rfl ?_
  refine G.get X fX6_10 dX6_well_21 0 0 rfl rfl rfl ?_
  refine G.cvv X kX5_becomes lX6_84 dX6_well_24 (tX5_becomes l D cI cW xt T1 xn S) ⟨Nat.le_of_ble_eq_true rfl, Nat.le_of_ble_eq_true rfl⟩ ⟨Nat.zero_le _, Nat.zero_le _⟩ [2, 1] rfl ⟨rfl, rfl⟩ rfl rfl 2 0 rfl rfl rfl rfl (Nat.le_of_ble_eq_true rfl) (ff_cons (wl_fst _ _ _ _) (ff_cons (wl_fst _ _ _ _) (ff_nil))) (ws' := [xl xx xn xt xk xe xo xv xc xr cI Z, wl xn cI S, wl xt cI S, tl xe cI q]) rfl ?_
  refine G.il X dX6_well_27 0 rfl ?_
  refine G.pu X dX6_well_28 ?_
  refine G.c_ne X (a := (l_wl q)) (b := (-1)) dX6_well_29 (fun b29 => absurd (hwl) b29) (fun b29 => ?_)
  refine G.al X dX6_well_32 2 rfl ?_
  refine G.get X fX6_29 dX6_well_33 0 0 rfl rfl rfl ?_
  refine G.al X dX6_well_36 2 rfl ?_
  refine G.get X fX6_16 dX6_well_37 0 0 rfl rfl rfl ?_
  refine G.cvi X kX2_wrongStatement lX6_88 dX6_well_40 (tX2_wrongStatement l D cI cW xe q xt S hq hO) ⟨Nat.le_of_ble_eq_true rfl, Nat.le_of_ble_eq_true rfl⟩ ⟨Nat.zero_le _, Nat.zero_le _⟩ [3, 2] rfl ⟨rfl, rfl⟩ rfl rfl 3 0 rfl rfl rfl rfl (Nat.le_of_ble_eq_true rfl) (ff_cons (tl_fst _ _ _ _) (ff_cons (wl_fst _ _ _ _) (ff_nil))) (ws' := [xl xx xn xt xk xe xo xv xc xr cI Z, wl xn cI S, wl xt cI (l_go q S (l_end q S)), tl xe cI q]) rfl ?_
  refine G.go X dX6_well_43 ?_
  refine G.is X dX6_well_47 (by decide) (lv' := [(3, .int (l_ws q S)), (2, .int (l_wl q)), (1, .int (nI (l_cnt q (q_n q)))), (0, .ref (xx 0))]) rfl ?_
  refine G.il X dX6_well_48 1 rfl ?_
  refine G.pu X dX6_well_49 ?_
  refine G.c_eq X (a := (l_wl q)) (b := (-1)) dX6_well_50 (fun b50 => ?_) (fun b50 => absurd (hwl) b50)
  refine G.il X dX6_well_62 0 rfl ?_
  refine G.pu X dX6_well_63 ?_
  refine G.c_eq X (a := (l_ws q S)) (b := (-1)) dX6_well_64 (fun b64 => ?_) (fun b64 => absurd (hws) b64)
  refine G.al X dX6_well_76 3 rfl ?_
  refine G.get X fX6_10 dX6_well_77 0 0 rfl rfl rfl ?_
  refine G.al X dX6_well_80 3 rfl ?_
  refine G.get X fX6_16 dX6_well_81 0 0 rfl rfl rfl ?_
  refine G.cvv X kX5_becomes lX6_84 dX6_well_84 (tX5_becomes l D cI cW xn S xt (l_go q S (l_end q S))) ⟨Nat.le_of_ble_eq_true rfl, Nat.le_of_ble_eq_true rfl⟩ ⟨Nat.zero_le _, Nat.zero_le _⟩ [1, 2] rfl ⟨rfl, rfl⟩ rfl rfl 1 0 rfl rfl rfl rfl (Nat.le_of_ble_eq_true rfl) (ff_cons (wl_fst _ _ _ _) (ff_cons (wl_fst _ _ _ _) (ff_nil))) (ws' := [xl xx xn xt xk xe xo xv xc xr cI Z, wl xn cI (l_go q S (l_end q S)), wl xt cI (l_go q S (l_end q S)), tl xe cI q]) rfl ?_
  refine G.al X dX6_well_87 3 rfl ?_
  refine G.get X fX6_29 dX6_well_88 0 0 rfl rfl rfl ?_
  refine G.pu X dX6_well_91 ?_
  refine G.puti X fX6_73 fe2 dX6_well_92 rfl rfl 3 0 rfl rfl (Nat.le_of_ble_eq_true rfl) (blk' := tl xe cI (q_f q, 0)) rfl (ws' := [xl xx xn xt xk xe xo xv xc xr cI Z, wl xn cI (l_go q S (l_end q S)), wl xt cI (l_go q S (l_end q S)), tl xe cI (q_f q, 0)]) rfl ?_
  refine G.il X dX6_well_95 2 rfl ?_
  exact G.iret X Rr (v := nI (l_cnt q (q_n q))) dX6_well_96 (pi_mk (by rfl) (by rfl))
