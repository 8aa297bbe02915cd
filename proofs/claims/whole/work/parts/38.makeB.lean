set_option maxHeartbeats 2000000 in
set_option maxRecDepth 20000 in
theorem tX1_init (l : Launch) (D : va_G) (cI cW : ClassId) (b : Nat) : CTA l D cI cW yX1_init cX1_init 2 ⟨2, 82, 656, 48⟩ [.ref b] [[(b, .inr (1, [.null, .null, .int 0, .int 0, .int 0]))]] (N_1 cI cW b) := by
  refine CTA.of RX1 rfl (by decide +kernel) (Nat.le_of_ble_eq_true rfl) [(0, .ref b)] rfl (fun x X AX Rr hnm => ?_)
  refine G.al X dX1_init_0 0 rfl ?_
  refine G.oi X lX1_3 dX1_init_1 (Nat.le_of_ble_eq_true rfl) (Nat.le_of_ble_eq_true rfl) ?_
  refine G.al X dX1_init_4 0 rfl ?_
  refine G.new X nX1_9 iX5 zX5 uw5 (ci := 5) rfl tyX5 tyX5_ok (fs := [.int 0, .int 0, .int 0, .int 0, .null, .null, .null, .null, .null, .null, .null, .null]) (fun j hj => by rcases (show j = 0 ∨ j = 1 ∨ j = 2 ∨ j = 3 ∨ j = 4 ∨ j = 5 ∨ j = 6 ∨ j = 7 ∨ j = 8 ∨ j = 9 ∨ j = 10 ∨ j = 11 by omega) with rfl | rfl | rfl | rfl | rfl | rfl | rfl | rfl | rfl | rfl | rfl | rfl <;> rfl) dX1_init_5 (Nat.le_of_ble_eq_true rfl) (Nat.le_of_ble_eq_true rfl) (fun q5 => ?_)
  refine G.cg (ws' := [[(b, .inr (1, [.null, .null, .int 0, .int 0, .int 0]))], [(q5, .inr (5, [.int 0, .int 0, .int 0, .int 0, .null, .null, .null, .null, .null, .null, .null, .null]))]]) rfl rfl rfl ?_
  refine G.dupr X dX1_init_8 ?_
  refine G.cin X AX kX5_init (fun U h => h.2.2.2.2.2.2.1) dX1_init_9 (tX5_init l D cI cW q5) ⟨Nat.le_of_ble_eq_true rfl, Nat.le_of_ble_eq_true rfl⟩ ⟨Nat.le_of_ble_eq_true rfl, Nat.le_of_ble_eq_true rfl⟩ [1] [0] rfl (wr := [[(b, .inr (1, [.null, .null, .int 0, .int 0, .int 0]))]]) rfl rfl rfl (by decide) (Nat.le_of_ble_eq_true rfl) rfl rfl (fun w9 h9 => ?_)
  obtain ⟨a1, rfl, rfl⟩ := h9
  refine G.cg (ws' := [wl a1 cI wz, [(b, .inr (1, [.null, .null, .int 0, .int 0, .int 0]))]]) rfl rfl rfl ?_
  refine G.putF X hnm fX1_12 fe1 dX1_init_12 rfl rfl (ty := tyX1 0) (tyX1_ok 0 (by decide)) rfl rfl 1 0 rfl rfl (Nat.le_of_ble_eq_true rfl) (blk' := [(b, .inr (1, [.ref (a1 0), .null, .int 0, .int 0, .int 0]))]) rfl (ws' := [wl a1 cI wz, [(b, .inr (1, [.ref (a1 0), .null, .int 0, .int 0, .int 0]))]]) rfl ?_
  refine G.al X dX1_init_15 0 rfl ?_
  refine G.pu X dX1_init_16 ?_
  refine G.newq X AX nX1_9 (N := 8) dX1_init_18 (by decide) (by decide) (Nat.le_of_ble_eq_true rfl) (Nat.le_of_ble_eq_true rfl) (Nat.le_of_ble_eq_true rfl) (fun q18 => ?_)
  refine G.cg (ws' := [wl a1 cI wz, [(b, .inr (1, [.ref (a1 0), .null, .int 0, .int 0, .int 0]))], [(q18, .inl (cW, 8, .inr (.inr (.inr (.inr (fun _ => none))))))]]) rfl rfl rfl ?_
  refine G.putF X hnm fX1_18 fe1 dX1_init_21 rfl rfl (ty := tyX1 1) (tyX1_ok 1 (by decide)) rfl rfl 1 0 rfl rfl (Nat.le_of_ble_eq_true rfl) (blk' := [(b, .inr (1, [.ref (a1 0), .ref q18, .int 0, .int 0, .int 0]))]) rfl (ws' := [wl a1 cI wz, [(b, .inr (1, [.ref (a1 0), .ref q18, .int 0, .int 0, .int 0]))], [(q18, .inl (cW, 8, .inr (.inr (.inr (.inr (fun _ => none))))))]]) rfl ?_
  refine G.al X dX1_init_24 0 rfl ?_
  refine G.pu X dX1_init_25 ?_
  refine G.puti X fX1_22 fe1 dX1_init_26 rfl rfl 1 0 rfl rfl (Nat.le_of_ble_eq_true rfl) (blk' := [(b, .inr (1, [.ref (a1 0), .ref q18, .int 0, .int 0, .int 0]))]) rfl (ws' := [wl a1 cI wz, [(b, .inr (1, [.ref (a1 0), .ref q18, .int 0, .int 0, .int 0]))], [(q18, .inl (cW, 8, .inr (.inr (.inr (.inr (fun _ => none))))))]]) rfl ?_
  refine G.al X dX1_init_29 0 rfl ?_
  refine G.pu X dX1_init_30 ?_
  refine G.puti X fX1_26 fe1 dX1_init_31 rfl rfl 1 0 rfl rfl (Nat.le_of_ble_eq_true rfl) (blk' := [(b, .inr (1, [.ref (a1 0), .ref q18, .int 0, .int 0, .int 0]))]) rfl (ws' := [wl a1 cI wz, [(b, .inr (1, [.ref (a1 0), .ref q18, .int 0, .int 0, .int 0]))], [(q18, .inl (cW, 8, .inr (.inr (.inr (.inr (fun _ => none))))))]]) rfl ?_
  refine G.al X dX1_init_34 0 rfl ?_
  refine G.pu X dX1_init_35 ?_
  refine G.puti X fX1_29 fe1 dX1_init_36 rfl rfl 1 0 rfl rfl (Nat.le_of_ble_eq_true rfl) (blk' := [(b, .inr (1, [.ref (a1 0), .ref q18, .int 0, .int 0, .int 0]))]) rfl (ws' := [wl a1 cI wz, [(b, .inr (1, [.ref (a1 0), .ref q18, .int 0, .int 0, .int 0]))], [(q18, .inl (cW, 8, .inr (.inr (.inr (.inr (fun _ => none))))))]]) rfl ?_
  refine G.pu X dX1_init_39 ?_
  refine G.is X dX1_init_40 (by decide) (lv' := [(1, .int 0), (0, .ref b)]) rfl ?_
  refine G.il X dX1_init_41 0 rfl ?_
  refine G.al X dX1_init_42 1 rfl ?_
  refine G.get X fX1_18 dX1_init_43 1 0 rfl rfl rfl ?_
  refine G.alenq X dX1_init_46 2 0 rfl rfl ?_
  refine G.top (b := 8) rfl ?_
  refine G.c_ge X (a := 0) (b := 8) dX1_init_47 (fun h9 => absurd h9 (by decide)) (fun _ => ?_)
  refine G.al X dX1_init_50 1 rfl ?_
  refine G.get X fX1_18 dX1_init_51 1 0 rfl rfl rfl ?_
  refine G.il X dX1_init_54 0 rfl ?_
  refine G.new X nX1_9 iX5 zX5 uw5 (ci := 5) rfl tyX5 tyX5_ok (fs := [.int 0, .int 0, .int 0, .int 0, .null, .null, .null, .null, .null, .null, .null, .null]) (fun j hj => by rcases (show j = 0 ∨ j = 1 ∨ j = 2 ∨ j = 3 ∨ j = 4 ∨ j = 5 ∨ j = 6 ∨ j = 7 ∨ j = 8 ∨ j = 9 ∨ j = 10 ∨ j = 11 by omega) with rfl | rfl | rfl | rfl | rfl | rfl | rfl | rfl | rfl | rfl | rfl | rfl <;> rfl) dX1_init_55 (Nat.le_of_ble_eq_true rfl) (Nat.le_of_ble_eq_true rfl) (fun q55 => ?_)
  refine G.cg (ws' := [wl a1 cI wz, [(b, .inr (1, [.ref (a1 0), .ref q18, .int 0, .int 0, .int 0]))], [(q18, .inl (cW, 8, .inr (.inr (.inr (.inr (fun _ => none))))))], [(q55, .inr (5, [.int 0, .int 0, .int 0, .int 0, .null, .null, .null, .null, .null, .null, .null, .null]))]]) rfl rfl rfl ?_
  refine G.dupr X dX1_init_58 ?_
  refine G.cin X AX kX5_init (fun U h => h.2.2.2.2.2.2.1) dX1_init_59 (tX5_init l D cI cW q55) ⟨Nat.le_of_ble_eq_true rfl, Nat.le_of_ble_eq_true rfl⟩ ⟨Nat.le_of_ble_eq_true rfl, Nat.le_of_ble_eq_true rfl⟩ [3] [0, 1, 2] rfl (wr := [wl a1 cI wz, [(b, .inr (1, [.ref (a1 0), .ref q18, .int 0, .int 0, .int 0]))], [(q18, .inl (cW, 8, .inr (.inr (.inr (.inr (fun _ => none))))))]]) rfl rfl rfl (by decide) (Nat.le_of_ble_eq_true rfl) rfl rfl (fun w9 h9 => ?_)
  obtain ⟨a2, rfl, rfl⟩ := h9
  refine G.cg (ws' := [wl a2 cI wz, wl a1 cI wz, [(b, .inr (1, [.ref (a1 0), .ref q18, .int 0, .int 0, .int 0]))], [(q18, .inl (cW, 8, .inr (.inr (.inr (.inr (fun _ => none))))))]]) rfl rfl rfl ?_
  refine G.astq X (i := 0) dX1_init_62 3 0 rfl rfl 0 0 rfl rfl (by decide) (by decide) (blk' := [(q18, .inl (cW, 8, .inr (.inr (.inr (.inr (va_up (fun _ => none) 0 (some (a2 0))))))))]) rfl (ws' := [wl a2 cI wz, wl a1 cI wz, [(b, .inr (1, [.ref (a1 0), .ref q18, .int 0, .int 0, .int 0]))], [(q18, .inl (cW, 8, .inr (.inr (.inr (.inr (va_up (fun _ => none) 0 (some (a2 0))))))))]]) rfl ?_
  refine G.iinc X dX1_init_63 0 rfl (v' := 1) (by decide) (by decide) (lv' := [(1, .int 1), (0, .ref b)]) rfl ?_
  refine G.go X dX1_init_66 ?_
  refine G.il X dX1_init_41 0 rfl ?_
  refine G.al X dX1_init_42 1 rfl ?_
  refine G.get X fX1_18 dX1_init_43 2 0 rfl rfl rfl ?_
  refine G.alenq X dX1_init_46 3 0 rfl rfl ?_
  refine G.top (b := 8) rfl ?_
  refine G.c_ge X (a := 1) (b := 8) dX1_init_47 (fun h9 => absurd h9 (by decide)) (fun _ => ?_)
  refine G.al X dX1_init_50 1 rfl ?_
  refine G.get X fX1_18 dX1_init_51 2 0 rfl rfl rfl ?_
  refine G.il X dX1_init_54 0 rfl ?_
  refine G.new X nX1_9 iX5 zX5 uw5 (ci := 5) rfl tyX5 tyX5_ok (fs := [.int 0, .int 0, .int 0, .int 0, .null, .null, .null, .null, .null, .null, .null, .null]) (fun j hj => by rcases (show j = 0 ∨ j = 1 ∨ j = 2 ∨ j = 3 ∨ j = 4 ∨ j = 5 ∨ j = 6 ∨ j = 7 ∨ j = 8 ∨ j = 9 ∨ j = 10 ∨ j = 11 by omega) with rfl | rfl | rfl | rfl | rfl | rfl | rfl | rfl | rfl | rfl | rfl | rfl <;> rfl) dX1_init_55 (Nat.le_of_ble_eq_true rfl) (Nat.le_of_ble_eq_true rfl) (fun q55x => ?_)
  refine G.cg (ws' := [wl a2 cI wz, wl a1 cI wz, [(b, .inr (1, [.ref (a1 0), .ref q18, .int 0, .int 0, .int 0]))], [(q18, .inl (cW, 8, .inr (.inr (.inr (.inr (va_up (fun _ => none) 0 (some (a2 0))))))))], [(q55x, .inr (5, [.int 0, .int 0, .int 0, .int 0, .null, .null, .null, .null, .null, .null, .null, .null]))]]) rfl rfl rfl ?_
  refine G.dupr X dX1_init_58 ?_
  refine G.cin X AX kX5_init (fun U h => h.2.2.2.2.2.2.1) dX1_init_59 (tX5_init l D cI cW q55x) ⟨Nat.le_of_ble_eq_true rfl, Nat.le_of_ble_eq_true rfl⟩ ⟨Nat.le_of_ble_eq_true rfl, Nat.le_of_ble_eq_true rfl⟩ [4] [0, 1, 2, 3] rfl (wr := [wl a2 cI wz, wl a1 cI wz, [(b, .inr (1, [.ref (a1 0), .ref q18, .int 0, .int 0, .int 0]))], [(q18, .inl (cW, 8, .inr (.inr (.inr (.inr (va_up (fun _ => none) 0 (some (a2 0))))))))]]) rfl rfl rfl (by decide) (Nat.le_of_ble_eq_true rfl) rfl rfl (fun w9 h9 => ?_)
  obtain ⟨a3, rfl, rfl⟩ := h9
  refine G.cg (ws' := [wl a3 cI wz, wl a2 cI wz, wl a1 cI wz, [(b, .inr (1, [.ref (a1 0), .ref q18, .int 0, .int 0, .int 0]))], [(q18, .inl (cW, 8, .inr (.inr (.inr (.inr (va_up (fun _ => none) 0 (some (a2 0))))))))]]) rfl rfl rfl ?_
  refine G.astq X (i := 1) dX1_init_62 4 0 rfl rfl 0 0 rfl rfl (by decide) (by decide) (blk' := [(q18, .inl (cW, 8, .inr (.inr (.inr (.inr (va_up (va_up (fun _ => none) 0 (some (a2 0))) 1 (some (a3 0))))))))]) rfl (ws' := [wl a3 cI wz, wl a2 cI wz, wl a1 cI wz, [(b, .inr (1, [.ref (a1 0), .ref q18, .int 0, .int 0, .int 0]))], [(q18, .inl (cW, 8, .inr (.inr (.inr (.inr (va_up (va_up (fun _ => none) 0 (some (a2 0))) 1 (some (a3 0))))))))]]) rfl ?_
  refine G.iinc X dX1_init_63 0 rfl (v' := 2) (by decide) (by decide) (lv' := [(1, .int 2), (0, .ref b)]) rfl ?_
  refine G.go X dX1_init_66 ?_
  refine G.il X dX1_init_41 0 rfl ?_
  refine G.al X dX1_init_42 1 rfl ?_
  refine G.get X fX1_18 dX1_init_43 3 0 rfl rfl rfl ?_
  refine G.alenq X dX1_init_46 4 0 rfl rfl ?_
  refine G.top (b := 8) rfl ?_
  refine G.c_ge X (a := 2) (b := 8) dX1_init_47 (fun h9 => absurd h9 (by decide)) (fun _ => ?_)
  refine G.al X dX1_init_50 1 rfl ?_
  refine G.get X fX1_18 dX1_init_51 3 0 rfl rfl rfl ?_
  refine G.il X dX1_init_54 0 rfl ?_
  refine G.new X nX1_9 iX5 zX5 uw5 (ci := 5) rfl tyX5 tyX5_ok (fs := [.int 0, .int 0, .int 0, .int 0, .null, .null, .null, .null, .null, .null, .null, .null]) (fun j hj => by rcases (show j = 0 ∨ j = 1 ∨ j = 2 ∨ j = 3 ∨ j = 4 ∨ j = 5 ∨ j = 6 ∨ j = 7 ∨ j = 8 ∨ j = 9 ∨ j = 10 ∨ j = 11 by omega) with rfl | rfl | rfl | rfl | rfl | rfl | rfl | rfl | rfl | rfl | rfl | rfl <;> rfl) dX1_init_55 (Nat.le_of_ble_eq_true rfl) (Nat.le_of_ble_eq_true rfl) (fun q55xx => ?_)
  refine G.cg (ws' := [wl a3 cI wz, wl a2 cI wz, wl a1 cI wz, [(b, .inr (1, [.ref (a1 0), .ref q18, .int 0, .int 0, .int 0]))], [(q18, .inl (cW, 8, .inr (.inr (.inr (.inr (va_up (va_up (fun _ => none) 0 (some (a2 0))) 1 (some (a3 0))))))))], [(q55xx, .inr (5, [.int 0, .int 0, .int 0, .int 0, .null, .null, .null, .null, .null, .null, .null, .null]))]]) rfl rfl rfl ?_
  refine G.dupr X dX1_init_58 ?_
  refine G.cin X AX kX5_init (fun U h => h.2.2.2.2.2.2.1) dX1_init_59 (tX5_init l D cI cW q55xx) ⟨Nat.le_of_ble_eq_true rfl, Nat.le_of_ble_eq_true rfl⟩ ⟨Nat.le_of_ble_eq_true rfl, Nat.le_of_ble_eq_true rfl⟩ [5] [0, 1, 2, 3, 4] rfl (wr := [wl a3 cI wz, wl a2 cI wz, wl a1 cI wz, [(b, .inr (1, [.ref (a1 0), .ref q18, .int 0, .int 0, .int 0]))], [(q18, .inl (cW, 8, .inr (.inr (.inr (.inr (va_up (va_up (fun _ => none) 0 (some (a2 0))) 1 (some (a3 0))))))))]]) rfl rfl rfl (by decide) (Nat.le_of_ble_eq_true rfl) rfl rfl (fun w9 h9 => ?_)
  obtain ⟨a4, rfl, rfl⟩ := h9
  refine G.cg (ws' := [wl a4 cI wz, wl a3 cI wz, wl a2 cI wz, wl a1 cI wz, [(b, .inr (1, [.ref (a1 0), .ref q18, .int 0, .int 0, .int 0]))], [(q18, .inl (cW, 8, .inr (.inr (.inr (.inr (va_up (va_up (fun _ => none) 0 (some (a2 0))) 1 (some (a3 0))))))))]]) rfl rfl rfl ?_
  refine G.astq X (i := 2) dX1_init_62 5 0 rfl rfl 0 0 rfl rfl (by decide) (by decide) (blk' := [(q18, .inl (cW, 8, .inr (.inr (.inr (.inr (va_up (va_up (va_up (fun _ => none) 0 (some (a2 0))) 1 (some (a3 0))) 2 (some (a4 0))))))))]) rfl (ws' := [wl a4 cI wz, wl a3 cI wz, wl a2 cI wz, wl a1 cI wz, [(b, .inr (1, [.ref (a1 0), .ref q18, .int 0, .int 0, .int 0]))], [(q18, .inl (cW, 8, .inr (.inr (.inr (.inr (va_up (va_up (va_up (fun _ => none) 0 (some (a2 0))) 1 (some (a3 0))) 2 (some (a4 0))))))))]]) rfl ?_
  refine G.iinc X dX1_init_63 0 rfl (v' := 3) (by decide) (by decide) (lv' := [(1, .int 3), (0, .ref b)]) rfl ?_
  refine G.go X dX1_init_66 ?_
  refine G.il X dX1_init_41 0 rfl ?_
  refine G.al X dX1_init_42 1 rfl ?_
  refine G.get X fX1_18 dX1_init_43 4 0 rfl rfl rfl ?_
  refine G.alenq X dX1_init_46 5 0 rfl rfl ?_
  refine G.top (b := 8) rfl ?_
  refine G.c_ge X (a := 3) (b := 8) dX1_init_47 (fun h9 => absurd h9 (by decide)) (fun _ => ?_)
  refine G.al X dX1_init_50 1 rfl ?_
  refine G.get X fX1_18 dX1_init_51 4 0 rfl rfl rfl ?_
  refine G.il X dX1_init_54 0 rfl ?_
  refine G.new X nX1_9 iX5 zX5 uw5 (ci := 5) rfl tyX5 tyX5_ok (fs := [.int 0, .int 0, .int 0, .int 0, .null, .null, .null, .null, .null, .null, .null, .null]) (fun j hj => by rcases (show j = 0 ∨ j = 1 ∨ j = 2 ∨ j = 3 ∨ j = 4 ∨ j = 5 ∨ j = 6 ∨ j = 7 ∨ j = 8 ∨ j = 9 ∨ j = 10 ∨ j = 11 by omega) with rfl | rfl | rfl | rfl | rfl | rfl | rfl | rfl | rfl | rfl | rfl | rfl <;> rfl) dX1_init_55 (Nat.le_of_ble_eq_true rfl) (Nat.le_of_ble_eq_true rfl) (fun q55xxx => ?_)
  refine G.cg (ws' := [wl a4 cI wz, wl a3 cI wz, wl a2 cI wz, wl a1 cI wz, [(b, .inr (1, [.ref (a1 0), .ref q18, .int 0, .int 0, .int 0]))], [(q18, .inl (cW, 8, .inr (.inr (.inr (.inr (va_up (va_up (va_up (fun _ => none) 0 (some (a2 0))) 1 (some (a3 0))) 2 (some (a4 0))))))))], [(q55xxx, .inr (5, [.int 0, .int 0, .int 0, .int 0, .null, .null, .null, .null, .null, .null, .null, .null]))]]) rfl rfl rfl ?_
  refine G.dupr X dX1_init_58 ?_
  refine G.cin X AX kX5_init (fun U h => h.2.2.2.2.2.2.1) dX1_init_59 (tX5_init l D cI cW q55xxx) ⟨Nat.le_of_ble_eq_true rfl, Nat.le_of_ble_eq_true rfl⟩ ⟨Nat.le_of_ble_eq_true rfl, Nat.le_of_ble_eq_true rfl⟩ [6] [0, 1, 2, 3, 4, 5] rfl (wr := [wl a4 cI wz, wl a3 cI wz, wl a2 cI wz, wl a1 cI wz, [(b, .inr (1, [.ref (a1 0), .ref q18, .int 0, .int 0, .int 0]))], [(q18, .inl (cW, 8, .inr (.inr (.inr (.inr (va_up (va_up (va_up (fun _ => none) 0 (some (a2 0))) 1 (some (a3 0))) 2 (some (a4 0))))))))]]) rfl rfl rfl (by decide) (Nat.le_of_ble_eq_true rfl) rfl rfl (fun w9 h9 => ?_)
  obtain ⟨a5, rfl, rfl⟩ := h9
  refine G.cg (ws' := [wl a5 cI wz, wl a4 cI wz, wl a3 cI wz, wl a2 cI wz, wl a1 cI wz, [(b, .inr (1, [.ref (a1 0), .ref q18, .int 0, .int 0, .int 0]))], [(q18, .inl (cW, 8, .inr (.inr (.inr (.inr (va_up (va_up (va_up (fun _ => none) 0 (some (a2 0))) 1 (some (a3 0))) 2 (some (a4 0))))))))]]) rfl rfl rfl ?_
  refine G.astq X (i := 3) dX1_init_62 6 0 rfl rfl 0 0 rfl rfl (by decide) (by decide) (blk' := [(q18, .inl (cW, 8, .inr (.inr (.inr (.inr (va_up (va_up (va_up (va_up (fun _ => none) 0 (some (a2 0))) 1 (some (a3 0))) 2 (some (a4 0))) 3 (some (a5 0))))))))]) rfl (ws' := [wl a5 cI wz, wl a4 cI wz, wl a3 cI wz, wl a2 cI wz, wl a1 cI wz, [(b, .inr (1, [.ref (a1 0), .ref q18, .int 0, .int 0, .int 0]))], [(q18, .inl (cW, 8, .inr (.inr (.inr (.inr (va_up (va_up (va_up (va_up (fun _ => none) 0 (some (a2 0))) 1 (some (a3 0))) 2 (some (a4 0))) 3 (some (a5 0))))))))]]) rfl ?_
  refine G.iinc X dX1_init_63 0 rfl (v' := 4) (by decide) (by decide) (lv' := [(1, .int 4), (0, .ref b)]) rfl ?_
  refine G.go X dX1_init_66 ?_
  refine G.il X dX1_init_41 0 rfl ?_
  refine G.al X dX1_init_42 1 rfl ?_
  refine G.get X fX1_18 dX1_init_43 5 0 rfl rfl rfl ?_
  refine G.alenq X dX1_init_46 6 0 rfl rfl ?_
  refine G.top (b := 8) rfl ?_
  refine G.c_ge X (a := 4) (b := 8) dX1_init_47 (fun h9 => absurd h9 (by decide)) (fun _ => ?_)
  refine G.al X dX1_init_50 1 rfl ?_
  refine G.get X fX1_18 dX1_init_51 5 0 rfl rfl rfl ?_
  refine G.il X dX1_init_54 0 rfl ?_
  refine G.new X nX1_9 iX5 zX5 uw5 (ci := 5) rfl tyX5 tyX5_ok (fs := [.int 0, .int 0, .int 0, .int 0, .null, .null, .null, .null, .null, .null, .null, .null]) (fun j hj => by rcases (show j = 0 ∨ j = 1 ∨ j = 2 ∨ j = 3 ∨ j = 4 ∨ j = 5 ∨ j = 6 ∨ j = 7 ∨ j = 8 ∨ j = 9 ∨ j = 10 ∨ j = 11 by omega) with rfl | rfl | rfl | rfl | rfl | rfl | rfl | rfl | rfl | rfl | rfl | rfl <;> rfl) dX1_init_55 (Nat.le_of_ble_eq_true rfl) (Nat.le_of_ble_eq_true rfl) (fun q55xxxx => ?_)
  refine G.cg (ws' := [wl a5 cI wz, wl a4 cI wz, wl a3 cI wz, wl a2 cI wz, wl a1 cI wz, [(b, .inr (1, [.ref (a1 0), .ref q18, .int 0, .int 0, .int 0]))], [(q18, .inl (cW, 8, .inr (.inr (.inr (.inr (va_up (va_up (va_up (va_up (fun _ => none) 0 (some (a2 0))) 1 (some (a3 0))) 2 (some (a4 0))) 3 (some (a5 0))))))))], [(q55xxxx, .inr (5, [.int 0, .int 0, .int 0, .int 0, .null, .null, .null, .null, .null, .null, .null, .null]))]]) rfl rfl rfl ?_
  refine G.dupr X dX1_init_58 ?_
  refine G.cin X AX kX5_init (fun U h => h.2.2.2.2.2.2.1) dX1_init_59 (tX5_init l D cI cW q55xxxx) ⟨Nat.le_of_ble_eq_true rfl, Nat.le_of_ble_eq_true rfl⟩ ⟨Nat.le_of_ble_eq_true rfl, Nat.le_of_ble_eq_true rfl⟩ [7] [0, 1, 2, 3, 4, 5, 6] rfl (wr := [wl a5 cI wz, wl a4 cI wz, wl a3 cI wz, wl a2 cI wz, wl a1 cI wz, [(b, .inr (1, [.ref (a1 0), .ref q18, .int 0, .int 0, .int 0]))], [(q18, .inl (cW, 8, .inr (.inr (.inr (.inr (va_up (va_up (va_up (va_up (fun _ => none) 0 (some (a2 0))) 1 (some (a3 0))) 2 (some (a4 0))) 3 (some (a5 0))))))))]]) rfl rfl rfl (by decide) (Nat.le_of_ble_eq_true rfl) rfl rfl (fun w9 h9 => ?_)
  obtain ⟨a6, rfl, rfl⟩ := h9
  refine G.cg (ws' := [wl a6 cI wz, wl a5 cI wz, wl a4 cI wz, wl a3 cI wz, wl a2 cI wz, wl a1 cI wz, [(b, .inr (1, [.ref (a1 0), .ref q18, .int 0, .int 0, .int 0]))], [(q18, .inl (cW, 8, .inr (.inr (.inr (.inr (va_up (va_up (va_up (va_up (fun _ => none) 0 (some (a2 0))) 1 (some (a3 0))) 2 (some (a4 0))) 3 (some (a5 0))))))))]]) rfl rfl rfl ?_
  refine G.astq X (i := 4) dX1_init_62 7 0 rfl rfl 0 0 rfl rfl (by decide) (by decide) (blk' := [(q18, .inl (cW, 8, .inr (.inr (.inr (.inr (va_up (va_up (va_up (va_up (va_up (fun _ => none) 0 (some (a2 0))) 1 (some (a3 0))) 2 (some (a4 0))) 3 (some (a5 0))) 4 (some (a6 0))))))))]) rfl (ws' := [wl a6 cI wz, wl a5 cI wz, wl a4 cI wz, wl a3 cI wz, wl a2 cI wz, wl a1 cI wz, [(b, .inr (1, [.ref (a1 0), .ref q18, .int 0, .int 0, .int 0]))], [(q18, .inl (cW, 8, .inr (.inr (.inr (.inr (va_up (va_up (va_up (va_up (va_up (fun _ => none) 0 (some (a2 0))) 1 (some (a3 0))) 2 (some (a4 0))) 3 (some (a5 0))) 4 (some (a6 0))))))))]]) rfl ?_
  refine G.iinc X dX1_init_63 0 rfl (v' := 5) (by decide) (by decide) (lv' := [(1, .int 5), (0, .ref b)]) rfl ?_
  refine G.go X dX1_init_66 ?_
  refine G.il X dX1_init_41 0 rfl ?_
  refine G.al X dX1_init_42 1 rfl ?_
  refine G.get X fX1_18 dX1_init_43 6 0 rfl rfl rfl ?_
  refine G.alenq X dX1_init_46 7 0 rfl rfl ?_
  refine G.top (b := 8) rfl ?_
  refine G.c_ge X (a := 5) (b := 8) dX1_init_47 (fun h9 => absurd h9 (by decide)) (fun _ => ?_)
  refine G.al X dX1_init_50 1 rfl ?_
  refine G.get X fX1_18 dX1_init_51 6 0 rfl rfl rfl ?_
  refine G.il X dX1_init_54 0 rfl ?_
  refine G.new X nX1_9 iX5 zX5 uw5 (ci := 5) rfl tyX5 tyX5_ok (fs := [.int 0, .int 0, .int 0, .int 0, .null, .null, .null, .null, .null, .null, .null, .null]) (fun j hj => by rcases (show j = 0 ∨ j = 1 ∨ j = 2 ∨ j = 3 ∨ j = 4 ∨ j = 5 ∨ j = 6 ∨ j = 7 ∨ j = 8 ∨ j = 9 ∨ j = 10 ∨ j = 11 by omega) with rfl | rfl | rfl | rfl | rfl | rfl | rfl | rfl | rfl | rfl | rfl | rfl <;> rfl) dX1_init_55 (Nat.le_of_ble_eq_true rfl) (Nat.le_of_ble_eq_true rfl) (fun q55xxxxx => ?_)
  refine G.cg (ws' := [wl a6 cI wz, wl a5 cI wz, wl a4 cI wz, wl a3 cI wz, wl a2 cI wz, wl a1 cI wz, [(b, .inr (1, [.ref (a1 0), .ref q18, .int 0, .int 0, .int 0]))], [(q18, .inl (cW, 8, .inr (.inr (.inr (.inr (va_up (va_up (va_up (va_up (va_up (fun _ => none) 0 (some (a2 0))) 1 (some (a3 0))) 2 (some (a4 0))) 3 (some (a5 0))) 4 (some (a6 0))))))))], [(q55xxxxx, .inr (5, [.int 0, .int 0, .int 0, .int 0, .null, .null, .null, .null, .null, .null, .null, .null]))]]) rfl rfl rfl ?_
  refine G.dupr X dX1_init_58 ?_
  refine G.cin X AX kX5_init (fun U h => h.2.2.2.2.2.2.1) dX1_init_59 (tX5_init l D cI cW q55xxxxx) ⟨Nat.le_of_ble_eq_true rfl, Nat.le_of_ble_eq_true rfl⟩ ⟨Nat.le_of_ble_eq_true rfl, Nat.le_of_ble_eq_true rfl⟩ [8] [0, 1, 2, 3, 4, 5, 6, 7] rfl (wr := [wl a6 cI wz, wl a5 cI wz, wl a4 cI wz, wl a3 cI wz, wl a2 cI wz, wl a1 cI wz, [(b, .inr (1, [.ref (a1 0), .ref q18, .int 0, .int 0, .int 0]))], [(q18, .inl (cW, 8, .inr (.inr (.inr (.inr (va_up (va_up (va_up (va_up (va_up (fun _ => none) 0 (some (a2 0))) 1 (some (a3 0))) 2 (some (a4 0))) 3 (some (a5 0))) 4 (some (a6 0))))))))]]) rfl rfl rfl (by decide) (Nat.le_of_ble_eq_true rfl) rfl rfl (fun w9 h9 => ?_)
  obtain ⟨a7, rfl, rfl⟩ := h9
  refine G.cg (ws' := [wl a7 cI wz, wl a6 cI wz, wl a5 cI wz, wl a4 cI wz, wl a3 cI wz, wl a2 cI wz, wl a1 cI wz, [(b, .inr (1, [.ref (a1 0), .ref q18, .int 0, .int 0, .int 0]))], [(q18, .inl (cW, 8, .inr (.inr (.inr (.inr (va_up (va_up (va_up (va_up (va_up (fun _ => none) 0 (some (a2 0))) 1 (some (a3 0))) 2 (some (a4 0))) 3 (some (a5 0))) 4 (some (a6 0))))))))]]) rfl rfl rfl ?_
  refine G.astq X (i := 5) dX1_init_62 8 0 rfl rfl 0 0 rfl rfl (by decide) (by decide) (blk' := [(q18, .inl (cW, 8, .inr (.inr (.inr (.inr (va_up (va_up (va_up (va_up (va_up (va_up (fun _ => none) 0 (some (a2 0))) 1 (some (a3 0))) 2 (some (a4 0))) 3 (some (a5 0))) 4 (some (a6 0))) 5 (some (a7 0))))))))]) rfl (ws' := [wl a7 cI wz, wl a6 cI wz, wl a5 cI wz, wl a4 cI wz, wl a3 cI wz, wl a2 cI wz, wl a1 cI wz, [(b, .inr (1, [.ref (a1 0), .ref q18, .int 0, .int 0, .int 0]))], [(q18, .inl (cW, 8, .inr (.inr (.inr (.inr (va_up (va_up (va_up (va_up (va_up (va_up (fun _ => none) 0 (some (a2 0))) 1 (some (a3 0))) 2 (some (a4 0))) 3 (some (a5 0))) 4 (some (a6 0))) 5 (some (a7 0))))))))]]) rfl ?_
  refine G.iinc X dX1_init_63 0 rfl (v' := 6) (by decide) (by decide) (lv' := [(1, .int 6), (0, .ref b)]) rfl ?_
  refine G.go X dX1_init_66 ?_
  refine G.il X dX1_init_41 0 rfl ?_
  refine G.al X dX1_init_42 1 rfl ?_
  refine G.get X fX1_18 dX1_init_43 7 0 rfl rfl rfl ?_
  refine G.alenq X dX1_init_46 8 0 rfl rfl ?_
  refine G.top (b := 8) rfl ?_
  refine G.c_ge X (a := 6) (b := 8) dX1_init_47 (fun h9 => absurd h9 (by decide)) (fun _ => ?_)
  refine G.al X dX1_init_50 1 rfl ?_
  refine G.get X fX1_18 dX1_init_51 7 0 rfl rfl rfl ?_
  refine G.il X dX1_init_54 0 rfl ?_
  refine G.new X nX1_9 iX5 zX5 uw5 (ci := 5) rfl tyX5 tyX5_ok (fs := [.int 0, .int 0, .int 0, .int 0, .null, .null, .null, .null, .null, .null, .null, .null]) (fun j hj => by rcases (show j = 0 ∨ j = 1 ∨ j = 2 ∨ j = 3 ∨ j = 4 ∨ j = 5 ∨ j = 6 ∨ j = 7 ∨ j = 8 ∨ j = 9 ∨ j = 10 ∨ j = 11 by omega) with rfl | rfl | rfl | rfl | rfl | rfl | rfl | rfl | rfl | rfl | rfl | rfl <;> rfl) dX1_init_55 (Nat.le_of_ble_eq_true rfl) (Nat.le_of_ble_eq_true rfl) (fun q55xxxxxx => ?_)
  refine G.cg (ws' := [wl a7 cI wz, wl a6 cI wz, wl a5 cI wz, wl a4 cI wz, wl a3 cI wz, wl a2 cI wz, wl a1 cI wz, [(b, .inr (1, [.ref (a1 0), .ref q18, .int 0, .int 0, .int 0]))], [(q18, .inl (cW, 8, .inr (.inr (.inr (.inr (va_up (va_up (va_up (va_up (va_up (va_up (fun _ => none) 0 (some (a2 0))) 1 (some (a3 0))) 2 (some (a4 0))) 3 (some (a5 0))) 4 (some (a6 0))) 5 (some (a7 0))))))))], [(q55xxxxxx, .inr (5, [.int 0, .int 0, .int 0, .int 0, .null, .null, .null, .null, .null, .null, .null, .null]))]]) rfl rfl rfl ?_
  refine G.dupr X dX1_init_58 ?_
  refine G.cin X AX kX5_init (fun U h => h.2.2.2.2.2.2.1) dX1_init_59 (tX5_init l D cI cW q55xxxxxx) ⟨Nat.le_of_ble_eq_true rfl, Nat.le_of_ble_eq_true rfl⟩ ⟨Nat.le_of_ble_eq_true rfl, Nat.le_of_ble_eq_true rfl⟩ [9] [0, 1, 2, 3, 4, 5, 6, 7, 8] rfl (wr := [wl a7 cI wz, wl a6 cI wz, wl a5 cI wz, wl a4 cI wz, wl a3 cI wz, wl a2 cI wz, wl a1 cI wz, [(b, .inr (1, [.ref (a1 0), .ref q18, .int 0, .int 0, .int 0]))], [(q18, .inl (cW, 8, .inr (.inr (.inr (.inr (va_up (va_up (va_up (va_up (va_up (va_up (fun _ => none) 0 (some (a2 0))) 1 (some (a3 0))) 2 (some (a4 0))) 3 (some (a5 0))) 4 (some (a6 0))) 5 (some (a7 0))))))))]]) rfl rfl rfl (by decide) (Nat.le_of_ble_eq_true rfl) rfl rfl (fun w9 h9 => ?_)
  obtain ⟨a8, rfl, rfl⟩ := h9
  refine G.cg (ws' := [wl a8 cI wz, wl a7 cI wz, wl a6 cI wz, wl a5 cI wz, wl a4 cI wz, wl a3 cI wz, wl a2 cI wz, wl a1 cI wz, [(b, .inr (1, [.ref (a1 0), .ref q18, .int 0, .int 0, .int 0]))], [(q18, .inl (cW, 8, .inr (.inr (.inr (.inr (va_up (va_up (va_up (va_up (va_up (va_up (fun _ => none) 0 (some (a2 0))) 1 (some (a3 0))) 2 (some (a4 0))) 3 (some (a5 0))) 4 (some (a6 0))) 5 (some (a7 0))))))))]]) rfl rfl rfl ?_
  refine G.astq X (i := 6) dX1_init_62 9 0 rfl rfl 0 0 rfl rfl (by decide) (by decide) (blk' := [(q18, .inl (cW, 8, .inr (.inr (.inr (.inr (va_up (va_up (va_up (va_up (va_up (va_up (va_up (fun _ => none) 0 (some (a2 0))) 1 (some (a3 0))) 2 (some (a4 0))) 3 (some (a5 0))) 4 (some (a6 0))) 5 (some (a7 0))) 6 (some (a8 0))))))))]) rfl (ws' := [wl a8 cI wz, wl a7 cI wz, wl a6 cI wz, wl a5 cI wz, wl a4 cI wz, wl a3 cI wz, wl a2 cI wz, wl a1 cI wz, [(b, .inr (1, [.ref (a1 0), .ref q18, .int 0, .int 0, .int 0]))], [(q18, .inl (cW, 8, .inr (.inr (.inr (.inr (va_up (va_up (va_up (va_up (va_up (va_up (va_up (fun _ => none) 0 (some (a2 0))) 1 (some (a3 0))) 2 (some (a4 0))) 3 (some (a5 0))) 4 (some (a6 0))) 5 (some (a7 0))) 6 (some (a8 0))))))))]]) rfl ?_
  refine G.iinc X dX1_init_63 0 rfl (v' := 7) (by decide) (by decide) (lv' := [(1, .int 7), (0, .ref b)]) rfl ?_
  refine G.go X dX1_init_66 ?_
  refine G.il X dX1_init_41 0 rfl ?_
  refine G.al X dX1_init_42 1 rfl ?_
  refine G.get X fX1_18 dX1_init_43 8 0 rfl rfl rfl ?_
  refine G.alenq X dX1_init_46 9 0 rfl rfl ?_
  refine G.top (b := 8) rfl ?_
  refine G.c_ge X (a := 7) (b := 8) dX1_init_47 (fun h9 => absurd h9 (by decide)) (fun _ => ?_)
  refine G.al X dX1_init_50 1 rfl ?_
  refine G.get X fX1_18 dX1_init_51 8 0 rfl rfl rfl ?_
  refine G.il X dX1_init_54 0 rfl ?_
  refine G.new X nX1_9 iX5 zX5 uw5 (ci := 5) rfl tyX5 tyX5_ok (fs := [.int 0, .int 0, .int 0, .int 0, .null, .null, .null, .null, .null, .null, .null, .null]) (fun j hj => by rcases (show j = 0 ∨ j = 1 ∨ j = 2 ∨ j = 3 ∨ j = 4 ∨ j = 5 ∨ j = 6 ∨ j = 7 ∨ j = 8 ∨ j = 9 ∨ j = 10 ∨ j = 11 by omega) with rfl | rfl | rfl | rfl | rfl | rfl | rfl | rfl | rfl | rfl | rfl | rfl <;> rfl) dX1_init_55 (Nat.le_of_ble_eq_true rfl) (Nat.le_of_ble_eq_true rfl) (fun q55xxxxxxx => ?_)
  refine G.cg (ws' := [wl a8 cI wz, wl a7 cI wz, wl a6 cI wz, wl a5 cI wz, wl a4 cI wz, wl a3 cI wz, wl a2 cI wz, wl a1 cI wz, [(b, .inr (1, [.ref (a1 0), .ref q18, .int 0, .int 0, .int 0]))], [(q18, .inl (cW, 8, .inr (.inr (.inr (.inr (va_up (va_up (va_up (va_up (va_up (va_up (va_up (fun _ => none) 0 (some (a2 0))) 1 (some (a3 0))) 2 (some (a4 0))) 3 (some (a5 0))) 4 (some (a6 0))) 5 (some (a7 0))) 6 (some (a8 0))))))))], [(q55xxxxxxx, .inr (5, [.int 0, .int 0, .int 0, .int 0, .null, .null, .null, .null, .null, .null, .null, .null]))]]) rfl rfl rfl ?_
  refine G.dupr X dX1_init_58 ?_
  refine G.cin X AX kX5_init (fun U h => h.2.2.2.2.2.2.1) dX1_init_59 (tX5_init l D cI cW q55xxxxxxx) ⟨Nat.le_of_ble_eq_true rfl, Nat.le_of_ble_eq_true rfl⟩ ⟨Nat.le_of_ble_eq_true rfl, Nat.le_of_ble_eq_true rfl⟩ [10] [0, 1, 2, 3, 4, 5, 6, 7, 8, 9] rfl (wr := [wl a8 cI wz, wl a7 cI wz, wl a6 cI wz, wl a5 cI wz, wl a4 cI wz, wl a3 cI wz, wl a2 cI wz, wl a1 cI wz, [(b, .inr (1, [.ref (a1 0), .ref q18, .int 0, .int 0, .int 0]))], [(q18, .inl (cW, 8, .inr (.inr (.inr (.inr (va_up (va_up (va_up (va_up (va_up (va_up (va_up (fun _ => none) 0 (some (a2 0))) 1 (some (a3 0))) 2 (some (a4 0))) 3 (some (a5 0))) 4 (some (a6 0))) 5 (some (a7 0))) 6 (some (a8 0))))))))]]) rfl rfl rfl (by decide) (Nat.le_of_ble_eq_true rfl) rfl rfl (fun w9 h9 => ?_)
  obtain ⟨a9, rfl, rfl⟩ := h9
  refine G.cg (ws' := [wl a9 cI wz, wl a8 cI wz, wl a7 cI wz, wl a6 cI wz, wl a5 cI wz, wl a4 cI wz, wl a3 cI wz, wl a2 cI wz, wl a1 cI wz, [(b, .inr (1, [.ref (a1 0), .ref q18, .int 0, .int 0, .int 0]))], [(q18, .inl (cW, 8, .inr (.inr (.inr (.inr (va_up (va_up (va_up (va_up (va_up (va_up (va_up (fun _ => none) 0 (some (a2 0))) 1 (some (a3 0))) 2 (some (a4 0))) 3 (some (a5 0))) 4 (some (a6 0))) 5 (some (a7 0))) 6 (some (a8 0))))))))]]) rfl rfl rfl ?_
  refine G.astq X (i := 7) dX1_init_62 10 0 rfl rfl 0 0 rfl rfl (by decide) (by decide) (blk' := [(q18, .inl (cW, 8, .inr (.inr (.inr (.inr (va_up (va_up (va_up (va_up (va_up (va_up (va_up (va_up (fun _ => none) 0 (some (a2 0))) 1 (some (a3 0))) 2 (some (a4 0))) 3 (some (a5 0))) 4 (some (a6 0))) 5 (some (a7 0))) 6 (some (a8 0))) 7 (some (a9 0))))))))]) rfl (ws' := [wl a9 cI wz, wl a8 cI wz, wl a7 cI wz, wl a6 cI wz, wl a5 cI wz, wl a4 cI wz, wl a3 cI wz, wl a2 cI wz, wl a1 cI wz, [(b, .inr (1, [.ref (a1 0), .ref q18, .int 0, .int 0, .int 0]))], [(q18, .inl (cW, 8, .inr (.inr (.inr (.inr (va_up (va_up (va_up (va_up (va_up (va_up (va_up (va_up (fun _ => none) 0 (some (a2 0))) 1 (some (a3 0))) 2 (some (a4 0))) 3 (some (a5 0))) 4 (some (a6 0))) 5 (some (a7 0))) 6 (some (a8 0))) 7 (some (a9 0))))))))]]) rfl ?_
  refine G.iinc X dX1_init_63 0 rfl (v' := 8) (by decide) (by decide) (lv' := [(1, .int 8), (0, .ref b)]) rfl ?_
  refine G.go X dX1_init_66 ?_
  refine G.il X dX1_init_41 0 rfl ?_
  refine G.al X dX1_init_42 1 rfl ?_
  refine G.get X fX1_18 dX1_init_43 9 0 rfl rfl rfl ?_
  refine G.alenq X dX1_init_46 10 0 rfl rfl ?_
  refine G.top (b := 8) rfl ?_
  refine G.c_ge X (a := 8) (b := 8) dX1_init_47 (fun _ => ?_) (fun h9 => absurd h9 (by decide))
  obtain ⟨w9, rfl, rfl, rfl, rfl, rfl, rfl, rfl, rfl⟩ : ∃ w9 : Nat → Nat → Nat, w9 0 = a2 ∧ w9 1 = a3 ∧ w9 2 = a4 ∧ w9 3 = a5 ∧ w9 4 = a6 ∧ w9 5 = a7 ∧ w9 6 = a8 ∧ w9 7 = a9 := ⟨fun k => [a2, a3, a4, a5, a6, a7, a8, a9].getD k a2, rfl, rfl, rfl, rfl, rfl, rfl, rfl, rfl⟩
  refine G.canonq 10 0 rfl rfl (g := fun k => some (w9 k 0)) (fun j hj => by rcases (show j = 0 ∨ j = 1 ∨ j = 2 ∨ j = 3 ∨ j = 4 ∨ j = 5 ∨ j = 6 ∨ j = 7 by omega) with rfl | rfl | rfl | rfl | rfl | rfl | rfl | rfl <;> simp [va_up]) (blk' := [(q18, .inl (cW, 8, .inr (.inr (.inr (.inr (fun k => some (w9 k 0)))))))]) rfl (ws' := [wl (w9 7) cI wz, wl (w9 6) cI wz, wl (w9 5) cI wz, wl (w9 4) cI wz, wl (w9 3) cI wz, wl (w9 2) cI wz, wl (w9 1) cI wz, wl (w9 0) cI wz, wl a1 cI wz, [(b, .inr (1, [.ref (a1 0), .ref q18, .int 0, .int 0, .int 0]))], [(q18, .inl (cW, 8, .inr (.inr (.inr (.inr (fun k => some (w9 k 0)))))))]]) rfl ?_
  refine G.sub [9, 10, 8, 7, 6, 5, 4, 3, 2, 1, 0] rfl (ws' := [[(b, .inr (1, [.ref (a1 0), .ref q18, .int 0, .int 0, .int 0]))], [(q18, .inl (cW, 8, .inr (.inr (.inr (.inr (fun k => some (w9 k 0)))))))], wl a1 cI wz, wl (w9 0) cI wz, wl (w9 1) cI wz, wl (w9 2) cI wz, wl (w9 3) cI wz, wl (w9 4) cI wz, wl (w9 5) cI wz, wl (w9 6) cI wz, wl (w9 7) cI wz]) rfl ?_
  refine G.cgf (ws' := [cl (fun k => [b, q18].getD k 0) a1 w9 cW (0, 0, 0), wl a1 cI wz, wl (w9 0) cI wz, wl (w9 1) cI wz, wl (w9 2) cI wz, wl (w9 3) cI wz, wl (w9 4) cI wz, wl (w9 5) cI wz, wl (w9 6) cI wz, wl (w9 7) cI wz]) rfl ?_
  exact G.vret X Rr dX1_init_69 ⟨rfl, (fun k => [b, q18].getD k 0), a1, w9, rfl, rfl⟩
