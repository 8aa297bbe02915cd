set_option maxRecDepth 20000 in
theorem tX5_asks (l : Launch) (D : va_G) (cI cW : ClassId) (a : Nat → Nat) (S : WS) (i : Nat) (hi : i < 9) : CT l D cI cW yX5_asks cX5_asks 2 (some .boolean) ⟨0, 0, 0, 0⟩ [.ref (a 0), .int (nI i)] (wl a cI S) (PI (b2i (ask S i)) (wl a cI S)) := by
  refine CT.of RX5 rfl (by decide +kernel) (Nat.le_of_ble_eq_true rfl) [(0, .ref (a 0)), (1, .int (nI i))] rfl (fun x X Rr hnm => ?_)
  refine G.al X dX5_asks_0 0 rfl ?_
  refine G.get X fX5_43 dX5_asks_1 0 rfl rfl ?_
  refine G.il X dX5_asks_4 1 rfl ?_
  refine G.nld X (i := i) dX5_asks_5 7 rfl (by omega) (by decide) ?_
  refine G.z_ne X (a := ((s_wa S) i)) dX5_asks_6 (fun h6 => ?_) (fun h6 => ?_)
  · refine G.pu X dX5_asks_22 ?_
    exact G.zret X Rr (v := 0) (Or.inl rfl) dX5_asks_23 (pi_mk (by simp [ask, b2i, h6]) (by rfl))
  · refine G.al X dX5_asks_9 0 rfl ?_
    refine G.get X fX5_46 dX5_asks_10 0 rfl rfl ?_
    refine G.il X dX5_asks_13 1 rfl ?_
    refine G.nld X (i := i) dX5_asks_14 8 rfl (by omega) (by decide) ?_
    refine G.z_le X (a := ((s_le S) i)) dX5_asks_15 (fun h15 => ?_) (fun h15 => ?_)
    · refine G.pu X dX5_asks_22 ?_
      exact G.zret X Rr (v := 0) (Or.inl rfl) dX5_asks_23 (pi_mk (by simp [ask, b2i, h6, h15]) (by rfl))
    · refine G.pu X dX5_asks_18 ?_
      refine G.go X dX5_asks_19 ?_
      exact G.zret X Rr (v := 1) (Or.inr rfl) dX5_asks_23 (pi_mk (by simp [ask, b2i, h6, h15]) (by rfl))

set_option maxRecDepth 20000 in
theorem tX5_isPerson (l : Launch) (D : va_G) (cI cW : ClassId) (a : Nat → Nat) (S : WS) (p : Int32) (hpe : s_pe S ≤ 5) : CT l D cI cW yX5_isPerson cX5_isPerson 2 (some .boolean) ⟨0, 0, 0, 0⟩ [.ref (a 0), .int p] (wl a cI S) (PI (b2i (z_in p (s_pe S))) (wl a cI S)) := by
  refine CT.of RX5 rfl (by decide +kernel) (Nat.le_of_ble_eq_true rfl) [(0, .ref (a 0)), (1, .int p)] rfl (fun x X Rr hnm => ?_)
  refine G.il X dX5_isPerson_0 1 rfl ?_
  refine G.z_lt X (a := p) dX5_isPerson_1 (fun h1 => ?_) (fun h1 => ?_)
  · refine G.pu X dX5_isPerson_21 ?_
    exact G.zret X Rr (v := 0) (Or.inl rfl) dX5_isPerson_22 (pi_mk (by simp [z_in, b2i, h1]) (by rfl))
  · refine G.il X dX5_isPerson_4 1 rfl ?_
    refine G.al X dX5_isPerson_5 0 rfl ?_
    refine G.get X fX5_9 dX5_isPerson_6 0 rfl rfl ?_
    refine G.c_ge X (a := p) (b := nI (s_pe S)) dX5_isPerson_9 (fun h9 => ?_) (fun h9 => ?_)
    · refine G.pu X dX5_isPerson_21 ?_
      exact G.zret X Rr (v := 0) (Or.inl rfl) dX5_isPerson_22 (pi_mk (by simp [z_in, b2i, h1, h9]) (by rfl))
    · refine G.il X dX5_isPerson_12 1 rfl ?_
      refine G.pu X dX5_isPerson_13 ?_
      refine G.c_ge X (a := p) (b := 5) dX5_isPerson_14 (fun h14 => absurd (lt_nI_le h9 hpe (by decide)) h14) (fun h14 => ?_)
      refine G.pu X dX5_isPerson_17 ?_
      refine G.go X dX5_isPerson_18 ?_
      exact G.zret X Rr (v := 1) (Or.inr rfl) dX5_isPerson_22 (pi_mk (by simp [z_in, b2i, h1, h9, h14]) (by rfl))

set_option maxRecDepth 20000 in
theorem tX5_topicOf (l : Launch) (D : va_G) (cI cW : ClassId) (a : Nat → Nat) (S : WS) (i : Nat) (hi : i < 9) : CT l D cI cW yX5_topicOf cX5_topicOf 3 (some .int) ⟨0, 0, 0, 0⟩ [.ref (a 0), .int (nI i)] (wl a cI S) (PI (top S i) (wl a cI S)) := by
  refine CT.of RX5 rfl (by decide +kernel) (Nat.le_of_ble_eq_true rfl) [(0, .ref (a 0)), (1, .int (nI i))] rfl (fun x X Rr hnm => ?_)
  refine G.al X dX5_topicOf_0 0 rfl ?_
  refine G.get X fX5_37 dX5_topicOf_1 0 rfl rfl ?_
  refine G.il X dX5_topicOf_4 1 rfl ?_
  refine G.nld X (i := i) dX5_topicOf_5 5 rfl (by omega) (by decide) ?_
  refine G.pu X dX5_topicOf_6 ?_
  refine G.irem X dX5_topicOf_8 (by decide) ?_
  refine G.is X dX5_topicOf_9 (by decide) (lv' := [(2, .int (rm32 ((s_we S) i) 8)), (0, .ref (a 0)), (1, .int (nI i))]) rfl ?_
  refine G.al X dX5_topicOf_10 1 rfl ?_
  refine G.get X fX5_34 dX5_topicOf_11 0 rfl rfl ?_
  refine G.il X dX5_topicOf_14 2 rfl ?_
  refine G.nld X (i := i) dX5_topicOf_15 4 rfl (by omega) (by decide) ?_
  by_cases h16_2 : ((s_ki S) i) = 2
  · refine G.tsi X dX5_topicOf_16 2 h16_2 (32) 48 (by decide) ?_
    refine G.pu X dX5_topicOf_48 ?_
    refine G.il X dX5_topicOf_50 0 rfl ?_
    refine G.isub X dX5_topicOf_51 ?_
    exact G.iret X Rr (v := (7 - (rm32 ((s_we S) i) 8))) dX5_topicOf_52 (pi_mk (by simp [top, t_of, rm32, h16_2]) (by rfl))
  by_cases h16_3 : ((s_ki S) i) = 3
  · refine G.tsi X dX5_topicOf_16 3 h16_3 (32) 48 (by decide) ?_
    refine G.pu X dX5_topicOf_48 ?_
    refine G.il X dX5_topicOf_50 0 rfl ?_
    refine G.isub X dX5_topicOf_51 ?_
    exact G.iret X Rr (v := (7 - (rm32 ((s_we S) i) 8))) dX5_topicOf_52 (pi_mk (by simp [top, t_of, rm32, h16_3]) (by rfl))
  by_cases h16_5 : ((s_ki S) i) = 5
  · refine G.tsi X dX5_topicOf_16 5 h16_5 (37) 53 (by decide) ?_
    refine G.pu X dX5_topicOf_53 ?_
    exact G.iret X Rr (v := 0) dX5_topicOf_54 (pi_mk (by simp [top, t_of, rm32, h16_5]) (by rfl))
  refine G.tsd X dX5_topicOf_16 [2, 3, 5] (List.forall_mem_cons.mpr ⟨h16_2, List.forall_mem_cons.mpr ⟨h16_3, List.forall_mem_cons.mpr ⟨h16_5, fun _ h9 => absurd h9 List.not_mem_nil⟩⟩⟩) 55 (by decide) ?_
  refine G.il X dX5_topicOf_55 0 rfl ?_
  exact G.iret X Rr (v := (rm32 ((s_we S) i) 8)) dX5_topicOf_56 (pi_mk (by simp [top, t_of, rm32, h16_2, h16_3, h16_5]) (by rfl))

set_option maxRecDepth 20000 in
theorem tX5_askBits (l : Launch) (D : va_G) (cI cW : ClassId) (a : Nat → Nat) (S : WS) (hth : s_th S ≤ 9) : CT l D cI cW yX5_askBits cX5_askBits 3 (some .int) ⟨1, 0, 0, 21⟩ [.ref (a 0)] (wl a cI S) (PI (askb S (s_th S)) (wl a cI S)) := by
  refine CT.of RX5 rfl (by decide +kernel) (Nat.le_of_ble_eq_true rfl) [(0, .ref (a 0))] rfl (fun x X Rr hnm => ?_)
  refine G.pu X dX5_askBits_0 ?_
  refine G.is X dX5_askBits_1 (by decide) (lv' := [(1, .int 0), (0, .ref (a 0))]) rfl ?_
  refine G.pu X dX5_askBits_2 ?_
  refine G.is X dX5_askBits_3 (by decide) (lv' := [(2, .int 0), (1, .int 0), (0, .ref (a 0))]) rfl ?_
  have L4 : ∀ k, k ≤ s_th S → G x 0 0 (wl a cI S) 4 [(2, .int (nI k)), (1, .int (askb S k)), (0, .ref (a 0))] [] := by
    refine loop_dn (s_th S) _ ?_ ?_
    · refine G.il X dX5_askBits_4 0 rfl ?_
      refine G.al X dX5_askBits_5 2 rfl ?_
      refine G.get X fX5_15 dX5_askBits_6 0 rfl rfl ?_
      refine G.n_ge X (a := s_th S) (b := s_th S) (by omega) (by omega) dX5_askBits_9 (fun h9 => ?_) (fun h9 => absurd h9 (by omega))
      refine G.il X dX5_askBits_32 1 rfl ?_
      exact G.iret X Rr (v := (askb S (s_th S))) dX5_askBits_33 (pi_mk (by rfl) (by rfl))
    · intro k hk ih4
      refine G.il X dX5_askBits_4 0 rfl ?_
      refine G.al X dX5_askBits_5 2 rfl ?_
      refine G.get X fX5_15 dX5_askBits_6 0 rfl rfl ?_
      refine G.n_ge X (a := k) (b := s_th S) (by omega) (by omega) dX5_askBits_9 (fun h9 => absurd h9 (by omega)) (fun h9 => ?_)
      refine G.al X dX5_askBits_12 2 rfl ?_
      refine G.il X dX5_askBits_13 0 rfl ?_
      refine G.cvi X kX5_asks lX5_81 dX5_askBits_14 (tX5_asks l D cI cW a S k (by omega)) ⟨Nat.le_of_ble_eq_true rfl, Nat.le_of_ble_eq_true rfl⟩ ⟨Nat.zero_le _, Nat.zero_le _⟩ [0, 1, 2, 3, 4, 5, 6, 7, 8] rfl ⟨rfl, rfl⟩ rfl rfl 0 rfl rfl rfl (Nat.le_of_ble_eq_true rfl) rfl (ws' := wl a cI S) rfl ?_
      refine G.b_eq X dX5_askBits_17 (fun h17 => ?_) (fun h17 => ?_)
      · refine G.iinc X dX5_askBits_26 0 rfl (v' := nI (k + 1)) (nI_inc k) (by decide) (lv' := [(2, .int (nI (k + 1))), (1, .int (askb S k)), (0, .ref (a 0))]) rfl ?_
        refine G.go X dX5_askBits_29 ?_
        rw [show (askb S (k + 1)) = (askb S k) from (by simp [askb, h9, h17])] at ih4
        exact ih4
      · refine G.il X dX5_askBits_20 1 rfl ?_
        refine G.pu X dX5_askBits_21 ?_
        refine G.il X dX5_askBits_22 0 rfl ?_
        refine G.ishl X dX5_askBits_23 ?_
        refine G.ior X dX5_askBits_24 ?_
        refine G.is X dX5_askBits_25 (by decide) (lv' := [(1, .int ((askb S k) ||| (1 <<< ((nI k) &&& 31)))), (2, .int (nI k)), (0, .ref (a 0))]) rfl ?_
        refine G.iinc X dX5_askBits_26 1 rfl (v' := nI (k + 1)) (nI_inc k) (by decide) (lv' := [(2, .int (nI (k + 1))), (1, .int ((askb S k) ||| (1 <<< ((nI k) &&& 31)))), (0, .ref (a 0))]) rfl ?_
        refine G.go X dX5_askBits_29 ?_
        rw [show (askb S (k + 1)) = ((askb S k) ||| (1 <<< ((nI k) &&& 31))) from (by simp [askb, h9, h17])] at ih4
        exact ih4
  exact L4 0 (Nat.zero_le _)
