set_option maxRecDepth 20000 in
theorem tX6_riseOf (l : Launch) (D : va_G) (cI cW : ClassId) (k : Int32) (w : Int32) (d : Int32) : CT l D cI cW yX6_riseOf cX6_riseOf 4 (some .int) ⟨0, 0, 0, 0⟩ [.int k, .int w, .int d] ([]) (PI (r_of k w d) ([])) := by
  refine CT.of RX6 rfl (by decide +kernel) (Nat.le_of_ble_eq_true rfl) [(0, .int k), (1, .int w), (2, .int d)] rfl (fun x X Rr hnm => ?_)
  refine G.il X dX6_riseOf_0 1 rfl ?_
  refine G.pu X dX6_riseOf_1 ?_
  refine G.idiv X dX6_riseOf_2 (by decide) ?_
  refine G.pu X dX6_riseOf_3 ?_
  refine G.iadd X dX6_riseOf_4 ?_
  refine G.is X dX6_riseOf_5 (by decide) (lv' := [(3, .int ((w / 3) + 1)), (0, .int k), (1, .int w), (2, .int d)]) rfl ?_
  refine G.il X dX6_riseOf_6 1 rfl ?_
  by_cases h7_1 : k = 1
  · refine G.tsi X dX6_riseOf_7 1 h7_1 (33) 40 (by decide) ?_
    refine G.il X dX6_riseOf_40 0 rfl ?_
    refine G.pu X dX6_riseOf_41 ?_
    refine G.iadd X dX6_riseOf_42 ?_
    exact G.iret X Rr (v := (((w / 3) + 1) + 1)) dX6_riseOf_43 (pi_mk (by simp [r_of, h7_1]) (by rfl))
  by_cases h7_3 : k = 3
  · refine G.tsi X dX6_riseOf_7 3 h7_3 (43) 50 (by decide) ?_
    refine G.il X dX6_riseOf_50 0 rfl ?_
    refine G.il X dX6_riseOf_51 3 rfl ?_
    refine G.iadd X dX6_riseOf_52 ?_
    exact G.iret X Rr (v := (((w / 3) + 1) + d)) dX6_riseOf_53 (pi_mk (by simp [r_of, h7_3]) (by rfl))
  by_cases h7_4 : k = 4
  · refine G.tsi X dX6_riseOf_7 4 h7_4 (37) 44 (by decide) ?_
    refine G.pu X dX6_riseOf_44 ?_
    refine G.il X dX6_riseOf_45 0 rfl ?_
    refine G.pu X dX6_riseOf_46 ?_
    refine G.iadd X dX6_riseOf_47 ?_
    refine G.imul X dX6_riseOf_48 ?_
    exact G.iret X Rr (v := (2 * (((w / 3) + 1) + 1))) dX6_riseOf_49 (pi_mk (by simp [r_of, h7_4]) (by rfl))
  by_cases h7_5 : k = 5
  · refine G.tsi X dX6_riseOf_7 5 h7_5 (43) 50 (by decide) ?_
    refine G.il X dX6_riseOf_50 0 rfl ?_
    refine G.il X dX6_riseOf_51 3 rfl ?_
    refine G.iadd X dX6_riseOf_52 ?_
    exact G.iret X Rr (v := (((w / 3) + 1) + d)) dX6_riseOf_53 (pi_mk (by simp [r_of, h7_5]) (by rfl))
  refine G.tsd X dX6_riseOf_7 [1, 3, 4, 5] (List.forall_mem_cons.mpr ⟨h7_1, List.forall_mem_cons.mpr ⟨h7_3, List.forall_mem_cons.mpr ⟨h7_4, List.forall_mem_cons.mpr ⟨h7_5, fun _ h9 => absurd h9 List.not_mem_nil⟩⟩⟩⟩) 54 (by decide) ?_
  refine G.il X dX6_riseOf_54 0 rfl ?_
  exact G.iret X Rr (v := ((w / 3) + 1)) dX6_riseOf_55 (pi_mk (by simp [r_of, h7_1, h7_3, h7_4, h7_5]) (by rfl))

set_option maxRecDepth 20000 in
theorem tX6_timesOf (l : Launch) (D : va_G) (cI cW : ClassId) (k : Int32) (w : Int32) : CT l D cI cW yX6_timesOf cX6_timesOf 2 (some .int) ⟨0, 0, 0, 0⟩ [.int k, .int w] ([]) (PI (n_of k w) ([])) := by
  refine CT.of RX6 rfl (by decide +kernel) (Nat.le_of_ble_eq_true rfl) [(0, .int k), (1, .int w)] rfl (fun x X Rr hnm => ?_)
  refine G.il X dX6_timesOf_0 0 rfl ?_
  by_cases h1_2 : k = 2
  · refine G.tsi X dX6_timesOf_1 2 h1_2 (31) 32 (by decide) ?_
    refine G.pu X dX6_timesOf_32 ?_
    exact G.iret X Rr (v := 2) dX6_timesOf_33 (pi_mk (by simp [n_of, h1_2]) (by rfl))
  by_cases h1_3 : k = 3
  · refine G.tsi X dX6_timesOf_1 3 h1_3 (31) 32 (by decide) ?_
    refine G.pu X dX6_timesOf_32 ?_
    exact G.iret X Rr (v := 2) dX6_timesOf_33 (pi_mk (by simp [n_of, h1_3]) (by rfl))
  by_cases h1_4 : k = 4
  · refine G.tsi X dX6_timesOf_1 4 h1_4 (33) 34 (by decide) ?_
    refine G.pu X dX6_timesOf_34 ?_
    refine G.il X dX6_timesOf_35 1 rfl ?_
    refine G.pu X dX6_timesOf_36 ?_
    refine G.idiv X dX6_timesOf_37 (by decide) ?_
    refine G.iadd X dX6_timesOf_38 ?_
    exact G.iret X Rr (v := (1 + (w / 4))) dX6_timesOf_39 (pi_mk (by simp [n_of, h1_4]) (by rfl))
  by_cases h1_5 : k = 5
  · refine G.tsi X dX6_timesOf_1 5 h1_5 (39) 40 (by decide) ?_
    refine G.pu X dX6_timesOf_40 ?_
    exact G.iret X Rr (v := 4) dX6_timesOf_41 (pi_mk (by simp [n_of, h1_5]) (by rfl))
  refine G.tsd X dX6_timesOf_1 [2, 3, 4, 5] (List.forall_mem_cons.mpr ⟨h1_2, List.forall_mem_cons.mpr ⟨h1_3, List.forall_mem_cons.mpr ⟨h1_4, List.forall_mem_cons.mpr ⟨h1_5, fun _ h9 => absurd h9 List.not_mem_nil⟩⟩⟩⟩) 42 (by decide) ?_
  refine G.pu X dX6_timesOf_42 ?_
  exact G.iret X Rr (v := 1) dX6_timesOf_43 (pi_mk (by simp [n_of, h1_2, h1_3, h1_4, h1_5]) (by rfl))

set_option maxRecDepth 20000 in
theorem tX6_isKind (l : Launch) (D : va_G) (cI cW : ClassId) (k : Int32) : CT l D cI cW yX6_isKind cX6_isKind 1 (some .boolean) ⟨0, 0, 0, 0⟩ [.int k] ([]) (PI (b2i (z_in k 6)) ([])) := by
  refine CT.of RX6 rfl (by decide +kernel) (Nat.le_of_ble_eq_true rfl) [(0, .int k)] rfl (fun x X Rr hnm => ?_)
  refine G.il X dX6_isKind_0 0 rfl ?_
  refine G.z_lt X (a := k) dX6_isKind_1 (fun b1 => ?_) (fun b1 => ?_)
  · refine G.pu X dX6_isKind_14 ?_
    exact G.zret X Rr (v := 0) (Or.inl rfl) dX6_isKind_15 (pi_mk (by simp [z_in, b2i, show nI 6 = 6 from rfl, b1]) (by rfl))
  · refine G.il X dX6_isKind_4 0 rfl ?_
    refine G.pu X dX6_isKind_5 ?_
    refine G.c_ge X (a := k) (b := 6) dX6_isKind_7 (fun b7 => ?_) (fun b7 => ?_)
    · refine G.pu X dX6_isKind_14 ?_
      exact G.zret X Rr (v := 0) (Or.inl rfl) dX6_isKind_15 (pi_mk (by simp [z_in, b2i, show nI 6 = 6 from rfl, b1, b7]) (by rfl))
    · refine G.pu X dX6_isKind_10 ?_
      refine G.go X dX6_isKind_11 ?_
      exact G.zret X Rr (v := 1) (Or.inr rfl) dX6_isKind_15 (pi_mk (by simp [z_in, b2i, show nI 6 = 6 from rfl, b1, b7]) (by rfl))

set_option maxRecDepth 20000 in
theorem tX5_asks (l : Launch) (D : va_G) (cI cW : ClassId) (a : Nat → Nat) (S : WS) (i : Nat) (hi : i < 9) : CT l D cI cW yX5_asks cX5_asks 2 (some .boolean) ⟨0, 0, 0, 0⟩ [.ref (a 0), .int (nI i)] ([wl a cI S]) (PI (b2i (ask S i)) ([wl a cI S])) := by
  refine CT.of RX5 rfl (by decide +kernel) (Nat.le_of_ble_eq_true rfl) [(0, .ref (a 0)), (1, .int (nI i))] rfl (fun x X Rr hnm => ?_)
  refine G.al X dX5_asks_0 0 rfl ?_
  refine G.get X fX5_43 dX5_asks_1 0 0 rfl rfl rfl ?_
  refine G.il X dX5_asks_4 1 rfl ?_
  refine G.nld X (i := i) dX5_asks_5 0 7 rfl rfl (by omega) (by decide) ?_
  refine G.z_ne X (a := ((s_wa S) i)) dX5_asks_6 (fun h6 => ?_) (fun h6 => ?_)
  · refine G.pu X dX5_asks_22 ?_
    exact G.zret X Rr (v := 0) (Or.inl rfl) dX5_asks_23 (pi_mk (by simp [ask, b2i, h6]) (by rfl))
  · refine G.al X dX5_asks_9 0 rfl ?_
    refine G.get X fX5_46 dX5_asks_10 0 0 rfl rfl rfl ?_
    refine G.il X dX5_asks_13 1 rfl ?_
    refine G.nld X (i := i) dX5_asks_14 0 8 rfl rfl (by omega) (by decide) ?_
    refine G.z_le X (a := ((s_le S) i)) dX5_asks_15 (fun h15 => ?_) (fun h15 => ?_)
    · refine G.pu X dX5_asks_22 ?_
      exact G.zret X Rr (v := 0) (Or.inl rfl) dX5_asks_23 (pi_mk (by simp [ask, b2i, h6, h15]) (by rfl))
    · refine G.pu X dX5_asks_18 ?_
      refine G.go X dX5_asks_19 ?_
      exact G.zret X Rr (v := 1) (Or.inr rfl) dX5_asks_23 (pi_mk (by simp [ask, b2i, h6, h15]) (by rfl))

set_option maxRecDepth 20000 in
theorem tX5_isPerson (l : Launch) (D : va_G) (cI cW : ClassId) (a : Nat → Nat) (S : WS) (p : Int32) (hpe : s_pe S ≤ 5) : CT l D cI cW yX5_isPerson cX5_isPerson 2 (some .boolean) ⟨0, 0, 0, 0⟩ [.ref (a 0), .int p] ([wl a cI S]) (PI (b2i (z_in p (s_pe S))) ([wl a cI S])) := by
  refine CT.of RX5 rfl (by decide +kernel) (Nat.le_of_ble_eq_true rfl) [(0, .ref (a 0)), (1, .int p)] rfl (fun x X Rr hnm => ?_)
  refine G.il X dX5_isPerson_0 1 rfl ?_
  refine G.z_lt X (a := p) dX5_isPerson_1 (fun h1 => ?_) (fun h1 => ?_)
  · refine G.pu X dX5_isPerson_21 ?_
    exact G.zret X Rr (v := 0) (Or.inl rfl) dX5_isPerson_22 (pi_mk (by simp [z_in, b2i, h1]) (by rfl))
  · refine G.il X dX5_isPerson_4 1 rfl ?_
    refine G.al X dX5_isPerson_5 0 rfl ?_
    refine G.get X fX5_9 dX5_isPerson_6 0 0 rfl rfl rfl ?_
    refine G.c_ge X (a := p) (b := nI (s_pe S)) dX5_isPerson_9 (fun h9 => ?_) (fun h9 => ?_)
    · refine G.pu X dX5_isPerson_21 ?_
      exact G.zret X Rr (v := 0) (Or.inl rfl) dX5_isPerson_22 (pi_mk (by simp [z_in, b2i, h1, h9]) (by rfl))
    · refine G.il X dX5_isPerson_12 1 rfl ?_
      refine G.pu X dX5_isPerson_13 ?_
      refine G.c_ge X (a := p) (b := 5) dX5_isPerson_14 (fun h14 => absurd (lt_nI_le h9 hpe (by decide)) h14) (fun h14 => ?_)
      refine G.pu X dX5_isPerson_17 ?_
      refine G.go X dX5_isPerson_18 ?_
      exact G.zret X Rr (v := 1) (Or.inr rfl) dX5_isPerson_22 (pi_mk (by simp [z_in, b2i, h1, h9, h14]) (by rfl))

set_option maxRecDepth 20000 in
theorem tX5_isThing (l : Launch) (D : va_G) (cI cW : ClassId) (a : Nat → Nat) (S : WS) (p : Int32) (hth : s_th S ≤ 9) : CT l D cI cW yX5_isThing cX5_isThing 2 (some .boolean) ⟨0, 0, 0, 0⟩ [.ref (a 0), .int p] ([wl a cI S]) (PI (b2i (z_in p (s_th S))) ([wl a cI S])) := by
  refine CT.of RX5 rfl (by decide +kernel) (Nat.le_of_ble_eq_true rfl) [(0, .ref (a 0)), (1, .int p)] rfl (fun x X Rr hnm => ?_)
  refine G.il X dX5_isThing_0 1 rfl ?_
  refine G.z_lt X (a := p) dX5_isThing_1 (fun h1 => ?_) (fun h1 => ?_)
  · refine G.pu X dX5_isThing_22 ?_
    exact G.zret X Rr (v := 0) (Or.inl rfl) dX5_isThing_23 (pi_mk (by simp [z_in, b2i, h1]) (by rfl))
  · refine G.il X dX5_isThing_4 1 rfl ?_
    refine G.al X dX5_isThing_5 0 rfl ?_
    refine G.get X fX5_15 dX5_isThing_6 0 0 rfl rfl rfl ?_
    refine G.c_ge X (a := p) (b := nI (s_th S)) dX5_isThing_9 (fun h9 => ?_) (fun h9 => ?_)
    · refine G.pu X dX5_isThing_22 ?_
      exact G.zret X Rr (v := 0) (Or.inl rfl) dX5_isThing_23 (pi_mk (by simp [z_in, b2i, h1, h9]) (by rfl))
    · refine G.il X dX5_isThing_12 1 rfl ?_
      refine G.pu X dX5_isThing_13 ?_
      refine G.c_ge X (a := p) (b := 9) dX5_isThing_15 (fun h15 => absurd (lt_nI_le h9 hth (by decide)) h15) (fun h15 => ?_)
      refine G.pu X dX5_isThing_18 ?_
      refine G.go X dX5_isThing_19 ?_
      exact G.zret X Rr (v := 1) (Or.inr rfl) dX5_isThing_23 (pi_mk (by simp [z_in, b2i, h1, h9, h15]) (by rfl))

set_option maxRecDepth 20000 in
theorem tX5_topicOf (l : Launch) (D : va_G) (cI cW : ClassId) (a : Nat → Nat) (S : WS) (i : Nat) (hi : i < 9) : CT l D cI cW yX5_topicOf cX5_topicOf 3 (some .int) ⟨0, 0, 0, 0⟩ [.ref (a 0), .int (nI i)] ([wl a cI S]) (PI (top S i) ([wl a cI S])) := by
  refine CT.of RX5 rfl (by decide +kernel) (Nat.le_of_ble_eq_true rfl) [(0, .ref (a 0)), (1, .int (nI i))] rfl (fun x X Rr hnm => ?_)
  refine G.al X dX5_topicOf_0 0 rfl ?_
  refine G.get X fX5_37 dX5_topicOf_1 0 0 rfl rfl rfl ?_
  refine G.il X dX5_topicOf_4 1 rfl ?_
  refine G.nld X (i := i) dX5_topicOf_5 0 5 rfl rfl (by omega) (by decide) ?_
  refine G.pu X dX5_topicOf_6 ?_
  refine G.irem X dX5_topicOf_8 (by decide) ?_
  refine G.is X dX5_topicOf_9 (by decide) (lv' := [(2, .int (rm32 ((s_we S) i) 8)), (0, .ref (a 0)), (1, .int (nI i))]) rfl ?_
  refine G.al X dX5_topicOf_10 1 rfl ?_
  refine G.get X fX5_34 dX5_topicOf_11 0 0 rfl rfl rfl ?_
  refine G.il X dX5_topicOf_14 2 rfl ?_
  refine G.nld X (i := i) dX5_topicOf_15 0 4 rfl rfl (by omega) (by decide) ?_
  by_cases h16_2 : ((s_ki S) i) = 2
  · refine G.tsi X dX5_topicOf_16 2 h16_2 (32) 48 (by decide) ?_
    refine G.pu X dX5_topicOf_48 ?_
    refine G.il X dX5_topicOf_50 0 rfl ?_
    refine G.isub X dX5_topicOf_51 ?_
    exact G.iret X Rr (v := (7 - (rm32 ((s_we S) i) 8))) dX5_topicOf_52 (pi_mk (by simp [top, t_of, rm32, h16_2]) (by rfl))
  by_cases h16_3 : ((s_ki S) i) = 3
  · refine G.tsi X dX5_topicOf_16 3 h16_3 (32) 48 (by decide) ?_
    refine G.pu X dX5_topicOf_48 ?_
    refine G.il X dX5_topicOf_50 0 rfl ?_
    refine G.isub X dX5_topicOf_51 ?_
    exact G.iret X Rr (v := (7 - (rm32 ((s_we S) i) 8))) dX5_topicOf_52 (pi_mk (by simp [top, t_of, rm32, h16_3]) (by rfl))
  by_cases h16_5 : ((s_ki S) i) = 5
  · refine G.tsi X dX5_topicOf_16 5 h16_5 (37) 53 (by decide) ?_
    refine G.pu X dX5_topicOf_53 ?_
    exact G.iret X Rr (v := 0) dX5_topicOf_54 (pi_mk (by simp [top, t_of, rm32, h16_5]) (by rfl))
  refine G.tsd X dX5_topicOf_16 [2, 3, 5] (List.forall_mem_cons.mpr ⟨h16_2, List.forall_mem_cons.mpr ⟨h16_3, List.forall_mem_cons.mpr ⟨h16_5, fun _ h9 => absurd h9 List.not_mem_nil⟩⟩⟩) 55 (by decide) ?_
  refine G.il X dX5_topicOf_55 0 rfl ?_
  exact G.iret X Rr (v := (rm32 ((s_we S) i) 8)) dX5_topicOf_56 (pi_mk (by simp [top, t_of, rm32, h16_2, h16_3, h16_5]) (by rfl))

set_option maxRecDepth 20000 in
theorem tX5_askBits (l : Launch) (D : va_G) (cI cW : ClassId) (a : Nat → Nat) (S : WS) (hth : s_th S ≤ 9) : CT l D cI cW yX5_askBits cX5_askBits 3 (some .int) ⟨1, 0, 0, 21⟩ [.ref (a 0)] ([wl a cI S]) (PI (askb S (s_th S)) ([wl a cI S])) := by
  refine CT.of RX5 rfl (by decide +kernel) (Nat.le_of_ble_eq_true rfl) [(0, .ref (a 0))] rfl (fun x X Rr hnm => ?_)
  refine G.pu X dX5_askBits_0 ?_
  refine G.is X dX5_askBits_1 (by decide) (lv' := [(1, .int 0), (0, .ref (a 0))]) rfl ?_
  refine G.pu X dX5_askBits_2 ?_
  refine G.is X dX5_askBits_3 (by decide) (lv' := [(2, .int 0), (1, .int 0), (0, .ref (a 0))]) rfl ?_
  have L4 : ∀ k, k ≤ s_th S → G x 0 0 ([wl a cI S]) 4 [(2, .int (nI k)), (1, .int (askb S k)), (0, .ref (a 0))] [] := by
    refine loop_dn (s_th S) _ ?_ ?_
    · refine G.il X dX5_askBits_4 0 rfl ?_
      refine G.al X dX5_askBits_5 2 rfl ?_
      refine G.get X fX5_15 dX5_askBits_6 0 0 rfl rfl rfl ?_
      refine G.n_ge X (a := s_th S) (b := s_th S) (by omega) (by omega) dX5_askBits_9 (fun h9 => ?_) (fun h9 => absurd h9 (by omega))
      refine G.il X dX5_askBits_32 1 rfl ?_
      exact G.iret X Rr (v := (askb S (s_th S))) dX5_askBits_33 (pi_mk (by rfl) (by rfl))
    · intro k hk ih4
      refine G.il X dX5_askBits_4 0 rfl ?_
      refine G.al X dX5_askBits_5 2 rfl ?_
      refine G.get X fX5_15 dX5_askBits_6 0 0 rfl rfl rfl ?_
      refine G.n_ge X (a := k) (b := s_th S) (by omega) (by omega) dX5_askBits_9 (fun h9 => absurd h9 (by omega)) (fun h9 => ?_)
      refine G.al X dX5_askBits_12 2 rfl ?_
      refine G.il X dX5_askBits_13 0 rfl ?_
      refine G.cvi X kX5_asks lX5_81 dX5_askBits_14 (tX5_asks l D cI cW a S k (by omega)) ⟨Nat.le_of_ble_eq_true rfl, Nat.le_of_ble_eq_true rfl⟩ ⟨Nat.zero_le _, Nat.zero_le _⟩ [0] rfl ⟨rfl, rfl⟩ rfl rfl 0 0 rfl rfl rfl rfl (Nat.le_of_ble_eq_true rfl) (ff_cons (wl_fst _ _ _ _) (ff_nil)) (ws' := [wl a cI S]) rfl ?_
      refine G.b_eq X dX5_askBits_17 (fun h17 => ?_) (fun h17 => ?_)
      · refine G.iinc X dX5_askBits_26 0 rfl (v' := nI (k + 1)) (nI_inc k) (by decide) (lv' := [(2, .int (nI (k + 1))), (1, .int (askb S k)), (0, .ref (a 0))]) rfl ?_
        refine G.go X dX5_askBits_29 ?_
        rw [show (askb S (k + 1)) = (askb S k) from (by simp [askb, h9, h17])] at ih4
        exact ih4
      · refine G.il X dX5_askBits_20 1 rfl ?_
        refine G.pu X dX5_askBits_21 ?_
        refine G.il X dX5_askBits_22 0 rfl ?_
        refine G.ishl X dX5_askBits_23 ?_
        refine G.ior X dX5_askBits_24 ?_
        refine G.is X dX5_askBits_25 (by decide) (lv' := [(1, .int ((askb S k) ||| (1 <<< ((nI k) &&& 31)))), (2, .int (nI k)), (0, .ref (a 0))]) rfl ?_
        refine G.iinc X dX5_askBits_26 1 rfl (v' := nI (k + 1)) (nI_inc k) (by decide) (lv' := [(2, .int (nI (k + 1))), (1, .int ((askb S k) ||| (1 <<< ((nI k) &&& 31)))), (0, .ref (a 0))]) rfl ?_
        refine G.go X dX5_askBits_29 ?_
        rw [show (askb S (k + 1)) = ((askb S k) ||| (1 <<< ((nI k) &&& 31))) from (by simp [askb, h9, h17])] at ih4
        exact ih4
  have L4 := L4 0 (Nat.zero_le _)
  exact L4

set_option maxRecDepth 20000 in
theorem tX5_hasWater (l : Launch) (D : va_G) (cI cW : ClassId) (a : Nat → Nat) (S : WS) (hth : s_th S ≤ 9) : CT l D cI cW yX5_hasWater cX5_hasWater 2 (some .boolean) ⟨1, 0, 0, 21⟩ [.ref (a 0)] ([wl a cI S]) (PI (b2i (w_wat S)) ([wl a cI S])) := by
  refine CT.of RX5 rfl (by decide +kernel) (Nat.le_of_ble_eq_true rfl) [(0, .ref (a 0))] rfl (fun x X Rr hnm => ?_)
  refine G.pu X dX5_hasWater_0 ?_
  refine G.is X dX5_hasWater_1 (by decide) (lv' := [(1, .int 0), (0, .ref (a 0))]) rfl ?_
  have L2 : ∀ k, k ≤ s_th S → (∀ j, j < k → ask S j = false) → G x 0 0 ([wl a cI S]) 2 [(1, .int (nI k)), (0, .ref (a 0))] [] := by
    refine loop_dn (s_th S) _ ?_ ?_
    · intro hinv2
      refine G.il X dX5_hasWater_2 0 rfl ?_
      refine G.al X dX5_hasWater_3 1 rfl ?_
      refine G.get X fX5_15 dX5_hasWater_4 0 0 rfl rfl rfl ?_
      refine G.n_ge X (a := s_th S) (b := s_th S) (by omega) (by omega) dX5_hasWater_7 (fun h7 => ?_) (fun h7 => absurd h7 (by omega))
      refine G.pu X dX5_hasWater_26 ?_
      exact G.zret X Rr (v := 1) (Or.inr rfl) dX5_hasWater_27 (pi_mk (by simp [w_wat, b2i, allb_t (P := fun i => !ask S i) (n := s_th S) (fun j hj => by simp [hinv2 j hj])]) (by rfl))
    · intro k hk ih2 hinv2
      refine G.il X dX5_hasWater_2 0 rfl ?_
      refine G.al X dX5_hasWater_3 1 rfl ?_
      refine G.get X fX5_15 dX5_hasWater_4 0 0 rfl rfl rfl ?_
      refine G.n_ge X (a := k) (b := s_th S) (by omega) (by omega) dX5_hasWater_7 (fun h7 => absurd h7 (by omega)) (fun h7 => ?_)
      refine G.al X dX5_hasWater_10 1 rfl ?_
      refine G.il X dX5_hasWater_11 0 rfl ?_
      refine G.cvi X kX5_asks lX5_81 dX5_hasWater_12 (tX5_asks l D cI cW a S k (by omega)) ⟨Nat.le_of_ble_eq_true rfl, Nat.le_of_ble_eq_true rfl⟩ ⟨Nat.zero_le _, Nat.zero_le _⟩ [0] rfl ⟨rfl, rfl⟩ rfl rfl 0 0 rfl rfl rfl rfl (Nat.le_of_ble_eq_true rfl) (ff_cons (wl_fst _ _ _ _) (ff_nil)) (ws' := [wl a cI S]) rfl ?_
      refine G.b_eq X dX5_hasWater_15 (fun h15 => ?_) (fun h15 => ?_)
      · refine G.iinc X dX5_hasWater_20 0 rfl (v' := nI (k + 1)) (nI_inc k) (by decide) (lv' := [(1, .int (nI (k + 1))), (0, .ref (a 0))]) rfl ?_
        refine G.go X dX5_hasWater_23 ?_
        exact ih2 (lt_snoc hinv2 h15)
      · refine G.pu X dX5_hasWater_18 ?_
        exact G.zret X Rr (v := 0) (Or.inl rfl) dX5_hasWater_19 (pi_mk (by simp [w_wat, b2i, allb_f (P := fun i => !ask S i) (k := k) (by simp [h15]) hk]) (by rfl))
  have L2 := L2 0 (Nat.zero_le _) (fun j hj => absurd hj (by omega))
  exact L2

set_option maxRecDepth 20000 in
theorem tX5_fall (l : Launch) (D : va_G) (cI cW : ClassId) (a : Nat → Nat) (S : WS) (i : Nat) (hth : s_th S ≤ 9) (hi : i < s_th S) : CT l D cI cW yX5_fall cX5_fall 2 (some .boolean) ⟨1, 0, 0, 23⟩ [.ref (a 0), .int (nI i)] ([wl a cI S]) (PI (b2i (true)) ([wl a cI (w_fall S i)])) := by
  refine CT.of RX5 rfl (by decide +kernel) (Nat.le_of_ble_eq_true rfl) [(0, .ref (a 0)), (1, .int (nI i))] rfl (fun x X Rr hnm => ?_)
  refine G.al X dX5_fall_0 0 rfl ?_
  refine G.il X dX5_fall_1 1 rfl ?_
  refine G.cvi X kX5_isThing lX5_62 dX5_fall_2 (tX5_isThing l D cI cW a S (nI i) (by omega)) ⟨Nat.le_of_ble_eq_true rfl, Nat.le_of_ble_eq_true rfl⟩ ⟨Nat.zero_le _, Nat.zero_le _⟩ [0] rfl ⟨rfl, rfl⟩ rfl rfl 0 0 rfl rfl rfl rfl (Nat.le_of_ble_eq_true rfl) (ff_cons (wl_fst _ _ _ _) (ff_nil)) (ws' := [wl a cI S]) rfl ?_
  refine G.b_ne X dX5_fall_5 (fun h5 => ?_) (fun h5 => absurd h5 ((by rw [z_in_nI hi (by omega)]; decide)))
  refine G.al X dX5_fall_10 0 rfl ?_
  refine G.get X fX5_43 dX5_fall_11 0 0 rfl rfl rfl ?_
  refine G.il X dX5_fall_14 1 rfl ?_
  refine G.al X dX5_fall_15 0 rfl ?_
  refine G.get X fX5_34 dX5_fall_16 0 0 rfl rfl rfl ?_
  refine G.il X dX5_fall_19 1 rfl ?_
  refine G.nld X (i := i) dX5_fall_20 0 4 rfl rfl (by omega) (by decide) ?_
  refine G.al X dX5_fall_21 0 rfl ?_
  refine G.get X fX5_37 dX5_fall_22 0 0 rfl rfl rfl ?_
  refine G.il X dX5_fall_25 1 rfl ?_
  refine G.nld X (i := i) dX5_fall_26 0 5 rfl rfl (by omega) (by decide) ?_
  refine G.al X dX5_fall_27 0 rfl ?_
  refine G.get X fX5_21 dX5_fall_28 0 0 rfl rfl rfl ?_
  refine G.csni X kX6_riseOf (fun U h => h.2.2.2.2.2.2.2.2.2.2.1) dX5_fall_31 (tX6_riseOf l D cI cW ((s_ki S) i) ((s_we S) i) (s_dr S)) ⟨Nat.le_of_ble_eq_true rfl, Nat.le_of_ble_eq_true rfl⟩ ⟨Nat.zero_le _, Nat.zero_le _⟩ [] rfl ⟨rfl, rfl⟩ rfl rfl rfl (Nat.le_of_ble_eq_true rfl) (ff_nil) (ws' := [wl a cI S]) rfl ?_
  refine G.nst X (i := i) dX5_fall_34 0 7 rfl rfl (by omega) (by decide) (blk' := wl a cI (s_pe S, s_th S, s_da S, s_dr S, s_kn S, s_sh S, s_an S, s_ki S, s_we S, s_dp S, upd (s_wa S) i (r_of ((s_ki S) i) ((s_we S) i) (s_dr S)), s_le S)) rfl (ws' := [wl a cI (s_pe S, s_th S, s_da S, s_dr S, s_kn S, s_sh S, s_an S, s_ki S, s_we S, s_dp S, upd (s_wa S) i (r_of ((s_ki S) i) ((s_we S) i) (s_dr S)), s_le S)]) rfl ?_
  refine G.al X dX5_fall_35 0 rfl ?_
  refine G.get X fX5_46 dX5_fall_36 0 0 rfl rfl rfl ?_
  refine G.il X dX5_fall_39 1 rfl ?_
  refine G.al X dX5_fall_40 0 rfl ?_
  refine G.get X fX5_34 dX5_fall_41 0 0 rfl rfl rfl ?_
  refine G.il X dX5_fall_44 1 rfl ?_
  refine G.nld X (i := i) dX5_fall_45 0 4 rfl rfl (by omega) (by decide) ?_
  refine G.al X dX5_fall_46 0 rfl ?_
  refine G.get X fX5_37 dX5_fall_47 0 0 rfl rfl rfl ?_
  refine G.il X dX5_fall_50 1 rfl ?_
  refine G.nld X (i := i) dX5_fall_51 0 5 rfl rfl (by omega) (by decide) ?_
  refine G.csni X kX6_timesOf (fun U h => h.2.2.2.2.2.2.2.2.2.2.2) dX5_fall_52 (tX6_timesOf l D cI cW ((s_ki S) i) ((s_we S) i)) ⟨Nat.le_of_ble_eq_true rfl, Nat.le_of_ble_eq_true rfl⟩ ⟨Nat.zero_le _, Nat.zero_le _⟩ [] rfl ⟨rfl, rfl⟩ rfl rfl rfl (Nat.le_of_ble_eq_true rfl) (ff_nil) (ws' := [wl a cI (s_pe S, s_th S, s_da S, s_dr S, s_kn S, s_sh S, s_an S, s_ki S, s_we S, s_dp S, upd (s_wa S) i (r_of ((s_ki S) i) ((s_we S) i) (s_dr S)), s_le S)]) rfl ?_
  refine G.nst X (i := i) dX5_fall_55 0 8 rfl rfl (by omega) (by decide) (blk' := wl a cI (s_pe S, s_th S, s_da S, s_dr S, s_kn S, s_sh S, s_an S, s_ki S, s_we S, s_dp S, upd (s_wa S) i (r_of ((s_ki S) i) ((s_we S) i) (s_dr S)), upd (s_le S) i (n_of ((s_ki S) i) ((s_we S) i)))) rfl (ws' := [wl a cI (s_pe S, s_th S, s_da S, s_dr S, s_kn S, s_sh S, s_an S, s_ki S, s_we S, s_dp S, upd (s_wa S) i (r_of ((s_ki S) i) ((s_we S) i) (s_dr S)), upd (s_le S) i (n_of ((s_ki S) i) ((s_we S) i)))]) rfl ?_
  refine G.pu X dX5_fall_56 ?_
  exact G.zret X Rr (v := 1) (Or.inr rfl) dX5_fall_57 (pi_mk (by rfl) (by rfl))

set_option maxRecDepth 20000 in
theorem tX5_fall_bad (l : Launch) (D : va_G) (cI cW : ClassId) (a : Nat → Nat) (S : WS) (i : Int32) (hth : s_th S ≤ 9) (hi : z_in i (s_th S) = false) : CT l D cI cW yX5_fall cX5_fall 2 (some .boolean) ⟨1, 0, 0, 21⟩ [.ref (a 0), .int i] ([wl a cI S]) (PI (b2i (false)) ([wl a cI S])) := by
  refine CT.of RX5 rfl (by decide +kernel) (Nat.le_of_ble_eq_true rfl) [(0, .ref (a 0)), (1, .int i)] rfl (fun x X Rr hnm => ?_)
  refine G.al X dX5_fall_0 0 rfl ?_
  refine G.il X dX5_fall_1 1 rfl ?_
  refine G.cvi X kX5_isThing lX5_62 dX5_fall_2 (tX5_isThing l D cI cW a S i (by omega)) ⟨Nat.le_of_ble_eq_true rfl, Nat.le_of_ble_eq_true rfl⟩ ⟨Nat.zero_le _, Nat.zero_le _⟩ [0] rfl ⟨rfl, rfl⟩ rfl rfl 0 0 rfl rfl rfl rfl (Nat.le_of_ble_eq_true rfl) (ff_cons (wl_fst _ _ _ _) (ff_nil)) (ws' := [wl a cI S]) rfl ?_
  refine G.b_ne X dX5_fall_5 (fun h5 => absurd h5 ((by rw [hi]; decide))) (fun h5 => ?_)
  refine G.pu X dX5_fall_8 ?_
  exact G.zret X Rr (v := 0) (Or.inl rfl) dX5_fall_9 (pi_mk (by rfl) (by rfl))

set_option maxRecDepth 20000 in
theorem tX5_addPerson (l : Launch) (D : va_G) (cI cW : ClassId) (a : Nat → Nat) (S : WS) (v : Int32) (w : Int32) (hpe : s_pe S < 5) (hw : ¬ 255 < w) : CT l D cI cW yX5_addPerson cX5_addPerson 3 (some .boolean) ⟨0, 0, 0, 0⟩ [.ref (a 0), .int v, .int w] ([wl a cI S]) (PI (b2i (true)) ([wl a cI (w_one S v w)])) := by
  refine CT.of RX5 rfl (by decide +kernel) (Nat.le_of_ble_eq_true rfl) [(0, .ref (a 0)), (1, .int v), (2, .int w)] rfl (fun x X Rr hnm => ?_)
  refine G.al X dX5_addPerson_0 0 rfl ?_
  refine G.get X fX5_9 dX5_addPerson_1 0 0 rfl rfl rfl ?_
  refine G.pu X dX5_addPerson_4 ?_
  refine G.n_ge X (a := s_pe S) (b := 5) (by omega) (by omega) dX5_addPerson_5 (fun h5 => absurd h5 (by omega)) (fun h5 => ?_)
  refine G.il X dX5_addPerson_8 2 rfl ?_
  refine G.pu X dX5_addPerson_9 ?_
  refine G.c_le X (a := w) (b := 255) dX5_addPerson_12 (fun h12 => ?_) (fun h12 => absurd h12 (hw))
  refine G.al X dX5_addPerson_17 0 rfl ?_
  refine G.get X fX5_24 dX5_addPerson_18 0 0 rfl rfl rfl ?_
  refine G.al X dX5_addPerson_21 0 rfl ?_
  refine G.get X fX5_9 dX5_addPerson_22 0 0 rfl rfl rfl ?_
  refine G.il X dX5_addPerson_25 2 rfl ?_
  refine G.nst X (i := s_pe S) dX5_addPerson_26 0 1 rfl rfl (by omega) (by decide) (blk' := wl a cI (s_pe S, s_th S, s_da S, s_dr S, upd (s_kn S) (s_pe S) w, s_sh S, s_an S, s_ki S, s_we S, s_dp S, s_wa S, s_le S)) rfl (ws' := [wl a cI (s_pe S, s_th S, s_da S, s_dr S, upd (s_kn S) (s_pe S) w, s_sh S, s_an S, s_ki S, s_we S, s_dp S, s_wa S, s_le S)]) rfl ?_
  refine G.al X dX5_addPerson_27 0 rfl ?_
  refine G.get X fX5_28 dX5_addPerson_28 0 0 rfl rfl rfl ?_
  refine G.al X dX5_addPerson_31 0 rfl ?_
  refine G.get X fX5_9 dX5_addPerson_32 0 0 rfl rfl rfl ?_
  refine G.il X dX5_addPerson_35 1 rfl ?_
  refine G.nst X (i := s_pe S) dX5_addPerson_36 0 2 rfl rfl (by omega) (by decide) (blk' := wl a cI (s_pe S, s_th S, s_da S, s_dr S, upd (s_kn S) (s_pe S) w, upd (s_sh S) (s_pe S) v, s_an S, s_ki S, s_we S, s_dp S, s_wa S, s_le S)) rfl (ws' := [wl a cI (s_pe S, s_th S, s_da S, s_dr S, upd (s_kn S) (s_pe S) w, upd (s_sh S) (s_pe S) v, s_an S, s_ki S, s_we S, s_dp S, s_wa S, s_le S)]) rfl ?_
  refine G.al X dX5_addPerson_37 0 rfl ?_
  refine G.get X fX5_31 dX5_addPerson_38 0 0 rfl rfl rfl ?_
  refine G.al X dX5_addPerson_41 0 rfl ?_
  refine G.get X fX5_9 dX5_addPerson_42 0 0 rfl rfl rfl ?_
  refine G.pu X dX5_addPerson_45 ?_
  refine G.nst X (i := s_pe S) dX5_addPerson_46 0 3 rfl rfl (by omega) (by decide) (blk' := wl a cI (s_pe S, s_th S, s_da S, s_dr S, upd (s_kn S) (s_pe S) w, upd (s_sh S) (s_pe S) v, upd (s_an S) (s_pe S) 0, s_ki S, s_we S, s_dp S, s_wa S, s_le S)) rfl (ws' := [wl a cI (s_pe S, s_th S, s_da S, s_dr S, upd (s_kn S) (s_pe S) w, upd (s_sh S) (s_pe S) v, upd (s_an S) (s_pe S) 0, s_ki S, s_we S, s_dp S, s_wa S, s_le S)]) rfl ?_
  refine G.al X dX5_addPerson_47 0 rfl ?_
  refine G.dupr X dX5_addPerson_48 ?_
  refine G.get X fX5_9 dX5_addPerson_49 0 0 rfl rfl rfl ?_
  refine G.pu X dX5_addPerson_52 ?_
  refine G.nadd X (a := s_pe S) (b := 1) dX5_addPerson_53 ?_
  refine G.puti X fX5_9 fe5 dX5_addPerson_54 rfl rfl 0 0 rfl rfl (Nat.le_of_ble_eq_true rfl) (blk' := wl a cI ((s_pe S) + 1, s_th S, s_da S, s_dr S, upd (s_kn S) (s_pe S) w, upd (s_sh S) (s_pe S) v, upd (s_an S) (s_pe S) 0, s_ki S, s_we S, s_dp S, s_wa S, s_le S)) rfl (ws' := [wl a cI ((s_pe S) + 1, s_th S, s_da S, s_dr S, upd (s_kn S) (s_pe S) w, upd (s_sh S) (s_pe S) v, upd (s_an S) (s_pe S) 0, s_ki S, s_we S, s_dp S, s_wa S, s_le S)]) rfl ?_
  refine G.pu X dX5_addPerson_57 ?_
  exact G.zret X Rr (v := 1) (Or.inr rfl) dX5_addPerson_58 (pi_mk (by rfl) (by rfl))

set_option maxRecDepth 20000 in
theorem tX5_addPerson_bad (l : Launch) (D : va_G) (cI cW : ClassId) (a : Nat → Nat) (S : WS) (v : Int32) (w : Int32) (hpe : s_pe S ≤ 5) (hw : ¬ s_pe S < 5 ∨ 255 < w) : CT l D cI cW yX5_addPerson cX5_addPerson 3 (some .boolean) ⟨0, 0, 0, 0⟩ [.ref (a 0), .int v, .int w] ([wl a cI S]) (PI (b2i (false)) ([wl a cI S])) := by
  refine CT.of RX5 rfl (by decide +kernel) (Nat.le_of_ble_eq_true rfl) [(0, .ref (a 0)), (1, .int v), (2, .int w)] rfl (fun x X Rr hnm => ?_)
  refine G.al X dX5_addPerson_0 0 rfl ?_
  refine G.get X fX5_9 dX5_addPerson_1 0 0 rfl rfl rfl ?_
  refine G.pu X dX5_addPerson_4 ?_
  refine G.n_ge X (a := s_pe S) (b := 5) (by omega) (by omega) dX5_addPerson_5 (fun h5 => ?_) (fun h5 => ?_)
  · refine G.pu X dX5_addPerson_15 ?_
    exact G.zret X Rr (v := 0) (Or.inl rfl) dX5_addPerson_16 (pi_mk (by rfl) (by rfl))
  · refine G.il X dX5_addPerson_8 2 rfl ?_
    refine G.pu X dX5_addPerson_9 ?_
    refine G.c_le X (a := w) (b := 255) dX5_addPerson_12 (fun h12 => absurd ((hw.resolve_left (by omega))) h12) (fun h12 => ?_)
    refine G.pu X dX5_addPerson_15 ?_
    exact G.zret X Rr (v := 0) (Or.inl rfl) dX5_addPerson_16 (pi_mk (by rfl) (by rfl))

set_option maxRecDepth 20000 in
theorem tX5_addThing (l : Launch) (D : va_G) (cI cW : ClassId) (a : Nat → Nat) (S : WS) (k : Int32) (w : Int32) (b : Int32) (hth : s_th S < 9) (hpe : s_pe S ≤ 5) (hb : z_in b (s_pe S) = true) : CT l D cI cW yX5_addThing cX5_addThing 4 (some .boolean) ⟨2, 0, 0, 44⟩ [.ref (a 0), .int k, .int w, .int b] ([wl a cI S]) (PI (b2i (true)) ([wl a cI (w_add S k w b)])) := by
  refine CT.of RX5 rfl (by decide +kernel) (Nat.le_of_ble_eq_true rfl) [(0, .ref (a 0)), (1, .int k), (2, .int w), (3, .int b)] rfl (fun x X Rr hnm => ?_)
  refine G.al X dX5_addThing_0 0 rfl ?_
  refine G.get X fX5_15 dX5_addThing_1 0 0 rfl rfl rfl ?_
  refine G.pu X dX5_addThing_4 ?_
  refine G.n_ge X (a := s_th S) (b := 9) (by omega) (by omega) dX5_addThing_6 (fun h6 => absurd h6 (by omega)) (fun h6 => ?_)
  refine G.al X dX5_addThing_9 0 rfl ?_
  refine G.il X dX5_addThing_10 3 rfl ?_
  refine G.cvi X kX5_isPerson lX5_55 dX5_addThing_11 (tX5_isPerson l D cI cW a S b (by omega)) ⟨Nat.le_of_ble_eq_true rfl, Nat.le_of_ble_eq_true rfl⟩ ⟨Nat.zero_le _, Nat.zero_le _⟩ [0] rfl ⟨rfl, rfl⟩ rfl rfl 0 0 rfl rfl rfl rfl (Nat.le_of_ble_eq_true rfl) (ff_cons (wl_fst _ _ _ _) (ff_nil)) (ws' := [wl a cI S]) rfl ?_
  refine G.b_ne X dX5_addThing_14 (fun h14 => ?_) (fun h14 => absurd h14 ((by rw [hb]; decide)))
  refine G.al X dX5_addThing_19 0 rfl ?_
  refine G.get X fX5_34 dX5_addThing_20 0 0 rfl rfl rfl ?_
  refine G.al X dX5_addThing_23 0 rfl ?_
  refine G.get X fX5_15 dX5_addThing_24 0 0 rfl rfl rfl ?_
  refine G.il X dX5_addThing_27 1 rfl ?_
  refine G.nst X (i := s_th S) dX5_addThing_28 0 4 rfl rfl (by omega) (by decide) (blk' := wl a cI (s_pe S, s_th S, s_da S, s_dr S, s_kn S, s_sh S, s_an S, upd (s_ki S) (s_th S) k, s_we S, s_dp S, s_wa S, s_le S)) rfl (ws' := [wl a cI (s_pe S, s_th S, s_da S, s_dr S, s_kn S, s_sh S, s_an S, upd (s_ki S) (s_th S) k, s_we S, s_dp S, s_wa S, s_le S)]) rfl ?_
  refine G.al X dX5_addThing_29 0 rfl ?_
  refine G.get X fX5_37 dX5_addThing_30 0 0 rfl rfl rfl ?_
  refine G.al X dX5_addThing_33 0 rfl ?_
  refine G.get X fX5_15 dX5_addThing_34 0 0 rfl rfl rfl ?_
  refine G.il X dX5_addThing_37 2 rfl ?_
  refine G.nst X (i := s_th S) dX5_addThing_38 0 5 rfl rfl (by omega) (by decide) (blk' := wl a cI (s_pe S, s_th S, s_da S, s_dr S, s_kn S, s_sh S, s_an S, upd (s_ki S) (s_th S) k, upd (s_we S) (s_th S) w, s_dp S, s_wa S, s_le S)) rfl (ws' := [wl a cI (s_pe S, s_th S, s_da S, s_dr S, s_kn S, s_sh S, s_an S, upd (s_ki S) (s_th S) k, upd (s_we S) (s_th S) w, s_dp S, s_wa S, s_le S)]) rfl ?_
  refine G.al X dX5_addThing_39 0 rfl ?_
  refine G.get X fX5_40 dX5_addThing_40 0 0 rfl rfl rfl ?_
  refine G.al X dX5_addThing_43 0 rfl ?_
  refine G.get X fX5_15 dX5_addThing_44 0 0 rfl rfl rfl ?_
  refine G.il X dX5_addThing_47 3 rfl ?_
  refine G.nst X (i := s_th S) dX5_addThing_48 0 6 rfl rfl (by omega) (by decide) (blk' := wl a cI (s_pe S, s_th S, s_da S, s_dr S, s_kn S, s_sh S, s_an S, upd (s_ki S) (s_th S) k, upd (s_we S) (s_th S) w, upd (s_dp S) (s_th S) b, s_wa S, s_le S)) rfl (ws' := [wl a cI (s_pe S, s_th S, s_da S, s_dr S, s_kn S, s_sh S, s_an S, upd (s_ki S) (s_th S) k, upd (s_we S) (s_th S) w, upd (s_dp S) (s_th S) b, s_wa S, s_le S)]) rfl ?_
  refine G.al X dX5_addThing_49 0 rfl ?_
  refine G.dupr X dX5_addThing_50 ?_
  refine G.get X fX5_15 dX5_addThing_51 0 0 rfl rfl rfl ?_
  refine G.pu X dX5_addThing_54 ?_
  refine G.nadd X (a := s_th S) (b := 1) dX5_addThing_55 ?_
  refine G.puti X fX5_15 fe5 dX5_addThing_56 rfl rfl 0 0 rfl rfl (Nat.le_of_ble_eq_true rfl) (blk' := wl a cI (s_pe S, (s_th S) + 1, s_da S, s_dr S, s_kn S, s_sh S, s_an S, upd (s_ki S) (s_th S) k, upd (s_we S) (s_th S) w, upd (s_dp S) (s_th S) b, s_wa S, s_le S)) rfl (ws' := [wl a cI (s_pe S, (s_th S) + 1, s_da S, s_dr S, s_kn S, s_sh S, s_an S, upd (s_ki S) (s_th S) k, upd (s_we S) (s_th S) w, upd (s_dp S) (s_th S) b, s_wa S, s_le S)]) rfl ?_
  have hpu : s_th (w_push S k w b) = s_th S + 1 := rfl
  have hpv : s_pe (w_push S k w b) = s_pe S := rfl
  refine G.cg (ws' := [wl a cI (w_push S k w b)]) rfl rfl rfl ?_
  refine G.al X dX5_addThing_59 0 rfl ?_
  refine G.al X dX5_addThing_60 0 rfl ?_
  refine G.get X fX5_15 dX5_addThing_61 0 0 rfl rfl rfl ?_
  refine G.pu X dX5_addThing_64 ?_
  refine G.nsub1 X (a := s_th (w_push S k w b)) dX5_addThing_65 (by omega) ?_
  rw [show s_th (w_push S k w b) - 1 = s_th S from rfl]
  refine G.cvi X kX5_fall lX5_59 dX5_addThing_66 (tX5_fall l D cI cW a (w_push S k w b) (s_th S) (by omega) (by omega)) ⟨Nat.le_of_ble_eq_true rfl, Nat.le_of_ble_eq_true rfl⟩ ⟨Nat.zero_le _, Nat.zero_le _⟩ [0] rfl ⟨rfl, rfl⟩ rfl rfl 0 0 rfl rfl rfl rfl (Nat.le_of_ble_eq_true rfl) (ff_cons (wl_fst _ _ _ _) (ff_nil)) (ws' := [wl a cI (w_fall (w_push S k w b) (s_th S))]) rfl ?_
  exact G.bret X Rr dX5_addThing_69 (pi_mk (by rfl) (by rfl))

set_option maxRecDepth 20000 in
theorem tX5_addThing_bad (l : Launch) (D : va_G) (cI cW : ClassId) (a : Nat → Nat) (S : WS) (k : Int32) (w : Int32) (b : Int32) (hth : s_th S ≤ 9) (hpe : s_pe S ≤ 5) (hb : ¬ s_th S < 9 ∨ z_in b (s_pe S) = false) : CT l D cI cW yX5_addThing cX5_addThing 4 (some .boolean) ⟨1, 0, 0, 21⟩ [.ref (a 0), .int k, .int w, .int b] ([wl a cI S]) (PI (b2i (false)) ([wl a cI S])) := by
  refine CT.of RX5 rfl (by decide +kernel) (Nat.le_of_ble_eq_true rfl) [(0, .ref (a 0)), (1, .int k), (2, .int w), (3, .int b)] rfl (fun x X Rr hnm => ?_)
  refine G.al X dX5_addThing_0 0 rfl ?_
  refine G.get X fX5_15 dX5_addThing_1 0 0 rfl rfl rfl ?_
  refine G.pu X dX5_addThing_4 ?_
  refine G.n_ge X (a := s_th S) (b := 9) (by omega) (by omega) dX5_addThing_6 (fun h6 => ?_) (fun h6 => ?_)
  · refine G.pu X dX5_addThing_17 ?_
    exact G.zret X Rr (v := 0) (Or.inl rfl) dX5_addThing_18 (pi_mk (by rfl) (by rfl))
  · refine G.al X dX5_addThing_9 0 rfl ?_
    refine G.il X dX5_addThing_10 3 rfl ?_
    refine G.cvi X kX5_isPerson lX5_55 dX5_addThing_11 (tX5_isPerson l D cI cW a S b (by omega)) ⟨Nat.le_of_ble_eq_true rfl, Nat.le_of_ble_eq_true rfl⟩ ⟨Nat.zero_le _, Nat.zero_le _⟩ [0] rfl ⟨rfl, rfl⟩ rfl rfl 0 0 rfl rfl rfl rfl (Nat.le_of_ble_eq_true rfl) (ff_cons (wl_fst _ _ _ _) (ff_nil)) (ws' := [wl a cI S]) rfl ?_
    refine G.b_ne X dX5_addThing_14 (fun h14 => absurd h14 ((by rw [hb.resolve_left (by omega)]; decide))) (fun h14 => ?_)
    refine G.pu X dX5_addThing_17 ?_
    exact G.zret X Rr (v := 0) (Or.inl rfl) dX5_addThing_18 (pi_mk (by rfl) (by rfl))

set_option maxRecDepth 20000 in
theorem tX5_learnOrForget (l : Launch) (D : va_G) (cI cW : ClassId) (a : Nat → Nat) (S : WS) (p : Nat) (t : Nat) (hpe : s_pe S ≤ 5) (hp : p < s_pe S) (ht : t < 8) : CT l D cI cW yX5_learnOrForget cX5_learnOrForget 3 (some .boolean) ⟨1, 0, 0, 21⟩ [.ref (a 0), .int (nI p), .int (nI t)] ([wl a cI S]) (PI (b2i (true)) ([wl a cI (w_lrn S p (nI t))])) := by
  refine CT.of RX5 rfl (by decide +kernel) (Nat.le_of_ble_eq_true rfl) [(0, .ref (a 0)), (1, .int (nI p)), (2, .int (nI t))] rfl (fun x X Rr hnm => ?_)
  refine G.al X dX5_learnOrForget_0 0 rfl ?_
  refine G.il X dX5_learnOrForget_1 1 rfl ?_
  refine G.cvi X kX5_isPerson lX5_55 dX5_learnOrForget_2 (tX5_isPerson l D cI cW a S (nI p) (by omega)) ⟨Nat.le_of_ble_eq_true rfl, Nat.le_of_ble_eq_true rfl⟩ ⟨Nat.zero_le _, Nat.zero_le _⟩ [0] rfl ⟨rfl, rfl⟩ rfl rfl 0 0 rfl rfl rfl rfl (Nat.le_of_ble_eq_true rfl) (ff_cons (wl_fst _ _ _ _) (ff_nil)) (ws' := [wl a cI S]) rfl ?_
  refine G.b_eq X dX5_learnOrForget_5 (fun h5 => absurd h5 ((by rw [z_in_nI hp (by omega)]; decide))) (fun h5 => ?_)
  refine G.il X dX5_learnOrForget_8 2 rfl ?_
  refine G.z_lt X (a := nI t) dX5_learnOrForget_9 (fun h9 => absurd h9 (nI_pos (by omega))) (fun h9 => ?_)
  refine G.il X dX5_learnOrForget_12 2 rfl ?_
  refine G.pu X dX5_learnOrForget_13 ?_
  refine G.n_lt X (a := t) (b := 8) (by omega) (by omega) dX5_learnOrForget_15 (fun h15 => ?_) (fun h15 => absurd h15 (by omega))
  refine G.al X dX5_learnOrForget_20 0 rfl ?_
  refine G.get X fX5_24 dX5_learnOrForget_21 0 0 rfl rfl rfl ?_
  refine G.il X dX5_learnOrForget_24 1 rfl ?_
  refine G.dup2 X dX5_learnOrForget_25 ?_
  refine G.nld X (i := p) dX5_learnOrForget_26 0 1 rfl rfl (by omega) (by decide) ?_
  refine G.pu X dX5_learnOrForget_27 ?_
  refine G.il X dX5_learnOrForget_28 2 rfl ?_
  refine G.ishl X dX5_learnOrForget_29 ?_
  refine G.ixor X dX5_learnOrForget_30 ?_
  refine G.nst X (i := p) dX5_learnOrForget_31 0 1 rfl rfl (by omega) (by decide) (blk' := wl a cI (s_pe S, s_th S, s_da S, s_dr S, upd (s_kn S) p (((s_kn S) p) ^^^ (1 <<< ((nI t) &&& 31))), s_sh S, s_an S, s_ki S, s_we S, s_dp S, s_wa S, s_le S)) rfl (ws' := [wl a cI (s_pe S, s_th S, s_da S, s_dr S, upd (s_kn S) p (((s_kn S) p) ^^^ (1 <<< ((nI t) &&& 31))), s_sh S, s_an S, s_ki S, s_we S, s_dp S, s_wa S, s_le S)]) rfl ?_
  refine G.pu X dX5_learnOrForget_32 ?_
  exact G.zret X Rr (v := 1) (Or.inr rfl) dX5_learnOrForget_33 (pi_mk (by rfl) (by rfl))

set_option maxRecDepth 20000 in
theorem tX5_learnOrForget_bad (l : Launch) (D : va_G) (cI cW : ClassId) (a : Nat → Nat) (S : WS) (p : Int32) (t : Int32) (hpe : s_pe S ≤ 5) (hp : z_in p (s_pe S) = false ∨ z_in t 8 = false) : CT l D cI cW yX5_learnOrForget cX5_learnOrForget 3 (some .boolean) ⟨1, 0, 0, 21⟩ [.ref (a 0), .int p, .int t] ([wl a cI S]) (PI (b2i (false)) ([wl a cI S])) := by
  refine CT.of RX5 rfl (by decide +kernel) (Nat.le_of_ble_eq_true rfl) [(0, .ref (a 0)), (1, .int p), (2, .int t)] rfl (fun x X Rr hnm => ?_)
  refine G.al X dX5_learnOrForget_0 0 rfl ?_
  refine G.il X dX5_learnOrForget_1 1 rfl ?_
  refine G.cvi X kX5_isPerson lX5_55 dX5_learnOrForget_2 (tX5_isPerson l D cI cW a S p (by omega)) ⟨Nat.le_of_ble_eq_true rfl, Nat.le_of_ble_eq_true rfl⟩ ⟨Nat.zero_le _, Nat.zero_le _⟩ [0] rfl ⟨rfl, rfl⟩ rfl rfl 0 0 rfl rfl rfl rfl (Nat.le_of_ble_eq_true rfl) (ff_cons (wl_fst _ _ _ _) (ff_nil)) (ws' := [wl a cI S]) rfl ?_
  refine G.b_eq X dX5_learnOrForget_5 (fun h5 => ?_) (fun h5 => ?_)
  · refine G.pu X dX5_learnOrForget_18 ?_
    exact G.zret X Rr (v := 0) (Or.inl rfl) dX5_learnOrForget_19 (pi_mk (by rfl) (by rfl))
  · refine G.il X dX5_learnOrForget_8 2 rfl ?_
    refine G.z_lt X (a := t) dX5_learnOrForget_9 (fun h9 => ?_) (fun h9 => ?_)
    · refine G.pu X dX5_learnOrForget_18 ?_
      exact G.zret X Rr (v := 0) (Or.inl rfl) dX5_learnOrForget_19 (pi_mk (by rfl) (by rfl))
    · refine G.il X dX5_learnOrForget_12 2 rfl ?_
      refine G.pu X dX5_learnOrForget_13 ?_
      refine G.c_lt X (a := t) (b := 8) dX5_learnOrForget_15 (fun h15 => absurd h15 ((fun h => absurd (hp.resolve_left (by rw [h5]; decide)) (by simp [z_in, h9, show nI 8 = 8 from rfl, h])))) (fun h15 => ?_)
      refine G.pu X dX5_learnOrForget_18 ?_
      exact G.zret X Rr (v := 0) (Or.inl rfl) dX5_learnOrForget_19 (pi_mk (by rfl) (by rfl))

set_option maxRecDepth 20000 in
theorem tX5_answerOnce (l : Launch) (D : va_G) (cI cW : ClassId) (a : Nat → Nat) (S : WS) (i : Nat) (hS : Ok S) (hi : i < s_th S) : CT l D cI cW yX5_answerOnce cX5_answerOnce 3 none ⟨0, 0, 0, 0⟩ [.ref (a 0), .int (nI i)] ([wl a cI S]) (PV ([wl a cI (w_ans1 S i)])) := by
  refine CT.of RX5 rfl (by decide +kernel) (Nat.le_of_ble_eq_true rfl) [(0, .ref (a 0)), (1, .int (nI i))] rfl (fun x X Rr hnm => ?_)
  have hth := hS.th
  have hpe := hS.pe
  refine G.al X dX5_answerOnce_0 0 rfl ?_
  refine G.get X fX5_40 dX5_answerOnce_1 0 0 rfl rfl rfl ?_
  refine G.il X dX5_answerOnce_4 1 rfl ?_
  refine G.nld X (i := i) dX5_answerOnce_5 0 6 rfl rfl (by omega) (by decide) ?_
  obtain ⟨q, hq, eq⟩ := hS.dp hi
  have cq : (s_dp S i).toNatClampNeg = q := by rw [eq]; exact nI_clamp (by omega)
  rw [eq]
  refine G.is X dX5_answerOnce_6 (by decide) (lv' := [(2, .int (nI q)), (0, .ref (a 0)), (1, .int (nI i))]) rfl ?_
  refine G.al X dX5_answerOnce_7 1 rfl ?_
  refine G.get X fX5_46 dX5_answerOnce_8 0 0 rfl rfl rfl ?_
  refine G.il X dX5_answerOnce_11 2 rfl ?_
  refine G.dup2 X dX5_answerOnce_12 ?_
  refine G.nld X (i := i) dX5_answerOnce_13 0 8 rfl rfl (by omega) (by decide) ?_
  refine G.pu X dX5_answerOnce_14 ?_
  refine G.isub X dX5_answerOnce_15 ?_
  refine G.nst X (i := i) dX5_answerOnce_16 0 8 rfl rfl (by omega) (by decide) (blk' := wl a cI (s_pe S, s_th S, s_da S, s_dr S, s_kn S, s_sh S, s_an S, s_ki S, s_we S, s_dp S, s_wa S, upd (s_le S) i (((s_le S) i) - 1))) rfl (ws' := [wl a cI (s_pe S, s_th S, s_da S, s_dr S, s_kn S, s_sh S, s_an S, s_ki S, s_we S, s_dp S, s_wa S, upd (s_le S) i (((s_le S) i) - 1))]) rfl ?_
  refine G.il X dX5_answerOnce_17 0 rfl ?_
  refine G.z_lt X (a := nI q) dX5_answerOnce_18 (fun h18 => absurd h18 (nI_pos (by omega))) (fun h18 => ?_)
  refine G.il X dX5_answerOnce_21 0 rfl ?_
  refine G.al X dX5_answerOnce_22 1 rfl ?_
  refine G.get X fX5_9 dX5_answerOnce_23 0 0 rfl rfl rfl ?_
  refine G.n_ge X (a := q) (b := s_pe S) (by omega) (by omega) dX5_answerOnce_26 (fun h26 => absurd h26 (by omega)) (fun h26 => ?_)
  refine G.al X dX5_answerOnce_29 1 rfl ?_
  refine G.get X fX5_31 dX5_answerOnce_30 0 0 rfl rfl rfl ?_
  refine G.il X dX5_answerOnce_33 0 rfl ?_
  refine G.nld X (i := q) dX5_answerOnce_34 0 3 rfl rfl (by omega) (by decide) ?_
  refine G.pu X dX5_answerOnce_35 ?_
  refine G.c_ge X (a := ((s_an S) q)) (b := 999) dX5_answerOnce_38 (fun h38 => ?_) (fun h38 => ?_)
  · exact G.vret X Rr dX5_answerOnce_51 (pv_mk (by simp [w_ans1, cq, h18, h26, h38]))
  · refine G.al X dX5_answerOnce_41 1 rfl ?_
    refine G.get X fX5_31 dX5_answerOnce_42 0 0 rfl rfl rfl ?_
    refine G.il X dX5_answerOnce_45 0 rfl ?_
    refine G.dup2 X dX5_answerOnce_46 ?_
    refine G.nld X (i := q) dX5_answerOnce_47 0 3 rfl rfl (by omega) (by decide) ?_
    refine G.pu X dX5_answerOnce_48 ?_
    refine G.iadd X dX5_answerOnce_49 ?_
    refine G.nst X (i := q) dX5_answerOnce_50 0 3 rfl rfl (by omega) (by decide) (blk' := wl a cI (s_pe S, s_th S, s_da S, s_dr S, s_kn S, s_sh S, upd (s_an S) q (((s_an S) q) + 1), s_ki S, s_we S, s_dp S, s_wa S, upd (s_le S) i (((s_le S) i) - 1))) rfl (ws' := [wl a cI (s_pe S, s_th S, s_da S, s_dr S, s_kn S, s_sh S, upd (s_an S) q (((s_an S) q) + 1), s_ki S, s_we S, s_dp S, s_wa S, upd (s_le S) i (((s_le S) i) - 1))]) rfl ?_
    exact G.vret X Rr dX5_answerOnce_51 (pv_mk (by simp [w_ans1, cq, h18, h26, h38]))

set_option maxRecDepth 20000 in
theorem tX5_answerLeastOf (l : Launch) (D : va_G) (cI cW : ClassId) (a : Nat → Nat) (S : WS) (p : Nat) (hS : Ok S) (hp : p < s_pe S) : CT l D cI cW yX5_answerLeastOf cX5_answerLeastOf 3 none ⟨1, 0, 0, 22⟩ [.ref (a 0), .int (nI p)] ([wl a cI S]) (PV ([wl a cI (w_ansL S p)])) := by
  refine CT.of RX5 rfl (by decide +kernel) (Nat.le_of_ble_eq_true rfl) [(0, .ref (a 0)), (1, .int (nI p))] rfl (fun x X Rr hnm => ?_)
  have hth := hS.th
  have hpe := hS.pe
  refine G.pu X dX5_answerLeastOf_0 ?_
  refine G.is X dX5_answerLeastOf_1 (by decide) (lv' := [(2, .int 0), (0, .ref (a 0)), (1, .int (nI p))]) rfl ?_
  have L2 : ∀ k, k ≤ s_th S → (∀ j, j < k → w_can S p j = false) → G x 0 0 ([wl a cI S]) 2 [(2, .int (nI k)), (0, .ref (a 0)), (1, .int (nI p))] [] := by
    refine loop_dn (s_th S) _ ?_ ?_
    · intro hinv2
      refine G.il X dX5_answerLeastOf_2 0 rfl ?_
      refine G.al X dX5_answerLeastOf_3 1 rfl ?_
      refine G.get X fX5_15 dX5_answerLeastOf_4 0 0 rfl rfl rfl ?_
      refine G.n_ge X (a := s_th S) (b := s_th S) (by omega) (by omega) dX5_answerLeastOf_7 (fun h7 => ?_) (fun h7 => absurd h7 (by omega))
      exact G.vret X Rr dX5_answerLeastOf_58 (pv_mk (by rw [w_ansL, fi_none hinv2]))
    · intro k hk ih2 hinv2
      refine G.il X dX5_answerLeastOf_2 0 rfl ?_
      refine G.al X dX5_answerLeastOf_3 1 rfl ?_
      refine G.get X fX5_15 dX5_answerLeastOf_4 0 0 rfl rfl rfl ?_
      refine G.n_ge X (a := k) (b := s_th S) (by omega) (by omega) dX5_answerLeastOf_7 (fun h7 => absurd h7 (by omega)) (fun h7 => ?_)
      refine G.al X dX5_answerLeastOf_10 1 rfl ?_
      refine G.get X fX5_40 dX5_answerLeastOf_11 0 0 rfl rfl rfl ?_
      refine G.il X dX5_answerLeastOf_14 0 rfl ?_
      refine G.nld X (i := k) dX5_answerLeastOf_15 0 6 rfl rfl (by omega) (by decide) ?_
      refine G.il X dX5_answerLeastOf_16 2 rfl ?_
      refine G.c_ne X (a := ((s_dp S) k)) (b := nI p) dX5_answerLeastOf_17 (fun h17 => ?_) (fun h17 => ?_)
      · refine G.iinc X dX5_answerLeastOf_52 0 rfl (v' := nI (k + 1)) (nI_inc k) (by decide) (lv' := [(2, .int (nI (k + 1))), (0, .ref (a 0)), (1, .int (nI p))]) rfl ?_
        refine G.go X dX5_answerLeastOf_55 ?_
        exact ih2 (lt_snoc hinv2 (by simp [w_can, hasb, h7, h17]))
      · refine G.al X dX5_answerLeastOf_20 1 rfl ?_
        refine G.il X dX5_answerLeastOf_21 0 rfl ?_
        refine G.cvi X kX5_asks lX5_81 dX5_answerLeastOf_22 (tX5_asks l D cI cW a S k (by omega)) ⟨Nat.le_of_ble_eq_true rfl, Nat.le_of_ble_eq_true rfl⟩ ⟨Nat.zero_le _, Nat.zero_le _⟩ [0] rfl ⟨rfl, rfl⟩ rfl rfl 0 0 rfl rfl rfl rfl (Nat.le_of_ble_eq_true rfl) (ff_cons (wl_fst _ _ _ _) (ff_nil)) (ws' := [wl a cI S]) rfl ?_
        refine G.b_eq X dX5_answerLeastOf_25 (fun h25 => ?_) (fun h25 => ?_)
        · refine G.iinc X dX5_answerLeastOf_52 0 rfl (v' := nI (k + 1)) (nI_inc k) (by decide) (lv' := [(2, .int (nI (k + 1))), (0, .ref (a 0)), (1, .int (nI p))]) rfl ?_
          refine G.go X dX5_answerLeastOf_55 ?_
          exact ih2 (lt_snoc hinv2 (by simp [w_can, hasb, h7, h17, h25]))
        · refine G.al X dX5_answerLeastOf_28 1 rfl ?_
          refine G.get X fX5_24 dX5_answerLeastOf_29 0 0 rfl rfl rfl ?_
          refine G.il X dX5_answerLeastOf_32 2 rfl ?_
          refine G.nld X (i := p) dX5_answerLeastOf_33 0 1 rfl rfl (by omega) (by decide) ?_
          refine G.al X dX5_answerLeastOf_34 1 rfl ?_
          refine G.il X dX5_answerLeastOf_35 0 rfl ?_
          refine G.cvi X kX5_topicOf lX5_84 dX5_answerLeastOf_36 (tX5_topicOf l D cI cW a S k (by omega)) ⟨Nat.le_of_ble_eq_true rfl, Nat.le_of_ble_eq_true rfl⟩ ⟨Nat.zero_le _, Nat.zero_le _⟩ [0] rfl ⟨rfl, rfl⟩ rfl rfl 0 0 rfl rfl rfl rfl (Nat.le_of_ble_eq_true rfl) (ff_cons (wl_fst _ _ _ _) (ff_nil)) (ws' := [wl a cI S]) rfl ?_
          refine G.ishr X dX5_answerLeastOf_39 ?_
          refine G.pu X dX5_answerLeastOf_40 ?_
          refine G.iand X dX5_answerLeastOf_41 ?_
          refine G.pu X dX5_answerLeastOf_42 ?_
          refine G.c_ne X (a := ((((s_kn S) p) >>> ((top S k) &&& 31)) &&& 1)) (b := 1) dX5_answerLeastOf_43 (fun h43 => ?_) (fun h43 => ?_)
          · refine G.iinc X dX5_answerLeastOf_52 0 rfl (v' := nI (k + 1)) (nI_inc k) (by decide) (lv' := [(2, .int (nI (k + 1))), (0, .ref (a 0)), (1, .int (nI p))]) rfl ?_
            refine G.go X dX5_answerLeastOf_55 ?_
            exact ih2 (lt_snoc hinv2 (by simp [w_can, hasb, h7, h17, h25, h43]))
          · refine G.al X dX5_answerLeastOf_46 1 rfl ?_
            refine G.il X dX5_answerLeastOf_47 0 rfl ?_
            refine G.cvv X kX5_answerOnce lX5_88 dX5_answerLeastOf_48 (tX5_answerOnce l D cI cW a S k hS (by omega)) ⟨Nat.le_of_ble_eq_true rfl, Nat.le_of_ble_eq_true rfl⟩ ⟨Nat.zero_le _, Nat.zero_le _⟩ [0] rfl ⟨rfl, rfl⟩ rfl rfl 0 0 rfl rfl rfl rfl (Nat.le_of_ble_eq_true rfl) (ff_cons (wl_fst _ _ _ _) (ff_nil)) (ws' := [wl a cI (w_ans1 S k)]) rfl ?_
            exact G.vret X Rr dX5_answerLeastOf_51 (pv_mk (by rw [w_ansL, fi_hit hinv2 (by simp [w_can, hasb, h7, h17, h25, h43]) hk]))
  have L2 := L2 0 (Nat.zero_le _) (fun j hj => absurd hj (by omega))
  exact L2

set_option maxRecDepth 20000 in
theorem tX5_passDay (l : Launch) (D : va_G) (cI cW : ClassId) (a : Nat → Nat) (S : WS) (hS : Ok S) : CT l D cI cW yX5_passDay cX5_passDay 4 none ⟨2, 0, 0, 44⟩ [.ref (a 0), .int 1] ([wl a cI S]) (PV ([wl a cI (w_day true S)])) := by
  refine CT.of RX5 rfl (by decide +kernel) (Nat.le_of_ble_eq_true rfl) [(0, .ref (a 0)), (1, .int 1)] rfl (fun x X Rr hnm => ?_)
  have hth := hS.th
  have hpe := hS.pe
  refine G.al X dX5_passDay_0 0 rfl ?_
  refine G.dupr X dX5_passDay_1 ?_
  refine G.get X fX5_18 dX5_passDay_2 0 0 rfl rfl rfl ?_
  refine G.pu X dX5_passDay_5 ?_
  refine G.iadd X dX5_passDay_6 ?_
  refine G.puti X fX5_18 fe5 dX5_passDay_7 rfl rfl 0 0 rfl rfl (Nat.le_of_ble_eq_true rfl) (blk' := wl a cI (s_pe S, s_th S, (s_da S) + 1, s_dr S, s_kn S, s_sh S, s_an S, s_ki S, s_we S, s_dp S, s_wa S, s_le S)) rfl (ws' := [wl a cI (s_pe S, s_th S, (s_da S) + 1, s_dr S, s_kn S, s_sh S, s_an S, s_ki S, s_we S, s_dp S, s_wa S, s_le S)]) rfl ?_
  refine G.pu X dX5_passDay_10 ?_
  refine G.is X dX5_passDay_11 (by decide) (lv' := [(2, .int 0), (0, .ref (a 0)), (1, .int 1)]) rfl ?_
  have L12 : ∀ k, k ≤ s_th S → G x 0 0 ([wl a cI (s_pe S, s_th S, (s_da S) + 1, s_dr S, s_kn S, s_sh S, s_an S, s_ki S, s_we S, s_dp S, w_dec (s_wa S) k, s_le S)]) 12 [(2, .int (nI k)), (0, .ref (a 0)), (1, .int 1)] [] := by
    refine loop_dn (s_th S) _ ?_ ?_
    · refine G.il X dX5_passDay_12 0 rfl ?_
      refine G.al X dX5_passDay_13 1 rfl ?_
      refine G.get X fX5_15 dX5_passDay_14 0 0 rfl rfl rfl ?_
      refine G.n_ge X (a := s_th S) (b := s_th S) (by omega) (by omega) dX5_passDay_17 (fun h17 => ?_) (fun h17 => absurd h17 (by omega))
      refine G.cg (ws' := [wl a cI (w_up1 S)]) rfl rfl rfl ?_
      refine G.pu X dX5_passDay_45 ?_
      refine G.is X dX5_passDay_46 (by decide) (lv' := [(2, .int 0), (0, .ref (a 0)), (1, .int 1)]) rfl ?_
      have L47 : ∀ k, k ≤ s_pe S → G x 0 0 ([wl a cI (w_dayP (w_up1 S) k)]) 47 [(2, .int (nI k)), (0, .ref (a 0)), (1, .int 1)] [] := by
        refine loop_dn (s_pe S) _ ?_ ?_
        · have f1 : s_pe (w_dayP (w_up1 S) (s_pe S)) = s_pe S := (fr_dayP (w_up1 S) (s_pe S)).1
          refine G.il X dX5_passDay_47 2 rfl ?_
          refine G.z_eq X (a := 1) dX5_passDay_48 (fun h48 => absurd h48 (by decide)) (fun h48 => ?_)
          refine G.il X dX5_passDay_51 0 rfl ?_
          refine G.al X dX5_passDay_52 1 rfl ?_
          refine G.get X fX5_9 dX5_passDay_53 0 0 rfl rfl rfl ?_
          refine G.n_ge X (a := s_pe S) (b := s_pe (w_dayP (w_up1 S) (s_pe S))) (by omega) (by omega) dX5_passDay_56 (fun h56 => ?_) (fun h56 => absurd h56 (by omega))
          exact G.vret X Rr dX5_passDay_92 (pv_mk (by simp [w_day]))
        · intro k hk ih47
          have hT : Ok (w_dayP (w_up1 S) k) := ok_dayP (ok_up1 hS) k
          have e1 : s_sh (w_dayP (w_up1 S) k) = s_sh (w_up1 S) := (fr_dayP (w_up1 S) k).2.2.2.2.1
          have e2 : s_da (w_dayP (w_up1 S) k) = s_da (w_up1 S) := da_dayP (w_up1 S) k
          have f1 : s_pe (w_dayP (w_up1 S) k) = s_pe S := (fr_dayP (w_up1 S) k).1
          refine G.il X dX5_passDay_47 2 rfl ?_
          refine G.z_eq X (a := 1) dX5_passDay_48 (fun h48 => absurd h48 (by decide)) (fun h48 => ?_)
          refine G.il X dX5_passDay_51 0 rfl ?_
          refine G.al X dX5_passDay_52 1 rfl ?_
          refine G.get X fX5_9 dX5_passDay_53 0 0 rfl rfl rfl ?_
          refine G.n_ge X (a := k) (b := s_pe (w_dayP (w_up1 S) k)) (by omega) (by omega) dX5_passDay_56 (fun h56 => absurd h56 (by omega)) (fun h56 => ?_)
          refine G.al X dX5_passDay_59 1 rfl ?_
          refine G.get X fX5_28 dX5_passDay_60 0 0 rfl rfl rfl ?_
          refine G.il X dX5_passDay_63 0 rfl ?_
          refine G.nld X (i := k) dX5_passDay_64 0 2 rfl rfl (by omega) (by decide) ?_
          refine G.pu X dX5_passDay_65 ?_
          refine G.iadd X dX5_passDay_66 ?_
          refine G.is X dX5_passDay_67 (by decide) (lv' := [(3, .int (((s_sh (w_dayP (w_up1 S) k)) k) + 1)), (2, .int (nI k)), (0, .ref (a 0)), (1, .int 1)]) rfl ?_
          refine G.il X dX5_passDay_68 0 rfl ?_
          refine G.z_le X (a := (((s_sh (w_dayP (w_up1 S) k)) k) + 1)) dX5_passDay_69 (fun h69 => absurd (ok_shp hT (by omega)) h69) (fun h69 => ?_)
          refine G.al X dX5_passDay_72 2 rfl ?_
          refine G.get X fX5_18 dX5_passDay_73 0 0 rfl rfl rfl ?_
          refine G.il X dX5_passDay_76 0 rfl ?_
          refine G.irem X dX5_passDay_77 (ok_shn hT (by omega)) ?_
          refine G.z_ne X (a := (rm32 (s_da (w_dayP (w_up1 S) k)) (((s_sh (w_dayP (w_up1 S) k)) k) + 1))) dX5_passDay_78 (fun h78 => ?_) (fun h78 => ?_)
          · refine G.iinc X dX5_passDay_86 1 rfl (v' := nI (k + 1)) (nI_inc k) (by decide) (lv' := [(2, .int (nI (k + 1))), (3, .int (((s_sh (w_dayP (w_up1 S) k)) k) + 1)), (0, .ref (a 0)), (1, .int 1)]) rfl ?_
            refine G.go X dX5_passDay_89 ?_
            rw [show (w_dayP (w_up1 S) (k + 1)) = (w_dayP (w_up1 S) k) from (by simp only [w_dayP, ← e1, ← e2, h56, h69, h78, if_true, if_false])] at ih47
            refine G.lvsub [0, 2, 3] (lv' := [(2, .int (nI (k + 1))), (0, .ref (a 0)), (1, .int 1)]) rfl ?_
            exact ih47
          · refine G.al X dX5_passDay_81 2 rfl ?_
            refine G.il X dX5_passDay_82 1 rfl ?_
            refine G.cvv X kX5_answerLeastOf lX5_77 dX5_passDay_83 (tX5_answerLeastOf l D cI cW a (w_dayP (w_up1 S) k) k hT (by omega)) ⟨Nat.le_of_ble_eq_true rfl, Nat.le_of_ble_eq_true rfl⟩ ⟨Nat.zero_le _, Nat.zero_le _⟩ [0] rfl ⟨rfl, rfl⟩ rfl rfl 0 0 rfl rfl rfl rfl (Nat.le_of_ble_eq_true rfl) (ff_cons (wl_fst _ _ _ _) (ff_nil)) (ws' := [wl a cI (w_ansL (w_dayP (w_up1 S) k) k)]) rfl ?_
            refine G.iinc X dX5_passDay_86 1 rfl (v' := nI (k + 1)) (nI_inc k) (by decide) (lv' := [(2, .int (nI (k + 1))), (3, .int (((s_sh (w_dayP (w_up1 S) k)) k) + 1)), (0, .ref (a 0)), (1, .int 1)]) rfl ?_
            refine G.go X dX5_passDay_89 ?_
            rw [show (w_dayP (w_up1 S) (k + 1)) = (w_ansL (w_dayP (w_up1 S) k) k) from (by simp only [w_dayP, ← e1, ← e2, h56, h69, h78, if_true, if_false])] at ih47
            refine G.lvsub [0, 2, 3] (lv' := [(2, .int (nI (k + 1))), (0, .ref (a 0)), (1, .int 1)]) rfl ?_
            exact ih47
      have L47 := L47 0 (Nat.zero_le _)
      exact L47
    · intro k hk ih12
      refine G.il X dX5_passDay_12 0 rfl ?_
      refine G.al X dX5_passDay_13 1 rfl ?_
      refine G.get X fX5_15 dX5_passDay_14 0 0 rfl rfl rfl ?_
      refine G.n_ge X (a := k) (b := s_th S) (by omega) (by omega) dX5_passDay_17 (fun h17 => absurd h17 (by omega)) (fun h17 => ?_)
      refine G.al X dX5_passDay_20 1 rfl ?_
      refine G.get X fX5_43 dX5_passDay_21 0 0 rfl rfl rfl ?_
      refine G.il X dX5_passDay_24 0 rfl ?_
      refine G.nld X (i := k) dX5_passDay_25 0 7 rfl rfl (by omega) (by decide) ?_
      refine G.z_le X (a := ((w_dec (s_wa S) k) k)) dX5_passDay_26 (fun h26 => ?_) (fun h26 => ?_)
      · refine G.iinc X dX5_passDay_39 0 rfl (v' := nI (k + 1)) (nI_inc k) (by decide) (lv' := [(2, .int (nI (k + 1))), (0, .ref (a 0)), (1, .int 1)]) rfl ?_
        refine G.go X dX5_passDay_42 ?_
        rw [show (w_dec (s_wa S) (k + 1)) = (w_dec (s_wa S) k) from (by simp [w_dec, h17, h26])] at ih12
        exact ih12
      · refine G.al X dX5_passDay_29 1 rfl ?_
        refine G.get X fX5_43 dX5_passDay_30 0 0 rfl rfl rfl ?_
        refine G.il X dX5_passDay_33 0 rfl ?_
        refine G.dup2 X dX5_passDay_34 ?_
        refine G.nld X (i := k) dX5_passDay_35 0 7 rfl rfl (by omega) (by decide) ?_
        refine G.pu X dX5_passDay_36 ?_
        refine G.isub X dX5_passDay_37 ?_
        refine G.nst X (i := k) dX5_passDay_38 0 7 rfl rfl (by omega) (by decide) (blk' := wl a cI (s_pe S, s_th S, (s_da S) + 1, s_dr S, s_kn S, s_sh S, s_an S, s_ki S, s_we S, s_dp S, upd (w_dec (s_wa S) k) k (((w_dec (s_wa S) k) k) - 1), s_le S)) rfl (ws' := [wl a cI (s_pe S, s_th S, (s_da S) + 1, s_dr S, s_kn S, s_sh S, s_an S, s_ki S, s_we S, s_dp S, upd (w_dec (s_wa S) k) k (((w_dec (s_wa S) k) k) - 1), s_le S)]) rfl ?_
        refine G.iinc X dX5_passDay_39 0 rfl (v' := nI (k + 1)) (nI_inc k) (by decide) (lv' := [(2, .int (nI (k + 1))), (0, .ref (a 0)), (1, .int 1)]) rfl ?_
        refine G.go X dX5_passDay_42 ?_
        rw [show (w_dec (s_wa S) (k + 1)) = (upd (w_dec (s_wa S) k) k (((w_dec (s_wa S) k) k) - 1)) from (by simp [w_dec, h17, h26])] at ih12
        exact ih12
  have L12 := L12 0 (Nat.zero_le _)
  exact L12

set_option maxRecDepth 20000 in
theorem tX5_passDay_cold (l : Launch) (D : va_G) (cI cW : ClassId) (a : Nat → Nat) (S : WS) (hS : Ok S) : CT l D cI cW yX5_passDay cX5_passDay 4 none ⟨0, 0, 0, 0⟩ [.ref (a 0), .int 0] ([wl a cI S]) (PV ([wl a cI (w_day false S)])) := by
  refine CT.of RX5 rfl (by decide +kernel) (Nat.le_of_ble_eq_true rfl) [(0, .ref (a 0)), (1, .int 0)] rfl (fun x X Rr hnm => ?_)
  have hth := hS.th
  have hpe := hS.pe
  refine G.al X dX5_passDay_0 0 rfl ?_
  refine G.dupr X dX5_passDay_1 ?_
  refine G.get X fX5_18 dX5_passDay_2 0 0 rfl rfl rfl ?_
  refine G.pu X dX5_passDay_5 ?_
  refine G.iadd X dX5_passDay_6 ?_
  refine G.puti X fX5_18 fe5 dX5_passDay_7 rfl rfl 0 0 rfl rfl (Nat.le_of_ble_eq_true rfl) (blk' := wl a cI (s_pe S, s_th S, (s_da S) + 1, s_dr S, s_kn S, s_sh S, s_an S, s_ki S, s_we S, s_dp S, s_wa S, s_le S)) rfl (ws' := [wl a cI (s_pe S, s_th S, (s_da S) + 1, s_dr S, s_kn S, s_sh S, s_an S, s_ki S, s_we S, s_dp S, s_wa S, s_le S)]) rfl ?_
  refine G.pu X dX5_passDay_10 ?_
  refine G.is X dX5_passDay_11 (by decide) (lv' := [(2, .int 0), (0, .ref (a 0)), (1, .int 0)]) rfl ?_
  have L12 : ∀ k, k ≤ s_th S → G x 0 0 ([wl a cI (s_pe S, s_th S, (s_da S) + 1, s_dr S, s_kn S, s_sh S, s_an S, s_ki S, s_we S, s_dp S, w_dec (s_wa S) k, s_le S)]) 12 [(2, .int (nI k)), (0, .ref (a 0)), (1, .int 0)] [] := by
    refine loop_dn (s_th S) _ ?_ ?_
    · refine G.il X dX5_passDay_12 0 rfl ?_
      refine G.al X dX5_passDay_13 1 rfl ?_
      refine G.get X fX5_15 dX5_passDay_14 0 0 rfl rfl rfl ?_
      refine G.n_ge X (a := s_th S) (b := s_th S) (by omega) (by omega) dX5_passDay_17 (fun h17 => ?_) (fun h17 => absurd h17 (by omega))
      refine G.cg (ws' := [wl a cI (w_up1 S)]) rfl rfl rfl ?_
      refine G.pu X dX5_passDay_45 ?_
      refine G.is X dX5_passDay_46 (by decide) (lv' := [(2, .int 0), (0, .ref (a 0)), (1, .int 0)]) rfl ?_
      refine G.il X dX5_passDay_47 2 rfl ?_
      refine G.z_eq X (a := 0) dX5_passDay_48 (fun h48 => ?_) (fun h48 => absurd h48 ((fun h => h rfl)))
      exact G.vret X Rr dX5_passDay_92 (pv_mk (by simp [w_day]))
    · intro k hk ih12
      refine G.il X dX5_passDay_12 0 rfl ?_
      refine G.al X dX5_passDay_13 1 rfl ?_
      refine G.get X fX5_15 dX5_passDay_14 0 0 rfl rfl rfl ?_
      refine G.n_ge X (a := k) (b := s_th S) (by omega) (by omega) dX5_passDay_17 (fun h17 => absurd h17 (by omega)) (fun h17 => ?_)
      refine G.al X dX5_passDay_20 1 rfl ?_
      refine G.get X fX5_43 dX5_passDay_21 0 0 rfl rfl rfl ?_
      refine G.il X dX5_passDay_24 0 rfl ?_
      refine G.nld X (i := k) dX5_passDay_25 0 7 rfl rfl (by omega) (by decide) ?_
      refine G.z_le X (a := ((w_dec (s_wa S) k) k)) dX5_passDay_26 (fun h26 => ?_) (fun h26 => ?_)
      · refine G.iinc X dX5_passDay_39 0 rfl (v' := nI (k + 1)) (nI_inc k) (by decide) (lv' := [(2, .int (nI (k + 1))), (0, .ref (a 0)), (1, .int 0)]) rfl ?_
        refine G.go X dX5_passDay_42 ?_
        rw [show (w_dec (s_wa S) (k + 1)) = (w_dec (s_wa S) k) from (by simp [w_dec, h17, h26])] at ih12
        exact ih12
      · refine G.al X dX5_passDay_29 1 rfl ?_
        refine G.get X fX5_43 dX5_passDay_30 0 0 rfl rfl rfl ?_
        refine G.il X dX5_passDay_33 0 rfl ?_
        refine G.dup2 X dX5_passDay_34 ?_
        refine G.nld X (i := k) dX5_passDay_35 0 7 rfl rfl (by omega) (by decide) ?_
        refine G.pu X dX5_passDay_36 ?_
        refine G.isub X dX5_passDay_37 ?_
        refine G.nst X (i := k) dX5_passDay_38 0 7 rfl rfl (by omega) (by decide) (blk' := wl a cI (s_pe S, s_th S, (s_da S) + 1, s_dr S, s_kn S, s_sh S, s_an S, s_ki S, s_we S, s_dp S, upd (w_dec (s_wa S) k) k (((w_dec (s_wa S) k) k) - 1), s_le S)) rfl (ws' := [wl a cI (s_pe S, s_th S, (s_da S) + 1, s_dr S, s_kn S, s_sh S, s_an S, s_ki S, s_we S, s_dp S, upd (w_dec (s_wa S) k) k (((w_dec (s_wa S) k) k) - 1), s_le S)]) rfl ?_
        refine G.iinc X dX5_passDay_39 0 rfl (v' := nI (k + 1)) (nI_inc k) (by decide) (lv' := [(2, .int (nI (k + 1))), (0, .ref (a 0)), (1, .int 0)]) rfl ?_
        refine G.go X dX5_passDay_42 ?_
        rw [show (w_dec (s_wa S) (k + 1)) = (upd (w_dec (s_wa S) k) k (((w_dec (s_wa S) k) k) - 1)) from (by simp [w_dec, h17, h26])] at ih12
        exact ih12
  have L12 := L12 0 (Nat.zero_le _)
  exact L12

set_option maxRecDepth 20000 in
theorem tX5_passDays (l : Launch) (D : va_G) (cI cW : ClassId) (a : Nat → Nat) (S : WS) (n : Nat) (hS : Ok S) (h1 : 1 ≤ n) (h2 : n ≤ 60) (h3 : ¬ 999 < s_da S + nI n) : CT l D cI cW yX5_passDays cX5_passDays 3 (some .boolean) ⟨3, 0, 0, 67⟩ [.ref (a 0), .int (nI n)] ([wl a cI S]) (PI (b2i (true)) ([wl a cI (w_dayN S n)])) := by
  refine CT.of RX5 rfl (by decide +kernel) (Nat.le_of_ble_eq_true rfl) [(0, .ref (a 0)), (1, .int (nI n))] rfl (fun x X Rr hnm => ?_)
  have hth := hS.th
  have hpe := hS.pe
  refine G.il X dX5_passDays_0 1 rfl ?_
  refine G.pu X dX5_passDays_1 ?_
  refine G.n_lt X (a := n) (b := 1) (by omega) (by omega) dX5_passDays_2 (fun h2 => absurd h2 (by omega)) (fun h2 => ?_)
  refine G.il X dX5_passDays_5 1 rfl ?_
  refine G.pu X dX5_passDays_6 ?_
  refine G.n_gt X (a := n) (b := 60) (by omega) (by omega) dX5_passDays_8 (fun h8 => absurd h8 (by omega)) (fun h8 => ?_)
  refine G.al X dX5_passDays_11 0 rfl ?_
  refine G.get X fX5_18 dX5_passDays_12 0 0 rfl rfl rfl ?_
  refine G.il X dX5_passDays_15 1 rfl ?_
  refine G.iadd X dX5_passDays_16 ?_
  refine G.pu X dX5_passDays_17 ?_
  refine G.c_le X (a := ((s_da S) + (nI n))) (b := 999) dX5_passDays_20 (fun h20 => ?_) (fun h20 => absurd h20 (h3))
  refine G.pu X dX5_passDays_25 ?_
  refine G.is X dX5_passDays_26 (by decide) (lv' := [(2, .int 0), (0, .ref (a 0)), (1, .int (nI n))]) rfl ?_
  have L27 : ∀ k, k ≤ n → G x 0 0 ([wl a cI (w_dayN S k)]) 27 [(2, .int (nI k)), (0, .ref (a 0)), (1, .int (nI n))] [] := by
    refine loop_dn n _ ?_ ?_
    · refine G.il X dX5_passDays_27 0 rfl ?_
      refine G.il X dX5_passDays_28 2 rfl ?_
      refine G.n_ge X (a := n) (b := n) (by omega) (by omega) dX5_passDays_29 (fun h29 => ?_) (fun h29 => absurd h29 (by omega))
      refine G.pu X dX5_passDays_43 ?_
      exact G.zret X Rr (v := 1) (Or.inr rfl) dX5_passDays_44 (pi_mk (by rfl) (by rfl))
    · intro k hk ih27
      have hT : Ok (w_dayN S k) := ok_dayN hS k
      refine G.il X dX5_passDays_27 0 rfl ?_
      refine G.il X dX5_passDays_28 2 rfl ?_
      refine G.n_ge X (a := k) (b := n) (by omega) (by omega) dX5_passDays_29 (fun h29 => absurd h29 (by omega)) (fun h29 => ?_)
      refine G.al X dX5_passDays_32 1 rfl ?_
      refine G.pu X dX5_passDays_33 ?_
      refine G.cvv X kX5_passDay lX5_73 dX5_passDays_34 (tX5_passDay l D cI cW a (w_dayN S k) hT) ⟨Nat.le_of_ble_eq_true rfl, Nat.le_of_ble_eq_true rfl⟩ ⟨Nat.zero_le _, Nat.zero_le _⟩ [0] rfl ⟨rfl, rfl⟩ rfl rfl 0 0 rfl rfl rfl rfl (Nat.le_of_ble_eq_true rfl) (ff_cons (wl_fst _ _ _ _) (ff_nil)) (ws' := [wl a cI (w_day true (w_dayN S k))]) rfl ?_
      refine G.iinc X dX5_passDays_37 0 rfl (v' := nI (k + 1)) (nI_inc k) (by decide) (lv' := [(2, .int (nI (k + 1))), (0, .ref (a 0)), (1, .int (nI n))]) rfl ?_
      refine G.go X dX5_passDays_40 ?_
      exact ih27
  have L27 := L27 0 (Nat.zero_le _)
  exact L27

set_option maxRecDepth 20000 in
theorem tX5_passDays_bad (l : Launch) (D : va_G) (cI cW : ClassId) (a : Nat → Nat) (S : WS) (n : Int32) (h1 : n < 1 ∨ 60 < n ∨ 999 < s_da S + n) : CT l D cI cW yX5_passDays cX5_passDays 3 (some .boolean) ⟨0, 0, 0, 0⟩ [.ref (a 0), .int n] ([wl a cI S]) (PI (b2i (false)) ([wl a cI S])) := by
  refine CT.of RX5 rfl (by decide +kernel) (Nat.le_of_ble_eq_true rfl) [(0, .ref (a 0)), (1, .int n)] rfl (fun x X Rr hnm => ?_)
  refine G.il X dX5_passDays_0 1 rfl ?_
  refine G.pu X dX5_passDays_1 ?_
  refine G.c_lt X (a := n) (b := 1) dX5_passDays_2 (fun h2 => ?_) (fun h2 => ?_)
  · refine G.pu X dX5_passDays_23 ?_
    exact G.zret X Rr (v := 0) (Or.inl rfl) dX5_passDays_24 (pi_mk (by rfl) (by rfl))
  · refine G.il X dX5_passDays_5 1 rfl ?_
    refine G.pu X dX5_passDays_6 ?_
    refine G.c_gt X (a := n) (b := 60) dX5_passDays_8 (fun h8 => ?_) (fun h8 => ?_)
    · refine G.pu X dX5_passDays_23 ?_
      exact G.zret X Rr (v := 0) (Or.inl rfl) dX5_passDays_24 (pi_mk (by rfl) (by rfl))
    · refine G.al X dX5_passDays_11 0 rfl ?_
      refine G.get X fX5_18 dX5_passDays_12 0 0 rfl rfl rfl ?_
      refine G.il X dX5_passDays_15 1 rfl ?_
      refine G.iadd X dX5_passDays_16 ?_
      refine G.pu X dX5_passDays_17 ?_
      refine G.c_le X (a := ((s_da S) + n)) (b := 999) dX5_passDays_20 (fun h20 => absurd (((h1.resolve_left h2).resolve_left h8)) h20) (fun h20 => ?_)
      refine G.pu X dX5_passDays_23 ?_
      exact G.zret X Rr (v := 0) (Or.inl rfl) dX5_passDays_24 (pi_mk (by rfl) (by rfl))

set_option maxRecDepth 20000 in
theorem tX5_waterInPassing (l : Launch) (D : va_G) (cI cW : ClassId) (a : Nat → Nat) (S : WS) (n : Nat) (hS : Ok S) (hn : n < 2 ^ 31) : CT l D cI cW yX5_waterInPassing cX5_waterInPassing 4 (some .int) ⟨3, 0, 0, 67⟩ [.ref (a 0), .int (nI n)] ([wl a cI S]) (PI (nI (w_wet S n)) ([wl a cI (w_dayN S n)])) := by
  refine CT.of RX5 rfl (by decide +kernel) (Nat.le_of_ble_eq_true rfl) [(0, .ref (a 0)), (1, .int (nI n))] rfl (fun x X Rr hnm => ?_)
  have hth := hS.th
  have hpe := hS.pe
  refine G.pu X dX5_waterInPassing_0 ?_
  refine G.is X dX5_waterInPassing_1 (by decide) (lv' := [(2, .int 0), (0, .ref (a 0)), (1, .int (nI n))]) rfl ?_
  refine G.pu X dX5_waterInPassing_2 ?_
  refine G.is X dX5_waterInPassing_3 (by decide) (lv' := [(3, .int 0), (2, .int 0), (0, .ref (a 0)), (1, .int (nI n))]) rfl ?_
  have L4 : ∀ k, k ≤ n → G x 0 0 ([wl a cI (w_dayN S k)]) 4 [(3, .int (nI k)), (2, .int (nI (w_wet S k))), (0, .ref (a 0)), (1, .int (nI n))] [] := by
    refine loop_dn n _ ?_ ?_
    · refine G.il X dX5_waterInPassing_4 0 rfl ?_
      refine G.il X dX5_waterInPassing_5 3 rfl ?_
      refine G.n_ge X (a := n) (b := n) (by omega) (by omega) dX5_waterInPassing_6 (fun h6 => ?_) (fun h6 => absurd h6 (by omega))
      refine G.il X dX5_waterInPassing_30 1 rfl ?_
      exact G.iret X Rr (v := nI (w_wet S n)) dX5_waterInPassing_31 (pi_mk (by rfl) (by rfl))
    · intro k hk ih4
      have hT : Ok (w_dayN S k) := ok_dayN hS k
      refine G.il X dX5_waterInPassing_4 0 rfl ?_
      refine G.il X dX5_waterInPassing_5 3 rfl ?_
      refine G.n_ge X (a := k) (b := n) (by omega) (by omega) dX5_waterInPassing_6 (fun h6 => absurd h6 (by omega)) (fun h6 => ?_)
      refine G.al X dX5_waterInPassing_9 2 rfl ?_
      refine G.pu X dX5_waterInPassing_10 ?_
      refine G.cvv X kX5_passDay lX5_73 dX5_waterInPassing_11 (tX5_passDay l D cI cW a (w_dayN S k) hT) ⟨Nat.le_of_ble_eq_true rfl, Nat.le_of_ble_eq_true rfl⟩ ⟨Nat.zero_le _, Nat.zero_le _⟩ [0] rfl ⟨rfl, rfl⟩ rfl rfl 0 0 rfl rfl rfl rfl (Nat.le_of_ble_eq_true rfl) (ff_cons (wl_fst _ _ _ _) (ff_nil)) (ws' := [wl a cI (w_day true (w_dayN S k))]) rfl ?_
      refine G.al X dX5_waterInPassing_14 2 rfl ?_
      refine G.cvi X kX5_hasWater lX5_91 dX5_waterInPassing_15 (tX5_hasWater l D cI cW a (w_day true (w_dayN S k)) (ok_day hT true).th) ⟨Nat.le_of_ble_eq_true rfl, Nat.le_of_ble_eq_true rfl⟩ ⟨Nat.zero_le _, Nat.zero_le _⟩ [0] rfl ⟨rfl, rfl⟩ rfl rfl 0 0 rfl rfl rfl rfl (Nat.le_of_ble_eq_true rfl) (ff_cons (wl_fst _ _ _ _) (ff_nil)) (ws' := [wl a cI (w_day true (w_dayN S k))]) rfl ?_
      refine G.b_eq X dX5_waterInPassing_18 (fun h18 => ?_) (fun h18 => ?_)
      · refine G.iinc X dX5_waterInPassing_24 0 rfl (v' := nI (k + 1)) (nI_inc k) (by decide) (lv' := [(3, .int (nI (k + 1))), (2, .int (nI (w_wet S k))), (0, .ref (a 0)), (1, .int (nI n))]) rfl ?_
        refine G.go X dX5_waterInPassing_27 ?_
        rw [show (nI (w_wet S (k + 1))) = (nI (w_wet S k)) from (by simp [w_wet, w_dayN, h6, h18])] at ih4
        exact ih4
      · refine G.iinc X dX5_waterInPassing_21 1 rfl (v' := nI ((w_wet S k) + 1)) (nI_inc (w_wet S k)) (by decide) (lv' := [(2, .int (nI ((w_wet S k) + 1))), (3, .int (nI k)), (0, .ref (a 0)), (1, .int (nI n))]) rfl ?_
        refine G.iinc X dX5_waterInPassing_24 1 rfl (v' := nI (k + 1)) (nI_inc k) (by decide) (lv' := [(3, .int (nI (k + 1))), (2, .int (nI ((w_wet S k) + 1))), (0, .ref (a 0)), (1, .int (nI n))]) rfl ?_
        refine G.go X dX5_waterInPassing_27 ?_
        rw [show (nI (w_wet S (k + 1))) = (nI ((w_wet S k) + 1)) from (by simp [w_wet, w_dayN, h6, h18])] at ih4
        exact ih4
  have L4 := L4 0 (Nat.zero_le _)
  exact L4

set_option maxRecDepth 20000 in
theorem tX5_isKnown (l : Launch) (D : va_G) (cI cW : ClassId) (a : Nat → Nat) (S : WS) (p : Nat) (t : Int32) (hpe : s_pe S ≤ 5) (hp : p < s_pe S) : CT l D cI cW yX5_isKnown cX5_isKnown 3 (some .boolean) ⟨1, 0, 0, 21⟩ [.ref (a 0), .int (nI p), .int t] ([wl a cI S]) (PI (b2i (hasb (s_kn S p) t)) ([wl a cI S])) := by
  refine CT.of RX5 rfl (by decide +kernel) (Nat.le_of_ble_eq_true rfl) [(0, .ref (a 0)), (1, .int (nI p)), (2, .int t)] rfl (fun x X Rr hnm => ?_)
  refine G.al X dX5_isKnown_0 0 rfl ?_
  refine G.il X dX5_isKnown_1 1 rfl ?_
  refine G.cvi X kX5_isPerson lX5_55 dX5_isKnown_2 (tX5_isPerson l D cI cW a S (nI p) (by omega)) ⟨Nat.le_of_ble_eq_true rfl, Nat.le_of_ble_eq_true rfl⟩ ⟨Nat.zero_le _, Nat.zero_le _⟩ [0] rfl ⟨rfl, rfl⟩ rfl rfl 0 0 rfl rfl rfl rfl (Nat.le_of_ble_eq_true rfl) (ff_cons (wl_fst _ _ _ _) (ff_nil)) (ws' := [wl a cI S]) rfl ?_
  refine G.b_eq X dX5_isKnown_5 (fun h5 => absurd h5 ((by rw [z_in_nI hp (by omega)]; decide))) (fun h5 => ?_)
  refine G.al X dX5_isKnown_8 0 rfl ?_
  refine G.get X fX5_24 dX5_isKnown_9 0 0 rfl rfl rfl ?_
  refine G.il X dX5_isKnown_12 1 rfl ?_
  refine G.nld X (i := p) dX5_isKnown_13 0 1 rfl rfl (by omega) (by decide) ?_
  refine G.il X dX5_isKnown_14 2 rfl ?_
  refine G.ishr X dX5_isKnown_15 ?_
  refine G.pu X dX5_isKnown_16 ?_
  refine G.iand X dX5_isKnown_17 ?_
  refine G.pu X dX5_isKnown_18 ?_
  refine G.c_ne X (a := ((((s_kn S) p) >>> (t &&& 31)) &&& 1)) (b := 1) dX5_isKnown_19 (fun h19 => ?_) (fun h19 => ?_)
  · refine G.pu X dX5_isKnown_26 ?_
    exact G.zret X Rr (v := 0) (Or.inl rfl) dX5_isKnown_27 (pi_mk (by simp [hasb, b2i, h5, h19]) (by rfl))
  · refine G.pu X dX5_isKnown_22 ?_
    refine G.go X dX5_isKnown_23 ?_
    exact G.zret X Rr (v := 1) (Or.inr rfl) dX5_isKnown_27 (pi_mk (by simp [hasb, b2i, h5, h19]) (by rfl))

set_option maxRecDepth 20000 in
theorem tX5_dropperKnows (l : Launch) (D : va_G) (cI cW : ClassId) (a : Nat → Nat) (S : WS) (i : Nat) (hS : Ok S) (hi : i < s_th S) : CT l D cI cW yX5_dropperKnows cX5_dropperKnows 2 (some .boolean) ⟨2, 0, 0, 43⟩ [.ref (a 0), .int (nI i)] ([wl a cI S]) (PI (b2i (w_kno S i)) ([wl a cI S])) := by
  refine CT.of RX5 rfl (by decide +kernel) (Nat.le_of_ble_eq_true rfl) [(0, .ref (a 0)), (1, .int (nI i))] rfl (fun x X Rr hnm => ?_)
  have hth := hS.th
  have hpe := hS.pe
  refine G.al X dX5_dropperKnows_0 0 rfl ?_
  refine G.al X dX5_dropperKnows_1 0 rfl ?_
  refine G.get X fX5_40 dX5_dropperKnows_2 0 0 rfl rfl rfl ?_
  refine G.il X dX5_dropperKnows_5 1 rfl ?_
  refine G.nld X (i := i) dX5_dropperKnows_6 0 6 rfl rfl (by omega) (by decide) ?_
  obtain ⟨q, hq, eq⟩ := hS.dp hi
  have cq : (s_dp S i).toNatClampNeg = q := by rw [eq]; exact nI_clamp (by omega)
  rw [eq]
  refine G.al X dX5_dropperKnows_7 0 rfl ?_
  refine G.il X dX5_dropperKnows_8 1 rfl ?_
  refine G.cvi X kX5_topicOf lX5_84 dX5_dropperKnows_9 (tX5_topicOf l D cI cW a S i (by omega)) ⟨Nat.le_of_ble_eq_true rfl, Nat.le_of_ble_eq_true rfl⟩ ⟨Nat.zero_le _, Nat.zero_le _⟩ [0] rfl ⟨rfl, rfl⟩ rfl rfl 0 0 rfl rfl rfl rfl (Nat.le_of_ble_eq_true rfl) (ff_cons (wl_fst _ _ _ _) (ff_nil)) (ws' := [wl a cI S]) rfl ?_
  refine G.cvi X kX5_isKnown lX5_95 dX5_dropperKnows_12 (tX5_isKnown l D cI cW a S q (top S i) (by omega) (by omega)) ⟨Nat.le_of_ble_eq_true rfl, Nat.le_of_ble_eq_true rfl⟩ ⟨Nat.zero_le _, Nat.zero_le _⟩ [0] rfl ⟨rfl, rfl⟩ rfl rfl 0 0 rfl rfl rfl rfl (Nat.le_of_ble_eq_true rfl) (ff_cons (wl_fst _ _ _ _) (ff_nil)) (ws' := [wl a cI S]) rfl ?_
  exact G.bret X Rr dX5_dropperKnows_15 (pi_mk (by simp [w_kno, cq]) (by rfl))

set_option maxRecDepth 20000 in
theorem tX5_queueOf (l : Launch) (D : va_G) (cI cW : ClassId) (a : Nat → Nat) (S : WS) (p : Int32) (hth : s_th S ≤ 9) : CT l D cI cW yX5_queueOf cX5_queueOf 4 (some .int) ⟨0, 0, 0, 0⟩ [.ref (a 0), .int p] ([wl a cI S]) (PI (w_qs S p (s_th S)) ([wl a cI S])) := by
  refine CT.of RX5 rfl (by decide +kernel) (Nat.le_of_ble_eq_true rfl) [(0, .ref (a 0)), (1, .int p)] rfl (fun x X Rr hnm => ?_)
  refine G.pu X dX5_queueOf_0 ?_
  refine G.is X dX5_queueOf_1 (by decide) (lv' := [(2, .int 0), (0, .ref (a 0)), (1, .int p)]) rfl ?_
  refine G.pu X dX5_queueOf_2 ?_
  refine G.is X dX5_queueOf_3 (by decide) (lv' := [(3, .int 0), (2, .int 0), (0, .ref (a 0)), (1, .int p)]) rfl ?_
  have L4 : ∀ k, k ≤ s_th S → G x 0 0 ([wl a cI S]) 4 [(3, .int (nI k)), (2, .int (w_qs S p k)), (1, .int p), (0, .ref (a 0))] [] := by
    refine loop_dn (s_th S) _ ?_ ?_
    · refine G.il X dX5_queueOf_4 0 rfl ?_
      refine G.al X dX5_queueOf_5 3 rfl ?_
      refine G.get X fX5_15 dX5_queueOf_6 0 0 rfl rfl rfl ?_
      refine G.n_ge X (a := s_th S) (b := s_th S) (by omega) (by omega) dX5_queueOf_9 (fun h9 => ?_) (fun h9 => absurd h9 (by omega))
      refine G.il X dX5_queueOf_37 1 rfl ?_
      exact G.iret X Rr (v := (w_qs S p (s_th S))) dX5_queueOf_38 (pi_mk (by rfl) (by rfl))
    · intro k hk ih4
      refine G.il X dX5_queueOf_4 0 rfl ?_
      refine G.al X dX5_queueOf_5 3 rfl ?_
      refine G.get X fX5_15 dX5_queueOf_6 0 0 rfl rfl rfl ?_
      refine G.n_ge X (a := k) (b := s_th S) (by omega) (by omega) dX5_queueOf_9 (fun h9 => absurd h9 (by omega)) (fun h9 => ?_)
      refine G.al X dX5_queueOf_12 3 rfl ?_
      refine G.get X fX5_40 dX5_queueOf_13 0 0 rfl rfl rfl ?_
      refine G.il X dX5_queueOf_16 0 rfl ?_
      refine G.nld X (i := k) dX5_queueOf_17 0 6 rfl rfl (by omega) (by decide) ?_
      refine G.il X dX5_queueOf_18 2 rfl ?_
      refine G.c_ne X (a := ((s_dp S) k)) (b := p) dX5_queueOf_19 (fun h19 => ?_) (fun h19 => ?_)
      · refine G.iinc X dX5_queueOf_31 0 rfl (v' := nI (k + 1)) (nI_inc k) (by decide) (lv' := [(3, .int (nI (k + 1))), (2, .int (w_qs S p k)), (1, .int p), (0, .ref (a 0))]) rfl ?_
        refine G.go X dX5_queueOf_34 ?_
        rw [show (w_qs S p (k + 1)) = (w_qs S p k) from (by simp [w_qs, h9, h19])] at ih4
        exact ih4
      · refine G.il X dX5_queueOf_22 1 rfl ?_
        refine G.al X dX5_queueOf_23 3 rfl ?_
        refine G.get X fX5_46 dX5_queueOf_24 0 0 rfl rfl rfl ?_
        refine G.il X dX5_queueOf_27 0 rfl ?_
        refine G.nld X (i := k) dX5_queueOf_28 0 8 rfl rfl (by omega) (by decide) ?_
        refine G.iadd X dX5_queueOf_29 ?_
        refine G.is X dX5_queueOf_30 (by decide) (lv' := [(2, .int ((w_qs S p k) + ((s_le S) k))), (3, .int (nI k)), (1, .int p), (0, .ref (a 0))]) rfl ?_
        refine G.iinc X dX5_queueOf_31 1 rfl (v' := nI (k + 1)) (nI_inc k) (by decide) (lv' := [(3, .int (nI (k + 1))), (2, .int ((w_qs S p k) + ((s_le S) k))), (1, .int p), (0, .ref (a 0))]) rfl ?_
        refine G.go X dX5_queueOf_34 ?_
        rw [show (w_qs S p (k + 1)) = ((w_qs S p k) + ((s_le S) k)) from (by simp [w_qs, h9, h19])] at ih4
        exact ih4
  refine G.lvsub [0, 1, 3, 2] (lv' := [(3, .int 0), (2, .int 0), (1, .int p), (0, .ref (a 0))]) rfl ?_
  have L4 := L4 0 (Nat.zero_le _)
  exact L4

set_option maxRecDepth 20000 in
theorem tX5_leftOfAll (l : Launch) (D : va_G) (cI cW : ClassId) (a : Nat → Nat) (S : WS) (hth : s_th S ≤ 9) : CT l D cI cW yX5_leftOfAll cX5_leftOfAll 3 (some .int) ⟨0, 0, 0, 0⟩ [.ref (a 0)] ([wl a cI S]) (PI (sumf (s_le S) (s_th S)) ([wl a cI S])) := by
  refine CT.of RX5 rfl (by decide +kernel) (Nat.le_of_ble_eq_true rfl) [(0, .ref (a 0))] rfl (fun x X Rr hnm => ?_)
  refine G.pu X dX5_leftOfAll_0 ?_
  refine G.is X dX5_leftOfAll_1 (by decide) (lv' := [(1, .int 0), (0, .ref (a 0))]) rfl ?_
  refine G.pu X dX5_leftOfAll_2 ?_
  refine G.is X dX5_leftOfAll_3 (by decide) (lv' := [(2, .int 0), (1, .int 0), (0, .ref (a 0))]) rfl ?_
  have L4 : ∀ k, k ≤ s_th S → G x 0 0 ([wl a cI S]) 4 [(2, .int (nI k)), (1, .int (sumf (s_le S) k)), (0, .ref (a 0))] [] := by
    refine loop_dn (s_th S) _ ?_ ?_
    · refine G.il X dX5_leftOfAll_4 0 rfl ?_
      refine G.al X dX5_leftOfAll_5 2 rfl ?_
      refine G.get X fX5_15 dX5_leftOfAll_6 0 0 rfl rfl rfl ?_
      refine G.n_ge X (a := s_th S) (b := s_th S) (by omega) (by omega) dX5_leftOfAll_9 (fun h9 => ?_) (fun h9 => absurd h9 (by omega))
      refine G.il X dX5_leftOfAll_27 1 rfl ?_
      exact G.iret X Rr (v := (sumf (s_le S) (s_th S))) dX5_leftOfAll_28 (pi_mk (by rfl) (by rfl))
    · intro k hk ih4
      refine G.il X dX5_leftOfAll_4 0 rfl ?_
      refine G.al X dX5_leftOfAll_5 2 rfl ?_
      refine G.get X fX5_15 dX5_leftOfAll_6 0 0 rfl rfl rfl ?_
      refine G.n_ge X (a := k) (b := s_th S) (by omega) (by omega) dX5_leftOfAll_9 (fun h9 => absurd h9 (by omega)) (fun h9 => ?_)
      refine G.il X dX5_leftOfAll_12 1 rfl ?_
      refine G.al X dX5_leftOfAll_13 2 rfl ?_
      refine G.get X fX5_46 dX5_leftOfAll_14 0 0 rfl rfl rfl ?_
      refine G.il X dX5_leftOfAll_17 0 rfl ?_
      refine G.nld X (i := k) dX5_leftOfAll_18 0 8 rfl rfl (by omega) (by decide) ?_
      refine G.iadd X dX5_leftOfAll_19 ?_
      refine G.is X dX5_leftOfAll_20 (by decide) (lv' := [(1, .int ((sumf (s_le S) k) + ((s_le S) k))), (2, .int (nI k)), (0, .ref (a 0))]) rfl ?_
      refine G.iinc X dX5_leftOfAll_21 1 rfl (v' := nI (k + 1)) (nI_inc k) (by decide) (lv' := [(2, .int (nI (k + 1))), (1, .int ((sumf (s_le S) k) + ((s_le S) k))), (0, .ref (a 0))]) rfl ?_
      refine G.go X dX5_leftOfAll_24 ?_
      rw [show (sumf (s_le S) (k + 1)) = ((sumf (s_le S) k) + ((s_le S) k)) from (by rfl)] at ih4
      exact ih4
  have L4 := L4 0 (Nat.zero_le _)
  exact L4

set_option maxRecDepth 20000 in
theorem tX5_answeredByAll (l : Launch) (D : va_G) (cI cW : ClassId) (a : Nat → Nat) (S : WS) (hpe : s_pe S ≤ 5) : CT l D cI cW yX5_answeredByAll cX5_answeredByAll 3 (some .int) ⟨0, 0, 0, 0⟩ [.ref (a 0)] ([wl a cI S]) (PI (sumf (s_an S) (s_pe S)) ([wl a cI S])) := by
  refine CT.of RX5 rfl (by decide +kernel) (Nat.le_of_ble_eq_true rfl) [(0, .ref (a 0))] rfl (fun x X Rr hnm => ?_)
  refine G.pu X dX5_answeredByAll_0 ?_
  refine G.is X dX5_answeredByAll_1 (by decide) (lv' := [(1, .int 0), (0, .ref (a 0))]) rfl ?_
  refine G.pu X dX5_answeredByAll_2 ?_
  refine G.is X dX5_answeredByAll_3 (by decide) (lv' := [(2, .int 0), (1, .int 0), (0, .ref (a 0))]) rfl ?_
  have L4 : ∀ k, k ≤ s_pe S → G x 0 0 ([wl a cI S]) 4 [(2, .int (nI k)), (1, .int (sumf (s_an S) k)), (0, .ref (a 0))] [] := by
    refine loop_dn (s_pe S) _ ?_ ?_
    · refine G.il X dX5_answeredByAll_4 0 rfl ?_
      refine G.al X dX5_answeredByAll_5 2 rfl ?_
      refine G.get X fX5_9 dX5_answeredByAll_6 0 0 rfl rfl rfl ?_
      refine G.n_ge X (a := s_pe S) (b := s_pe S) (by omega) (by omega) dX5_answeredByAll_9 (fun h9 => ?_) (fun h9 => absurd h9 (by omega))
      refine G.il X dX5_answeredByAll_27 1 rfl ?_
      exact G.iret X Rr (v := (sumf (s_an S) (s_pe S))) dX5_answeredByAll_28 (pi_mk (by rfl) (by rfl))
    · intro k hk ih4
      refine G.il X dX5_answeredByAll_4 0 rfl ?_
      refine G.al X dX5_answeredByAll_5 2 rfl ?_
      refine G.get X fX5_9 dX5_answeredByAll_6 0 0 rfl rfl rfl ?_
      refine G.n_ge X (a := k) (b := s_pe S) (by omega) (by omega) dX5_answeredByAll_9 (fun h9 => absurd h9 (by omega)) (fun h9 => ?_)
      refine G.il X dX5_answeredByAll_12 1 rfl ?_
      refine G.al X dX5_answeredByAll_13 2 rfl ?_
      refine G.get X fX5_31 dX5_answeredByAll_14 0 0 rfl rfl rfl ?_
      refine G.il X dX5_answeredByAll_17 0 rfl ?_
      refine G.nld X (i := k) dX5_answeredByAll_18 0 3 rfl rfl (by omega) (by decide) ?_
      refine G.iadd X dX5_answeredByAll_19 ?_
      refine G.is X dX5_answeredByAll_20 (by decide) (lv' := [(1, .int ((sumf (s_an S) k) + ((s_an S) k))), (2, .int (nI k)), (0, .ref (a 0))]) rfl ?_
      refine G.iinc X dX5_answeredByAll_21 1 rfl (v' := nI (k + 1)) (nI_inc k) (by decide) (lv' := [(2, .int (nI (k + 1))), (1, .int ((sumf (s_an S) k) + ((s_an S) k))), (0, .ref (a 0))]) rfl ?_
      refine G.go X dX5_answeredByAll_24 ?_
      rw [show (sumf (s_an S) (k + 1)) = ((sumf (s_an S) k) + ((s_an S) k)) from (by rfl)] at ih4
      exact ih4
  have L4 := L4 0 (Nat.zero_le _)
  exact L4

set_option maxRecDepth 20000 in
theorem tX5_isNeverAnswered (l : Launch) (D : va_G) (cI cW : ClassId) (a : Nat → Nat) (S : WS) (i : Nat) (hS : Ok S) (hi : i < s_th S) : CT l D cI cW yX5_isNeverAnswered cX5_isNeverAnswered 2 (some .boolean) ⟨3, 0, 0, 64⟩ [.ref (a 0), .int (nI i)] ([wl a cI S]) (PI (b2i (w_nev S i)) ([wl a cI S])) := by
  refine CT.of RX5 rfl (by decide +kernel) (Nat.le_of_ble_eq_true rfl) [(0, .ref (a 0)), (1, .int (nI i))] rfl (fun x X Rr hnm => ?_)
  have hth := hS.th
  have hpe := hS.pe
  refine G.al X dX5_isNeverAnswered_0 0 rfl ?_
  refine G.get X fX5_46 dX5_isNeverAnswered_1 0 0 rfl rfl rfl ?_
  refine G.il X dX5_isNeverAnswered_4 1 rfl ?_
  refine G.nld X (i := i) dX5_isNeverAnswered_5 0 8 rfl rfl (by omega) (by decide) ?_
  refine G.z_le X (a := ((s_le S) i)) dX5_isNeverAnswered_6 (fun h6 => ?_) (fun h6 => ?_)
  · refine G.pu X dX5_isNeverAnswered_21 ?_
    exact G.zret X Rr (v := 0) (Or.inl rfl) dX5_isNeverAnswered_22 (pi_mk (by simp [w_nev, b2i, h6]) (by rfl))
  · refine G.al X dX5_isNeverAnswered_9 0 rfl ?_
    refine G.il X dX5_isNeverAnswered_10 1 rfl ?_
    refine G.cvi X kX5_dropperKnows lX5_99 dX5_isNeverAnswered_11 (tX5_dropperKnows l D cI cW a S i hS (by omega)) ⟨Nat.le_of_ble_eq_true rfl, Nat.le_of_ble_eq_true rfl⟩ ⟨Nat.zero_le _, Nat.zero_le _⟩ [0] rfl ⟨rfl, rfl⟩ rfl rfl 0 0 rfl rfl rfl rfl (Nat.le_of_ble_eq_true rfl) (ff_cons (wl_fst _ _ _ _) (ff_nil)) (ws' := [wl a cI S]) rfl ?_
    refine G.b_ne X dX5_isNeverAnswered_14 (fun h14 => ?_) (fun h14 => ?_)
    · refine G.pu X dX5_isNeverAnswered_21 ?_
      exact G.zret X Rr (v := 0) (Or.inl rfl) dX5_isNeverAnswered_22 (pi_mk (by simp [w_nev, b2i, h6, h14]) (by rfl))
    · refine G.pu X dX5_isNeverAnswered_17 ?_
      refine G.go X dX5_isNeverAnswered_18 ?_
      exact G.zret X Rr (v := 1) (Or.inr rfl) dX5_isNeverAnswered_22 (pi_mk (by simp [w_nev, b2i, h6, h14]) (by rfl))

set_option maxRecDepth 20000 in
theorem tX5_neverBits (l : Launch) (D : va_G) (cI cW : ClassId) (a : Nat → Nat) (S : WS) (hS : Ok S) : CT l D cI cW yX5_neverBits cX5_neverBits 3 (some .int) ⟨4, 0, 0, 85⟩ [.ref (a 0)] ([wl a cI S]) (PI (w_nevb S (s_th S)) ([wl a cI S])) := by
  refine CT.of RX5 rfl (by decide +kernel) (Nat.le_of_ble_eq_true rfl) [(0, .ref (a 0))] rfl (fun x X Rr hnm => ?_)
  have hth := hS.th
  have hpe := hS.pe
  refine G.pu X dX5_neverBits_0 ?_
  refine G.is X dX5_neverBits_1 (by decide) (lv' := [(1, .int 0), (0, .ref (a 0))]) rfl ?_
  refine G.pu X dX5_neverBits_2 ?_
  refine G.is X dX5_neverBits_3 (by decide) (lv' := [(2, .int 0), (1, .int 0), (0, .ref (a 0))]) rfl ?_
  have L4 : ∀ k, k ≤ s_th S → G x 0 0 ([wl a cI S]) 4 [(2, .int (nI k)), (1, .int (w_nevb S k)), (0, .ref (a 0))] [] := by
    refine loop_dn (s_th S) _ ?_ ?_
    · refine G.il X dX5_neverBits_4 0 rfl ?_
      refine G.al X dX5_neverBits_5 2 rfl ?_
      refine G.get X fX5_15 dX5_neverBits_6 0 0 rfl rfl rfl ?_
      refine G.n_ge X (a := s_th S) (b := s_th S) (by omega) (by omega) dX5_neverBits_9 (fun h9 => ?_) (fun h9 => absurd h9 (by omega))
      refine G.il X dX5_neverBits_32 1 rfl ?_
      exact G.iret X Rr (v := (w_nevb S (s_th S))) dX5_neverBits_33 (pi_mk (by rfl) (by rfl))
    · intro k hk ih4
      refine G.il X dX5_neverBits_4 0 rfl ?_
      refine G.al X dX5_neverBits_5 2 rfl ?_
      refine G.get X fX5_15 dX5_neverBits_6 0 0 rfl rfl rfl ?_
      refine G.n_ge X (a := k) (b := s_th S) (by omega) (by omega) dX5_neverBits_9 (fun h9 => absurd h9 (by omega)) (fun h9 => ?_)
      refine G.al X dX5_neverBits_12 2 rfl ?_
      refine G.il X dX5_neverBits_13 0 rfl ?_
      refine G.cvi X kX5_isNeverAnswered lX5_102 dX5_neverBits_14 (tX5_isNeverAnswered l D cI cW a S k hS (by omega)) ⟨Nat.le_of_ble_eq_true rfl, Nat.le_of_ble_eq_true rfl⟩ ⟨Nat.zero_le _, Nat.zero_le _⟩ [0] rfl ⟨rfl, rfl⟩ rfl rfl 0 0 rfl rfl rfl rfl (Nat.le_of_ble_eq_true rfl) (ff_cons (wl_fst _ _ _ _) (ff_nil)) (ws' := [wl a cI S]) rfl ?_
      refine G.b_eq X dX5_neverBits_17 (fun h17 => ?_) (fun h17 => ?_)
      · refine G.iinc X dX5_neverBits_26 0 rfl (v' := nI (k + 1)) (nI_inc k) (by decide) (lv' := [(2, .int (nI (k + 1))), (1, .int (w_nevb S k)), (0, .ref (a 0))]) rfl ?_
        refine G.go X dX5_neverBits_29 ?_
        rw [show (w_nevb S (k + 1)) = (w_nevb S k) from (by simp [w_nevb, h9, h17])] at ih4
        exact ih4
      · refine G.il X dX5_neverBits_20 1 rfl ?_
        refine G.pu X dX5_neverBits_21 ?_
        refine G.il X dX5_neverBits_22 0 rfl ?_
        refine G.ishl X dX5_neverBits_23 ?_
        refine G.ior X dX5_neverBits_24 ?_
        refine G.is X dX5_neverBits_25 (by decide) (lv' := [(1, .int ((w_nevb S k) ||| (1 <<< ((nI k) &&& 31)))), (2, .int (nI k)), (0, .ref (a 0))]) rfl ?_
        refine G.iinc X dX5_neverBits_26 1 rfl (v' := nI (k + 1)) (nI_inc k) (by decide) (lv' := [(2, .int (nI (k + 1))), (1, .int ((w_nevb S k) ||| (1 <<< ((nI k) &&& 31)))), (0, .ref (a 0))]) rfl ?_
        refine G.go X dX5_neverBits_29 ?_
        rw [show (w_nevb S (k + 1)) = ((w_nevb S k) ||| (1 <<< ((nI k) &&& 31))) from (by simp [w_nevb, h9, h17])] at ih4
        exact ih4
  have L4 := L4 0 (Nat.zero_le _)
  exact L4

set_option maxRecDepth 20000 in
theorem tX5_lessonBitsOf (l : Launch) (D : va_G) (cI cW : ClassId) (a : Nat → Nat) (S : WS) (p : Int32) (hS : Ok S) : CT l D cI cW yX5_lessonBitsOf cX5_lessonBitsOf 4 (some .int) ⟨4, 0, 0, 85⟩ [.ref (a 0), .int p] ([wl a cI S]) (PI (w_les S p (s_th S)) ([wl a cI S])) := by
  refine CT.of RX5 rfl (by decide +kernel) (Nat.le_of_ble_eq_true rfl) [(0, .ref (a 0)), (1, .int p)] rfl (fun x X Rr hnm => ?_)
  have hth := hS.th
  have hpe := hS.pe
  refine G.pu X dX5_lessonBitsOf_0 ?_
  refine G.is X dX5_lessonBitsOf_1 (by decide) (lv' := [(2, .int 0), (0, .ref (a 0)), (1, .int p)]) rfl ?_
  refine G.pu X dX5_lessonBitsOf_2 ?_
  refine G.is X dX5_lessonBitsOf_3 (by decide) (lv' := [(3, .int 0), (2, .int 0), (0, .ref (a 0)), (1, .int p)]) rfl ?_
  have L4 : ∀ k, k ≤ s_th S → G x 0 0 ([wl a cI S]) 4 [(3, .int (nI k)), (2, .int (w_les S p k)), (1, .int p), (0, .ref (a 0))] [] := by
    refine loop_dn (s_th S) _ ?_ ?_
    · refine G.il X dX5_lessonBitsOf_4 0 rfl ?_
      refine G.al X dX5_lessonBitsOf_5 3 rfl ?_
      refine G.get X fX5_15 dX5_lessonBitsOf_6 0 0 rfl rfl rfl ?_
      refine G.n_ge X (a := s_th S) (b := s_th S) (by omega) (by omega) dX5_lessonBitsOf_9 (fun h9 => ?_) (fun h9 => absurd h9 (by omega))
      refine G.il X dX5_lessonBitsOf_46 1 rfl ?_
      exact G.iret X Rr (v := (w_les S p (s_th S))) dX5_lessonBitsOf_47 (pi_mk (by rfl) (by rfl))
    · intro k hk ih4
      refine G.il X dX5_lessonBitsOf_4 0 rfl ?_
      refine G.al X dX5_lessonBitsOf_5 3 rfl ?_
      refine G.get X fX5_15 dX5_lessonBitsOf_6 0 0 rfl rfl rfl ?_
      refine G.n_ge X (a := k) (b := s_th S) (by omega) (by omega) dX5_lessonBitsOf_9 (fun h9 => absurd h9 (by omega)) (fun h9 => ?_)
      refine G.al X dX5_lessonBitsOf_12 3 rfl ?_
      refine G.get X fX5_40 dX5_lessonBitsOf_13 0 0 rfl rfl rfl ?_
      refine G.il X dX5_lessonBitsOf_16 0 rfl ?_
      refine G.nld X (i := k) dX5_lessonBitsOf_17 0 6 rfl rfl (by omega) (by decide) ?_
      refine G.il X dX5_lessonBitsOf_18 2 rfl ?_
      refine G.c_ne X (a := ((s_dp S) k)) (b := p) dX5_lessonBitsOf_19 (fun h19 => ?_) (fun h19 => ?_)
      · refine G.iinc X dX5_lessonBitsOf_40 0 rfl (v' := nI (k + 1)) (nI_inc k) (by decide) (lv' := [(3, .int (nI (k + 1))), (2, .int (w_les S p k)), (1, .int p), (0, .ref (a 0))]) rfl ?_
        refine G.go X dX5_lessonBitsOf_43 ?_
        rw [show (w_les S p (k + 1)) = (w_les S p k) from (by simp [w_les, h9, h19])] at ih4
        exact ih4
      · refine G.al X dX5_lessonBitsOf_22 3 rfl ?_
        refine G.il X dX5_lessonBitsOf_23 0 rfl ?_
        refine G.cvi X kX5_isNeverAnswered lX5_102 dX5_lessonBitsOf_24 (tX5_isNeverAnswered l D cI cW a S k hS (by omega)) ⟨Nat.le_of_ble_eq_true rfl, Nat.le_of_ble_eq_true rfl⟩ ⟨Nat.zero_le _, Nat.zero_le _⟩ [0] rfl ⟨rfl, rfl⟩ rfl rfl 0 0 rfl rfl rfl rfl (Nat.le_of_ble_eq_true rfl) (ff_cons (wl_fst _ _ _ _) (ff_nil)) (ws' := [wl a cI S]) rfl ?_
        refine G.b_eq X dX5_lessonBitsOf_27 (fun h27 => ?_) (fun h27 => ?_)
        · refine G.iinc X dX5_lessonBitsOf_40 0 rfl (v' := nI (k + 1)) (nI_inc k) (by decide) (lv' := [(3, .int (nI (k + 1))), (2, .int (w_les S p k)), (1, .int p), (0, .ref (a 0))]) rfl ?_
          refine G.go X dX5_lessonBitsOf_43 ?_
          rw [show (w_les S p (k + 1)) = (w_les S p k) from (by simp [w_les, h9, h19, h27])] at ih4
          exact ih4
        · refine G.il X dX5_lessonBitsOf_30 1 rfl ?_
          refine G.pu X dX5_lessonBitsOf_31 ?_
          refine G.al X dX5_lessonBitsOf_32 3 rfl ?_
          refine G.il X dX5_lessonBitsOf_33 0 rfl ?_
          refine G.cvi X kX5_topicOf lX5_84 dX5_lessonBitsOf_34 (tX5_topicOf l D cI cW a S k (by omega)) ⟨Nat.le_of_ble_eq_true rfl, Nat.le_of_ble_eq_true rfl⟩ ⟨Nat.zero_le _, Nat.zero_le _⟩ [0] rfl ⟨rfl, rfl⟩ rfl rfl 0 0 rfl rfl rfl rfl (Nat.le_of_ble_eq_true rfl) (ff_cons (wl_fst _ _ _ _) (ff_nil)) (ws' := [wl a cI S]) rfl ?_
          refine G.ishl X dX5_lessonBitsOf_37 ?_
          refine G.ior X dX5_lessonBitsOf_38 ?_
          refine G.is X dX5_lessonBitsOf_39 (by decide) (lv' := [(2, .int ((w_les S p k) ||| (1 <<< ((top S k) &&& 31)))), (3, .int (nI k)), (1, .int p), (0, .ref (a 0))]) rfl ?_
          refine G.iinc X dX5_lessonBitsOf_40 1 rfl (v' := nI (k + 1)) (nI_inc k) (by decide) (lv' := [(3, .int (nI (k + 1))), (2, .int ((w_les S p k) ||| (1 <<< ((top S k) &&& 31)))), (1, .int p), (0, .ref (a 0))]) rfl ?_
          refine G.go X dX5_lessonBitsOf_43 ?_
          rw [show (w_les S p (k + 1)) = ((w_les S p k) ||| (1 <<< ((top S k) &&& 31))) from (by simp [w_les, h9, h19, h27])] at ih4
          exact ih4
  refine G.lvsub [0, 1, 3, 2] (lv' := [(3, .int 0), (2, .int 0), (1, .int p), (0, .ref (a 0))]) rfl ?_
  have L4 := L4 0 (Nat.zero_le _)
  exact L4

set_option maxRecDepth 20000 in
theorem tX5_becomes (l : Launch) (D : va_G) (cI cW : ClassId) (a : Nat → Nat) (S : WS) (b : Nat → Nat) (T : WS) : CT l D cI cW yX5_becomes cX5_becomes 2 none ⟨1, 0, 0, 60⟩ [.ref (a 0), .ref (b 0)] ([wl a cI S, wl b cI T]) (PV ([wl a cI T, wl b cI T])) := by
  refine CT.of RX5 rfl (by decide +kernel) (Nat.le_of_ble_eq_true rfl) [(0, .ref (a 0)), (1, .ref (b 0))] rfl (fun x X Rr hnm => ?_)
  refine G.al X dX5_becomes_0 0 rfl ?_
  refine G.al X dX5_becomes_1 1 rfl ?_
  refine G.get X fX5_9 dX5_becomes_2 1 0 rfl rfl rfl ?_
  refine G.puti X fX5_9 fe5 dX5_becomes_5 rfl rfl 0 0 rfl rfl (Nat.le_of_ble_eq_true rfl) (blk' := wl a cI (s_pe T, s_th S, s_da S, s_dr S, s_kn S, s_sh S, s_an S, s_ki S, s_we S, s_dp S, s_wa S, s_le S)) rfl (ws' := [wl a cI (s_pe T, s_th S, s_da S, s_dr S, s_kn S, s_sh S, s_an S, s_ki S, s_we S, s_dp S, s_wa S, s_le S), wl b cI T]) rfl ?_
  refine G.al X dX5_becomes_8 0 rfl ?_
  refine G.al X dX5_becomes_9 1 rfl ?_
  refine G.get X fX5_15 dX5_becomes_10 1 0 rfl rfl rfl ?_
  refine G.puti X fX5_15 fe5 dX5_becomes_13 rfl rfl 0 0 rfl rfl (Nat.le_of_ble_eq_true rfl) (blk' := wl a cI (s_pe T, s_th T, s_da S, s_dr S, s_kn S, s_sh S, s_an S, s_ki S, s_we S, s_dp S, s_wa S, s_le S)) rfl (ws' := [wl a cI (s_pe T, s_th T, s_da S, s_dr S, s_kn S, s_sh S, s_an S, s_ki S, s_we S, s_dp S, s_wa S, s_le S), wl b cI T]) rfl ?_
  refine G.al X dX5_becomes_16 0 rfl ?_
  refine G.al X dX5_becomes_17 1 rfl ?_
  refine G.get X fX5_18 dX5_becomes_18 1 0 rfl rfl rfl ?_
  refine G.puti X fX5_18 fe5 dX5_becomes_21 rfl rfl 0 0 rfl rfl (Nat.le_of_ble_eq_true rfl) (blk' := wl a cI (s_pe T, s_th T, s_da T, s_dr S, s_kn S, s_sh S, s_an S, s_ki S, s_we S, s_dp S, s_wa S, s_le S)) rfl (ws' := [wl a cI (s_pe T, s_th T, s_da T, s_dr S, s_kn S, s_sh S, s_an S, s_ki S, s_we S, s_dp S, s_wa S, s_le S), wl b cI T]) rfl ?_
  refine G.al X dX5_becomes_24 0 rfl ?_
  refine G.al X dX5_becomes_25 1 rfl ?_
  refine G.get X fX5_21 dX5_becomes_26 1 0 rfl rfl rfl ?_
  refine G.puti X fX5_21 fe5 dX5_becomes_29 rfl rfl 0 0 rfl rfl (Nat.le_of_ble_eq_true rfl) (blk' := wl a cI (s_pe T, s_th T, s_da T, s_dr T, s_kn S, s_sh S, s_an S, s_ki S, s_we S, s_dp S, s_wa S, s_le S)) rfl (ws' := [wl a cI (s_pe T, s_th T, s_da T, s_dr T, s_kn S, s_sh S, s_an S, s_ki S, s_we S, s_dp S, s_wa S, s_le S), wl b cI T]) rfl ?_
  refine G.al X dX5_becomes_32 1 rfl ?_
  refine G.get X fX5_24 dX5_becomes_33 1 0 rfl rfl rfl ?_
  refine G.pu X dX5_becomes_36 ?_
  refine G.al X dX5_becomes_37 0 rfl ?_
  refine G.get X fX5_24 dX5_becomes_38 0 0 rfl rfl rfl ?_
  refine G.pu X dX5_becomes_41 ?_
  refine G.pu X dX5_becomes_42 ?_
  refine G.cpy X lX5_49 dX5_becomes_43 5 1 1 0 1 rfl rfl rfl rfl (Nat.le_of_ble_eq_true rfl) (Nat.le_of_ble_eq_true rfl) (by decide) (blk' := wl a cI (s_pe T, s_th T, s_da T, s_dr T, s_kn T, s_sh S, s_an S, s_ki S, s_we S, s_dp S, s_wa S, s_le S)) rfl (ws' := [wl a cI (s_pe T, s_th T, s_da T, s_dr T, s_kn T, s_sh S, s_an S, s_ki S, s_we S, s_dp S, s_wa S, s_le S), wl b cI T]) rfl ?_
  refine G.al X dX5_becomes_46 1 rfl ?_
  refine G.get X fX5_28 dX5_becomes_47 1 0 rfl rfl rfl ?_
  refine G.pu X dX5_becomes_50 ?_
  refine G.al X dX5_becomes_51 0 rfl ?_
  refine G.get X fX5_28 dX5_becomes_52 0 0 rfl rfl rfl ?_
  refine G.pu X dX5_becomes_55 ?_
  refine G.pu X dX5_becomes_56 ?_
  refine G.cpy X lX5_49 dX5_becomes_57 5 1 2 0 2 rfl rfl rfl rfl (Nat.le_of_ble_eq_true rfl) (Nat.le_of_ble_eq_true rfl) (by decide) (blk' := wl a cI (s_pe T, s_th T, s_da T, s_dr T, s_kn T, s_sh T, s_an S, s_ki S, s_we S, s_dp S, s_wa S, s_le S)) rfl (ws' := [wl a cI (s_pe T, s_th T, s_da T, s_dr T, s_kn T, s_sh T, s_an S, s_ki S, s_we S, s_dp S, s_wa S, s_le S), wl b cI T]) rfl ?_
  refine G.al X dX5_becomes_60 1 rfl ?_
  refine G.get X fX5_31 dX5_becomes_61 1 0 rfl rfl rfl ?_
  refine G.pu X dX5_becomes_64 ?_
  refine G.al X dX5_becomes_65 0 rfl ?_
  refine G.get X fX5_31 dX5_becomes_66 0 0 rfl rfl rfl ?_
  refine G.pu X dX5_becomes_69 ?_
  refine G.pu X dX5_becomes_70 ?_
  refine G.cpy X lX5_49 dX5_becomes_71 5 1 3 0 3 rfl rfl rfl rfl (Nat.le_of_ble_eq_true rfl) (Nat.le_of_ble_eq_true rfl) (by decide) (blk' := wl a cI (s_pe T, s_th T, s_da T, s_dr T, s_kn T, s_sh T, s_an T, s_ki S, s_we S, s_dp S, s_wa S, s_le S)) rfl (ws' := [wl a cI (s_pe T, s_th T, s_da T, s_dr T, s_kn T, s_sh T, s_an T, s_ki S, s_we S, s_dp S, s_wa S, s_le S), wl b cI T]) rfl ?_
  refine G.al X dX5_becomes_74 1 rfl ?_
  refine G.get X fX5_34 dX5_becomes_75 1 0 rfl rfl rfl ?_
  refine G.pu X dX5_becomes_78 ?_
  refine G.al X dX5_becomes_79 0 rfl ?_
  refine G.get X fX5_34 dX5_becomes_80 0 0 rfl rfl rfl ?_
  refine G.pu X dX5_becomes_83 ?_
  refine G.pu X dX5_becomes_84 ?_
  refine G.cpy X lX5_49 dX5_becomes_86 9 1 4 0 4 rfl rfl rfl rfl (Nat.le_of_ble_eq_true rfl) (Nat.le_of_ble_eq_true rfl) (by decide) (blk' := wl a cI (s_pe T, s_th T, s_da T, s_dr T, s_kn T, s_sh T, s_an T, s_ki T, s_we S, s_dp S, s_wa S, s_le S)) rfl (ws' := [wl a cI (s_pe T, s_th T, s_da T, s_dr T, s_kn T, s_sh T, s_an T, s_ki T, s_we S, s_dp S, s_wa S, s_le S), wl b cI T]) rfl ?_
  refine G.al X dX5_becomes_89 1 rfl ?_
  refine G.get X fX5_37 dX5_becomes_90 1 0 rfl rfl rfl ?_
  refine G.pu X dX5_becomes_93 ?_
  refine G.al X dX5_becomes_94 0 rfl ?_
  refine G.get X fX5_37 dX5_becomes_95 0 0 rfl rfl rfl ?_
  refine G.pu X dX5_becomes_98 ?_
  refine G.pu X dX5_becomes_99 ?_
  refine G.cpy X lX5_49 dX5_becomes_101 9 1 5 0 5 rfl rfl rfl rfl (Nat.le_of_ble_eq_true rfl) (Nat.le_of_ble_eq_true rfl) (by decide) (blk' := wl a cI (s_pe T, s_th T, s_da T, s_dr T, s_kn T, s_sh T, s_an T, s_ki T, s_we T, s_dp S, s_wa S, s_le S)) rfl (ws' := [wl a cI (s_pe T, s_th T, s_da T, s_dr T, s_kn T, s_sh T, s_an T, s_ki T, s_we T, s_dp S, s_wa S, s_le S), wl b cI T]) rfl ?_
  refine G.al X dX5_becomes_104 1 rfl ?_
  refine G.get X fX5_40 dX5_becomes_105 1 0 rfl rfl rfl ?_
  refine G.pu X dX5_becomes_108 ?_
  refine G.al X dX5_becomes_109 0 rfl ?_
  refine G.get X fX5_40 dX5_becomes_110 0 0 rfl rfl rfl ?_
  refine G.pu X dX5_becomes_113 ?_
  refine G.pu X dX5_becomes_114 ?_
  refine G.cpy X lX5_49 dX5_becomes_116 9 1 6 0 6 rfl rfl rfl rfl (Nat.le_of_ble_eq_true rfl) (Nat.le_of_ble_eq_true rfl) (by decide) (blk' := wl a cI (s_pe T, s_th T, s_da T, s_dr T, s_kn T, s_sh T, s_an T, s_ki T, s_we T, s_dp T, s_wa S, s_le S)) rfl (ws' := [wl a cI (s_pe T, s_th T, s_da T, s_dr T, s_kn T, s_sh T, s_an T, s_ki T, s_we T, s_dp T, s_wa S, s_le S), wl b cI T]) rfl ?_
  refine G.al X dX5_becomes_119 1 rfl ?_
  refine G.get X fX5_43 dX5_becomes_120 1 0 rfl rfl rfl ?_
  refine G.pu X dX5_becomes_123 ?_
  refine G.al X dX5_becomes_124 0 rfl ?_
  refine G.get X fX5_43 dX5_becomes_125 0 0 rfl rfl rfl ?_
  refine G.pu X dX5_becomes_128 ?_
  refine G.pu X dX5_becomes_129 ?_
  refine G.cpy X lX5_49 dX5_becomes_131 9 1 7 0 7 rfl rfl rfl rfl (Nat.le_of_ble_eq_true rfl) (Nat.le_of_ble_eq_true rfl) (by decide) (blk' := wl a cI (s_pe T, s_th T, s_da T, s_dr T, s_kn T, s_sh T, s_an T, s_ki T, s_we T, s_dp T, s_wa T, s_le S)) rfl (ws' := [wl a cI (s_pe T, s_th T, s_da T, s_dr T, s_kn T, s_sh T, s_an T, s_ki T, s_we T, s_dp T, s_wa T, s_le S), wl b cI T]) rfl ?_
  refine G.al X dX5_becomes_134 1 rfl ?_
  refine G.get X fX5_46 dX5_becomes_135 1 0 rfl rfl rfl ?_
  refine G.pu X dX5_becomes_138 ?_
  refine G.al X dX5_becomes_139 0 rfl ?_
  refine G.get X fX5_46 dX5_becomes_140 0 0 rfl rfl rfl ?_
  refine G.pu X dX5_becomes_143 ?_
  refine G.pu X dX5_becomes_144 ?_
  refine G.cpy X lX5_49 dX5_becomes_146 9 1 8 0 8 rfl rfl rfl rfl (Nat.le_of_ble_eq_true rfl) (Nat.le_of_ble_eq_true rfl) (by decide) (blk' := wl a cI (s_pe T, s_th T, s_da T, s_dr T, s_kn T, s_sh T, s_an T, s_ki T, s_we T, s_dp T, s_wa T, s_le T)) rfl (ws' := [wl a cI (s_pe T, s_th T, s_da T, s_dr T, s_kn T, s_sh T, s_an T, s_ki T, s_we T, s_dp T, s_wa T, s_le T), wl b cI T]) rfl ?_
  exact G.vret X Rr dX5_becomes_149 (pv_mk (by rfl))
