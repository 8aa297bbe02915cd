set_option maxRecDepth 20000 in
theorem tJ6_bitCount_0f7a4 (l : Launch) (D : va_G) (cI cW : ClassId) (v : Int32) : CT l D cI cW yJ6_bitCount_0f7a4 cJ6_bitCount_0f7a4 1 (some .int) ⟨0, 0, 0, 0⟩ [.int v] ([]) (PI (bc v) ([])) := by
  refine CT.of RJ6 rfl (by decide +kernel) (Nat.le_of_ble_eq_true rfl) [(0, .int v)] rfl (fun x X Rr hnm => ?_)
  refine G.il X dJ6_bitCount_0f7a4_0 0 rfl ?_
  refine G.il X dJ6_bitCount_0f7a4_1 0 rfl ?_
  refine G.pu X dJ6_bitCount_0f7a4_2 ?_
  refine G.iushr X dJ6_bitCount_0f7a4_3 ?_
  refine G.ldcw X dJ6_bitCount_0f7a4_4 qJ6_265 ?_
  refine G.iand X dJ6_bitCount_0f7a4_7 ?_
  refine G.isub X dJ6_bitCount_0f7a4_8 ?_
  refine G.is X dJ6_bitCount_0f7a4_9 (by decide) (lv' := [(0, .int (v - (((v.toUInt32 >>> (Int32.toUInt32 1 &&& Int32.toUInt32 31)).toInt32) &&& 1431655765)))]) rfl ?_
  refine G.cg (lv' := [(0, .int (bc1 v))]) rfl rfl rfl ?_
  refine G.il X dJ6_bitCount_0f7a4_10 0 rfl ?_
  refine G.ldcw X dJ6_bitCount_0f7a4_11 qJ6_266 ?_
  refine G.iand X dJ6_bitCount_0f7a4_14 ?_
  refine G.il X dJ6_bitCount_0f7a4_15 0 rfl ?_
  refine G.pu X dJ6_bitCount_0f7a4_16 ?_
  refine G.iushr X dJ6_bitCount_0f7a4_17 ?_
  refine G.ldcw X dJ6_bitCount_0f7a4_18 qJ6_266 ?_
  refine G.iand X dJ6_bitCount_0f7a4_21 ?_
  refine G.iadd X dJ6_bitCount_0f7a4_22 ?_
  refine G.is X dJ6_bitCount_0f7a4_23 (by decide) (lv' := [(0, .int (((bc1 v) &&& 858993459) + ((((bc1 v).toUInt32 >>> (Int32.toUInt32 2 &&& Int32.toUInt32 31)).toInt32) &&& 858993459)))]) rfl ?_
  refine G.cg (lv' := [(0, .int (bc2 (bc1 v)))]) rfl rfl rfl ?_
  refine G.il X dJ6_bitCount_0f7a4_24 0 rfl ?_
  refine G.il X dJ6_bitCount_0f7a4_25 0 rfl ?_
  refine G.pu X dJ6_bitCount_0f7a4_26 ?_
  refine G.iushr X dJ6_bitCount_0f7a4_27 ?_
  refine G.iadd X dJ6_bitCount_0f7a4_28 ?_
  refine G.ldcw X dJ6_bitCount_0f7a4_29 qJ6_267 ?_
  refine G.iand X dJ6_bitCount_0f7a4_32 ?_
  refine G.is X dJ6_bitCount_0f7a4_33 (by decide) (lv' := [(0, .int (((bc2 (bc1 v)) + (((bc2 (bc1 v)).toUInt32 >>> (Int32.toUInt32 4 &&& Int32.toUInt32 31)).toInt32)) &&& 252645135))]) rfl ?_
  refine G.cg (lv' := [(0, .int (bc3 (bc2 (bc1 v))))]) rfl rfl rfl ?_
  refine G.il X dJ6_bitCount_0f7a4_34 0 rfl ?_
  refine G.il X dJ6_bitCount_0f7a4_35 0 rfl ?_
  refine G.pu X dJ6_bitCount_0f7a4_36 ?_
  refine G.iushr X dJ6_bitCount_0f7a4_38 ?_
  refine G.iadd X dJ6_bitCount_0f7a4_39 ?_
  refine G.is X dJ6_bitCount_0f7a4_40 (by decide) (lv' := [(0, .int ((bc3 (bc2 (bc1 v))) + (((bc3 (bc2 (bc1 v))).toUInt32 >>> (Int32.toUInt32 8 &&& Int32.toUInt32 31)).toInt32)))]) rfl ?_
  refine G.cg (lv' := [(0, .int (bc4 (bc3 (bc2 (bc1 v)))))]) rfl rfl rfl ?_
  refine G.il X dJ6_bitCount_0f7a4_41 0 rfl ?_
  refine G.il X dJ6_bitCount_0f7a4_42 0 rfl ?_
  refine G.pu X dJ6_bitCount_0f7a4_43 ?_
  refine G.iushr X dJ6_bitCount_0f7a4_45 ?_
  refine G.iadd X dJ6_bitCount_0f7a4_46 ?_
  refine G.is X dJ6_bitCount_0f7a4_47 (by decide) (lv' := [(0, .int ((bc4 (bc3 (bc2 (bc1 v)))) + (((bc4 (bc3 (bc2 (bc1 v)))).toUInt32 >>> (Int32.toUInt32 16 &&& Int32.toUInt32 31)).toInt32)))]) rfl ?_
  refine G.cg (lv' := [(0, .int (bc5 (bc4 (bc3 (bc2 (bc1 v))))))]) rfl rfl rfl ?_
  refine G.il X dJ6_bitCount_0f7a4_48 0 rfl ?_
  refine G.pu X dJ6_bitCount_0f7a4_49 ?_
  refine G.iand X dJ6_bitCount_0f7a4_51 ?_
  exact G.iret X Rr (v := ((bc5 (bc4 (bc3 (bc2 (bc1 v))))) &&& 63)) dJ6_bitCount_0f7a4_52 (pi_mk (by rfl) (by rfl))

set_option maxRecDepth 20000 in
theorem tX5_lessonsOfAll (l : Launch) (D : va_G) (cI cW : ClassId) (a : Nat → Nat) (S : WS) (hS : Ok S) : CT l D cI cW yX5_lessonsOfAll cX5_lessonsOfAll 3 (some .int) ⟨5, 0, 0, 108⟩ [.ref (a 0)] ([wl a cI S]) (PI (w_lsum S (s_pe S)) ([wl a cI S])) := by
  refine CT.of RX5 rfl (by decide +kernel) (Nat.le_of_ble_eq_true rfl) [(0, .ref (a 0))] rfl (fun x X Rr hnm => ?_)
  have hth := hS.th
  have hpe := hS.pe
  refine G.pu X dX5_lessonsOfAll_0 ?_
  refine G.is X dX5_lessonsOfAll_1 (by decide) (lv' := [(1, .int 0), (0, .ref (a 0))]) rfl ?_
  refine G.pu X dX5_lessonsOfAll_2 ?_
  refine G.is X dX5_lessonsOfAll_3 (by decide) (lv' := [(2, .int 0), (1, .int 0), (0, .ref (a 0))]) rfl ?_
  have L4 : ∀ k, k ≤ s_pe S → G x 0 0 ([wl a cI S]) 4 [(2, .int (nI k)), (1, .int (w_lsum S k)), (0, .ref (a 0))] [] := by
    refine loop_dn (s_pe S) _ ?_ ?_
    · refine G.il X dX5_lessonsOfAll_4 0 rfl ?_
      refine G.al X dX5_lessonsOfAll_5 2 rfl ?_
      refine G.get X fX5_9 dX5_lessonsOfAll_6 0 0 rfl rfl rfl ?_
      refine G.n_ge X (a := s_pe S) (b := s_pe S) (by omega) (by omega) dX5_lessonsOfAll_9 (fun h9 => ?_) (fun h9 => absurd h9 (by omega))
      refine G.il X dX5_lessonsOfAll_29 1 rfl ?_
      exact G.iret X Rr (v := (w_lsum S (s_pe S))) dX5_lessonsOfAll_30 (pi_mk (by rfl) (by rfl))
    · intro k hk ih4
      refine G.il X dX5_lessonsOfAll_4 0 rfl ?_
      refine G.al X dX5_lessonsOfAll_5 2 rfl ?_
      refine G.get X fX5_9 dX5_lessonsOfAll_6 0 0 rfl rfl rfl ?_
      refine G.n_ge X (a := k) (b := s_pe S) (by omega) (by omega) dX5_lessonsOfAll_9 (fun h9 => absurd h9 (by omega)) (fun h9 => ?_)
      refine G.il X dX5_lessonsOfAll_12 1 rfl ?_
      refine G.al X dX5_lessonsOfAll_13 2 rfl ?_
      refine G.il X dX5_lessonsOfAll_14 0 rfl ?_
      refine G.cvi X kX5_lessonBitsOf lX5_105 dX5_lessonsOfAll_15 (tX5_lessonBitsOf l D cI cW a S (nI k) hS) ⟨Nat.le_of_ble_eq_true rfl, Nat.le_of_ble_eq_true rfl⟩ ⟨Nat.zero_le _, Nat.zero_le _⟩ [0] rfl ⟨rfl, rfl⟩ rfl rfl 0 0 rfl rfl rfl rfl (Nat.le_of_ble_eq_true rfl) (ff_cons (wl_fst _ _ _ _) (ff_nil)) (ws' := [wl a cI S]) rfl ?_
      refine G.csti X kJ6_bitCount_0f7a4 lX5_108 dX5_lessonsOfAll_18 (tJ6_bitCount_0f7a4 l D cI cW (w_les S (nI k) (s_th S))) ⟨Nat.le_of_ble_eq_true rfl, Nat.le_of_ble_eq_true rfl⟩ ⟨Nat.zero_le _, Nat.zero_le _⟩ [] rfl ⟨rfl, rfl⟩ rfl rfl rfl (Nat.le_of_ble_eq_true rfl) (ff_nil) (ws' := [wl a cI S]) rfl ?_
      refine G.iadd X dX5_lessonsOfAll_21 ?_
      refine G.is X dX5_lessonsOfAll_22 (by decide) (lv' := [(1, .int ((w_lsum S k) + (bc (w_les S (nI k) (s_th S))))), (2, .int (nI k)), (0, .ref (a 0))]) rfl ?_
      refine G.iinc X dX5_lessonsOfAll_23 1 rfl (v' := nI (k + 1)) (nI_inc k) (by decide) (lv' := [(2, .int (nI (k + 1))), (1, .int ((w_lsum S k) + (bc (w_les S (nI k) (s_th S))))), (0, .ref (a 0))]) rfl ?_
      refine G.go X dX5_lessonsOfAll_26 ?_
      rw [show (w_lsum S (k + 1)) = ((w_lsum S k) + (bc (w_les S (nI k) (s_th S)))) from (by rfl)] at ih4
      exact ih4
  have L4 := L4 0 (Nat.zero_le _)
  exact L4

set_option maxRecDepth 20000 in
theorem tX5_neediest (l : Launch) (D : va_G) (cI cW : ClassId) (a : Nat → Nat) (S : WS) (hS : Ok S) : CT l D cI cW yX5_neediest cX5_neediest 5 (some .int) ⟨5, 0, 0, 108⟩ [.ref (a 0)] ([wl a cI S]) (PI ((bmax yes (fun p => bc (w_les S (nI p) (s_th S))) (-9, 0) (s_pe S)).1) ([wl a cI S])) := by
  refine CT.of RX5 rfl (by decide +kernel) (Nat.le_of_ble_eq_true rfl) [(0, .ref (a 0))] rfl (fun x X Rr hnm => ?_)
  have hth := hS.th
  have hpe := hS.pe
  refine G.pu X dX5_neediest_0 ?_
  refine G.is X dX5_neediest_2 (by decide) (lv' := [(1, .int (-9)), (0, .ref (a 0))]) rfl ?_
  refine G.pu X dX5_neediest_3 ?_
  refine G.is X dX5_neediest_4 (by decide) (lv' := [(2, .int 0), (1, .int (-9)), (0, .ref (a 0))]) rfl ?_
  refine G.pu X dX5_neediest_5 ?_
  refine G.is X dX5_neediest_6 (by decide) (lv' := [(3, .int 0), (2, .int 0), (1, .int (-9)), (0, .ref (a 0))]) rfl ?_
  have L7 : ∀ k, k ≤ s_pe S → G x 0 0 ([wl a cI S]) 7 [(3, .int (nI k)), (2, .int ((bmax yes (fun p => bc (w_les S (nI p) (s_th S))) (-9, 0) k).2)), (1, .int ((bmax yes (fun p => bc (w_les S (nI p) (s_th S))) (-9, 0) k).1)), (0, .ref (a 0))] [] := by
    refine loop_dn (s_pe S) _ ?_ ?_
    · refine G.il X dX5_neediest_7 0 rfl ?_
      refine G.al X dX5_neediest_8 3 rfl ?_
      refine G.get X fX5_9 dX5_neediest_9 0 0 rfl rfl rfl ?_
      refine G.n_ge X (a := s_pe S) (b := s_pe S) (by omega) (by omega) dX5_neediest_12 (fun h12 => ?_) (fun h12 => absurd h12 (by omega))
      refine G.il X dX5_neediest_42 2 rfl ?_
      exact G.iret X Rr (v := ((bmax yes (fun p => bc (w_les S (nI p) (s_th S))) (-9, 0) (s_pe S)).1)) dX5_neediest_43 (pi_mk (by rfl) (by rfl))
    · intro k hk ih7
      refine G.il X dX5_neediest_7 0 rfl ?_
      refine G.al X dX5_neediest_8 3 rfl ?_
      refine G.get X fX5_9 dX5_neediest_9 0 0 rfl rfl rfl ?_
      refine G.n_ge X (a := k) (b := s_pe S) (by omega) (by omega) dX5_neediest_12 (fun h12 => absurd h12 (by omega)) (fun h12 => ?_)
      refine G.al X dX5_neediest_15 3 rfl ?_
      refine G.il X dX5_neediest_16 0 rfl ?_
      refine G.cvi X kX5_lessonBitsOf lX5_105 dX5_neediest_17 (tX5_lessonBitsOf l D cI cW a S (nI k) hS) ⟨Nat.le_of_ble_eq_true rfl, Nat.le_of_ble_eq_true rfl⟩ ⟨Nat.zero_le _, Nat.zero_le _⟩ [0] rfl ⟨rfl, rfl⟩ rfl rfl 0 0 rfl rfl rfl rfl (Nat.le_of_ble_eq_true rfl) (ff_cons (wl_fst _ _ _ _) (ff_nil)) (ws' := [wl a cI S]) rfl ?_
      refine G.csti X kJ6_bitCount_0f7a4 lX5_108 dX5_neediest_20 (tJ6_bitCount_0f7a4 l D cI cW (w_les S (nI k) (s_th S))) ⟨Nat.le_of_ble_eq_true rfl, Nat.le_of_ble_eq_true rfl⟩ ⟨Nat.zero_le _, Nat.zero_le _⟩ [] rfl ⟨rfl, rfl⟩ rfl rfl rfl (Nat.le_of_ble_eq_true rfl) (ff_nil) (ws' := [wl a cI S]) rfl ?_
      refine G.is X dX5_neediest_23 (by decide) (lv' := [(4, .int (bc (w_les S (nI k) (s_th S)))), (3, .int (nI k)), (2, .int ((bmax yes (fun p => bc (w_les S (nI p) (s_th S))) (-9, 0) k).2)), (1, .int ((bmax yes (fun p => bc (w_les S (nI p) (s_th S))) (-9, 0) k).1)), (0, .ref (a 0))]) rfl ?_
      refine G.il X dX5_neediest_25 0 rfl ?_
      refine G.il X dX5_neediest_27 2 rfl ?_
      refine G.c_le X (a := (bc (w_les S (nI k) (s_th S)))) (b := ((bmax yes (fun p => bc (w_les S (nI p) (s_th S))) (-9, 0) k).2)) dX5_neediest_28 (fun h28 => ?_) (fun h28 => ?_)
      · refine G.iinc X dX5_neediest_36 1 rfl (v' := nI (k + 1)) (nI_inc k) (by decide) (lv' := [(3, .int (nI (k + 1))), (4, .int (bc (w_les S (nI k) (s_th S)))), (2, .int ((bmax yes (fun p => bc (w_les S (nI p) (s_th S))) (-9, 0) k).2)), (1, .int ((bmax yes (fun p => bc (w_les S (nI p) (s_th S))) (-9, 0) k).1)), (0, .ref (a 0))]) rfl ?_
        refine G.go X dX5_neediest_39 ?_
        rw [show ((bmax yes (fun p => bc (w_les S (nI p) (s_th S))) (-9, 0) (k + 1)).2) = ((bmax yes (fun p => bc (w_les S (nI p) (s_th S))) (-9, 0) k).2) from (by simp [bmax, yes, h12, h28])] at ih7
        rw [show ((bmax yes (fun p => bc (w_les S (nI p) (s_th S))) (-9, 0) (k + 1)).1) = ((bmax yes (fun p => bc (w_les S (nI p) (s_th S))) (-9, 0) k).1) from (by simp [bmax, yes, h12, h28])] at ih7
        refine G.lvsub [0, 2, 3, 4] (lv' := [(3, .int (nI (k + 1))), (2, .int ((bmax yes (fun p => bc (w_les S (nI p) (s_th S))) (-9, 0) k).2)), (1, .int ((bmax yes (fun p => bc (w_les S (nI p) (s_th S))) (-9, 0) k).1)), (0, .ref (a 0))]) rfl ?_
        exact ih7
      · refine G.il X dX5_neediest_31 0 rfl ?_
        refine G.is X dX5_neediest_33 (by decide) (lv' := [(2, .int (bc (w_les S (nI k) (s_th S)))), (4, .int (bc (w_les S (nI k) (s_th S)))), (3, .int (nI k)), (1, .int ((bmax yes (fun p => bc (w_les S (nI p) (s_th S))) (-9, 0) k).1)), (0, .ref (a 0))]) rfl ?_
        refine G.il X dX5_neediest_34 2 rfl ?_
        refine G.is X dX5_neediest_35 (by decide) (lv' := [(1, .int (nI k)), (2, .int (bc (w_les S (nI k) (s_th S)))), (4, .int (bc (w_les S (nI k) (s_th S)))), (3, .int (nI k)), (0, .ref (a 0))]) rfl ?_
        refine G.iinc X dX5_neediest_36 3 rfl (v' := nI (k + 1)) (nI_inc k) (by decide) (lv' := [(3, .int (nI (k + 1))), (1, .int (nI k)), (2, .int (bc (w_les S (nI k) (s_th S)))), (4, .int (bc (w_les S (nI k) (s_th S)))), (0, .ref (a 0))]) rfl ?_
        refine G.go X dX5_neediest_39 ?_
        rw [show ((bmax yes (fun p => bc (w_les S (nI p) (s_th S))) (-9, 0) (k + 1)).2) = (bc (w_les S (nI k) (s_th S))) from (by simp [bmax, yes, h12, h28])] at ih7
        rw [show ((bmax yes (fun p => bc (w_les S (nI p) (s_th S))) (-9, 0) (k + 1)).1) = (nI k) from (by simp [bmax, yes, h12, h28])] at ih7
        refine G.lvsub [0, 2, 1, 4] (lv' := [(3, .int (nI (k + 1))), (2, .int (bc (w_les S (nI k) (s_th S)))), (1, .int (nI k)), (0, .ref (a 0))]) rfl ?_
        exact ih7
  have L7 := L7 0 (Nat.zero_le _)
  exact L7

set_option maxRecDepth 20000 in
theorem tX5_twosAlike (l : Launch) (D : va_G) (cI cW : ClassId) (a : Nat → Nat) (S : WS) (hth : s_th S ≤ 9) : CT l D cI cW yX5_twosAlike cX5_twosAlike 4 (some .int) ⟨1, 0, 0, 22⟩ [.ref (a 0)] ([wl a cI S]) (PI (nI (w_al S (s_th S))) ([wl a cI S])) := by
  refine CT.of RX5 rfl (by decide +kernel) (Nat.le_of_ble_eq_true rfl) [(0, .ref (a 0))] rfl (fun x X Rr hnm => ?_)
  refine G.pu X dX5_twosAlike_0 ?_
  refine G.is X dX5_twosAlike_1 (by decide) (lv' := [(1, .int 0), (0, .ref (a 0))]) rfl ?_
  refine G.pu X dX5_twosAlike_2 ?_
  refine G.is X dX5_twosAlike_3 (by decide) (lv' := [(2, .int 0), (1, .int 0), (0, .ref (a 0))]) rfl ?_
  have L4 : ∀ k, k ≤ s_th S → G x 0 0 ([wl a cI S]) 4 [(2, .int (nI k)), (1, .int (nI (w_al S k))), (0, .ref (a 0))] [] := by
    refine loop_dn (s_th S) _ ?_ ?_
    · refine G.il X dX5_twosAlike_4 0 rfl ?_
      refine G.al X dX5_twosAlike_5 2 rfl ?_
      refine G.get X fX5_15 dX5_twosAlike_6 0 0 rfl rfl rfl ?_
      refine G.n_ge X (a := s_th S) (b := s_th S) (by omega) (by omega) dX5_twosAlike_9 (fun h9 => ?_) (fun h9 => absurd h9 (by omega))
      refine G.il X dX5_twosAlike_52 1 rfl ?_
      exact G.iret X Rr (v := nI (w_al S (s_th S))) dX5_twosAlike_53 (pi_mk (by rfl) (by rfl))
    · intro k hk ih4
      refine G.il X dX5_twosAlike_4 0 rfl ?_
      refine G.al X dX5_twosAlike_5 2 rfl ?_
      refine G.get X fX5_15 dX5_twosAlike_6 0 0 rfl rfl rfl ?_
      refine G.n_ge X (a := k) (b := s_th S) (by omega) (by omega) dX5_twosAlike_9 (fun h9 => absurd h9 (by omega)) (fun h9 => ?_)
      refine G.il X dX5_twosAlike_12 0 rfl ?_
      refine G.pu X dX5_twosAlike_13 ?_
      refine G.nadd X (a := k) (b := 1) dX5_twosAlike_14 ?_
      refine G.is X dX5_twosAlike_15 (by decide) (lv' := [(3, .int (nI (k + 1))), (2, .int (nI k)), (1, .int (nI (w_al S k))), (0, .ref (a 0))]) rfl ?_
      have L16 : ∀ j, j ≤ s_th S → k < j → G x 0 0 ([wl a cI S]) 16 [(3, .int (nI j)), (2, .int (nI k)), (1, .int (nI (w_al1 S k (w_al S k) j))), (0, .ref (a 0))] [] := by
        refine loop_dn (s_th S) _ ?_ ?_
        · intro hinv16
          refine G.il X dX5_twosAlike_16 0 rfl ?_
          refine G.al X dX5_twosAlike_17 3 rfl ?_
          refine G.get X fX5_15 dX5_twosAlike_18 0 0 rfl rfl rfl ?_
          refine G.n_ge X (a := s_th S) (b := s_th S) (by omega) (by omega) dX5_twosAlike_21 (fun h21 => ?_) (fun h21 => absurd h21 (by omega))
          refine G.iinc X dX5_twosAlike_46 1 rfl (v' := nI (k + 1)) (nI_inc k) (by decide) (lv' := [(2, .int (nI (k + 1))), (3, .int (nI (s_th S))), (1, .int (nI (w_al1 S k (w_al S k) (s_th S)))), (0, .ref (a 0))]) rfl ?_
          refine G.go X dX5_twosAlike_49 ?_
          rw [show (nI (w_al S (k + 1))) = (nI (w_al1 S k (w_al S k) (s_th S))) from (by rfl)] at ih4
          refine G.lvsub [0, 2, 3] (lv' := [(2, .int (nI (k + 1))), (1, .int (nI (w_al1 S k (w_al S k) (s_th S)))), (0, .ref (a 0))]) rfl ?_
          exact ih4
        · intro j hj ih16 hinv16
          refine G.il X dX5_twosAlike_16 0 rfl ?_
          refine G.al X dX5_twosAlike_17 3 rfl ?_
          refine G.get X fX5_15 dX5_twosAlike_18 0 0 rfl rfl rfl ?_
          refine G.n_ge X (a := j) (b := s_th S) (by omega) (by omega) dX5_twosAlike_21 (fun h21 => absurd h21 (by omega)) (fun h21 => ?_)
          refine G.al X dX5_twosAlike_24 3 rfl ?_
          refine G.il X dX5_twosAlike_25 1 rfl ?_
          refine G.cvi X kX5_topicOf lX5_84 dX5_twosAlike_26 (tX5_topicOf l D cI cW a S k (by omega)) ⟨Nat.le_of_ble_eq_true rfl, Nat.le_of_ble_eq_true rfl⟩ ⟨Nat.zero_le _, Nat.zero_le _⟩ [0] rfl ⟨rfl, rfl⟩ rfl rfl 0 0 rfl rfl rfl rfl (Nat.le_of_ble_eq_true rfl) (ff_cons (wl_fst _ _ _ _) (ff_nil)) (ws' := [wl a cI S]) rfl ?_
          refine G.al X dX5_twosAlike_29 3 rfl ?_
          refine G.il X dX5_twosAlike_30 0 rfl ?_
          refine G.cvi X kX5_topicOf lX5_84 dX5_twosAlike_31 (tX5_topicOf l D cI cW a S j (by omega)) ⟨Nat.le_of_ble_eq_true rfl, Nat.le_of_ble_eq_true rfl⟩ ⟨Nat.zero_le _, Nat.zero_le _⟩ [0] rfl ⟨rfl, rfl⟩ rfl rfl 0 0 rfl rfl rfl rfl (Nat.le_of_ble_eq_true rfl) (ff_cons (wl_fst _ _ _ _) (ff_nil)) (ws' := [wl a cI S]) rfl ?_
          refine G.c_ne X (a := (top S k)) (b := (top S j)) dX5_twosAlike_34 (fun h34 => ?_) (fun h34 => ?_)
          · refine G.iinc X dX5_twosAlike_40 0 rfl (v' := nI (j + 1)) (nI_inc j) (by decide) (lv' := [(3, .int (nI (j + 1))), (2, .int (nI k)), (1, .int (nI (w_al1 S k (w_al S k) j))), (0, .ref (a 0))]) rfl ?_
            refine G.go X dX5_twosAlike_43 ?_
            rw [show (nI (w_al1 S k (w_al S k) (j + 1))) = (nI (w_al1 S k (w_al S k) j)) from (by simp [w_al1, w_p2, hinv16, h21, h34])] at ih16
            exact ih16 (by omega)
          · refine G.iinc X dX5_twosAlike_37 2 rfl (v' := nI ((w_al1 S k (w_al S k) j) + 1)) (nI_inc (w_al1 S k (w_al S k) j)) (by decide) (lv' := [(1, .int (nI ((w_al1 S k (w_al S k) j) + 1))), (3, .int (nI j)), (2, .int (nI k)), (0, .ref (a 0))]) rfl ?_
            refine G.iinc X dX5_twosAlike_40 1 rfl (v' := nI (j + 1)) (nI_inc j) (by decide) (lv' := [(3, .int (nI (j + 1))), (1, .int (nI ((w_al1 S k (w_al S k) j) + 1))), (2, .int (nI k)), (0, .ref (a 0))]) rfl ?_
            refine G.go X dX5_twosAlike_43 ?_
            rw [show (nI (w_al1 S k (w_al S k) (j + 1))) = (nI ((w_al1 S k (w_al S k) j) + 1)) from (by simp [w_al1, w_p2, hinv16, h21, h34])] at ih16
            refine G.lvsub [0, 2, 1, 3] (lv' := [(3, .int (nI (j + 1))), (2, .int (nI k)), (1, .int (nI ((w_al1 S k (w_al S k) j) + 1))), (0, .ref (a 0))]) rfl ?_
            exact ih16 (by omega)
      have L16 := L16 (k + 1) (by omega) (by omega)
      rw [show (nI (w_al1 S k (w_al S k) (k + 1))) = (nI (w_al S k)) from (by rw [w_al1_0 S k _ (k + 1) (Nat.le_refl _)])] at L16
      exact L16
  have L4 := L4 0 (Nat.zero_le _)
  exact L4

set_option maxRecDepth 20000 in
theorem tX5_firstTwoAlike (l : Launch) (D : va_G) (cI cW : ClassId) (a : Nat → Nat) (S : WS) (hth : s_th S ≤ 9) : CT l D cI cW yX5_firstTwoAlike cX5_firstTwoAlike 3 (some .int) ⟨1, 0, 0, 22⟩ [.ref (a 0)] ([wl a cI S]) (PI (w_ft S) ([wl a cI S])) := by
  refine CT.of RX5 rfl (by decide +kernel) (Nat.le_of_ble_eq_true rfl) [(0, .ref (a 0))] rfl (fun x X Rr hnm => ?_)
  refine G.pu X dX5_firstTwoAlike_0 ?_
  refine G.is X dX5_firstTwoAlike_1 (by decide) (lv' := [(1, .int 0), (0, .ref (a 0))]) rfl ?_
  have L2 : ∀ k, k ≤ s_th S → (∀ i, i < k → w_f2 S i = none) → G x 0 0 ([wl a cI S]) 2 [(1, .int (nI k)), (0, .ref (a 0))] [] := by
    refine loop_dn (s_th S) _ ?_ ?_
    · intro hinv2
      refine G.il X dX5_firstTwoAlike_2 0 rfl ?_
      refine G.al X dX5_firstTwoAlike_3 1 rfl ?_
      refine G.get X fX5_15 dX5_firstTwoAlike_4 0 0 rfl rfl rfl ?_
      refine G.n_ge X (a := s_th S) (b := s_th S) (by omega) (by omega) dX5_firstTwoAlike_7 (fun h7 => ?_) (fun h7 => absurd h7 (by omega))
      refine G.pu X dX5_firstTwoAlike_54 ?_
      exact G.iret X Rr (v := (-9)) dX5_firstTwoAlike_56 (pi_mk (by simp [w_ft, fi_none (P := fun i => (w_f2 S i).isSome) (n := s_th S) (fun i hi => by simp [hinv2 i hi])]) (by rfl))
    · intro k hk ih2 hinv2
      refine G.il X dX5_firstTwoAlike_2 0 rfl ?_
      refine G.al X dX5_firstTwoAlike_3 1 rfl ?_
      refine G.get X fX5_15 dX5_firstTwoAlike_4 0 0 rfl rfl rfl ?_
      refine G.n_ge X (a := k) (b := s_th S) (by omega) (by omega) dX5_firstTwoAlike_7 (fun h7 => absurd h7 (by omega)) (fun h7 => ?_)
      refine G.il X dX5_firstTwoAlike_10 0 rfl ?_
      refine G.pu X dX5_firstTwoAlike_11 ?_
      refine G.nadd X (a := k) (b := 1) dX5_firstTwoAlike_12 ?_
      refine G.is X dX5_firstTwoAlike_13 (by decide) (lv' := [(2, .int (nI (k + 1))), (1, .int (nI k)), (0, .ref (a 0))]) rfl ?_
      have L14 : ∀ j, j ≤ s_th S → (k < j ∧ ∀ i, i < j → w_p2 S k i = false) → G x 0 0 ([wl a cI S]) 14 [(2, .int (nI j)), (1, .int (nI k)), (0, .ref (a 0))] [] := by
        refine loop_dn (s_th S) _ ?_ ?_
        · intro hinv14
          refine G.il X dX5_firstTwoAlike_14 0 rfl ?_
          refine G.al X dX5_firstTwoAlike_15 2 rfl ?_
          refine G.get X fX5_15 dX5_firstTwoAlike_16 0 0 rfl rfl rfl ?_
          refine G.n_ge X (a := s_th S) (b := s_th S) (by omega) (by omega) dX5_firstTwoAlike_19 (fun h19 => ?_) (fun h19 => absurd h19 (by omega))
          refine G.iinc X dX5_firstTwoAlike_48 1 rfl (v' := nI (k + 1)) (nI_inc k) (by decide) (lv' := [(1, .int (nI (k + 1))), (2, .int (nI (s_th S))), (0, .ref (a 0))]) rfl ?_
          refine G.go X dX5_firstTwoAlike_51 ?_
          refine G.lvsub [0, 2] (lv' := [(1, .int (nI (k + 1))), (0, .ref (a 0))]) rfl ?_
          exact ih2 (lt_snoc hinv2 (fi_none (fun j hj => hinv14.2 j hj)))
        · intro j hj ih14 hinv14
          refine G.il X dX5_firstTwoAlike_14 0 rfl ?_
          refine G.al X dX5_firstTwoAlike_15 2 rfl ?_
          refine G.get X fX5_15 dX5_firstTwoAlike_16 0 0 rfl rfl rfl ?_
          refine G.n_ge X (a := j) (b := s_th S) (by omega) (by omega) dX5_firstTwoAlike_19 (fun h19 => absurd h19 (by omega)) (fun h19 => ?_)
          refine G.al X dX5_firstTwoAlike_22 2 rfl ?_
          refine G.il X dX5_firstTwoAlike_23 1 rfl ?_
          refine G.cvi X kX5_topicOf lX5_84 dX5_firstTwoAlike_24 (tX5_topicOf l D cI cW a S k (by omega)) ⟨Nat.le_of_ble_eq_true rfl, Nat.le_of_ble_eq_true rfl⟩ ⟨Nat.zero_le _, Nat.zero_le _⟩ [0] rfl ⟨rfl, rfl⟩ rfl rfl 0 0 rfl rfl rfl rfl (Nat.le_of_ble_eq_true rfl) (ff_cons (wl_fst _ _ _ _) (ff_nil)) (ws' := [wl a cI S]) rfl ?_
          refine G.al X dX5_firstTwoAlike_27 2 rfl ?_
          refine G.il X dX5_firstTwoAlike_28 0 rfl ?_
          refine G.cvi X kX5_topicOf lX5_84 dX5_firstTwoAlike_29 (tX5_topicOf l D cI cW a S j (by omega)) ⟨Nat.le_of_ble_eq_true rfl, Nat.le_of_ble_eq_true rfl⟩ ⟨Nat.zero_le _, Nat.zero_le _⟩ [0] rfl ⟨rfl, rfl⟩ rfl rfl 0 0 rfl rfl rfl rfl (Nat.le_of_ble_eq_true rfl) (ff_cons (wl_fst _ _ _ _) (ff_nil)) (ws' := [wl a cI S]) rfl ?_
          refine G.c_ne X (a := (top S k)) (b := (top S j)) dX5_firstTwoAlike_32 (fun h32 => ?_) (fun h32 => ?_)
          · refine G.iinc X dX5_firstTwoAlike_42 0 rfl (v' := nI (j + 1)) (nI_inc j) (by decide) (lv' := [(2, .int (nI (j + 1))), (1, .int (nI k)), (0, .ref (a 0))]) rfl ?_
            refine G.go X dX5_firstTwoAlike_45 ?_
            exact ih14 ⟨by omega, lt_snoc hinv14.2 (by simp [w_p2, h19, h32])⟩
          · refine G.pu X dX5_firstTwoAlike_35 ?_
            refine G.il X dX5_firstTwoAlike_37 1 rfl ?_
            refine G.imul X dX5_firstTwoAlike_38 ?_
            refine G.il X dX5_firstTwoAlike_39 0 rfl ?_
            refine G.iadd X dX5_firstTwoAlike_40 ?_
            exact G.iret X Rr (v := ((10 * (nI k)) + (nI j))) dX5_firstTwoAlike_41 (pi_mk (by have e1 : w_f2 S k = some j := fi_hit hinv14.2 (by simp [w_p2, hinv14.1, h32]) hj; have e2 : fi (fun i => (w_f2 S i).isSome) (s_th S) = some k := fi_hit (fun i hi => by simp [hinv2 i hi]) (by simp [e1]) hk; simp [w_ft, e1, e2]) (by rfl))
      have L14 := L14 (k + 1) (by omega) ⟨by omega, fun i hi => by simp [w_p2, show ¬ k < i by omega]⟩
      exact L14
  have L2 := L2 0 (Nat.zero_le _) (fun i hi => absurd hi (by omega))
  exact L2

set_option maxRecDepth 20000 in
theorem tX3_after (l : Launch) (D : va_G) (cI cW : ClassId) (o : Nat → Nat) (b : Nat → Nat) (q : FN) (T : WS) (a : Nat → Nat) (S : WS) (n : Nat) (hS : Ok S) (hn : n < 2 ^ 31) : CT l D cI cW yX3_after cX3_after 4 (some (.object "ComesUpAsAQuestion$Well")) ⟨3, 0, 0, 81⟩ [.ref (o 0), .ref (a 0), .int (nI n)] ([ol o b cI q, wl b cI T, wl a cI S]) (PR (b 0) ([ol o b cI q, wl b cI (w_dayN S n), wl a cI S])) := by
  refine CT.of RX3 rfl (by decide +kernel) (Nat.le_of_ble_eq_true rfl) [(0, .ref (o 0)), (1, .ref (a 0)), (2, .int (nI n))] rfl (fun x X Rr hnm => ?_)
  have hth := hS.th
  have hpe := hS.pe
  refine G.al X dX3_after_0 0 rfl ?_
  refine G.get X fX3_12 dX3_after_1 0 0 rfl rfl rfl ?_
  refine G.al X dX3_after_4 1 rfl ?_
  refine G.cvv X kX5_becomes lX3_22 dX3_after_5 (tX5_becomes l D cI cW b T a S) ⟨Nat.le_of_ble_eq_true rfl, Nat.le_of_ble_eq_true rfl⟩ ⟨Nat.zero_le _, Nat.zero_le _⟩ [1, 2] rfl ⟨rfl, rfl⟩ rfl rfl 1 0 rfl rfl rfl rfl (Nat.le_of_ble_eq_true rfl) (ff_cons (wl_fst _ _ _ _) (ff_cons (wl_fst _ _ _ _) (ff_nil))) (ws' := [ol o b cI q, wl b cI S, wl a cI S]) rfl ?_
  refine G.pu X dX3_after_8 ?_
  refine G.is X dX3_after_9 (by decide) (lv' := [(3, .int 0), (0, .ref (o 0)), (1, .ref (a 0)), (2, .int (nI n))]) rfl ?_
  have L10 : ∀ k, k ≤ n → G x 0 0 ([ol o b cI q, wl b cI (w_dayN S k), wl a cI S]) 10 [(3, .int (nI k)), (0, .ref (o 0)), (1, .ref (a 0)), (2, .int (nI n))] [] := by
    refine loop_dn n _ ?_ ?_
    · refine G.il X dX3_after_10 0 rfl ?_
      refine G.il X dX3_after_11 3 rfl ?_
      refine G.n_ge X (a := n) (b := n) (by omega) (by omega) dX3_after_12 (fun h12 => ?_) (fun h12 => absurd h12 (by omega))
      refine G.al X dX3_after_29 1 rfl ?_
      refine G.get X fX3_12 dX3_after_30 0 0 rfl rfl rfl ?_
      exact G.aret X Rr dX3_after_33 (pr_mk (by rfl) (by rfl))
    · intro k hk ih10
      have hT : Ok (w_dayN S k) := ok_dayN hS k
      have f1 : s_th (w_dayN S k) = s_th S := (fr_dayN S k).2.1
      refine G.il X dX3_after_10 0 rfl ?_
      refine G.il X dX3_after_11 3 rfl ?_
      refine G.n_ge X (a := k) (b := n) (by omega) (by omega) dX3_after_12 (fun h12 => absurd h12 (by omega)) (fun h12 => ?_)
      refine G.al X dX3_after_15 1 rfl ?_
      refine G.get X fX3_12 dX3_after_16 0 0 rfl rfl rfl ?_
      refine G.pu X dX3_after_19 ?_
      refine G.cvv X kX5_passDay lX3_26 dX3_after_20 (tX5_passDay l D cI cW b (w_dayN S k) hT) ⟨Nat.le_of_ble_eq_true rfl, Nat.le_of_ble_eq_true rfl⟩ ⟨Nat.zero_le _, Nat.zero_le _⟩ [1] rfl ⟨rfl, rfl⟩ rfl rfl 1 0 rfl rfl rfl rfl (Nat.le_of_ble_eq_true rfl) (ff_cons (wl_fst _ _ _ _) (ff_nil)) (ws' := [ol o b cI q, wl b cI (w_day true (w_dayN S k)), wl a cI S]) rfl ?_
      refine G.iinc X dX3_after_23 0 rfl (v' := nI (k + 1)) (nI_inc k) (by decide) (lv' := [(3, .int (nI (k + 1))), (0, .ref (o 0)), (1, .ref (a 0)), (2, .int (nI n))]) rfl ?_
      refine G.go X dX3_after_26 ?_
      exact ih10
  have L10 := L10 0 (Nat.zero_le _)
  exact L10

set_option maxRecDepth 20000 in
theorem tX3_quietAfter (l : Launch) (D : va_G) (cI cW : ClassId) (o : Nat → Nat) (b : Nat → Nat) (q : FN) (T : WS) (a : Nat → Nat) (S : WS) (t : Nat) (hS : Ok S) (ht : t < 9) : CT l D cI cW yX3_quietAfter cX3_quietAfter 4 (some .int) ⟨3, 0, 0, 81⟩ [.ref (o 0), .ref (a 0), .int (nI t)] ([ol o b cI q, wl b cI T, wl a cI S]) (PIE (o2i (fi (w_qz S t) 100)) (fun T9 : WS => [ol o b cI q, wl b cI T9, wl a cI S])) := by
  refine CT.of RX3 rfl (by decide +kernel) (Nat.le_of_ble_eq_true rfl) [(0, .ref (o 0)), (1, .ref (a 0)), (2, .int (nI t))] rfl (fun x X Rr hnm => ?_)
  have hth := hS.th
  have hpe := hS.pe
  refine G.al X dX3_quietAfter_0 0 rfl ?_
  refine G.get X fX3_12 dX3_quietAfter_1 0 0 rfl rfl rfl ?_
  refine G.al X dX3_quietAfter_4 1 rfl ?_
  refine G.cvv X kX5_becomes lX3_22 dX3_quietAfter_5 (tX5_becomes l D cI cW b T a S) ⟨Nat.le_of_ble_eq_true rfl, Nat.le_of_ble_eq_true rfl⟩ ⟨Nat.zero_le _, Nat.zero_le _⟩ [1, 2] rfl ⟨rfl, rfl⟩ rfl rfl 1 0 rfl rfl rfl rfl (Nat.le_of_ble_eq_true rfl) (ff_cons (wl_fst _ _ _ _) (ff_cons (wl_fst _ _ _ _) (ff_nil))) (ws' := [ol o b cI q, wl b cI S, wl a cI S]) rfl ?_
  refine G.pu X dX3_quietAfter_8 ?_
  refine G.is X dX3_quietAfter_9 (by decide) (lv' := [(3, .int 0), (0, .ref (o 0)), (1, .ref (a 0)), (2, .int (nI t))]) rfl ?_
  have L10 : ∀ k, k ≤ 100 → (∀ j, j < k → (w_qz S t) j = false) → G x 0 0 ([ol o b cI q, wl b cI (w_dayN S k), wl a cI S]) 10 [(3, .int (nI k)), (0, .ref (o 0)), (1, .ref (a 0)), (2, .int (nI t))] [] := by
    refine loop_dn 100 _ ?_ ?_
    · intro hinv10
      refine G.il X dX3_quietAfter_10 0 rfl ?_
      refine G.pu X dX3_quietAfter_11 ?_
      refine G.n_gt X (a := 100) (b := 99) (by omega) (by omega) dX3_quietAfter_13 (fun h13 => ?_) (fun h13 => absurd h13 (by omega))
      refine G.pu X dX3_quietAfter_44 ?_
      exact G.iret X Rr (v := (-9)) dX3_quietAfter_46 (pie_mk (w_dayN S 100) (by rw [fi_none (P := w_qz S t) hinv10]; rfl) (by rfl))
    · intro k hk ih10 hinv10
      have hT : Ok (w_dayN S k) := ok_dayN hS k
      have f1 : s_th (w_dayN S k) = s_th S := (fr_dayN S k).2.1
      refine G.il X dX3_quietAfter_10 0 rfl ?_
      refine G.pu X dX3_quietAfter_11 ?_
      refine G.n_gt X (a := k) (b := 99) (by omega) (by omega) dX3_quietAfter_13 (fun h13 => absurd h13 (by omega)) (fun h13 => ?_)
      refine G.al X dX3_quietAfter_16 1 rfl ?_
      refine G.get X fX3_12 dX3_quietAfter_17 0 0 rfl rfl rfl ?_
      refine G.get X fX3_30 dX3_quietAfter_20 1 0 rfl rfl rfl ?_
      refine G.il X dX3_quietAfter_23 3 rfl ?_
      refine G.nld X (i := t) dX3_quietAfter_24 1 8 rfl rfl (by omega) (by decide) ?_
      refine G.z_ne X (a := ((s_le (w_dayN S k)) t)) dX3_quietAfter_25 (fun h25 => ?_) (fun h25 => ?_)
      · refine G.al X dX3_quietAfter_30 1 rfl ?_
        refine G.get X fX3_12 dX3_quietAfter_31 0 0 rfl rfl rfl ?_
        refine G.pu X dX3_quietAfter_34 ?_
        refine G.cvv X kX5_passDay lX3_26 dX3_quietAfter_35 (tX5_passDay l D cI cW b (w_dayN S k) hT) ⟨Nat.le_of_ble_eq_true rfl, Nat.le_of_ble_eq_true rfl⟩ ⟨Nat.zero_le _, Nat.zero_le _⟩ [1] rfl ⟨rfl, rfl⟩ rfl rfl 1 0 rfl rfl rfl rfl (Nat.le_of_ble_eq_true rfl) (ff_cons (wl_fst _ _ _ _) (ff_nil)) (ws' := [ol o b cI q, wl b cI (w_day true (w_dayN S k)), wl a cI S]) rfl ?_
        refine G.iinc X dX3_quietAfter_38 0 rfl (v' := nI (k + 1)) (nI_inc k) (by decide) (lv' := [(3, .int (nI (k + 1))), (0, .ref (o 0)), (1, .ref (a 0)), (2, .int (nI t))]) rfl ?_
        refine G.go X dX3_quietAfter_41 ?_
        exact ih10 (lt_snoc hinv10 (by simp [w_qz, h13, h25]))
      · refine G.il X dX3_quietAfter_28 0 rfl ?_
        exact G.iret X Rr (v := nI k) dX3_quietAfter_29 (pie_mk (w_dayN S k) (by rw [fi_hit (P := w_qz S t) hinv10 (by simp [w_qz, h13, h25]) hk]; rfl) (by rfl))
  have L10 := L10 0 (Nat.zero_le _) (fun j hj => absurd hj (by omega))
  exact L10

set_option maxRecDepth 20000 in
theorem tX3_waterAfter (l : Launch) (D : va_G) (cI cW : ClassId) (o : Nat → Nat) (b : Nat → Nat) (q : FN) (T : WS) (a : Nat → Nat) (S : WS) (v : Bool) (hS : Ok S) : CT l D cI cW yX3_waterAfter cX3_waterAfter 4 (some .int) ⟨3, 0, 0, 81⟩ [.ref (o 0), .ref (a 0), .int (b2i v)] ([ol o b cI q, wl b cI T, wl a cI S]) (PIE (o2i (fi (fun d => w_wat (w_dayN S d) == v) 100)) (fun T9 : WS => [ol o b cI q, wl b cI T9, wl a cI S])) := by
  refine CT.of RX3 rfl (by decide +kernel) (Nat.le_of_ble_eq_true rfl) [(0, .ref (o 0)), (1, .ref (a 0)), (2, .int (b2i v))] rfl (fun x X Rr hnm => ?_)
  have hth := hS.th
  have hpe := hS.pe
  refine G.al X dX3_waterAfter_0 0 rfl ?_
  refine G.get X fX3_12 dX3_waterAfter_1 0 0 rfl rfl rfl ?_
  refine G.al X dX3_waterAfter_4 1 rfl ?_
  refine G.cvv X kX5_becomes lX3_22 dX3_waterAfter_5 (tX5_becomes l D cI cW b T a S) ⟨Nat.le_of_ble_eq_true rfl, Nat.le_of_ble_eq_true rfl⟩ ⟨Nat.zero_le _, Nat.zero_le _⟩ [1, 2] rfl ⟨rfl, rfl⟩ rfl rfl 1 0 rfl rfl rfl rfl (Nat.le_of_ble_eq_true rfl) (ff_cons (wl_fst _ _ _ _) (ff_cons (wl_fst _ _ _ _) (ff_nil))) (ws' := [ol o b cI q, wl b cI S, wl a cI S]) rfl ?_
  refine G.pu X dX3_waterAfter_8 ?_
  refine G.is X dX3_waterAfter_9 (by decide) (lv' := [(3, .int 0), (0, .ref (o 0)), (1, .ref (a 0)), (2, .int (b2i v))]) rfl ?_
  have L10 : ∀ k, k ≤ 100 → (∀ j, j < k → (fun d => w_wat (w_dayN S d) == v) j = false) → G x 0 0 ([ol o b cI q, wl b cI (w_dayN S k), wl a cI S]) 10 [(3, .int (nI k)), (0, .ref (o 0)), (1, .ref (a 0)), (2, .int (b2i v))] [] := by
    refine loop_dn 100 _ ?_ ?_
    · intro hinv10
      refine G.il X dX3_waterAfter_10 0 rfl ?_
      refine G.pu X dX3_waterAfter_11 ?_
      refine G.n_gt X (a := 100) (b := 99) (by omega) (by omega) dX3_waterAfter_13 (fun h13 => ?_) (fun h13 => absurd h13 (by omega))
      refine G.pu X dX3_waterAfter_43 ?_
      exact G.iret X Rr (v := (-9)) dX3_waterAfter_45 (pie_mk (w_dayN S 100) (by rw [fi_none (P := fun d => w_wat (w_dayN S d) == v) hinv10]; rfl) (by rfl))
    · intro k hk ih10 hinv10
      have hT : Ok (w_dayN S k) := ok_dayN hS k
      have f1 : s_th (w_dayN S k) = s_th S := (fr_dayN S k).2.1
      refine G.il X dX3_waterAfter_10 0 rfl ?_
      refine G.pu X dX3_waterAfter_11 ?_
      refine G.n_gt X (a := k) (b := 99) (by omega) (by omega) dX3_waterAfter_13 (fun h13 => absurd h13 (by omega)) (fun h13 => ?_)
      refine G.al X dX3_waterAfter_16 1 rfl ?_
      refine G.get X fX3_12 dX3_waterAfter_17 0 0 rfl rfl rfl ?_
      refine G.cvi X kX5_hasWater lX3_33 dX3_waterAfter_20 (tX5_hasWater l D cI cW b (w_dayN S k) hT.th) ⟨Nat.le_of_ble_eq_true rfl, Nat.le_of_ble_eq_true rfl⟩ ⟨Nat.zero_le _, Nat.zero_le _⟩ [1] rfl ⟨rfl, rfl⟩ rfl rfl 1 0 rfl rfl rfl rfl (Nat.le_of_ble_eq_true rfl) (ff_cons (wl_fst _ _ _ _) (ff_nil)) (ws' := [ol o b cI q, wl b cI (w_dayN S k), wl a cI S]) rfl ?_
      refine G.il X dX3_waterAfter_23 3 rfl ?_
      refine G.c_ne X (a := b2i (w_wat (w_dayN S k))) (b := b2i v) dX3_waterAfter_24 (fun h24 => ?_) (fun h24 => ?_)
      · refine G.al X dX3_waterAfter_29 1 rfl ?_
        refine G.get X fX3_12 dX3_waterAfter_30 0 0 rfl rfl rfl ?_
        refine G.pu X dX3_waterAfter_33 ?_
        refine G.cvv X kX5_passDay lX3_26 dX3_waterAfter_34 (tX5_passDay l D cI cW b (w_dayN S k) hT) ⟨Nat.le_of_ble_eq_true rfl, Nat.le_of_ble_eq_true rfl⟩ ⟨Nat.zero_le _, Nat.zero_le _⟩ [1] rfl ⟨rfl, rfl⟩ rfl rfl 1 0 rfl rfl rfl rfl (Nat.le_of_ble_eq_true rfl) (ff_cons (wl_fst _ _ _ _) (ff_nil)) (ws' := [ol o b cI q, wl b cI (w_day true (w_dayN S k)), wl a cI S]) rfl ?_
        refine G.iinc X dX3_waterAfter_37 0 rfl (v' := nI (k + 1)) (nI_inc k) (by decide) (lv' := [(3, .int (nI (k + 1))), (0, .ref (o 0)), (1, .ref (a 0)), (2, .int (b2i v))]) rfl ?_
        refine G.go X dX3_waterAfter_40 ?_
        exact ih10 (lt_snoc hinv10 (b2i_ne h24))
      · refine G.il X dX3_waterAfter_27 0 rfl ?_
        exact G.iret X Rr (v := nI k) dX3_waterAfter_28 (pie_mk (w_dayN S k) (by rw [fi_hit (P := fun d => w_wat (w_dayN S d) == v) hinv10 (by exact b2i_eq h24) hk]; rfl) (by rfl))
  have L10 := L10 0 (Nat.zero_le _) (fun j hj => absurd hj (by omega))
  exact L10

set_option maxRecDepth 20000 in
theorem tX3_allQuietAfter (l : Launch) (D : va_G) (cI cW : ClassId) (o : Nat → Nat) (b : Nat → Nat) (q : FN) (T : WS) (a : Nat → Nat) (S : WS) (hS : Ok S) : CT l D cI cW yX3_allQuietAfter cX3_allQuietAfter 3 (some .int) ⟨3, 0, 0, 81⟩ [.ref (o 0), .ref (a 0)] ([ol o b cI q, wl b cI T, wl a cI S]) (PIE (o2i (fi (fun d => decide (sumf (s_le (w_dayN S d)) (s_th (w_dayN S d)) = 0)) 100)) (fun T9 : WS => [ol o b cI q, wl b cI T9, wl a cI S])) := by
  refine CT.of RX3 rfl (by decide +kernel) (Nat.le_of_ble_eq_true rfl) [(0, .ref (o 0)), (1, .ref (a 0))] rfl (fun x X Rr hnm => ?_)
  have hth := hS.th
  have hpe := hS.pe
  refine G.al X dX3_allQuietAfter_0 0 rfl ?_
  refine G.get X fX3_12 dX3_allQuietAfter_1 0 0 rfl rfl rfl ?_
  refine G.al X dX3_allQuietAfter_4 1 rfl ?_
  refine G.cvv X kX5_becomes lX3_22 dX3_allQuietAfter_5 (tX5_becomes l D cI cW b T a S) ⟨Nat.le_of_ble_eq_true rfl, Nat.le_of_ble_eq_true rfl⟩ ⟨Nat.zero_le _, Nat.zero_le _⟩ [1, 2] rfl ⟨rfl, rfl⟩ rfl rfl 1 0 rfl rfl rfl rfl (Nat.le_of_ble_eq_true rfl) (ff_cons (wl_fst _ _ _ _) (ff_cons (wl_fst _ _ _ _) (ff_nil))) (ws' := [ol o b cI q, wl b cI S, wl a cI S]) rfl ?_
  refine G.pu X dX3_allQuietAfter_8 ?_
  refine G.is X dX3_allQuietAfter_9 (by decide) (lv' := [(2, .int 0), (0, .ref (o 0)), (1, .ref (a 0))]) rfl ?_
  have L10 : ∀ k, k ≤ 100 → (∀ j, j < k → (fun d => decide (sumf (s_le (w_dayN S d)) (s_th (w_dayN S d)) = 0)) j = false) → G x 0 0 ([ol o b cI q, wl b cI (w_dayN S k), wl a cI S]) 10 [(2, .int (nI k)), (0, .ref (o 0)), (1, .ref (a 0))] [] := by
    refine loop_dn 100 _ ?_ ?_
    · intro hinv10
      refine G.il X dX3_allQuietAfter_10 0 rfl ?_
      refine G.pu X dX3_allQuietAfter_11 ?_
      refine G.n_gt X (a := 100) (b := 99) (by omega) (by omega) dX3_allQuietAfter_13 (fun h13 => ?_) (fun h13 => absurd h13 (by omega))
      refine G.pu X dX3_allQuietAfter_42 ?_
      exact G.iret X Rr (v := (-9)) dX3_allQuietAfter_44 (pie_mk (w_dayN S 100) (by rw [fi_none (P := fun d => decide (sumf (s_le (w_dayN S d)) (s_th (w_dayN S d)) = 0)) hinv10]; rfl) (by rfl))
    · intro k hk ih10 hinv10
      have hT : Ok (w_dayN S k) := ok_dayN hS k
      have f1 : s_th (w_dayN S k) = s_th S := (fr_dayN S k).2.1
      refine G.il X dX3_allQuietAfter_10 0 rfl ?_
      refine G.pu X dX3_allQuietAfter_11 ?_
      refine G.n_gt X (a := k) (b := 99) (by omega) (by omega) dX3_allQuietAfter_13 (fun h13 => absurd h13 (by omega)) (fun h13 => ?_)
      refine G.al X dX3_allQuietAfter_16 1 rfl ?_
      refine G.get X fX3_12 dX3_allQuietAfter_17 0 0 rfl rfl rfl ?_
      refine G.cvi X kX5_leftOfAll lX3_37 dX3_allQuietAfter_20 (tX5_leftOfAll l D cI cW b (w_dayN S k) hT.th) ⟨Nat.le_of_ble_eq_true rfl, Nat.le_of_ble_eq_true rfl⟩ ⟨Nat.zero_le _, Nat.zero_le _⟩ [1] rfl ⟨rfl, rfl⟩ rfl rfl 1 0 rfl rfl rfl rfl (Nat.le_of_ble_eq_true rfl) (ff_cons (wl_fst _ _ _ _) (ff_nil)) (ws' := [ol o b cI q, wl b cI (w_dayN S k), wl a cI S]) rfl ?_
      refine G.z_ne X (a := (sumf (s_le (w_dayN S k)) (s_th (w_dayN S k)))) dX3_allQuietAfter_23 (fun h23 => ?_) (fun h23 => ?_)
      · refine G.al X dX3_allQuietAfter_28 1 rfl ?_
        refine G.get X fX3_12 dX3_allQuietAfter_29 0 0 rfl rfl rfl ?_
        refine G.pu X dX3_allQuietAfter_32 ?_
        refine G.cvv X kX5_passDay lX3_26 dX3_allQuietAfter_33 (tX5_passDay l D cI cW b (w_dayN S k) hT) ⟨Nat.le_of_ble_eq_true rfl, Nat.le_of_ble_eq_true rfl⟩ ⟨Nat.zero_le _, Nat.zero_le _⟩ [1] rfl ⟨rfl, rfl⟩ rfl rfl 1 0 rfl rfl rfl rfl (Nat.le_of_ble_eq_true rfl) (ff_cons (wl_fst _ _ _ _) (ff_nil)) (ws' := [ol o b cI q, wl b cI (w_day true (w_dayN S k)), wl a cI S]) rfl ?_
        refine G.iinc X dX3_allQuietAfter_36 0 rfl (v' := nI (k + 1)) (nI_inc k) (by decide) (lv' := [(2, .int (nI (k + 1))), (0, .ref (o 0)), (1, .ref (a 0))]) rfl ?_
        refine G.go X dX3_allQuietAfter_39 ?_
        exact ih10 (lt_snoc hinv10 (by simp [h13, h23]))
      · refine G.il X dX3_allQuietAfter_26 0 rfl ?_
        exact G.iret X Rr (v := nI k) dX3_allQuietAfter_27 (pie_mk (w_dayN S k) (by rw [fi_hit (P := fun d => decide (sumf (s_le (w_dayN S d)) (s_th (w_dayN S d)) = 0)) hinv10 (by simp [h13, h23]) hk]; rfl) (by rfl))
  have L10 := L10 0 (Nat.zero_le _) (fun j hj => absurd hj (by omega))
  exact L10

set_option maxRecDepth 20000 in
theorem tX3_findQuiets (l : Launch) (D : va_G) (cI cW : ClassId) (o : Nat → Nat) (b : Nat → Nat) (q : FN) (T : WS) (a : Nat → Nat) (S : WS) (hS : Ok S) : CT l D cI cW yX3_findQuiets cX3_findQuiets 4 none ⟨3, 0, 0, 81⟩ [.ref (o 0), .ref (a 0)] ([ol o b cI q, wl b cI T, wl a cI S]) (PVE (fun T9 : WS => [ol o b cI (w_q0 S 100), wl b cI T9, wl a cI S])) := by
  refine CT.of RX3 rfl (by decide +kernel) (Nat.le_of_ble_eq_true rfl) [(0, .ref (o 0)), (1, .ref (a 0))] rfl (fun x X Rr hnm => ?_)
  have hth := hS.th
  have hpe := hS.pe
  refine G.pu X dX3_findQuiets_0 ?_
  refine G.is X dX3_findQuiets_1 (by decide) (lv' := [(2, .int 0), (0, .ref (o 0)), (1, .ref (a 0))]) rfl ?_
  have L2 : ∀ k, k ≤ 9 → G x 0 0 ([ol o b cI (fun j => if j < k then 100 else q j), wl b cI T, wl a cI S]) 2 [(2, .int (nI k)), (0, .ref (o 0)), (1, .ref (a 0))] [] := by
    refine loop_dn 9 _ ?_ ?_
    · refine G.il X dX3_findQuiets_2 0 rfl ?_
      refine G.pu X dX3_findQuiets_3 ?_
      refine G.n_ge X (a := 9) (b := 9) (by omega) (by omega) dX3_findQuiets_5 (fun h5 => ?_) (fun h5 => absurd h5 (by omega))
      refine G.canon 0 1 rfl rfl (g := w_q0 S 0) (fun j hj => by simp [w_q0, w_qd, fi, hj]) (blk' := ol o b cI (w_q0 S 0)) rfl (ws' := [ol o b cI (w_q0 S 0), wl b cI T, wl a cI S]) rfl ?_
      refine G.al X dX3_findQuiets_22 1 rfl ?_
      refine G.get X fX3_12 dX3_findQuiets_23 0 0 rfl rfl rfl ?_
      refine G.al X dX3_findQuiets_26 2 rfl ?_
      refine G.cvv X kX5_becomes lX3_22 dX3_findQuiets_27 (tX5_becomes l D cI cW b T a S) ⟨Nat.le_of_ble_eq_true rfl, Nat.le_of_ble_eq_true rfl⟩ ⟨Nat.zero_le _, Nat.zero_le _⟩ [1, 2] rfl ⟨rfl, rfl⟩ rfl rfl 1 0 rfl rfl rfl rfl (Nat.le_of_ble_eq_true rfl) (ff_cons (wl_fst _ _ _ _) (ff_cons (wl_fst _ _ _ _) (ff_nil))) (ws' := [ol o b cI (w_q0 S 0), wl b cI S, wl a cI S]) rfl ?_
      refine G.pu X dX3_findQuiets_30 ?_
      refine G.is X dX3_findQuiets_31 (by decide) (lv' := [(2, .int 0), (0, .ref (o 0)), (1, .ref (a 0))]) rfl ?_
      have L32 : ∀ d, d ≤ 100 → G x 0 0 ([ol o b cI (w_q0 S d), wl b cI (w_dayN S d), wl a cI S]) 32 [(2, .int (nI d)), (0, .ref (o 0)), (1, .ref (a 0))] [] := by
        refine loop_dn 100 _ ?_ ?_
        · refine G.il X dX3_findQuiets_32 0 rfl ?_
          refine G.pu X dX3_findQuiets_33 ?_
          refine G.n_gt X (a := 100) (b := 99) (by omega) (by omega) dX3_findQuiets_35 (fun h35 => ?_) (fun h35 => absurd h35 (by omega))
          exact G.vret X Rr dX3_findQuiets_100 (pve_mk (w_dayN S 100) (by rfl))
        · intro d hd ih32
          have hT : Ok (w_dayN S d) := ok_dayN hS d
          have f1 : s_th (w_dayN S d) = s_th S := (fr_dayN S d).2.1
          refine G.il X dX3_findQuiets_32 0 rfl ?_
          refine G.pu X dX3_findQuiets_33 ?_
          refine G.n_gt X (a := d) (b := 99) (by omega) (by omega) dX3_findQuiets_35 (fun h35 => absurd h35 (by omega)) (fun h35 => ?_)
          refine G.pu X dX3_findQuiets_38 ?_
          refine G.is X dX3_findQuiets_39 (by decide) (lv' := [(3, .int 0), (2, .int (nI d)), (0, .ref (o 0)), (1, .ref (a 0))]) rfl ?_
          have L40 : ∀ i, i ≤ s_th S → G x 0 0 ([ol o b cI (w_q1 S d i), wl b cI (w_dayN S d), wl a cI S]) 40 [(3, .int (nI i)), (2, .int (nI d)), (0, .ref (o 0)), (1, .ref (a 0))] [] := by
            refine loop_dn (s_th S) _ ?_ ?_
            · rw [w_q1_th]
              refine G.il X dX3_findQuiets_40 0 rfl ?_
              refine G.al X dX3_findQuiets_41 2 rfl ?_
              refine G.get X fX3_12 dX3_findQuiets_42 0 0 rfl rfl rfl ?_
              refine G.get X fX3_44 dX3_findQuiets_45 1 0 rfl rfl rfl ?_
              refine G.n_ge X (a := s_th S) (b := s_th (w_dayN S d)) (by omega) (by omega) dX3_findQuiets_48 (fun h48 => ?_) (fun h48 => absurd h48 (by omega))
              refine G.al X dX3_findQuiets_86 2 rfl ?_
              refine G.get X fX3_12 dX3_findQuiets_87 0 0 rfl rfl rfl ?_
              refine G.pu X dX3_findQuiets_90 ?_
              refine G.cvv X kX5_passDay lX3_26 dX3_findQuiets_91 (tX5_passDay l D cI cW b (w_dayN S d) hT) ⟨Nat.le_of_ble_eq_true rfl, Nat.le_of_ble_eq_true rfl⟩ ⟨Nat.zero_le _, Nat.zero_le _⟩ [1] rfl ⟨rfl, rfl⟩ rfl rfl 1 0 rfl rfl rfl rfl (Nat.le_of_ble_eq_true rfl) (ff_cons (wl_fst _ _ _ _) (ff_nil)) (ws' := [ol o b cI (w_q0 S (d + 1)), wl b cI (w_day true (w_dayN S d)), wl a cI S]) rfl ?_
              refine G.iinc X dX3_findQuiets_94 1 rfl (v' := nI (d + 1)) (nI_inc d) (by decide) (lv' := [(2, .int (nI (d + 1))), (3, .int (nI (s_th S))), (0, .ref (o 0)), (1, .ref (a 0))]) rfl ?_
              refine G.go X dX3_findQuiets_97 ?_
              refine G.lvsub [0, 2, 3] (lv' := [(2, .int (nI (d + 1))), (0, .ref (o 0)), (1, .ref (a 0))]) rfl ?_
              exact ih32
            · intro i hi ih40
              refine G.il X dX3_findQuiets_40 0 rfl ?_
              refine G.al X dX3_findQuiets_41 2 rfl ?_
              refine G.get X fX3_12 dX3_findQuiets_42 0 0 rfl rfl rfl ?_
              refine G.get X fX3_44 dX3_findQuiets_45 1 0 rfl rfl rfl ?_
              refine G.n_ge X (a := i) (b := s_th (w_dayN S d)) (by omega) (by omega) dX3_findQuiets_48 (fun h48 => absurd h48 (by omega)) (fun h48 => ?_)
              refine G.al X dX3_findQuiets_51 2 rfl ?_
              refine G.get X fX3_12 dX3_findQuiets_52 0 0 rfl rfl rfl ?_
              refine G.get X fX3_30 dX3_findQuiets_55 1 0 rfl rfl rfl ?_
              refine G.il X dX3_findQuiets_58 0 rfl ?_
              refine G.nld X (i := i) dX3_findQuiets_59 1 8 rfl rfl (by omega) (by decide) ?_
              refine G.z_ne X (a := ((s_le (w_dayN S d)) i)) dX3_findQuiets_60 (fun h60 => ?_) (fun h60 => ?_)
              · refine G.iinc X dX3_findQuiets_80 0 rfl (v' := nI (i + 1)) (nI_inc i) (by decide) (lv' := [(3, .int (nI (i + 1))), (2, .int (nI d)), (0, .ref (o 0)), (1, .ref (a 0))]) rfl ?_
                refine G.go X dX3_findQuiets_83 ?_
                rw [show (w_q1 S d (i + 1)) = (w_q1 S d i) from (by exact w_q1_same S d i hi (w_qd_no S i d (by simp [w_qz, h60])))] at ih40
                exact ih40
              · refine G.al X dX3_findQuiets_63 2 rfl ?_
                refine G.get X fX3_18 dX3_findQuiets_64 0 0 rfl rfl rfl ?_
                refine G.il X dX3_findQuiets_67 0 rfl ?_
                refine G.nld X (i := i) dX3_findQuiets_68 0 1 rfl rfl (by omega) (by decide) ?_
                refine G.il X dX3_findQuiets_69 1 rfl ?_
                refine G.c_le X (a := ((w_q1 S d i) i)) (b := nI d) dX3_findQuiets_70 (fun h70 => ?_) (fun h70 => ?_)
                · refine G.iinc X dX3_findQuiets_80 0 rfl (v' := nI (i + 1)) (nI_inc i) (by decide) (lv' := [(3, .int (nI (i + 1))), (2, .int (nI d)), (0, .ref (o 0)), (1, .ref (a 0))]) rfl ?_
                  refine G.go X dX3_findQuiets_83 ?_
                  rw [show (w_q1 S d (i + 1)) = (w_q1 S d i) from (by exact w_q1_same S d i hi (w_qd_old S i d (by rw [← w_q1_at S d i hi]; exact h70) (by omega)))] at ih40
                  exact ih40
                · refine G.al X dX3_findQuiets_73 2 rfl ?_
                  refine G.get X fX3_18 dX3_findQuiets_74 0 0 rfl rfl rfl ?_
                  refine G.il X dX3_findQuiets_77 0 rfl ?_
                  refine G.il X dX3_findQuiets_78 1 rfl ?_
                  refine G.nst X (i := i) dX3_findQuiets_79 0 1 rfl rfl (by omega) (by decide) (blk' := ol o b cI (upd (w_q1 S d i) i (nI d))) rfl (ws' := [ol o b cI (upd (w_q1 S d i) i (nI d)), wl b cI (w_dayN S d), wl a cI S]) rfl ?_
                  refine G.iinc X dX3_findQuiets_80 0 rfl (v' := nI (i + 1)) (nI_inc i) (by decide) (lv' := [(3, .int (nI (i + 1))), (2, .int (nI d)), (0, .ref (o 0)), (1, .ref (a 0))]) rfl ?_
                  refine G.go X dX3_findQuiets_83 ?_
                  rw [show (w_q1 S d (i + 1)) = (upd (w_q1 S d i) i (nI d)) from (by exact w_q1_upd S d i hi (w_qd_new S i d (by rw [← w_q1_at S d i hi]; exact h70) (by omega) (by simp [w_qz, h60])))] at ih40
                  exact ih40
          have L40 := L40 0 (Nat.zero_le _)
          rw [show (w_q1 S d 0) = (w_q0 S d) from (by exact w_q1_0 S d)] at L40
          exact L40
      have L32 := L32 0 (Nat.zero_le _)
      exact L32
    · intro k hk ih2
      refine G.il X dX3_findQuiets_2 0 rfl ?_
      refine G.pu X dX3_findQuiets_3 ?_
      refine G.n_ge X (a := k) (b := 9) (by omega) (by omega) dX3_findQuiets_5 (fun h5 => absurd h5 (by omega)) (fun h5 => ?_)
      refine G.al X dX3_findQuiets_8 1 rfl ?_
      refine G.get X fX3_18 dX3_findQuiets_9 0 0 rfl rfl rfl ?_
      refine G.il X dX3_findQuiets_12 0 rfl ?_
      refine G.pu X dX3_findQuiets_13 ?_
      refine G.nst X (i := k) dX3_findQuiets_15 0 1 rfl rfl (by omega) (by decide) (blk' := ol o b cI (upd (fun j => if j < k then 100 else q j) k 100)) rfl (ws' := [ol o b cI (upd (fun j => if j < k then 100 else q j) k 100), wl b cI T, wl a cI S]) rfl ?_
      refine G.iinc X dX3_findQuiets_16 0 rfl (v' := nI (k + 1)) (nI_inc k) (by decide) (lv' := [(2, .int (nI (k + 1))), (0, .ref (o 0)), (1, .ref (a 0))]) rfl ?_
      refine G.go X dX3_findQuiets_19 ?_
      rw [show (fun j => if j < k + 1 then 100 else q j) = (upd (fun j => if j < k then 100 else q j) k 100) from (by (funext j; simp only [upd]; by_cases e : j = k <;> simp [e] <;> (by_cases e2 : j < k <;> simp [e2] <;> omega)))] at ih2
      exact ih2
  have L2 := L2 0 (Nat.zero_le _)
  rw [show (fun j => if j < 0 then 100 else q j) = q from (by (funext j; simp))] at L2
  exact L2

set_option maxRecDepth 20000 in
theorem tX3_inTheWay (l : Launch) (D : va_G) (cI cW : ClassId) (o : Nat → Nat) (b : Nat → Nat) (q : FN) (T : WS) (a : Nat → Nat) (S : WS) (hS : Ok S) : CT l D cI cW yX3_inTheWay cX3_inTheWay 5 (some .int) ⟨4, 0, 0, 104⟩ [.ref (o 0), .ref (a 0)] ([ol o b cI q, wl b cI T, wl a cI S]) (PIE ((bmax (ask S) (w_q0 S 100) (-9, -1) (s_th S)).1) (fun T9 : WS => [ol o b cI (w_q0 S 100), wl b cI T9, wl a cI S])) := by
  refine CT.of RX3 rfl (by decide +kernel) (Nat.le_of_ble_eq_true rfl) [(0, .ref (o 0)), (1, .ref (a 0))] rfl (fun x X Rr hnm => ?_)
  have hth := hS.th
  have hpe := hS.pe
  refine G.al X dX3_inTheWay_0 0 rfl ?_
  refine G.al X dX3_inTheWay_1 1 rfl ?_
  refine G.cvve X kX3_findQuiets lX3_41 dX3_inTheWay_2 (tX3_findQuiets l D cI cW o b q T a S hS) ⟨Nat.le_of_ble_eq_true rfl, Nat.le_of_ble_eq_true rfl⟩ ⟨Nat.zero_le _, Nat.zero_le _⟩ [0, 1, 2] rfl ⟨rfl, rfl⟩ rfl rfl 0 0 rfl rfl rfl rfl (Nat.le_of_ble_eq_true rfl) (fun _ => (ff_cons (ol_fst _ _ _ _ _) (ff_cons (wl_fst _ _ _ _) (ff_cons (wl_fst _ _ _ _) (ff_nil))))) (f8 := fun T9_2 : WS => [ol o b cI (w_q0 S 100), wl b cI T9_2, wl a cI S]) (fun _ => rfl) (fun T9_2 => ?_)
  refine G.pu X dX3_inTheWay_5 ?_
  refine G.is X dX3_inTheWay_7 (by decide) (lv' := [(2, .int (-9)), (0, .ref (o 0)), (1, .ref (a 0))]) rfl ?_
  refine G.pu X dX3_inTheWay_8 ?_
  refine G.is X dX3_inTheWay_9 (by decide) (lv' := [(3, .int (-1)), (2, .int (-9)), (0, .ref (o 0)), (1, .ref (a 0))]) rfl ?_
  refine G.pu X dX3_inTheWay_10 ?_
  refine G.is X dX3_inTheWay_11 (by decide) (lv' := [(4, .int 0), (3, .int (-1)), (2, .int (-9)), (0, .ref (o 0)), (1, .ref (a 0))]) rfl ?_
  have L13 : ∀ k, k ≤ s_th S → G x 0 0 ([ol o b cI (w_q0 S 100), wl b cI T9_2, wl a cI S]) 13 [(4, .int (nI k)), (3, .int ((bmax (ask S) (w_q0 S 100) (-9, -1) k).2)), (2, .int ((bmax (ask S) (w_q0 S 100) (-9, -1) k).1)), (0, .ref (o 0)), (1, .ref (a 0))] [] := by
    refine loop_dn (s_th S) _ ?_ ?_
    · refine G.il X dX3_inTheWay_13 0 rfl ?_
      refine G.al X dX3_inTheWay_15 4 rfl ?_
      refine G.get X fX3_44 dX3_inTheWay_16 2 0 rfl rfl rfl ?_
      refine G.n_ge X (a := s_th S) (b := s_th S) (by omega) (by omega) dX3_inTheWay_19 (fun h19 => ?_) (fun h19 => absurd h19 (by omega))
      refine G.il X dX3_inTheWay_59 2 rfl ?_
      exact G.iret X Rr (v := ((bmax (ask S) (w_q0 S 100) (-9, -1) (s_th S)).1)) dX3_inTheWay_60 (pie_mk (T9_2) (by rfl) (by rfl))
    · intro k hk ih13
      refine G.il X dX3_inTheWay_13 0 rfl ?_
      refine G.al X dX3_inTheWay_15 4 rfl ?_
      refine G.get X fX3_44 dX3_inTheWay_16 2 0 rfl rfl rfl ?_
      refine G.n_ge X (a := k) (b := s_th S) (by omega) (by omega) dX3_inTheWay_19 (fun h19 => absurd h19 (by omega)) (fun h19 => ?_)
      refine G.al X dX3_inTheWay_22 4 rfl ?_
      refine G.il X dX3_inTheWay_23 0 rfl ?_
      refine G.cvi X kX5_asks lX3_48 dX3_inTheWay_25 (tX5_asks l D cI cW a S k (by omega)) ⟨Nat.le_of_ble_eq_true rfl, Nat.le_of_ble_eq_true rfl⟩ ⟨Nat.zero_le _, Nat.zero_le _⟩ [2] rfl ⟨rfl, rfl⟩ rfl rfl 2 0 rfl rfl rfl rfl (Nat.le_of_ble_eq_true rfl) (ff_cons (wl_fst _ _ _ _) (ff_nil)) (ws' := [ol o b cI (w_q0 S 100), wl b cI T9_2, wl a cI S]) rfl ?_
      refine G.b_eq X dX3_inTheWay_28 (fun h28 => ?_) (fun h28 => ?_)
      · refine G.iinc X dX3_inTheWay_53 0 rfl (v' := nI (k + 1)) (nI_inc k) (by decide) (lv' := [(4, .int (nI (k + 1))), (3, .int ((bmax (ask S) (w_q0 S 100) (-9, -1) k).2)), (2, .int ((bmax (ask S) (w_q0 S 100) (-9, -1) k).1)), (0, .ref (o 0)), (1, .ref (a 0))]) rfl ?_
        refine G.go X dX3_inTheWay_56 ?_
        rw [show ((bmax (ask S) (w_q0 S 100) (-9, -1) (k + 1)).2) = ((bmax (ask S) (w_q0 S 100) (-9, -1) k).2) from (by simp [bmax, h19, h28])] at ih13
        rw [show ((bmax (ask S) (w_q0 S 100) (-9, -1) (k + 1)).1) = ((bmax (ask S) (w_q0 S 100) (-9, -1) k).1) from (by simp [bmax, h19, h28])] at ih13
        exact ih13
      · refine G.al X dX3_inTheWay_31 3 rfl ?_
        refine G.get X fX3_18 dX3_inTheWay_32 0 0 rfl rfl rfl ?_
        refine G.il X dX3_inTheWay_35 0 rfl ?_
        refine G.nld X (i := k) dX3_inTheWay_37 0 1 rfl rfl (by omega) (by decide) ?_
        refine G.il X dX3_inTheWay_38 1 rfl ?_
        refine G.c_le X (a := ((w_q0 S 100) k)) (b := ((bmax (ask S) (w_q0 S 100) (-9, -1) k).2)) dX3_inTheWay_39 (fun h39 => ?_) (fun h39 => ?_)
        · refine G.iinc X dX3_inTheWay_53 0 rfl (v' := nI (k + 1)) (nI_inc k) (by decide) (lv' := [(4, .int (nI (k + 1))), (3, .int ((bmax (ask S) (w_q0 S 100) (-9, -1) k).2)), (2, .int ((bmax (ask S) (w_q0 S 100) (-9, -1) k).1)), (0, .ref (o 0)), (1, .ref (a 0))]) rfl ?_
          refine G.go X dX3_inTheWay_56 ?_
          rw [show ((bmax (ask S) (w_q0 S 100) (-9, -1) (k + 1)).2) = ((bmax (ask S) (w_q0 S 100) (-9, -1) k).2) from (by simp [bmax, h19, h28, h39])] at ih13
          rw [show ((bmax (ask S) (w_q0 S 100) (-9, -1) (k + 1)).1) = ((bmax (ask S) (w_q0 S 100) (-9, -1) k).1) from (by simp [bmax, h19, h28, h39])] at ih13
          exact ih13
        · refine G.al X dX3_inTheWay_42 3 rfl ?_
          refine G.get X fX3_18 dX3_inTheWay_43 0 0 rfl rfl rfl ?_
          refine G.il X dX3_inTheWay_46 0 rfl ?_
          refine G.nld X (i := k) dX3_inTheWay_48 0 1 rfl rfl (by omega) (by decide) ?_
          refine G.is X dX3_inTheWay_49 (by decide) (lv' := [(3, .int ((w_q0 S 100) k)), (4, .int (nI k)), (2, .int ((bmax (ask S) (w_q0 S 100) (-9, -1) k).1)), (0, .ref (o 0)), (1, .ref (a 0))]) rfl ?_
          refine G.il X dX3_inTheWay_50 1 rfl ?_
          refine G.is X dX3_inTheWay_52 (by decide) (lv' := [(2, .int (nI k)), (3, .int ((w_q0 S 100) k)), (4, .int (nI k)), (0, .ref (o 0)), (1, .ref (a 0))]) rfl ?_
          refine G.iinc X dX3_inTheWay_53 2 rfl (v' := nI (k + 1)) (nI_inc k) (by decide) (lv' := [(4, .int (nI (k + 1))), (2, .int (nI k)), (3, .int ((w_q0 S 100) k)), (0, .ref (o 0)), (1, .ref (a 0))]) rfl ?_
          refine G.go X dX3_inTheWay_56 ?_
          rw [show ((bmax (ask S) (w_q0 S 100) (-9, -1) (k + 1)).2) = ((w_q0 S 100) k) from (by simp [bmax, h19, h28, h39])] at ih13
          rw [show ((bmax (ask S) (w_q0 S 100) (-9, -1) (k + 1)).1) = (nI k) from (by simp [bmax, h19, h28, h39])] at ih13
          refine G.lvsub [0, 2, 1, 3, 4] (lv' := [(4, .int (nI (k + 1))), (3, .int ((w_q0 S 100) k)), (2, .int (nI k)), (0, .ref (o 0)), (1, .ref (a 0))]) rfl ?_
          exact ih13
  have L13 := L13 0 (Nat.zero_le _)
  exact L13

set_option maxRecDepth 20000 in
theorem tX3_waterDays (l : Launch) (D : va_G) (cI cW : ClassId) (o : Nat → Nat) (b : Nat → Nat) (q : FN) (T : WS) (a : Nat → Nat) (S : WS) (n : Nat) (hS : Ok S) (hn : n < 2 ^ 31) : CT l D cI cW yX3_waterDays cX3_waterDays 3 (some .int) ⟨4, 0, 0, 90⟩ [.ref (o 0), .ref (a 0), .int (nI n)] ([ol o b cI q, wl b cI T, wl a cI S]) (PI (nI (w_wet S n)) ([ol o b cI q, wl b cI (w_dayN S n), wl a cI S])) := by
  refine CT.of RX3 rfl (by decide +kernel) (Nat.le_of_ble_eq_true rfl) [(0, .ref (o 0)), (1, .ref (a 0)), (2, .int (nI n))] rfl (fun x X Rr hnm => ?_)
  have hth := hS.th
  have hpe := hS.pe
  refine G.al X dX3_waterDays_0 0 rfl ?_
  refine G.get X fX3_12 dX3_waterDays_1 0 0 rfl rfl rfl ?_
  refine G.al X dX3_waterDays_4 1 rfl ?_
  refine G.cvv X kX5_becomes lX3_22 dX3_waterDays_5 (tX5_becomes l D cI cW b T a S) ⟨Nat.le_of_ble_eq_true rfl, Nat.le_of_ble_eq_true rfl⟩ ⟨Nat.zero_le _, Nat.zero_le _⟩ [1, 2] rfl ⟨rfl, rfl⟩ rfl rfl 1 0 rfl rfl rfl rfl (Nat.le_of_ble_eq_true rfl) (ff_cons (wl_fst _ _ _ _) (ff_cons (wl_fst _ _ _ _) (ff_nil))) (ws' := [ol o b cI q, wl b cI S, wl a cI S]) rfl ?_
  refine G.al X dX3_waterDays_8 0 rfl ?_
  refine G.get X fX3_12 dX3_waterDays_9 0 0 rfl rfl rfl ?_
  refine G.il X dX3_waterDays_12 2 rfl ?_
  refine G.cvi X kX5_waterInPassing lX3_52 dX3_waterDays_13 (tX5_waterInPassing l D cI cW b S n hS (by omega)) ⟨Nat.le_of_ble_eq_true rfl, Nat.le_of_ble_eq_true rfl⟩ ⟨Nat.zero_le _, Nat.zero_le _⟩ [1] rfl ⟨rfl, rfl⟩ rfl rfl 1 0 rfl rfl rfl rfl (Nat.le_of_ble_eq_true rfl) (ff_cons (wl_fst _ _ _ _) (ff_nil)) (ws' := [ol o b cI q, wl b cI (w_dayN S n), wl a cI S]) rfl ?_
  exact G.iret X Rr (v := nI (w_wet S n)) dX3_waterDays_16 (pi_mk (by rfl) (by rfl))

set_option maxRecDepth 20000 in
theorem tX3_longestWater (l : Launch) (D : va_G) (cI cW : ClassId) (o : Nat → Nat) (b : Nat → Nat) (q : FN) (T : WS) (a : Nat → Nat) (S : WS) (n : Nat) (hS : Ok S) (hn : n < 2 ^ 31) : CT l D cI cW yX3_longestWater cX3_longestWater 6 (some .int) ⟨3, 0, 0, 81⟩ [.ref (o 0), .ref (a 0), .int (nI n)] ([ol o b cI q, wl b cI T, wl a cI S]) (PI (w_lng S n) ([ol o b cI q, wl b cI (w_dayN S n), wl a cI S])) := by
  refine CT.of RX3 rfl (by decide +kernel) (Nat.le_of_ble_eq_true rfl) [(0, .ref (o 0)), (1, .ref (a 0)), (2, .int (nI n))] rfl (fun x X Rr hnm => ?_)
  have hth := hS.th
  have hpe := hS.pe
  refine G.al X dX3_longestWater_0 0 rfl ?_
  refine G.get X fX3_12 dX3_longestWater_1 0 0 rfl rfl rfl ?_
  refine G.al X dX3_longestWater_4 1 rfl ?_
  refine G.cvv X kX5_becomes lX3_22 dX3_longestWater_5 (tX5_becomes l D cI cW b T a S) ⟨Nat.le_of_ble_eq_true rfl, Nat.le_of_ble_eq_true rfl⟩ ⟨Nat.zero_le _, Nat.zero_le _⟩ [1, 2] rfl ⟨rfl, rfl⟩ rfl rfl 1 0 rfl rfl rfl rfl (Nat.le_of_ble_eq_true rfl) (ff_cons (wl_fst _ _ _ _) (ff_cons (wl_fst _ _ _ _) (ff_nil))) (ws' := [ol o b cI q, wl b cI S, wl a cI S]) rfl ?_
  refine G.pu X dX3_longestWater_8 ?_
  refine G.is X dX3_longestWater_9 (by decide) (lv' := [(3, .int 0), (0, .ref (o 0)), (1, .ref (a 0)), (2, .int (nI n))]) rfl ?_
  refine G.pu X dX3_longestWater_10 ?_
  refine G.is X dX3_longestWater_11 (by decide) (lv' := [(4, .int 0), (3, .int 0), (0, .ref (o 0)), (1, .ref (a 0)), (2, .int (nI n))]) rfl ?_
  refine G.pu X dX3_longestWater_13 ?_
  refine G.is X dX3_longestWater_14 (by decide) (lv' := [(5, .int 0), (4, .int 0), (3, .int 0), (0, .ref (o 0)), (1, .ref (a 0)), (2, .int (nI n))]) rfl ?_
  have L16 : ∀ k, k ≤ n → G x 0 0 ([ol o b cI q, wl b cI (w_dayN S k), wl a cI S]) 16 [(5, .int (nI k)), (4, .int (nI (w_run S k))), (3, .int (w_lng S k)), (0, .ref (o 0)), (1, .ref (a 0)), (2, .int (nI n))] [] := by
    refine loop_dn n _ ?_ ?_
    · refine G.il X dX3_longestWater_16 0 rfl ?_
      refine G.il X dX3_longestWater_18 5 rfl ?_
      refine G.n_ge X (a := n) (b := n) (by omega) (by omega) dX3_longestWater_19 (fun h19 => ?_) (fun h19 => absurd h19 (by omega))
      refine G.il X dX3_longestWater_63 2 rfl ?_
      exact G.iret X Rr (v := (w_lng S n)) dX3_longestWater_64 (pi_mk (by rfl) (by rfl))
    · intro k hk ih16
      have hT : Ok (w_dayN S k) := ok_dayN hS k
      have f1 : s_th (w_dayN S k) = s_th S := (fr_dayN S k).2.1
      refine G.il X dX3_longestWater_16 0 rfl ?_
      refine G.il X dX3_longestWater_18 5 rfl ?_
      refine G.n_ge X (a := k) (b := n) (by omega) (by omega) dX3_longestWater_19 (fun h19 => absurd h19 (by omega)) (fun h19 => ?_)
      refine G.al X dX3_longestWater_22 3 rfl ?_
      refine G.get X fX3_12 dX3_longestWater_23 0 0 rfl rfl rfl ?_
      refine G.pu X dX3_longestWater_26 ?_
      refine G.cvv X kX5_passDay lX3_26 dX3_longestWater_27 (tX5_passDay l D cI cW b (w_dayN S k) hT) ⟨Nat.le_of_ble_eq_true rfl, Nat.le_of_ble_eq_true rfl⟩ ⟨Nat.zero_le _, Nat.zero_le _⟩ [1] rfl ⟨rfl, rfl⟩ rfl rfl 1 0 rfl rfl rfl rfl (Nat.le_of_ble_eq_true rfl) (ff_cons (wl_fst _ _ _ _) (ff_nil)) (ws' := [ol o b cI q, wl b cI (w_day true (w_dayN S k)), wl a cI S]) rfl ?_
      refine G.al X dX3_longestWater_30 3 rfl ?_
      refine G.get X fX3_12 dX3_longestWater_31 0 0 rfl rfl rfl ?_
      refine G.cvi X kX5_hasWater lX3_33 dX3_longestWater_34 (tX5_hasWater l D cI cW b (w_day true (w_dayN S k)) (ok_day hT true).th) ⟨Nat.le_of_ble_eq_true rfl, Nat.le_of_ble_eq_true rfl⟩ ⟨Nat.zero_le _, Nat.zero_le _⟩ [1] rfl ⟨rfl, rfl⟩ rfl rfl 1 0 rfl rfl rfl rfl (Nat.le_of_ble_eq_true rfl) (ff_cons (wl_fst _ _ _ _) (ff_nil)) (ws' := [ol o b cI q, wl b cI (w_day true (w_dayN S k)), wl a cI S]) rfl ?_
      refine G.b_eq X dX3_longestWater_37 (fun h37 => ?_) (fun h37 => ?_)
      · refine G.pu X dX3_longestWater_47 ?_
        refine G.is X dX3_longestWater_48 (by decide) (lv' := [(4, .int 0), (5, .int (nI k)), (3, .int (w_lng S k)), (0, .ref (o 0)), (1, .ref (a 0)), (2, .int (nI n))]) rfl ?_
        refine G.il X dX3_longestWater_50 2 rfl ?_
        refine G.il X dX3_longestWater_51 0 rfl ?_
        refine G.mmax X lX3_56 dX3_longestWater_53 (Nat.le_of_ble_eq_true rfl) (Nat.le_of_ble_eq_true rfl) ⟨Nat.zero_le _, Nat.zero_le _⟩ ?_
        refine G.is X dX3_longestWater_56 (by decide) (lv' := [(3, .int (if (w_lng S k) < 0 then 0 else (w_lng S k))), (4, .int 0), (5, .int (nI k)), (0, .ref (o 0)), (1, .ref (a 0)), (2, .int (nI n))]) rfl ?_
        refine G.iinc X dX3_longestWater_57 2 rfl (v' := nI (k + 1)) (nI_inc k) (by decide) (lv' := [(5, .int (nI (k + 1))), (3, .int (if (w_lng S k) < 0 then 0 else (w_lng S k))), (4, .int 0), (0, .ref (o 0)), (1, .ref (a 0)), (2, .int (nI n))]) rfl ?_
        refine G.go X dX3_longestWater_60 ?_
        rw [show (nI (w_run S (k + 1))) = 0 from (by simp [w_run, w_lng, w_dayN, h19, h37]; try rfl)] at ih16
        rw [show (w_lng S (k + 1)) = (if (w_lng S k) < 0 then 0 else (w_lng S k)) from (by simp [w_run, w_lng, w_dayN, h19, h37]; try rfl)] at ih16
        refine G.lvsub [0, 2, 1, 3, 4, 5] (lv' := [(5, .int (nI (k + 1))), (4, .int 0), (3, .int (if (w_lng S k) < 0 then 0 else (w_lng S k))), (0, .ref (o 0)), (1, .ref (a 0)), (2, .int (nI n))]) rfl ?_
        exact ih16
      · refine G.il X dX3_longestWater_40 1 rfl ?_
        refine G.pu X dX3_longestWater_42 ?_
        refine G.nadd X (a := w_run S k) (b := 1) dX3_longestWater_43 ?_
        refine G.go X dX3_longestWater_44 ?_
        refine G.is X dX3_longestWater_48 (by decide) (lv' := [(4, .int (nI ((w_run S k) + 1))), (5, .int (nI k)), (3, .int (w_lng S k)), (0, .ref (o 0)), (1, .ref (a 0)), (2, .int (nI n))]) rfl ?_
        refine G.il X dX3_longestWater_50 2 rfl ?_
        refine G.il X dX3_longestWater_51 0 rfl ?_
        refine G.mmax X lX3_56 dX3_longestWater_53 (Nat.le_of_ble_eq_true rfl) (Nat.le_of_ble_eq_true rfl) ⟨Nat.zero_le _, Nat.zero_le _⟩ ?_
        refine G.is X dX3_longestWater_56 (by decide) (lv' := [(3, .int (if (w_lng S k) < nI ((w_run S k) + 1) then nI ((w_run S k) + 1) else (w_lng S k))), (4, .int (nI ((w_run S k) + 1))), (5, .int (nI k)), (0, .ref (o 0)), (1, .ref (a 0)), (2, .int (nI n))]) rfl ?_
        refine G.iinc X dX3_longestWater_57 2 rfl (v' := nI (k + 1)) (nI_inc k) (by decide) (lv' := [(5, .int (nI (k + 1))), (3, .int (if (w_lng S k) < nI ((w_run S k) + 1) then nI ((w_run S k) + 1) else (w_lng S k))), (4, .int (nI ((w_run S k) + 1))), (0, .ref (o 0)), (1, .ref (a 0)), (2, .int (nI n))]) rfl ?_
        refine G.go X dX3_longestWater_60 ?_
        rw [show (nI (w_run S (k + 1))) = (nI ((w_run S k) + 1)) from (by simp [w_run, w_lng, w_dayN, h19, h37]; try rfl)] at ih16
        rw [show (w_lng S (k + 1)) = (if (w_lng S k) < nI ((w_run S k) + 1) then nI ((w_run S k) + 1) else (w_lng S k)) from (by simp [w_run, w_lng, w_dayN, h19, h37]; try rfl)] at ih16
        refine G.lvsub [0, 2, 1, 3, 4, 5] (lv' := [(5, .int (nI (k + 1))), (4, .int (nI ((w_run S k) + 1))), (3, .int (if (w_lng S k) < nI ((w_run S k) + 1) then nI ((w_run S k) + 1) else (w_lng S k))), (0, .ref (o 0)), (1, .ref (a 0)), (2, .int (nI n))]) rfl ?_
        exact ih16
  have L16 := L16 0 (Nat.zero_le _)
  exact L16

set_option maxRecDepth 20000 in
theorem tX0_waterAsItIs (l : Launch) (D : va_G) (cI cW : ClassId) (o : Nat → Nat) (b : Nat → Nat) (q : FN × FN) (T : WS) (a : Nat → Nat) (S : WS) (n : Nat) (hS : Ok S) (hn : n < 2 ^ 31) : CT l D cI cW yX0_waterAsItIs cX0_waterAsItIs 3 (some .int) ⟨4, 0, 0, 90⟩ [.ref (o 0), .ref (a 0), .int (nI n)] ([al o b cI q, wl b cI T, wl a cI S]) (PI (nI (w_wet S n)) ([al o b cI q, wl b cI (w_dayN S n), wl a cI S])) := by
  refine CT.of RX0 rfl (by decide +kernel) (Nat.le_of_ble_eq_true rfl) [(0, .ref (o 0)), (1, .ref (a 0)), (2, .int (nI n))] rfl (fun x X Rr hnm => ?_)
  have hth := hS.th
  have hpe := hS.pe
  refine G.al X dX0_waterAsItIs_0 0 rfl ?_
  refine G.get X fX0_12 dX0_waterAsItIs_1 0 0 rfl rfl rfl ?_
  refine G.al X dX0_waterAsItIs_4 1 rfl ?_
  refine G.cvv X kX5_becomes lX0_25 dX0_waterAsItIs_5 (tX5_becomes l D cI cW b T a S) ⟨Nat.le_of_ble_eq_true rfl, Nat.le_of_ble_eq_true rfl⟩ ⟨Nat.zero_le _, Nat.zero_le _⟩ [1, 2] rfl ⟨rfl, rfl⟩ rfl rfl 1 0 rfl rfl rfl rfl (Nat.le_of_ble_eq_true rfl) (ff_cons (wl_fst _ _ _ _) (ff_cons (wl_fst _ _ _ _) (ff_nil))) (ws' := [al o b cI q, wl b cI S, wl a cI S]) rfl ?_
  refine G.al X dX0_waterAsItIs_8 0 rfl ?_
  refine G.get X fX0_12 dX0_waterAsItIs_9 0 0 rfl rfl rfl ?_
  refine G.il X dX0_waterAsItIs_12 2 rfl ?_
  refine G.cvi X kX5_waterInPassing lX0_29 dX0_waterAsItIs_13 (tX5_waterInPassing l D cI cW b S n hS (by omega)) ⟨Nat.le_of_ble_eq_true rfl, Nat.le_of_ble_eq_true rfl⟩ ⟨Nat.zero_le _, Nat.zero_le _⟩ [1] rfl ⟨rfl, rfl⟩ rfl rfl 1 0 rfl rfl rfl rfl (Nat.le_of_ble_eq_true rfl) (ff_cons (wl_fst _ _ _ _) (ff_nil)) (ws' := [al o b cI q, wl b cI (w_dayN S n), wl a cI S]) rfl ?_
  exact G.iret X Rr (v := nI (w_wet S n)) dX0_waterAsItIs_16 (pi_mk (by rfl) (by rfl))

set_option maxRecDepth 20000 in
theorem tX0_waterTaught (l : Launch) (D : va_G) (cI cW : ClassId) (o : Nat → Nat) (b : Nat → Nat) (q : FN × FN) (T : WS) (a : Nat → Nat) (S : WS) (p : Nat) (t : Nat) (n : Nat) (hS : Ok S) (hp : p < s_pe S) (hn : n < 2 ^ 31) : CT l D cI cW yX0_waterTaught cX0_waterTaught 5 (some .int) ⟨4, 0, 0, 90⟩ [.ref (o 0), .ref (a 0), .int (nI p), .int (nI t), .int (nI n)] ([al o b cI q, wl b cI T, wl a cI S]) (PI (nI (w_wet (w_tau S p (nI t)) n)) ([al o b cI q, wl b cI (w_dayN (w_tau S p (nI t)) n), wl a cI S])) := by
  refine CT.of RX0 rfl (by decide +kernel) (Nat.le_of_ble_eq_true rfl) [(0, .ref (o 0)), (1, .ref (a 0)), (2, .int (nI p)), (3, .int (nI t)), (4, .int (nI n))] rfl (fun x X Rr hnm => ?_)
  have hth := hS.th
  have hpe := hS.pe
  refine G.al X dX0_waterTaught_0 0 rfl ?_
  refine G.get X fX0_12 dX0_waterTaught_1 0 0 rfl rfl rfl ?_
  refine G.al X dX0_waterTaught_4 1 rfl ?_
  refine G.cvv X kX5_becomes lX0_25 dX0_waterTaught_5 (tX5_becomes l D cI cW b T a S) ⟨Nat.le_of_ble_eq_true rfl, Nat.le_of_ble_eq_true rfl⟩ ⟨Nat.zero_le _, Nat.zero_le _⟩ [1, 2] rfl ⟨rfl, rfl⟩ rfl rfl 1 0 rfl rfl rfl rfl (Nat.le_of_ble_eq_true rfl) (ff_cons (wl_fst _ _ _ _) (ff_cons (wl_fst _ _ _ _) (ff_nil))) (ws' := [al o b cI q, wl b cI S, wl a cI S]) rfl ?_
  refine G.al X dX0_waterTaught_8 0 rfl ?_
  refine G.get X fX0_12 dX0_waterTaught_9 0 0 rfl rfl rfl ?_
  refine G.get X fX0_48 dX0_waterTaught_12 1 0 rfl rfl rfl ?_
  refine G.il X dX0_waterTaught_15 2 rfl ?_
  refine G.dup2 X dX0_waterTaught_16 ?_
  refine G.nld X (i := p) dX0_waterTaught_17 1 1 rfl rfl (by omega) (by decide) ?_
  refine G.pu X dX0_waterTaught_18 ?_
  refine G.il X dX0_waterTaught_19 3 rfl ?_
  refine G.ishl X dX0_waterTaught_20 ?_
  refine G.ior X dX0_waterTaught_21 ?_
  refine G.nst X (i := p) dX0_waterTaught_22 1 1 rfl rfl (by omega) (by decide) (blk' := wl b cI (s_pe S, s_th S, s_da S, s_dr S, upd (s_kn S) p (((s_kn S) p) ||| (1 <<< ((nI t) &&& 31))), s_sh S, s_an S, s_ki S, s_we S, s_dp S, s_wa S, s_le S)) rfl (ws' := [al o b cI q, wl b cI (s_pe S, s_th S, s_da S, s_dr S, upd (s_kn S) p (((s_kn S) p) ||| (1 <<< ((nI t) &&& 31))), s_sh S, s_an S, s_ki S, s_we S, s_dp S, s_wa S, s_le S), wl a cI S]) rfl ?_
  refine G.cg (ws' := [al o b cI q, wl b cI (w_tau S p (nI t)), wl a cI S]) rfl rfl rfl ?_
  refine G.al X dX0_waterTaught_23 0 rfl ?_
  refine G.get X fX0_12 dX0_waterTaught_24 0 0 rfl rfl rfl ?_
  refine G.il X dX0_waterTaught_27 4 rfl ?_
  refine G.cvi X kX5_waterInPassing lX0_29 dX0_waterTaught_29 (tX5_waterInPassing l D cI cW b (w_tau S p (nI t)) n (ok_tau hS p (nI t)) (by omega)) ⟨Nat.le_of_ble_eq_true rfl, Nat.le_of_ble_eq_true rfl⟩ ⟨Nat.zero_le _, Nat.zero_le _⟩ [1] rfl ⟨rfl, rfl⟩ rfl rfl 1 0 rfl rfl rfl rfl (Nat.le_of_ble_eq_true rfl) (ff_cons (wl_fst _ _ _ _) (ff_nil)) (ws' := [al o b cI q, wl b cI (w_dayN (w_tau S p (nI t)) n), wl a cI S]) rfl ?_
  exact G.iret X Rr (v := nI (w_wet (w_tau S p (nI t)) n)) dX0_waterTaught_32 (pi_mk (by rfl) (by rfl))

set_option maxRecDepth 20000 in
theorem tX0_bestToEmbolden (l : Launch) (D : va_G) (cI cW : ClassId) (o : Nat → Nat) (b : Nat → Nat) (q : FN × FN) (T : WS) (a : Nat → Nat) (S : WS) (n : Nat) (hS : Ok S) (hn : n < 2 ^ 31) : CT l D cI cW yX0_bestToEmbolden cX0_bestToEmbolden 7 (some .int) ⟨5, 0, 0, 112⟩ [.ref (o 0), .ref (a 0), .int (nI n)] ([al o b cI q, wl b cI T, wl a cI S]) (PIE ((bmax yes (fun p => nI (w_wet (w_bld S p) n)) (-9, nI (w_wet S n)) (s_pe S)).1) (fun T9 : WS => [al o b cI q, wl b cI T9, wl a cI S])) := by
  refine CT.of RX0 rfl (by decide +kernel) (Nat.le_of_ble_eq_true rfl) [(0, .ref (o 0)), (1, .ref (a 0)), (2, .int (nI n))] rfl (fun x X Rr hnm => ?_)
  have hth := hS.th
  have hpe := hS.pe
  refine G.pu X dX0_bestToEmbolden_0 ?_
  refine G.is X dX0_bestToEmbolden_2 (by decide) (lv' := [(3, .int (-9)), (0, .ref (o 0)), (1, .ref (a 0)), (2, .int (nI n))]) rfl ?_
  refine G.al X dX0_bestToEmbolden_3 1 rfl ?_
  refine G.al X dX0_bestToEmbolden_4 2 rfl ?_
  refine G.il X dX0_bestToEmbolden_5 3 rfl ?_
  refine G.cvi X kX0_waterAsItIs lX0_33 dX0_bestToEmbolden_6 (tX0_waterAsItIs l D cI cW o b q T a S n hS (by omega)) ⟨Nat.le_of_ble_eq_true rfl, Nat.le_of_ble_eq_true rfl⟩ ⟨Nat.zero_le _, Nat.zero_le _⟩ [0, 1, 2] rfl ⟨rfl, rfl⟩ rfl rfl 0 0 rfl rfl rfl rfl (Nat.le_of_ble_eq_true rfl) (ff_cons (al_fst _ _ _ _ _) (ff_cons (wl_fst _ _ _ _) (ff_cons (wl_fst _ _ _ _) (ff_nil)))) (ws' := [al o b cI q, wl b cI (w_dayN S n), wl a cI S]) rfl ?_
  refine G.is X dX0_bestToEmbolden_9 (by decide) (lv' := [(4, .int (nI (w_wet S n))), (3, .int (-9)), (0, .ref (o 0)), (1, .ref (a 0)), (2, .int (nI n))]) rfl ?_
  refine G.pu X dX0_bestToEmbolden_11 ?_
  refine G.is X dX0_bestToEmbolden_12 (by decide) (lv' := [(5, .int 0), (4, .int (nI (w_wet S n))), (3, .int (-9)), (0, .ref (o 0)), (1, .ref (a 0)), (2, .int (nI n))]) rfl ?_
  have L14 : ∀ k, k ≤ s_pe S → ∀ T8 : WS, G x 0 0 ([al o b cI q, wl b cI T8, wl a cI S]) 14 [(5, .int (nI k)), (4, .int ((bmax yes (fun p => nI (w_wet (w_bld S p) n)) (-9, nI (w_wet S n)) k).2)), (3, .int ((bmax yes (fun p => nI (w_wet (w_bld S p) n)) (-9, nI (w_wet S n)) k).1)), (0, .ref (o 0)), (1, .ref (a 0)), (2, .int (nI n))] [] := by
    refine loop_dn (s_pe S) _ ?_ ?_
    · intro T8
      refine G.il X dX0_bestToEmbolden_14 0 rfl ?_
      refine G.al X dX0_bestToEmbolden_16 4 rfl ?_
      refine G.get X fX0_37 dX0_bestToEmbolden_17 2 0 rfl rfl rfl ?_
      refine G.n_ge X (a := s_pe S) (b := s_pe S) (by omega) (by omega) dX0_bestToEmbolden_20 (fun h20 => ?_) (fun h20 => absurd h20 (by omega))
      refine G.il X dX0_bestToEmbolden_72 2 rfl ?_
      exact G.iret X Rr (v := ((bmax yes (fun p => nI (w_wet (w_bld S p) n)) (-9, nI (w_wet S n)) (s_pe S)).1)) dX0_bestToEmbolden_73 (pie_mk (T8) (by rfl) (by rfl))
    · intro k hk ih14 T8
      refine G.il X dX0_bestToEmbolden_14 0 rfl ?_
      refine G.al X dX0_bestToEmbolden_16 4 rfl ?_
      refine G.get X fX0_37 dX0_bestToEmbolden_17 2 0 rfl rfl rfl ?_
      refine G.n_ge X (a := k) (b := s_pe S) (by omega) (by omega) dX0_bestToEmbolden_20 (fun h20 => absurd h20 (by omega)) (fun h20 => ?_)
      refine G.al X dX0_bestToEmbolden_23 3 rfl ?_
      refine G.get X fX0_12 dX0_bestToEmbolden_24 0 0 rfl rfl rfl ?_
      refine G.al X dX0_bestToEmbolden_27 4 rfl ?_
      refine G.cvv X kX5_becomes lX0_25 dX0_bestToEmbolden_28 (tX5_becomes l D cI cW b T8 a S) ⟨Nat.le_of_ble_eq_true rfl, Nat.le_of_ble_eq_true rfl⟩ ⟨Nat.zero_le _, Nat.zero_le _⟩ [1, 2] rfl ⟨rfl, rfl⟩ rfl rfl 1 0 rfl rfl rfl rfl (Nat.le_of_ble_eq_true rfl) (ff_cons (wl_fst _ _ _ _) (ff_cons (wl_fst _ _ _ _) (ff_nil))) (ws' := [al o b cI q, wl b cI S, wl a cI S]) rfl ?_
      refine G.al X dX0_bestToEmbolden_31 3 rfl ?_
      refine G.get X fX0_12 dX0_bestToEmbolden_32 0 0 rfl rfl rfl ?_
      refine G.get X fX0_51 dX0_bestToEmbolden_35 1 0 rfl rfl rfl ?_
      refine G.il X dX0_bestToEmbolden_38 0 rfl ?_
      refine G.pu X dX0_bestToEmbolden_40 ?_
      refine G.nst X (i := k) dX0_bestToEmbolden_41 1 2 rfl rfl (by omega) (by decide) (blk' := wl b cI (s_pe S, s_th S, s_da S, s_dr S, s_kn S, upd (s_sh S) k 0, s_an S, s_ki S, s_we S, s_dp S, s_wa S, s_le S)) rfl (ws' := [al o b cI q, wl b cI (s_pe S, s_th S, s_da S, s_dr S, s_kn S, upd (s_sh S) k 0, s_an S, s_ki S, s_we S, s_dp S, s_wa S, s_le S), wl a cI S]) rfl ?_
      refine G.cg (ws' := [al o b cI q, wl b cI (w_bld S k), wl a cI S]) rfl rfl rfl ?_
      refine G.al X dX0_bestToEmbolden_42 3 rfl ?_
      refine G.get X fX0_12 dX0_bestToEmbolden_43 0 0 rfl rfl rfl ?_
      refine G.il X dX0_bestToEmbolden_46 5 rfl ?_
      refine G.cvi X kX5_waterInPassing lX0_29 dX0_bestToEmbolden_47 (tX5_waterInPassing l D cI cW b (w_bld S k) n (ok_bld hS k) (by omega)) ⟨Nat.le_of_ble_eq_true rfl, Nat.le_of_ble_eq_true rfl⟩ ⟨Nat.zero_le _, Nat.zero_le _⟩ [1] rfl ⟨rfl, rfl⟩ rfl rfl 1 0 rfl rfl rfl rfl (Nat.le_of_ble_eq_true rfl) (ff_cons (wl_fst _ _ _ _) (ff_nil)) (ws' := [al o b cI q, wl b cI (w_dayN (w_bld S k) n), wl a cI S]) rfl ?_
      refine G.is X dX0_bestToEmbolden_50 (by decide) (lv' := [(6, .int (nI (w_wet (w_bld S k) n))), (5, .int (nI k)), (4, .int ((bmax yes (fun p => nI (w_wet (w_bld S p) n)) (-9, nI (w_wet S n)) k).2)), (3, .int ((bmax yes (fun p => nI (w_wet (w_bld S p) n)) (-9, nI (w_wet S n)) k).1)), (0, .ref (o 0)), (1, .ref (a 0)), (2, .int (nI n))]) rfl ?_
      refine G.il X dX0_bestToEmbolden_52 0 rfl ?_
      refine G.il X dX0_bestToEmbolden_54 2 rfl ?_
      refine G.c_le X (a := nI (w_wet (w_bld S k) n)) (b := ((bmax yes (fun p => nI (w_wet (w_bld S p) n)) (-9, nI (w_wet S n)) k).2)) dX0_bestToEmbolden_56 (fun h56 => ?_) (fun h56 => ?_)
      · refine G.iinc X dX0_bestToEmbolden_66 1 rfl (v' := nI (k + 1)) (nI_inc k) (by decide) (lv' := [(5, .int (nI (k + 1))), (6, .int (nI (w_wet (w_bld S k) n))), (4, .int ((bmax yes (fun p => nI (w_wet (w_bld S p) n)) (-9, nI (w_wet S n)) k).2)), (3, .int ((bmax yes (fun p => nI (w_wet (w_bld S p) n)) (-9, nI (w_wet S n)) k).1)), (0, .ref (o 0)), (1, .ref (a 0)), (2, .int (nI n))]) rfl ?_
        refine G.go X dX0_bestToEmbolden_69 ?_
        replace ih14 := ih14 (w_dayN (w_bld S k) n)
        rw [show ((bmax yes (fun p => nI (w_wet (w_bld S p) n)) (-9, nI (w_wet S n)) (k + 1)).2) = ((bmax yes (fun p => nI (w_wet (w_bld S p) n)) (-9, nI (w_wet S n)) k).2) from (by simp [bmax, bmin, yes, h20, h56])] at ih14
        rw [show ((bmax yes (fun p => nI (w_wet (w_bld S p) n)) (-9, nI (w_wet S n)) (k + 1)).1) = ((bmax yes (fun p => nI (w_wet (w_bld S p) n)) (-9, nI (w_wet S n)) k).1) from (by simp [bmax, bmin, yes, h20, h56])] at ih14
        refine G.lvsub [0, 2, 3, 4, 5, 6] (lv' := [(5, .int (nI (k + 1))), (4, .int ((bmax yes (fun p => nI (w_wet (w_bld S p) n)) (-9, nI (w_wet S n)) k).2)), (3, .int ((bmax yes (fun p => nI (w_wet (w_bld S p) n)) (-9, nI (w_wet S n)) k).1)), (0, .ref (o 0)), (1, .ref (a 0)), (2, .int (nI n))]) rfl ?_
        exact ih14
      · refine G.il X dX0_bestToEmbolden_59 0 rfl ?_
        refine G.is X dX0_bestToEmbolden_61 (by decide) (lv' := [(4, .int (nI (w_wet (w_bld S k) n))), (6, .int (nI (w_wet (w_bld S k) n))), (5, .int (nI k)), (3, .int ((bmax yes (fun p => nI (w_wet (w_bld S p) n)) (-9, nI (w_wet S n)) k).1)), (0, .ref (o 0)), (1, .ref (a 0)), (2, .int (nI n))]) rfl ?_
        refine G.il X dX0_bestToEmbolden_63 2 rfl ?_
        refine G.is X dX0_bestToEmbolden_65 (by decide) (lv' := [(3, .int (nI k)), (4, .int (nI (w_wet (w_bld S k) n))), (6, .int (nI (w_wet (w_bld S k) n))), (5, .int (nI k)), (0, .ref (o 0)), (1, .ref (a 0)), (2, .int (nI n))]) rfl ?_
        refine G.iinc X dX0_bestToEmbolden_66 3 rfl (v' := nI (k + 1)) (nI_inc k) (by decide) (lv' := [(5, .int (nI (k + 1))), (3, .int (nI k)), (4, .int (nI (w_wet (w_bld S k) n))), (6, .int (nI (w_wet (w_bld S k) n))), (0, .ref (o 0)), (1, .ref (a 0)), (2, .int (nI n))]) rfl ?_
        refine G.go X dX0_bestToEmbolden_69 ?_
        replace ih14 := ih14 (w_dayN (w_bld S k) n)
        rw [show ((bmax yes (fun p => nI (w_wet (w_bld S p) n)) (-9, nI (w_wet S n)) (k + 1)).2) = (nI (w_wet (w_bld S k) n)) from (by simp [bmax, bmin, yes, h20, h56])] at ih14
        rw [show ((bmax yes (fun p => nI (w_wet (w_bld S p) n)) (-9, nI (w_wet S n)) (k + 1)).1) = (nI k) from (by simp [bmax, bmin, yes, h20, h56])] at ih14
        refine G.lvsub [0, 2, 1, 4, 5, 6] (lv' := [(5, .int (nI (k + 1))), (4, .int (nI (w_wet (w_bld S k) n))), (3, .int (nI k)), (0, .ref (o 0)), (1, .ref (a 0)), (2, .int (nI n))]) rfl ?_
        exact ih14
  have L14 := L14 0 (Nat.zero_le _) (w_dayN S n)
  exact L14

set_option maxRecDepth 20000 in
theorem tX0_bestWithout (l : Launch) (D : va_G) (cI cW : ClassId) (o : Nat → Nat) (b : Nat → Nat) (q : FN × FN) (T : WS) (a : Nat → Nat) (S : WS) (n : Nat) (hS : Ok S) (hn : n < 2 ^ 31) : CT l D cI cW yX0_bestWithout cX0_bestWithout 7 (some .int) ⟨5, 0, 0, 112⟩ [.ref (o 0), .ref (a 0), .int (nI n)] ([al o b cI q, wl b cI T, wl a cI S]) (PIE ((bmax yes (fun i => nI (w_wet (w_out S i) n)) (-9, nI (w_wet S n)) (s_th S)).1) (fun T9 : WS => [al o b cI q, wl b cI T9, wl a cI S])) := by
  refine CT.of RX0 rfl (by decide +kernel) (Nat.le_of_ble_eq_true rfl) [(0, .ref (o 0)), (1, .ref (a 0)), (2, .int (nI n))] rfl (fun x X Rr hnm => ?_)
  have hth := hS.th
  have hpe := hS.pe
  refine G.pu X dX0_bestWithout_0 ?_
  refine G.is X dX0_bestWithout_2 (by decide) (lv' := [(3, .int (-9)), (0, .ref (o 0)), (1, .ref (a 0)), (2, .int (nI n))]) rfl ?_
  refine G.al X dX0_bestWithout_3 1 rfl ?_
  refine G.al X dX0_bestWithout_4 2 rfl ?_
  refine G.il X dX0_bestWithout_5 3 rfl ?_
  refine G.cvi X kX0_waterAsItIs lX0_33 dX0_bestWithout_6 (tX0_waterAsItIs l D cI cW o b q T a S n hS (by omega)) ⟨Nat.le_of_ble_eq_true rfl, Nat.le_of_ble_eq_true rfl⟩ ⟨Nat.zero_le _, Nat.zero_le _⟩ [0, 1, 2] rfl ⟨rfl, rfl⟩ rfl rfl 0 0 rfl rfl rfl rfl (Nat.le_of_ble_eq_true rfl) (ff_cons (al_fst _ _ _ _ _) (ff_cons (wl_fst _ _ _ _) (ff_cons (wl_fst _ _ _ _) (ff_nil)))) (ws' := [al o b cI q, wl b cI (w_dayN S n), wl a cI S]) rfl ?_
  refine G.is X dX0_bestWithout_9 (by decide) (lv' := [(4, .int (nI (w_wet S n))), (3, .int (-9)), (0, .ref (o 0)), (1, .ref (a 0)), (2, .int (nI n))]) rfl ?_
  refine G.pu X dX0_bestWithout_11 ?_
  refine G.is X dX0_bestWithout_12 (by decide) (lv' := [(5, .int 0), (4, .int (nI (w_wet S n))), (3, .int (-9)), (0, .ref (o 0)), (1, .ref (a 0)), (2, .int (nI n))]) rfl ?_
  have L14 : ∀ k, k ≤ s_th S → ∀ T8 : WS, G x 0 0 ([al o b cI q, wl b cI T8, wl a cI S]) 14 [(5, .int (nI k)), (4, .int ((bmax yes (fun i => nI (w_wet (w_out S i) n)) (-9, nI (w_wet S n)) k).2)), (3, .int ((bmax yes (fun i => nI (w_wet (w_out S i) n)) (-9, nI (w_wet S n)) k).1)), (0, .ref (o 0)), (1, .ref (a 0)), (2, .int (nI n))] [] := by
    refine loop_dn (s_th S) _ ?_ ?_
    · intro T8
      refine G.il X dX0_bestWithout_14 0 rfl ?_
      refine G.al X dX0_bestWithout_16 4 rfl ?_
      refine G.get X fX0_54 dX0_bestWithout_17 2 0 rfl rfl rfl ?_
      refine G.n_ge X (a := s_th S) (b := s_th S) (by omega) (by omega) dX0_bestWithout_20 (fun h20 => ?_) (fun h20 => absurd h20 (by omega))
      refine G.il X dX0_bestWithout_72 2 rfl ?_
      exact G.iret X Rr (v := ((bmax yes (fun i => nI (w_wet (w_out S i) n)) (-9, nI (w_wet S n)) (s_th S)).1)) dX0_bestWithout_73 (pie_mk (T8) (by rfl) (by rfl))
    · intro k hk ih14 T8
      refine G.il X dX0_bestWithout_14 0 rfl ?_
      refine G.al X dX0_bestWithout_16 4 rfl ?_
      refine G.get X fX0_54 dX0_bestWithout_17 2 0 rfl rfl rfl ?_
      refine G.n_ge X (a := k) (b := s_th S) (by omega) (by omega) dX0_bestWithout_20 (fun h20 => absurd h20 (by omega)) (fun h20 => ?_)
      refine G.al X dX0_bestWithout_23 3 rfl ?_
      refine G.get X fX0_12 dX0_bestWithout_24 0 0 rfl rfl rfl ?_
      refine G.al X dX0_bestWithout_27 4 rfl ?_
      refine G.cvv X kX5_becomes lX0_25 dX0_bestWithout_28 (tX5_becomes l D cI cW b T8 a S) ⟨Nat.le_of_ble_eq_true rfl, Nat.le_of_ble_eq_true rfl⟩ ⟨Nat.zero_le _, Nat.zero_le _⟩ [1, 2] rfl ⟨rfl, rfl⟩ rfl rfl 1 0 rfl rfl rfl rfl (Nat.le_of_ble_eq_true rfl) (ff_cons (wl_fst _ _ _ _) (ff_cons (wl_fst _ _ _ _) (ff_nil))) (ws' := [al o b cI q, wl b cI S, wl a cI S]) rfl ?_
      refine G.al X dX0_bestWithout_31 3 rfl ?_
      refine G.get X fX0_12 dX0_bestWithout_32 0 0 rfl rfl rfl ?_
      refine G.get X fX0_57 dX0_bestWithout_35 1 0 rfl rfl rfl ?_
      refine G.il X dX0_bestWithout_38 0 rfl ?_
      refine G.pu X dX0_bestWithout_40 ?_
      refine G.nst X (i := k) dX0_bestWithout_41 1 8 rfl rfl (by omega) (by decide) (blk' := wl b cI (s_pe S, s_th S, s_da S, s_dr S, s_kn S, s_sh S, s_an S, s_ki S, s_we S, s_dp S, s_wa S, upd (s_le S) k 0)) rfl (ws' := [al o b cI q, wl b cI (s_pe S, s_th S, s_da S, s_dr S, s_kn S, s_sh S, s_an S, s_ki S, s_we S, s_dp S, s_wa S, upd (s_le S) k 0), wl a cI S]) rfl ?_
      refine G.cg (ws' := [al o b cI q, wl b cI (w_out S k), wl a cI S]) rfl rfl rfl ?_
      refine G.al X dX0_bestWithout_42 3 rfl ?_
      refine G.get X fX0_12 dX0_bestWithout_43 0 0 rfl rfl rfl ?_
      refine G.il X dX0_bestWithout_46 5 rfl ?_
      refine G.cvi X kX5_waterInPassing lX0_29 dX0_bestWithout_47 (tX5_waterInPassing l D cI cW b (w_out S k) n (ok_out hS k) (by omega)) ⟨Nat.le_of_ble_eq_true rfl, Nat.le_of_ble_eq_true rfl⟩ ⟨Nat.zero_le _, Nat.zero_le _⟩ [1] rfl ⟨rfl, rfl⟩ rfl rfl 1 0 rfl rfl rfl rfl (Nat.le_of_ble_eq_true rfl) (ff_cons (wl_fst _ _ _ _) (ff_nil)) (ws' := [al o b cI q, wl b cI (w_dayN (w_out S k) n), wl a cI S]) rfl ?_
      refine G.is X dX0_bestWithout_50 (by decide) (lv' := [(6, .int (nI (w_wet (w_out S k) n))), (5, .int (nI k)), (4, .int ((bmax yes (fun i => nI (w_wet (w_out S i) n)) (-9, nI (w_wet S n)) k).2)), (3, .int ((bmax yes (fun i => nI (w_wet (w_out S i) n)) (-9, nI (w_wet S n)) k).1)), (0, .ref (o 0)), (1, .ref (a 0)), (2, .int (nI n))]) rfl ?_
      refine G.il X dX0_bestWithout_52 0 rfl ?_
      refine G.il X dX0_bestWithout_54 2 rfl ?_
      refine G.c_le X (a := nI (w_wet (w_out S k) n)) (b := ((bmax yes (fun i => nI (w_wet (w_out S i) n)) (-9, nI (w_wet S n)) k).2)) dX0_bestWithout_56 (fun h56 => ?_) (fun h56 => ?_)
      · refine G.iinc X dX0_bestWithout_66 1 rfl (v' := nI (k + 1)) (nI_inc k) (by decide) (lv' := [(5, .int (nI (k + 1))), (6, .int (nI (w_wet (w_out S k) n))), (4, .int ((bmax yes (fun i => nI (w_wet (w_out S i) n)) (-9, nI (w_wet S n)) k).2)), (3, .int ((bmax yes (fun i => nI (w_wet (w_out S i) n)) (-9, nI (w_wet S n)) k).1)), (0, .ref (o 0)), (1, .ref (a 0)), (2, .int (nI n))]) rfl ?_
        refine G.go X dX0_bestWithout_69 ?_
        replace ih14 := ih14 (w_dayN (w_out S k) n)
        rw [show ((bmax yes (fun i => nI (w_wet (w_out S i) n)) (-9, nI (w_wet S n)) (k + 1)).2) = ((bmax yes (fun i => nI (w_wet (w_out S i) n)) (-9, nI (w_wet S n)) k).2) from (by simp [bmax, bmin, yes, h20, h56])] at ih14
        rw [show ((bmax yes (fun i => nI (w_wet (w_out S i) n)) (-9, nI (w_wet S n)) (k + 1)).1) = ((bmax yes (fun i => nI (w_wet (w_out S i) n)) (-9, nI (w_wet S n)) k).1) from (by simp [bmax, bmin, yes, h20, h56])] at ih14
        refine G.lvsub [0, 2, 3, 4, 5, 6] (lv' := [(5, .int (nI (k + 1))), (4, .int ((bmax yes (fun i => nI (w_wet (w_out S i) n)) (-9, nI (w_wet S n)) k).2)), (3, .int ((bmax yes (fun i => nI (w_wet (w_out S i) n)) (-9, nI (w_wet S n)) k).1)), (0, .ref (o 0)), (1, .ref (a 0)), (2, .int (nI n))]) rfl ?_
        exact ih14
      · refine G.il X dX0_bestWithout_59 0 rfl ?_
        refine G.is X dX0_bestWithout_61 (by decide) (lv' := [(4, .int (nI (w_wet (w_out S k) n))), (6, .int (nI (w_wet (w_out S k) n))), (5, .int (nI k)), (3, .int ((bmax yes (fun i => nI (w_wet (w_out S i) n)) (-9, nI (w_wet S n)) k).1)), (0, .ref (o 0)), (1, .ref (a 0)), (2, .int (nI n))]) rfl ?_
        refine G.il X dX0_bestWithout_63 2 rfl ?_
        refine G.is X dX0_bestWithout_65 (by decide) (lv' := [(3, .int (nI k)), (4, .int (nI (w_wet (w_out S k) n))), (6, .int (nI (w_wet (w_out S k) n))), (5, .int (nI k)), (0, .ref (o 0)), (1, .ref (a 0)), (2, .int (nI n))]) rfl ?_
        refine G.iinc X dX0_bestWithout_66 3 rfl (v' := nI (k + 1)) (nI_inc k) (by decide) (lv' := [(5, .int (nI (k + 1))), (3, .int (nI k)), (4, .int (nI (w_wet (w_out S k) n))), (6, .int (nI (w_wet (w_out S k) n))), (0, .ref (o 0)), (1, .ref (a 0)), (2, .int (nI n))]) rfl ?_
        refine G.go X dX0_bestWithout_69 ?_
        replace ih14 := ih14 (w_dayN (w_out S k) n)
        rw [show ((bmax yes (fun i => nI (w_wet (w_out S i) n)) (-9, nI (w_wet S n)) (k + 1)).2) = (nI (w_wet (w_out S k) n)) from (by simp [bmax, bmin, yes, h20, h56])] at ih14
        rw [show ((bmax yes (fun i => nI (w_wet (w_out S i) n)) (-9, nI (w_wet S n)) (k + 1)).1) = (nI k) from (by simp [bmax, bmin, yes, h20, h56])] at ih14
        refine G.lvsub [0, 2, 1, 4, 5, 6] (lv' := [(5, .int (nI (k + 1))), (4, .int (nI (w_wet (w_out S k) n))), (3, .int (nI k)), (0, .ref (o 0)), (1, .ref (a 0)), (2, .int (nI n))]) rfl ?_
        exact ih14
  have L14 := L14 0 (Nat.zero_le _) (w_dayN S n)
  exact L14

set_option maxRecDepth 20000 in
theorem tX0_worstAnew (l : Launch) (D : va_G) (cI cW : ClassId) (o : Nat → Nat) (b : Nat → Nat) (q : FN × FN) (T : WS) (a : Nat → Nat) (S : WS) (n : Nat) (hS : Ok S) (hn : n < 2 ^ 31) : CT l D cI cW yX0_worstAnew cX0_worstAnew 7 (some .int) ⟨5, 0, 0, 112⟩ [.ref (o 0), .ref (a 0), .int (nI n)] ([al o b cI q, wl b cI T, wl a cI S]) (PIE ((bmin (fun i => nI (w_wet (w_fall S i) n)) (-9, nI (w_wet S n)) (s_th S)).1) (fun T9 : WS => [al o b cI q, wl b cI T9, wl a cI S])) := by
  refine CT.of RX0 rfl (by decide +kernel) (Nat.le_of_ble_eq_true rfl) [(0, .ref (o 0)), (1, .ref (a 0)), (2, .int (nI n))] rfl (fun x X Rr hnm => ?_)
  have hth := hS.th
  have hpe := hS.pe
  refine G.pu X dX0_worstAnew_0 ?_
  refine G.is X dX0_worstAnew_2 (by decide) (lv' := [(3, .int (-9)), (0, .ref (o 0)), (1, .ref (a 0)), (2, .int (nI n))]) rfl ?_
  refine G.al X dX0_worstAnew_3 1 rfl ?_
  refine G.al X dX0_worstAnew_4 2 rfl ?_
  refine G.il X dX0_worstAnew_5 3 rfl ?_
  refine G.cvi X kX0_waterAsItIs lX0_33 dX0_worstAnew_6 (tX0_waterAsItIs l D cI cW o b q T a S n hS (by omega)) ⟨Nat.le_of_ble_eq_true rfl, Nat.le_of_ble_eq_true rfl⟩ ⟨Nat.zero_le _, Nat.zero_le _⟩ [0, 1, 2] rfl ⟨rfl, rfl⟩ rfl rfl 0 0 rfl rfl rfl rfl (Nat.le_of_ble_eq_true rfl) (ff_cons (al_fst _ _ _ _ _) (ff_cons (wl_fst _ _ _ _) (ff_cons (wl_fst _ _ _ _) (ff_nil)))) (ws' := [al o b cI q, wl b cI (w_dayN S n), wl a cI S]) rfl ?_
  refine G.is X dX0_worstAnew_9 (by decide) (lv' := [(4, .int (nI (w_wet S n))), (3, .int (-9)), (0, .ref (o 0)), (1, .ref (a 0)), (2, .int (nI n))]) rfl ?_
  refine G.pu X dX0_worstAnew_11 ?_
  refine G.is X dX0_worstAnew_12 (by decide) (lv' := [(5, .int 0), (4, .int (nI (w_wet S n))), (3, .int (-9)), (0, .ref (o 0)), (1, .ref (a 0)), (2, .int (nI n))]) rfl ?_
  have L14 : ∀ k, k ≤ s_th S → ∀ T8 : WS, G x 0 0 ([al o b cI q, wl b cI T8, wl a cI S]) 14 [(5, .int (nI k)), (4, .int ((bmin (fun i => nI (w_wet (w_fall S i) n)) (-9, nI (w_wet S n)) k).2)), (3, .int ((bmin (fun i => nI (w_wet (w_fall S i) n)) (-9, nI (w_wet S n)) k).1)), (0, .ref (o 0)), (1, .ref (a 0)), (2, .int (nI n))] [] := by
    refine loop_dn (s_th S) _ ?_ ?_
    · intro T8
      refine G.il X dX0_worstAnew_14 0 rfl ?_
      refine G.al X dX0_worstAnew_16 4 rfl ?_
      refine G.get X fX0_54 dX0_worstAnew_17 2 0 rfl rfl rfl ?_
      refine G.n_ge X (a := s_th S) (b := s_th S) (by omega) (by omega) dX0_worstAnew_20 (fun h20 => ?_) (fun h20 => absurd h20 (by omega))
      refine G.il X dX0_worstAnew_71 2 rfl ?_
      exact G.iret X Rr (v := ((bmin (fun i => nI (w_wet (w_fall S i) n)) (-9, nI (w_wet S n)) (s_th S)).1)) dX0_worstAnew_72 (pie_mk (T8) (by rfl) (by rfl))
    · intro k hk ih14 T8
      refine G.il X dX0_worstAnew_14 0 rfl ?_
      refine G.al X dX0_worstAnew_16 4 rfl ?_
      refine G.get X fX0_54 dX0_worstAnew_17 2 0 rfl rfl rfl ?_
      refine G.n_ge X (a := k) (b := s_th S) (by omega) (by omega) dX0_worstAnew_20 (fun h20 => absurd h20 (by omega)) (fun h20 => ?_)
      refine G.al X dX0_worstAnew_23 3 rfl ?_
      refine G.get X fX0_12 dX0_worstAnew_24 0 0 rfl rfl rfl ?_
      refine G.al X dX0_worstAnew_27 4 rfl ?_
      refine G.cvv X kX5_becomes lX0_25 dX0_worstAnew_28 (tX5_becomes l D cI cW b T8 a S) ⟨Nat.le_of_ble_eq_true rfl, Nat.le_of_ble_eq_true rfl⟩ ⟨Nat.zero_le _, Nat.zero_le _⟩ [1, 2] rfl ⟨rfl, rfl⟩ rfl rfl 1 0 rfl rfl rfl rfl (Nat.le_of_ble_eq_true rfl) (ff_cons (wl_fst _ _ _ _) (ff_cons (wl_fst _ _ _ _) (ff_nil))) (ws' := [al o b cI q, wl b cI S, wl a cI S]) rfl ?_
      refine G.al X dX0_worstAnew_31 3 rfl ?_
      refine G.get X fX0_12 dX0_worstAnew_32 0 0 rfl rfl rfl ?_
      refine G.il X dX0_worstAnew_35 0 rfl ?_
      refine G.cvi X kX5_fall lX0_68 dX0_worstAnew_37 (tX5_fall l D cI cW b S k (by omega) (by omega)) ⟨Nat.le_of_ble_eq_true rfl, Nat.le_of_ble_eq_true rfl⟩ ⟨Nat.zero_le _, Nat.zero_le _⟩ [1] rfl ⟨rfl, rfl⟩ rfl rfl 1 0 rfl rfl rfl rfl (Nat.le_of_ble_eq_true rfl) (ff_cons (wl_fst _ _ _ _) (ff_nil)) (ws' := [al o b cI q, wl b cI (w_fall S k), wl a cI S]) rfl ?_
      refine G.popi X dX0_worstAnew_40 ?_
      refine G.al X dX0_worstAnew_41 3 rfl ?_
      refine G.get X fX0_12 dX0_worstAnew_42 0 0 rfl rfl rfl ?_
      refine G.il X dX0_worstAnew_45 5 rfl ?_
      refine G.cvi X kX5_waterInPassing lX0_29 dX0_worstAnew_46 (tX5_waterInPassing l D cI cW b (w_fall S k) n (ok_fall hS (by omega)) (by omega)) ⟨Nat.le_of_ble_eq_true rfl, Nat.le_of_ble_eq_true rfl⟩ ⟨Nat.zero_le _, Nat.zero_le _⟩ [1] rfl ⟨rfl, rfl⟩ rfl rfl 1 0 rfl rfl rfl rfl (Nat.le_of_ble_eq_true rfl) (ff_cons (wl_fst _ _ _ _) (ff_nil)) (ws' := [al o b cI q, wl b cI (w_dayN (w_fall S k) n), wl a cI S]) rfl ?_
      refine G.is X dX0_worstAnew_49 (by decide) (lv' := [(6, .int (nI (w_wet (w_fall S k) n))), (5, .int (nI k)), (4, .int ((bmin (fun i => nI (w_wet (w_fall S i) n)) (-9, nI (w_wet S n)) k).2)), (3, .int ((bmin (fun i => nI (w_wet (w_fall S i) n)) (-9, nI (w_wet S n)) k).1)), (0, .ref (o 0)), (1, .ref (a 0)), (2, .int (nI n))]) rfl ?_
      refine G.il X dX0_worstAnew_51 0 rfl ?_
      refine G.il X dX0_worstAnew_53 2 rfl ?_
      refine G.c_ge X (a := nI (w_wet (w_fall S k) n)) (b := ((bmin (fun i => nI (w_wet (w_fall S i) n)) (-9, nI (w_wet S n)) k).2)) dX0_worstAnew_55 (fun h55 => ?_) (fun h55 => ?_)
      · refine G.iinc X dX0_worstAnew_65 1 rfl (v' := nI (k + 1)) (nI_inc k) (by decide) (lv' := [(5, .int (nI (k + 1))), (6, .int (nI (w_wet (w_fall S k) n))), (4, .int ((bmin (fun i => nI (w_wet (w_fall S i) n)) (-9, nI (w_wet S n)) k).2)), (3, .int ((bmin (fun i => nI (w_wet (w_fall S i) n)) (-9, nI (w_wet S n)) k).1)), (0, .ref (o 0)), (1, .ref (a 0)), (2, .int (nI n))]) rfl ?_
        refine G.go X dX0_worstAnew_68 ?_
        replace ih14 := ih14 (w_dayN (w_fall S k) n)
        rw [show ((bmin (fun i => nI (w_wet (w_fall S i) n)) (-9, nI (w_wet S n)) (k + 1)).2) = ((bmin (fun i => nI (w_wet (w_fall S i) n)) (-9, nI (w_wet S n)) k).2) from (by simp [bmax, bmin, yes, h20, h55])] at ih14
        rw [show ((bmin (fun i => nI (w_wet (w_fall S i) n)) (-9, nI (w_wet S n)) (k + 1)).1) = ((bmin (fun i => nI (w_wet (w_fall S i) n)) (-9, nI (w_wet S n)) k).1) from (by simp [bmax, bmin, yes, h20, h55])] at ih14
        refine G.lvsub [0, 2, 3, 4, 5, 6] (lv' := [(5, .int (nI (k + 1))), (4, .int ((bmin (fun i => nI (w_wet (w_fall S i) n)) (-9, nI (w_wet S n)) k).2)), (3, .int ((bmin (fun i => nI (w_wet (w_fall S i) n)) (-9, nI (w_wet S n)) k).1)), (0, .ref (o 0)), (1, .ref (a 0)), (2, .int (nI n))]) rfl ?_
        exact ih14
      · refine G.il X dX0_worstAnew_58 0 rfl ?_
        refine G.is X dX0_worstAnew_60 (by decide) (lv' := [(4, .int (nI (w_wet (w_fall S k) n))), (6, .int (nI (w_wet (w_fall S k) n))), (5, .int (nI k)), (3, .int ((bmin (fun i => nI (w_wet (w_fall S i) n)) (-9, nI (w_wet S n)) k).1)), (0, .ref (o 0)), (1, .ref (a 0)), (2, .int (nI n))]) rfl ?_
        refine G.il X dX0_worstAnew_62 2 rfl ?_
        refine G.is X dX0_worstAnew_64 (by decide) (lv' := [(3, .int (nI k)), (4, .int (nI (w_wet (w_fall S k) n))), (6, .int (nI (w_wet (w_fall S k) n))), (5, .int (nI k)), (0, .ref (o 0)), (1, .ref (a 0)), (2, .int (nI n))]) rfl ?_
        refine G.iinc X dX0_worstAnew_65 3 rfl (v' := nI (k + 1)) (nI_inc k) (by decide) (lv' := [(5, .int (nI (k + 1))), (3, .int (nI k)), (4, .int (nI (w_wet (w_fall S k) n))), (6, .int (nI (w_wet (w_fall S k) n))), (0, .ref (o 0)), (1, .ref (a 0)), (2, .int (nI n))]) rfl ?_
        refine G.go X dX0_worstAnew_68 ?_
        replace ih14 := ih14 (w_dayN (w_fall S k) n)
        rw [show ((bmin (fun i => nI (w_wet (w_fall S i) n)) (-9, nI (w_wet S n)) (k + 1)).2) = (nI (w_wet (w_fall S k) n)) from (by simp [bmax, bmin, yes, h20, h55])] at ih14
        rw [show ((bmin (fun i => nI (w_wet (w_fall S i) n)) (-9, nI (w_wet S n)) (k + 1)).1) = (nI k) from (by simp [bmax, bmin, yes, h20, h55])] at ih14
        refine G.lvsub [0, 2, 1, 4, 5, 6] (lv' := [(5, .int (nI (k + 1))), (4, .int (nI (w_wet (w_fall S k) n))), (3, .int (nI k)), (0, .ref (o 0)), (1, .ref (a 0)), (2, .int (nI n))]) rfl ?_
        exact ih14
  have L14 := L14 0 (Nat.zero_le _) (w_dayN S n)
  exact L14

set_option maxRecDepth 20000 in
theorem tX0_waterWithOneMore (l : Launch) (D : va_G) (cI cW : ClassId) (o : Nat → Nat) (b : Nat → Nat) (q : FN × FN) (T : WS) (a : Nat → Nat) (S : WS) (kd : Int32) (w : Int32) (p : Nat) (n : Nat) (hS : Ok S) (ht9 : s_th S < 9) (hp : p < s_pe S) (hkd : ∃ q, q ≤ 5 ∧ kd = nI q) (hw : ∃ q, q ≤ 9 ∧ w = nI q) (hn : n < 2 ^ 31) : CT l D cI cW yX0_waterWithOneMore cX0_waterWithOneMore 6 (some .int) ⟨4, 0, 0, 90⟩ [.ref (o 0), .ref (a 0), .int kd, .int w, .int (nI p), .int (nI n)] ([al o b cI q, wl b cI T, wl a cI S]) (PI (nI (w_wet (w_add S kd w (nI p)) n)) ([al o b cI q, wl b cI (w_dayN (w_add S kd w (nI p)) n), wl a cI S])) := by
  refine CT.of RX0 rfl (by decide +kernel) (Nat.le_of_ble_eq_true rfl) [(0, .ref (o 0)), (1, .ref (a 0)), (2, .int kd), (3, .int w), (4, .int (nI p)), (5, .int (nI n))] rfl (fun x X Rr hnm => ?_)
  have hth := hS.th
  have hpe := hS.pe
  refine G.al X dX0_waterWithOneMore_0 0 rfl ?_
  refine G.get X fX0_12 dX0_waterWithOneMore_1 0 0 rfl rfl rfl ?_
  refine G.al X dX0_waterWithOneMore_4 1 rfl ?_
  refine G.cvv X kX5_becomes lX0_25 dX0_waterWithOneMore_5 (tX5_becomes l D cI cW b T a S) ⟨Nat.le_of_ble_eq_true rfl, Nat.le_of_ble_eq_true rfl⟩ ⟨Nat.zero_le _, Nat.zero_le _⟩ [1, 2] rfl ⟨rfl, rfl⟩ rfl rfl 1 0 rfl rfl rfl rfl (Nat.le_of_ble_eq_true rfl) (ff_cons (wl_fst _ _ _ _) (ff_cons (wl_fst _ _ _ _) (ff_nil))) (ws' := [al o b cI q, wl b cI S, wl a cI S]) rfl ?_
  refine G.al X dX0_waterWithOneMore_8 0 rfl ?_
  refine G.get X fX0_12 dX0_waterWithOneMore_9 0 0 rfl rfl rfl ?_
  refine G.il X dX0_waterWithOneMore_12 2 rfl ?_
  refine G.il X dX0_waterWithOneMore_13 3 rfl ?_
  refine G.il X dX0_waterWithOneMore_14 4 rfl ?_
  refine G.cvi X kX5_addThing lX0_64 dX0_waterWithOneMore_16 (tX5_addThing l D cI cW b S kd w (nI p) (by omega) (by omega) (z_in_nI hp (by omega))) ⟨Nat.le_of_ble_eq_true rfl, Nat.le_of_ble_eq_true rfl⟩ ⟨Nat.zero_le _, Nat.zero_le _⟩ [1] rfl ⟨rfl, rfl⟩ rfl rfl 1 0 rfl rfl rfl rfl (Nat.le_of_ble_eq_true rfl) (ff_cons (wl_fst _ _ _ _) (ff_nil)) (ws' := [al o b cI q, wl b cI (w_add S kd w (nI p)), wl a cI S]) rfl ?_
  refine G.popi X dX0_waterWithOneMore_19 ?_
  refine G.al X dX0_waterWithOneMore_20 0 rfl ?_
  refine G.get X fX0_12 dX0_waterWithOneMore_21 0 0 rfl rfl rfl ?_
  refine G.il X dX0_waterWithOneMore_24 5 rfl ?_
  refine G.cvi X kX5_waterInPassing lX0_29 dX0_waterWithOneMore_26 (tX5_waterInPassing l D cI cW b (w_add S kd w (nI p)) n (ok_add hS ht9 hkd hw ⟨p, hp, rfl⟩) (by omega)) ⟨Nat.le_of_ble_eq_true rfl, Nat.le_of_ble_eq_true rfl⟩ ⟨Nat.zero_le _, Nat.zero_le _⟩ [1] rfl ⟨rfl, rfl⟩ rfl rfl 1 0 rfl rfl rfl rfl (Nat.le_of_ble_eq_true rfl) (ff_cons (wl_fst _ _ _ _) (ff_nil)) (ws' := [al o b cI q, wl b cI (w_dayN (w_add S kd w (nI p)) n), wl a cI S]) rfl ?_
  exact G.iret X Rr (v := nI (w_wet (w_add S kd w (nI p)) n)) dX0_waterWithOneMore_29 (pi_mk (by rfl) (by rfl))

set_option maxRecDepth 20000 in
theorem tX0_bestDropper (l : Launch) (D : va_G) (cI cW : ClassId) (o : Nat → Nat) (b : Nat → Nat) (q : FN × FN) (T : WS) (a : Nat → Nat) (S : WS) (kd : Int32) (w : Int32) (n : Nat) (hS : Ok S) (ht9 : s_th S < 9) (hkd : ∃ q, q ≤ 5 ∧ kd = nI q) (hw : ∃ q, q ≤ 9 ∧ w = nI q) (hn : n < 2 ^ 30) : CT l D cI cW yX0_bestDropper cX0_bestDropper 9 (some .int) ⟨5, 0, 0, 115⟩ [.ref (o 0), .ref (a 0), .int kd, .int w, .int (nI n)] ([al o b cI q, wl b cI T, wl a cI S]) (PIE ((bmin (fun p => nI (w_wet (w_add S kd w (nI p)) n)) (-9, nI (n + 1)) (s_pe S)).1) (fun T9 : WS => [al o b cI q, wl b cI T9, wl a cI S])) := by
  refine CT.of RX0 rfl (by decide +kernel) (Nat.le_of_ble_eq_true rfl) [(0, .ref (o 0)), (1, .ref (a 0)), (2, .int kd), (3, .int w), (4, .int (nI n))] rfl (fun x X Rr hnm => ?_)
  have hth := hS.th
  have hpe := hS.pe
  refine G.pu X dX0_bestDropper_0 ?_
  refine G.is X dX0_bestDropper_2 (by decide) (lv' := [(5, .int (-9)), (0, .ref (o 0)), (1, .ref (a 0)), (2, .int kd), (3, .int w), (4, .int (nI n))]) rfl ?_
  refine G.il X dX0_bestDropper_4 5 rfl ?_
  refine G.pu X dX0_bestDropper_6 ?_
  refine G.nadd X (a := n) (b := 1) dX0_bestDropper_7 ?_
  refine G.is X dX0_bestDropper_8 (by decide) (lv' := [(6, .int (nI (n + 1))), (5, .int (-9)), (0, .ref (o 0)), (1, .ref (a 0)), (2, .int kd), (3, .int w), (4, .int (nI n))]) rfl ?_
  refine G.pu X dX0_bestDropper_10 ?_
  refine G.is X dX0_bestDropper_11 (by decide) (lv' := [(7, .int 0), (6, .int (nI (n + 1))), (5, .int (-9)), (0, .ref (o 0)), (1, .ref (a 0)), (2, .int kd), (3, .int w), (4, .int (nI n))]) rfl ?_
  have L13 : ∀ k, k ≤ s_pe S → ∀ T8 : WS, G x 0 0 ([al o b cI q, wl b cI T8, wl a cI S]) 13 [(7, .int (nI k)), (6, .int ((bmin (fun p => nI (w_wet (w_add S kd w (nI p)) n)) (-9, nI (n + 1)) k).2)), (5, .int ((bmin (fun p => nI (w_wet (w_add S kd w (nI p)) n)) (-9, nI (n + 1)) k).1)), (0, .ref (o 0)), (1, .ref (a 0)), (2, .int kd), (3, .int w), (4, .int (nI n))] [] := by
    refine loop_dn (s_pe S) _ ?_ ?_
    · intro T8
      refine G.al X dX0_bestDropper_13 4 rfl ?_
      refine G.get X fX0_54 dX0_bestDropper_14 2 0 rfl rfl rfl ?_
      refine G.pu X dX0_bestDropper_17 ?_
      refine G.n_ge X (a := s_th S) (b := 9) (by omega) (by omega) dX0_bestDropper_19 (fun h19 => absurd h19 (by omega)) (fun h19 => ?_)
      refine G.il X dX0_bestDropper_22 0 rfl ?_
      refine G.al X dX0_bestDropper_24 4 rfl ?_
      refine G.get X fX0_37 dX0_bestDropper_25 2 0 rfl rfl rfl ?_
      refine G.n_ge X (a := s_pe S) (b := s_pe S) (by omega) (by omega) dX0_bestDropper_28 (fun h28 => ?_) (fun h28 => absurd h28 (by omega))
      refine G.il X dX0_bestDropper_65 2 rfl ?_
      exact G.iret X Rr (v := ((bmin (fun p => nI (w_wet (w_add S kd w (nI p)) n)) (-9, nI (n + 1)) (s_pe S)).1)) dX0_bestDropper_67 (pie_mk (T8) (by rfl) (by rfl))
    · intro k hk ih13 T8
      refine G.al X dX0_bestDropper_13 4 rfl ?_
      refine G.get X fX0_54 dX0_bestDropper_14 2 0 rfl rfl rfl ?_
      refine G.pu X dX0_bestDropper_17 ?_
      refine G.n_ge X (a := s_th S) (b := 9) (by omega) (by omega) dX0_bestDropper_19 (fun h19 => absurd h19 (by omega)) (fun h19 => ?_)
      refine G.il X dX0_bestDropper_22 0 rfl ?_
      refine G.al X dX0_bestDropper_24 4 rfl ?_
      refine G.get X fX0_37 dX0_bestDropper_25 2 0 rfl rfl rfl ?_
      refine G.n_ge X (a := k) (b := s_pe S) (by omega) (by omega) dX0_bestDropper_28 (fun h28 => absurd h28 (by omega)) (fun h28 => ?_)
      refine G.al X dX0_bestDropper_31 3 rfl ?_
      refine G.al X dX0_bestDropper_32 4 rfl ?_
      refine G.il X dX0_bestDropper_33 5 rfl ?_
      refine G.il X dX0_bestDropper_34 6 rfl ?_
      refine G.il X dX0_bestDropper_35 0 rfl ?_
      refine G.il X dX0_bestDropper_37 7 rfl ?_
      refine G.cvi X kX0_waterWithOneMore lX0_60 dX0_bestDropper_39 (tX0_waterWithOneMore l D cI cW o b q T8 a S kd w k n hS (by omega) (by omega) hkd hw (by omega)) ⟨Nat.le_of_ble_eq_true rfl, Nat.le_of_ble_eq_true rfl⟩ ⟨Nat.zero_le _, Nat.zero_le _⟩ [0, 1, 2] rfl ⟨rfl, rfl⟩ rfl rfl 0 0 rfl rfl rfl rfl (Nat.le_of_ble_eq_true rfl) (ff_cons (al_fst _ _ _ _ _) (ff_cons (wl_fst _ _ _ _) (ff_cons (wl_fst _ _ _ _) (ff_nil)))) (ws' := [al o b cI q, wl b cI (w_dayN (w_add S kd w (nI k)) n), wl a cI S]) rfl ?_
      refine G.is X dX0_bestDropper_42 (by decide) (lv' := [(8, .int (nI (w_wet (w_add S kd w (nI k)) n))), (7, .int (nI k)), (6, .int ((bmin (fun p => nI (w_wet (w_add S kd w (nI p)) n)) (-9, nI (n + 1)) k).2)), (5, .int ((bmin (fun p => nI (w_wet (w_add S kd w (nI p)) n)) (-9, nI (n + 1)) k).1)), (0, .ref (o 0)), (1, .ref (a 0)), (2, .int kd), (3, .int w), (4, .int (nI n))]) rfl ?_
      refine G.il X dX0_bestDropper_44 0 rfl ?_
      refine G.il X dX0_bestDropper_46 2 rfl ?_
      refine G.c_ge X (a := nI (w_wet (w_add S kd w (nI k)) n)) (b := ((bmin (fun p => nI (w_wet (w_add S kd w (nI p)) n)) (-9, nI (n + 1)) k).2)) dX0_bestDropper_48 (fun h48 => ?_) (fun h48 => ?_)
      · refine G.iinc X dX0_bestDropper_59 1 rfl (v' := nI (k + 1)) (nI_inc k) (by decide) (lv' := [(7, .int (nI (k + 1))), (8, .int (nI (w_wet (w_add S kd w (nI k)) n))), (6, .int ((bmin (fun p => nI (w_wet (w_add S kd w (nI p)) n)) (-9, nI (n + 1)) k).2)), (5, .int ((bmin (fun p => nI (w_wet (w_add S kd w (nI p)) n)) (-9, nI (n + 1)) k).1)), (0, .ref (o 0)), (1, .ref (a 0)), (2, .int kd), (3, .int w), (4, .int (nI n))]) rfl ?_
        refine G.go X dX0_bestDropper_62 ?_
        replace ih13 := ih13 (w_dayN (w_add S kd w (nI k)) n)
        rw [show ((bmin (fun p => nI (w_wet (w_add S kd w (nI p)) n)) (-9, nI (n + 1)) (k + 1)).2) = ((bmin (fun p => nI (w_wet (w_add S kd w (nI p)) n)) (-9, nI (n + 1)) k).2) from (by simp [bmax, bmin, yes, h19, h28, h48])] at ih13
        rw [show ((bmin (fun p => nI (w_wet (w_add S kd w (nI p)) n)) (-9, nI (n + 1)) (k + 1)).1) = ((bmin (fun p => nI (w_wet (w_add S kd w (nI p)) n)) (-9, nI (n + 1)) k).1) from (by simp [bmax, bmin, yes, h19, h28, h48])] at ih13
        refine G.lvsub [0, 2, 3, 4, 5, 6, 7, 8] (lv' := [(7, .int (nI (k + 1))), (6, .int ((bmin (fun p => nI (w_wet (w_add S kd w (nI p)) n)) (-9, nI (n + 1)) k).2)), (5, .int ((bmin (fun p => nI (w_wet (w_add S kd w (nI p)) n)) (-9, nI (n + 1)) k).1)), (0, .ref (o 0)), (1, .ref (a 0)), (2, .int kd), (3, .int w), (4, .int (nI n))]) rfl ?_
        exact ih13
      · refine G.il X dX0_bestDropper_51 0 rfl ?_
        refine G.is X dX0_bestDropper_53 (by decide) (lv' := [(6, .int (nI (w_wet (w_add S kd w (nI k)) n))), (8, .int (nI (w_wet (w_add S kd w (nI k)) n))), (7, .int (nI k)), (5, .int ((bmin (fun p => nI (w_wet (w_add S kd w (nI p)) n)) (-9, nI (n + 1)) k).1)), (0, .ref (o 0)), (1, .ref (a 0)), (2, .int kd), (3, .int w), (4, .int (nI n))]) rfl ?_
        refine G.il X dX0_bestDropper_55 2 rfl ?_
        refine G.is X dX0_bestDropper_57 (by decide) (lv' := [(5, .int (nI k)), (6, .int (nI (w_wet (w_add S kd w (nI k)) n))), (8, .int (nI (w_wet (w_add S kd w (nI k)) n))), (7, .int (nI k)), (0, .ref (o 0)), (1, .ref (a 0)), (2, .int kd), (3, .int w), (4, .int (nI n))]) rfl ?_
        refine G.iinc X dX0_bestDropper_59 3 rfl (v' := nI (k + 1)) (nI_inc k) (by decide) (lv' := [(7, .int (nI (k + 1))), (5, .int (nI k)), (6, .int (nI (w_wet (w_add S kd w (nI k)) n))), (8, .int (nI (w_wet (w_add S kd w (nI k)) n))), (0, .ref (o 0)), (1, .ref (a 0)), (2, .int kd), (3, .int w), (4, .int (nI n))]) rfl ?_
        refine G.go X dX0_bestDropper_62 ?_
        replace ih13 := ih13 (w_dayN (w_add S kd w (nI k)) n)
        rw [show ((bmin (fun p => nI (w_wet (w_add S kd w (nI p)) n)) (-9, nI (n + 1)) (k + 1)).2) = (nI (w_wet (w_add S kd w (nI k)) n)) from (by simp [bmax, bmin, yes, h19, h28, h48])] at ih13
        rw [show ((bmin (fun p => nI (w_wet (w_add S kd w (nI p)) n)) (-9, nI (n + 1)) (k + 1)).1) = (nI k) from (by simp [bmax, bmin, yes, h19, h28, h48])] at ih13
        refine G.lvsub [0, 2, 1, 4, 5, 6, 7, 8] (lv' := [(7, .int (nI (k + 1))), (6, .int (nI (w_wet (w_add S kd w (nI k)) n))), (5, .int (nI k)), (0, .ref (o 0)), (1, .ref (a 0)), (2, .int kd), (3, .int w), (4, .int (nI n))]) rfl ?_
        exact ih13
  have L13 := L13 0 (Nat.zero_le _) T
  exact L13

set_option maxRecDepth 20000 in
theorem tX0_bestDropper_full (l : Launch) (D : va_G) (cI cW : ClassId) (o : Nat → Nat) (b : Nat → Nat) (q : FN × FN) (T : WS) (a : Nat → Nat) (S : WS) (kd : Int32) (w : Int32) (n : Nat) (hS : Ok S) (ht9 : ¬ s_th S < 9) : CT l D cI cW yX0_bestDropper cX0_bestDropper 9 (some .int) ⟨0, 0, 0, 0⟩ [.ref (o 0), .ref (a 0), .int kd, .int w, .int (nI n)] ([al o b cI q, wl b cI T, wl a cI S]) (PI (-9) ([al o b cI q, wl b cI T, wl a cI S])) := by
  refine CT.of RX0 rfl (by decide +kernel) (Nat.le_of_ble_eq_true rfl) [(0, .ref (o 0)), (1, .ref (a 0)), (2, .int kd), (3, .int w), (4, .int (nI n))] rfl (fun x X Rr hnm => ?_)
  have hth := hS.th
  have hpe := hS.pe
  refine G.pu X dX0_bestDropper_0 ?_
  refine G.is X dX0_bestDropper_2 (by decide) (lv' := [(5, .int (-9)), (0, .ref (o 0)), (1, .ref (a 0)), (2, .int kd), (3, .int w), (4, .int (nI n))]) rfl ?_
  refine G.il X dX0_bestDropper_4 5 rfl ?_
  refine G.pu X dX0_bestDropper_6 ?_
  refine G.nadd X (a := n) (b := 1) dX0_bestDropper_7 ?_
  refine G.is X dX0_bestDropper_8 (by decide) (lv' := [(6, .int (nI (n + 1))), (5, .int (-9)), (0, .ref (o 0)), (1, .ref (a 0)), (2, .int kd), (3, .int w), (4, .int (nI n))]) rfl ?_
  refine G.pu X dX0_bestDropper_10 ?_
  refine G.is X dX0_bestDropper_11 (by decide) (lv' := [(7, .int 0), (6, .int (nI (n + 1))), (5, .int (-9)), (0, .ref (o 0)), (1, .ref (a 0)), (2, .int kd), (3, .int w), (4, .int (nI n))]) rfl ?_
  refine G.al X dX0_bestDropper_13 4 rfl ?_
  refine G.get X fX0_54 dX0_bestDropper_14 2 0 rfl rfl rfl ?_
  refine G.pu X dX0_bestDropper_17 ?_
  refine G.n_ge X (a := s_th S) (b := 9) (by omega) (by omega) dX0_bestDropper_19 (fun h19 => ?_) (fun h19 => absurd h19 (by omega))
  refine G.il X dX0_bestDropper_65 2 rfl ?_
  exact G.iret X Rr (v := (-9)) dX0_bestDropper_67 (pi_mk (by rfl) (by rfl))
