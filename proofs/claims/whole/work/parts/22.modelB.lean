set_option maxRecDepth 20000 in
theorem tX7_answersOf (l : Launch) (D : va_G) (cI cW : ClassId) (m : Nat → Nat) (S : WS) (M : MS) (p : Nat) (hS : Ok S) (hp : p < s_pe S) (hco : m_co M = false) : CT l D cI cW yX7_answersOf cX7_answersOf 3 none ⟨2, 0, 0, 43⟩ [.ref (m 0), .int (nI p)] ([ml m cI S M]) (PV ([ml m cI (w_anD S p) M])) := by
  refine CT.of RX7 rfl (by decide +kernel) (Nat.le_of_ble_eq_true rfl) [(0, .ref (m 0)), (1, .int (nI p))] rfl (fun x X Rr hnm => ?_)
  have hth := hS.th
  have hpe := hS.pe
  refine G.al X dX7_answersOf_0 0 rfl ?_
  refine G.get X fX7_187 dX7_answersOf_1 0 0 rfl rfl rfl ?_
  refine G.b_ne X dX7_answersOf_4 (fun b4 => absurd (Eq.trans (Eq.symm hco) b4) (by decide)) (fun b4 => ?_)
  refine G.al X dX7_answersOf_7 0 rfl ?_
  refine G.get X fX7_113 dX7_answersOf_8 0 0 rfl rfl rfl ?_
  refine G.al X dX7_answersOf_11 0 rfl ?_
  refine G.get X fX7_16 dX7_answersOf_12 0 0 rfl rfl rfl ?_
  refine G.il X dX7_answersOf_15 1 rfl ?_
  refine G.nld X (i := p) dX7_answersOf_16 0 3 rfl rfl (by omega) (by decide) ?_
  refine G.pu X dX7_answersOf_17 ?_
  refine G.iadd X dX7_answersOf_18 ?_
  refine G.irem X dX7_answersOf_19 (ok_shn hS hp) ?_
  refine G.z_eq X (a := (rm32 (s_da S) (((s_sh S) p) + 1))) dX7_answersOf_20 (fun b20 => ?_) (fun b20 => ?_)
  · refine G.pu X dX7_answersOf_24 ?_
    refine G.is X dX7_answersOf_25 (by decide) (lv' := [(2, .int 0), (0, .ref (m 0)), (1, .int (nI p))]) rfl ?_
    have L26 : ∀ k, k ≤ s_th S → (∀ j, j < k → w_can S p j = false) → G x 0 0 ([ml m cI S M]) 26 [(2, .int (nI k)), (0, .ref (m 0)), (1, .int (nI p))] [] := by
      refine loop_dn (s_th S) _ ?_ ?_
      · intro hinv26
        refine G.il X dX7_answersOf_26 0 rfl ?_
        refine G.al X dX7_answersOf_27 1 rfl ?_
        refine G.get X fX7_58 dX7_answersOf_28 0 0 rfl rfl rfl ?_
        refine G.n_ge X (a := s_th S) (b := s_th S) (by omega) (by omega) dX7_answersOf_31 (fun b31 => ?_) (fun b31 => absurd b31 (by omega))
        exact G.vret X Rr dX7_answersOf_75 (pv_mk (by rw [w_anD, if_pos b20, w_ansL, fi_none hinv26]))
      · intro k hk ih26 hinv26
        refine G.il X dX7_answersOf_26 0 rfl ?_
        refine G.al X dX7_answersOf_27 1 rfl ?_
        refine G.get X fX7_58 dX7_answersOf_28 0 0 rfl rfl rfl ?_
        refine G.n_ge X (a := k) (b := s_th S) (by omega) (by omega) dX7_answersOf_31 (fun b31 => absurd b31 (by omega)) (fun b31 => ?_)
        refine G.al X dX7_answersOf_34 1 rfl ?_
        refine G.il X dX7_answersOf_35 0 rfl ?_
        refine G.cvi X kX7_isAsking lX7_181 dX7_answersOf_36 (tX7_isAsking l D cI cW m S M k (by omega)) ⟨Nat.le_of_ble_eq_true rfl, Nat.le_of_ble_eq_true rfl⟩ ⟨Nat.zero_le _, Nat.zero_le _⟩ [0] rfl ⟨rfl, rfl⟩ rfl rfl 0 0 rfl rfl rfl rfl (Nat.le_of_ble_eq_true rfl) (ff_cons (ml_fst _ _ _ _ _ _) (ff_nil)) (ws' := [ml m cI S M]) rfl ?_
        refine G.b_eq X dX7_answersOf_39 (fun b39 => ?_) (fun b39 => ?_)
        · refine G.iinc X dX7_answersOf_69 0 rfl (v' := nI (k + 1)) (nI_inc k) (by decide) (lv' := [(2, .int (nI (k + 1))), (0, .ref (m 0)), (1, .int (nI p))]) rfl ?_
          refine G.go X dX7_answersOf_72 ?_
          exact ih26 (lt_snoc hinv26 (can_na b39))
        · refine G.al X dX7_answersOf_42 1 rfl ?_
          refine G.get X fX7_28 dX7_answersOf_43 0 0 rfl rfl rfl ?_
          refine G.il X dX7_answersOf_46 0 rfl ?_
          refine G.nld X (i := k) dX7_answersOf_47 0 7 rfl rfl (by omega) (by decide) ?_
          refine G.il X dX7_answersOf_48 2 rfl ?_
          refine G.c_ne X (a := ((s_dp S) k)) (b := nI p) dX7_answersOf_49 (fun b49 => ?_) (fun b49 => ?_)
          · refine G.iinc X dX7_answersOf_69 0 rfl (v' := nI (k + 1)) (nI_inc k) (by decide) (lv' := [(2, .int (nI (k + 1))), (0, .ref (m 0)), (1, .int (nI p))]) rfl ?_
            refine G.go X dX7_answersOf_72 ?_
            exact ih26 (lt_snoc hinv26 (can_no b49))
          · refine G.al X dX7_answersOf_52 1 rfl ?_
            refine G.il X dX7_answersOf_53 0 rfl ?_
            refine G.cvi X kX7_isKnown lX7_190 dX7_answersOf_54 (tX7_isKnown l D cI cW m S M k hS (by omega)) ⟨Nat.le_of_ble_eq_true rfl, Nat.le_of_ble_eq_true rfl⟩ ⟨Nat.zero_le _, Nat.zero_le _⟩ [0] rfl ⟨rfl, rfl⟩ rfl rfl 0 0 rfl rfl rfl rfl (Nat.le_of_ble_eq_true rfl) (ff_cons (ml_fst _ _ _ _ _ _) (ff_nil)) (ws' := [ml m cI S M]) rfl ?_
            refine G.b_ne X dX7_answersOf_57 (fun b57 => ?_) (fun b57 => ?_)
            · refine G.al X dX7_answersOf_63 1 rfl ?_
              refine G.il X dX7_answersOf_64 0 rfl ?_
              refine G.cvv X kX7_answersOne lX7_193 dX7_answersOf_65 (tX7_answersOne l D cI cW m S M k hS (by omega)) ⟨Nat.le_of_ble_eq_true rfl, Nat.le_of_ble_eq_true rfl⟩ ⟨Nat.zero_le _, Nat.zero_le _⟩ [0] rfl ⟨rfl, rfl⟩ rfl rfl 0 0 rfl rfl rfl rfl (Nat.le_of_ble_eq_true rfl) (ff_cons (ml_fst _ _ _ _ _ _) (ff_nil)) (ws' := [ml m cI (w_ans1 S k) M]) rfl ?_
              exact G.vret X Rr dX7_answersOf_68 (pv_mk (by rw [w_anD, if_pos b20, w_ansL, fi_hit hinv26 (by rw [can_kno b49 (by omega)]; simp [b39, b57]) hk]))
            · refine G.go X dX7_answersOf_60 ?_
              refine G.iinc X dX7_answersOf_69 0 rfl (v' := nI (k + 1)) (nI_inc k) (by decide) (lv' := [(2, .int (nI (k + 1))), (0, .ref (m 0)), (1, .int (nI p))]) rfl ?_
              refine G.go X dX7_answersOf_72 ?_
              exact ih26 (lt_snoc hinv26 (by rw [can_kno b49 (by omega)]; simp [b57]))
    have L26 := L26 0 (Nat.zero_le _) (fun j hj => absurd hj (by omega))
    exact L26
  · exact G.vret X Rr dX7_answersOf_23 (pv_mk (by rw [w_anD, if_neg b20]))

set_option maxRecDepth 20000 in
theorem tX7_answersOf_cold (l : Launch) (D : va_G) (cI cW : ClassId) (m : Nat → Nat) (S : WS) (M : MS) (p : Nat) (hS : Ok S) (hco : m_co M = true) : CT l D cI cW yX7_answersOf cX7_answersOf 3 none ⟨0, 0, 0, 0⟩ [.ref (m 0), .int (nI p)] ([ml m cI S M]) (PV ([ml m cI S M])) := by
  refine CT.of RX7 rfl (by decide +kernel) (Nat.le_of_ble_eq_true rfl) [(0, .ref (m 0)), (1, .int (nI p))] rfl (fun x X Rr hnm => ?_)
  have hth := hS.th
  have hpe := hS.pe
  refine G.al X dX7_answersOf_0 0 rfl ?_
  refine G.get X fX7_187 dX7_answersOf_1 0 0 rfl rfl rfl ?_
  refine G.b_ne X dX7_answersOf_4 (fun b4 => ?_) (fun b4 => absurd (Eq.trans (Eq.symm hco) b4) (by decide))
  exact G.vret X Rr dX7_answersOf_23 (pv_mk (by rfl))

set_option maxRecDepth 20000 in
theorem tX7_goesDay (l : Launch) (D : va_G) (cI cW : ClassId) (m : Nat → Nat) (S : WS) (M : MS) (hS : Ok S) (hco : m_co M = false) : CT l D cI cW yX7_goesDay cX7_goesDay 2 none ⟨3, 0, 0, 65⟩ [.ref (m 0)] ([ml m cI S M]) (PV ([ml m cI (w_day true S) M])) := by
  refine CT.of RX7 rfl (by decide +kernel) (Nat.le_of_ble_eq_true rfl) [(0, .ref (m 0))] rfl (fun x X Rr hnm => ?_)
  have hth := hS.th
  have hpe := hS.pe
  refine G.al X dX7_goesDay_0 0 rfl ?_
  refine G.dupr X dX7_goesDay_1 ?_
  refine G.get X fX7_113 dX7_goesDay_2 0 0 rfl rfl rfl ?_
  refine G.pu X dX7_goesDay_5 ?_
  refine G.iadd X dX7_goesDay_6 ?_
  refine G.puti X fX7_113 fe7 dX7_goesDay_7 rfl rfl 0 0 rfl rfl (Nat.le_of_ble_eq_true rfl) (blk' := ml m cI (s_pe S, s_th S, (s_da S) + 1, s_dr S, s_kn S, s_sh S, s_an S, s_ki S, s_we S, s_dp S, s_wa S, s_le S) M) rfl (ws' := [ml m cI (s_pe S, s_th S, (s_da S) + 1, s_dr S, s_kn S, s_sh S, s_an S, s_ki S, s_we S, s_dp S, s_wa S, s_le S) M]) rfl ?_
  refine G.pu X dX7_goesDay_10 ?_
  refine G.is X dX7_goesDay_11 (by decide) (lv' := [(1, .int 0), (0, .ref (m 0))]) rfl ?_
  have L12 : ∀ k, k ≤ s_th S → G x 0 0 ([ml m cI (s_pe S, s_th S, (s_da S) + 1, s_dr S, s_kn S, s_sh S, s_an S, s_ki S, s_we S, s_dp S, w_dec (s_wa S) k, s_le S) M]) 12 [(1, .int (nI k)), (0, .ref (m 0))] [] := by
    refine loop_dn (s_th S) _ ?_ ?_
    · refine G.il X dX7_goesDay_12 0 rfl ?_
      refine G.al X dX7_goesDay_13 1 rfl ?_
      refine G.get X fX7_58 dX7_goesDay_14 0 0 rfl rfl rfl ?_
      refine G.n_ge X (a := s_th S) (b := s_th S) (by omega) (by omega) dX7_goesDay_17 (fun b17 => ?_) (fun b17 => absurd b17 (by omega))
      refine G.cg (ws' := [ml m cI (w_up1 S) M]) rfl rfl rfl ?_
      refine G.pu X dX7_goesDay_49 ?_
      refine G.is X dX7_goesDay_50 (by decide) (lv' := [(1, .int 0), (0, .ref (m 0))]) rfl ?_
      have L51 : ∀ k, k ≤ s_pe S → G x 0 0 ([ml m cI (w_dayP (w_up1 S) k) M]) 51 [(1, .int (nI k)), (0, .ref (m 0))] [] := by
        refine loop_dn (s_pe S) _ ?_ ?_
        · have f1 : s_pe (w_dayP (w_up1 S) (s_pe S)) = s_pe S := (fr_dayP (w_up1 S) (s_pe S)).1
          refine G.il X dX7_goesDay_51 0 rfl ?_
          refine G.al X dX7_goesDay_52 1 rfl ?_
          refine G.get X fX7_64 dX7_goesDay_53 0 0 rfl rfl rfl ?_
          refine G.n_ge X (a := s_pe S) (b := s_pe (w_dayP (w_up1 S) (s_pe S))) (by omega) (by omega) dX7_goesDay_56 (fun b56 => ?_) (fun b56 => absurd b56 (by omega))
          exact G.vret X Rr dX7_goesDay_70 (pv_mk (by simp [w_day]))
        · intro k hk ih51
          have hT : Ok (w_dayP (w_up1 S) k) := ok_dayP (ok_up1 hS) k
          have e1 : s_sh (w_dayP (w_up1 S) k) = s_sh (w_up1 S) := (fr_dayP (w_up1 S) k).2.2.2.2.1
          have e2 : s_da (w_dayP (w_up1 S) k) = s_da (w_up1 S) := da_dayP (w_up1 S) k
          have f1 : s_pe (w_dayP (w_up1 S) k) = s_pe S := (fr_dayP (w_up1 S) k).1
          refine G.il X dX7_goesDay_51 0 rfl ?_
          refine G.al X dX7_goesDay_52 1 rfl ?_
          refine G.get X fX7_64 dX7_goesDay_53 0 0 rfl rfl rfl ?_
          refine G.n_ge X (a := k) (b := s_pe (w_dayP (w_up1 S) k)) (by omega) (by omega) dX7_goesDay_56 (fun b56 => absurd b56 (by omega)) (fun b56 => ?_)
          refine G.al X dX7_goesDay_59 1 rfl ?_
          refine G.il X dX7_goesDay_60 0 rfl ?_
          refine G.cvv X kX7_answersOf lX7_196 dX7_goesDay_61 (tX7_answersOf l D cI cW m (w_dayP (w_up1 S) k) M k hT (by omega) hco) ⟨Nat.le_of_ble_eq_true rfl, Nat.le_of_ble_eq_true rfl⟩ ⟨Nat.zero_le _, Nat.zero_le _⟩ [0] rfl ⟨rfl, rfl⟩ rfl rfl 0 0 rfl rfl rfl rfl (Nat.le_of_ble_eq_true rfl) (ff_cons (ml_fst _ _ _ _ _ _) (ff_nil)) (ws' := [ml m cI (w_anD (w_dayP (w_up1 S) k) k) M]) rfl ?_
          refine G.iinc X dX7_goesDay_64 0 rfl (v' := nI (k + 1)) (nI_inc k) (by decide) (lv' := [(1, .int (nI (k + 1))), (0, .ref (m 0))]) rfl ?_
          refine G.go X dX7_goesDay_67 ?_
          rw [show (w_dayP (w_up1 S) (k + 1)) = (w_anD (w_dayP (w_up1 S) k) k) from (by simp only [w_dayP, w_anD, e1, e2])] at ih51
          exact ih51
      have L51 := L51 0 (Nat.zero_le _)
      exact L51
    · intro k hk ih12
      refine G.il X dX7_goesDay_12 0 rfl ?_
      refine G.al X dX7_goesDay_13 1 rfl ?_
      refine G.get X fX7_58 dX7_goesDay_14 0 0 rfl rfl rfl ?_
      refine G.n_ge X (a := k) (b := s_th S) (by omega) (by omega) dX7_goesDay_17 (fun b17 => absurd b17 (by omega)) (fun b17 => ?_)
      refine G.al X dX7_goesDay_20 1 rfl ?_
      refine G.get X fX7_31 dX7_goesDay_21 0 0 rfl rfl rfl ?_
      refine G.il X dX7_goesDay_24 0 rfl ?_
      refine G.dup2 X dX7_goesDay_25 ?_
      refine G.nld X (i := k) dX7_goesDay_26 0 8 rfl rfl (by omega) (by decide) ?_
      refine G.al X dX7_goesDay_27 1 rfl ?_
      refine G.get X fX7_31 dX7_goesDay_28 0 0 rfl rfl rfl ?_
      refine G.il X dX7_goesDay_31 0 rfl ?_
      refine G.nld X (i := k) dX7_goesDay_32 0 8 rfl rfl (by omega) (by decide) ?_
      refine G.z_le X (a := ((w_dec (s_wa S) k) k)) dX7_goesDay_33 (fun b33 => ?_) (fun b33 => ?_)
      · refine G.pu X dX7_goesDay_40 ?_
        refine G.isub X dX7_goesDay_41 ?_
        refine G.nst X (i := k) dX7_goesDay_42 0 8 rfl rfl (by omega) (by decide) (blk' := ml m cI (s_pe S, s_th S, (s_da S) + 1, s_dr S, s_kn S, s_sh S, s_an S, s_ki S, s_we S, s_dp S, upd (w_dec (s_wa S) k) k (((w_dec (s_wa S) k) k) - 0), s_le S) M) rfl (ws' := [ml m cI (s_pe S, s_th S, (s_da S) + 1, s_dr S, s_kn S, s_sh S, s_an S, s_ki S, s_we S, s_dp S, upd (w_dec (s_wa S) k) k (((w_dec (s_wa S) k) k) - 0), s_le S) M]) rfl ?_
        refine G.iinc X dX7_goesDay_43 0 rfl (v' := nI (k + 1)) (nI_inc k) (by decide) (lv' := [(1, .int (nI (k + 1))), (0, .ref (m 0))]) rfl ?_
        refine G.go X dX7_goesDay_46 ?_
        rw [show (w_dec (s_wa S) (k + 1)) = (upd (w_dec (s_wa S) k) k (((w_dec (s_wa S) k) k) - 0)) from (by simp [w_dec, upd_id, b17, b33])] at ih12
        exact ih12
      · refine G.pu X dX7_goesDay_36 ?_
        refine G.go X dX7_goesDay_37 ?_
        refine G.isub X dX7_goesDay_41 ?_
        refine G.nst X (i := k) dX7_goesDay_42 0 8 rfl rfl (by omega) (by decide) (blk' := ml m cI (s_pe S, s_th S, (s_da S) + 1, s_dr S, s_kn S, s_sh S, s_an S, s_ki S, s_we S, s_dp S, upd (w_dec (s_wa S) k) k (((w_dec (s_wa S) k) k) - 1), s_le S) M) rfl (ws' := [ml m cI (s_pe S, s_th S, (s_da S) + 1, s_dr S, s_kn S, s_sh S, s_an S, s_ki S, s_we S, s_dp S, upd (w_dec (s_wa S) k) k (((w_dec (s_wa S) k) k) - 1), s_le S) M]) rfl ?_
        refine G.iinc X dX7_goesDay_43 0 rfl (v' := nI (k + 1)) (nI_inc k) (by decide) (lv' := [(1, .int (nI (k + 1))), (0, .ref (m 0))]) rfl ?_
        refine G.go X dX7_goesDay_46 ?_
        rw [show (w_dec (s_wa S) (k + 1)) = (upd (w_dec (s_wa S) k) k (((w_dec (s_wa S) k) k) - 1)) from (by simp [w_dec, upd_id, b17, b33])] at ih12
        exact ih12
  have L12 := L12 0 (Nat.zero_le _)
  exact L12

set_option maxRecDepth 20000 in
theorem tX7_goesDay_cold (l : Launch) (D : va_G) (cI cW : ClassId) (m : Nat → Nat) (S : WS) (M : MS) (hS : Ok S) (hco : m_co M = true) : CT l D cI cW yX7_goesDay cX7_goesDay 2 none ⟨1, 0, 0, 22⟩ [.ref (m 0)] ([ml m cI S M]) (PV ([ml m cI (w_day false S) M])) := by
  refine CT.of RX7 rfl (by decide +kernel) (Nat.le_of_ble_eq_true rfl) [(0, .ref (m 0))] rfl (fun x X Rr hnm => ?_)
  have hth := hS.th
  have hpe := hS.pe
  refine G.al X dX7_goesDay_0 0 rfl ?_
  refine G.dupr X dX7_goesDay_1 ?_
  refine G.get X fX7_113 dX7_goesDay_2 0 0 rfl rfl rfl ?_
  refine G.pu X dX7_goesDay_5 ?_
  refine G.iadd X dX7_goesDay_6 ?_
  refine G.puti X fX7_113 fe7 dX7_goesDay_7 rfl rfl 0 0 rfl rfl (Nat.le_of_ble_eq_true rfl) (blk' := ml m cI (s_pe S, s_th S, (s_da S) + 1, s_dr S, s_kn S, s_sh S, s_an S, s_ki S, s_we S, s_dp S, s_wa S, s_le S) M) rfl (ws' := [ml m cI (s_pe S, s_th S, (s_da S) + 1, s_dr S, s_kn S, s_sh S, s_an S, s_ki S, s_we S, s_dp S, s_wa S, s_le S) M]) rfl ?_
  refine G.pu X dX7_goesDay_10 ?_
  refine G.is X dX7_goesDay_11 (by decide) (lv' := [(1, .int 0), (0, .ref (m 0))]) rfl ?_
  have L12 : ∀ k, k ≤ s_th S → G x 0 0 ([ml m cI (s_pe S, s_th S, (s_da S) + 1, s_dr S, s_kn S, s_sh S, s_an S, s_ki S, s_we S, s_dp S, w_dec (s_wa S) k, s_le S) M]) 12 [(1, .int (nI k)), (0, .ref (m 0))] [] := by
    refine loop_dn (s_th S) _ ?_ ?_
    · refine G.il X dX7_goesDay_12 0 rfl ?_
      refine G.al X dX7_goesDay_13 1 rfl ?_
      refine G.get X fX7_58 dX7_goesDay_14 0 0 rfl rfl rfl ?_
      refine G.n_ge X (a := s_th S) (b := s_th S) (by omega) (by omega) dX7_goesDay_17 (fun b17 => ?_) (fun b17 => absurd b17 (by omega))
      refine G.cg (ws' := [ml m cI (w_up1 S) M]) rfl rfl rfl ?_
      refine G.pu X dX7_goesDay_49 ?_
      refine G.is X dX7_goesDay_50 (by decide) (lv' := [(1, .int 0), (0, .ref (m 0))]) rfl ?_
      have L51 : ∀ k, k ≤ s_pe S → G x 0 0 ([ml m cI (w_up1 S) M]) 51 [(1, .int (nI k)), (0, .ref (m 0))] [] := by
        refine loop_dn (s_pe S) _ ?_ ?_
        · have f1 : s_pe (w_up1 S) = s_pe S := rfl
          refine G.il X dX7_goesDay_51 0 rfl ?_
          refine G.al X dX7_goesDay_52 1 rfl ?_
          refine G.get X fX7_64 dX7_goesDay_53 0 0 rfl rfl rfl ?_
          refine G.n_ge X (a := s_pe S) (b := s_pe (w_up1 S)) (by omega) (by omega) dX7_goesDay_56 (fun b56 => ?_) (fun b56 => absurd b56 (by omega))
          exact G.vret X Rr dX7_goesDay_70 (pv_mk (by simp [w_day]))
        · intro k hk ih51
          have f1 : s_pe (w_up1 S) = s_pe S := rfl
          refine G.il X dX7_goesDay_51 0 rfl ?_
          refine G.al X dX7_goesDay_52 1 rfl ?_
          refine G.get X fX7_64 dX7_goesDay_53 0 0 rfl rfl rfl ?_
          refine G.n_ge X (a := k) (b := s_pe (w_up1 S)) (by omega) (by omega) dX7_goesDay_56 (fun b56 => absurd b56 (by omega)) (fun b56 => ?_)
          refine G.al X dX7_goesDay_59 1 rfl ?_
          refine G.il X dX7_goesDay_60 0 rfl ?_
          refine G.cvv X kX7_answersOf lX7_196 dX7_goesDay_61 (tX7_answersOf_cold l D cI cW m (w_up1 S) M k (ok_up1 hS) hco) ⟨Nat.le_of_ble_eq_true rfl, Nat.le_of_ble_eq_true rfl⟩ ⟨Nat.zero_le _, Nat.zero_le _⟩ [0] rfl ⟨rfl, rfl⟩ rfl rfl 0 0 rfl rfl rfl rfl (Nat.le_of_ble_eq_true rfl) (ff_cons (ml_fst _ _ _ _ _ _) (ff_nil)) (ws' := [ml m cI (w_up1 S) M]) rfl ?_
          refine G.iinc X dX7_goesDay_64 0 rfl (v' := nI (k + 1)) (nI_inc k) (by decide) (lv' := [(1, .int (nI (k + 1))), (0, .ref (m 0))]) rfl ?_
          refine G.go X dX7_goesDay_67 ?_
          exact ih51
      have L51 := L51 0 (Nat.zero_le _)
      exact L51
    · intro k hk ih12
      refine G.il X dX7_goesDay_12 0 rfl ?_
      refine G.al X dX7_goesDay_13 1 rfl ?_
      refine G.get X fX7_58 dX7_goesDay_14 0 0 rfl rfl rfl ?_
      refine G.n_ge X (a := k) (b := s_th S) (by omega) (by omega) dX7_goesDay_17 (fun b17 => absurd b17 (by omega)) (fun b17 => ?_)
      refine G.al X dX7_goesDay_20 1 rfl ?_
      refine G.get X fX7_31 dX7_goesDay_21 0 0 rfl rfl rfl ?_
      refine G.il X dX7_goesDay_24 0 rfl ?_
      refine G.dup2 X dX7_goesDay_25 ?_
      refine G.nld X (i := k) dX7_goesDay_26 0 8 rfl rfl (by omega) (by decide) ?_
      refine G.al X dX7_goesDay_27 1 rfl ?_
      refine G.get X fX7_31 dX7_goesDay_28 0 0 rfl rfl rfl ?_
      refine G.il X dX7_goesDay_31 0 rfl ?_
      refine G.nld X (i := k) dX7_goesDay_32 0 8 rfl rfl (by omega) (by decide) ?_
      refine G.z_le X (a := ((w_dec (s_wa S) k) k)) dX7_goesDay_33 (fun b33 => ?_) (fun b33 => ?_)
      · refine G.pu X dX7_goesDay_40 ?_
        refine G.isub X dX7_goesDay_41 ?_
        refine G.nst X (i := k) dX7_goesDay_42 0 8 rfl rfl (by omega) (by decide) (blk' := ml m cI (s_pe S, s_th S, (s_da S) + 1, s_dr S, s_kn S, s_sh S, s_an S, s_ki S, s_we S, s_dp S, upd (w_dec (s_wa S) k) k (((w_dec (s_wa S) k) k) - 0), s_le S) M) rfl (ws' := [ml m cI (s_pe S, s_th S, (s_da S) + 1, s_dr S, s_kn S, s_sh S, s_an S, s_ki S, s_we S, s_dp S, upd (w_dec (s_wa S) k) k (((w_dec (s_wa S) k) k) - 0), s_le S) M]) rfl ?_
        refine G.iinc X dX7_goesDay_43 0 rfl (v' := nI (k + 1)) (nI_inc k) (by decide) (lv' := [(1, .int (nI (k + 1))), (0, .ref (m 0))]) rfl ?_
        refine G.go X dX7_goesDay_46 ?_
        rw [show (w_dec (s_wa S) (k + 1)) = (upd (w_dec (s_wa S) k) k (((w_dec (s_wa S) k) k) - 0)) from (by simp [w_dec, upd_id, b17, b33])] at ih12
        exact ih12
      · refine G.pu X dX7_goesDay_36 ?_
        refine G.go X dX7_goesDay_37 ?_
        refine G.isub X dX7_goesDay_41 ?_
        refine G.nst X (i := k) dX7_goesDay_42 0 8 rfl rfl (by omega) (by decide) (blk' := ml m cI (s_pe S, s_th S, (s_da S) + 1, s_dr S, s_kn S, s_sh S, s_an S, s_ki S, s_we S, s_dp S, upd (w_dec (s_wa S) k) k (((w_dec (s_wa S) k) k) - 1), s_le S) M) rfl (ws' := [ml m cI (s_pe S, s_th S, (s_da S) + 1, s_dr S, s_kn S, s_sh S, s_an S, s_ki S, s_we S, s_dp S, upd (w_dec (s_wa S) k) k (((w_dec (s_wa S) k) k) - 1), s_le S) M]) rfl ?_
        refine G.iinc X dX7_goesDay_43 0 rfl (v' := nI (k + 1)) (nI_inc k) (by decide) (lv' := [(1, .int (nI (k + 1))), (0, .ref (m 0))]) rfl ?_
        refine G.go X dX7_goesDay_46 ?_
        rw [show (w_dec (s_wa S) (k + 1)) = (upd (w_dec (s_wa S) k) k (((w_dec (s_wa S) k) k) - 1)) from (by simp [w_dec, upd_id, b17, b33])] at ih12
        exact ih12
  have L12 := L12 0 (Nat.zero_le _)
  exact L12

set_option maxRecDepth 20000 in
theorem tX7_goes (l : Launch) (D : va_G) (cI cW : ClassId) (m : Nat → Nat) (S : WS) (M : MS) (n : Nat) (hS : Ok S) (hco : m_co M = false) (hn : n < 2 ^ 31) : CT l D cI cW yX7_goes cX7_goes 3 none ⟨4, 0, 0, 86⟩ [.ref (m 0), .int (nI n)] ([ml m cI S M]) (PV ([ml m cI (w_dayN S n) M])) := by
  refine CT.of RX7 rfl (by decide +kernel) (Nat.le_of_ble_eq_true rfl) [(0, .ref (m 0)), (1, .int (nI n))] rfl (fun x X Rr hnm => ?_)
  have hth := hS.th
  have hpe := hS.pe
  refine G.pu X dX7_goes_0 ?_
  refine G.is X dX7_goes_1 (by decide) (lv' := [(2, .int 0), (0, .ref (m 0)), (1, .int (nI n))]) rfl ?_
  have L2 : ∀ k, k ≤ n → G x 0 0 ([ml m cI (w_dayN S k) M]) 2 [(2, .int (nI k)), (0, .ref (m 0)), (1, .int (nI n))] [] := by
    refine loop_dn n _ ?_ ?_
    · refine G.il X dX7_goes_2 0 rfl ?_
      refine G.il X dX7_goes_3 2 rfl ?_
      refine G.n_ge X (a := n) (b := n) (by omega) (by omega) dX7_goes_4 (fun b4 => ?_) (fun b4 => absurd b4 (by omega))
      exact G.vret X Rr dX7_goes_17 (pv_mk (by rfl))
    · intro k hk ih2
      have hT : Ok (w_dayN S k) := ok_dayN hS k
      refine G.il X dX7_goes_2 0 rfl ?_
      refine G.il X dX7_goes_3 2 rfl ?_
      refine G.n_ge X (a := k) (b := n) (by omega) (by omega) dX7_goes_4 (fun b4 => absurd b4 (by omega)) (fun b4 => ?_)
      refine G.al X dX7_goes_7 1 rfl ?_
      refine G.cvv X kX7_goesDay lX7_199 dX7_goes_8 (tX7_goesDay l D cI cW m (w_dayN S k) M hT hco) ⟨Nat.le_of_ble_eq_true rfl, Nat.le_of_ble_eq_true rfl⟩ ⟨Nat.zero_le _, Nat.zero_le _⟩ [0] rfl ⟨rfl, rfl⟩ rfl rfl 0 0 rfl rfl rfl rfl (Nat.le_of_ble_eq_true rfl) (ff_cons (ml_fst _ _ _ _ _ _) (ff_nil)) (ws' := [ml m cI (w_day true (w_dayN S k)) M]) rfl ?_
      refine G.iinc X dX7_goes_11 0 rfl (v' := nI (k + 1)) (nI_inc k) (by decide) (lv' := [(2, .int (nI (k + 1))), (0, .ref (m 0)), (1, .int (nI n))]) rfl ?_
      refine G.go X dX7_goes_14 ?_
      exact ih2
  have L2 := L2 0 (Nat.zero_le _)
  exact L2

set_option maxRecDepth 20000 in
theorem tX7_queueOf (l : Launch) (D : va_G) (cI cW : ClassId) (m : Nat → Nat) (S : WS) (M : MS) (p : Int32) (hth : s_th S ≤ 9) : CT l D cI cW yX7_queueOf cX7_queueOf 4 (some .int) ⟨0, 0, 0, 0⟩ [.ref (m 0), .int p] ([ml m cI S M]) (PI (w_qs S p (s_th S)) ([ml m cI S M])) := by
  refine CT.of RX7 rfl (by decide +kernel) (Nat.le_of_ble_eq_true rfl) [(0, .ref (m 0)), (1, .int p)] rfl (fun x X Rr hnm => ?_)
  refine G.pu X dX7_queueOf_0 ?_
  refine G.is X dX7_queueOf_1 (by decide) (lv' := [(2, .int 0), (0, .ref (m 0)), (1, .int p)]) rfl ?_
  refine G.pu X dX7_queueOf_2 ?_
  refine G.is X dX7_queueOf_3 (by decide) (lv' := [(3, .int 0), (2, .int 0), (0, .ref (m 0)), (1, .int p)]) rfl ?_
  have L4 : ∀ k, k ≤ s_th S → G x 0 0 ([ml m cI S M]) 4 [(3, .int (nI k)), (2, .int (w_qs S p k)), (0, .ref (m 0)), (1, .int p)] [] := by
    refine loop_dn (s_th S) _ ?_ ?_
    · refine G.il X dX7_queueOf_4 0 rfl ?_
      refine G.al X dX7_queueOf_5 2 rfl ?_
      refine G.get X fX7_58 dX7_queueOf_6 0 0 rfl rfl rfl ?_
      refine G.n_ge X (a := s_th S) (b := s_th S) (by omega) (by omega) dX7_queueOf_9 (fun b9 => ?_) (fun b9 => absurd b9 (by omega))
      refine G.il X dX7_queueOf_41 1 rfl ?_
      exact G.iret X Rr (v := (w_qs S p (s_th S))) dX7_queueOf_42 (pi_mk (by rfl) (by rfl))
    · intro k hk ih4
      refine G.il X dX7_queueOf_4 0 rfl ?_
      refine G.al X dX7_queueOf_5 2 rfl ?_
      refine G.get X fX7_58 dX7_queueOf_6 0 0 rfl rfl rfl ?_
      refine G.n_ge X (a := k) (b := s_th S) (by omega) (by omega) dX7_queueOf_9 (fun b9 => absurd b9 (by omega)) (fun b9 => ?_)
      refine G.il X dX7_queueOf_12 1 rfl ?_
      refine G.al X dX7_queueOf_13 2 rfl ?_
      refine G.get X fX7_28 dX7_queueOf_14 0 0 rfl rfl rfl ?_
      refine G.il X dX7_queueOf_17 0 rfl ?_
      refine G.nld X (i := k) dX7_queueOf_18 0 7 rfl rfl (by omega) (by decide) ?_
      refine G.il X dX7_queueOf_19 3 rfl ?_
      refine G.c_ne X (a := ((s_dp S) k)) (b := p) dX7_queueOf_20 (fun b20 => ?_) (fun b20 => ?_)
      · refine G.pu X dX7_queueOf_32 ?_
        refine G.iadd X dX7_queueOf_33 ?_
        refine G.is X dX7_queueOf_34 (by decide) (lv' := [(2, .int ((w_qs S p k) + 0)), (3, .int (nI k)), (0, .ref (m 0)), (1, .int p)]) rfl ?_
        refine G.iinc X dX7_queueOf_35 1 rfl (v' := nI (k + 1)) (nI_inc k) (by decide) (lv' := [(3, .int (nI (k + 1))), (2, .int ((w_qs S p k) + 0)), (0, .ref (m 0)), (1, .int p)]) rfl ?_
        refine G.go X dX7_queueOf_38 ?_
        rw [show (w_qs S p (k + 1)) = ((w_qs S p k) + 0) from (by simp [w_qs, b9, b20])] at ih4
        exact ih4
      · refine G.al X dX7_queueOf_23 2 rfl ?_
        refine G.get X fX7_34 dX7_queueOf_24 0 0 rfl rfl rfl ?_
        refine G.il X dX7_queueOf_27 0 rfl ?_
        refine G.nld X (i := k) dX7_queueOf_28 0 9 rfl rfl (by omega) (by decide) ?_
        refine G.go X dX7_queueOf_29 ?_
        refine G.iadd X dX7_queueOf_33 ?_
        refine G.is X dX7_queueOf_34 (by decide) (lv' := [(2, .int ((w_qs S p k) + ((s_le S) k))), (3, .int (nI k)), (0, .ref (m 0)), (1, .int p)]) rfl ?_
        refine G.iinc X dX7_queueOf_35 1 rfl (v' := nI (k + 1)) (nI_inc k) (by decide) (lv' := [(3, .int (nI (k + 1))), (2, .int ((w_qs S p k) + ((s_le S) k))), (0, .ref (m 0)), (1, .int p)]) rfl ?_
        refine G.go X dX7_queueOf_38 ?_
        rw [show (w_qs S p (k + 1)) = ((w_qs S p k) + ((s_le S) k)) from (by simp [w_qs, b9, b20])] at ih4
        exact ih4
  have L4 := L4 0 (Nat.zero_le _)
  exact L4

set_option maxRecDepth 20000 in
theorem tX7_allLeft (l : Launch) (D : va_G) (cI cW : ClassId) (m : Nat → Nat) (S : WS) (M : MS) (hth : s_th S ≤ 9) : CT l D cI cW yX7_allLeft cX7_allLeft 3 (some .int) ⟨0, 0, 0, 0⟩ [.ref (m 0)] ([ml m cI S M]) (PI (sumf (s_le S) (s_th S)) ([ml m cI S M])) := by
  refine CT.of RX7 rfl (by decide +kernel) (Nat.le_of_ble_eq_true rfl) [(0, .ref (m 0))] rfl (fun x X Rr hnm => ?_)
  refine G.pu X dX7_allLeft_0 ?_
  refine G.is X dX7_allLeft_1 (by decide) (lv' := [(1, .int 0), (0, .ref (m 0))]) rfl ?_
  refine G.pu X dX7_allLeft_2 ?_
  refine G.is X dX7_allLeft_3 (by decide) (lv' := [(2, .int 0), (1, .int 0), (0, .ref (m 0))]) rfl ?_
  have L4 : ∀ k, k ≤ s_th S → G x 0 0 ([ml m cI S M]) 4 [(2, .int (nI k)), (1, .int (sumf (s_le S) k)), (0, .ref (m 0))] [] := by
    refine loop_dn (s_th S) _ ?_ ?_
    · refine G.il X dX7_allLeft_4 0 rfl ?_
      refine G.al X dX7_allLeft_5 2 rfl ?_
      refine G.get X fX7_58 dX7_allLeft_6 0 0 rfl rfl rfl ?_
      refine G.n_ge X (a := s_th S) (b := s_th S) (by omega) (by omega) dX7_allLeft_9 (fun b9 => ?_) (fun b9 => absurd b9 (by omega))
      refine G.il X dX7_allLeft_27 1 rfl ?_
      exact G.iret X Rr (v := (sumf (s_le S) (s_th S))) dX7_allLeft_28 (pi_mk (by rfl) (by rfl))
    · intro k hk ih4
      refine G.il X dX7_allLeft_4 0 rfl ?_
      refine G.al X dX7_allLeft_5 2 rfl ?_
      refine G.get X fX7_58 dX7_allLeft_6 0 0 rfl rfl rfl ?_
      refine G.n_ge X (a := k) (b := s_th S) (by omega) (by omega) dX7_allLeft_9 (fun b9 => absurd b9 (by omega)) (fun b9 => ?_)
      refine G.il X dX7_allLeft_12 1 rfl ?_
      refine G.al X dX7_allLeft_13 2 rfl ?_
      refine G.get X fX7_34 dX7_allLeft_14 0 0 rfl rfl rfl ?_
      refine G.il X dX7_allLeft_17 0 rfl ?_
      refine G.nld X (i := k) dX7_allLeft_18 0 9 rfl rfl (by omega) (by decide) ?_
      refine G.iadd X dX7_allLeft_19 ?_
      refine G.is X dX7_allLeft_20 (by decide) (lv' := [(1, .int ((sumf (s_le S) k) + ((s_le S) k))), (2, .int (nI k)), (0, .ref (m 0))]) rfl ?_
      refine G.iinc X dX7_allLeft_21 1 rfl (v' := nI (k + 1)) (nI_inc k) (by decide) (lv' := [(2, .int (nI (k + 1))), (1, .int ((sumf (s_le S) k) + ((s_le S) k))), (0, .ref (m 0))]) rfl ?_
      refine G.go X dX7_allLeft_24 ?_
      rw [show (sumf (s_le S) (k + 1)) = ((sumf (s_le S) k) + ((s_le S) k)) from (by rfl)] at ih4
      exact ih4
  have L4 := L4 0 (Nat.zero_le _)
  exact L4

set_option maxRecDepth 20000 in
theorem tX7_allAnswered (l : Launch) (D : va_G) (cI cW : ClassId) (m : Nat → Nat) (S : WS) (M : MS) (hpe : s_pe S ≤ 5) : CT l D cI cW yX7_allAnswered cX7_allAnswered 3 (some .int) ⟨0, 0, 0, 0⟩ [.ref (m 0)] ([ml m cI S M]) (PI (sumf (s_an S) (s_pe S)) ([ml m cI S M])) := by
  refine CT.of RX7 rfl (by decide +kernel) (Nat.le_of_ble_eq_true rfl) [(0, .ref (m 0))] rfl (fun x X Rr hnm => ?_)
  refine G.pu X dX7_allAnswered_0 ?_
  refine G.is X dX7_allAnswered_1 (by decide) (lv' := [(1, .int 0), (0, .ref (m 0))]) rfl ?_
  refine G.pu X dX7_allAnswered_2 ?_
  refine G.is X dX7_allAnswered_3 (by decide) (lv' := [(2, .int 0), (1, .int 0), (0, .ref (m 0))]) rfl ?_
  have L4 : ∀ k, k ≤ s_pe S → G x 0 0 ([ml m cI S M]) 4 [(2, .int (nI k)), (1, .int (sumf (s_an S) k)), (0, .ref (m 0))] [] := by
    refine loop_dn (s_pe S) _ ?_ ?_
    · refine G.il X dX7_allAnswered_4 0 rfl ?_
      refine G.al X dX7_allAnswered_5 2 rfl ?_
      refine G.get X fX7_64 dX7_allAnswered_6 0 0 rfl rfl rfl ?_
      refine G.n_ge X (a := s_pe S) (b := s_pe S) (by omega) (by omega) dX7_allAnswered_9 (fun b9 => ?_) (fun b9 => absurd b9 (by omega))
      refine G.il X dX7_allAnswered_27 1 rfl ?_
      exact G.iret X Rr (v := (sumf (s_an S) (s_pe S))) dX7_allAnswered_28 (pi_mk (by rfl) (by rfl))
    · intro k hk ih4
      refine G.il X dX7_allAnswered_4 0 rfl ?_
      refine G.al X dX7_allAnswered_5 2 rfl ?_
      refine G.get X fX7_64 dX7_allAnswered_6 0 0 rfl rfl rfl ?_
      refine G.n_ge X (a := k) (b := s_pe S) (by omega) (by omega) dX7_allAnswered_9 (fun b9 => absurd b9 (by omega)) (fun b9 => ?_)
      refine G.il X dX7_allAnswered_12 1 rfl ?_
      refine G.al X dX7_allAnswered_13 2 rfl ?_
      refine G.get X fX7_19 dX7_allAnswered_14 0 0 rfl rfl rfl ?_
      refine G.il X dX7_allAnswered_17 0 rfl ?_
      refine G.nld X (i := k) dX7_allAnswered_18 0 4 rfl rfl (by omega) (by decide) ?_
      refine G.iadd X dX7_allAnswered_19 ?_
      refine G.is X dX7_allAnswered_20 (by decide) (lv' := [(1, .int ((sumf (s_an S) k) + ((s_an S) k))), (2, .int (nI k)), (0, .ref (m 0))]) rfl ?_
      refine G.iinc X dX7_allAnswered_21 1 rfl (v' := nI (k + 1)) (nI_inc k) (by decide) (lv' := [(2, .int (nI (k + 1))), (1, .int ((sumf (s_an S) k) + ((s_an S) k))), (0, .ref (m 0))]) rfl ?_
      refine G.go X dX7_allAnswered_24 ?_
      rw [show (sumf (s_an S) (k + 1)) = ((sumf (s_an S) k) + ((s_an S) k)) from (by rfl)] at ih4
      exact ih4
  have L4 := L4 0 (Nat.zero_le _)
  exact L4

set_option maxRecDepth 20000 in
theorem tX7_passes_k2 (l : Launch) (D : va_G) (cI cW : ClassId) (m : Nat → Nat) (S : WS) (M : MS) (hg : m_kg M = true) (hc : m_cu M + 5 ≤ 192) : CT l D cI cW yX7_passes cX7_passes 3 none ⟨0, 0, 0, 0⟩ [.ref (m 0), .ref (m 2)] ([ml m cI S M]) (PV ([ml m cI S (m_psk M (s_kn S) 5)])) := by
  refine CT.of RX7 rfl (by decide +kernel) (Nat.le_of_ble_eq_true rfl) [(0, .ref (m 0)), (1, .ref (m 2))] rfl (fun x X Rr hnm => ?_)
  refine G.pu X dX7_passes_0 ?_
  refine G.is X dX7_passes_1 (by decide) (lv' := [(2, .int 0), (0, .ref (m 0)), (1, .ref (m 2))]) rfl ?_
  have L2 : ∀ k, k ≤ 5 → G x 0 0 ([ml m cI S (m_rf M, m_co M, m_tx M, m_lt M, m_la M, m_to M, m_tn M, m_at M, m_st M, cpk (m_kp M) (m_cu M) (s_kn S) k, m_hi M, m_kg M, m_cu M + k, m_lr M, m_ge M, m_rw M, m_rn M)]) 2 [(2, .int (nI k)), (0, .ref (m 0)), (1, .ref (m 2))] [] := by
    refine loop_dn 5 _ ?_ ?_
    · refine G.il X dX7_passes_2 0 rfl ?_
      refine G.al X dX7_passes_3 2 rfl ?_
      refine G.alen X dX7_passes_4 0 2 rfl rfl ?_
      refine G.n_ge X (a := 5) (b := 5) (by omega) (by omega) dX7_passes_5 (fun b5 => ?_) (fun b5 => absurd b5 (by omega))
      exact G.vret X Rr dX7_passes_58 (pv_mk (by rfl))
    · intro k hk ih2
      refine G.il X dX7_passes_2 0 rfl ?_
      refine G.al X dX7_passes_3 2 rfl ?_
      refine G.alen X dX7_passes_4 0 2 rfl rfl ?_
      refine G.n_ge X (a := k) (b := 5) (by omega) (by omega) dX7_passes_5 (fun b5 => absurd b5 (by omega)) (fun b5 => ?_)
      refine G.al X dX7_passes_8 1 rfl ?_
      refine G.get X fX7_152 dX7_passes_9 0 0 rfl rfl rfl ?_
      refine G.b_eq X dX7_passes_12 (fun b12 => absurd (Eq.trans (Eq.symm hg) b12) (by decide)) (fun b12 => ?_)
      refine G.al X dX7_passes_15 1 rfl ?_
      refine G.get X fX7_49 dX7_passes_16 0 0 rfl rfl rfl ?_
      refine G.al X dX7_passes_19 1 rfl ?_
      refine G.get X fX7_156 dX7_passes_20 0 0 rfl rfl rfl ?_
      refine G.al X dX7_passes_23 2 rfl ?_
      refine G.il X dX7_passes_24 0 rfl ?_
      refine G.nld X (i := k) dX7_passes_25 0 2 rfl rfl (by omega) (by decide) ?_
      refine G.nst X (i := m_cu M + k) dX7_passes_26 0 14 rfl rfl (by omega) (by decide) (blk' := ml m cI S (m_rf M, m_co M, m_tx M, m_lt M, m_la M, m_to M, m_tn M, m_at M, m_st M, upd (cpk (m_kp M) (m_cu M) (s_kn S) k) (m_cu M + k) ((s_kn S) k), m_hi M, m_kg M, m_cu M + k, m_lr M, m_ge M, m_rw M, m_rn M)) rfl (ws' := [ml m cI S (m_rf M, m_co M, m_tx M, m_lt M, m_la M, m_to M, m_tn M, m_at M, m_st M, upd (cpk (m_kp M) (m_cu M) (s_kn S) k) (m_cu M + k) ((s_kn S) k), m_hi M, m_kg M, m_cu M + k, m_lr M, m_ge M, m_rw M, m_rn M)]) rfl ?_
      refine G.go X dX7_passes_27 ?_
      refine G.al X dX7_passes_42 1 rfl ?_
      refine G.dupr X dX7_passes_43 ?_
      refine G.get X fX7_156 dX7_passes_44 0 0 rfl rfl rfl ?_
      refine G.pu X dX7_passes_47 ?_
      refine G.nadd X (a := m_cu M + k) (b := 1) dX7_passes_48 ?_
      refine G.puti X fX7_156 fe7 dX7_passes_49 rfl rfl 0 0 rfl rfl (Nat.le_of_ble_eq_true rfl) (blk' := ml m cI S (m_rf M, m_co M, m_tx M, m_lt M, m_la M, m_to M, m_tn M, m_at M, m_st M, upd (cpk (m_kp M) (m_cu M) (s_kn S) k) (m_cu M + k) ((s_kn S) k), m_hi M, m_kg M, (m_cu M + k) + 1, m_lr M, m_ge M, m_rw M, m_rn M)) rfl (ws' := [ml m cI S (m_rf M, m_co M, m_tx M, m_lt M, m_la M, m_to M, m_tn M, m_at M, m_st M, upd (cpk (m_kp M) (m_cu M) (s_kn S) k) (m_cu M + k) ((s_kn S) k), m_hi M, m_kg M, (m_cu M + k) + 1, m_lr M, m_ge M, m_rw M, m_rn M)]) rfl ?_
      refine G.iinc X dX7_passes_52 0 rfl (v' := nI (k + 1)) (nI_inc k) (by decide) (lv' := [(2, .int (nI (k + 1))), (0, .ref (m 0)), (1, .ref (m 2))]) rfl ?_
      refine G.go X dX7_passes_55 ?_
      rw [show (cpk (m_kp M) (m_cu M) (s_kn S) (k + 1)) = (upd (cpk (m_kp M) (m_cu M) (s_kn S) k) (m_cu M + k) ((s_kn S) k)) from (by exact cpk_1 _ _ _ _)] at ih2
      rw [show (m_cu M + (k + 1)) = ((m_cu M + k) + 1) from (by rfl)] at ih2
      exact ih2
  have L2 := L2 0 (Nat.zero_le _)
  rw [show (m_rf M, m_co M, m_tx M, m_lt M, m_la M, m_to M, m_tn M, m_at M, m_st M, cpk (m_kp M) (m_cu M) (s_kn S) 0, m_hi M, m_kg M, m_cu M + 0, m_lr M, m_ge M, m_rw M, m_rn M) = M from (by rw [cpk_0]; rfl)] at L2
  exact L2

set_option maxRecDepth 20000 in
theorem tX7_passes_r2 (l : Launch) (D : va_G) (cI cW : ClassId) (m : Nat → Nat) (S : WS) (M : MS) (g : FN) (hg : m_kg M = false) (hc : m_cu M + 5 ≤ 192) (hk9 : ∀ j, j < 5 → m_kp M (m_cu M + j) = g j) : CT l D cI cW yX7_passes cX7_passes 3 none ⟨0, 0, 0, 0⟩ [.ref (m 0), .ref (m 2)] ([ml m cI S M]) (PV ([ml m cI (r_4 S g) (m_adv M 5)])) := by
  refine CT.of RX7 rfl (by decide +kernel) (Nat.le_of_ble_eq_true rfl) [(0, .ref (m 0)), (1, .ref (m 2))] rfl (fun x X Rr hnm => ?_)
  refine G.pu X dX7_passes_0 ?_
  refine G.is X dX7_passes_1 (by decide) (lv' := [(2, .int 0), (0, .ref (m 0)), (1, .ref (m 2))]) rfl ?_
  have L2 : ∀ k, k ≤ 5 → G x 0 0 ([ml m cI (s_pe S, s_th S, s_da S, s_dr S, rsk (s_kn S) (m_kp M) (m_cu M) k, s_sh S, s_an S, s_ki S, s_we S, s_dp S, s_wa S, s_le S) (m_rf M, m_co M, m_tx M, m_lt M, m_la M, m_to M, m_tn M, m_at M, m_st M, m_kp M, m_hi M, m_kg M, m_cu M + k, m_lr M, m_ge M, m_rw M, m_rn M)]) 2 [(2, .int (nI k)), (0, .ref (m 0)), (1, .ref (m 2))] [] := by
    refine loop_dn 5 _ ?_ ?_
    · refine G.il X dX7_passes_2 0 rfl ?_
      refine G.al X dX7_passes_3 2 rfl ?_
      refine G.alen X dX7_passes_4 0 2 rfl rfl ?_
      refine G.n_ge X (a := 5) (b := 5) (by omega) (by omega) dX7_passes_5 (fun b5 => ?_) (fun b5 => absurd b5 (by omega))
      refine G.canon 0 2 rfl rfl (g := g) (fun j hj => by show rsk (s_kn S) (m_kp M) (m_cu M) 5 j = g j; rw [rsk, if_pos hj]; exact hk9 j hj) (blk' := ml m cI (s_pe S, s_th S, s_da S, s_dr S, g, s_sh S, s_an S, s_ki S, s_we S, s_dp S, s_wa S, s_le S) (m_rf M, m_co M, m_tx M, m_lt M, m_la M, m_to M, m_tn M, m_at M, m_st M, m_kp M, m_hi M, m_kg M, m_cu M + 5, m_lr M, m_ge M, m_rw M, m_rn M)) rfl (ws' := [ml m cI (s_pe S, s_th S, s_da S, s_dr S, g, s_sh S, s_an S, s_ki S, s_we S, s_dp S, s_wa S, s_le S) (m_rf M, m_co M, m_tx M, m_lt M, m_la M, m_to M, m_tn M, m_at M, m_st M, m_kp M, m_hi M, m_kg M, m_cu M + 5, m_lr M, m_ge M, m_rw M, m_rn M)]) rfl ?_
      exact G.vret X Rr dX7_passes_58 (pv_mk (by rfl))
    · intro k hk ih2
      refine G.il X dX7_passes_2 0 rfl ?_
      refine G.al X dX7_passes_3 2 rfl ?_
      refine G.alen X dX7_passes_4 0 2 rfl rfl ?_
      refine G.n_ge X (a := k) (b := 5) (by omega) (by omega) dX7_passes_5 (fun b5 => absurd b5 (by omega)) (fun b5 => ?_)
      refine G.al X dX7_passes_8 1 rfl ?_
      refine G.get X fX7_152 dX7_passes_9 0 0 rfl rfl rfl ?_
      refine G.b_eq X dX7_passes_12 (fun b12 => ?_) (fun b12 => absurd (Eq.trans (Eq.symm hg) b12) (by decide))
      refine G.al X dX7_passes_30 2 rfl ?_
      refine G.il X dX7_passes_31 0 rfl ?_
      refine G.al X dX7_passes_32 1 rfl ?_
      refine G.get X fX7_49 dX7_passes_33 0 0 rfl rfl rfl ?_
      refine G.al X dX7_passes_36 1 rfl ?_
      refine G.get X fX7_156 dX7_passes_37 0 0 rfl rfl rfl ?_
      refine G.nld X (i := m_cu M + k) dX7_passes_40 0 14 rfl rfl (by omega) (by decide) ?_
      refine G.nst X (i := k) dX7_passes_41 0 2 rfl rfl (by omega) (by decide) (blk' := ml m cI (s_pe S, s_th S, s_da S, s_dr S, upd (rsk (s_kn S) (m_kp M) (m_cu M) k) k ((m_kp M) (m_cu M + k)), s_sh S, s_an S, s_ki S, s_we S, s_dp S, s_wa S, s_le S) (m_rf M, m_co M, m_tx M, m_lt M, m_la M, m_to M, m_tn M, m_at M, m_st M, m_kp M, m_hi M, m_kg M, m_cu M + k, m_lr M, m_ge M, m_rw M, m_rn M)) rfl (ws' := [ml m cI (s_pe S, s_th S, s_da S, s_dr S, upd (rsk (s_kn S) (m_kp M) (m_cu M) k) k ((m_kp M) (m_cu M + k)), s_sh S, s_an S, s_ki S, s_we S, s_dp S, s_wa S, s_le S) (m_rf M, m_co M, m_tx M, m_lt M, m_la M, m_to M, m_tn M, m_at M, m_st M, m_kp M, m_hi M, m_kg M, m_cu M + k, m_lr M, m_ge M, m_rw M, m_rn M)]) rfl ?_
      refine G.al X dX7_passes_42 1 rfl ?_
      refine G.dupr X dX7_passes_43 ?_
      refine G.get X fX7_156 dX7_passes_44 0 0 rfl rfl rfl ?_
      refine G.pu X dX7_passes_47 ?_
      refine G.nadd X (a := m_cu M + k) (b := 1) dX7_passes_48 ?_
      refine G.puti X fX7_156 fe7 dX7_passes_49 rfl rfl 0 0 rfl rfl (Nat.le_of_ble_eq_true rfl) (blk' := ml m cI (s_pe S, s_th S, s_da S, s_dr S, upd (rsk (s_kn S) (m_kp M) (m_cu M) k) k ((m_kp M) (m_cu M + k)), s_sh S, s_an S, s_ki S, s_we S, s_dp S, s_wa S, s_le S) (m_rf M, m_co M, m_tx M, m_lt M, m_la M, m_to M, m_tn M, m_at M, m_st M, m_kp M, m_hi M, m_kg M, (m_cu M + k) + 1, m_lr M, m_ge M, m_rw M, m_rn M)) rfl (ws' := [ml m cI (s_pe S, s_th S, s_da S, s_dr S, upd (rsk (s_kn S) (m_kp M) (m_cu M) k) k ((m_kp M) (m_cu M + k)), s_sh S, s_an S, s_ki S, s_we S, s_dp S, s_wa S, s_le S) (m_rf M, m_co M, m_tx M, m_lt M, m_la M, m_to M, m_tn M, m_at M, m_st M, m_kp M, m_hi M, m_kg M, (m_cu M + k) + 1, m_lr M, m_ge M, m_rw M, m_rn M)]) rfl ?_
      refine G.iinc X dX7_passes_52 0 rfl (v' := nI (k + 1)) (nI_inc k) (by decide) (lv' := [(2, .int (nI (k + 1))), (0, .ref (m 0)), (1, .ref (m 2))]) rfl ?_
      refine G.go X dX7_passes_55 ?_
      rw [show (rsk (s_kn S) (m_kp M) (m_cu M) (k + 1)) = (upd (rsk (s_kn S) (m_kp M) (m_cu M) k) k ((m_kp M) (m_cu M + k))) from (by exact rsk_1 _ _ _ _)] at ih2
      rw [show (m_cu M + (k + 1)) = ((m_cu M + k) + 1) from (by rfl)] at ih2
      exact ih2
  have L2 := L2 0 (Nat.zero_le _)
  rw [show (s_pe S, s_th S, s_da S, s_dr S, rsk (s_kn S) (m_kp M) (m_cu M) 0, s_sh S, s_an S, s_ki S, s_we S, s_dp S, s_wa S, s_le S) = S from (by rw [rsk_0])] at L2
  exact L2

set_option maxRecDepth 20000 in
theorem tX7_passes_k3 (l : Launch) (D : va_G) (cI cW : ClassId) (m : Nat → Nat) (S : WS) (M : MS) (hg : m_kg M = true) (hc : m_cu M + 5 ≤ 192) : CT l D cI cW yX7_passes cX7_passes 3 none ⟨0, 0, 0, 0⟩ [.ref (m 0), .ref (m 3)] ([ml m cI S M]) (PV ([ml m cI S (m_psk M (s_sh S) 5)])) := by
  refine CT.of RX7 rfl (by decide +kernel) (Nat.le_of_ble_eq_true rfl) [(0, .ref (m 0)), (1, .ref (m 3))] rfl (fun x X Rr hnm => ?_)
  refine G.pu X dX7_passes_0 ?_
  refine G.is X dX7_passes_1 (by decide) (lv' := [(2, .int 0), (0, .ref (m 0)), (1, .ref (m 3))]) rfl ?_
  have L2 : ∀ k, k ≤ 5 → G x 0 0 ([ml m cI S (m_rf M, m_co M, m_tx M, m_lt M, m_la M, m_to M, m_tn M, m_at M, m_st M, cpk (m_kp M) (m_cu M) (s_sh S) k, m_hi M, m_kg M, m_cu M + k, m_lr M, m_ge M, m_rw M, m_rn M)]) 2 [(2, .int (nI k)), (0, .ref (m 0)), (1, .ref (m 3))] [] := by
    refine loop_dn 5 _ ?_ ?_
    · refine G.il X dX7_passes_2 0 rfl ?_
      refine G.al X dX7_passes_3 2 rfl ?_
      refine G.alen X dX7_passes_4 0 3 rfl rfl ?_
      refine G.n_ge X (a := 5) (b := 5) (by omega) (by omega) dX7_passes_5 (fun b5 => ?_) (fun b5 => absurd b5 (by omega))
      exact G.vret X Rr dX7_passes_58 (pv_mk (by rfl))
    · intro k hk ih2
      refine G.il X dX7_passes_2 0 rfl ?_
      refine G.al X dX7_passes_3 2 rfl ?_
      refine G.alen X dX7_passes_4 0 3 rfl rfl ?_
      refine G.n_ge X (a := k) (b := 5) (by omega) (by omega) dX7_passes_5 (fun b5 => absurd b5 (by omega)) (fun b5 => ?_)
      refine G.al X dX7_passes_8 1 rfl ?_
      refine G.get X fX7_152 dX7_passes_9 0 0 rfl rfl rfl ?_
      refine G.b_eq X dX7_passes_12 (fun b12 => absurd (Eq.trans (Eq.symm hg) b12) (by decide)) (fun b12 => ?_)
      refine G.al X dX7_passes_15 1 rfl ?_
      refine G.get X fX7_49 dX7_passes_16 0 0 rfl rfl rfl ?_
      refine G.al X dX7_passes_19 1 rfl ?_
      refine G.get X fX7_156 dX7_passes_20 0 0 rfl rfl rfl ?_
      refine G.al X dX7_passes_23 2 rfl ?_
      refine G.il X dX7_passes_24 0 rfl ?_
      refine G.nld X (i := k) dX7_passes_25 0 3 rfl rfl (by omega) (by decide) ?_
      refine G.nst X (i := m_cu M + k) dX7_passes_26 0 14 rfl rfl (by omega) (by decide) (blk' := ml m cI S (m_rf M, m_co M, m_tx M, m_lt M, m_la M, m_to M, m_tn M, m_at M, m_st M, upd (cpk (m_kp M) (m_cu M) (s_sh S) k) (m_cu M + k) ((s_sh S) k), m_hi M, m_kg M, m_cu M + k, m_lr M, m_ge M, m_rw M, m_rn M)) rfl (ws' := [ml m cI S (m_rf M, m_co M, m_tx M, m_lt M, m_la M, m_to M, m_tn M, m_at M, m_st M, upd (cpk (m_kp M) (m_cu M) (s_sh S) k) (m_cu M + k) ((s_sh S) k), m_hi M, m_kg M, m_cu M + k, m_lr M, m_ge M, m_rw M, m_rn M)]) rfl ?_
      refine G.go X dX7_passes_27 ?_
      refine G.al X dX7_passes_42 1 rfl ?_
      refine G.dupr X dX7_passes_43 ?_
      refine G.get X fX7_156 dX7_passes_44 0 0 rfl rfl rfl ?_
      refine G.pu X dX7_passes_47 ?_
      refine G.nadd X (a := m_cu M + k) (b := 1) dX7_passes_48 ?_
      refine G.puti X fX7_156 fe7 dX7_passes_49 rfl rfl 0 0 rfl rfl (Nat.le_of_ble_eq_true rfl) (blk' := ml m cI S (m_rf M, m_co M, m_tx M, m_lt M, m_la M, m_to M, m_tn M, m_at M, m_st M, upd (cpk (m_kp M) (m_cu M) (s_sh S) k) (m_cu M + k) ((s_sh S) k), m_hi M, m_kg M, (m_cu M + k) + 1, m_lr M, m_ge M, m_rw M, m_rn M)) rfl (ws' := [ml m cI S (m_rf M, m_co M, m_tx M, m_lt M, m_la M, m_to M, m_tn M, m_at M, m_st M, upd (cpk (m_kp M) (m_cu M) (s_sh S) k) (m_cu M + k) ((s_sh S) k), m_hi M, m_kg M, (m_cu M + k) + 1, m_lr M, m_ge M, m_rw M, m_rn M)]) rfl ?_
      refine G.iinc X dX7_passes_52 0 rfl (v' := nI (k + 1)) (nI_inc k) (by decide) (lv' := [(2, .int (nI (k + 1))), (0, .ref (m 0)), (1, .ref (m 3))]) rfl ?_
      refine G.go X dX7_passes_55 ?_
      rw [show (cpk (m_kp M) (m_cu M) (s_sh S) (k + 1)) = (upd (cpk (m_kp M) (m_cu M) (s_sh S) k) (m_cu M + k) ((s_sh S) k)) from (by exact cpk_1 _ _ _ _)] at ih2
      rw [show (m_cu M + (k + 1)) = ((m_cu M + k) + 1) from (by rfl)] at ih2
      exact ih2
  have L2 := L2 0 (Nat.zero_le _)
  rw [show (m_rf M, m_co M, m_tx M, m_lt M, m_la M, m_to M, m_tn M, m_at M, m_st M, cpk (m_kp M) (m_cu M) (s_sh S) 0, m_hi M, m_kg M, m_cu M + 0, m_lr M, m_ge M, m_rw M, m_rn M) = M from (by rw [cpk_0]; rfl)] at L2
  exact L2

set_option maxRecDepth 20000 in
theorem tX7_passes_r3 (l : Launch) (D : va_G) (cI cW : ClassId) (m : Nat → Nat) (S : WS) (M : MS) (g : FN) (hg : m_kg M = false) (hc : m_cu M + 5 ≤ 192) (hk9 : ∀ j, j < 5 → m_kp M (m_cu M + j) = g j) : CT l D cI cW yX7_passes cX7_passes 3 none ⟨0, 0, 0, 0⟩ [.ref (m 0), .ref (m 3)] ([ml m cI S M]) (PV ([ml m cI (r_5 S g) (m_adv M 5)])) := by
  refine CT.of RX7 rfl (by decide +kernel) (Nat.le_of_ble_eq_true rfl) [(0, .ref (m 0)), (1, .ref (m 3))] rfl (fun x X Rr hnm => ?_)
  refine G.pu X dX7_passes_0 ?_
  refine G.is X dX7_passes_1 (by decide) (lv' := [(2, .int 0), (0, .ref (m 0)), (1, .ref (m 3))]) rfl ?_
  have L2 : ∀ k, k ≤ 5 → G x 0 0 ([ml m cI (s_pe S, s_th S, s_da S, s_dr S, s_kn S, rsk (s_sh S) (m_kp M) (m_cu M) k, s_an S, s_ki S, s_we S, s_dp S, s_wa S, s_le S) (m_rf M, m_co M, m_tx M, m_lt M, m_la M, m_to M, m_tn M, m_at M, m_st M, m_kp M, m_hi M, m_kg M, m_cu M + k, m_lr M, m_ge M, m_rw M, m_rn M)]) 2 [(2, .int (nI k)), (0, .ref (m 0)), (1, .ref (m 3))] [] := by
    refine loop_dn 5 _ ?_ ?_
    · refine G.il X dX7_passes_2 0 rfl ?_
      refine G.al X dX7_passes_3 2 rfl ?_
      refine G.alen X dX7_passes_4 0 3 rfl rfl ?_
      refine G.n_ge X (a := 5) (b := 5) (by omega) (by omega) dX7_passes_5 (fun b5 => ?_) (fun b5 => absurd b5 (by omega))
      refine G.canon 0 3 rfl rfl (g := g) (fun j hj => by show rsk (s_sh S) (m_kp M) (m_cu M) 5 j = g j; rw [rsk, if_pos hj]; exact hk9 j hj) (blk' := ml m cI (s_pe S, s_th S, s_da S, s_dr S, s_kn S, g, s_an S, s_ki S, s_we S, s_dp S, s_wa S, s_le S) (m_rf M, m_co M, m_tx M, m_lt M, m_la M, m_to M, m_tn M, m_at M, m_st M, m_kp M, m_hi M, m_kg M, m_cu M + 5, m_lr M, m_ge M, m_rw M, m_rn M)) rfl (ws' := [ml m cI (s_pe S, s_th S, s_da S, s_dr S, s_kn S, g, s_an S, s_ki S, s_we S, s_dp S, s_wa S, s_le S) (m_rf M, m_co M, m_tx M, m_lt M, m_la M, m_to M, m_tn M, m_at M, m_st M, m_kp M, m_hi M, m_kg M, m_cu M + 5, m_lr M, m_ge M, m_rw M, m_rn M)]) rfl ?_
      exact G.vret X Rr dX7_passes_58 (pv_mk (by rfl))
    · intro k hk ih2
      refine G.il X dX7_passes_2 0 rfl ?_
      refine G.al X dX7_passes_3 2 rfl ?_
      refine G.alen X dX7_passes_4 0 3 rfl rfl ?_
      refine G.n_ge X (a := k) (b := 5) (by omega) (by omega) dX7_passes_5 (fun b5 => absurd b5 (by omega)) (fun b5 => ?_)
      refine G.al X dX7_passes_8 1 rfl ?_
      refine G.get X fX7_152 dX7_passes_9 0 0 rfl rfl rfl ?_
      refine G.b_eq X dX7_passes_12 (fun b12 => ?_) (fun b12 => absurd (Eq.trans (Eq.symm hg) b12) (by decide))
      refine G.al X dX7_passes_30 2 rfl ?_
      refine G.il X dX7_passes_31 0 rfl ?_
      refine G.al X dX7_passes_32 1 rfl ?_
      refine G.get X fX7_49 dX7_passes_33 0 0 rfl rfl rfl ?_
      refine G.al X dX7_passes_36 1 rfl ?_
      refine G.get X fX7_156 dX7_passes_37 0 0 rfl rfl rfl ?_
      refine G.nld X (i := m_cu M + k) dX7_passes_40 0 14 rfl rfl (by omega) (by decide) ?_
      refine G.nst X (i := k) dX7_passes_41 0 3 rfl rfl (by omega) (by decide) (blk' := ml m cI (s_pe S, s_th S, s_da S, s_dr S, s_kn S, upd (rsk (s_sh S) (m_kp M) (m_cu M) k) k ((m_kp M) (m_cu M + k)), s_an S, s_ki S, s_we S, s_dp S, s_wa S, s_le S) (m_rf M, m_co M, m_tx M, m_lt M, m_la M, m_to M, m_tn M, m_at M, m_st M, m_kp M, m_hi M, m_kg M, m_cu M + k, m_lr M, m_ge M, m_rw M, m_rn M)) rfl (ws' := [ml m cI (s_pe S, s_th S, s_da S, s_dr S, s_kn S, upd (rsk (s_sh S) (m_kp M) (m_cu M) k) k ((m_kp M) (m_cu M + k)), s_an S, s_ki S, s_we S, s_dp S, s_wa S, s_le S) (m_rf M, m_co M, m_tx M, m_lt M, m_la M, m_to M, m_tn M, m_at M, m_st M, m_kp M, m_hi M, m_kg M, m_cu M + k, m_lr M, m_ge M, m_rw M, m_rn M)]) rfl ?_
      refine G.al X dX7_passes_42 1 rfl ?_
      refine G.dupr X dX7_passes_43 ?_
      refine G.get X fX7_156 dX7_passes_44 0 0 rfl rfl rfl ?_
      refine G.pu X dX7_passes_47 ?_
      refine G.nadd X (a := m_cu M + k) (b := 1) dX7_passes_48 ?_
      refine G.puti X fX7_156 fe7 dX7_passes_49 rfl rfl 0 0 rfl rfl (Nat.le_of_ble_eq_true rfl) (blk' := ml m cI (s_pe S, s_th S, s_da S, s_dr S, s_kn S, upd (rsk (s_sh S) (m_kp M) (m_cu M) k) k ((m_kp M) (m_cu M + k)), s_an S, s_ki S, s_we S, s_dp S, s_wa S, s_le S) (m_rf M, m_co M, m_tx M, m_lt M, m_la M, m_to M, m_tn M, m_at M, m_st M, m_kp M, m_hi M, m_kg M, (m_cu M + k) + 1, m_lr M, m_ge M, m_rw M, m_rn M)) rfl (ws' := [ml m cI (s_pe S, s_th S, s_da S, s_dr S, s_kn S, upd (rsk (s_sh S) (m_kp M) (m_cu M) k) k ((m_kp M) (m_cu M + k)), s_an S, s_ki S, s_we S, s_dp S, s_wa S, s_le S) (m_rf M, m_co M, m_tx M, m_lt M, m_la M, m_to M, m_tn M, m_at M, m_st M, m_kp M, m_hi M, m_kg M, (m_cu M + k) + 1, m_lr M, m_ge M, m_rw M, m_rn M)]) rfl ?_
      refine G.iinc X dX7_passes_52 0 rfl (v' := nI (k + 1)) (nI_inc k) (by decide) (lv' := [(2, .int (nI (k + 1))), (0, .ref (m 0)), (1, .ref (m 3))]) rfl ?_
      refine G.go X dX7_passes_55 ?_
      rw [show (rsk (s_sh S) (m_kp M) (m_cu M) (k + 1)) = (upd (rsk (s_sh S) (m_kp M) (m_cu M) k) k ((m_kp M) (m_cu M + k))) from (by exact rsk_1 _ _ _ _)] at ih2
      rw [show (m_cu M + (k + 1)) = ((m_cu M + k) + 1) from (by rfl)] at ih2
      exact ih2
  have L2 := L2 0 (Nat.zero_le _)
  rw [show (s_pe S, s_th S, s_da S, s_dr S, s_kn S, rsk (s_sh S) (m_kp M) (m_cu M) 0, s_an S, s_ki S, s_we S, s_dp S, s_wa S, s_le S) = S from (by rw [rsk_0])] at L2
  exact L2

set_option maxRecDepth 20000 in
theorem tX7_passes_k4 (l : Launch) (D : va_G) (cI cW : ClassId) (m : Nat → Nat) (S : WS) (M : MS) (hg : m_kg M = true) (hc : m_cu M + 5 ≤ 192) : CT l D cI cW yX7_passes cX7_passes 3 none ⟨0, 0, 0, 0⟩ [.ref (m 0), .ref (m 4)] ([ml m cI S M]) (PV ([ml m cI S (m_psk M (s_an S) 5)])) := by
  refine CT.of RX7 rfl (by decide +kernel) (Nat.le_of_ble_eq_true rfl) [(0, .ref (m 0)), (1, .ref (m 4))] rfl (fun x X Rr hnm => ?_)
  refine G.pu X dX7_passes_0 ?_
  refine G.is X dX7_passes_1 (by decide) (lv' := [(2, .int 0), (0, .ref (m 0)), (1, .ref (m 4))]) rfl ?_
  have L2 : ∀ k, k ≤ 5 → G x 0 0 ([ml m cI S (m_rf M, m_co M, m_tx M, m_lt M, m_la M, m_to M, m_tn M, m_at M, m_st M, cpk (m_kp M) (m_cu M) (s_an S) k, m_hi M, m_kg M, m_cu M + k, m_lr M, m_ge M, m_rw M, m_rn M)]) 2 [(2, .int (nI k)), (0, .ref (m 0)), (1, .ref (m 4))] [] := by
    refine loop_dn 5 _ ?_ ?_
    · refine G.il X dX7_passes_2 0 rfl ?_
      refine G.al X dX7_passes_3 2 rfl ?_
      refine G.alen X dX7_passes_4 0 4 rfl rfl ?_
      refine G.n_ge X (a := 5) (b := 5) (by omega) (by omega) dX7_passes_5 (fun b5 => ?_) (fun b5 => absurd b5 (by omega))
      exact G.vret X Rr dX7_passes_58 (pv_mk (by rfl))
    · intro k hk ih2
      refine G.il X dX7_passes_2 0 rfl ?_
      refine G.al X dX7_passes_3 2 rfl ?_
      refine G.alen X dX7_passes_4 0 4 rfl rfl ?_
      refine G.n_ge X (a := k) (b := 5) (by omega) (by omega) dX7_passes_5 (fun b5 => absurd b5 (by omega)) (fun b5 => ?_)
      refine G.al X dX7_passes_8 1 rfl ?_
      refine G.get X fX7_152 dX7_passes_9 0 0 rfl rfl rfl ?_
      refine G.b_eq X dX7_passes_12 (fun b12 => absurd (Eq.trans (Eq.symm hg) b12) (by decide)) (fun b12 => ?_)
      refine G.al X dX7_passes_15 1 rfl ?_
      refine G.get X fX7_49 dX7_passes_16 0 0 rfl rfl rfl ?_
      refine G.al X dX7_passes_19 1 rfl ?_
      refine G.get X fX7_156 dX7_passes_20 0 0 rfl rfl rfl ?_
      refine G.al X dX7_passes_23 2 rfl ?_
      refine G.il X dX7_passes_24 0 rfl ?_
      refine G.nld X (i := k) dX7_passes_25 0 4 rfl rfl (by omega) (by decide) ?_
      refine G.nst X (i := m_cu M + k) dX7_passes_26 0 14 rfl rfl (by omega) (by decide) (blk' := ml m cI S (m_rf M, m_co M, m_tx M, m_lt M, m_la M, m_to M, m_tn M, m_at M, m_st M, upd (cpk (m_kp M) (m_cu M) (s_an S) k) (m_cu M + k) ((s_an S) k), m_hi M, m_kg M, m_cu M + k, m_lr M, m_ge M, m_rw M, m_rn M)) rfl (ws' := [ml m cI S (m_rf M, m_co M, m_tx M, m_lt M, m_la M, m_to M, m_tn M, m_at M, m_st M, upd (cpk (m_kp M) (m_cu M) (s_an S) k) (m_cu M + k) ((s_an S) k), m_hi M, m_kg M, m_cu M + k, m_lr M, m_ge M, m_rw M, m_rn M)]) rfl ?_
      refine G.go X dX7_passes_27 ?_
      refine G.al X dX7_passes_42 1 rfl ?_
      refine G.dupr X dX7_passes_43 ?_
      refine G.get X fX7_156 dX7_passes_44 0 0 rfl rfl rfl ?_
      refine G.pu X dX7_passes_47 ?_
      refine G.nadd X (a := m_cu M + k) (b := 1) dX7_passes_48 ?_
      refine G.puti X fX7_156 fe7 dX7_passes_49 rfl rfl 0 0 rfl rfl (Nat.le_of_ble_eq_true rfl) (blk' := ml m cI S (m_rf M, m_co M, m_tx M, m_lt M, m_la M, m_to M, m_tn M, m_at M, m_st M, upd (cpk (m_kp M) (m_cu M) (s_an S) k) (m_cu M + k) ((s_an S) k), m_hi M, m_kg M, (m_cu M + k) + 1, m_lr M, m_ge M, m_rw M, m_rn M)) rfl (ws' := [ml m cI S (m_rf M, m_co M, m_tx M, m_lt M, m_la M, m_to M, m_tn M, m_at M, m_st M, upd (cpk (m_kp M) (m_cu M) (s_an S) k) (m_cu M + k) ((s_an S) k), m_hi M, m_kg M, (m_cu M + k) + 1, m_lr M, m_ge M, m_rw M, m_rn M)]) rfl ?_
      refine G.iinc X dX7_passes_52 0 rfl (v' := nI (k + 1)) (nI_inc k) (by decide) (lv' := [(2, .int (nI (k + 1))), (0, .ref (m 0)), (1, .ref (m 4))]) rfl ?_
      refine G.go X dX7_passes_55 ?_
      rw [show (cpk (m_kp M) (m_cu M) (s_an S) (k + 1)) = (upd (cpk (m_kp M) (m_cu M) (s_an S) k) (m_cu M + k) ((s_an S) k)) from (by exact cpk_1 _ _ _ _)] at ih2
      rw [show (m_cu M + (k + 1)) = ((m_cu M + k) + 1) from (by rfl)] at ih2
      exact ih2
  have L2 := L2 0 (Nat.zero_le _)
  rw [show (m_rf M, m_co M, m_tx M, m_lt M, m_la M, m_to M, m_tn M, m_at M, m_st M, cpk (m_kp M) (m_cu M) (s_an S) 0, m_hi M, m_kg M, m_cu M + 0, m_lr M, m_ge M, m_rw M, m_rn M) = M from (by rw [cpk_0]; rfl)] at L2
  exact L2

set_option maxRecDepth 20000 in
theorem tX7_passes_r4 (l : Launch) (D : va_G) (cI cW : ClassId) (m : Nat → Nat) (S : WS) (M : MS) (g : FN) (hg : m_kg M = false) (hc : m_cu M + 5 ≤ 192) (hk9 : ∀ j, j < 5 → m_kp M (m_cu M + j) = g j) : CT l D cI cW yX7_passes cX7_passes 3 none ⟨0, 0, 0, 0⟩ [.ref (m 0), .ref (m 4)] ([ml m cI S M]) (PV ([ml m cI (r_6 S g) (m_adv M 5)])) := by
  refine CT.of RX7 rfl (by decide +kernel) (Nat.le_of_ble_eq_true rfl) [(0, .ref (m 0)), (1, .ref (m 4))] rfl (fun x X Rr hnm => ?_)
  refine G.pu X dX7_passes_0 ?_
  refine G.is X dX7_passes_1 (by decide) (lv' := [(2, .int 0), (0, .ref (m 0)), (1, .ref (m 4))]) rfl ?_
  have L2 : ∀ k, k ≤ 5 → G x 0 0 ([ml m cI (s_pe S, s_th S, s_da S, s_dr S, s_kn S, s_sh S, rsk (s_an S) (m_kp M) (m_cu M) k, s_ki S, s_we S, s_dp S, s_wa S, s_le S) (m_rf M, m_co M, m_tx M, m_lt M, m_la M, m_to M, m_tn M, m_at M, m_st M, m_kp M, m_hi M, m_kg M, m_cu M + k, m_lr M, m_ge M, m_rw M, m_rn M)]) 2 [(2, .int (nI k)), (0, .ref (m 0)), (1, .ref (m 4))] [] := by
    refine loop_dn 5 _ ?_ ?_
    · refine G.il X dX7_passes_2 0 rfl ?_
      refine G.al X dX7_passes_3 2 rfl ?_
      refine G.alen X dX7_passes_4 0 4 rfl rfl ?_
      refine G.n_ge X (a := 5) (b := 5) (by omega) (by omega) dX7_passes_5 (fun b5 => ?_) (fun b5 => absurd b5 (by omega))
      refine G.canon 0 4 rfl rfl (g := g) (fun j hj => by show rsk (s_an S) (m_kp M) (m_cu M) 5 j = g j; rw [rsk, if_pos hj]; exact hk9 j hj) (blk' := ml m cI (s_pe S, s_th S, s_da S, s_dr S, s_kn S, s_sh S, g, s_ki S, s_we S, s_dp S, s_wa S, s_le S) (m_rf M, m_co M, m_tx M, m_lt M, m_la M, m_to M, m_tn M, m_at M, m_st M, m_kp M, m_hi M, m_kg M, m_cu M + 5, m_lr M, m_ge M, m_rw M, m_rn M)) rfl (ws' := [ml m cI (s_pe S, s_th S, s_da S, s_dr S, s_kn S, s_sh S, g, s_ki S, s_we S, s_dp S, s_wa S, s_le S) (m_rf M, m_co M, m_tx M, m_lt M, m_la M, m_to M, m_tn M, m_at M, m_st M, m_kp M, m_hi M, m_kg M, m_cu M + 5, m_lr M, m_ge M, m_rw M, m_rn M)]) rfl ?_
      exact G.vret X Rr dX7_passes_58 (pv_mk (by rfl))
    · intro k hk ih2
      refine G.il X dX7_passes_2 0 rfl ?_
      refine G.al X dX7_passes_3 2 rfl ?_
      refine G.alen X dX7_passes_4 0 4 rfl rfl ?_
      refine G.n_ge X (a := k) (b := 5) (by omega) (by omega) dX7_passes_5 (fun b5 => absurd b5 (by omega)) (fun b5 => ?_)
      refine G.al X dX7_passes_8 1 rfl ?_
      refine G.get X fX7_152 dX7_passes_9 0 0 rfl rfl rfl ?_
      refine G.b_eq X dX7_passes_12 (fun b12 => ?_) (fun b12 => absurd (Eq.trans (Eq.symm hg) b12) (by decide))
      refine G.al X dX7_passes_30 2 rfl ?_
      refine G.il X dX7_passes_31 0 rfl ?_
      refine G.al X dX7_passes_32 1 rfl ?_
      refine G.get X fX7_49 dX7_passes_33 0 0 rfl rfl rfl ?_
      refine G.al X dX7_passes_36 1 rfl ?_
      refine G.get X fX7_156 dX7_passes_37 0 0 rfl rfl rfl ?_
      refine G.nld X (i := m_cu M + k) dX7_passes_40 0 14 rfl rfl (by omega) (by decide) ?_
      refine G.nst X (i := k) dX7_passes_41 0 4 rfl rfl (by omega) (by decide) (blk' := ml m cI (s_pe S, s_th S, s_da S, s_dr S, s_kn S, s_sh S, upd (rsk (s_an S) (m_kp M) (m_cu M) k) k ((m_kp M) (m_cu M + k)), s_ki S, s_we S, s_dp S, s_wa S, s_le S) (m_rf M, m_co M, m_tx M, m_lt M, m_la M, m_to M, m_tn M, m_at M, m_st M, m_kp M, m_hi M, m_kg M, m_cu M + k, m_lr M, m_ge M, m_rw M, m_rn M)) rfl (ws' := [ml m cI (s_pe S, s_th S, s_da S, s_dr S, s_kn S, s_sh S, upd (rsk (s_an S) (m_kp M) (m_cu M) k) k ((m_kp M) (m_cu M + k)), s_ki S, s_we S, s_dp S, s_wa S, s_le S) (m_rf M, m_co M, m_tx M, m_lt M, m_la M, m_to M, m_tn M, m_at M, m_st M, m_kp M, m_hi M, m_kg M, m_cu M + k, m_lr M, m_ge M, m_rw M, m_rn M)]) rfl ?_
      refine G.al X dX7_passes_42 1 rfl ?_
      refine G.dupr X dX7_passes_43 ?_
      refine G.get X fX7_156 dX7_passes_44 0 0 rfl rfl rfl ?_
      refine G.pu X dX7_passes_47 ?_
      refine G.nadd X (a := m_cu M + k) (b := 1) dX7_passes_48 ?_
      refine G.puti X fX7_156 fe7 dX7_passes_49 rfl rfl 0 0 rfl rfl (Nat.le_of_ble_eq_true rfl) (blk' := ml m cI (s_pe S, s_th S, s_da S, s_dr S, s_kn S, s_sh S, upd (rsk (s_an S) (m_kp M) (m_cu M) k) k ((m_kp M) (m_cu M + k)), s_ki S, s_we S, s_dp S, s_wa S, s_le S) (m_rf M, m_co M, m_tx M, m_lt M, m_la M, m_to M, m_tn M, m_at M, m_st M, m_kp M, m_hi M, m_kg M, (m_cu M + k) + 1, m_lr M, m_ge M, m_rw M, m_rn M)) rfl (ws' := [ml m cI (s_pe S, s_th S, s_da S, s_dr S, s_kn S, s_sh S, upd (rsk (s_an S) (m_kp M) (m_cu M) k) k ((m_kp M) (m_cu M + k)), s_ki S, s_we S, s_dp S, s_wa S, s_le S) (m_rf M, m_co M, m_tx M, m_lt M, m_la M, m_to M, m_tn M, m_at M, m_st M, m_kp M, m_hi M, m_kg M, (m_cu M + k) + 1, m_lr M, m_ge M, m_rw M, m_rn M)]) rfl ?_
      refine G.iinc X dX7_passes_52 0 rfl (v' := nI (k + 1)) (nI_inc k) (by decide) (lv' := [(2, .int (nI (k + 1))), (0, .ref (m 0)), (1, .ref (m 4))]) rfl ?_
      refine G.go X dX7_passes_55 ?_
      rw [show (rsk (s_an S) (m_kp M) (m_cu M) (k + 1)) = (upd (rsk (s_an S) (m_kp M) (m_cu M) k) k ((m_kp M) (m_cu M + k))) from (by exact rsk_1 _ _ _ _)] at ih2
      rw [show (m_cu M + (k + 1)) = ((m_cu M + k) + 1) from (by rfl)] at ih2
      exact ih2
  have L2 := L2 0 (Nat.zero_le _)
  rw [show (s_pe S, s_th S, s_da S, s_dr S, s_kn S, s_sh S, rsk (s_an S) (m_kp M) (m_cu M) 0, s_ki S, s_we S, s_dp S, s_wa S, s_le S) = S from (by rw [rsk_0])] at L2
  exact L2

set_option maxRecDepth 20000 in
theorem tX7_passes_k5 (l : Launch) (D : va_G) (cI cW : ClassId) (m : Nat → Nat) (S : WS) (M : MS) (hg : m_kg M = true) (hc : m_cu M + 9 ≤ 192) : CT l D cI cW yX7_passes cX7_passes 3 none ⟨0, 0, 0, 0⟩ [.ref (m 0), .ref (m 5)] ([ml m cI S M]) (PV ([ml m cI S (m_psk M (s_ki S) 9)])) := by
  refine CT.of RX7 rfl (by decide +kernel) (Nat.le_of_ble_eq_true rfl) [(0, .ref (m 0)), (1, .ref (m 5))] rfl (fun x X Rr hnm => ?_)
  refine G.pu X dX7_passes_0 ?_
  refine G.is X dX7_passes_1 (by decide) (lv' := [(2, .int 0), (0, .ref (m 0)), (1, .ref (m 5))]) rfl ?_
  have L2 : ∀ k, k ≤ 9 → G x 0 0 ([ml m cI S (m_rf M, m_co M, m_tx M, m_lt M, m_la M, m_to M, m_tn M, m_at M, m_st M, cpk (m_kp M) (m_cu M) (s_ki S) k, m_hi M, m_kg M, m_cu M + k, m_lr M, m_ge M, m_rw M, m_rn M)]) 2 [(2, .int (nI k)), (0, .ref (m 0)), (1, .ref (m 5))] [] := by
    refine loop_dn 9 _ ?_ ?_
    · refine G.il X dX7_passes_2 0 rfl ?_
      refine G.al X dX7_passes_3 2 rfl ?_
      refine G.alen X dX7_passes_4 0 5 rfl rfl ?_
      refine G.n_ge X (a := 9) (b := 9) (by omega) (by omega) dX7_passes_5 (fun b5 => ?_) (fun b5 => absurd b5 (by omega))
      exact G.vret X Rr dX7_passes_58 (pv_mk (by rfl))
    · intro k hk ih2
      refine G.il X dX7_passes_2 0 rfl ?_
      refine G.al X dX7_passes_3 2 rfl ?_
      refine G.alen X dX7_passes_4 0 5 rfl rfl ?_
      refine G.n_ge X (a := k) (b := 9) (by omega) (by omega) dX7_passes_5 (fun b5 => absurd b5 (by omega)) (fun b5 => ?_)
      refine G.al X dX7_passes_8 1 rfl ?_
      refine G.get X fX7_152 dX7_passes_9 0 0 rfl rfl rfl ?_
      refine G.b_eq X dX7_passes_12 (fun b12 => absurd (Eq.trans (Eq.symm hg) b12) (by decide)) (fun b12 => ?_)
      refine G.al X dX7_passes_15 1 rfl ?_
      refine G.get X fX7_49 dX7_passes_16 0 0 rfl rfl rfl ?_
      refine G.al X dX7_passes_19 1 rfl ?_
      refine G.get X fX7_156 dX7_passes_20 0 0 rfl rfl rfl ?_
      refine G.al X dX7_passes_23 2 rfl ?_
      refine G.il X dX7_passes_24 0 rfl ?_
      refine G.nld X (i := k) dX7_passes_25 0 5 rfl rfl (by omega) (by decide) ?_
      refine G.nst X (i := m_cu M + k) dX7_passes_26 0 14 rfl rfl (by omega) (by decide) (blk' := ml m cI S (m_rf M, m_co M, m_tx M, m_lt M, m_la M, m_to M, m_tn M, m_at M, m_st M, upd (cpk (m_kp M) (m_cu M) (s_ki S) k) (m_cu M + k) ((s_ki S) k), m_hi M, m_kg M, m_cu M + k, m_lr M, m_ge M, m_rw M, m_rn M)) rfl (ws' := [ml m cI S (m_rf M, m_co M, m_tx M, m_lt M, m_la M, m_to M, m_tn M, m_at M, m_st M, upd (cpk (m_kp M) (m_cu M) (s_ki S) k) (m_cu M + k) ((s_ki S) k), m_hi M, m_kg M, m_cu M + k, m_lr M, m_ge M, m_rw M, m_rn M)]) rfl ?_
      refine G.go X dX7_passes_27 ?_
      refine G.al X dX7_passes_42 1 rfl ?_
      refine G.dupr X dX7_passes_43 ?_
      refine G.get X fX7_156 dX7_passes_44 0 0 rfl rfl rfl ?_
      refine G.pu X dX7_passes_47 ?_
      refine G.nadd X (a := m_cu M + k) (b := 1) dX7_passes_48 ?_
      refine G.puti X fX7_156 fe7 dX7_passes_49 rfl rfl 0 0 rfl rfl (Nat.le_of_ble_eq_true rfl) (blk' := ml m cI S (m_rf M, m_co M, m_tx M, m_lt M, m_la M, m_to M, m_tn M, m_at M, m_st M, upd (cpk (m_kp M) (m_cu M) (s_ki S) k) (m_cu M + k) ((s_ki S) k), m_hi M, m_kg M, (m_cu M + k) + 1, m_lr M, m_ge M, m_rw M, m_rn M)) rfl (ws' := [ml m cI S (m_rf M, m_co M, m_tx M, m_lt M, m_la M, m_to M, m_tn M, m_at M, m_st M, upd (cpk (m_kp M) (m_cu M) (s_ki S) k) (m_cu M + k) ((s_ki S) k), m_hi M, m_kg M, (m_cu M + k) + 1, m_lr M, m_ge M, m_rw M, m_rn M)]) rfl ?_
      refine G.iinc X dX7_passes_52 0 rfl (v' := nI (k + 1)) (nI_inc k) (by decide) (lv' := [(2, .int (nI (k + 1))), (0, .ref (m 0)), (1, .ref (m 5))]) rfl ?_
      refine G.go X dX7_passes_55 ?_
      rw [show (cpk (m_kp M) (m_cu M) (s_ki S) (k + 1)) = (upd (cpk (m_kp M) (m_cu M) (s_ki S) k) (m_cu M + k) ((s_ki S) k)) from (by exact cpk_1 _ _ _ _)] at ih2
      rw [show (m_cu M + (k + 1)) = ((m_cu M + k) + 1) from (by rfl)] at ih2
      exact ih2
  have L2 := L2 0 (Nat.zero_le _)
  rw [show (m_rf M, m_co M, m_tx M, m_lt M, m_la M, m_to M, m_tn M, m_at M, m_st M, cpk (m_kp M) (m_cu M) (s_ki S) 0, m_hi M, m_kg M, m_cu M + 0, m_lr M, m_ge M, m_rw M, m_rn M) = M from (by rw [cpk_0]; rfl)] at L2
  exact L2

set_option maxRecDepth 20000 in
theorem tX7_passes_r5 (l : Launch) (D : va_G) (cI cW : ClassId) (m : Nat → Nat) (S : WS) (M : MS) (g : FN) (hg : m_kg M = false) (hc : m_cu M + 9 ≤ 192) (hk9 : ∀ j, j < 9 → m_kp M (m_cu M + j) = g j) : CT l D cI cW yX7_passes cX7_passes 3 none ⟨0, 0, 0, 0⟩ [.ref (m 0), .ref (m 5)] ([ml m cI S M]) (PV ([ml m cI (r_7 S g) (m_adv M 9)])) := by
  refine CT.of RX7 rfl (by decide +kernel) (Nat.le_of_ble_eq_true rfl) [(0, .ref (m 0)), (1, .ref (m 5))] rfl (fun x X Rr hnm => ?_)
  refine G.pu X dX7_passes_0 ?_
  refine G.is X dX7_passes_1 (by decide) (lv' := [(2, .int 0), (0, .ref (m 0)), (1, .ref (m 5))]) rfl ?_
  have L2 : ∀ k, k ≤ 9 → G x 0 0 ([ml m cI (s_pe S, s_th S, s_da S, s_dr S, s_kn S, s_sh S, s_an S, rsk (s_ki S) (m_kp M) (m_cu M) k, s_we S, s_dp S, s_wa S, s_le S) (m_rf M, m_co M, m_tx M, m_lt M, m_la M, m_to M, m_tn M, m_at M, m_st M, m_kp M, m_hi M, m_kg M, m_cu M + k, m_lr M, m_ge M, m_rw M, m_rn M)]) 2 [(2, .int (nI k)), (0, .ref (m 0)), (1, .ref (m 5))] [] := by
    refine loop_dn 9 _ ?_ ?_
    · refine G.il X dX7_passes_2 0 rfl ?_
      refine G.al X dX7_passes_3 2 rfl ?_
      refine G.alen X dX7_passes_4 0 5 rfl rfl ?_
      refine G.n_ge X (a := 9) (b := 9) (by omega) (by omega) dX7_passes_5 (fun b5 => ?_) (fun b5 => absurd b5 (by omega))
      refine G.canon 0 5 rfl rfl (g := g) (fun j hj => by show rsk (s_ki S) (m_kp M) (m_cu M) 9 j = g j; rw [rsk, if_pos hj]; exact hk9 j hj) (blk' := ml m cI (s_pe S, s_th S, s_da S, s_dr S, s_kn S, s_sh S, s_an S, g, s_we S, s_dp S, s_wa S, s_le S) (m_rf M, m_co M, m_tx M, m_lt M, m_la M, m_to M, m_tn M, m_at M, m_st M, m_kp M, m_hi M, m_kg M, m_cu M + 9, m_lr M, m_ge M, m_rw M, m_rn M)) rfl (ws' := [ml m cI (s_pe S, s_th S, s_da S, s_dr S, s_kn S, s_sh S, s_an S, g, s_we S, s_dp S, s_wa S, s_le S) (m_rf M, m_co M, m_tx M, m_lt M, m_la M, m_to M, m_tn M, m_at M, m_st M, m_kp M, m_hi M, m_kg M, m_cu M + 9, m_lr M, m_ge M, m_rw M, m_rn M)]) rfl ?_
      exact G.vret X Rr dX7_passes_58 (pv_mk (by rfl))
    · intro k hk ih2
      refine G.il X dX7_passes_2 0 rfl ?_
      refine G.al X dX7_passes_3 2 rfl ?_
      refine G.alen X dX7_passes_4 0 5 rfl rfl ?_
      refine G.n_ge X (a := k) (b := 9) (by omega) (by omega) dX7_passes_5 (fun b5 => absurd b5 (by omega)) (fun b5 => ?_)
      refine G.al X dX7_passes_8 1 rfl ?_
      refine G.get X fX7_152 dX7_passes_9 0 0 rfl rfl rfl ?_
      refine G.b_eq X dX7_passes_12 (fun b12 => ?_) (fun b12 => absurd (Eq.trans (Eq.symm hg) b12) (by decide))
      refine G.al X dX7_passes_30 2 rfl ?_
      refine G.il X dX7_passes_31 0 rfl ?_
      refine G.al X dX7_passes_32 1 rfl ?_
      refine G.get X fX7_49 dX7_passes_33 0 0 rfl rfl rfl ?_
      refine G.al X dX7_passes_36 1 rfl ?_
      refine G.get X fX7_156 dX7_passes_37 0 0 rfl rfl rfl ?_
      refine G.nld X (i := m_cu M + k) dX7_passes_40 0 14 rfl rfl (by omega) (by decide) ?_
      refine G.nst X (i := k) dX7_passes_41 0 5 rfl rfl (by omega) (by decide) (blk' := ml m cI (s_pe S, s_th S, s_da S, s_dr S, s_kn S, s_sh S, s_an S, upd (rsk (s_ki S) (m_kp M) (m_cu M) k) k ((m_kp M) (m_cu M + k)), s_we S, s_dp S, s_wa S, s_le S) (m_rf M, m_co M, m_tx M, m_lt M, m_la M, m_to M, m_tn M, m_at M, m_st M, m_kp M, m_hi M, m_kg M, m_cu M + k, m_lr M, m_ge M, m_rw M, m_rn M)) rfl (ws' := [ml m cI (s_pe S, s_th S, s_da S, s_dr S, s_kn S, s_sh S, s_an S, upd (rsk (s_ki S) (m_kp M) (m_cu M) k) k ((m_kp M) (m_cu M + k)), s_we S, s_dp S, s_wa S, s_le S) (m_rf M, m_co M, m_tx M, m_lt M, m_la M, m_to M, m_tn M, m_at M, m_st M, m_kp M, m_hi M, m_kg M, m_cu M + k, m_lr M, m_ge M, m_rw M, m_rn M)]) rfl ?_
      refine G.al X dX7_passes_42 1 rfl ?_
      refine G.dupr X dX7_passes_43 ?_
      refine G.get X fX7_156 dX7_passes_44 0 0 rfl rfl rfl ?_
      refine G.pu X dX7_passes_47 ?_
      refine G.nadd X (a := m_cu M + k) (b := 1) dX7_passes_48 ?_
      refine G.puti X fX7_156 fe7 dX7_passes_49 rfl rfl 0 0 rfl rfl (Nat.le_of_ble_eq_true rfl) (blk' := ml m cI (s_pe S, s_th S, s_da S, s_dr S, s_kn S, s_sh S, s_an S, upd (rsk (s_ki S) (m_kp M) (m_cu M) k) k ((m_kp M) (m_cu M + k)), s_we S, s_dp S, s_wa S, s_le S) (m_rf M, m_co M, m_tx M, m_lt M, m_la M, m_to M, m_tn M, m_at M, m_st M, m_kp M, m_hi M, m_kg M, (m_cu M + k) + 1, m_lr M, m_ge M, m_rw M, m_rn M)) rfl (ws' := [ml m cI (s_pe S, s_th S, s_da S, s_dr S, s_kn S, s_sh S, s_an S, upd (rsk (s_ki S) (m_kp M) (m_cu M) k) k ((m_kp M) (m_cu M + k)), s_we S, s_dp S, s_wa S, s_le S) (m_rf M, m_co M, m_tx M, m_lt M, m_la M, m_to M, m_tn M, m_at M, m_st M, m_kp M, m_hi M, m_kg M, (m_cu M + k) + 1, m_lr M, m_ge M, m_rw M, m_rn M)]) rfl ?_
      refine G.iinc X dX7_passes_52 0 rfl (v' := nI (k + 1)) (nI_inc k) (by decide) (lv' := [(2, .int (nI (k + 1))), (0, .ref (m 0)), (1, .ref (m 5))]) rfl ?_
      refine G.go X dX7_passes_55 ?_
      rw [show (rsk (s_ki S) (m_kp M) (m_cu M) (k + 1)) = (upd (rsk (s_ki S) (m_kp M) (m_cu M) k) k ((m_kp M) (m_cu M + k))) from (by exact rsk_1 _ _ _ _)] at ih2
      rw [show (m_cu M + (k + 1)) = ((m_cu M + k) + 1) from (by rfl)] at ih2
      exact ih2
  have L2 := L2 0 (Nat.zero_le _)
  rw [show (s_pe S, s_th S, s_da S, s_dr S, s_kn S, s_sh S, s_an S, rsk (s_ki S) (m_kp M) (m_cu M) 0, s_we S, s_dp S, s_wa S, s_le S) = S from (by rw [rsk_0])] at L2
  exact L2

set_option maxRecDepth 20000 in
theorem tX7_passes_k6 (l : Launch) (D : va_G) (cI cW : ClassId) (m : Nat → Nat) (S : WS) (M : MS) (hg : m_kg M = true) (hc : m_cu M + 9 ≤ 192) : CT l D cI cW yX7_passes cX7_passes 3 none ⟨0, 0, 0, 0⟩ [.ref (m 0), .ref (m 6)] ([ml m cI S M]) (PV ([ml m cI S (m_psk M (s_we S) 9)])) := by
  refine CT.of RX7 rfl (by decide +kernel) (Nat.le_of_ble_eq_true rfl) [(0, .ref (m 0)), (1, .ref (m 6))] rfl (fun x X Rr hnm => ?_)
  refine G.pu X dX7_passes_0 ?_
  refine G.is X dX7_passes_1 (by decide) (lv' := [(2, .int 0), (0, .ref (m 0)), (1, .ref (m 6))]) rfl ?_
  have L2 : ∀ k, k ≤ 9 → G x 0 0 ([ml m cI S (m_rf M, m_co M, m_tx M, m_lt M, m_la M, m_to M, m_tn M, m_at M, m_st M, cpk (m_kp M) (m_cu M) (s_we S) k, m_hi M, m_kg M, m_cu M + k, m_lr M, m_ge M, m_rw M, m_rn M)]) 2 [(2, .int (nI k)), (0, .ref (m 0)), (1, .ref (m 6))] [] := by
    refine loop_dn 9 _ ?_ ?_
    · refine G.il X dX7_passes_2 0 rfl ?_
      refine G.al X dX7_passes_3 2 rfl ?_
      refine G.alen X dX7_passes_4 0 6 rfl rfl ?_
      refine G.n_ge X (a := 9) (b := 9) (by omega) (by omega) dX7_passes_5 (fun b5 => ?_) (fun b5 => absurd b5 (by omega))
      exact G.vret X Rr dX7_passes_58 (pv_mk (by rfl))
    · intro k hk ih2
      refine G.il X dX7_passes_2 0 rfl ?_
      refine G.al X dX7_passes_3 2 rfl ?_
      refine G.alen X dX7_passes_4 0 6 rfl rfl ?_
      refine G.n_ge X (a := k) (b := 9) (by omega) (by omega) dX7_passes_5 (fun b5 => absurd b5 (by omega)) (fun b5 => ?_)
      refine G.al X dX7_passes_8 1 rfl ?_
      refine G.get X fX7_152 dX7_passes_9 0 0 rfl rfl rfl ?_
      refine G.b_eq X dX7_passes_12 (fun b12 => absurd (Eq.trans (Eq.symm hg) b12) (by decide)) (fun b12 => ?_)
      refine G.al X dX7_passes_15 1 rfl ?_
      refine G.get X fX7_49 dX7_passes_16 0 0 rfl rfl rfl ?_
      refine G.al X dX7_passes_19 1 rfl ?_
      refine G.get X fX7_156 dX7_passes_20 0 0 rfl rfl rfl ?_
      refine G.al X dX7_passes_23 2 rfl ?_
      refine G.il X dX7_passes_24 0 rfl ?_
      refine G.nld X (i := k) dX7_passes_25 0 6 rfl rfl (by omega) (by decide) ?_
      refine G.nst X (i := m_cu M + k) dX7_passes_26 0 14 rfl rfl (by omega) (by decide) (blk' := ml m cI S (m_rf M, m_co M, m_tx M, m_lt M, m_la M, m_to M, m_tn M, m_at M, m_st M, upd (cpk (m_kp M) (m_cu M) (s_we S) k) (m_cu M + k) ((s_we S) k), m_hi M, m_kg M, m_cu M + k, m_lr M, m_ge M, m_rw M, m_rn M)) rfl (ws' := [ml m cI S (m_rf M, m_co M, m_tx M, m_lt M, m_la M, m_to M, m_tn M, m_at M, m_st M, upd (cpk (m_kp M) (m_cu M) (s_we S) k) (m_cu M + k) ((s_we S) k), m_hi M, m_kg M, m_cu M + k, m_lr M, m_ge M, m_rw M, m_rn M)]) rfl ?_
      refine G.go X dX7_passes_27 ?_
      refine G.al X dX7_passes_42 1 rfl ?_
      refine G.dupr X dX7_passes_43 ?_
      refine G.get X fX7_156 dX7_passes_44 0 0 rfl rfl rfl ?_
      refine G.pu X dX7_passes_47 ?_
      refine G.nadd X (a := m_cu M + k) (b := 1) dX7_passes_48 ?_
      refine G.puti X fX7_156 fe7 dX7_passes_49 rfl rfl 0 0 rfl rfl (Nat.le_of_ble_eq_true rfl) (blk' := ml m cI S (m_rf M, m_co M, m_tx M, m_lt M, m_la M, m_to M, m_tn M, m_at M, m_st M, upd (cpk (m_kp M) (m_cu M) (s_we S) k) (m_cu M + k) ((s_we S) k), m_hi M, m_kg M, (m_cu M + k) + 1, m_lr M, m_ge M, m_rw M, m_rn M)) rfl (ws' := [ml m cI S (m_rf M, m_co M, m_tx M, m_lt M, m_la M, m_to M, m_tn M, m_at M, m_st M, upd (cpk (m_kp M) (m_cu M) (s_we S) k) (m_cu M + k) ((s_we S) k), m_hi M, m_kg M, (m_cu M + k) + 1, m_lr M, m_ge M, m_rw M, m_rn M)]) rfl ?_
      refine G.iinc X dX7_passes_52 0 rfl (v' := nI (k + 1)) (nI_inc k) (by decide) (lv' := [(2, .int (nI (k + 1))), (0, .ref (m 0)), (1, .ref (m 6))]) rfl ?_
      refine G.go X dX7_passes_55 ?_
      rw [show (cpk (m_kp M) (m_cu M) (s_we S) (k + 1)) = (upd (cpk (m_kp M) (m_cu M) (s_we S) k) (m_cu M + k) ((s_we S) k)) from (by exact cpk_1 _ _ _ _)] at ih2
      rw [show (m_cu M + (k + 1)) = ((m_cu M + k) + 1) from (by rfl)] at ih2
      exact ih2
  have L2 := L2 0 (Nat.zero_le _)
  rw [show (m_rf M, m_co M, m_tx M, m_lt M, m_la M, m_to M, m_tn M, m_at M, m_st M, cpk (m_kp M) (m_cu M) (s_we S) 0, m_hi M, m_kg M, m_cu M + 0, m_lr M, m_ge M, m_rw M, m_rn M) = M from (by rw [cpk_0]; rfl)] at L2
  exact L2

set_option maxRecDepth 20000 in
theorem tX7_passes_r6 (l : Launch) (D : va_G) (cI cW : ClassId) (m : Nat → Nat) (S : WS) (M : MS) (g : FN) (hg : m_kg M = false) (hc : m_cu M + 9 ≤ 192) (hk9 : ∀ j, j < 9 → m_kp M (m_cu M + j) = g j) : CT l D cI cW yX7_passes cX7_passes 3 none ⟨0, 0, 0, 0⟩ [.ref (m 0), .ref (m 6)] ([ml m cI S M]) (PV ([ml m cI (r_8 S g) (m_adv M 9)])) := by
  refine CT.of RX7 rfl (by decide +kernel) (Nat.le_of_ble_eq_true rfl) [(0, .ref (m 0)), (1, .ref (m 6))] rfl (fun x X Rr hnm => ?_)
  refine G.pu X dX7_passes_0 ?_
  refine G.is X dX7_passes_1 (by decide) (lv' := [(2, .int 0), (0, .ref (m 0)), (1, .ref (m 6))]) rfl ?_
  have L2 : ∀ k, k ≤ 9 → G x 0 0 ([ml m cI (s_pe S, s_th S, s_da S, s_dr S, s_kn S, s_sh S, s_an S, s_ki S, rsk (s_we S) (m_kp M) (m_cu M) k, s_dp S, s_wa S, s_le S) (m_rf M, m_co M, m_tx M, m_lt M, m_la M, m_to M, m_tn M, m_at M, m_st M, m_kp M, m_hi M, m_kg M, m_cu M + k, m_lr M, m_ge M, m_rw M, m_rn M)]) 2 [(2, .int (nI k)), (0, .ref (m 0)), (1, .ref (m 6))] [] := by
    refine loop_dn 9 _ ?_ ?_
    · refine G.il X dX7_passes_2 0 rfl ?_
      refine G.al X dX7_passes_3 2 rfl ?_
      refine G.alen X dX7_passes_4 0 6 rfl rfl ?_
      refine G.n_ge X (a := 9) (b := 9) (by omega) (by omega) dX7_passes_5 (fun b5 => ?_) (fun b5 => absurd b5 (by omega))
      refine G.canon 0 6 rfl rfl (g := g) (fun j hj => by show rsk (s_we S) (m_kp M) (m_cu M) 9 j = g j; rw [rsk, if_pos hj]; exact hk9 j hj) (blk' := ml m cI (s_pe S, s_th S, s_da S, s_dr S, s_kn S, s_sh S, s_an S, s_ki S, g, s_dp S, s_wa S, s_le S) (m_rf M, m_co M, m_tx M, m_lt M, m_la M, m_to M, m_tn M, m_at M, m_st M, m_kp M, m_hi M, m_kg M, m_cu M + 9, m_lr M, m_ge M, m_rw M, m_rn M)) rfl (ws' := [ml m cI (s_pe S, s_th S, s_da S, s_dr S, s_kn S, s_sh S, s_an S, s_ki S, g, s_dp S, s_wa S, s_le S) (m_rf M, m_co M, m_tx M, m_lt M, m_la M, m_to M, m_tn M, m_at M, m_st M, m_kp M, m_hi M, m_kg M, m_cu M + 9, m_lr M, m_ge M, m_rw M, m_rn M)]) rfl ?_
      exact G.vret X Rr dX7_passes_58 (pv_mk (by rfl))
    · intro k hk ih2
      refine G.il X dX7_passes_2 0 rfl ?_
      refine G.al X dX7_passes_3 2 rfl ?_
      refine G.alen X dX7_passes_4 0 6 rfl rfl ?_
      refine G.n_ge X (a := k) (b := 9) (by omega) (by omega) dX7_passes_5 (fun b5 => absurd b5 (by omega)) (fun b5 => ?_)
      refine G.al X dX7_passes_8 1 rfl ?_
      refine G.get X fX7_152 dX7_passes_9 0 0 rfl rfl rfl ?_
      refine G.b_eq X dX7_passes_12 (fun b12 => ?_) (fun b12 => absurd (Eq.trans (Eq.symm hg) b12) (by decide))
      refine G.al X dX7_passes_30 2 rfl ?_
      refine G.il X dX7_passes_31 0 rfl ?_
      refine G.al X dX7_passes_32 1 rfl ?_
      refine G.get X fX7_49 dX7_passes_33 0 0 rfl rfl rfl ?_
      refine G.al X dX7_passes_36 1 rfl ?_
      refine G.get X fX7_156 dX7_passes_37 0 0 rfl rfl rfl ?_
      refine G.nld X (i := m_cu M + k) dX7_passes_40 0 14 rfl rfl (by omega) (by decide) ?_
      refine G.nst X (i := k) dX7_passes_41 0 6 rfl rfl (by omega) (by decide) (blk' := ml m cI (s_pe S, s_th S, s_da S, s_dr S, s_kn S, s_sh S, s_an S, s_ki S, upd (rsk (s_we S) (m_kp M) (m_cu M) k) k ((m_kp M) (m_cu M + k)), s_dp S, s_wa S, s_le S) (m_rf M, m_co M, m_tx M, m_lt M, m_la M, m_to M, m_tn M, m_at M, m_st M, m_kp M, m_hi M, m_kg M, m_cu M + k, m_lr M, m_ge M, m_rw M, m_rn M)) rfl (ws' := [ml m cI (s_pe S, s_th S, s_da S, s_dr S, s_kn S, s_sh S, s_an S, s_ki S, upd (rsk (s_we S) (m_kp M) (m_cu M) k) k ((m_kp M) (m_cu M + k)), s_dp S, s_wa S, s_le S) (m_rf M, m_co M, m_tx M, m_lt M, m_la M, m_to M, m_tn M, m_at M, m_st M, m_kp M, m_hi M, m_kg M, m_cu M + k, m_lr M, m_ge M, m_rw M, m_rn M)]) rfl ?_
      refine G.al X dX7_passes_42 1 rfl ?_
      refine G.dupr X dX7_passes_43 ?_
      refine G.get X fX7_156 dX7_passes_44 0 0 rfl rfl rfl ?_
      refine G.pu X dX7_passes_47 ?_
      refine G.nadd X (a := m_cu M + k) (b := 1) dX7_passes_48 ?_
      refine G.puti X fX7_156 fe7 dX7_passes_49 rfl rfl 0 0 rfl rfl (Nat.le_of_ble_eq_true rfl) (blk' := ml m cI (s_pe S, s_th S, s_da S, s_dr S, s_kn S, s_sh S, s_an S, s_ki S, upd (rsk (s_we S) (m_kp M) (m_cu M) k) k ((m_kp M) (m_cu M + k)), s_dp S, s_wa S, s_le S) (m_rf M, m_co M, m_tx M, m_lt M, m_la M, m_to M, m_tn M, m_at M, m_st M, m_kp M, m_hi M, m_kg M, (m_cu M + k) + 1, m_lr M, m_ge M, m_rw M, m_rn M)) rfl (ws' := [ml m cI (s_pe S, s_th S, s_da S, s_dr S, s_kn S, s_sh S, s_an S, s_ki S, upd (rsk (s_we S) (m_kp M) (m_cu M) k) k ((m_kp M) (m_cu M + k)), s_dp S, s_wa S, s_le S) (m_rf M, m_co M, m_tx M, m_lt M, m_la M, m_to M, m_tn M, m_at M, m_st M, m_kp M, m_hi M, m_kg M, (m_cu M + k) + 1, m_lr M, m_ge M, m_rw M, m_rn M)]) rfl ?_
      refine G.iinc X dX7_passes_52 0 rfl (v' := nI (k + 1)) (nI_inc k) (by decide) (lv' := [(2, .int (nI (k + 1))), (0, .ref (m 0)), (1, .ref (m 6))]) rfl ?_
      refine G.go X dX7_passes_55 ?_
      rw [show (rsk (s_we S) (m_kp M) (m_cu M) (k + 1)) = (upd (rsk (s_we S) (m_kp M) (m_cu M) k) k ((m_kp M) (m_cu M + k))) from (by exact rsk_1 _ _ _ _)] at ih2
      rw [show (m_cu M + (k + 1)) = ((m_cu M + k) + 1) from (by rfl)] at ih2
      exact ih2
  have L2 := L2 0 (Nat.zero_le _)
  rw [show (s_pe S, s_th S, s_da S, s_dr S, s_kn S, s_sh S, s_an S, s_ki S, rsk (s_we S) (m_kp M) (m_cu M) 0, s_dp S, s_wa S, s_le S) = S from (by rw [rsk_0])] at L2
  exact L2

set_option maxRecDepth 20000 in
theorem tX7_passes_k7 (l : Launch) (D : va_G) (cI cW : ClassId) (m : Nat → Nat) (S : WS) (M : MS) (hg : m_kg M = true) (hc : m_cu M + 9 ≤ 192) : CT l D cI cW yX7_passes cX7_passes 3 none ⟨0, 0, 0, 0⟩ [.ref (m 0), .ref (m 7)] ([ml m cI S M]) (PV ([ml m cI S (m_psk M (s_dp S) 9)])) := by
  refine CT.of RX7 rfl (by decide +kernel) (Nat.le_of_ble_eq_true rfl) [(0, .ref (m 0)), (1, .ref (m 7))] rfl (fun x X Rr hnm => ?_)
  refine G.pu X dX7_passes_0 ?_
  refine G.is X dX7_passes_1 (by decide) (lv' := [(2, .int 0), (0, .ref (m 0)), (1, .ref (m 7))]) rfl ?_
  have L2 : ∀ k, k ≤ 9 → G x 0 0 ([ml m cI S (m_rf M, m_co M, m_tx M, m_lt M, m_la M, m_to M, m_tn M, m_at M, m_st M, cpk (m_kp M) (m_cu M) (s_dp S) k, m_hi M, m_kg M, m_cu M + k, m_lr M, m_ge M, m_rw M, m_rn M)]) 2 [(2, .int (nI k)), (0, .ref (m 0)), (1, .ref (m 7))] [] := by
    refine loop_dn 9 _ ?_ ?_
    · refine G.il X dX7_passes_2 0 rfl ?_
      refine G.al X dX7_passes_3 2 rfl ?_
      refine G.alen X dX7_passes_4 0 7 rfl rfl ?_
      refine G.n_ge X (a := 9) (b := 9) (by omega) (by omega) dX7_passes_5 (fun b5 => ?_) (fun b5 => absurd b5 (by omega))
      exact G.vret X Rr dX7_passes_58 (pv_mk (by rfl))
    · intro k hk ih2
      refine G.il X dX7_passes_2 0 rfl ?_
      refine G.al X dX7_passes_3 2 rfl ?_
      refine G.alen X dX7_passes_4 0 7 rfl rfl ?_
      refine G.n_ge X (a := k) (b := 9) (by omega) (by omega) dX7_passes_5 (fun b5 => absurd b5 (by omega)) (fun b5 => ?_)
      refine G.al X dX7_passes_8 1 rfl ?_
      refine G.get X fX7_152 dX7_passes_9 0 0 rfl rfl rfl ?_
      refine G.b_eq X dX7_passes_12 (fun b12 => absurd (Eq.trans (Eq.symm hg) b12) (by decide)) (fun b12 => ?_)
      refine G.al X dX7_passes_15 1 rfl ?_
      refine G.get X fX7_49 dX7_passes_16 0 0 rfl rfl rfl ?_
      refine G.al X dX7_passes_19 1 rfl ?_
      refine G.get X fX7_156 dX7_passes_20 0 0 rfl rfl rfl ?_
      refine G.al X dX7_passes_23 2 rfl ?_
      refine G.il X dX7_passes_24 0 rfl ?_
      refine G.nld X (i := k) dX7_passes_25 0 7 rfl rfl (by omega) (by decide) ?_
      refine G.nst X (i := m_cu M + k) dX7_passes_26 0 14 rfl rfl (by omega) (by decide) (blk' := ml m cI S (m_rf M, m_co M, m_tx M, m_lt M, m_la M, m_to M, m_tn M, m_at M, m_st M, upd (cpk (m_kp M) (m_cu M) (s_dp S) k) (m_cu M + k) ((s_dp S) k), m_hi M, m_kg M, m_cu M + k, m_lr M, m_ge M, m_rw M, m_rn M)) rfl (ws' := [ml m cI S (m_rf M, m_co M, m_tx M, m_lt M, m_la M, m_to M, m_tn M, m_at M, m_st M, upd (cpk (m_kp M) (m_cu M) (s_dp S) k) (m_cu M + k) ((s_dp S) k), m_hi M, m_kg M, m_cu M + k, m_lr M, m_ge M, m_rw M, m_rn M)]) rfl ?_
      refine G.go X dX7_passes_27 ?_
      refine G.al X dX7_passes_42 1 rfl ?_
      refine G.dupr X dX7_passes_43 ?_
      refine G.get X fX7_156 dX7_passes_44 0 0 rfl rfl rfl ?_
      refine G.pu X dX7_passes_47 ?_
      refine G.nadd X (a := m_cu M + k) (b := 1) dX7_passes_48 ?_
      refine G.puti X fX7_156 fe7 dX7_passes_49 rfl rfl 0 0 rfl rfl (Nat.le_of_ble_eq_true rfl) (blk' := ml m cI S (m_rf M, m_co M, m_tx M, m_lt M, m_la M, m_to M, m_tn M, m_at M, m_st M, upd (cpk (m_kp M) (m_cu M) (s_dp S) k) (m_cu M + k) ((s_dp S) k), m_hi M, m_kg M, (m_cu M + k) + 1, m_lr M, m_ge M, m_rw M, m_rn M)) rfl (ws' := [ml m cI S (m_rf M, m_co M, m_tx M, m_lt M, m_la M, m_to M, m_tn M, m_at M, m_st M, upd (cpk (m_kp M) (m_cu M) (s_dp S) k) (m_cu M + k) ((s_dp S) k), m_hi M, m_kg M, (m_cu M + k) + 1, m_lr M, m_ge M, m_rw M, m_rn M)]) rfl ?_
      refine G.iinc X dX7_passes_52 0 rfl (v' := nI (k + 1)) (nI_inc k) (by decide) (lv' := [(2, .int (nI (k + 1))), (0, .ref (m 0)), (1, .ref (m 7))]) rfl ?_
      refine G.go X dX7_passes_55 ?_
      rw [show (cpk (m_kp M) (m_cu M) (s_dp S) (k + 1)) = (upd (cpk (m_kp M) (m_cu M) (s_dp S) k) (m_cu M + k) ((s_dp S) k)) from (by exact cpk_1 _ _ _ _)] at ih2
      rw [show (m_cu M + (k + 1)) = ((m_cu M + k) + 1) from (by rfl)] at ih2
      exact ih2
  have L2 := L2 0 (Nat.zero_le _)
  rw [show (m_rf M, m_co M, m_tx M, m_lt M, m_la M, m_to M, m_tn M, m_at M, m_st M, cpk (m_kp M) (m_cu M) (s_dp S) 0, m_hi M, m_kg M, m_cu M + 0, m_lr M, m_ge M, m_rw M, m_rn M) = M from (by rw [cpk_0]; rfl)] at L2
  exact L2

set_option maxRecDepth 20000 in
theorem tX7_passes_r7 (l : Launch) (D : va_G) (cI cW : ClassId) (m : Nat → Nat) (S : WS) (M : MS) (g : FN) (hg : m_kg M = false) (hc : m_cu M + 9 ≤ 192) (hk9 : ∀ j, j < 9 → m_kp M (m_cu M + j) = g j) : CT l D cI cW yX7_passes cX7_passes 3 none ⟨0, 0, 0, 0⟩ [.ref (m 0), .ref (m 7)] ([ml m cI S M]) (PV ([ml m cI (r_9 S g) (m_adv M 9)])) := by
  refine CT.of RX7 rfl (by decide +kernel) (Nat.le_of_ble_eq_true rfl) [(0, .ref (m 0)), (1, .ref (m 7))] rfl (fun x X Rr hnm => ?_)
  refine G.pu X dX7_passes_0 ?_
  refine G.is X dX7_passes_1 (by decide) (lv' := [(2, .int 0), (0, .ref (m 0)), (1, .ref (m 7))]) rfl ?_
  have L2 : ∀ k, k ≤ 9 → G x 0 0 ([ml m cI (s_pe S, s_th S, s_da S, s_dr S, s_kn S, s_sh S, s_an S, s_ki S, s_we S, rsk (s_dp S) (m_kp M) (m_cu M) k, s_wa S, s_le S) (m_rf M, m_co M, m_tx M, m_lt M, m_la M, m_to M, m_tn M, m_at M, m_st M, m_kp M, m_hi M, m_kg M, m_cu M + k, m_lr M, m_ge M, m_rw M, m_rn M)]) 2 [(2, .int (nI k)), (0, .ref (m 0)), (1, .ref (m 7))] [] := by
    refine loop_dn 9 _ ?_ ?_
    · refine G.il X dX7_passes_2 0 rfl ?_
      refine G.al X dX7_passes_3 2 rfl ?_
      refine G.alen X dX7_passes_4 0 7 rfl rfl ?_
      refine G.n_ge X (a := 9) (b := 9) (by omega) (by omega) dX7_passes_5 (fun b5 => ?_) (fun b5 => absurd b5 (by omega))
      refine G.canon 0 7 rfl rfl (g := g) (fun j hj => by show rsk (s_dp S) (m_kp M) (m_cu M) 9 j = g j; rw [rsk, if_pos hj]; exact hk9 j hj) (blk' := ml m cI (s_pe S, s_th S, s_da S, s_dr S, s_kn S, s_sh S, s_an S, s_ki S, s_we S, g, s_wa S, s_le S) (m_rf M, m_co M, m_tx M, m_lt M, m_la M, m_to M, m_tn M, m_at M, m_st M, m_kp M, m_hi M, m_kg M, m_cu M + 9, m_lr M, m_ge M, m_rw M, m_rn M)) rfl (ws' := [ml m cI (s_pe S, s_th S, s_da S, s_dr S, s_kn S, s_sh S, s_an S, s_ki S, s_we S, g, s_wa S, s_le S) (m_rf M, m_co M, m_tx M, m_lt M, m_la M, m_to M, m_tn M, m_at M, m_st M, m_kp M, m_hi M, m_kg M, m_cu M + 9, m_lr M, m_ge M, m_rw M, m_rn M)]) rfl ?_
      exact G.vret X Rr dX7_passes_58 (pv_mk (by rfl))
    · intro k hk ih2
      refine G.il X dX7_passes_2 0 rfl ?_
      refine G.al X dX7_passes_3 2 rfl ?_
      refine G.alen X dX7_passes_4 0 7 rfl rfl ?_
      refine G.n_ge X (a := k) (b := 9) (by omega) (by omega) dX7_passes_5 (fun b5 => absurd b5 (by omega)) (fun b5 => ?_)
      refine G.al X dX7_passes_8 1 rfl ?_
      refine G.get X fX7_152 dX7_passes_9 0 0 rfl rfl rfl ?_
      refine G.b_eq X dX7_passes_12 (fun b12 => ?_) (fun b12 => absurd (Eq.trans (Eq.symm hg) b12) (by decide))
      refine G.al X dX7_passes_30 2 rfl ?_
      refine G.il X dX7_passes_31 0 rfl ?_
      refine G.al X dX7_passes_32 1 rfl ?_
      refine G.get X fX7_49 dX7_passes_33 0 0 rfl rfl rfl ?_
      refine G.al X dX7_passes_36 1 rfl ?_
      refine G.get X fX7_156 dX7_passes_37 0 0 rfl rfl rfl ?_
      refine G.nld X (i := m_cu M + k) dX7_passes_40 0 14 rfl rfl (by omega) (by decide) ?_
      refine G.nst X (i := k) dX7_passes_41 0 7 rfl rfl (by omega) (by decide) (blk' := ml m cI (s_pe S, s_th S, s_da S, s_dr S, s_kn S, s_sh S, s_an S, s_ki S, s_we S, upd (rsk (s_dp S) (m_kp M) (m_cu M) k) k ((m_kp M) (m_cu M + k)), s_wa S, s_le S) (m_rf M, m_co M, m_tx M, m_lt M, m_la M, m_to M, m_tn M, m_at M, m_st M, m_kp M, m_hi M, m_kg M, m_cu M + k, m_lr M, m_ge M, m_rw M, m_rn M)) rfl (ws' := [ml m cI (s_pe S, s_th S, s_da S, s_dr S, s_kn S, s_sh S, s_an S, s_ki S, s_we S, upd (rsk (s_dp S) (m_kp M) (m_cu M) k) k ((m_kp M) (m_cu M + k)), s_wa S, s_le S) (m_rf M, m_co M, m_tx M, m_lt M, m_la M, m_to M, m_tn M, m_at M, m_st M, m_kp M, m_hi M, m_kg M, m_cu M + k, m_lr M, m_ge M, m_rw M, m_rn M)]) rfl ?_
      refine G.al X dX7_passes_42 1 rfl ?_
      refine G.dupr X dX7_passes_43 ?_
      refine G.get X fX7_156 dX7_passes_44 0 0 rfl rfl rfl ?_
      refine G.pu X dX7_passes_47 ?_
      refine G.nadd X (a := m_cu M + k) (b := 1) dX7_passes_48 ?_
      refine G.puti X fX7_156 fe7 dX7_passes_49 rfl rfl 0 0 rfl rfl (Nat.le_of_ble_eq_true rfl) (blk' := ml m cI (s_pe S, s_th S, s_da S, s_dr S, s_kn S, s_sh S, s_an S, s_ki S, s_we S, upd (rsk (s_dp S) (m_kp M) (m_cu M) k) k ((m_kp M) (m_cu M + k)), s_wa S, s_le S) (m_rf M, m_co M, m_tx M, m_lt M, m_la M, m_to M, m_tn M, m_at M, m_st M, m_kp M, m_hi M, m_kg M, (m_cu M + k) + 1, m_lr M, m_ge M, m_rw M, m_rn M)) rfl (ws' := [ml m cI (s_pe S, s_th S, s_da S, s_dr S, s_kn S, s_sh S, s_an S, s_ki S, s_we S, upd (rsk (s_dp S) (m_kp M) (m_cu M) k) k ((m_kp M) (m_cu M + k)), s_wa S, s_le S) (m_rf M, m_co M, m_tx M, m_lt M, m_la M, m_to M, m_tn M, m_at M, m_st M, m_kp M, m_hi M, m_kg M, (m_cu M + k) + 1, m_lr M, m_ge M, m_rw M, m_rn M)]) rfl ?_
      refine G.iinc X dX7_passes_52 0 rfl (v' := nI (k + 1)) (nI_inc k) (by decide) (lv' := [(2, .int (nI (k + 1))), (0, .ref (m 0)), (1, .ref (m 7))]) rfl ?_
      refine G.go X dX7_passes_55 ?_
      rw [show (rsk (s_dp S) (m_kp M) (m_cu M) (k + 1)) = (upd (rsk (s_dp S) (m_kp M) (m_cu M) k) k ((m_kp M) (m_cu M + k))) from (by exact rsk_1 _ _ _ _)] at ih2
      rw [show (m_cu M + (k + 1)) = ((m_cu M + k) + 1) from (by rfl)] at ih2
      exact ih2
  have L2 := L2 0 (Nat.zero_le _)
  rw [show (s_pe S, s_th S, s_da S, s_dr S, s_kn S, s_sh S, s_an S, s_ki S, s_we S, rsk (s_dp S) (m_kp M) (m_cu M) 0, s_wa S, s_le S) = S from (by rw [rsk_0])] at L2
  exact L2

set_option maxRecDepth 20000 in
theorem tX7_passes_k8 (l : Launch) (D : va_G) (cI cW : ClassId) (m : Nat → Nat) (S : WS) (M : MS) (hg : m_kg M = true) (hc : m_cu M + 9 ≤ 192) : CT l D cI cW yX7_passes cX7_passes 3 none ⟨0, 0, 0, 0⟩ [.ref (m 0), .ref (m 8)] ([ml m cI S M]) (PV ([ml m cI S (m_psk M (s_wa S) 9)])) := by
  refine CT.of RX7 rfl (by decide +kernel) (Nat.le_of_ble_eq_true rfl) [(0, .ref (m 0)), (1, .ref (m 8))] rfl (fun x X Rr hnm => ?_)
  refine G.pu X dX7_passes_0 ?_
  refine G.is X dX7_passes_1 (by decide) (lv' := [(2, .int 0), (0, .ref (m 0)), (1, .ref (m 8))]) rfl ?_
  have L2 : ∀ k, k ≤ 9 → G x 0 0 ([ml m cI S (m_rf M, m_co M, m_tx M, m_lt M, m_la M, m_to M, m_tn M, m_at M, m_st M, cpk (m_kp M) (m_cu M) (s_wa S) k, m_hi M, m_kg M, m_cu M + k, m_lr M, m_ge M, m_rw M, m_rn M)]) 2 [(2, .int (nI k)), (0, .ref (m 0)), (1, .ref (m 8))] [] := by
    refine loop_dn 9 _ ?_ ?_
    · refine G.il X dX7_passes_2 0 rfl ?_
      refine G.al X dX7_passes_3 2 rfl ?_
      refine G.alen X dX7_passes_4 0 8 rfl rfl ?_
      refine G.n_ge X (a := 9) (b := 9) (by omega) (by omega) dX7_passes_5 (fun b5 => ?_) (fun b5 => absurd b5 (by omega))
      exact G.vret X Rr dX7_passes_58 (pv_mk (by rfl))
    · intro k hk ih2
      refine G.il X dX7_passes_2 0 rfl ?_
      refine G.al X dX7_passes_3 2 rfl ?_
      refine G.alen X dX7_passes_4 0 8 rfl rfl ?_
      refine G.n_ge X (a := k) (b := 9) (by omega) (by omega) dX7_passes_5 (fun b5 => absurd b5 (by omega)) (fun b5 => ?_)
      refine G.al X dX7_passes_8 1 rfl ?_
      refine G.get X fX7_152 dX7_passes_9 0 0 rfl rfl rfl ?_
      refine G.b_eq X dX7_passes_12 (fun b12 => absurd (Eq.trans (Eq.symm hg) b12) (by decide)) (fun b12 => ?_)
      refine G.al X dX7_passes_15 1 rfl ?_
      refine G.get X fX7_49 dX7_passes_16 0 0 rfl rfl rfl ?_
      refine G.al X dX7_passes_19 1 rfl ?_
      refine G.get X fX7_156 dX7_passes_20 0 0 rfl rfl rfl ?_
      refine G.al X dX7_passes_23 2 rfl ?_
      refine G.il X dX7_passes_24 0 rfl ?_
      refine G.nld X (i := k) dX7_passes_25 0 8 rfl rfl (by omega) (by decide) ?_
      refine G.nst X (i := m_cu M + k) dX7_passes_26 0 14 rfl rfl (by omega) (by decide) (blk' := ml m cI S (m_rf M, m_co M, m_tx M, m_lt M, m_la M, m_to M, m_tn M, m_at M, m_st M, upd (cpk (m_kp M) (m_cu M) (s_wa S) k) (m_cu M + k) ((s_wa S) k), m_hi M, m_kg M, m_cu M + k, m_lr M, m_ge M, m_rw M, m_rn M)) rfl (ws' := [ml m cI S (m_rf M, m_co M, m_tx M, m_lt M, m_la M, m_to M, m_tn M, m_at M, m_st M, upd (cpk (m_kp M) (m_cu M) (s_wa S) k) (m_cu M + k) ((s_wa S) k), m_hi M, m_kg M, m_cu M + k, m_lr M, m_ge M, m_rw M, m_rn M)]) rfl ?_
      refine G.go X dX7_passes_27 ?_
      refine G.al X dX7_passes_42 1 rfl ?_
      refine G.dupr X dX7_passes_43 ?_
      refine G.get X fX7_156 dX7_passes_44 0 0 rfl rfl rfl ?_
      refine G.pu X dX7_passes_47 ?_
      refine G.nadd X (a := m_cu M + k) (b := 1) dX7_passes_48 ?_
      refine G.puti X fX7_156 fe7 dX7_passes_49 rfl rfl 0 0 rfl rfl (Nat.le_of_ble_eq_true rfl) (blk' := ml m cI S (m_rf M, m_co M, m_tx M, m_lt M, m_la M, m_to M, m_tn M, m_at M, m_st M, upd (cpk (m_kp M) (m_cu M) (s_wa S) k) (m_cu M + k) ((s_wa S) k), m_hi M, m_kg M, (m_cu M + k) + 1, m_lr M, m_ge M, m_rw M, m_rn M)) rfl (ws' := [ml m cI S (m_rf M, m_co M, m_tx M, m_lt M, m_la M, m_to M, m_tn M, m_at M, m_st M, upd (cpk (m_kp M) (m_cu M) (s_wa S) k) (m_cu M + k) ((s_wa S) k), m_hi M, m_kg M, (m_cu M + k) + 1, m_lr M, m_ge M, m_rw M, m_rn M)]) rfl ?_
      refine G.iinc X dX7_passes_52 0 rfl (v' := nI (k + 1)) (nI_inc k) (by decide) (lv' := [(2, .int (nI (k + 1))), (0, .ref (m 0)), (1, .ref (m 8))]) rfl ?_
      refine G.go X dX7_passes_55 ?_
      rw [show (cpk (m_kp M) (m_cu M) (s_wa S) (k + 1)) = (upd (cpk (m_kp M) (m_cu M) (s_wa S) k) (m_cu M + k) ((s_wa S) k)) from (by exact cpk_1 _ _ _ _)] at ih2
      rw [show (m_cu M + (k + 1)) = ((m_cu M + k) + 1) from (by rfl)] at ih2
      exact ih2
  have L2 := L2 0 (Nat.zero_le _)
  rw [show (m_rf M, m_co M, m_tx M, m_lt M, m_la M, m_to M, m_tn M, m_at M, m_st M, cpk (m_kp M) (m_cu M) (s_wa S) 0, m_hi M, m_kg M, m_cu M + 0, m_lr M, m_ge M, m_rw M, m_rn M) = M from (by rw [cpk_0]; rfl)] at L2
  exact L2

set_option maxRecDepth 20000 in
theorem tX7_passes_r8 (l : Launch) (D : va_G) (cI cW : ClassId) (m : Nat → Nat) (S : WS) (M : MS) (g : FN) (hg : m_kg M = false) (hc : m_cu M + 9 ≤ 192) (hk9 : ∀ j, j < 9 → m_kp M (m_cu M + j) = g j) : CT l D cI cW yX7_passes cX7_passes 3 none ⟨0, 0, 0, 0⟩ [.ref (m 0), .ref (m 8)] ([ml m cI S M]) (PV ([ml m cI (r_10 S g) (m_adv M 9)])) := by
  refine CT.of RX7 rfl (by decide +kernel) (Nat.le_of_ble_eq_true rfl) [(0, .ref (m 0)), (1, .ref (m 8))] rfl (fun x X Rr hnm => ?_)
  refine G.pu X dX7_passes_0 ?_
  refine G.is X dX7_passes_1 (by decide) (lv' := [(2, .int 0), (0, .ref (m 0)), (1, .ref (m 8))]) rfl ?_
  have L2 : ∀ k, k ≤ 9 → G x 0 0 ([ml m cI (s_pe S, s_th S, s_da S, s_dr S, s_kn S, s_sh S, s_an S, s_ki S, s_we S, s_dp S, rsk (s_wa S) (m_kp M) (m_cu M) k, s_le S) (m_rf M, m_co M, m_tx M, m_lt M, m_la M, m_to M, m_tn M, m_at M, m_st M, m_kp M, m_hi M, m_kg M, m_cu M + k, m_lr M, m_ge M, m_rw M, m_rn M)]) 2 [(2, .int (nI k)), (0, .ref (m 0)), (1, .ref (m 8))] [] := by
    refine loop_dn 9 _ ?_ ?_
    · refine G.il X dX7_passes_2 0 rfl ?_
      refine G.al X dX7_passes_3 2 rfl ?_
      refine G.alen X dX7_passes_4 0 8 rfl rfl ?_
      refine G.n_ge X (a := 9) (b := 9) (by omega) (by omega) dX7_passes_5 (fun b5 => ?_) (fun b5 => absurd b5 (by omega))
      refine G.canon 0 8 rfl rfl (g := g) (fun j hj => by show rsk (s_wa S) (m_kp M) (m_cu M) 9 j = g j; rw [rsk, if_pos hj]; exact hk9 j hj) (blk' := ml m cI (s_pe S, s_th S, s_da S, s_dr S, s_kn S, s_sh S, s_an S, s_ki S, s_we S, s_dp S, g, s_le S) (m_rf M, m_co M, m_tx M, m_lt M, m_la M, m_to M, m_tn M, m_at M, m_st M, m_kp M, m_hi M, m_kg M, m_cu M + 9, m_lr M, m_ge M, m_rw M, m_rn M)) rfl (ws' := [ml m cI (s_pe S, s_th S, s_da S, s_dr S, s_kn S, s_sh S, s_an S, s_ki S, s_we S, s_dp S, g, s_le S) (m_rf M, m_co M, m_tx M, m_lt M, m_la M, m_to M, m_tn M, m_at M, m_st M, m_kp M, m_hi M, m_kg M, m_cu M + 9, m_lr M, m_ge M, m_rw M, m_rn M)]) rfl ?_
      exact G.vret X Rr dX7_passes_58 (pv_mk (by rfl))
    · intro k hk ih2
      refine G.il X dX7_passes_2 0 rfl ?_
      refine G.al X dX7_passes_3 2 rfl ?_
      refine G.alen X dX7_passes_4 0 8 rfl rfl ?_
      refine G.n_ge X (a := k) (b := 9) (by omega) (by omega) dX7_passes_5 (fun b5 => absurd b5 (by omega)) (fun b5 => ?_)
      refine G.al X dX7_passes_8 1 rfl ?_
      refine G.get X fX7_152 dX7_passes_9 0 0 rfl rfl rfl ?_
      refine G.b_eq X dX7_passes_12 (fun b12 => ?_) (fun b12 => absurd (Eq.trans (Eq.symm hg) b12) (by decide))
      refine G.al X dX7_passes_30 2 rfl ?_
      refine G.il X dX7_passes_31 0 rfl ?_
      refine G.al X dX7_passes_32 1 rfl ?_
      refine G.get X fX7_49 dX7_passes_33 0 0 rfl rfl rfl ?_
      refine G.al X dX7_passes_36 1 rfl ?_
      refine G.get X fX7_156 dX7_passes_37 0 0 rfl rfl rfl ?_
      refine G.nld X (i := m_cu M + k) dX7_passes_40 0 14 rfl rfl (by omega) (by decide) ?_
      refine G.nst X (i := k) dX7_passes_41 0 8 rfl rfl (by omega) (by decide) (blk' := ml m cI (s_pe S, s_th S, s_da S, s_dr S, s_kn S, s_sh S, s_an S, s_ki S, s_we S, s_dp S, upd (rsk (s_wa S) (m_kp M) (m_cu M) k) k ((m_kp M) (m_cu M + k)), s_le S) (m_rf M, m_co M, m_tx M, m_lt M, m_la M, m_to M, m_tn M, m_at M, m_st M, m_kp M, m_hi M, m_kg M, m_cu M + k, m_lr M, m_ge M, m_rw M, m_rn M)) rfl (ws' := [ml m cI (s_pe S, s_th S, s_da S, s_dr S, s_kn S, s_sh S, s_an S, s_ki S, s_we S, s_dp S, upd (rsk (s_wa S) (m_kp M) (m_cu M) k) k ((m_kp M) (m_cu M + k)), s_le S) (m_rf M, m_co M, m_tx M, m_lt M, m_la M, m_to M, m_tn M, m_at M, m_st M, m_kp M, m_hi M, m_kg M, m_cu M + k, m_lr M, m_ge M, m_rw M, m_rn M)]) rfl ?_
      refine G.al X dX7_passes_42 1 rfl ?_
      refine G.dupr X dX7_passes_43 ?_
      refine G.get X fX7_156 dX7_passes_44 0 0 rfl rfl rfl ?_
      refine G.pu X dX7_passes_47 ?_
      refine G.nadd X (a := m_cu M + k) (b := 1) dX7_passes_48 ?_
      refine G.puti X fX7_156 fe7 dX7_passes_49 rfl rfl 0 0 rfl rfl (Nat.le_of_ble_eq_true rfl) (blk' := ml m cI (s_pe S, s_th S, s_da S, s_dr S, s_kn S, s_sh S, s_an S, s_ki S, s_we S, s_dp S, upd (rsk (s_wa S) (m_kp M) (m_cu M) k) k ((m_kp M) (m_cu M + k)), s_le S) (m_rf M, m_co M, m_tx M, m_lt M, m_la M, m_to M, m_tn M, m_at M, m_st M, m_kp M, m_hi M, m_kg M, (m_cu M + k) + 1, m_lr M, m_ge M, m_rw M, m_rn M)) rfl (ws' := [ml m cI (s_pe S, s_th S, s_da S, s_dr S, s_kn S, s_sh S, s_an S, s_ki S, s_we S, s_dp S, upd (rsk (s_wa S) (m_kp M) (m_cu M) k) k ((m_kp M) (m_cu M + k)), s_le S) (m_rf M, m_co M, m_tx M, m_lt M, m_la M, m_to M, m_tn M, m_at M, m_st M, m_kp M, m_hi M, m_kg M, (m_cu M + k) + 1, m_lr M, m_ge M, m_rw M, m_rn M)]) rfl ?_
      refine G.iinc X dX7_passes_52 0 rfl (v' := nI (k + 1)) (nI_inc k) (by decide) (lv' := [(2, .int (nI (k + 1))), (0, .ref (m 0)), (1, .ref (m 8))]) rfl ?_
      refine G.go X dX7_passes_55 ?_
      rw [show (rsk (s_wa S) (m_kp M) (m_cu M) (k + 1)) = (upd (rsk (s_wa S) (m_kp M) (m_cu M) k) k ((m_kp M) (m_cu M + k))) from (by exact rsk_1 _ _ _ _)] at ih2
      rw [show (m_cu M + (k + 1)) = ((m_cu M + k) + 1) from (by rfl)] at ih2
      exact ih2
  have L2 := L2 0 (Nat.zero_le _)
  rw [show (s_pe S, s_th S, s_da S, s_dr S, s_kn S, s_sh S, s_an S, s_ki S, s_we S, s_dp S, rsk (s_wa S) (m_kp M) (m_cu M) 0, s_le S) = S from (by rw [rsk_0])] at L2
  exact L2

set_option maxRecDepth 20000 in
theorem tX7_passes_k9 (l : Launch) (D : va_G) (cI cW : ClassId) (m : Nat → Nat) (S : WS) (M : MS) (hg : m_kg M = true) (hc : m_cu M + 9 ≤ 192) : CT l D cI cW yX7_passes cX7_passes 3 none ⟨0, 0, 0, 0⟩ [.ref (m 0), .ref (m 9)] ([ml m cI S M]) (PV ([ml m cI S (m_psk M (s_le S) 9)])) := by
  refine CT.of RX7 rfl (by decide +kernel) (Nat.le_of_ble_eq_true rfl) [(0, .ref (m 0)), (1, .ref (m 9))] rfl (fun x X Rr hnm => ?_)
  refine G.pu X dX7_passes_0 ?_
  refine G.is X dX7_passes_1 (by decide) (lv' := [(2, .int 0), (0, .ref (m 0)), (1, .ref (m 9))]) rfl ?_
  have L2 : ∀ k, k ≤ 9 → G x 0 0 ([ml m cI S (m_rf M, m_co M, m_tx M, m_lt M, m_la M, m_to M, m_tn M, m_at M, m_st M, cpk (m_kp M) (m_cu M) (s_le S) k, m_hi M, m_kg M, m_cu M + k, m_lr M, m_ge M, m_rw M, m_rn M)]) 2 [(2, .int (nI k)), (0, .ref (m 0)), (1, .ref (m 9))] [] := by
    refine loop_dn 9 _ ?_ ?_
    · refine G.il X dX7_passes_2 0 rfl ?_
      refine G.al X dX7_passes_3 2 rfl ?_
      refine G.alen X dX7_passes_4 0 9 rfl rfl ?_
      refine G.n_ge X (a := 9) (b := 9) (by omega) (by omega) dX7_passes_5 (fun b5 => ?_) (fun b5 => absurd b5 (by omega))
      exact G.vret X Rr dX7_passes_58 (pv_mk (by rfl))
    · intro k hk ih2
      refine G.il X dX7_passes_2 0 rfl ?_
      refine G.al X dX7_passes_3 2 rfl ?_
      refine G.alen X dX7_passes_4 0 9 rfl rfl ?_
      refine G.n_ge X (a := k) (b := 9) (by omega) (by omega) dX7_passes_5 (fun b5 => absurd b5 (by omega)) (fun b5 => ?_)
      refine G.al X dX7_passes_8 1 rfl ?_
      refine G.get X fX7_152 dX7_passes_9 0 0 rfl rfl rfl ?_
      refine G.b_eq X dX7_passes_12 (fun b12 => absurd (Eq.trans (Eq.symm hg) b12) (by decide)) (fun b12 => ?_)
      refine G.al X dX7_passes_15 1 rfl ?_
      refine G.get X fX7_49 dX7_passes_16 0 0 rfl rfl rfl ?_
      refine G.al X dX7_passes_19 1 rfl ?_
      refine G.get X fX7_156 dX7_passes_20 0 0 rfl rfl rfl ?_
      refine G.al X dX7_passes_23 2 rfl ?_
      refine G.il X dX7_passes_24 0 rfl ?_
      refine G.nld X (i := k) dX7_passes_25 0 9 rfl rfl (by omega) (by decide) ?_
      refine G.nst X (i := m_cu M + k) dX7_passes_26 0 14 rfl rfl (by omega) (by decide) (blk' := ml m cI S (m_rf M, m_co M, m_tx M, m_lt M, m_la M, m_to M, m_tn M, m_at M, m_st M, upd (cpk (m_kp M) (m_cu M) (s_le S) k) (m_cu M + k) ((s_le S) k), m_hi M, m_kg M, m_cu M + k, m_lr M, m_ge M, m_rw M, m_rn M)) rfl (ws' := [ml m cI S (m_rf M, m_co M, m_tx M, m_lt M, m_la M, m_to M, m_tn M, m_at M, m_st M, upd (cpk (m_kp M) (m_cu M) (s_le S) k) (m_cu M + k) ((s_le S) k), m_hi M, m_kg M, m_cu M + k, m_lr M, m_ge M, m_rw M, m_rn M)]) rfl ?_
      refine G.go X dX7_passes_27 ?_
      refine G.al X dX7_passes_42 1 rfl ?_
      refine G.dupr X dX7_passes_43 ?_
      refine G.get X fX7_156 dX7_passes_44 0 0 rfl rfl rfl ?_
      refine G.pu X dX7_passes_47 ?_
      refine G.nadd X (a := m_cu M + k) (b := 1) dX7_passes_48 ?_
      refine G.puti X fX7_156 fe7 dX7_passes_49 rfl rfl 0 0 rfl rfl (Nat.le_of_ble_eq_true rfl) (blk' := ml m cI S (m_rf M, m_co M, m_tx M, m_lt M, m_la M, m_to M, m_tn M, m_at M, m_st M, upd (cpk (m_kp M) (m_cu M) (s_le S) k) (m_cu M + k) ((s_le S) k), m_hi M, m_kg M, (m_cu M + k) + 1, m_lr M, m_ge M, m_rw M, m_rn M)) rfl (ws' := [ml m cI S (m_rf M, m_co M, m_tx M, m_lt M, m_la M, m_to M, m_tn M, m_at M, m_st M, upd (cpk (m_kp M) (m_cu M) (s_le S) k) (m_cu M + k) ((s_le S) k), m_hi M, m_kg M, (m_cu M + k) + 1, m_lr M, m_ge M, m_rw M, m_rn M)]) rfl ?_
      refine G.iinc X dX7_passes_52 0 rfl (v' := nI (k + 1)) (nI_inc k) (by decide) (lv' := [(2, .int (nI (k + 1))), (0, .ref (m 0)), (1, .ref (m 9))]) rfl ?_
      refine G.go X dX7_passes_55 ?_
      rw [show (cpk (m_kp M) (m_cu M) (s_le S) (k + 1)) = (upd (cpk (m_kp M) (m_cu M) (s_le S) k) (m_cu M + k) ((s_le S) k)) from (by exact cpk_1 _ _ _ _)] at ih2
      rw [show (m_cu M + (k + 1)) = ((m_cu M + k) + 1) from (by rfl)] at ih2
      exact ih2
  have L2 := L2 0 (Nat.zero_le _)
  rw [show (m_rf M, m_co M, m_tx M, m_lt M, m_la M, m_to M, m_tn M, m_at M, m_st M, cpk (m_kp M) (m_cu M) (s_le S) 0, m_hi M, m_kg M, m_cu M + 0, m_lr M, m_ge M, m_rw M, m_rn M) = M from (by rw [cpk_0]; rfl)] at L2
  exact L2

set_option maxRecDepth 20000 in
theorem tX7_passes_r9 (l : Launch) (D : va_G) (cI cW : ClassId) (m : Nat → Nat) (S : WS) (M : MS) (g : FN) (hg : m_kg M = false) (hc : m_cu M + 9 ≤ 192) (hk9 : ∀ j, j < 9 → m_kp M (m_cu M + j) = g j) : CT l D cI cW yX7_passes cX7_passes 3 none ⟨0, 0, 0, 0⟩ [.ref (m 0), .ref (m 9)] ([ml m cI S M]) (PV ([ml m cI (r_11 S g) (m_adv M 9)])) := by
  refine CT.of RX7 rfl (by decide +kernel) (Nat.le_of_ble_eq_true rfl) [(0, .ref (m 0)), (1, .ref (m 9))] rfl (fun x X Rr hnm => ?_)
  refine G.pu X dX7_passes_0 ?_
  refine G.is X dX7_passes_1 (by decide) (lv' := [(2, .int 0), (0, .ref (m 0)), (1, .ref (m 9))]) rfl ?_
  have L2 : ∀ k, k ≤ 9 → G x 0 0 ([ml m cI (s_pe S, s_th S, s_da S, s_dr S, s_kn S, s_sh S, s_an S, s_ki S, s_we S, s_dp S, s_wa S, rsk (s_le S) (m_kp M) (m_cu M) k) (m_rf M, m_co M, m_tx M, m_lt M, m_la M, m_to M, m_tn M, m_at M, m_st M, m_kp M, m_hi M, m_kg M, m_cu M + k, m_lr M, m_ge M, m_rw M, m_rn M)]) 2 [(2, .int (nI k)), (0, .ref (m 0)), (1, .ref (m 9))] [] := by
    refine loop_dn 9 _ ?_ ?_
    · refine G.il X dX7_passes_2 0 rfl ?_
      refine G.al X dX7_passes_3 2 rfl ?_
      refine G.alen X dX7_passes_4 0 9 rfl rfl ?_
      refine G.n_ge X (a := 9) (b := 9) (by omega) (by omega) dX7_passes_5 (fun b5 => ?_) (fun b5 => absurd b5 (by omega))
      refine G.canon 0 9 rfl rfl (g := g) (fun j hj => by show rsk (s_le S) (m_kp M) (m_cu M) 9 j = g j; rw [rsk, if_pos hj]; exact hk9 j hj) (blk' := ml m cI (s_pe S, s_th S, s_da S, s_dr S, s_kn S, s_sh S, s_an S, s_ki S, s_we S, s_dp S, s_wa S, g) (m_rf M, m_co M, m_tx M, m_lt M, m_la M, m_to M, m_tn M, m_at M, m_st M, m_kp M, m_hi M, m_kg M, m_cu M + 9, m_lr M, m_ge M, m_rw M, m_rn M)) rfl (ws' := [ml m cI (s_pe S, s_th S, s_da S, s_dr S, s_kn S, s_sh S, s_an S, s_ki S, s_we S, s_dp S, s_wa S, g) (m_rf M, m_co M, m_tx M, m_lt M, m_la M, m_to M, m_tn M, m_at M, m_st M, m_kp M, m_hi M, m_kg M, m_cu M + 9, m_lr M, m_ge M, m_rw M, m_rn M)]) rfl ?_
      exact G.vret X Rr dX7_passes_58 (pv_mk (by rfl))
    · intro k hk ih2
      refine G.il X dX7_passes_2 0 rfl ?_
      refine G.al X dX7_passes_3 2 rfl ?_
      refine G.alen X dX7_passes_4 0 9 rfl rfl ?_
      refine G.n_ge X (a := k) (b := 9) (by omega) (by omega) dX7_passes_5 (fun b5 => absurd b5 (by omega)) (fun b5 => ?_)
      refine G.al X dX7_passes_8 1 rfl ?_
      refine G.get X fX7_152 dX7_passes_9 0 0 rfl rfl rfl ?_
      refine G.b_eq X dX7_passes_12 (fun b12 => ?_) (fun b12 => absurd (Eq.trans (Eq.symm hg) b12) (by decide))
      refine G.al X dX7_passes_30 2 rfl ?_
      refine G.il X dX7_passes_31 0 rfl ?_
      refine G.al X dX7_passes_32 1 rfl ?_
      refine G.get X fX7_49 dX7_passes_33 0 0 rfl rfl rfl ?_
      refine G.al X dX7_passes_36 1 rfl ?_
      refine G.get X fX7_156 dX7_passes_37 0 0 rfl rfl rfl ?_
      refine G.nld X (i := m_cu M + k) dX7_passes_40 0 14 rfl rfl (by omega) (by decide) ?_
      refine G.nst X (i := k) dX7_passes_41 0 9 rfl rfl (by omega) (by decide) (blk' := ml m cI (s_pe S, s_th S, s_da S, s_dr S, s_kn S, s_sh S, s_an S, s_ki S, s_we S, s_dp S, s_wa S, upd (rsk (s_le S) (m_kp M) (m_cu M) k) k ((m_kp M) (m_cu M + k))) (m_rf M, m_co M, m_tx M, m_lt M, m_la M, m_to M, m_tn M, m_at M, m_st M, m_kp M, m_hi M, m_kg M, m_cu M + k, m_lr M, m_ge M, m_rw M, m_rn M)) rfl (ws' := [ml m cI (s_pe S, s_th S, s_da S, s_dr S, s_kn S, s_sh S, s_an S, s_ki S, s_we S, s_dp S, s_wa S, upd (rsk (s_le S) (m_kp M) (m_cu M) k) k ((m_kp M) (m_cu M + k))) (m_rf M, m_co M, m_tx M, m_lt M, m_la M, m_to M, m_tn M, m_at M, m_st M, m_kp M, m_hi M, m_kg M, m_cu M + k, m_lr M, m_ge M, m_rw M, m_rn M)]) rfl ?_
      refine G.al X dX7_passes_42 1 rfl ?_
      refine G.dupr X dX7_passes_43 ?_
      refine G.get X fX7_156 dX7_passes_44 0 0 rfl rfl rfl ?_
      refine G.pu X dX7_passes_47 ?_
      refine G.nadd X (a := m_cu M + k) (b := 1) dX7_passes_48 ?_
      refine G.puti X fX7_156 fe7 dX7_passes_49 rfl rfl 0 0 rfl rfl (Nat.le_of_ble_eq_true rfl) (blk' := ml m cI (s_pe S, s_th S, s_da S, s_dr S, s_kn S, s_sh S, s_an S, s_ki S, s_we S, s_dp S, s_wa S, upd (rsk (s_le S) (m_kp M) (m_cu M) k) k ((m_kp M) (m_cu M + k))) (m_rf M, m_co M, m_tx M, m_lt M, m_la M, m_to M, m_tn M, m_at M, m_st M, m_kp M, m_hi M, m_kg M, (m_cu M + k) + 1, m_lr M, m_ge M, m_rw M, m_rn M)) rfl (ws' := [ml m cI (s_pe S, s_th S, s_da S, s_dr S, s_kn S, s_sh S, s_an S, s_ki S, s_we S, s_dp S, s_wa S, upd (rsk (s_le S) (m_kp M) (m_cu M) k) k ((m_kp M) (m_cu M + k))) (m_rf M, m_co M, m_tx M, m_lt M, m_la M, m_to M, m_tn M, m_at M, m_st M, m_kp M, m_hi M, m_kg M, (m_cu M + k) + 1, m_lr M, m_ge M, m_rw M, m_rn M)]) rfl ?_
      refine G.iinc X dX7_passes_52 0 rfl (v' := nI (k + 1)) (nI_inc k) (by decide) (lv' := [(2, .int (nI (k + 1))), (0, .ref (m 0)), (1, .ref (m 9))]) rfl ?_
      refine G.go X dX7_passes_55 ?_
      rw [show (rsk (s_le S) (m_kp M) (m_cu M) (k + 1)) = (upd (rsk (s_le S) (m_kp M) (m_cu M) k) k ((m_kp M) (m_cu M + k))) from (by exact rsk_1 _ _ _ _)] at ih2
      rw [show (m_cu M + (k + 1)) = ((m_cu M + k) + 1) from (by rfl)] at ih2
      exact ih2
  have L2 := L2 0 (Nat.zero_le _)
  rw [show (s_pe S, s_th S, s_da S, s_dr S, s_kn S, s_sh S, s_an S, s_ki S, s_we S, s_dp S, s_wa S, rsk (s_le S) (m_kp M) (m_cu M) 0) = S from (by rw [rsk_0])] at L2
  exact L2

set_option maxRecDepth 20000 in
theorem tX7_passOne_kn (l : Launch) (D : va_G) (cI cW : ClassId) (m : Nat → Nat) (S : WS) (M : MS) (v : Nat) (hg : m_kg M = true) (hc : m_cu M + 1 ≤ 192) : CT l D cI cW yX7_passOne cX7_passOne 3 (some .int) ⟨0, 0, 0, 0⟩ [.ref (m 0), .int (nI v)] ([ml m cI S M]) (PI (nI (v)) ([ml m cI S (m_ps1 M (nI v))])) := by
  refine CT.of RX7 rfl (by decide +kernel) (Nat.le_of_ble_eq_true rfl) [(0, .ref (m 0)), (1, .int (nI v))] rfl (fun x X Rr hnm => ?_)
  refine G.al X dX7_passOne_0 0 rfl ?_
  refine G.get X fX7_152 dX7_passOne_1 0 0 rfl rfl rfl ?_
  refine G.b_eq X dX7_passOne_4 (fun b4 => absurd (Eq.trans (Eq.symm hg) b4) (by decide)) (fun b4 => ?_)
  refine G.il X dX7_passOne_7 1 rfl ?_
  refine G.go X dX7_passOne_8 ?_
  refine G.is X dX7_passOne_20 (by decide) (lv' := [(2, .int (nI v)), (0, .ref (m 0)), (1, .int (nI v))]) rfl ?_
  refine G.al X dX7_passOne_21 1 rfl ?_
  refine G.get X fX7_152 dX7_passOne_22 0 0 rfl rfl rfl ?_
  refine G.b_eq X dX7_passOne_25 (fun b25 => absurd (Eq.trans (Eq.symm hg) b25) (by decide)) (fun b25 => ?_)
  refine G.al X dX7_passOne_28 1 rfl ?_
  refine G.get X fX7_49 dX7_passOne_29 0 0 rfl rfl rfl ?_
  refine G.al X dX7_passOne_32 1 rfl ?_
  refine G.get X fX7_156 dX7_passOne_33 0 0 rfl rfl rfl ?_
  refine G.il X dX7_passOne_36 2 rfl ?_
  refine G.nst X (i := m_cu M) dX7_passOne_37 0 14 rfl rfl (by omega) (by decide) (blk' := ml m cI S (m_rf M, m_co M, m_tx M, m_lt M, m_la M, m_to M, m_tn M, m_at M, m_st M, upd (m_kp M) (m_cu M) (nI v), m_hi M, m_kg M, m_cu M, m_lr M, m_ge M, m_rw M, m_rn M)) rfl (ws' := [ml m cI S (m_rf M, m_co M, m_tx M, m_lt M, m_la M, m_to M, m_tn M, m_at M, m_st M, upd (m_kp M) (m_cu M) (nI v), m_hi M, m_kg M, m_cu M, m_lr M, m_ge M, m_rw M, m_rn M)]) rfl ?_
  refine G.al X dX7_passOne_38 1 rfl ?_
  refine G.dupr X dX7_passOne_39 ?_
  refine G.get X fX7_156 dX7_passOne_40 0 0 rfl rfl rfl ?_
  refine G.pu X dX7_passOne_43 ?_
  refine G.nadd X (a := m_cu M) (b := 1) dX7_passOne_44 ?_
  refine G.puti X fX7_156 fe7 dX7_passOne_45 rfl rfl 0 0 rfl rfl (Nat.le_of_ble_eq_true rfl) (blk' := ml m cI S (m_rf M, m_co M, m_tx M, m_lt M, m_la M, m_to M, m_tn M, m_at M, m_st M, upd (m_kp M) (m_cu M) (nI v), m_hi M, m_kg M, (m_cu M) + 1, m_lr M, m_ge M, m_rw M, m_rn M)) rfl (ws' := [ml m cI S (m_rf M, m_co M, m_tx M, m_lt M, m_la M, m_to M, m_tn M, m_at M, m_st M, upd (m_kp M) (m_cu M) (nI v), m_hi M, m_kg M, (m_cu M) + 1, m_lr M, m_ge M, m_rw M, m_rn M)]) rfl ?_
  refine G.il X dX7_passOne_48 0 rfl ?_
  exact G.iret X Rr (v := nI v) dX7_passOne_49 (pi_mk (by rfl) (by rfl))

set_option maxRecDepth 20000 in
theorem tX7_passOne_ki (l : Launch) (D : va_G) (cI cW : ClassId) (m : Nat → Nat) (S : WS) (M : MS) (v : Int32) (hg : m_kg M = true) (hc : m_cu M + 1 ≤ 192) : CT l D cI cW yX7_passOne cX7_passOne 3 (some .int) ⟨0, 0, 0, 0⟩ [.ref (m 0), .int v] ([ml m cI S M]) (PI (v) ([ml m cI S (m_ps1 M v)])) := by
  refine CT.of RX7 rfl (by decide +kernel) (Nat.le_of_ble_eq_true rfl) [(0, .ref (m 0)), (1, .int v)] rfl (fun x X Rr hnm => ?_)
  refine G.al X dX7_passOne_0 0 rfl ?_
  refine G.get X fX7_152 dX7_passOne_1 0 0 rfl rfl rfl ?_
  refine G.b_eq X dX7_passOne_4 (fun b4 => absurd (Eq.trans (Eq.symm hg) b4) (by decide)) (fun b4 => ?_)
  refine G.il X dX7_passOne_7 1 rfl ?_
  refine G.go X dX7_passOne_8 ?_
  refine G.is X dX7_passOne_20 (by decide) (lv' := [(2, .int v), (0, .ref (m 0)), (1, .int v)]) rfl ?_
  refine G.al X dX7_passOne_21 1 rfl ?_
  refine G.get X fX7_152 dX7_passOne_22 0 0 rfl rfl rfl ?_
  refine G.b_eq X dX7_passOne_25 (fun b25 => absurd (Eq.trans (Eq.symm hg) b25) (by decide)) (fun b25 => ?_)
  refine G.al X dX7_passOne_28 1 rfl ?_
  refine G.get X fX7_49 dX7_passOne_29 0 0 rfl rfl rfl ?_
  refine G.al X dX7_passOne_32 1 rfl ?_
  refine G.get X fX7_156 dX7_passOne_33 0 0 rfl rfl rfl ?_
  refine G.il X dX7_passOne_36 2 rfl ?_
  refine G.nst X (i := m_cu M) dX7_passOne_37 0 14 rfl rfl (by omega) (by decide) (blk' := ml m cI S (m_rf M, m_co M, m_tx M, m_lt M, m_la M, m_to M, m_tn M, m_at M, m_st M, upd (m_kp M) (m_cu M) v, m_hi M, m_kg M, m_cu M, m_lr M, m_ge M, m_rw M, m_rn M)) rfl (ws' := [ml m cI S (m_rf M, m_co M, m_tx M, m_lt M, m_la M, m_to M, m_tn M, m_at M, m_st M, upd (m_kp M) (m_cu M) v, m_hi M, m_kg M, m_cu M, m_lr M, m_ge M, m_rw M, m_rn M)]) rfl ?_
  refine G.al X dX7_passOne_38 1 rfl ?_
  refine G.dupr X dX7_passOne_39 ?_
  refine G.get X fX7_156 dX7_passOne_40 0 0 rfl rfl rfl ?_
  refine G.pu X dX7_passOne_43 ?_
  refine G.nadd X (a := m_cu M) (b := 1) dX7_passOne_44 ?_
  refine G.puti X fX7_156 fe7 dX7_passOne_45 rfl rfl 0 0 rfl rfl (Nat.le_of_ble_eq_true rfl) (blk' := ml m cI S (m_rf M, m_co M, m_tx M, m_lt M, m_la M, m_to M, m_tn M, m_at M, m_st M, upd (m_kp M) (m_cu M) v, m_hi M, m_kg M, (m_cu M) + 1, m_lr M, m_ge M, m_rw M, m_rn M)) rfl (ws' := [ml m cI S (m_rf M, m_co M, m_tx M, m_lt M, m_la M, m_to M, m_tn M, m_at M, m_st M, upd (m_kp M) (m_cu M) v, m_hi M, m_kg M, (m_cu M) + 1, m_lr M, m_ge M, m_rw M, m_rn M)]) rfl ?_
  refine G.il X dX7_passOne_48 0 rfl ?_
  exact G.iret X Rr (v := v) dX7_passOne_49 (pi_mk (by rfl) (by rfl))

set_option maxRecDepth 20000 in
theorem tX7_passOne_rn (l : Launch) (D : va_G) (cI cW : ClassId) (m : Nat → Nat) (S : WS) (M : MS) (v : Nat) (u : Nat) (hg : m_kg M = false) (hc : m_cu M + 1 ≤ 192) (hk9 : m_kp M (m_cu M) = nI u) : CT l D cI cW yX7_passOne cX7_passOne 3 (some .int) ⟨0, 0, 0, 0⟩ [.ref (m 0), .int (nI v)] ([ml m cI S M]) (PI (nI (u)) ([ml m cI S (m_adv M 1)])) := by
  refine CT.of RX7 rfl (by decide +kernel) (Nat.le_of_ble_eq_true rfl) [(0, .ref (m 0)), (1, .int (nI v))] rfl (fun x X Rr hnm => ?_)
  refine G.al X dX7_passOne_0 0 rfl ?_
  refine G.get X fX7_152 dX7_passOne_1 0 0 rfl rfl rfl ?_
  refine G.b_eq X dX7_passOne_4 (fun b4 => ?_) (fun b4 => absurd (Eq.trans (Eq.symm hg) b4) (by decide))
  refine G.al X dX7_passOne_11 0 rfl ?_
  refine G.get X fX7_49 dX7_passOne_12 0 0 rfl rfl rfl ?_
  refine G.al X dX7_passOne_15 0 rfl ?_
  refine G.get X fX7_156 dX7_passOne_16 0 0 rfl rfl rfl ?_
  refine G.nld X (i := m_cu M) dX7_passOne_19 0 14 rfl rfl (by omega) (by decide) ?_
  rw [hk9]
  refine G.is X dX7_passOne_20 (by decide) (lv' := [(2, .int (nI u)), (0, .ref (m 0)), (1, .int (nI v))]) rfl ?_
  refine G.al X dX7_passOne_21 1 rfl ?_
  refine G.get X fX7_152 dX7_passOne_22 0 0 rfl rfl rfl ?_
  refine G.b_eq X dX7_passOne_25 (fun b25 => ?_) (fun b25 => absurd (Eq.trans (Eq.symm hg) b25) (by decide))
  refine G.al X dX7_passOne_38 1 rfl ?_
  refine G.dupr X dX7_passOne_39 ?_
  refine G.get X fX7_156 dX7_passOne_40 0 0 rfl rfl rfl ?_
  refine G.pu X dX7_passOne_43 ?_
  refine G.nadd X (a := m_cu M) (b := 1) dX7_passOne_44 ?_
  refine G.puti X fX7_156 fe7 dX7_passOne_45 rfl rfl 0 0 rfl rfl (Nat.le_of_ble_eq_true rfl) (blk' := ml m cI S (m_rf M, m_co M, m_tx M, m_lt M, m_la M, m_to M, m_tn M, m_at M, m_st M, m_kp M, m_hi M, m_kg M, (m_cu M) + 1, m_lr M, m_ge M, m_rw M, m_rn M)) rfl (ws' := [ml m cI S (m_rf M, m_co M, m_tx M, m_lt M, m_la M, m_to M, m_tn M, m_at M, m_st M, m_kp M, m_hi M, m_kg M, (m_cu M) + 1, m_lr M, m_ge M, m_rw M, m_rn M)]) rfl ?_
  refine G.il X dX7_passOne_48 0 rfl ?_
  exact G.iret X Rr (v := nI u) dX7_passOne_49 (pi_mk (by rfl) (by rfl))

set_option maxRecDepth 20000 in
theorem tX7_passOne_ri (l : Launch) (D : va_G) (cI cW : ClassId) (m : Nat → Nat) (S : WS) (M : MS) (v : Int32) (u : Int32) (hg : m_kg M = false) (hc : m_cu M + 1 ≤ 192) (hk9 : m_kp M (m_cu M) = u) : CT l D cI cW yX7_passOne cX7_passOne 3 (some .int) ⟨0, 0, 0, 0⟩ [.ref (m 0), .int v] ([ml m cI S M]) (PI (u) ([ml m cI S (m_adv M 1)])) := by
  refine CT.of RX7 rfl (by decide +kernel) (Nat.le_of_ble_eq_true rfl) [(0, .ref (m 0)), (1, .int v)] rfl (fun x X Rr hnm => ?_)
  refine G.al X dX7_passOne_0 0 rfl ?_
  refine G.get X fX7_152 dX7_passOne_1 0 0 rfl rfl rfl ?_
  refine G.b_eq X dX7_passOne_4 (fun b4 => ?_) (fun b4 => absurd (Eq.trans (Eq.symm hg) b4) (by decide))
  refine G.al X dX7_passOne_11 0 rfl ?_
  refine G.get X fX7_49 dX7_passOne_12 0 0 rfl rfl rfl ?_
  refine G.al X dX7_passOne_15 0 rfl ?_
  refine G.get X fX7_156 dX7_passOne_16 0 0 rfl rfl rfl ?_
  refine G.nld X (i := m_cu M) dX7_passOne_19 0 14 rfl rfl (by omega) (by decide) ?_
  rw [hk9]
  refine G.is X dX7_passOne_20 (by decide) (lv' := [(2, .int u), (0, .ref (m 0)), (1, .int v)]) rfl ?_
  refine G.al X dX7_passOne_21 1 rfl ?_
  refine G.get X fX7_152 dX7_passOne_22 0 0 rfl rfl rfl ?_
  refine G.b_eq X dX7_passOne_25 (fun b25 => ?_) (fun b25 => absurd (Eq.trans (Eq.symm hg) b25) (by decide))
  refine G.al X dX7_passOne_38 1 rfl ?_
  refine G.dupr X dX7_passOne_39 ?_
  refine G.get X fX7_156 dX7_passOne_40 0 0 rfl rfl rfl ?_
  refine G.pu X dX7_passOne_43 ?_
  refine G.nadd X (a := m_cu M) (b := 1) dX7_passOne_44 ?_
  refine G.puti X fX7_156 fe7 dX7_passOne_45 rfl rfl 0 0 rfl rfl (Nat.le_of_ble_eq_true rfl) (blk' := ml m cI S (m_rf M, m_co M, m_tx M, m_lt M, m_la M, m_to M, m_tn M, m_at M, m_st M, m_kp M, m_hi M, m_kg M, (m_cu M) + 1, m_lr M, m_ge M, m_rw M, m_rn M)) rfl (ws' := [ml m cI S (m_rf M, m_co M, m_tx M, m_lt M, m_la M, m_to M, m_tn M, m_at M, m_st M, m_kp M, m_hi M, m_kg M, (m_cu M) + 1, m_lr M, m_ge M, m_rw M, m_rn M)]) rfl ?_
  refine G.il X dX7_passOne_48 0 rfl ?_
  exact G.iret X Rr (v := u) dX7_passOne_49 (pi_mk (by rfl) (by rfl))
