set_option maxRecDepth 20000 in
theorem tX7_alike_oth (l : Launch) (D : va_G) (cI cW : ClassId) (m : Nat → Nat) (S : WS) (M : MS) (w : Int32) (hS : Ok S) (hw : z_in w 2 = false) : CT l D cI cW yX7_alike cX7_alike 6 (some .int) ⟨1, 0, 0, 22⟩ [.ref (m 0), .int w] ([ml m cI S M]) (PI (-2) ([ml m cI S (m_no M 2)])) := by
  refine CT.of RX7 rfl (by decide +kernel) (Nat.le_of_ble_eq_true rfl) [(0, .ref (m 0)), (1, .int w)] rfl (fun x X Rr hnm => ?_)
  have hth := hS.th
  have hpe := hS.pe
  refine G.il X dX7_alike_0 1 rfl ?_
  refine G.pu X dX7_alike_1 ?_
  refine G.pu X dX7_alike_2 ?_
  refine G.csti X kX7_isIn lX7_85 dX7_alike_3 (tX7_isIn_no l D cI cW w 0 1 (zbt_no (n := 1) hw (by decide))) ⟨Nat.le_of_ble_eq_true rfl, Nat.le_of_ble_eq_true rfl⟩ ⟨Nat.zero_le _, Nat.zero_le _⟩ [] rfl ⟨rfl, rfl⟩ rfl rfl rfl (Nat.le_of_ble_eq_true rfl) (ff_nil) (ws' := [ml m cI S M]) rfl ?_
  refine G.b_ne X dX7_alike_6 (fun b6 => absurd b6 (by decide)) (fun b6 => ?_)
  refine G.al X dX7_alike_9 0 rfl ?_
  refine G.pu X dX7_alike_10 ?_
  refine G.cvi X kX7_no lX7_74 dX7_alike_12 (tX7_no l D cI cW m S M 2 (by omega) (by omega)) ⟨Nat.le_of_ble_eq_true rfl, Nat.le_of_ble_eq_true rfl⟩ ⟨Nat.zero_le _, Nat.zero_le _⟩ [0] rfl ⟨rfl, rfl⟩ rfl rfl 0 0 rfl rfl rfl rfl (Nat.le_of_ble_eq_true rfl) (ff_cons (ml_fst _ _ _ _ _ _) (ff_nil)) (ws' := [ml m cI S (m_no M 2)]) rfl ?_
  exact G.iret X Rr (v := (-(nI 2))) dX7_alike_15 (pi_mk (by rfl) (by rfl))

set_option maxRecDepth 20000 in
theorem tX7_alike_0 (l : Launch) (D : va_G) (cI cW : ClassId) (m : Nat → Nat) (S : WS) (M : MS) (hS : Ok S) : CT l D cI cW yX7_alike cX7_alike 6 (some .int) ⟨1, 0, 0, 22⟩ [.ref (m 0), .int 0] ([ml m cI S M]) (PI (nI (m_al S (s_th S)).1) ([ml m cI S M])) := by
  refine CT.of RX7 rfl (by decide +kernel) (Nat.le_of_ble_eq_true rfl) [(0, .ref (m 0)), (1, .int 0)] rfl (fun x X Rr hnm => ?_)
  have hth := hS.th
  have hpe := hS.pe
  refine G.il X dX7_alike_0 1 rfl ?_
  refine G.pu X dX7_alike_1 ?_
  refine G.pu X dX7_alike_2 ?_
  refine G.csti X kX7_isIn lX7_85 dX7_alike_3 (tX7_isIn_yes l D cI cW 0 0 1 (by omega) (by omega) (by omega)) ⟨Nat.le_of_ble_eq_true rfl, Nat.le_of_ble_eq_true rfl⟩ ⟨Nat.zero_le _, Nat.zero_le _⟩ [] rfl ⟨rfl, rfl⟩ rfl rfl rfl (Nat.le_of_ble_eq_true rfl) (ff_nil) (ws' := [ml m cI S M]) rfl ?_
  refine G.b_ne X dX7_alike_6 (fun b6 => ?_) (fun b6 => absurd b6 (by decide))
  refine G.pu X dX7_alike_16 ?_
  refine G.is X dX7_alike_17 (by decide) (lv' := [(2, .int 0), (0, .ref (m 0)), (1, .int 0)]) rfl ?_
  refine G.pu X dX7_alike_18 ?_
  refine G.is X dX7_alike_20 (by decide) (lv' := [(3, .int (-9)), (2, .int 0), (0, .ref (m 0)), (1, .int 0)]) rfl ?_
  refine G.al X dX7_alike_21 2 rfl ?_
  refine G.get X fX7_58 dX7_alike_22 0 0 rfl rfl rfl ?_
  refine G.pu X dX7_alike_25 ?_
  refine G.isub X dX7_alike_26 ?_
  refine G.is X dX7_alike_27 (by decide) (lv' := [(4, .int ((nI (s_th S)) - 1)), (3, .int (-9)), (2, .int 0), (0, .ref (m 0)), (1, .int 0)]) rfl ?_
  have L29 : ∀ k, k ≤ s_th S → G x 0 0 ([ml m cI S M]) 29 [(4, .int (nI (s_th S - k) - 1)), (3, .int ((m_al S k).2)), (2, .int (nI ((m_al S k).1))), (0, .ref (m 0)), (1, .int 0)] [] := by
    refine loop_dn (s_th S) _ ?_ ?_
    · refine G.il X dX7_alike_29 0 rfl ?_
      refine G.z_lt X (a := (nI (s_th S - (s_th S)) - 1)) dX7_alike_31 (fun b31 => ?_) (fun b31 => absurd b31 ((by rw [Nat.sub_self]; decide)))
      refine G.il X dX7_alike_91 4 rfl ?_
      refine G.z_ne X (a := 0) dX7_alike_92 (fun b92 => absurd b92 (by decide)) (fun b92 => ?_)
      refine G.il X dX7_alike_95 2 rfl ?_
      refine G.go X dX7_alike_96 ?_
      exact G.iret X Rr (v := nI ((m_al S (s_th S)).1)) dX7_alike_100 (pi_mk (by rfl) (by rfl))
    · intro k hk ih29
      obtain ⟨r, hr⟩ : ∃ r, s_th S - k = r + 1 := ⟨s_th S - k - 1, by omega⟩
      rw [show nI (s_th S - k) - 1 = nI (s_th S - 1 - k) from by rw [show s_th S - 1 - k = r by omega, hr]; exact nI_pred r]
      refine G.il X dX7_alike_29 0 rfl ?_
      refine G.z_lt X (a := nI (s_th S - 1 - k)) dX7_alike_31 (fun b31 => absurd b31 ((nI_pos (by omega)))) (fun b31 => ?_)
      refine G.al X dX7_alike_34 3 rfl ?_
      refine G.get X fX7_58 dX7_alike_35 0 0 rfl rfl rfl ?_
      refine G.pu X dX7_alike_38 ?_
      refine G.isub X dX7_alike_39 ?_
      refine G.top (b := nI (s_th S - 1 - 0)) (by obtain ⟨r, hr⟩ : ∃ r, s_th S = r + 1 := ⟨s_th S - 1, by omega⟩; rw [hr]; exact nI_pred r) ?_
      refine G.is X dX7_alike_40 (by decide) (lv' := [(5, .int (nI (s_th S - 1 - 0))), (4, .int (nI (s_th S - 1 - k))), (3, .int ((m_al S k).2)), (2, .int (nI ((m_al S k).1))), (0, .ref (m 0)), (1, .int 0)]) rfl ?_
      have L42 : ∀ j, j ≤ k → G x 0 0 ([ml m cI S M]) 42 [(5, .int (nI (s_th S - 1 - j))), (4, .int (nI (s_th S - 1 - k))), (3, .int ((m_al1 S (s_th S - 1 - k) (m_al S k) j).2)), (2, .int (nI ((m_al1 S (s_th S - 1 - k) (m_al S k) j).1))), (0, .ref (m 0)), (1, .int 0)] [] := by
        refine loop_dn k _ ?_ ?_
        · refine G.il X dX7_alike_42 0 rfl ?_
          refine G.il X dX7_alike_44 1 rfl ?_
          refine G.n_le X (a := s_th S - 1 - k) (b := s_th S - 1 - k) (by omega) (by omega) dX7_alike_46 (fun b46 => ?_) (fun b46 => absurd b46 (by omega))
          refine G.iinc X dX7_alike_85 1 rfl (v' := ((nI (s_th S - 1 - k)) + (-1))) rfl (by decide) (lv' := [(4, .int ((nI (s_th S - 1 - k)) + (-1))), (5, .int (nI (s_th S - 1 - k))), (3, .int ((m_al1 S (s_th S - 1 - k) (m_al S k) k).2)), (2, .int (nI ((m_al1 S (s_th S - 1 - k) (m_al S k) k).1))), (0, .ref (m 0)), (1, .int 0)]) rfl ?_
          refine G.go X dX7_alike_88 ?_
          rw [show (nI (s_th S - (k + 1)) - 1) = ((nI (s_th S - 1 - k)) + (-1)) from (by rw [show s_th S - (k + 1) = s_th S - 1 - k by omega, Int32.sub_eq_add_neg])] at ih29
          rw [show ((m_al S (k + 1)).2) = ((m_al1 S (s_th S - 1 - k) (m_al S k) k).2) from (by rfl)] at ih29
          rw [show (nI ((m_al S (k + 1)).1)) = (nI ((m_al1 S (s_th S - 1 - k) (m_al S k) k).1)) from (by rfl)] at ih29
          refine G.lvsub [0, 2, 3, 4, 5] (lv' := [(4, .int ((nI (s_th S - 1 - k)) + (-1))), (3, .int ((m_al1 S (s_th S - 1 - k) (m_al S k) k).2)), (2, .int (nI ((m_al1 S (s_th S - 1 - k) (m_al S k) k).1))), (0, .ref (m 0)), (1, .int 0)]) rfl ?_
          exact ih29
        · intro j hj ih42
          refine G.il X dX7_alike_42 0 rfl ?_
          refine G.il X dX7_alike_44 1 rfl ?_
          refine G.n_le X (a := s_th S - 1 - j) (b := s_th S - 1 - k) (by omega) (by omega) dX7_alike_46 (fun b46 => absurd b46 (by omega)) (fun b46 => ?_)
          refine G.al X dX7_alike_49 4 rfl ?_
          refine G.il X dX7_alike_50 1 rfl ?_
          refine G.cvi X kX7_topicOf lX7_175 dX7_alike_52 (tX7_topicOf l D cI cW m S M (s_th S - 1 - k) (by omega)) ⟨Nat.le_of_ble_eq_true rfl, Nat.le_of_ble_eq_true rfl⟩ ⟨Nat.zero_le _, Nat.zero_le _⟩ [0] rfl ⟨rfl, rfl⟩ rfl rfl 0 0 rfl rfl rfl rfl (Nat.le_of_ble_eq_true rfl) (ff_cons (ml_fst _ _ _ _ _ _) (ff_nil)) (ws' := [ml m cI S M]) rfl ?_
          refine G.al X dX7_alike_55 4 rfl ?_
          refine G.il X dX7_alike_56 0 rfl ?_
          refine G.cvi X kX7_topicOf lX7_175 dX7_alike_58 (tX7_topicOf l D cI cW m S M (s_th S - 1 - j) (by omega)) ⟨Nat.le_of_ble_eq_true rfl, Nat.le_of_ble_eq_true rfl⟩ ⟨Nat.zero_le _, Nat.zero_le _⟩ [0] rfl ⟨rfl, rfl⟩ rfl rfl 0 0 rfl rfl rfl rfl (Nat.le_of_ble_eq_true rfl) (ff_cons (ml_fst _ _ _ _ _ _) (ff_nil)) (ws' := [ml m cI S M]) rfl ?_
          refine G.c_eq X (a := (top S (s_th S - 1 - k))) (b := (top S (s_th S - 1 - j))) dX7_alike_61 (fun b61 => ?_) (fun b61 => ?_)
          · refine G.iinc X dX7_alike_67 3 rfl (v' := nI (((m_al1 S (s_th S - 1 - k) (m_al S k) j).1) + 1)) (nI_inc ((m_al1 S (s_th S - 1 - k) (m_al S k) j).1)) (by decide) (lv' := [(2, .int (nI (((m_al1 S (s_th S - 1 - k) (m_al S k) j).1) + 1))), (5, .int (nI (s_th S - 1 - j))), (4, .int (nI (s_th S - 1 - k))), (3, .int ((m_al1 S (s_th S - 1 - k) (m_al S k) j).2)), (0, .ref (m 0)), (1, .int 0)]) rfl ?_
            refine G.pu X dX7_alike_70 ?_
            refine G.il X dX7_alike_72 2 rfl ?_
            refine G.imul X dX7_alike_74 ?_
            refine G.top (b := nI (10 * (s_th S - 1 - k))) (nI_mulc 10 (s_th S - 1 - k)) ?_
            refine G.il X dX7_alike_75 1 rfl ?_
            refine G.nadd X (a := 10 * (s_th S - 1 - k)) (b := s_th S - 1 - j) dX7_alike_77 ?_
            refine G.is X dX7_alike_78 (by decide) (lv' := [(3, .int (nI ((10 * (s_th S - 1 - k)) + (s_th S - 1 - j)))), (2, .int (nI (((m_al1 S (s_th S - 1 - k) (m_al S k) j).1) + 1))), (5, .int (nI (s_th S - 1 - j))), (4, .int (nI (s_th S - 1 - k))), (0, .ref (m 0)), (1, .int 0)]) rfl ?_
            refine G.iinc X dX7_alike_79 2 rfl (v' := nI ((s_th S - 1 - j) - 1)) (nI_dec (h := (by omega))) (by decide) (lv' := [(5, .int (nI ((s_th S - 1 - j) - 1))), (3, .int (nI ((10 * (s_th S - 1 - k)) + (s_th S - 1 - j)))), (2, .int (nI (((m_al1 S (s_th S - 1 - k) (m_al S k) j).1) + 1))), (4, .int (nI (s_th S - 1 - k))), (0, .ref (m 0)), (1, .int 0)]) rfl ?_
            refine G.go X dX7_alike_82 ?_
            rw [show (nI (s_th S - 1 - (j + 1))) = (nI ((s_th S - 1 - j) - 1)) from (by rw [show s_th S - 1 - (j + 1) = s_th S - 1 - j - 1 by omega])] at ih42
            rw [show ((m_al1 S (s_th S - 1 - k) (m_al S k) (j + 1)).2) = (nI ((10 * (s_th S - 1 - k)) + (s_th S - 1 - j))) from (by simp [m_al1, b46, b61]; try (rw [← nI_add, ← nI_mulc]; rfl))] at ih42
            rw [show (nI ((m_al1 S (s_th S - 1 - k) (m_al S k) (j + 1)).1)) = (nI (((m_al1 S (s_th S - 1 - k) (m_al S k) j).1) + 1)) from (by simp [m_al1, b46, b61]; try (rw [← nI_add, ← nI_mulc]; rfl))] at ih42
            refine G.lvsub [0, 3, 1, 2, 4, 5] (lv' := [(5, .int (nI ((s_th S - 1 - j) - 1))), (4, .int (nI (s_th S - 1 - k))), (3, .int (nI ((10 * (s_th S - 1 - k)) + (s_th S - 1 - j)))), (2, .int (nI (((m_al1 S (s_th S - 1 - k) (m_al S k) j).1) + 1))), (0, .ref (m 0)), (1, .int 0)]) rfl ?_
            exact ih42
          · refine G.go X dX7_alike_64 ?_
            refine G.iinc X dX7_alike_79 0 rfl (v' := nI ((s_th S - 1 - j) - 1)) (nI_dec (h := (by omega))) (by decide) (lv' := [(5, .int (nI ((s_th S - 1 - j) - 1))), (4, .int (nI (s_th S - 1 - k))), (3, .int ((m_al1 S (s_th S - 1 - k) (m_al S k) j).2)), (2, .int (nI ((m_al1 S (s_th S - 1 - k) (m_al S k) j).1))), (0, .ref (m 0)), (1, .int 0)]) rfl ?_
            refine G.go X dX7_alike_82 ?_
            rw [show (nI (s_th S - 1 - (j + 1))) = (nI ((s_th S - 1 - j) - 1)) from (by rw [show s_th S - 1 - (j + 1) = s_th S - 1 - j - 1 by omega])] at ih42
            rw [show ((m_al1 S (s_th S - 1 - k) (m_al S k) (j + 1)).2) = ((m_al1 S (s_th S - 1 - k) (m_al S k) j).2) from (by simp [m_al1, b46, b61]; try (rw [← nI_add, ← nI_mulc]; rfl))] at ih42
            rw [show (nI ((m_al1 S (s_th S - 1 - k) (m_al S k) (j + 1)).1)) = (nI ((m_al1 S (s_th S - 1 - k) (m_al S k) j).1)) from (by simp [m_al1, b46, b61]; try (rw [← nI_add, ← nI_mulc]; rfl))] at ih42
            exact ih42
      have L42 := L42 0 (Nat.zero_le _)
      exact L42
  have L29 := L29 0 (Nat.zero_le _)
  rw [show (nI (s_th S - 0) - 1) = ((nI (s_th S)) - 1) from (by rw [Nat.sub_zero])] at L29
  exact L29

set_option maxRecDepth 20000 in
theorem tX7_alike_1 (l : Launch) (D : va_G) (cI cW : ClassId) (m : Nat → Nat) (S : WS) (M : MS) (hS : Ok S) : CT l D cI cW yX7_alike cX7_alike 6 (some .int) ⟨1, 0, 0, 22⟩ [.ref (m 0), .int 1] ([ml m cI S M]) (PI ((m_al S (s_th S)).2) ([ml m cI S M])) := by
  refine CT.of RX7 rfl (by decide +kernel) (Nat.le_of_ble_eq_true rfl) [(0, .ref (m 0)), (1, .int 1)] rfl (fun x X Rr hnm => ?_)
  have hth := hS.th
  have hpe := hS.pe
  refine G.il X dX7_alike_0 1 rfl ?_
  refine G.pu X dX7_alike_1 ?_
  refine G.pu X dX7_alike_2 ?_
  refine G.csti X kX7_isIn lX7_85 dX7_alike_3 (tX7_isIn_yes l D cI cW 1 0 1 (by omega) (by omega) (by omega)) ⟨Nat.le_of_ble_eq_true rfl, Nat.le_of_ble_eq_true rfl⟩ ⟨Nat.zero_le _, Nat.zero_le _⟩ [] rfl ⟨rfl, rfl⟩ rfl rfl rfl (Nat.le_of_ble_eq_true rfl) (ff_nil) (ws' := [ml m cI S M]) rfl ?_
  refine G.b_ne X dX7_alike_6 (fun b6 => ?_) (fun b6 => absurd b6 (by decide))
  refine G.pu X dX7_alike_16 ?_
  refine G.is X dX7_alike_17 (by decide) (lv' := [(2, .int 0), (0, .ref (m 0)), (1, .int 1)]) rfl ?_
  refine G.pu X dX7_alike_18 ?_
  refine G.is X dX7_alike_20 (by decide) (lv' := [(3, .int (-9)), (2, .int 0), (0, .ref (m 0)), (1, .int 1)]) rfl ?_
  refine G.al X dX7_alike_21 2 rfl ?_
  refine G.get X fX7_58 dX7_alike_22 0 0 rfl rfl rfl ?_
  refine G.pu X dX7_alike_25 ?_
  refine G.isub X dX7_alike_26 ?_
  refine G.is X dX7_alike_27 (by decide) (lv' := [(4, .int ((nI (s_th S)) - 1)), (3, .int (-9)), (2, .int 0), (0, .ref (m 0)), (1, .int 1)]) rfl ?_
  have L29 : ∀ k, k ≤ s_th S → G x 0 0 ([ml m cI S M]) 29 [(4, .int (nI (s_th S - k) - 1)), (3, .int ((m_al S k).2)), (2, .int (nI ((m_al S k).1))), (0, .ref (m 0)), (1, .int 1)] [] := by
    refine loop_dn (s_th S) _ ?_ ?_
    · refine G.il X dX7_alike_29 0 rfl ?_
      refine G.z_lt X (a := (nI (s_th S - (s_th S)) - 1)) dX7_alike_31 (fun b31 => ?_) (fun b31 => absurd b31 ((by rw [Nat.sub_self]; decide)))
      refine G.il X dX7_alike_91 4 rfl ?_
      refine G.z_ne X (a := 1) dX7_alike_92 (fun b92 => ?_) (fun b92 => absurd b92 (by decide))
      refine G.il X dX7_alike_99 1 rfl ?_
      exact G.iret X Rr (v := ((m_al S (s_th S)).2)) dX7_alike_100 (pi_mk (by rfl) (by rfl))
    · intro k hk ih29
      obtain ⟨r, hr⟩ : ∃ r, s_th S - k = r + 1 := ⟨s_th S - k - 1, by omega⟩
      rw [show nI (s_th S - k) - 1 = nI (s_th S - 1 - k) from by rw [show s_th S - 1 - k = r by omega, hr]; exact nI_pred r]
      refine G.il X dX7_alike_29 0 rfl ?_
      refine G.z_lt X (a := nI (s_th S - 1 - k)) dX7_alike_31 (fun b31 => absurd b31 ((nI_pos (by omega)))) (fun b31 => ?_)
      refine G.al X dX7_alike_34 3 rfl ?_
      refine G.get X fX7_58 dX7_alike_35 0 0 rfl rfl rfl ?_
      refine G.pu X dX7_alike_38 ?_
      refine G.isub X dX7_alike_39 ?_
      refine G.top (b := nI (s_th S - 1 - 0)) (by obtain ⟨r, hr⟩ : ∃ r, s_th S = r + 1 := ⟨s_th S - 1, by omega⟩; rw [hr]; exact nI_pred r) ?_
      refine G.is X dX7_alike_40 (by decide) (lv' := [(5, .int (nI (s_th S - 1 - 0))), (4, .int (nI (s_th S - 1 - k))), (3, .int ((m_al S k).2)), (2, .int (nI ((m_al S k).1))), (0, .ref (m 0)), (1, .int 1)]) rfl ?_
      have L42 : ∀ j, j ≤ k → G x 0 0 ([ml m cI S M]) 42 [(5, .int (nI (s_th S - 1 - j))), (4, .int (nI (s_th S - 1 - k))), (3, .int ((m_al1 S (s_th S - 1 - k) (m_al S k) j).2)), (2, .int (nI ((m_al1 S (s_th S - 1 - k) (m_al S k) j).1))), (0, .ref (m 0)), (1, .int 1)] [] := by
        refine loop_dn k _ ?_ ?_
        · refine G.il X dX7_alike_42 0 rfl ?_
          refine G.il X dX7_alike_44 1 rfl ?_
          refine G.n_le X (a := s_th S - 1 - k) (b := s_th S - 1 - k) (by omega) (by omega) dX7_alike_46 (fun b46 => ?_) (fun b46 => absurd b46 (by omega))
          refine G.iinc X dX7_alike_85 1 rfl (v' := ((nI (s_th S - 1 - k)) + (-1))) rfl (by decide) (lv' := [(4, .int ((nI (s_th S - 1 - k)) + (-1))), (5, .int (nI (s_th S - 1 - k))), (3, .int ((m_al1 S (s_th S - 1 - k) (m_al S k) k).2)), (2, .int (nI ((m_al1 S (s_th S - 1 - k) (m_al S k) k).1))), (0, .ref (m 0)), (1, .int 1)]) rfl ?_
          refine G.go X dX7_alike_88 ?_
          rw [show (nI (s_th S - (k + 1)) - 1) = ((nI (s_th S - 1 - k)) + (-1)) from (by rw [show s_th S - (k + 1) = s_th S - 1 - k by omega, Int32.sub_eq_add_neg])] at ih29
          rw [show ((m_al S (k + 1)).2) = ((m_al1 S (s_th S - 1 - k) (m_al S k) k).2) from (by rfl)] at ih29
          rw [show (nI ((m_al S (k + 1)).1)) = (nI ((m_al1 S (s_th S - 1 - k) (m_al S k) k).1)) from (by rfl)] at ih29
          refine G.lvsub [0, 2, 3, 4, 5] (lv' := [(4, .int ((nI (s_th S - 1 - k)) + (-1))), (3, .int ((m_al1 S (s_th S - 1 - k) (m_al S k) k).2)), (2, .int (nI ((m_al1 S (s_th S - 1 - k) (m_al S k) k).1))), (0, .ref (m 0)), (1, .int 1)]) rfl ?_
          exact ih29
        · intro j hj ih42
          refine G.il X dX7_alike_42 0 rfl ?_
          refine G.il X dX7_alike_44 1 rfl ?_
          refine G.n_le X (a := s_th S - 1 - j) (b := s_th S - 1 - k) (by omega) (by omega) dX7_alike_46 (fun b46 => absurd b46 (by omega)) (fun b46 => ?_)
          refine G.al X dX7_alike_49 4 rfl ?_
          refine G.il X dX7_alike_50 1 rfl ?_
          refine G.cvi X kX7_topicOf lX7_175 dX7_alike_52 (tX7_topicOf l D cI cW m S M (s_th S - 1 - k) (by omega)) ⟨Nat.le_of_ble_eq_true rfl, Nat.le_of_ble_eq_true rfl⟩ ⟨Nat.zero_le _, Nat.zero_le _⟩ [0] rfl ⟨rfl, rfl⟩ rfl rfl 0 0 rfl rfl rfl rfl (Nat.le_of_ble_eq_true rfl) (ff_cons (ml_fst _ _ _ _ _ _) (ff_nil)) (ws' := [ml m cI S M]) rfl ?_
          refine G.al X dX7_alike_55 4 rfl ?_
          refine G.il X dX7_alike_56 0 rfl ?_
          refine G.cvi X kX7_topicOf lX7_175 dX7_alike_58 (tX7_topicOf l D cI cW m S M (s_th S - 1 - j) (by omega)) ⟨Nat.le_of_ble_eq_true rfl, Nat.le_of_ble_eq_true rfl⟩ ⟨Nat.zero_le _, Nat.zero_le _⟩ [0] rfl ⟨rfl, rfl⟩ rfl rfl 0 0 rfl rfl rfl rfl (Nat.le_of_ble_eq_true rfl) (ff_cons (ml_fst _ _ _ _ _ _) (ff_nil)) (ws' := [ml m cI S M]) rfl ?_
          refine G.c_eq X (a := (top S (s_th S - 1 - k))) (b := (top S (s_th S - 1 - j))) dX7_alike_61 (fun b61 => ?_) (fun b61 => ?_)
          · refine G.iinc X dX7_alike_67 3 rfl (v' := nI (((m_al1 S (s_th S - 1 - k) (m_al S k) j).1) + 1)) (nI_inc ((m_al1 S (s_th S - 1 - k) (m_al S k) j).1)) (by decide) (lv' := [(2, .int (nI (((m_al1 S (s_th S - 1 - k) (m_al S k) j).1) + 1))), (5, .int (nI (s_th S - 1 - j))), (4, .int (nI (s_th S - 1 - k))), (3, .int ((m_al1 S (s_th S - 1 - k) (m_al S k) j).2)), (0, .ref (m 0)), (1, .int 1)]) rfl ?_
            refine G.pu X dX7_alike_70 ?_
            refine G.il X dX7_alike_72 2 rfl ?_
            refine G.imul X dX7_alike_74 ?_
            refine G.top (b := nI (10 * (s_th S - 1 - k))) (nI_mulc 10 (s_th S - 1 - k)) ?_
            refine G.il X dX7_alike_75 1 rfl ?_
            refine G.nadd X (a := 10 * (s_th S - 1 - k)) (b := s_th S - 1 - j) dX7_alike_77 ?_
            refine G.is X dX7_alike_78 (by decide) (lv' := [(3, .int (nI ((10 * (s_th S - 1 - k)) + (s_th S - 1 - j)))), (2, .int (nI (((m_al1 S (s_th S - 1 - k) (m_al S k) j).1) + 1))), (5, .int (nI (s_th S - 1 - j))), (4, .int (nI (s_th S - 1 - k))), (0, .ref (m 0)), (1, .int 1)]) rfl ?_
            refine G.iinc X dX7_alike_79 2 rfl (v' := nI ((s_th S - 1 - j) - 1)) (nI_dec (h := (by omega))) (by decide) (lv' := [(5, .int (nI ((s_th S - 1 - j) - 1))), (3, .int (nI ((10 * (s_th S - 1 - k)) + (s_th S - 1 - j)))), (2, .int (nI (((m_al1 S (s_th S - 1 - k) (m_al S k) j).1) + 1))), (4, .int (nI (s_th S - 1 - k))), (0, .ref (m 0)), (1, .int 1)]) rfl ?_
            refine G.go X dX7_alike_82 ?_
            rw [show (nI (s_th S - 1 - (j + 1))) = (nI ((s_th S - 1 - j) - 1)) from (by rw [show s_th S - 1 - (j + 1) = s_th S - 1 - j - 1 by omega])] at ih42
            rw [show ((m_al1 S (s_th S - 1 - k) (m_al S k) (j + 1)).2) = (nI ((10 * (s_th S - 1 - k)) + (s_th S - 1 - j))) from (by simp [m_al1, b46, b61]; try (rw [← nI_add, ← nI_mulc]; rfl))] at ih42
            rw [show (nI ((m_al1 S (s_th S - 1 - k) (m_al S k) (j + 1)).1)) = (nI (((m_al1 S (s_th S - 1 - k) (m_al S k) j).1) + 1)) from (by simp [m_al1, b46, b61]; try (rw [← nI_add, ← nI_mulc]; rfl))] at ih42
            refine G.lvsub [0, 3, 1, 2, 4, 5] (lv' := [(5, .int (nI ((s_th S - 1 - j) - 1))), (4, .int (nI (s_th S - 1 - k))), (3, .int (nI ((10 * (s_th S - 1 - k)) + (s_th S - 1 - j)))), (2, .int (nI (((m_al1 S (s_th S - 1 - k) (m_al S k) j).1) + 1))), (0, .ref (m 0)), (1, .int 1)]) rfl ?_
            exact ih42
          · refine G.go X dX7_alike_64 ?_
            refine G.iinc X dX7_alike_79 0 rfl (v' := nI ((s_th S - 1 - j) - 1)) (nI_dec (h := (by omega))) (by decide) (lv' := [(5, .int (nI ((s_th S - 1 - j) - 1))), (4, .int (nI (s_th S - 1 - k))), (3, .int ((m_al1 S (s_th S - 1 - k) (m_al S k) j).2)), (2, .int (nI ((m_al1 S (s_th S - 1 - k) (m_al S k) j).1))), (0, .ref (m 0)), (1, .int 1)]) rfl ?_
            refine G.go X dX7_alike_82 ?_
            rw [show (nI (s_th S - 1 - (j + 1))) = (nI ((s_th S - 1 - j) - 1)) from (by rw [show s_th S - 1 - (j + 1) = s_th S - 1 - j - 1 by omega])] at ih42
            rw [show ((m_al1 S (s_th S - 1 - k) (m_al S k) (j + 1)).2) = ((m_al1 S (s_th S - 1 - k) (m_al S k) j).2) from (by simp [m_al1, b46, b61]; try (rw [← nI_add, ← nI_mulc]; rfl))] at ih42
            rw [show (nI ((m_al1 S (s_th S - 1 - k) (m_al S k) (j + 1)).1)) = (nI ((m_al1 S (s_th S - 1 - k) (m_al S k) j).1)) from (by simp [m_al1, b46, b61]; try (rw [← nI_add, ← nI_mulc]; rfl))] at ih42
            exact ih42
      have L42 := L42 0 (Nat.zero_le _)
      exact L42
  have L29 := L29 0 (Nat.zero_le _)
  rw [show (nI (s_th S - 0) - 1) = ((nI (s_th S)) - 1) from (by rw [Nat.sub_zero])] at L29
  exact L29

set_option maxRecDepth 20000 in
theorem tX7_getsOf_0 (l : Launch) (D : va_G) (cI cW : ClassId) (m : Nat → Nat) (S : WS) (M : MS) (p : Nat) (v : Int32) (hth : s_th S ≤ 9) : CT l D cI cW yX7_getsOf cX7_getsOf 4 (some .int) ⟨1, 0, 0, 23⟩ [.ref (m 0), .int (nI p), .int v, .int 0] ([ml m cI S M]) (PI (v - w_bur S p false) ([ml m cI S M])) := by
  refine CT.of RX7 rfl (by decide +kernel) (Nat.le_of_ble_eq_true rfl) [(0, .ref (m 0)), (1, .int (nI p)), (2, .int v), (3, .int 0)] rfl (fun x X Rr hnm => ?_)
  refine G.il X dX7_getsOf_0 3 rfl ?_
  refine G.z_ne X (a := 0) dX7_getsOf_1 (fun b1 => absurd b1 (by decide)) (fun b1 => ?_)
  refine G.al X dX7_getsOf_4 0 rfl ?_
  refine G.il X dX7_getsOf_5 1 rfl ?_
  refine G.cvi X kX7_queueOf lX7_202 dX7_getsOf_6 (tX7_queueOf l D cI cW m S M (nI p) hth) ⟨Nat.le_of_ble_eq_true rfl, Nat.le_of_ble_eq_true rfl⟩ ⟨Nat.zero_le _, Nat.zero_le _⟩ [0] rfl ⟨rfl, rfl⟩ rfl rfl 0 0 rfl rfl rfl rfl (Nat.le_of_ble_eq_true rfl) (ff_cons (ml_fst _ _ _ _ _ _) (ff_nil)) (ws' := [ml m cI S M]) rfl ?_
  refine G.z_le X (a := (w_qs S (nI p) (s_th S))) dX7_getsOf_9 (fun b9 => ?_) (fun b9 => ?_)
  · refine G.il X dX7_getsOf_18 2 rfl ?_
    exact G.iret X Rr (v := v) dX7_getsOf_19 (pi_mk (by simp [w_bur, b9]) (by rfl))
  · refine G.il X dX7_getsOf_12 2 rfl ?_
    refine G.pu X dX7_getsOf_13 ?_
    refine G.isub X dX7_getsOf_14 ?_
    refine G.go X dX7_getsOf_15 ?_
    exact G.iret X Rr (v := (v - 3)) dX7_getsOf_19 (pi_mk (by simp [w_bur, b9]) (by rfl))

set_option maxRecDepth 20000 in
theorem tX7_getsOf_1 (l : Launch) (D : va_G) (cI cW : ClassId) (m : Nat → Nat) (S : WS) (M : MS) (p : Nat) (v : Int32) (hth : s_th S ≤ 9) : CT l D cI cW yX7_getsOf cX7_getsOf 4 (some .int) ⟨0, 0, 0, 0⟩ [.ref (m 0), .int (nI p), .int v, .int 1] ([ml m cI S M]) (PI (v - w_bur S p true) ([ml m cI S M])) := by
  refine CT.of RX7 rfl (by decide +kernel) (Nat.le_of_ble_eq_true rfl) [(0, .ref (m 0)), (1, .int (nI p)), (2, .int v), (3, .int 1)] rfl (fun x X Rr hnm => ?_)
  refine G.il X dX7_getsOf_0 3 rfl ?_
  refine G.z_ne X (a := 1) dX7_getsOf_1 (fun b1 => ?_) (fun b1 => absurd b1 (by decide))
  refine G.il X dX7_getsOf_18 2 rfl ?_
  exact G.iret X Rr (v := v) dX7_getsOf_19 (pi_mk (by simp [w_bur]) (by rfl))

set_option maxRecDepth 20000 in
theorem tX7_findGets (l : Launch) (D : va_G) (cI cW : ClassId) (m : Nat → Nat) (S : WS) (M : MS) (i : Nat) (j : Nat) (n : Nat) (hS : Ok S) (hco : m_co M = false) (hi : i < s_pe S) (hj : j < s_pe S) (hn : n < 2 ^ 31) : CT l D cI cW yX7_findGets cX7_findGets 6 none ⟨5, 0, 0, 110⟩ [.ref (m 0), .int (nI i), .int (nI j), .int (nI n)] ([ml m cI S M]) (PVE (fun M9 : {M9 : MS // Mq 64 M M9 ∧ m_ge M9 = m_gf (m_ge M) S i j n 4} => [ml m cI S M9.1])) := by
  refine CT.of RX7 rfl (by decide +kernel) (Nat.le_of_ble_eq_true rfl) [(0, .ref (m 0)), (1, .int (nI i)), (2, .int (nI j)), (3, .int (nI n))] rfl (fun x X Rr hnm => ?_)
  have hth := hS.th
  have hpe := hS.pe
  refine G.pu X dX7_findGets_0 ?_
  refine G.is X dX7_findGets_1 (by decide) (lv' := [(4, .int 0), (0, .ref (m 0)), (1, .int (nI i)), (2, .int (nI j)), (3, .int (nI n))]) rfl ?_
  have L3 : ∀ k, k ≤ 4 → ∀ M8 : {M8 : MS // Mq 64 M M8 ∧ m_ge M8 = m_gf (m_ge M) S i j n k}, G x 0 0 ([ml m cI S M8.1]) 3 [(4, .int (nI k)), (0, .ref (m 0)), (1, .int (nI i)), (2, .int (nI j)), (3, .int (nI n))] [] := by
    refine loop_dn 4 _ ?_ ?_
    · intro M8
      refine G.il X dX7_findGets_3 0 rfl ?_
      refine G.pu X dX7_findGets_5 ?_
      refine G.n_ge X (a := 4) (b := 4) (by omega) (by omega) dX7_findGets_6 (fun b6 => ?_) (fun b6 => absurd b6 (by omega))
      exact G.vret X Rr dX7_findGets_125 (pve_mk (M8) (by rfl))
    · intro k hk ih3 M8
      rcases (show k = 0 ∨ k = 1 ∨ k = 2 ∨ k = 3 by omega) with rfl | rfl | rfl | rfl
      · refine G.il X dX7_findGets_3 0 rfl ?_
        refine G.pu X dX7_findGets_5 ?_
        refine G.c_ge X (a := 0) (b := 4) dX7_findGets_6 (fun b6 => absurd b6 (by decide)) (fun b6 => ?_)
        refine G.al X dX7_findGets_9 1 rfl ?_
        refine G.cvv X kX7_changes lX7_250 dX7_findGets_10 (tX7_changes l D cI cW m S M8.1) ⟨Nat.le_of_ble_eq_true rfl, Nat.le_of_ble_eq_true rfl⟩ ⟨Nat.zero_le _, Nat.zero_le _⟩ [0] rfl ⟨rfl, rfl⟩ rfl rfl 0 0 rfl rfl rfl rfl (Nat.le_of_ble_eq_true rfl) (ff_cons (ml_fst _ _ _ _ _ _) (ff_nil)) (ws' := [ml m cI S (m_kpa M8.1 64 S)]) rfl ?_
        refine G.al X dX7_findGets_13 1 rfl ?_
        refine G.get X fX7_13 dX7_findGets_14 0 0 rfl rfl rfl ?_
        refine G.il X dX7_findGets_17 2 rfl ?_
        refine G.il X dX7_findGets_18 0 rfl ?_
        refine G.pu X dX7_findGets_20 ?_
        refine G.idiv X dX7_findGets_21 (by decide) ?_
        refine G.top (b := 0) (by decide) ?_
        refine G.pu X dX7_findGets_22 ?_
        refine G.c_ne X (a := 0) (b := 1) dX7_findGets_23 (fun b23 => ?_) (fun b23 => absurd b23 (by decide))
        refine G.al X dX7_findGets_30 1 rfl ?_
        refine G.get X fX7_13 dX7_findGets_31 0 0 rfl rfl rfl ?_
        refine G.il X dX7_findGets_34 2 rfl ?_
        refine G.nld X (i := i) dX7_findGets_35 0 2 rfl rfl (by omega) (by decide) ?_
        refine G.nst X (i := i) dX7_findGets_36 0 2 rfl rfl (by omega) (by decide) (blk' := ml m cI (s_pe S, s_th S, s_da S, s_dr S, upd (s_kn S) i ((s_kn S) i), s_sh S, s_an S, s_ki S, s_we S, s_dp S, s_wa S, s_le S) (m_kpa M8.1 64 S)) rfl (ws' := [ml m cI (s_pe S, s_th S, s_da S, s_dr S, upd (s_kn S) i ((s_kn S) i), s_sh S, s_an S, s_ki S, s_we S, s_dp S, s_wa S, s_le S) (m_kpa M8.1 64 S)]) rfl ?_
        refine G.al X dX7_findGets_37 1 rfl ?_
        refine G.get X fX7_13 dX7_findGets_38 0 0 rfl rfl rfl ?_
        refine G.il X dX7_findGets_41 3 rfl ?_
        refine G.il X dX7_findGets_42 0 rfl ?_
        refine G.pu X dX7_findGets_44 ?_
        refine G.irem X dX7_findGets_45 (by decide) ?_
        refine G.top (b := 0) (by decide) ?_
        refine G.pu X dX7_findGets_46 ?_
        refine G.c_ne X (a := 0) (b := 1) dX7_findGets_47 (fun b47 => ?_) (fun b47 => absurd b47 (by decide))
        refine G.al X dX7_findGets_54 1 rfl ?_
        refine G.get X fX7_13 dX7_findGets_55 0 0 rfl rfl rfl ?_
        refine G.il X dX7_findGets_58 3 rfl ?_
        refine G.nld X (i := j) dX7_findGets_59 0 2 rfl rfl (by omega) (by decide) ?_
        refine G.nst X (i := j) dX7_findGets_60 0 2 rfl rfl (by omega) (by decide) (blk' := ml m cI (s_pe S, s_th S, s_da S, s_dr S, upd (upd (s_kn S) i ((s_kn S) i)) j ((upd (s_kn S) i ((s_kn S) i)) j), s_sh S, s_an S, s_ki S, s_we S, s_dp S, s_wa S, s_le S) (m_kpa M8.1 64 S)) rfl (ws' := [ml m cI (s_pe S, s_th S, s_da S, s_dr S, upd (upd (s_kn S) i ((s_kn S) i)) j ((upd (s_kn S) i ((s_kn S) i)) j), s_sh S, s_an S, s_ki S, s_we S, s_dp S, s_wa S, s_le S) (m_kpa M8.1 64 S)]) rfl ?_
        refine G.cg (ws' := [ml m cI (w_s2 S i j false false) (m_kpa M8.1 64 S)]) (by first | rfl | (simp only [upd_id]; rfl)) rfl rfl ?_
        refine G.al X dX7_findGets_61 1 rfl ?_
        refine G.il X dX7_findGets_62 4 rfl ?_
        refine G.cvi X kX7_wetDays lX7_238 dX7_findGets_63 (tX7_wetDays l D cI cW m (w_s2 S i j false false) (m_kpa M8.1 64 S) n (ok_s2 hS i j false false) (M8.2.1.co hco) hn) ⟨Nat.le_of_ble_eq_true rfl, Nat.le_of_ble_eq_true rfl⟩ ⟨Nat.zero_le _, Nat.zero_le _⟩ [0] rfl ⟨rfl, rfl⟩ rfl rfl 0 0 rfl rfl rfl rfl (Nat.le_of_ble_eq_true rfl) (ff_cons (ml_fst _ _ _ _ _ _) (ff_nil)) (ws' := [ml m cI (w_s2 S i j false false) (m_wd (m_kpa M8.1 64 S) (w_s2 S i j false false) n)]) rfl ?_
        refine G.is X dX7_findGets_66 (by decide) (lv' := [(5, .int (nI (w_wet (w_s2 S i j false false) n))), (4, .int 0), (0, .ref (m 0)), (1, .int (nI i)), (2, .int (nI j)), (3, .int (nI n))]) rfl ?_
        refine G.al X dX7_findGets_68 2 rfl ?_
        refine G.il X dX7_findGets_69 5 rfl ?_
        refine G.cvv X kX7_goes lX7_116 dX7_findGets_70 (tX7_goes l D cI cW m (w_s2 S i j false false) (m_wd (m_kpa M8.1 64 S) (w_s2 S i j false false) n) n (ok_s2 hS i j false false) (M8.2.1.co hco) hn) ⟨Nat.le_of_ble_eq_true rfl, Nat.le_of_ble_eq_true rfl⟩ ⟨Nat.zero_le _, Nat.zero_le _⟩ [0] rfl ⟨rfl, rfl⟩ rfl rfl 0 0 rfl rfl rfl rfl (Nat.le_of_ble_eq_true rfl) (ff_cons (ml_fst _ _ _ _ _ _) (ff_nil)) (ws' := [ml m cI (w_dayN (w_s2 S i j false false) n) (m_wd (m_kpa M8.1 64 S) (w_s2 S i j false false) n)]) rfl ?_
        obtain ⟨X9, hX9⟩ : ∃ X9, (m_wd (m_kpa M8.1 64 S) (w_s2 S i j false false) n) = X9 := ⟨_, rfl⟩
        have qX9 : Mq 64 M X9 := by rw [← hX9]; exact (((M8.2.1).tr (mq_kpa M8.1 64 S) (by decide)).tr (mq_wd (m_kpa M8.1 64 S) (w_s2 S i j false false) n) (by decide))
        have gX9 : m_ge X9 = m_gf (m_ge M) S i j n 0 := by rw [← hX9]; exact (ge_wd _ _ _ _).trans M8.2.2
        rw [hX9]
        refine G.al X dX7_findGets_73 2 rfl ?_
        refine G.get X fX7_52 dX7_findGets_74 0 0 rfl rfl rfl ?_
        refine G.pu X dX7_findGets_77 ?_
        refine G.il X dX7_findGets_78 1 rfl ?_
        refine G.imul X dX7_findGets_80 ?_
        refine G.top (b := 0) (by decide) ?_
        refine G.al X dX7_findGets_81 2 rfl ?_
        refine G.il X dX7_findGets_82 3 rfl ?_
        refine G.il X dX7_findGets_83 0 rfl ?_
        refine G.il X dX7_findGets_85 1 rfl ?_
        refine G.pu X dX7_findGets_87 ?_
        refine G.idiv X dX7_findGets_88 (by decide) ?_
        refine G.top (b := 0) (by decide) ?_
        refine G.cvi X kX7_getsOf lX7_264 dX7_findGets_89 (tX7_getsOf_0 l D cI cW m (w_dayN (w_s2 S i j false false) n) X9 i (nI (w_wet (w_s2 S i j false false) n)) (ok_dayN (ok_s2 hS i j false false) n).th) ⟨Nat.le_of_ble_eq_true rfl, Nat.le_of_ble_eq_true rfl⟩ ⟨Nat.zero_le _, Nat.zero_le _⟩ [0] rfl ⟨rfl, rfl⟩ rfl rfl 0 0 rfl rfl rfl rfl (Nat.le_of_ble_eq_true rfl) (ff_cons (ml_fst _ _ _ _ _ _) (ff_nil)) (ws' := [ml m cI (w_dayN (w_s2 S i j false false) n) X9]) rfl ?_
        obtain ⟨A9, hA9⟩ : ∃ A9 : Int32, ((nI (w_wet (w_s2 S i j false false) n)) - w_bur (w_dayN (w_s2 S i j false false) n) i false) = A9 := ⟨_, rfl⟩
        rw [hA9]
        refine G.nst X (i := 0) dX7_findGets_92 0 15 rfl rfl (by omega) (by decide) (blk' := ml m cI (w_dayN (w_s2 S i j false false) n) (m_rf X9, m_co X9, m_tx X9, m_lt X9, m_la X9, m_to X9, m_tn X9, m_at X9, m_st X9, m_kp X9, m_hi X9, m_kg X9, m_cu X9, m_lr X9, upd (m_ge X9) 0 A9, m_rw X9, m_rn X9)) rfl (ws' := [ml m cI (w_dayN (w_s2 S i j false false) n) (m_rf X9, m_co X9, m_tx X9, m_lt X9, m_la X9, m_to X9, m_tn X9, m_at X9, m_st X9, m_kp X9, m_hi X9, m_kg X9, m_cu X9, m_lr X9, upd (m_ge X9) 0 A9, m_rw X9, m_rn X9)]) rfl ?_
        refine G.cg (ws' := [ml m cI (w_dayN (w_s2 S i j false false) n) (m_ges X9 (upd (m_ge X9) 0 A9))]) rfl rfl rfl ?_
        obtain ⟨X8, hX8⟩ : ∃ X8, m_ges X9 (upd (m_ge X9) 0 A9) = X8 := ⟨_, rfl⟩
        have qX8 : Mq 64 M X8 := by rw [← hX8]; exact (qX9.tr (mq_ges 64 X9 (upd (m_ge X9) 0 A9)) (Nat.le_refl _))
        have gX8 : m_ge X8 = upd (m_ge X9) 0 A9 := by rw [← hX8]; rfl
        have kX8 : m_kp X8 = m_kp X9 := by rw [← hX8]; rfl
        rw [hX8]
        refine G.al X dX7_findGets_93 2 rfl ?_
        refine G.get X fX7_52 dX7_findGets_94 0 0 rfl rfl rfl ?_
        refine G.pu X dX7_findGets_97 ?_
        refine G.il X dX7_findGets_98 1 rfl ?_
        refine G.imul X dX7_findGets_100 ?_
        refine G.top (b := 0) (by decide) ?_
        refine G.pu X dX7_findGets_101 ?_
        refine G.iadd X dX7_findGets_102 ?_
        refine G.top (b := 1) (by decide) ?_
        refine G.al X dX7_findGets_103 2 rfl ?_
        refine G.il X dX7_findGets_104 4 rfl ?_
        refine G.il X dX7_findGets_105 0 rfl ?_
        refine G.il X dX7_findGets_107 1 rfl ?_
        refine G.pu X dX7_findGets_109 ?_
        refine G.irem X dX7_findGets_110 (by decide) ?_
        refine G.top (b := 0) (by decide) ?_
        refine G.cvi X kX7_getsOf lX7_264 dX7_findGets_111 (tX7_getsOf_0 l D cI cW m (w_dayN (w_s2 S i j false false) n) X8 j (nI (w_wet (w_s2 S i j false false) n)) (ok_dayN (ok_s2 hS i j false false) n).th) ⟨Nat.le_of_ble_eq_true rfl, Nat.le_of_ble_eq_true rfl⟩ ⟨Nat.zero_le _, Nat.zero_le _⟩ [0] rfl ⟨rfl, rfl⟩ rfl rfl 0 0 rfl rfl rfl rfl (Nat.le_of_ble_eq_true rfl) (ff_cons (ml_fst _ _ _ _ _ _) (ff_nil)) (ws' := [ml m cI (w_dayN (w_s2 S i j false false) n) X8]) rfl ?_
        obtain ⟨B9, hB9⟩ : ∃ B9 : Int32, ((nI (w_wet (w_s2 S i j false false) n)) - w_bur (w_dayN (w_s2 S i j false false) n) j false) = B9 := ⟨_, rfl⟩
        rw [hB9]
        refine G.nst X (i := 1) dX7_findGets_114 0 15 rfl rfl (by omega) (by decide) (blk' := ml m cI (w_dayN (w_s2 S i j false false) n) (m_rf X8, m_co X8, m_tx X8, m_lt X8, m_la X8, m_to X8, m_tn X8, m_at X8, m_st X8, m_kp X8, m_hi X8, m_kg X8, m_cu X8, m_lr X8, upd (m_ge X8) 1 B9, m_rw X8, m_rn X8)) rfl (ws' := [ml m cI (w_dayN (w_s2 S i j false false) n) (m_rf X8, m_co X8, m_tx X8, m_lt X8, m_la X8, m_to X8, m_tn X8, m_at X8, m_st X8, m_kp X8, m_hi X8, m_kg X8, m_cu X8, m_lr X8, upd (m_ge X8) 1 B9, m_rw X8, m_rn X8)]) rfl ?_
        refine G.cg (ws' := [ml m cI (w_dayN (w_s2 S i j false false) n) (m_ges X8 (upd (m_ge X8) 1 B9))]) rfl rfl rfl ?_
        refine G.al X dX7_findGets_115 2 rfl ?_
        refine G.cvv X kX7_changesBack lX7_253 dX7_findGets_116 (tX7_changesBack l D cI cW m (w_dayN (w_s2 S i j false false) n) (m_ges X8 (upd (m_ge X8) 1 B9)) S (by rw [kp_ges, kX8, ← hX9]; exact (mq_wd _ _ _).kpof (Nat.le_refl _))) ⟨Nat.le_of_ble_eq_true rfl, Nat.le_of_ble_eq_true rfl⟩ ⟨Nat.zero_le _, Nat.zero_le _⟩ [0] rfl ⟨rfl, rfl⟩ rfl rfl 0 0 rfl rfl rfl rfl (Nat.le_of_ble_eq_true rfl) (ff_cons (ml_fst _ _ _ _ _ _) (ff_nil)) (ws' := [ml m cI S (m_set (m_ges X8 (upd (m_ge X8) 1 B9)) 128 false)]) rfl ?_
        refine G.iinc X dX7_findGets_119 1 rfl (v' := 1) (by decide) (by decide) (lv' := [(4, .int 1), (5, .int (nI (w_wet (w_s2 S i j false false) n))), (0, .ref (m 0)), (1, .int (nI i)), (2, .int (nI j)), (3, .int (nI n))]) rfl ?_
        refine G.go X dX7_findGets_122 ?_
        replace ih3 := ih3 (qk3 (v := m_gf (m_ge M) S i j n (0 + 1)) ((qX8.tr (mq_ges 64 X8 (upd (m_ge X8) 1 B9)) (Nat.le_refl _)).tr (mq_set 64 (m_ges X8 (upd (m_ge X8) 1 B9)) 128 false) (Nat.le_refl _)) ((ge_sg _ _ _ _).trans ((congrArg (fun F => upd F 1 B9) gX8).trans (gf_c 0 (by decide) (by decide) gX9 (hA9.symm.trans (ga_k S i j n 0 (by decide) (by decide))) (hB9.symm.trans (gb_k S i j n 0 (by decide) (by decide)))))))
        refine G.lvsub [0, 2, 3, 4, 5] (lv' := [(4, .int 1), (0, .ref (m 0)), (1, .int (nI i)), (2, .int (nI j)), (3, .int (nI n))]) rfl ?_
        exact ih3
      · refine G.il X dX7_findGets_3 0 rfl ?_
        refine G.pu X dX7_findGets_5 ?_
        refine G.c_ge X (a := 1) (b := 4) dX7_findGets_6 (fun b6 => absurd b6 (by decide)) (fun b6 => ?_)
        refine G.al X dX7_findGets_9 1 rfl ?_
        refine G.cvv X kX7_changes lX7_250 dX7_findGets_10 (tX7_changes l D cI cW m S M8.1) ⟨Nat.le_of_ble_eq_true rfl, Nat.le_of_ble_eq_true rfl⟩ ⟨Nat.zero_le _, Nat.zero_le _⟩ [0] rfl ⟨rfl, rfl⟩ rfl rfl 0 0 rfl rfl rfl rfl (Nat.le_of_ble_eq_true rfl) (ff_cons (ml_fst _ _ _ _ _ _) (ff_nil)) (ws' := [ml m cI S (m_kpa M8.1 64 S)]) rfl ?_
        refine G.al X dX7_findGets_13 1 rfl ?_
        refine G.get X fX7_13 dX7_findGets_14 0 0 rfl rfl rfl ?_
        refine G.il X dX7_findGets_17 2 rfl ?_
        refine G.il X dX7_findGets_18 0 rfl ?_
        refine G.pu X dX7_findGets_20 ?_
        refine G.idiv X dX7_findGets_21 (by decide) ?_
        refine G.top (b := 0) (by decide) ?_
        refine G.pu X dX7_findGets_22 ?_
        refine G.c_ne X (a := 0) (b := 1) dX7_findGets_23 (fun b23 => ?_) (fun b23 => absurd b23 (by decide))
        refine G.al X dX7_findGets_30 1 rfl ?_
        refine G.get X fX7_13 dX7_findGets_31 0 0 rfl rfl rfl ?_
        refine G.il X dX7_findGets_34 2 rfl ?_
        refine G.nld X (i := i) dX7_findGets_35 0 2 rfl rfl (by omega) (by decide) ?_
        refine G.nst X (i := i) dX7_findGets_36 0 2 rfl rfl (by omega) (by decide) (blk' := ml m cI (s_pe S, s_th S, s_da S, s_dr S, upd (s_kn S) i ((s_kn S) i), s_sh S, s_an S, s_ki S, s_we S, s_dp S, s_wa S, s_le S) (m_kpa M8.1 64 S)) rfl (ws' := [ml m cI (s_pe S, s_th S, s_da S, s_dr S, upd (s_kn S) i ((s_kn S) i), s_sh S, s_an S, s_ki S, s_we S, s_dp S, s_wa S, s_le S) (m_kpa M8.1 64 S)]) rfl ?_
        refine G.al X dX7_findGets_37 1 rfl ?_
        refine G.get X fX7_13 dX7_findGets_38 0 0 rfl rfl rfl ?_
        refine G.il X dX7_findGets_41 3 rfl ?_
        refine G.il X dX7_findGets_42 0 rfl ?_
        refine G.pu X dX7_findGets_44 ?_
        refine G.irem X dX7_findGets_45 (by decide) ?_
        refine G.top (b := 1) (by decide) ?_
        refine G.pu X dX7_findGets_46 ?_
        refine G.c_ne X (a := 1) (b := 1) dX7_findGets_47 (fun b47 => absurd b47 (by decide)) (fun b47 => ?_)
        refine G.pu X dX7_findGets_50 ?_
        refine G.go X dX7_findGets_51 ?_
        refine G.nst X (i := j) dX7_findGets_60 0 2 rfl rfl (by omega) (by decide) (blk' := ml m cI (s_pe S, s_th S, s_da S, s_dr S, upd (upd (s_kn S) i ((s_kn S) i)) j 0, s_sh S, s_an S, s_ki S, s_we S, s_dp S, s_wa S, s_le S) (m_kpa M8.1 64 S)) rfl (ws' := [ml m cI (s_pe S, s_th S, s_da S, s_dr S, upd (upd (s_kn S) i ((s_kn S) i)) j 0, s_sh S, s_an S, s_ki S, s_we S, s_dp S, s_wa S, s_le S) (m_kpa M8.1 64 S)]) rfl ?_
        refine G.cg (ws' := [ml m cI (w_s2 S i j false true) (m_kpa M8.1 64 S)]) (by first | rfl | (simp only [upd_id]; rfl)) rfl rfl ?_
        refine G.al X dX7_findGets_61 1 rfl ?_
        refine G.il X dX7_findGets_62 4 rfl ?_
        refine G.cvi X kX7_wetDays lX7_238 dX7_findGets_63 (tX7_wetDays l D cI cW m (w_s2 S i j false true) (m_kpa M8.1 64 S) n (ok_s2 hS i j false true) (M8.2.1.co hco) hn) ⟨Nat.le_of_ble_eq_true rfl, Nat.le_of_ble_eq_true rfl⟩ ⟨Nat.zero_le _, Nat.zero_le _⟩ [0] rfl ⟨rfl, rfl⟩ rfl rfl 0 0 rfl rfl rfl rfl (Nat.le_of_ble_eq_true rfl) (ff_cons (ml_fst _ _ _ _ _ _) (ff_nil)) (ws' := [ml m cI (w_s2 S i j false true) (m_wd (m_kpa M8.1 64 S) (w_s2 S i j false true) n)]) rfl ?_
        refine G.is X dX7_findGets_66 (by decide) (lv' := [(5, .int (nI (w_wet (w_s2 S i j false true) n))), (4, .int 1), (0, .ref (m 0)), (1, .int (nI i)), (2, .int (nI j)), (3, .int (nI n))]) rfl ?_
        refine G.al X dX7_findGets_68 2 rfl ?_
        refine G.il X dX7_findGets_69 5 rfl ?_
        refine G.cvv X kX7_goes lX7_116 dX7_findGets_70 (tX7_goes l D cI cW m (w_s2 S i j false true) (m_wd (m_kpa M8.1 64 S) (w_s2 S i j false true) n) n (ok_s2 hS i j false true) (M8.2.1.co hco) hn) ⟨Nat.le_of_ble_eq_true rfl, Nat.le_of_ble_eq_true rfl⟩ ⟨Nat.zero_le _, Nat.zero_le _⟩ [0] rfl ⟨rfl, rfl⟩ rfl rfl 0 0 rfl rfl rfl rfl (Nat.le_of_ble_eq_true rfl) (ff_cons (ml_fst _ _ _ _ _ _) (ff_nil)) (ws' := [ml m cI (w_dayN (w_s2 S i j false true) n) (m_wd (m_kpa M8.1 64 S) (w_s2 S i j false true) n)]) rfl ?_
        obtain ⟨X9, hX9⟩ : ∃ X9, (m_wd (m_kpa M8.1 64 S) (w_s2 S i j false true) n) = X9 := ⟨_, rfl⟩
        have qX9 : Mq 64 M X9 := by rw [← hX9]; exact (((M8.2.1).tr (mq_kpa M8.1 64 S) (by decide)).tr (mq_wd (m_kpa M8.1 64 S) (w_s2 S i j false true) n) (by decide))
        have gX9 : m_ge X9 = m_gf (m_ge M) S i j n 1 := by rw [← hX9]; exact (ge_wd _ _ _ _).trans M8.2.2
        rw [hX9]
        refine G.al X dX7_findGets_73 2 rfl ?_
        refine G.get X fX7_52 dX7_findGets_74 0 0 rfl rfl rfl ?_
        refine G.pu X dX7_findGets_77 ?_
        refine G.il X dX7_findGets_78 1 rfl ?_
        refine G.imul X dX7_findGets_80 ?_
        refine G.top (b := 2) (by decide) ?_
        refine G.al X dX7_findGets_81 2 rfl ?_
        refine G.il X dX7_findGets_82 3 rfl ?_
        refine G.il X dX7_findGets_83 0 rfl ?_
        refine G.il X dX7_findGets_85 1 rfl ?_
        refine G.pu X dX7_findGets_87 ?_
        refine G.idiv X dX7_findGets_88 (by decide) ?_
        refine G.top (b := 0) (by decide) ?_
        refine G.cvi X kX7_getsOf lX7_264 dX7_findGets_89 (tX7_getsOf_0 l D cI cW m (w_dayN (w_s2 S i j false true) n) X9 i (nI (w_wet (w_s2 S i j false true) n)) (ok_dayN (ok_s2 hS i j false true) n).th) ⟨Nat.le_of_ble_eq_true rfl, Nat.le_of_ble_eq_true rfl⟩ ⟨Nat.zero_le _, Nat.zero_le _⟩ [0] rfl ⟨rfl, rfl⟩ rfl rfl 0 0 rfl rfl rfl rfl (Nat.le_of_ble_eq_true rfl) (ff_cons (ml_fst _ _ _ _ _ _) (ff_nil)) (ws' := [ml m cI (w_dayN (w_s2 S i j false true) n) X9]) rfl ?_
        obtain ⟨A9, hA9⟩ : ∃ A9 : Int32, ((nI (w_wet (w_s2 S i j false true) n)) - w_bur (w_dayN (w_s2 S i j false true) n) i false) = A9 := ⟨_, rfl⟩
        rw [hA9]
        refine G.nst X (i := 2) dX7_findGets_92 0 15 rfl rfl (by omega) (by decide) (blk' := ml m cI (w_dayN (w_s2 S i j false true) n) (m_rf X9, m_co X9, m_tx X9, m_lt X9, m_la X9, m_to X9, m_tn X9, m_at X9, m_st X9, m_kp X9, m_hi X9, m_kg X9, m_cu X9, m_lr X9, upd (m_ge X9) 2 A9, m_rw X9, m_rn X9)) rfl (ws' := [ml m cI (w_dayN (w_s2 S i j false true) n) (m_rf X9, m_co X9, m_tx X9, m_lt X9, m_la X9, m_to X9, m_tn X9, m_at X9, m_st X9, m_kp X9, m_hi X9, m_kg X9, m_cu X9, m_lr X9, upd (m_ge X9) 2 A9, m_rw X9, m_rn X9)]) rfl ?_
        refine G.cg (ws' := [ml m cI (w_dayN (w_s2 S i j false true) n) (m_ges X9 (upd (m_ge X9) 2 A9))]) rfl rfl rfl ?_
        obtain ⟨X8, hX8⟩ : ∃ X8, m_ges X9 (upd (m_ge X9) 2 A9) = X8 := ⟨_, rfl⟩
        have qX8 : Mq 64 M X8 := by rw [← hX8]; exact (qX9.tr (mq_ges 64 X9 (upd (m_ge X9) 2 A9)) (Nat.le_refl _))
        have gX8 : m_ge X8 = upd (m_ge X9) 2 A9 := by rw [← hX8]; rfl
        have kX8 : m_kp X8 = m_kp X9 := by rw [← hX8]; rfl
        rw [hX8]
        refine G.al X dX7_findGets_93 2 rfl ?_
        refine G.get X fX7_52 dX7_findGets_94 0 0 rfl rfl rfl ?_
        refine G.pu X dX7_findGets_97 ?_
        refine G.il X dX7_findGets_98 1 rfl ?_
        refine G.imul X dX7_findGets_100 ?_
        refine G.top (b := 2) (by decide) ?_
        refine G.pu X dX7_findGets_101 ?_
        refine G.iadd X dX7_findGets_102 ?_
        refine G.top (b := 3) (by decide) ?_
        refine G.al X dX7_findGets_103 2 rfl ?_
        refine G.il X dX7_findGets_104 4 rfl ?_
        refine G.il X dX7_findGets_105 0 rfl ?_
        refine G.il X dX7_findGets_107 1 rfl ?_
        refine G.pu X dX7_findGets_109 ?_
        refine G.irem X dX7_findGets_110 (by decide) ?_
        refine G.top (b := 1) (by decide) ?_
        refine G.cvi X kX7_getsOf lX7_264 dX7_findGets_111 (tX7_getsOf_1 l D cI cW m (w_dayN (w_s2 S i j false true) n) X8 j (nI (w_wet (w_s2 S i j false true) n)) (ok_dayN (ok_s2 hS i j false true) n).th) ⟨Nat.le_of_ble_eq_true rfl, Nat.le_of_ble_eq_true rfl⟩ ⟨Nat.zero_le _, Nat.zero_le _⟩ [0] rfl ⟨rfl, rfl⟩ rfl rfl 0 0 rfl rfl rfl rfl (Nat.le_of_ble_eq_true rfl) (ff_cons (ml_fst _ _ _ _ _ _) (ff_nil)) (ws' := [ml m cI (w_dayN (w_s2 S i j false true) n) X8]) rfl ?_
        obtain ⟨B9, hB9⟩ : ∃ B9 : Int32, ((nI (w_wet (w_s2 S i j false true) n)) - w_bur (w_dayN (w_s2 S i j false true) n) j true) = B9 := ⟨_, rfl⟩
        rw [hB9]
        refine G.nst X (i := 3) dX7_findGets_114 0 15 rfl rfl (by omega) (by decide) (blk' := ml m cI (w_dayN (w_s2 S i j false true) n) (m_rf X8, m_co X8, m_tx X8, m_lt X8, m_la X8, m_to X8, m_tn X8, m_at X8, m_st X8, m_kp X8, m_hi X8, m_kg X8, m_cu X8, m_lr X8, upd (m_ge X8) 3 B9, m_rw X8, m_rn X8)) rfl (ws' := [ml m cI (w_dayN (w_s2 S i j false true) n) (m_rf X8, m_co X8, m_tx X8, m_lt X8, m_la X8, m_to X8, m_tn X8, m_at X8, m_st X8, m_kp X8, m_hi X8, m_kg X8, m_cu X8, m_lr X8, upd (m_ge X8) 3 B9, m_rw X8, m_rn X8)]) rfl ?_
        refine G.cg (ws' := [ml m cI (w_dayN (w_s2 S i j false true) n) (m_ges X8 (upd (m_ge X8) 3 B9))]) rfl rfl rfl ?_
        refine G.al X dX7_findGets_115 2 rfl ?_
        refine G.cvv X kX7_changesBack lX7_253 dX7_findGets_116 (tX7_changesBack l D cI cW m (w_dayN (w_s2 S i j false true) n) (m_ges X8 (upd (m_ge X8) 3 B9)) S (by rw [kp_ges, kX8, ← hX9]; exact (mq_wd _ _ _).kpof (Nat.le_refl _))) ⟨Nat.le_of_ble_eq_true rfl, Nat.le_of_ble_eq_true rfl⟩ ⟨Nat.zero_le _, Nat.zero_le _⟩ [0] rfl ⟨rfl, rfl⟩ rfl rfl 0 0 rfl rfl rfl rfl (Nat.le_of_ble_eq_true rfl) (ff_cons (ml_fst _ _ _ _ _ _) (ff_nil)) (ws' := [ml m cI S (m_set (m_ges X8 (upd (m_ge X8) 3 B9)) 128 false)]) rfl ?_
        refine G.iinc X dX7_findGets_119 1 rfl (v' := 2) (by decide) (by decide) (lv' := [(4, .int 2), (5, .int (nI (w_wet (w_s2 S i j false true) n))), (0, .ref (m 0)), (1, .int (nI i)), (2, .int (nI j)), (3, .int (nI n))]) rfl ?_
        refine G.go X dX7_findGets_122 ?_
        replace ih3 := ih3 (qk3 (v := m_gf (m_ge M) S i j n (1 + 1)) ((qX8.tr (mq_ges 64 X8 (upd (m_ge X8) 3 B9)) (Nat.le_refl _)).tr (mq_set 64 (m_ges X8 (upd (m_ge X8) 3 B9)) 128 false) (Nat.le_refl _)) ((ge_sg _ _ _ _).trans ((congrArg (fun F => upd F 3 B9) gX8).trans (gf_c 1 (by decide) (by decide) gX9 (hA9.symm.trans (ga_k S i j n 1 (by decide) (by decide))) (hB9.symm.trans (gb_k S i j n 1 (by decide) (by decide)))))))
        refine G.lvsub [0, 2, 3, 4, 5] (lv' := [(4, .int 2), (0, .ref (m 0)), (1, .int (nI i)), (2, .int (nI j)), (3, .int (nI n))]) rfl ?_
        exact ih3
      · refine G.il X dX7_findGets_3 0 rfl ?_
        refine G.pu X dX7_findGets_5 ?_
        refine G.c_ge X (a := 2) (b := 4) dX7_findGets_6 (fun b6 => absurd b6 (by decide)) (fun b6 => ?_)
        refine G.al X dX7_findGets_9 1 rfl ?_
        refine G.cvv X kX7_changes lX7_250 dX7_findGets_10 (tX7_changes l D cI cW m S M8.1) ⟨Nat.le_of_ble_eq_true rfl, Nat.le_of_ble_eq_true rfl⟩ ⟨Nat.zero_le _, Nat.zero_le _⟩ [0] rfl ⟨rfl, rfl⟩ rfl rfl 0 0 rfl rfl rfl rfl (Nat.le_of_ble_eq_true rfl) (ff_cons (ml_fst _ _ _ _ _ _) (ff_nil)) (ws' := [ml m cI S (m_kpa M8.1 64 S)]) rfl ?_
        refine G.al X dX7_findGets_13 1 rfl ?_
        refine G.get X fX7_13 dX7_findGets_14 0 0 rfl rfl rfl ?_
        refine G.il X dX7_findGets_17 2 rfl ?_
        refine G.il X dX7_findGets_18 0 rfl ?_
        refine G.pu X dX7_findGets_20 ?_
        refine G.idiv X dX7_findGets_21 (by decide) ?_
        refine G.top (b := 1) (by decide) ?_
        refine G.pu X dX7_findGets_22 ?_
        refine G.c_ne X (a := 1) (b := 1) dX7_findGets_23 (fun b23 => absurd b23 (by decide)) (fun b23 => ?_)
        refine G.pu X dX7_findGets_26 ?_
        refine G.go X dX7_findGets_27 ?_
        refine G.nst X (i := i) dX7_findGets_36 0 2 rfl rfl (by omega) (by decide) (blk' := ml m cI (s_pe S, s_th S, s_da S, s_dr S, upd (s_kn S) i 0, s_sh S, s_an S, s_ki S, s_we S, s_dp S, s_wa S, s_le S) (m_kpa M8.1 64 S)) rfl (ws' := [ml m cI (s_pe S, s_th S, s_da S, s_dr S, upd (s_kn S) i 0, s_sh S, s_an S, s_ki S, s_we S, s_dp S, s_wa S, s_le S) (m_kpa M8.1 64 S)]) rfl ?_
        refine G.al X dX7_findGets_37 1 rfl ?_
        refine G.get X fX7_13 dX7_findGets_38 0 0 rfl rfl rfl ?_
        refine G.il X dX7_findGets_41 3 rfl ?_
        refine G.il X dX7_findGets_42 0 rfl ?_
        refine G.pu X dX7_findGets_44 ?_
        refine G.irem X dX7_findGets_45 (by decide) ?_
        refine G.top (b := 0) (by decide) ?_
        refine G.pu X dX7_findGets_46 ?_
        refine G.c_ne X (a := 0) (b := 1) dX7_findGets_47 (fun b47 => ?_) (fun b47 => absurd b47 (by decide))
        refine G.al X dX7_findGets_54 1 rfl ?_
        refine G.get X fX7_13 dX7_findGets_55 0 0 rfl rfl rfl ?_
        refine G.il X dX7_findGets_58 3 rfl ?_
        refine G.nld X (i := j) dX7_findGets_59 0 2 rfl rfl (by omega) (by decide) ?_
        refine G.nst X (i := j) dX7_findGets_60 0 2 rfl rfl (by omega) (by decide) (blk' := ml m cI (s_pe S, s_th S, s_da S, s_dr S, upd (upd (s_kn S) i 0) j ((upd (s_kn S) i 0) j), s_sh S, s_an S, s_ki S, s_we S, s_dp S, s_wa S, s_le S) (m_kpa M8.1 64 S)) rfl (ws' := [ml m cI (s_pe S, s_th S, s_da S, s_dr S, upd (upd (s_kn S) i 0) j ((upd (s_kn S) i 0) j), s_sh S, s_an S, s_ki S, s_we S, s_dp S, s_wa S, s_le S) (m_kpa M8.1 64 S)]) rfl ?_
        refine G.cg (ws' := [ml m cI (w_s2 S i j true false) (m_kpa M8.1 64 S)]) (by first | rfl | (simp only [upd_id]; rfl)) rfl rfl ?_
        refine G.al X dX7_findGets_61 1 rfl ?_
        refine G.il X dX7_findGets_62 4 rfl ?_
        refine G.cvi X kX7_wetDays lX7_238 dX7_findGets_63 (tX7_wetDays l D cI cW m (w_s2 S i j true false) (m_kpa M8.1 64 S) n (ok_s2 hS i j true false) (M8.2.1.co hco) hn) ⟨Nat.le_of_ble_eq_true rfl, Nat.le_of_ble_eq_true rfl⟩ ⟨Nat.zero_le _, Nat.zero_le _⟩ [0] rfl ⟨rfl, rfl⟩ rfl rfl 0 0 rfl rfl rfl rfl (Nat.le_of_ble_eq_true rfl) (ff_cons (ml_fst _ _ _ _ _ _) (ff_nil)) (ws' := [ml m cI (w_s2 S i j true false) (m_wd (m_kpa M8.1 64 S) (w_s2 S i j true false) n)]) rfl ?_
        refine G.is X dX7_findGets_66 (by decide) (lv' := [(5, .int (nI (w_wet (w_s2 S i j true false) n))), (4, .int 2), (0, .ref (m 0)), (1, .int (nI i)), (2, .int (nI j)), (3, .int (nI n))]) rfl ?_
        refine G.al X dX7_findGets_68 2 rfl ?_
        refine G.il X dX7_findGets_69 5 rfl ?_
        refine G.cvv X kX7_goes lX7_116 dX7_findGets_70 (tX7_goes l D cI cW m (w_s2 S i j true false) (m_wd (m_kpa M8.1 64 S) (w_s2 S i j true false) n) n (ok_s2 hS i j true false) (M8.2.1.co hco) hn) ⟨Nat.le_of_ble_eq_true rfl, Nat.le_of_ble_eq_true rfl⟩ ⟨Nat.zero_le _, Nat.zero_le _⟩ [0] rfl ⟨rfl, rfl⟩ rfl rfl 0 0 rfl rfl rfl rfl (Nat.le_of_ble_eq_true rfl) (ff_cons (ml_fst _ _ _ _ _ _) (ff_nil)) (ws' := [ml m cI (w_dayN (w_s2 S i j true false) n) (m_wd (m_kpa M8.1 64 S) (w_s2 S i j true false) n)]) rfl ?_
        obtain ⟨X9, hX9⟩ : ∃ X9, (m_wd (m_kpa M8.1 64 S) (w_s2 S i j true false) n) = X9 := ⟨_, rfl⟩
        have qX9 : Mq 64 M X9 := by rw [← hX9]; exact (((M8.2.1).tr (mq_kpa M8.1 64 S) (by decide)).tr (mq_wd (m_kpa M8.1 64 S) (w_s2 S i j true false) n) (by decide))
        have gX9 : m_ge X9 = m_gf (m_ge M) S i j n 2 := by rw [← hX9]; exact (ge_wd _ _ _ _).trans M8.2.2
        rw [hX9]
        refine G.al X dX7_findGets_73 2 rfl ?_
        refine G.get X fX7_52 dX7_findGets_74 0 0 rfl rfl rfl ?_
        refine G.pu X dX7_findGets_77 ?_
        refine G.il X dX7_findGets_78 1 rfl ?_
        refine G.imul X dX7_findGets_80 ?_
        refine G.top (b := 4) (by decide) ?_
        refine G.al X dX7_findGets_81 2 rfl ?_
        refine G.il X dX7_findGets_82 3 rfl ?_
        refine G.il X dX7_findGets_83 0 rfl ?_
        refine G.il X dX7_findGets_85 1 rfl ?_
        refine G.pu X dX7_findGets_87 ?_
        refine G.idiv X dX7_findGets_88 (by decide) ?_
        refine G.top (b := 1) (by decide) ?_
        refine G.cvi X kX7_getsOf lX7_264 dX7_findGets_89 (tX7_getsOf_1 l D cI cW m (w_dayN (w_s2 S i j true false) n) X9 i (nI (w_wet (w_s2 S i j true false) n)) (ok_dayN (ok_s2 hS i j true false) n).th) ⟨Nat.le_of_ble_eq_true rfl, Nat.le_of_ble_eq_true rfl⟩ ⟨Nat.zero_le _, Nat.zero_le _⟩ [0] rfl ⟨rfl, rfl⟩ rfl rfl 0 0 rfl rfl rfl rfl (Nat.le_of_ble_eq_true rfl) (ff_cons (ml_fst _ _ _ _ _ _) (ff_nil)) (ws' := [ml m cI (w_dayN (w_s2 S i j true false) n) X9]) rfl ?_
        obtain ⟨A9, hA9⟩ : ∃ A9 : Int32, ((nI (w_wet (w_s2 S i j true false) n)) - w_bur (w_dayN (w_s2 S i j true false) n) i true) = A9 := ⟨_, rfl⟩
        rw [hA9]
        refine G.nst X (i := 4) dX7_findGets_92 0 15 rfl rfl (by omega) (by decide) (blk' := ml m cI (w_dayN (w_s2 S i j true false) n) (m_rf X9, m_co X9, m_tx X9, m_lt X9, m_la X9, m_to X9, m_tn X9, m_at X9, m_st X9, m_kp X9, m_hi X9, m_kg X9, m_cu X9, m_lr X9, upd (m_ge X9) 4 A9, m_rw X9, m_rn X9)) rfl (ws' := [ml m cI (w_dayN (w_s2 S i j true false) n) (m_rf X9, m_co X9, m_tx X9, m_lt X9, m_la X9, m_to X9, m_tn X9, m_at X9, m_st X9, m_kp X9, m_hi X9, m_kg X9, m_cu X9, m_lr X9, upd (m_ge X9) 4 A9, m_rw X9, m_rn X9)]) rfl ?_
        refine G.cg (ws' := [ml m cI (w_dayN (w_s2 S i j true false) n) (m_ges X9 (upd (m_ge X9) 4 A9))]) rfl rfl rfl ?_
        obtain ⟨X8, hX8⟩ : ∃ X8, m_ges X9 (upd (m_ge X9) 4 A9) = X8 := ⟨_, rfl⟩
        have qX8 : Mq 64 M X8 := by rw [← hX8]; exact (qX9.tr (mq_ges 64 X9 (upd (m_ge X9) 4 A9)) (Nat.le_refl _))
        have gX8 : m_ge X8 = upd (m_ge X9) 4 A9 := by rw [← hX8]; rfl
        have kX8 : m_kp X8 = m_kp X9 := by rw [← hX8]; rfl
        rw [hX8]
        refine G.al X dX7_findGets_93 2 rfl ?_
        refine G.get X fX7_52 dX7_findGets_94 0 0 rfl rfl rfl ?_
        refine G.pu X dX7_findGets_97 ?_
        refine G.il X dX7_findGets_98 1 rfl ?_
        refine G.imul X dX7_findGets_100 ?_
        refine G.top (b := 4) (by decide) ?_
        refine G.pu X dX7_findGets_101 ?_
        refine G.iadd X dX7_findGets_102 ?_
        refine G.top (b := 5) (by decide) ?_
        refine G.al X dX7_findGets_103 2 rfl ?_
        refine G.il X dX7_findGets_104 4 rfl ?_
        refine G.il X dX7_findGets_105 0 rfl ?_
        refine G.il X dX7_findGets_107 1 rfl ?_
        refine G.pu X dX7_findGets_109 ?_
        refine G.irem X dX7_findGets_110 (by decide) ?_
        refine G.top (b := 0) (by decide) ?_
        refine G.cvi X kX7_getsOf lX7_264 dX7_findGets_111 (tX7_getsOf_0 l D cI cW m (w_dayN (w_s2 S i j true false) n) X8 j (nI (w_wet (w_s2 S i j true false) n)) (ok_dayN (ok_s2 hS i j true false) n).th) ⟨Nat.le_of_ble_eq_true rfl, Nat.le_of_ble_eq_true rfl⟩ ⟨Nat.zero_le _, Nat.zero_le _⟩ [0] rfl ⟨rfl, rfl⟩ rfl rfl 0 0 rfl rfl rfl rfl (Nat.le_of_ble_eq_true rfl) (ff_cons (ml_fst _ _ _ _ _ _) (ff_nil)) (ws' := [ml m cI (w_dayN (w_s2 S i j true false) n) X8]) rfl ?_
        obtain ⟨B9, hB9⟩ : ∃ B9 : Int32, ((nI (w_wet (w_s2 S i j true false) n)) - w_bur (w_dayN (w_s2 S i j true false) n) j false) = B9 := ⟨_, rfl⟩
        rw [hB9]
        refine G.nst X (i := 5) dX7_findGets_114 0 15 rfl rfl (by omega) (by decide) (blk' := ml m cI (w_dayN (w_s2 S i j true false) n) (m_rf X8, m_co X8, m_tx X8, m_lt X8, m_la X8, m_to X8, m_tn X8, m_at X8, m_st X8, m_kp X8, m_hi X8, m_kg X8, m_cu X8, m_lr X8, upd (m_ge X8) 5 B9, m_rw X8, m_rn X8)) rfl (ws' := [ml m cI (w_dayN (w_s2 S i j true false) n) (m_rf X8, m_co X8, m_tx X8, m_lt X8, m_la X8, m_to X8, m_tn X8, m_at X8, m_st X8, m_kp X8, m_hi X8, m_kg X8, m_cu X8, m_lr X8, upd (m_ge X8) 5 B9, m_rw X8, m_rn X8)]) rfl ?_
        refine G.cg (ws' := [ml m cI (w_dayN (w_s2 S i j true false) n) (m_ges X8 (upd (m_ge X8) 5 B9))]) rfl rfl rfl ?_
        refine G.al X dX7_findGets_115 2 rfl ?_
        refine G.cvv X kX7_changesBack lX7_253 dX7_findGets_116 (tX7_changesBack l D cI cW m (w_dayN (w_s2 S i j true false) n) (m_ges X8 (upd (m_ge X8) 5 B9)) S (by rw [kp_ges, kX8, ← hX9]; exact (mq_wd _ _ _).kpof (Nat.le_refl _))) ⟨Nat.le_of_ble_eq_true rfl, Nat.le_of_ble_eq_true rfl⟩ ⟨Nat.zero_le _, Nat.zero_le _⟩ [0] rfl ⟨rfl, rfl⟩ rfl rfl 0 0 rfl rfl rfl rfl (Nat.le_of_ble_eq_true rfl) (ff_cons (ml_fst _ _ _ _ _ _) (ff_nil)) (ws' := [ml m cI S (m_set (m_ges X8 (upd (m_ge X8) 5 B9)) 128 false)]) rfl ?_
        refine G.iinc X dX7_findGets_119 1 rfl (v' := 3) (by decide) (by decide) (lv' := [(4, .int 3), (5, .int (nI (w_wet (w_s2 S i j true false) n))), (0, .ref (m 0)), (1, .int (nI i)), (2, .int (nI j)), (3, .int (nI n))]) rfl ?_
        refine G.go X dX7_findGets_122 ?_
        replace ih3 := ih3 (qk3 (v := m_gf (m_ge M) S i j n (2 + 1)) ((qX8.tr (mq_ges 64 X8 (upd (m_ge X8) 5 B9)) (Nat.le_refl _)).tr (mq_set 64 (m_ges X8 (upd (m_ge X8) 5 B9)) 128 false) (Nat.le_refl _)) ((ge_sg _ _ _ _).trans ((congrArg (fun F => upd F 5 B9) gX8).trans (gf_c 2 (by decide) (by decide) gX9 (hA9.symm.trans (ga_k S i j n 2 (by decide) (by decide))) (hB9.symm.trans (gb_k S i j n 2 (by decide) (by decide)))))))
        refine G.lvsub [0, 2, 3, 4, 5] (lv' := [(4, .int 3), (0, .ref (m 0)), (1, .int (nI i)), (2, .int (nI j)), (3, .int (nI n))]) rfl ?_
        exact ih3
      · refine G.il X dX7_findGets_3 0 rfl ?_
        refine G.pu X dX7_findGets_5 ?_
        refine G.c_ge X (a := 3) (b := 4) dX7_findGets_6 (fun b6 => absurd b6 (by decide)) (fun b6 => ?_)
        refine G.al X dX7_findGets_9 1 rfl ?_
        refine G.cvv X kX7_changes lX7_250 dX7_findGets_10 (tX7_changes l D cI cW m S M8.1) ⟨Nat.le_of_ble_eq_true rfl, Nat.le_of_ble_eq_true rfl⟩ ⟨Nat.zero_le _, Nat.zero_le _⟩ [0] rfl ⟨rfl, rfl⟩ rfl rfl 0 0 rfl rfl rfl rfl (Nat.le_of_ble_eq_true rfl) (ff_cons (ml_fst _ _ _ _ _ _) (ff_nil)) (ws' := [ml m cI S (m_kpa M8.1 64 S)]) rfl ?_
        refine G.al X dX7_findGets_13 1 rfl ?_
        refine G.get X fX7_13 dX7_findGets_14 0 0 rfl rfl rfl ?_
        refine G.il X dX7_findGets_17 2 rfl ?_
        refine G.il X dX7_findGets_18 0 rfl ?_
        refine G.pu X dX7_findGets_20 ?_
        refine G.idiv X dX7_findGets_21 (by decide) ?_
        refine G.top (b := 1) (by decide) ?_
        refine G.pu X dX7_findGets_22 ?_
        refine G.c_ne X (a := 1) (b := 1) dX7_findGets_23 (fun b23 => absurd b23 (by decide)) (fun b23 => ?_)
        refine G.pu X dX7_findGets_26 ?_
        refine G.go X dX7_findGets_27 ?_
        refine G.nst X (i := i) dX7_findGets_36 0 2 rfl rfl (by omega) (by decide) (blk' := ml m cI (s_pe S, s_th S, s_da S, s_dr S, upd (s_kn S) i 0, s_sh S, s_an S, s_ki S, s_we S, s_dp S, s_wa S, s_le S) (m_kpa M8.1 64 S)) rfl (ws' := [ml m cI (s_pe S, s_th S, s_da S, s_dr S, upd (s_kn S) i 0, s_sh S, s_an S, s_ki S, s_we S, s_dp S, s_wa S, s_le S) (m_kpa M8.1 64 S)]) rfl ?_
        refine G.al X dX7_findGets_37 1 rfl ?_
        refine G.get X fX7_13 dX7_findGets_38 0 0 rfl rfl rfl ?_
        refine G.il X dX7_findGets_41 3 rfl ?_
        refine G.il X dX7_findGets_42 0 rfl ?_
        refine G.pu X dX7_findGets_44 ?_
        refine G.irem X dX7_findGets_45 (by decide) ?_
        refine G.top (b := 1) (by decide) ?_
        refine G.pu X dX7_findGets_46 ?_
        refine G.c_ne X (a := 1) (b := 1) dX7_findGets_47 (fun b47 => absurd b47 (by decide)) (fun b47 => ?_)
        refine G.pu X dX7_findGets_50 ?_
        refine G.go X dX7_findGets_51 ?_
        refine G.nst X (i := j) dX7_findGets_60 0 2 rfl rfl (by omega) (by decide) (blk' := ml m cI (s_pe S, s_th S, s_da S, s_dr S, upd (upd (s_kn S) i 0) j 0, s_sh S, s_an S, s_ki S, s_we S, s_dp S, s_wa S, s_le S) (m_kpa M8.1 64 S)) rfl (ws' := [ml m cI (s_pe S, s_th S, s_da S, s_dr S, upd (upd (s_kn S) i 0) j 0, s_sh S, s_an S, s_ki S, s_we S, s_dp S, s_wa S, s_le S) (m_kpa M8.1 64 S)]) rfl ?_
        refine G.cg (ws' := [ml m cI (w_s2 S i j true true) (m_kpa M8.1 64 S)]) (by first | rfl | (simp only [upd_id]; rfl)) rfl rfl ?_
        refine G.al X dX7_findGets_61 1 rfl ?_
        refine G.il X dX7_findGets_62 4 rfl ?_
        refine G.cvi X kX7_wetDays lX7_238 dX7_findGets_63 (tX7_wetDays l D cI cW m (w_s2 S i j true true) (m_kpa M8.1 64 S) n (ok_s2 hS i j true true) (M8.2.1.co hco) hn) ⟨Nat.le_of_ble_eq_true rfl, Nat.le_of_ble_eq_true rfl⟩ ⟨Nat.zero_le _, Nat.zero_le _⟩ [0] rfl ⟨rfl, rfl⟩ rfl rfl 0 0 rfl rfl rfl rfl (Nat.le_of_ble_eq_true rfl) (ff_cons (ml_fst _ _ _ _ _ _) (ff_nil)) (ws' := [ml m cI (w_s2 S i j true true) (m_wd (m_kpa M8.1 64 S) (w_s2 S i j true true) n)]) rfl ?_
        refine G.is X dX7_findGets_66 (by decide) (lv' := [(5, .int (nI (w_wet (w_s2 S i j true true) n))), (4, .int 3), (0, .ref (m 0)), (1, .int (nI i)), (2, .int (nI j)), (3, .int (nI n))]) rfl ?_
        refine G.al X dX7_findGets_68 2 rfl ?_
        refine G.il X dX7_findGets_69 5 rfl ?_
        refine G.cvv X kX7_goes lX7_116 dX7_findGets_70 (tX7_goes l D cI cW m (w_s2 S i j true true) (m_wd (m_kpa M8.1 64 S) (w_s2 S i j true true) n) n (ok_s2 hS i j true true) (M8.2.1.co hco) hn) ⟨Nat.le_of_ble_eq_true rfl, Nat.le_of_ble_eq_true rfl⟩ ⟨Nat.zero_le _, Nat.zero_le _⟩ [0] rfl ⟨rfl, rfl⟩ rfl rfl 0 0 rfl rfl rfl rfl (Nat.le_of_ble_eq_true rfl) (ff_cons (ml_fst _ _ _ _ _ _) (ff_nil)) (ws' := [ml m cI (w_dayN (w_s2 S i j true true) n) (m_wd (m_kpa M8.1 64 S) (w_s2 S i j true true) n)]) rfl ?_
        obtain ⟨X9, hX9⟩ : ∃ X9, (m_wd (m_kpa M8.1 64 S) (w_s2 S i j true true) n) = X9 := ⟨_, rfl⟩
        have qX9 : Mq 64 M X9 := by rw [← hX9]; exact (((M8.2.1).tr (mq_kpa M8.1 64 S) (by decide)).tr (mq_wd (m_kpa M8.1 64 S) (w_s2 S i j true true) n) (by decide))
        have gX9 : m_ge X9 = m_gf (m_ge M) S i j n 3 := by rw [← hX9]; exact (ge_wd _ _ _ _).trans M8.2.2
        rw [hX9]
        refine G.al X dX7_findGets_73 2 rfl ?_
        refine G.get X fX7_52 dX7_findGets_74 0 0 rfl rfl rfl ?_
        refine G.pu X dX7_findGets_77 ?_
        refine G.il X dX7_findGets_78 1 rfl ?_
        refine G.imul X dX7_findGets_80 ?_
        refine G.top (b := 6) (by decide) ?_
        refine G.al X dX7_findGets_81 2 rfl ?_
        refine G.il X dX7_findGets_82 3 rfl ?_
        refine G.il X dX7_findGets_83 0 rfl ?_
        refine G.il X dX7_findGets_85 1 rfl ?_
        refine G.pu X dX7_findGets_87 ?_
        refine G.idiv X dX7_findGets_88 (by decide) ?_
        refine G.top (b := 1) (by decide) ?_
        refine G.cvi X kX7_getsOf lX7_264 dX7_findGets_89 (tX7_getsOf_1 l D cI cW m (w_dayN (w_s2 S i j true true) n) X9 i (nI (w_wet (w_s2 S i j true true) n)) (ok_dayN (ok_s2 hS i j true true) n).th) ⟨Nat.le_of_ble_eq_true rfl, Nat.le_of_ble_eq_true rfl⟩ ⟨Nat.zero_le _, Nat.zero_le _⟩ [0] rfl ⟨rfl, rfl⟩ rfl rfl 0 0 rfl rfl rfl rfl (Nat.le_of_ble_eq_true rfl) (ff_cons (ml_fst _ _ _ _ _ _) (ff_nil)) (ws' := [ml m cI (w_dayN (w_s2 S i j true true) n) X9]) rfl ?_
        obtain ⟨A9, hA9⟩ : ∃ A9 : Int32, ((nI (w_wet (w_s2 S i j true true) n)) - w_bur (w_dayN (w_s2 S i j true true) n) i true) = A9 := ⟨_, rfl⟩
        rw [hA9]
        refine G.nst X (i := 6) dX7_findGets_92 0 15 rfl rfl (by omega) (by decide) (blk' := ml m cI (w_dayN (w_s2 S i j true true) n) (m_rf X9, m_co X9, m_tx X9, m_lt X9, m_la X9, m_to X9, m_tn X9, m_at X9, m_st X9, m_kp X9, m_hi X9, m_kg X9, m_cu X9, m_lr X9, upd (m_ge X9) 6 A9, m_rw X9, m_rn X9)) rfl (ws' := [ml m cI (w_dayN (w_s2 S i j true true) n) (m_rf X9, m_co X9, m_tx X9, m_lt X9, m_la X9, m_to X9, m_tn X9, m_at X9, m_st X9, m_kp X9, m_hi X9, m_kg X9, m_cu X9, m_lr X9, upd (m_ge X9) 6 A9, m_rw X9, m_rn X9)]) rfl ?_
        refine G.cg (ws' := [ml m cI (w_dayN (w_s2 S i j true true) n) (m_ges X9 (upd (m_ge X9) 6 A9))]) rfl rfl rfl ?_
        obtain ⟨X8, hX8⟩ : ∃ X8, m_ges X9 (upd (m_ge X9) 6 A9) = X8 := ⟨_, rfl⟩
        have qX8 : Mq 64 M X8 := by rw [← hX8]; exact (qX9.tr (mq_ges 64 X9 (upd (m_ge X9) 6 A9)) (Nat.le_refl _))
        have gX8 : m_ge X8 = upd (m_ge X9) 6 A9 := by rw [← hX8]; rfl
        have kX8 : m_kp X8 = m_kp X9 := by rw [← hX8]; rfl
        rw [hX8]
        refine G.al X dX7_findGets_93 2 rfl ?_
        refine G.get X fX7_52 dX7_findGets_94 0 0 rfl rfl rfl ?_
        refine G.pu X dX7_findGets_97 ?_
        refine G.il X dX7_findGets_98 1 rfl ?_
        refine G.imul X dX7_findGets_100 ?_
        refine G.top (b := 6) (by decide) ?_
        refine G.pu X dX7_findGets_101 ?_
        refine G.iadd X dX7_findGets_102 ?_
        refine G.top (b := 7) (by decide) ?_
        refine G.al X dX7_findGets_103 2 rfl ?_
        refine G.il X dX7_findGets_104 4 rfl ?_
        refine G.il X dX7_findGets_105 0 rfl ?_
        refine G.il X dX7_findGets_107 1 rfl ?_
        refine G.pu X dX7_findGets_109 ?_
        refine G.irem X dX7_findGets_110 (by decide) ?_
        refine G.top (b := 1) (by decide) ?_
        refine G.cvi X kX7_getsOf lX7_264 dX7_findGets_111 (tX7_getsOf_1 l D cI cW m (w_dayN (w_s2 S i j true true) n) X8 j (nI (w_wet (w_s2 S i j true true) n)) (ok_dayN (ok_s2 hS i j true true) n).th) ⟨Nat.le_of_ble_eq_true rfl, Nat.le_of_ble_eq_true rfl⟩ ⟨Nat.zero_le _, Nat.zero_le _⟩ [0] rfl ⟨rfl, rfl⟩ rfl rfl 0 0 rfl rfl rfl rfl (Nat.le_of_ble_eq_true rfl) (ff_cons (ml_fst _ _ _ _ _ _) (ff_nil)) (ws' := [ml m cI (w_dayN (w_s2 S i j true true) n) X8]) rfl ?_
        obtain ⟨B9, hB9⟩ : ∃ B9 : Int32, ((nI (w_wet (w_s2 S i j true true) n)) - w_bur (w_dayN (w_s2 S i j true true) n) j true) = B9 := ⟨_, rfl⟩
        rw [hB9]
        refine G.nst X (i := 7) dX7_findGets_114 0 15 rfl rfl (by omega) (by decide) (blk' := ml m cI (w_dayN (w_s2 S i j true true) n) (m_rf X8, m_co X8, m_tx X8, m_lt X8, m_la X8, m_to X8, m_tn X8, m_at X8, m_st X8, m_kp X8, m_hi X8, m_kg X8, m_cu X8, m_lr X8, upd (m_ge X8) 7 B9, m_rw X8, m_rn X8)) rfl (ws' := [ml m cI (w_dayN (w_s2 S i j true true) n) (m_rf X8, m_co X8, m_tx X8, m_lt X8, m_la X8, m_to X8, m_tn X8, m_at X8, m_st X8, m_kp X8, m_hi X8, m_kg X8, m_cu X8, m_lr X8, upd (m_ge X8) 7 B9, m_rw X8, m_rn X8)]) rfl ?_
        refine G.cg (ws' := [ml m cI (w_dayN (w_s2 S i j true true) n) (m_ges X8 (upd (m_ge X8) 7 B9))]) rfl rfl rfl ?_
        refine G.al X dX7_findGets_115 2 rfl ?_
        refine G.cvv X kX7_changesBack lX7_253 dX7_findGets_116 (tX7_changesBack l D cI cW m (w_dayN (w_s2 S i j true true) n) (m_ges X8 (upd (m_ge X8) 7 B9)) S (by rw [kp_ges, kX8, ← hX9]; exact (mq_wd _ _ _).kpof (Nat.le_refl _))) ⟨Nat.le_of_ble_eq_true rfl, Nat.le_of_ble_eq_true rfl⟩ ⟨Nat.zero_le _, Nat.zero_le _⟩ [0] rfl ⟨rfl, rfl⟩ rfl rfl 0 0 rfl rfl rfl rfl (Nat.le_of_ble_eq_true rfl) (ff_cons (ml_fst _ _ _ _ _ _) (ff_nil)) (ws' := [ml m cI S (m_set (m_ges X8 (upd (m_ge X8) 7 B9)) 128 false)]) rfl ?_
        refine G.iinc X dX7_findGets_119 1 rfl (v' := 4) (by decide) (by decide) (lv' := [(4, .int 4), (5, .int (nI (w_wet (w_s2 S i j true true) n))), (0, .ref (m 0)), (1, .int (nI i)), (2, .int (nI j)), (3, .int (nI n))]) rfl ?_
        refine G.go X dX7_findGets_122 ?_
        replace ih3 := ih3 (qk3 (v := m_gf (m_ge M) S i j n (3 + 1)) ((qX8.tr (mq_ges 64 X8 (upd (m_ge X8) 7 B9)) (Nat.le_refl _)).tr (mq_set 64 (m_ges X8 (upd (m_ge X8) 7 B9)) 128 false) (Nat.le_refl _)) ((ge_sg _ _ _ _).trans ((congrArg (fun F => upd F 7 B9) gX8).trans (gf_c 3 (by decide) (by decide) gX9 (hA9.symm.trans (ga_k S i j n 3 (by decide) (by decide))) (hB9.symm.trans (gb_k S i j n 3 (by decide) (by decide)))))))
        refine G.lvsub [0, 2, 3, 4, 5] (lv' := [(4, .int 4), (0, .ref (m 0)), (1, .int (nI i)), (2, .int (nI j)), (3, .int (nI n))]) rfl ?_
        exact ih3
  have L3 := L3 0 (Nat.zero_le _) (qk3 (Mq.rf 64 M) rfl)
  exact L3
