set_option maxRecDepth 20000 in
theorem tX7_wetDays (l : Launch) (D : va_G) (cI cW : ClassId) (m : Nat → Nat) (S : WS) (M : MS) (n : Nat) (hS : Ok S) (hco : m_co M = false) (hn : n < 2 ^ 31) : CT l D cI cW yX7_wetDays cX7_wetDays 5 (some .int) ⟨4, 0, 0, 86⟩ [.ref (m 0), .int (nI n)] ([ml m cI S M]) (PI (nI (w_wet S n)) ([ml m cI S (m_wd M S n)])) := by
  refine CT.of RX7 rfl (by decide +kernel) (Nat.le_of_ble_eq_true rfl) [(0, .ref (m 0)), (1, .int (nI n))] rfl (fun x X Rr hnm => ?_)
  have hth := hS.th
  have hpe := hS.pe
  refine G.al X dX7_wetDays_0 0 rfl ?_
  refine G.cvv X kX7_thinks lX7_211 dX7_wetDays_1 (tX7_thinks l D cI cW m S M) ⟨Nat.le_of_ble_eq_true rfl, Nat.le_of_ble_eq_true rfl⟩ ⟨Nat.zero_le _, Nat.zero_le _⟩ [0] rfl ⟨rfl, rfl⟩ rfl rfl 0 0 rfl rfl rfl rfl (Nat.le_of_ble_eq_true rfl) (ff_cons (ml_fst _ _ _ _ _ _) (ff_nil)) (ws' := [ml m cI S (m_kpa M 128 S)]) rfl ?_
  refine G.pu X dX7_wetDays_4 ?_
  refine G.is X dX7_wetDays_5 (by decide) (lv' := [(2, .int 0), (0, .ref (m 0)), (1, .int (nI n))]) rfl ?_
  refine G.pu X dX7_wetDays_6 ?_
  refine G.is X dX7_wetDays_7 (by decide) (lv' := [(3, .int 0), (2, .int 0), (0, .ref (m 0)), (1, .int (nI n))]) rfl ?_
  refine G.al X dX7_wetDays_8 2 rfl ?_
  refine G.pu X dX7_wetDays_9 ?_
  refine G.puti X fX7_235 fe7 dX7_wetDays_10 rfl rfl 0 0 rfl rfl (Nat.le_of_ble_eq_true rfl) (blk' := ml m cI S (m_rf (m_kpa M 128 S), m_co (m_kpa M 128 S), m_tx (m_kpa M 128 S), m_lt (m_kpa M 128 S), m_la (m_kpa M 128 S), m_to (m_kpa M 128 S), m_tn (m_kpa M 128 S), m_at (m_kpa M 128 S), m_st (m_kpa M 128 S), m_kp (m_kpa M 128 S), m_hi (m_kpa M 128 S), m_kg (m_kpa M 128 S), m_cu (m_kpa M 128 S), 0, m_ge (m_kpa M 128 S), m_rw (m_kpa M 128 S), m_rn (m_kpa M 128 S))) rfl (ws' := [ml m cI S (m_rf (m_kpa M 128 S), m_co (m_kpa M 128 S), m_tx (m_kpa M 128 S), m_lt (m_kpa M 128 S), m_la (m_kpa M 128 S), m_to (m_kpa M 128 S), m_tn (m_kpa M 128 S), m_at (m_kpa M 128 S), m_st (m_kpa M 128 S), m_kp (m_kpa M 128 S), m_hi (m_kpa M 128 S), m_kg (m_kpa M 128 S), m_cu (m_kpa M 128 S), 0, m_ge (m_kpa M 128 S), m_rw (m_kpa M 128 S), m_rn (m_kpa M 128 S))]) rfl ?_
  refine G.cg (ws' := [ml m cI S (m_lrs (m_kpa M 128 S) (0))]) rfl rfl rfl ?_
  refine G.pu X dX7_wetDays_13 ?_
  refine G.is X dX7_wetDays_14 (by decide) (lv' := [(4, .int 0), (3, .int 0), (2, .int 0), (0, .ref (m 0)), (1, .int (nI n))]) rfl ?_
  have L16 : ∀ k, k ≤ n → G x 0 0 ([ml m cI (w_dayN S k) (m_lrs (m_kpa M 128 S) (w_lng S k))]) 16 [(4, .int (nI k)), (3, .int (nI (w_run S k))), (2, .int (nI (w_wet S k))), (0, .ref (m 0)), (1, .int (nI n))] [] := by
    refine loop_dn n _ ?_ ?_
    · refine G.il X dX7_wetDays_16 0 rfl ?_
      refine G.il X dX7_wetDays_18 4 rfl ?_
      refine G.n_ge X (a := n) (b := n) (by omega) (by omega) dX7_wetDays_19 (fun b19 => ?_) (fun b19 => absurd b19 (by omega))
      refine G.al X dX7_wetDays_75 3 rfl ?_
      refine G.cvv X kX7_forgets lX7_214 dX7_wetDays_76 (tX7_forgets l D cI cW m (w_dayN S n) (m_lrs (m_kpa M 128 S) (w_lng S n)) S (kpall_KP _ 128 S)) ⟨Nat.le_of_ble_eq_true rfl, Nat.le_of_ble_eq_true rfl⟩ ⟨Nat.zero_le _, Nat.zero_le _⟩ [0] rfl ⟨rfl, rfl⟩ rfl rfl 0 0 rfl rfl rfl rfl (Nat.le_of_ble_eq_true rfl) (ff_cons (ml_fst _ _ _ _ _ _) (ff_nil)) (ws' := [ml m cI S (m_set (m_lrs (m_kpa M 128 S) (w_lng S n)) 192 false)]) rfl ?_
      refine G.il X dX7_wetDays_79 2 rfl ?_
      exact G.iret X Rr (v := nI (w_wet S n)) dX7_wetDays_80 (pi_mk (by rfl) (by rfl))
    · intro k hk ih16
      have hT : Ok (w_dayN S k) := ok_dayN hS k
      have f1 : s_th (w_dayN S k) = s_th S := (fr_dayN S k).2.1
      refine G.il X dX7_wetDays_16 0 rfl ?_
      refine G.il X dX7_wetDays_18 4 rfl ?_
      refine G.n_ge X (a := k) (b := n) (by omega) (by omega) dX7_wetDays_19 (fun b19 => absurd b19 (by omega)) (fun b19 => ?_)
      refine G.al X dX7_wetDays_22 3 rfl ?_
      refine G.cvv X kX7_goesDay lX7_199 dX7_wetDays_23 (tX7_goesDay l D cI cW m (w_dayN S k) (m_lrs (m_kpa M 128 S) (w_lng S k)) hT hco) ⟨Nat.le_of_ble_eq_true rfl, Nat.le_of_ble_eq_true rfl⟩ ⟨Nat.zero_le _, Nat.zero_le _⟩ [0] rfl ⟨rfl, rfl⟩ rfl rfl 0 0 rfl rfl rfl rfl (Nat.le_of_ble_eq_true rfl) (ff_cons (ml_fst _ _ _ _ _ _) (ff_nil)) (ws' := [ml m cI (w_day true (w_dayN S k)) (m_lrs (m_kpa M 128 S) (w_lng S k))]) rfl ?_
      refine G.al X dX7_wetDays_26 3 rfl ?_
      refine G.cvi X kX7_water lX7_205 dX7_wetDays_27 (tX7_water l D cI cW m (w_day true (w_dayN S k)) (m_lrs (m_kpa M 128 S) (w_lng S k)) (ok_day hT true).th) ⟨Nat.le_of_ble_eq_true rfl, Nat.le_of_ble_eq_true rfl⟩ ⟨Nat.zero_le _, Nat.zero_le _⟩ [0] rfl ⟨rfl, rfl⟩ rfl rfl 0 0 rfl rfl rfl rfl (Nat.le_of_ble_eq_true rfl) (ff_cons (ml_fst _ _ _ _ _ _) (ff_nil)) (ws' := [ml m cI (w_day true (w_dayN S k)) (m_lrs (m_kpa M 128 S) (w_lng S k))]) rfl ?_
      refine G.pu X dX7_wetDays_30 ?_
      refine G.b1_ne X dX7_wetDays_31 (fun b31 => ?_) (fun b31 => ?_)
      · refine G.pu X dX7_wetDays_40 ?_
        refine G.is X dX7_wetDays_41 (by decide) (lv' := [(3, .int 0), (4, .int (nI k)), (2, .int (nI (w_wet S k))), (0, .ref (m 0)), (1, .int (nI n))]) rfl ?_
        refine G.il X dX7_wetDays_42 2 rfl ?_
        refine G.al X dX7_wetDays_43 3 rfl ?_
        refine G.cvi X kX7_water lX7_205 dX7_wetDays_44 (tX7_water l D cI cW m (w_day true (w_dayN S k)) (m_lrs (m_kpa M 128 S) (w_lng S k)) (ok_day hT true).th) ⟨Nat.le_of_ble_eq_true rfl, Nat.le_of_ble_eq_true rfl⟩ ⟨Nat.zero_le _, Nat.zero_le _⟩ [0] rfl ⟨rfl, rfl⟩ rfl rfl 0 0 rfl rfl rfl rfl (Nat.le_of_ble_eq_true rfl) (ff_cons (ml_fst _ _ _ _ _ _) (ff_nil)) (ws' := [ml m cI (w_day true (w_dayN S k)) (m_lrs (m_kpa M 128 S) (w_lng S k))]) rfl ?_
        refine G.iadd X dX7_wetDays_47 ?_
        refine G.is X dX7_wetDays_48 (by decide) (lv' := [(2, .int ((nI (w_wet S k)) + (b2i (w_wat (w_day true (w_dayN S k)))))), (3, .int 0), (4, .int (nI k)), (0, .ref (m 0)), (1, .int (nI n))]) rfl ?_
        refine G.al X dX7_wetDays_49 3 rfl ?_
        refine G.il X dX7_wetDays_50 1 rfl ?_
        refine G.al X dX7_wetDays_51 3 rfl ?_
        refine G.get X fX7_235 dX7_wetDays_52 0 0 rfl rfl rfl ?_
        refine G.top (b := w_lng S k) rfl ?_
        refine G.c_le X (a := 0) (b := (w_lng S k)) dX7_wetDays_55 (fun b55 => ?_) (fun b55 => ?_)
        · refine G.al X dX7_wetDays_62 3 rfl ?_
          refine G.get X fX7_235 dX7_wetDays_63 0 0 rfl rfl rfl ?_
          refine G.top (b := w_lng S k) rfl ?_
          refine G.puti X fX7_235 fe7 dX7_wetDays_66 rfl rfl 0 0 rfl rfl (Nat.le_of_ble_eq_true rfl) (blk' := ml m cI (w_day true (w_dayN S k)) (m_rf (m_lrs (m_kpa M 128 S) (w_lng S k)), m_co (m_lrs (m_kpa M 128 S) (w_lng S k)), m_tx (m_lrs (m_kpa M 128 S) (w_lng S k)), m_lt (m_lrs (m_kpa M 128 S) (w_lng S k)), m_la (m_lrs (m_kpa M 128 S) (w_lng S k)), m_to (m_lrs (m_kpa M 128 S) (w_lng S k)), m_tn (m_lrs (m_kpa M 128 S) (w_lng S k)), m_at (m_lrs (m_kpa M 128 S) (w_lng S k)), m_st (m_lrs (m_kpa M 128 S) (w_lng S k)), m_kp (m_lrs (m_kpa M 128 S) (w_lng S k)), m_hi (m_lrs (m_kpa M 128 S) (w_lng S k)), m_kg (m_lrs (m_kpa M 128 S) (w_lng S k)), m_cu (m_lrs (m_kpa M 128 S) (w_lng S k)), w_lng S k, m_ge (m_lrs (m_kpa M 128 S) (w_lng S k)), m_rw (m_lrs (m_kpa M 128 S) (w_lng S k)), m_rn (m_lrs (m_kpa M 128 S) (w_lng S k)))) rfl (ws' := [ml m cI (w_day true (w_dayN S k)) (m_rf (m_lrs (m_kpa M 128 S) (w_lng S k)), m_co (m_lrs (m_kpa M 128 S) (w_lng S k)), m_tx (m_lrs (m_kpa M 128 S) (w_lng S k)), m_lt (m_lrs (m_kpa M 128 S) (w_lng S k)), m_la (m_lrs (m_kpa M 128 S) (w_lng S k)), m_to (m_lrs (m_kpa M 128 S) (w_lng S k)), m_tn (m_lrs (m_kpa M 128 S) (w_lng S k)), m_at (m_lrs (m_kpa M 128 S) (w_lng S k)), m_st (m_lrs (m_kpa M 128 S) (w_lng S k)), m_kp (m_lrs (m_kpa M 128 S) (w_lng S k)), m_hi (m_lrs (m_kpa M 128 S) (w_lng S k)), m_kg (m_lrs (m_kpa M 128 S) (w_lng S k)), m_cu (m_lrs (m_kpa M 128 S) (w_lng S k)), w_lng S k, m_ge (m_lrs (m_kpa M 128 S) (w_lng S k)), m_rw (m_lrs (m_kpa M 128 S) (w_lng S k)), m_rn (m_lrs (m_kpa M 128 S) (w_lng S k)))]) rfl ?_
          refine G.cg (ws' := [ml m cI (w_day true (w_dayN S k)) (m_lrs (m_kpa M 128 S) (w_lng S k))]) rfl rfl rfl ?_
          refine G.iinc X dX7_wetDays_69 2 rfl (v' := nI (k + 1)) (nI_inc k) (by decide) (lv' := [(4, .int (nI (k + 1))), (2, .int ((nI (w_wet S k)) + (b2i (w_wat (w_day true (w_dayN S k)))))), (3, .int 0), (0, .ref (m 0)), (1, .int (nI n))]) rfl ?_
          refine G.go X dX7_wetDays_72 ?_
          rw [show (nI (w_run S (k + 1))) = 0 from (by simp [-Int32.not_lt, w_run, w_lng, w_dayN, nI0, b19, b31, b55]; try rfl)] at ih16
          rw [show (nI (w_wet S (k + 1))) = ((nI (w_wet S k)) + (b2i (w_wat (w_day true (w_dayN S k))))) from (by exact wet_1 S k)] at ih16
          rw [show (m_lrs (m_kpa M 128 S) (w_lng S (k + 1))) = (m_lrs (m_kpa M 128 S) (w_lng S k)) from (by simp [-Int32.not_lt, w_run, w_lng, w_dayN, nI0, b19, b31, b55]; try rfl)] at ih16
          refine G.lvsub [0, 2, 1, 3, 4] (lv' := [(4, .int (nI (k + 1))), (3, .int 0), (2, .int ((nI (w_wet S k)) + (b2i (w_wat (w_day true (w_dayN S k)))))), (0, .ref (m 0)), (1, .int (nI n))]) rfl ?_
          exact ih16
        · refine G.il X dX7_wetDays_58 1 rfl ?_
          refine G.go X dX7_wetDays_59 ?_
          refine G.puti X fX7_235 fe7 dX7_wetDays_66 rfl rfl 0 0 rfl rfl (Nat.le_of_ble_eq_true rfl) (blk' := ml m cI (w_day true (w_dayN S k)) (m_rf (m_lrs (m_kpa M 128 S) (w_lng S k)), m_co (m_lrs (m_kpa M 128 S) (w_lng S k)), m_tx (m_lrs (m_kpa M 128 S) (w_lng S k)), m_lt (m_lrs (m_kpa M 128 S) (w_lng S k)), m_la (m_lrs (m_kpa M 128 S) (w_lng S k)), m_to (m_lrs (m_kpa M 128 S) (w_lng S k)), m_tn (m_lrs (m_kpa M 128 S) (w_lng S k)), m_at (m_lrs (m_kpa M 128 S) (w_lng S k)), m_st (m_lrs (m_kpa M 128 S) (w_lng S k)), m_kp (m_lrs (m_kpa M 128 S) (w_lng S k)), m_hi (m_lrs (m_kpa M 128 S) (w_lng S k)), m_kg (m_lrs (m_kpa M 128 S) (w_lng S k)), m_cu (m_lrs (m_kpa M 128 S) (w_lng S k)), 0, m_ge (m_lrs (m_kpa M 128 S) (w_lng S k)), m_rw (m_lrs (m_kpa M 128 S) (w_lng S k)), m_rn (m_lrs (m_kpa M 128 S) (w_lng S k)))) rfl (ws' := [ml m cI (w_day true (w_dayN S k)) (m_rf (m_lrs (m_kpa M 128 S) (w_lng S k)), m_co (m_lrs (m_kpa M 128 S) (w_lng S k)), m_tx (m_lrs (m_kpa M 128 S) (w_lng S k)), m_lt (m_lrs (m_kpa M 128 S) (w_lng S k)), m_la (m_lrs (m_kpa M 128 S) (w_lng S k)), m_to (m_lrs (m_kpa M 128 S) (w_lng S k)), m_tn (m_lrs (m_kpa M 128 S) (w_lng S k)), m_at (m_lrs (m_kpa M 128 S) (w_lng S k)), m_st (m_lrs (m_kpa M 128 S) (w_lng S k)), m_kp (m_lrs (m_kpa M 128 S) (w_lng S k)), m_hi (m_lrs (m_kpa M 128 S) (w_lng S k)), m_kg (m_lrs (m_kpa M 128 S) (w_lng S k)), m_cu (m_lrs (m_kpa M 128 S) (w_lng S k)), 0, m_ge (m_lrs (m_kpa M 128 S) (w_lng S k)), m_rw (m_lrs (m_kpa M 128 S) (w_lng S k)), m_rn (m_lrs (m_kpa M 128 S) (w_lng S k)))]) rfl ?_
          refine G.cg (ws' := [ml m cI (w_day true (w_dayN S k)) (m_lrs (m_kpa M 128 S) (0))]) rfl rfl rfl ?_
          refine G.iinc X dX7_wetDays_69 2 rfl (v' := nI (k + 1)) (nI_inc k) (by decide) (lv' := [(4, .int (nI (k + 1))), (2, .int ((nI (w_wet S k)) + (b2i (w_wat (w_day true (w_dayN S k)))))), (3, .int 0), (0, .ref (m 0)), (1, .int (nI n))]) rfl ?_
          refine G.go X dX7_wetDays_72 ?_
          rw [show (nI (w_run S (k + 1))) = 0 from (by simp [-Int32.not_lt, w_run, w_lng, w_dayN, nI0, b19, b31, b55]; try rfl)] at ih16
          rw [show (nI (w_wet S (k + 1))) = ((nI (w_wet S k)) + (b2i (w_wat (w_day true (w_dayN S k))))) from (by exact wet_1 S k)] at ih16
          rw [show (m_lrs (m_kpa M 128 S) (w_lng S (k + 1))) = (m_lrs (m_kpa M 128 S) (0)) from (by simp [-Int32.not_lt, w_run, w_lng, w_dayN, nI0, b19, b31, b55]; try rfl)] at ih16
          refine G.lvsub [0, 2, 1, 3, 4] (lv' := [(4, .int (nI (k + 1))), (3, .int 0), (2, .int ((nI (w_wet S k)) + (b2i (w_wat (w_day true (w_dayN S k)))))), (0, .ref (m 0)), (1, .int (nI n))]) rfl ?_
          exact ih16
      · refine G.il X dX7_wetDays_34 1 rfl ?_
        refine G.pu X dX7_wetDays_35 ?_
        refine G.nadd X (a := w_run S k) (b := 1) dX7_wetDays_36 ?_
        refine G.go X dX7_wetDays_37 ?_
        refine G.is X dX7_wetDays_41 (by decide) (lv' := [(3, .int (nI ((w_run S k) + 1))), (4, .int (nI k)), (2, .int (nI (w_wet S k))), (0, .ref (m 0)), (1, .int (nI n))]) rfl ?_
        refine G.il X dX7_wetDays_42 2 rfl ?_
        refine G.al X dX7_wetDays_43 3 rfl ?_
        refine G.cvi X kX7_water lX7_205 dX7_wetDays_44 (tX7_water l D cI cW m (w_day true (w_dayN S k)) (m_lrs (m_kpa M 128 S) (w_lng S k)) (ok_day hT true).th) ⟨Nat.le_of_ble_eq_true rfl, Nat.le_of_ble_eq_true rfl⟩ ⟨Nat.zero_le _, Nat.zero_le _⟩ [0] rfl ⟨rfl, rfl⟩ rfl rfl 0 0 rfl rfl rfl rfl (Nat.le_of_ble_eq_true rfl) (ff_cons (ml_fst _ _ _ _ _ _) (ff_nil)) (ws' := [ml m cI (w_day true (w_dayN S k)) (m_lrs (m_kpa M 128 S) (w_lng S k))]) rfl ?_
        refine G.iadd X dX7_wetDays_47 ?_
        refine G.is X dX7_wetDays_48 (by decide) (lv' := [(2, .int ((nI (w_wet S k)) + (b2i (w_wat (w_day true (w_dayN S k)))))), (3, .int (nI ((w_run S k) + 1))), (4, .int (nI k)), (0, .ref (m 0)), (1, .int (nI n))]) rfl ?_
        refine G.al X dX7_wetDays_49 3 rfl ?_
        refine G.il X dX7_wetDays_50 1 rfl ?_
        refine G.al X dX7_wetDays_51 3 rfl ?_
        refine G.get X fX7_235 dX7_wetDays_52 0 0 rfl rfl rfl ?_
        refine G.top (b := w_lng S k) rfl ?_
        refine G.c_le X (a := nI ((w_run S k) + 1)) (b := (w_lng S k)) dX7_wetDays_55 (fun b55 => ?_) (fun b55 => ?_)
        · refine G.al X dX7_wetDays_62 3 rfl ?_
          refine G.get X fX7_235 dX7_wetDays_63 0 0 rfl rfl rfl ?_
          refine G.top (b := w_lng S k) rfl ?_
          refine G.puti X fX7_235 fe7 dX7_wetDays_66 rfl rfl 0 0 rfl rfl (Nat.le_of_ble_eq_true rfl) (blk' := ml m cI (w_day true (w_dayN S k)) (m_rf (m_lrs (m_kpa M 128 S) (w_lng S k)), m_co (m_lrs (m_kpa M 128 S) (w_lng S k)), m_tx (m_lrs (m_kpa M 128 S) (w_lng S k)), m_lt (m_lrs (m_kpa M 128 S) (w_lng S k)), m_la (m_lrs (m_kpa M 128 S) (w_lng S k)), m_to (m_lrs (m_kpa M 128 S) (w_lng S k)), m_tn (m_lrs (m_kpa M 128 S) (w_lng S k)), m_at (m_lrs (m_kpa M 128 S) (w_lng S k)), m_st (m_lrs (m_kpa M 128 S) (w_lng S k)), m_kp (m_lrs (m_kpa M 128 S) (w_lng S k)), m_hi (m_lrs (m_kpa M 128 S) (w_lng S k)), m_kg (m_lrs (m_kpa M 128 S) (w_lng S k)), m_cu (m_lrs (m_kpa M 128 S) (w_lng S k)), w_lng S k, m_ge (m_lrs (m_kpa M 128 S) (w_lng S k)), m_rw (m_lrs (m_kpa M 128 S) (w_lng S k)), m_rn (m_lrs (m_kpa M 128 S) (w_lng S k)))) rfl (ws' := [ml m cI (w_day true (w_dayN S k)) (m_rf (m_lrs (m_kpa M 128 S) (w_lng S k)), m_co (m_lrs (m_kpa M 128 S) (w_lng S k)), m_tx (m_lrs (m_kpa M 128 S) (w_lng S k)), m_lt (m_lrs (m_kpa M 128 S) (w_lng S k)), m_la (m_lrs (m_kpa M 128 S) (w_lng S k)), m_to (m_lrs (m_kpa M 128 S) (w_lng S k)), m_tn (m_lrs (m_kpa M 128 S) (w_lng S k)), m_at (m_lrs (m_kpa M 128 S) (w_lng S k)), m_st (m_lrs (m_kpa M 128 S) (w_lng S k)), m_kp (m_lrs (m_kpa M 128 S) (w_lng S k)), m_hi (m_lrs (m_kpa M 128 S) (w_lng S k)), m_kg (m_lrs (m_kpa M 128 S) (w_lng S k)), m_cu (m_lrs (m_kpa M 128 S) (w_lng S k)), w_lng S k, m_ge (m_lrs (m_kpa M 128 S) (w_lng S k)), m_rw (m_lrs (m_kpa M 128 S) (w_lng S k)), m_rn (m_lrs (m_kpa M 128 S) (w_lng S k)))]) rfl ?_
          refine G.cg (ws' := [ml m cI (w_day true (w_dayN S k)) (m_lrs (m_kpa M 128 S) (w_lng S k))]) rfl rfl rfl ?_
          refine G.iinc X dX7_wetDays_69 2 rfl (v' := nI (k + 1)) (nI_inc k) (by decide) (lv' := [(4, .int (nI (k + 1))), (2, .int ((nI (w_wet S k)) + (b2i (w_wat (w_day true (w_dayN S k)))))), (3, .int (nI ((w_run S k) + 1))), (0, .ref (m 0)), (1, .int (nI n))]) rfl ?_
          refine G.go X dX7_wetDays_72 ?_
          rw [show (nI (w_run S (k + 1))) = (nI ((w_run S k) + 1)) from (by simp [-Int32.not_lt, w_run, w_lng, w_dayN, nI0, b19, b31, b55]; try rfl)] at ih16
          rw [show (nI (w_wet S (k + 1))) = ((nI (w_wet S k)) + (b2i (w_wat (w_day true (w_dayN S k))))) from (by exact wet_1 S k)] at ih16
          rw [show (m_lrs (m_kpa M 128 S) (w_lng S (k + 1))) = (m_lrs (m_kpa M 128 S) (w_lng S k)) from (by simp [-Int32.not_lt, w_run, w_lng, w_dayN, nI0, b19, b31, b55]; try rfl)] at ih16
          refine G.lvsub [0, 2, 1, 3, 4] (lv' := [(4, .int (nI (k + 1))), (3, .int (nI ((w_run S k) + 1))), (2, .int ((nI (w_wet S k)) + (b2i (w_wat (w_day true (w_dayN S k)))))), (0, .ref (m 0)), (1, .int (nI n))]) rfl ?_
          exact ih16
        · refine G.il X dX7_wetDays_58 1 rfl ?_
          refine G.go X dX7_wetDays_59 ?_
          refine G.puti X fX7_235 fe7 dX7_wetDays_66 rfl rfl 0 0 rfl rfl (Nat.le_of_ble_eq_true rfl) (blk' := ml m cI (w_day true (w_dayN S k)) (m_rf (m_lrs (m_kpa M 128 S) (w_lng S k)), m_co (m_lrs (m_kpa M 128 S) (w_lng S k)), m_tx (m_lrs (m_kpa M 128 S) (w_lng S k)), m_lt (m_lrs (m_kpa M 128 S) (w_lng S k)), m_la (m_lrs (m_kpa M 128 S) (w_lng S k)), m_to (m_lrs (m_kpa M 128 S) (w_lng S k)), m_tn (m_lrs (m_kpa M 128 S) (w_lng S k)), m_at (m_lrs (m_kpa M 128 S) (w_lng S k)), m_st (m_lrs (m_kpa M 128 S) (w_lng S k)), m_kp (m_lrs (m_kpa M 128 S) (w_lng S k)), m_hi (m_lrs (m_kpa M 128 S) (w_lng S k)), m_kg (m_lrs (m_kpa M 128 S) (w_lng S k)), m_cu (m_lrs (m_kpa M 128 S) (w_lng S k)), nI ((w_run S k) + 1), m_ge (m_lrs (m_kpa M 128 S) (w_lng S k)), m_rw (m_lrs (m_kpa M 128 S) (w_lng S k)), m_rn (m_lrs (m_kpa M 128 S) (w_lng S k)))) rfl (ws' := [ml m cI (w_day true (w_dayN S k)) (m_rf (m_lrs (m_kpa M 128 S) (w_lng S k)), m_co (m_lrs (m_kpa M 128 S) (w_lng S k)), m_tx (m_lrs (m_kpa M 128 S) (w_lng S k)), m_lt (m_lrs (m_kpa M 128 S) (w_lng S k)), m_la (m_lrs (m_kpa M 128 S) (w_lng S k)), m_to (m_lrs (m_kpa M 128 S) (w_lng S k)), m_tn (m_lrs (m_kpa M 128 S) (w_lng S k)), m_at (m_lrs (m_kpa M 128 S) (w_lng S k)), m_st (m_lrs (m_kpa M 128 S) (w_lng S k)), m_kp (m_lrs (m_kpa M 128 S) (w_lng S k)), m_hi (m_lrs (m_kpa M 128 S) (w_lng S k)), m_kg (m_lrs (m_kpa M 128 S) (w_lng S k)), m_cu (m_lrs (m_kpa M 128 S) (w_lng S k)), nI ((w_run S k) + 1), m_ge (m_lrs (m_kpa M 128 S) (w_lng S k)), m_rw (m_lrs (m_kpa M 128 S) (w_lng S k)), m_rn (m_lrs (m_kpa M 128 S) (w_lng S k)))]) rfl ?_
          refine G.cg (ws' := [ml m cI (w_day true (w_dayN S k)) (m_lrs (m_kpa M 128 S) (nI ((w_run S k) + 1)))]) rfl rfl rfl ?_
          refine G.iinc X dX7_wetDays_69 2 rfl (v' := nI (k + 1)) (nI_inc k) (by decide) (lv' := [(4, .int (nI (k + 1))), (2, .int ((nI (w_wet S k)) + (b2i (w_wat (w_day true (w_dayN S k)))))), (3, .int (nI ((w_run S k) + 1))), (0, .ref (m 0)), (1, .int (nI n))]) rfl ?_
          refine G.go X dX7_wetDays_72 ?_
          rw [show (nI (w_run S (k + 1))) = (nI ((w_run S k) + 1)) from (by simp [-Int32.not_lt, w_run, w_lng, w_dayN, nI0, b19, b31, b55]; try rfl)] at ih16
          rw [show (nI (w_wet S (k + 1))) = ((nI (w_wet S k)) + (b2i (w_wat (w_day true (w_dayN S k))))) from (by exact wet_1 S k)] at ih16
          rw [show (m_lrs (m_kpa M 128 S) (w_lng S (k + 1))) = (m_lrs (m_kpa M 128 S) (nI ((w_run S k) + 1))) from (by simp [-Int32.not_lt, w_run, w_lng, w_dayN, nI0, b19, b31, b55]; try rfl)] at ih16
          refine G.lvsub [0, 2, 1, 3, 4] (lv' := [(4, .int (nI (k + 1))), (3, .int (nI ((w_run S k) + 1))), (2, .int ((nI (w_wet S k)) + (b2i (w_wat (w_day true (w_dayN S k)))))), (0, .ref (m 0)), (1, .int (nI n))]) rfl ?_
          exact ih16
  have L16 := L16 0 (Nat.zero_le _)
  exact L16

set_option maxRecDepth 20000 in
theorem tX7_runs_lo (l : Launch) (D : va_G) (cI cW : ClassId) (m : Nat → Nat) (S : WS) (M : MS) (n : Int32) (w : Int32) (h1 : n < 1) : CT l D cI cW yX7_runs cX7_runs 5 (some .int) ⟨1, 0, 0, 22⟩ [.ref (m 0), .int n, .int w] ([ml m cI S M]) (PI (-4) ([ml m cI S (m_no M 4)])) := by
  refine CT.of RX7 rfl (by decide +kernel) (Nat.le_of_ble_eq_true rfl) [(0, .ref (m 0)), (1, .int n), (2, .int w)] rfl (fun x X Rr hnm => ?_)
  refine G.il X dX7_runs_0 1 rfl ?_
  refine G.pu X dX7_runs_1 ?_
  refine G.pu X dX7_runs_2 ?_
  refine G.csti X kX7_bound lX7_67 dX7_runs_4 (tX7_bound_lo l D cI cW n 1 99 h1) ⟨Nat.le_of_ble_eq_true rfl, Nat.le_of_ble_eq_true rfl⟩ ⟨Nat.zero_le _, Nat.zero_le _⟩ [] rfl ⟨rfl, rfl⟩ rfl rfl rfl (Nat.le_of_ble_eq_true rfl) (ff_nil) (ws' := [ml m cI S M]) rfl ?_
  refine G.is X dX7_runs_7 (by decide) (lv' := [(3, .int (-4)), (0, .ref (m 0)), (1, .int n), (2, .int w)]) rfl ?_
  refine G.il X dX7_runs_8 0 rfl ?_
  refine G.z_ne X (a := (-4)) dX7_runs_9 (fun b9 => ?_) (fun b9 => absurd b9 (by decide))
  refine G.il X dX7_runs_24 0 rfl ?_
  refine G.z_eq X (a := (-4)) dX7_runs_25 (fun b25 => absurd b25 (by decide)) (fun b25 => ?_)
  refine G.al X dX7_runs_28 1 rfl ?_
  refine G.il X dX7_runs_29 0 rfl ?_
  refine G.cvi X kX7_no lX7_74 dX7_runs_30 (tX7_no l D cI cW m S M 4 (by omega) (by omega)) ⟨Nat.le_of_ble_eq_true rfl, Nat.le_of_ble_eq_true rfl⟩ ⟨Nat.zero_le _, Nat.zero_le _⟩ [0] rfl ⟨rfl, rfl⟩ rfl rfl 0 0 rfl rfl rfl rfl (Nat.le_of_ble_eq_true rfl) (ff_cons (ml_fst _ _ _ _ _ _) (ff_nil)) (ws' := [ml m cI S (m_no M 4)]) rfl ?_
  exact G.iret X Rr (v := (-(nI 4))) dX7_runs_33 (pi_mk (by rfl) (by rfl))

set_option maxRecDepth 20000 in
theorem tX7_runs_hi (l : Launch) (D : va_G) (cI cW : ClassId) (m : Nat → Nat) (S : WS) (M : MS) (n : Int32) (w : Int32) (h1 : ¬ n < 1) (h2 : 99 < n) : CT l D cI cW yX7_runs cX7_runs 5 (some .int) ⟨1, 0, 0, 22⟩ [.ref (m 0), .int n, .int w] ([ml m cI S M]) (PI (-6) ([ml m cI S (m_no M 6)])) := by
  refine CT.of RX7 rfl (by decide +kernel) (Nat.le_of_ble_eq_true rfl) [(0, .ref (m 0)), (1, .int n), (2, .int w)] rfl (fun x X Rr hnm => ?_)
  refine G.il X dX7_runs_0 1 rfl ?_
  refine G.pu X dX7_runs_1 ?_
  refine G.pu X dX7_runs_2 ?_
  refine G.csti X kX7_bound lX7_67 dX7_runs_4 (tX7_bound_hi l D cI cW n 1 99 h1 h2) ⟨Nat.le_of_ble_eq_true rfl, Nat.le_of_ble_eq_true rfl⟩ ⟨Nat.zero_le _, Nat.zero_le _⟩ [] rfl ⟨rfl, rfl⟩ rfl rfl rfl (Nat.le_of_ble_eq_true rfl) (ff_nil) (ws' := [ml m cI S M]) rfl ?_
  refine G.is X dX7_runs_7 (by decide) (lv' := [(3, .int (-6)), (0, .ref (m 0)), (1, .int n), (2, .int w)]) rfl ?_
  refine G.il X dX7_runs_8 0 rfl ?_
  refine G.z_ne X (a := (-6)) dX7_runs_9 (fun b9 => ?_) (fun b9 => absurd b9 (by decide))
  refine G.il X dX7_runs_24 0 rfl ?_
  refine G.z_eq X (a := (-6)) dX7_runs_25 (fun b25 => absurd b25 (by decide)) (fun b25 => ?_)
  refine G.al X dX7_runs_28 1 rfl ?_
  refine G.il X dX7_runs_29 0 rfl ?_
  refine G.cvi X kX7_no lX7_74 dX7_runs_30 (tX7_no l D cI cW m S M 6 (by omega) (by omega)) ⟨Nat.le_of_ble_eq_true rfl, Nat.le_of_ble_eq_true rfl⟩ ⟨Nat.zero_le _, Nat.zero_le _⟩ [0] rfl ⟨rfl, rfl⟩ rfl rfl 0 0 rfl rfl rfl rfl (Nat.le_of_ble_eq_true rfl) (ff_cons (ml_fst _ _ _ _ _ _) (ff_nil)) (ws' := [ml m cI S (m_no M 6)]) rfl ?_
  exact G.iret X Rr (v := (-(nI 6))) dX7_runs_33 (pi_mk (by rfl) (by rfl))

set_option maxRecDepth 20000 in
theorem tX7_runs_oth (l : Launch) (D : va_G) (cI cW : ClassId) (m : Nat → Nat) (S : WS) (M : MS) (n : Nat) (w : Int32) (h1 : 1 ≤ n) (hn : n ≤ 99) (hw : z_in w 2 = false) : CT l D cI cW yX7_runs cX7_runs 5 (some .int) ⟨1, 0, 0, 22⟩ [.ref (m 0), .int (nI n), .int w] ([ml m cI S M]) (PI (-2) ([ml m cI S (m_no M 2)])) := by
  refine CT.of RX7 rfl (by decide +kernel) (Nat.le_of_ble_eq_true rfl) [(0, .ref (m 0)), (1, .int (nI n)), (2, .int w)] rfl (fun x X Rr hnm => ?_)
  refine G.il X dX7_runs_0 1 rfl ?_
  refine G.pu X dX7_runs_1 ?_
  refine G.pu X dX7_runs_2 ?_
  refine G.csti X kX7_bound lX7_67 dX7_runs_4 (tX7_bound_ok l D cI cW n 1 99 h1 hn (by omega)) ⟨Nat.le_of_ble_eq_true rfl, Nat.le_of_ble_eq_true rfl⟩ ⟨Nat.zero_le _, Nat.zero_le _⟩ [] rfl ⟨rfl, rfl⟩ rfl rfl rfl (Nat.le_of_ble_eq_true rfl) (ff_nil) (ws' := [ml m cI S M]) rfl ?_
  refine G.is X dX7_runs_7 (by decide) (lv' := [(3, .int 0), (0, .ref (m 0)), (1, .int (nI n)), (2, .int w)]) rfl ?_
  refine G.il X dX7_runs_8 0 rfl ?_
  refine G.z_ne X (a := 0) dX7_runs_9 (fun b9 => absurd b9 (by decide)) (fun b9 => ?_)
  refine G.il X dX7_runs_12 3 rfl ?_
  refine G.pu X dX7_runs_13 ?_
  refine G.pu X dX7_runs_14 ?_
  refine G.csti X kX7_isIn lX7_85 dX7_runs_15 (tX7_isIn_no l D cI cW w 0 1 (zbt_no (n := 1) hw (by decide))) ⟨Nat.le_of_ble_eq_true rfl, Nat.le_of_ble_eq_true rfl⟩ ⟨Nat.zero_le _, Nat.zero_le _⟩ [] rfl ⟨rfl, rfl⟩ rfl rfl rfl (Nat.le_of_ble_eq_true rfl) (ff_nil) (ws' := [ml m cI S M]) rfl ?_
  refine G.b_ne X dX7_runs_18 (fun b18 => absurd b18 (by decide)) (fun b18 => ?_)
  refine G.pu X dX7_runs_21 ?_
  refine G.is X dX7_runs_23 (by decide) (lv' := [(3, .int (-2)), (0, .ref (m 0)), (1, .int (nI n)), (2, .int w)]) rfl ?_
  refine G.il X dX7_runs_24 0 rfl ?_
  refine G.z_eq X (a := (-2)) dX7_runs_25 (fun b25 => absurd b25 (by decide)) (fun b25 => ?_)
  refine G.al X dX7_runs_28 1 rfl ?_
  refine G.il X dX7_runs_29 0 rfl ?_
  refine G.cvi X kX7_no lX7_74 dX7_runs_30 (tX7_no l D cI cW m S M 2 (by omega) (by omega)) ⟨Nat.le_of_ble_eq_true rfl, Nat.le_of_ble_eq_true rfl⟩ ⟨Nat.zero_le _, Nat.zero_le _⟩ [0] rfl ⟨rfl, rfl⟩ rfl rfl 0 0 rfl rfl rfl rfl (Nat.le_of_ble_eq_true rfl) (ff_cons (ml_fst _ _ _ _ _ _) (ff_nil)) (ws' := [ml m cI S (m_no M 2)]) rfl ?_
  exact G.iret X Rr (v := (-(nI 2))) dX7_runs_33 (pi_mk (by rfl) (by rfl))

set_option maxRecDepth 20000 in
theorem tX7_runs_0 (l : Launch) (D : va_G) (cI cW : ClassId) (m : Nat → Nat) (S : WS) (M : MS) (n : Nat) (hS : Ok S) (hco : m_co M = false) (h1 : 1 ≤ n) (hn : n ≤ 99) : CT l D cI cW yX7_runs cX7_runs 5 (some .int) ⟨5, 0, 0, 110⟩ [.ref (m 0), .int (nI n), .int 0] ([ml m cI S M]) (PIE (nI (w_wet S n)) (fun M9 : {M9 : MS // Mq 64 M M9} => [ml m cI S M9.1])) := by
  refine CT.of RX7 rfl (by decide +kernel) (Nat.le_of_ble_eq_true rfl) [(0, .ref (m 0)), (1, .int (nI n)), (2, .int 0)] rfl (fun x X Rr hnm => ?_)
  have hth := hS.th
  have hpe := hS.pe
  refine G.il X dX7_runs_0 1 rfl ?_
  refine G.pu X dX7_runs_1 ?_
  refine G.pu X dX7_runs_2 ?_
  refine G.csti X kX7_bound lX7_67 dX7_runs_4 (tX7_bound_ok l D cI cW n 1 99 h1 hn (by omega)) ⟨Nat.le_of_ble_eq_true rfl, Nat.le_of_ble_eq_true rfl⟩ ⟨Nat.zero_le _, Nat.zero_le _⟩ [] rfl ⟨rfl, rfl⟩ rfl rfl rfl (Nat.le_of_ble_eq_true rfl) (ff_nil) (ws' := [ml m cI S M]) rfl ?_
  refine G.is X dX7_runs_7 (by decide) (lv' := [(3, .int 0), (0, .ref (m 0)), (1, .int (nI n)), (2, .int 0)]) rfl ?_
  refine G.il X dX7_runs_8 0 rfl ?_
  refine G.z_ne X (a := 0) dX7_runs_9 (fun b9 => absurd b9 (by decide)) (fun b9 => ?_)
  refine G.il X dX7_runs_12 3 rfl ?_
  refine G.pu X dX7_runs_13 ?_
  refine G.pu X dX7_runs_14 ?_
  refine G.csti X kX7_isIn lX7_85 dX7_runs_15 (tX7_isIn_yes l D cI cW 0 0 1 (by omega) (by omega) (by omega)) ⟨Nat.le_of_ble_eq_true rfl, Nat.le_of_ble_eq_true rfl⟩ ⟨Nat.zero_le _, Nat.zero_le _⟩ [] rfl ⟨rfl, rfl⟩ rfl rfl rfl (Nat.le_of_ble_eq_true rfl) (ff_nil) (ws' := [ml m cI S M]) rfl ?_
  refine G.b_ne X dX7_runs_18 (fun b18 => ?_) (fun b18 => absurd b18 (by decide))
  refine G.il X dX7_runs_24 0 rfl ?_
  refine G.z_eq X (a := 0) dX7_runs_25 (fun b25 => ?_) (fun b25 => absurd b25 (by decide))
  refine G.al X dX7_runs_34 1 rfl ?_
  refine G.il X dX7_runs_35 2 rfl ?_
  refine G.cvi X kX7_wetDays lX7_238 dX7_runs_36 (tX7_wetDays l D cI cW m S M n hS hco (by omega)) ⟨Nat.le_of_ble_eq_true rfl, Nat.le_of_ble_eq_true rfl⟩ ⟨Nat.zero_le _, Nat.zero_le _⟩ [0] rfl ⟨rfl, rfl⟩ rfl rfl 0 0 rfl rfl rfl rfl (Nat.le_of_ble_eq_true rfl) (ff_cons (ml_fst _ _ _ _ _ _) (ff_nil)) (ws' := [ml m cI S (m_wd M S n)]) rfl ?_
  refine G.is X dX7_runs_39 (by decide) (lv' := [(4, .int (nI (w_wet S n))), (3, .int 0), (0, .ref (m 0)), (1, .int (nI n)), (2, .int 0)]) rfl ?_
  refine G.il X dX7_runs_41 4 rfl ?_
  refine G.z_ne X (a := 0) dX7_runs_42 (fun b42 => absurd b42 (by decide)) (fun b42 => ?_)
  refine G.il X dX7_runs_45 0 rfl ?_
  refine G.go X dX7_runs_47 ?_
  exact G.iret X Rr (v := nI (w_wet S n)) dX7_runs_54 (pie_mk (qk ((Mq.rf 64 M).tr (mq_wd M S n) (by decide))) (by rfl) (by rfl))

set_option maxRecDepth 20000 in
theorem tX7_runs_1 (l : Launch) (D : va_G) (cI cW : ClassId) (m : Nat → Nat) (S : WS) (M : MS) (n : Nat) (hS : Ok S) (hco : m_co M = false) (h1 : 1 ≤ n) (hn : n ≤ 99) : CT l D cI cW yX7_runs cX7_runs 5 (some .int) ⟨5, 0, 0, 110⟩ [.ref (m 0), .int (nI n), .int 1] ([ml m cI S M]) (PIE (w_lng S n) (fun M9 : {M9 : MS // Mq 64 M M9} => [ml m cI S M9.1])) := by
  refine CT.of RX7 rfl (by decide +kernel) (Nat.le_of_ble_eq_true rfl) [(0, .ref (m 0)), (1, .int (nI n)), (2, .int 1)] rfl (fun x X Rr hnm => ?_)
  have hth := hS.th
  have hpe := hS.pe
  refine G.il X dX7_runs_0 1 rfl ?_
  refine G.pu X dX7_runs_1 ?_
  refine G.pu X dX7_runs_2 ?_
  refine G.csti X kX7_bound lX7_67 dX7_runs_4 (tX7_bound_ok l D cI cW n 1 99 h1 hn (by omega)) ⟨Nat.le_of_ble_eq_true rfl, Nat.le_of_ble_eq_true rfl⟩ ⟨Nat.zero_le _, Nat.zero_le _⟩ [] rfl ⟨rfl, rfl⟩ rfl rfl rfl (Nat.le_of_ble_eq_true rfl) (ff_nil) (ws' := [ml m cI S M]) rfl ?_
  refine G.is X dX7_runs_7 (by decide) (lv' := [(3, .int 0), (0, .ref (m 0)), (1, .int (nI n)), (2, .int 1)]) rfl ?_
  refine G.il X dX7_runs_8 0 rfl ?_
  refine G.z_ne X (a := 0) dX7_runs_9 (fun b9 => absurd b9 (by decide)) (fun b9 => ?_)
  refine G.il X dX7_runs_12 3 rfl ?_
  refine G.pu X dX7_runs_13 ?_
  refine G.pu X dX7_runs_14 ?_
  refine G.csti X kX7_isIn lX7_85 dX7_runs_15 (tX7_isIn_yes l D cI cW 1 0 1 (by omega) (by omega) (by omega)) ⟨Nat.le_of_ble_eq_true rfl, Nat.le_of_ble_eq_true rfl⟩ ⟨Nat.zero_le _, Nat.zero_le _⟩ [] rfl ⟨rfl, rfl⟩ rfl rfl rfl (Nat.le_of_ble_eq_true rfl) (ff_nil) (ws' := [ml m cI S M]) rfl ?_
  refine G.b_ne X dX7_runs_18 (fun b18 => ?_) (fun b18 => absurd b18 (by decide))
  refine G.il X dX7_runs_24 0 rfl ?_
  refine G.z_eq X (a := 0) dX7_runs_25 (fun b25 => ?_) (fun b25 => absurd b25 (by decide))
  refine G.al X dX7_runs_34 1 rfl ?_
  refine G.il X dX7_runs_35 2 rfl ?_
  refine G.cvi X kX7_wetDays lX7_238 dX7_runs_36 (tX7_wetDays l D cI cW m S M n hS hco (by omega)) ⟨Nat.le_of_ble_eq_true rfl, Nat.le_of_ble_eq_true rfl⟩ ⟨Nat.zero_le _, Nat.zero_le _⟩ [0] rfl ⟨rfl, rfl⟩ rfl rfl 0 0 rfl rfl rfl rfl (Nat.le_of_ble_eq_true rfl) (ff_cons (ml_fst _ _ _ _ _ _) (ff_nil)) (ws' := [ml m cI S (m_wd M S n)]) rfl ?_
  refine G.is X dX7_runs_39 (by decide) (lv' := [(4, .int (nI (w_wet S n))), (3, .int 0), (0, .ref (m 0)), (1, .int (nI n)), (2, .int 1)]) rfl ?_
  refine G.il X dX7_runs_41 4 rfl ?_
  refine G.z_ne X (a := 1) dX7_runs_42 (fun b42 => ?_) (fun b42 => absurd b42 (by decide))
  refine G.al X dX7_runs_50 2 rfl ?_
  refine G.get X fX7_235 dX7_runs_51 0 0 rfl rfl rfl ?_
  exact G.iret X Rr (v := (m_lr (m_wd M S n))) dX7_runs_54 (pie_mk (qk ((Mq.rf 64 M).tr (mq_wd M S n) (by decide))) (by rfl) (by rfl))

set_option maxRecDepth 20000 in
theorem tX7_never (l : Launch) (D : va_G) (cI cW : ClassId) (m : Nat → Nat) (S : WS) (M : MS) (hS : Ok S) : CT l D cI cW yX7_never cX7_never 3 (some .int) ⟨2, 0, 0, 43⟩ [.ref (m 0)] ([ml m cI S M]) (PI (w_nevb S (s_th S)) ([ml m cI S M])) := by
  refine CT.of RX7 rfl (by decide +kernel) (Nat.le_of_ble_eq_true rfl) [(0, .ref (m 0))] rfl (fun x X Rr hnm => ?_)
  have hth := hS.th
  have hpe := hS.pe
  refine G.pu X dX7_never_0 ?_
  refine G.is X dX7_never_1 (by decide) (lv' := [(1, .int 0), (0, .ref (m 0))]) rfl ?_
  refine G.pu X dX7_never_2 ?_
  refine G.is X dX7_never_3 (by decide) (lv' := [(2, .int 0), (1, .int 0), (0, .ref (m 0))]) rfl ?_
  have L4 : ∀ k, k ≤ s_th S → G x 0 0 ([ml m cI S M]) 4 [(2, .int (nI k)), (1, .int (w_nevb S k)), (0, .ref (m 0))] [] := by
    refine loop_dn (s_th S) _ ?_ ?_
    · refine G.il X dX7_never_4 0 rfl ?_
      refine G.al X dX7_never_5 2 rfl ?_
      refine G.get X fX7_58 dX7_never_6 0 0 rfl rfl rfl ?_
      refine G.n_ge X (a := s_th S) (b := s_th S) (by omega) (by omega) dX7_never_9 (fun b9 => ?_) (fun b9 => absurd b9 (by omega))
      refine G.il X dX7_never_45 1 rfl ?_
      exact G.iret X Rr (v := (w_nevb S (s_th S))) dX7_never_46 (pi_mk (by rfl) (by rfl))
    · intro k hk ih4
      refine G.il X dX7_never_4 0 rfl ?_
      refine G.al X dX7_never_5 2 rfl ?_
      refine G.get X fX7_58 dX7_never_6 0 0 rfl rfl rfl ?_
      refine G.n_ge X (a := k) (b := s_th S) (by omega) (by omega) dX7_never_9 (fun b9 => absurd b9 (by omega)) (fun b9 => ?_)
      refine G.il X dX7_never_12 1 rfl ?_
      refine G.al X dX7_never_13 2 rfl ?_
      refine G.get X fX7_34 dX7_never_14 0 0 rfl rfl rfl ?_
      refine G.il X dX7_never_17 0 rfl ?_
      refine G.nld X (i := k) dX7_never_18 0 9 rfl rfl (by omega) (by decide) ?_
      refine G.z_le X (a := ((s_le S) k)) dX7_never_19 (fun b19 => ?_) (fun b19 => ?_)
      · refine G.pu X dX7_never_36 ?_
        refine G.ior X dX7_never_37 ?_
        refine G.is X dX7_never_38 (by decide) (lv' := [(1, .int ((w_nevb S k) ||| 0)), (2, .int (nI k)), (0, .ref (m 0))]) rfl ?_
        refine G.iinc X dX7_never_39 1 rfl (v' := nI (k + 1)) (nI_inc k) (by decide) (lv' := [(2, .int (nI (k + 1))), (1, .int ((w_nevb S k) ||| 0)), (0, .ref (m 0))]) rfl ?_
        refine G.go X dX7_never_42 ?_
        rw [show (w_nevb S (k + 1)) = ((w_nevb S k) ||| 0) from (by simp [w_nevb, w_nev, b9, b19])] at ih4
        exact ih4
      · refine G.al X dX7_never_22 2 rfl ?_
        refine G.il X dX7_never_23 0 rfl ?_
        refine G.cvi X kX7_isKnown lX7_190 dX7_never_24 (tX7_isKnown l D cI cW m S M k hS (by omega)) ⟨Nat.le_of_ble_eq_true rfl, Nat.le_of_ble_eq_true rfl⟩ ⟨Nat.zero_le _, Nat.zero_le _⟩ [0] rfl ⟨rfl, rfl⟩ rfl rfl 0 0 rfl rfl rfl rfl (Nat.le_of_ble_eq_true rfl) (ff_cons (ml_fst _ _ _ _ _ _) (ff_nil)) (ws' := [ml m cI S M]) rfl ?_
        refine G.b_ne X dX7_never_27 (fun b27 => ?_) (fun b27 => ?_)
        · refine G.pu X dX7_never_36 ?_
          refine G.ior X dX7_never_37 ?_
          refine G.is X dX7_never_38 (by decide) (lv' := [(1, .int ((w_nevb S k) ||| 0)), (2, .int (nI k)), (0, .ref (m 0))]) rfl ?_
          refine G.iinc X dX7_never_39 1 rfl (v' := nI (k + 1)) (nI_inc k) (by decide) (lv' := [(2, .int (nI (k + 1))), (1, .int ((w_nevb S k) ||| 0)), (0, .ref (m 0))]) rfl ?_
          refine G.go X dX7_never_42 ?_
          rw [show (w_nevb S (k + 1)) = ((w_nevb S k) ||| 0) from (by simp [w_nevb, w_nev, b9, b19, b27])] at ih4
          exact ih4
        · refine G.pu X dX7_never_30 ?_
          refine G.il X dX7_never_31 0 rfl ?_
          refine G.ishl X dX7_never_32 ?_
          refine G.go X dX7_never_33 ?_
          refine G.ior X dX7_never_37 ?_
          refine G.is X dX7_never_38 (by decide) (lv' := [(1, .int ((w_nevb S k) ||| (1 <<< ((nI k) &&& 31)))), (2, .int (nI k)), (0, .ref (m 0))]) rfl ?_
          refine G.iinc X dX7_never_39 1 rfl (v' := nI (k + 1)) (nI_inc k) (by decide) (lv' := [(2, .int (nI (k + 1))), (1, .int ((w_nevb S k) ||| (1 <<< ((nI k) &&& 31)))), (0, .ref (m 0))]) rfl ?_
          refine G.go X dX7_never_42 ?_
          rw [show (w_nevb S (k + 1)) = ((w_nevb S k) ||| (1 <<< ((nI k) &&& 31))) from (by simp [w_nevb, w_nev, b9, b19, b27])] at ih4
          exact ih4
  have L4 := L4 0 (Nat.zero_le _)
  exact L4

set_option maxRecDepth 20000 in
theorem tX7_topics (l : Launch) (D : va_G) (cI cW : ClassId) (m : Nat → Nat) (S : WS) (M : MS) (hS : Ok S) : CT l D cI cW yX7_topics cX7_topics 3 (some .int) ⟨1, 0, 0, 22⟩ [.ref (m 0)] ([ml m cI S M]) (PI (w_tb S (s_th S)) ([ml m cI S M])) := by
  refine CT.of RX7 rfl (by decide +kernel) (Nat.le_of_ble_eq_true rfl) [(0, .ref (m 0))] rfl (fun x X Rr hnm => ?_)
  have hth := hS.th
  have hpe := hS.pe
  refine G.pu X dX7_topics_0 ?_
  refine G.is X dX7_topics_1 (by decide) (lv' := [(1, .int 0), (0, .ref (m 0))]) rfl ?_
  refine G.pu X dX7_topics_2 ?_
  refine G.is X dX7_topics_3 (by decide) (lv' := [(2, .int 0), (1, .int 0), (0, .ref (m 0))]) rfl ?_
  have L4 : ∀ k, k ≤ s_th S → G x 0 0 ([ml m cI S M]) 4 [(2, .int (nI k)), (1, .int (w_tb S k)), (0, .ref (m 0))] [] := by
    refine loop_dn (s_th S) _ ?_ ?_
    · refine G.il X dX7_topics_4 0 rfl ?_
      refine G.al X dX7_topics_5 2 rfl ?_
      refine G.get X fX7_58 dX7_topics_6 0 0 rfl rfl rfl ?_
      refine G.n_ge X (a := s_th S) (b := s_th S) (by omega) (by omega) dX7_topics_9 (fun b9 => ?_) (fun b9 => absurd b9 (by omega))
      refine G.il X dX7_topics_40 1 rfl ?_
      exact G.iret X Rr (v := (w_tb S (s_th S))) dX7_topics_41 (pi_mk (by rfl) (by rfl))
    · intro k hk ih4
      refine G.il X dX7_topics_4 0 rfl ?_
      refine G.al X dX7_topics_5 2 rfl ?_
      refine G.get X fX7_58 dX7_topics_6 0 0 rfl rfl rfl ?_
      refine G.n_ge X (a := k) (b := s_th S) (by omega) (by omega) dX7_topics_9 (fun b9 => absurd b9 (by omega)) (fun b9 => ?_)
      refine G.il X dX7_topics_12 1 rfl ?_
      refine G.al X dX7_topics_13 2 rfl ?_
      refine G.il X dX7_topics_14 0 rfl ?_
      refine G.cvi X kX7_isAsking lX7_181 dX7_topics_15 (tX7_isAsking l D cI cW m S M k (by omega)) ⟨Nat.le_of_ble_eq_true rfl, Nat.le_of_ble_eq_true rfl⟩ ⟨Nat.zero_le _, Nat.zero_le _⟩ [0] rfl ⟨rfl, rfl⟩ rfl rfl 0 0 rfl rfl rfl rfl (Nat.le_of_ble_eq_true rfl) (ff_cons (ml_fst _ _ _ _ _ _) (ff_nil)) (ws' := [ml m cI S M]) rfl ?_
      refine G.b_eq X dX7_topics_18 (fun b18 => ?_) (fun b18 => ?_)
      · refine G.pu X dX7_topics_31 ?_
        refine G.ior X dX7_topics_32 ?_
        refine G.is X dX7_topics_33 (by decide) (lv' := [(1, .int ((w_tb S k) ||| 0)), (2, .int (nI k)), (0, .ref (m 0))]) rfl ?_
        refine G.iinc X dX7_topics_34 1 rfl (v' := nI (k + 1)) (nI_inc k) (by decide) (lv' := [(2, .int (nI (k + 1))), (1, .int ((w_tb S k) ||| 0)), (0, .ref (m 0))]) rfl ?_
        refine G.go X dX7_topics_37 ?_
        rw [show (w_tb S (k + 1)) = ((w_tb S k) ||| 0) from (by simp [w_tb, b9, b18])] at ih4
        exact ih4
      · refine G.pu X dX7_topics_21 ?_
        refine G.al X dX7_topics_22 2 rfl ?_
        refine G.il X dX7_topics_23 0 rfl ?_
        refine G.cvi X kX7_topicOf lX7_175 dX7_topics_24 (tX7_topicOf l D cI cW m S M k (by omega)) ⟨Nat.le_of_ble_eq_true rfl, Nat.le_of_ble_eq_true rfl⟩ ⟨Nat.zero_le _, Nat.zero_le _⟩ [0] rfl ⟨rfl, rfl⟩ rfl rfl 0 0 rfl rfl rfl rfl (Nat.le_of_ble_eq_true rfl) (ff_cons (ml_fst _ _ _ _ _ _) (ff_nil)) (ws' := [ml m cI S M]) rfl ?_
        refine G.ishl X dX7_topics_27 ?_
        refine G.go X dX7_topics_28 ?_
        refine G.ior X dX7_topics_32 ?_
        refine G.is X dX7_topics_33 (by decide) (lv' := [(1, .int ((w_tb S k) ||| (1 <<< ((top S k) &&& 31)))), (2, .int (nI k)), (0, .ref (m 0))]) rfl ?_
        refine G.iinc X dX7_topics_34 1 rfl (v' := nI (k + 1)) (nI_inc k) (by decide) (lv' := [(2, .int (nI (k + 1))), (1, .int ((w_tb S k) ||| (1 <<< ((top S k) &&& 31)))), (0, .ref (m 0))]) rfl ?_
        refine G.go X dX7_topics_37 ?_
        rw [show (w_tb S (k + 1)) = ((w_tb S k) ||| (1 <<< ((top S k) &&& 31))) from (by simp [w_tb, b9, b18])] at ih4
        exact ih4
  have L4 := L4 0 (Nat.zero_le _)
  exact L4

set_option maxRecDepth 20000 in
theorem tX7_truth (l : Launch) (D : va_G) (cI cW : ClassId) (m : Nat → Nat) (S : WS) (M : MS) (hS : Ok S) : CT l D cI cW yX7_truth cX7_truth 3 (some .int) ⟨2, 0, 0, 43⟩ [.ref (m 0)] ([ml m cI S M]) (PI (nI (w_tr S (s_th S))) ([ml m cI S M])) := by
  refine CT.of RX7 rfl (by decide +kernel) (Nat.le_of_ble_eq_true rfl) [(0, .ref (m 0))] rfl (fun x X Rr hnm => ?_)
  have hth := hS.th
  have hpe := hS.pe
  refine G.pu X dX7_truth_0 ?_
  refine G.is X dX7_truth_1 (by decide) (lv' := [(1, .int 0), (0, .ref (m 0))]) rfl ?_
  refine G.pu X dX7_truth_2 ?_
  refine G.is X dX7_truth_3 (by decide) (lv' := [(2, .int 0), (1, .int 0), (0, .ref (m 0))]) rfl ?_
  have L4 : ∀ k, k ≤ s_th S → G x 0 0 ([ml m cI S M]) 4 [(2, .int (nI k)), (1, .int (nI (w_tr S k))), (0, .ref (m 0))] [] := by
    refine loop_dn (s_th S) _ ?_ ?_
    · refine G.il X dX7_truth_4 0 rfl ?_
      refine G.al X dX7_truth_5 2 rfl ?_
      refine G.get X fX7_58 dX7_truth_6 0 0 rfl rfl rfl ?_
      refine G.n_ge X (a := s_th S) (b := s_th S) (by omega) (by omega) dX7_truth_9 (fun b9 => ?_) (fun b9 => absurd b9 (by omega))
      refine G.il X dX7_truth_34 1 rfl ?_
      exact G.iret X Rr (v := nI (w_tr S (s_th S))) dX7_truth_35 (pi_mk (by rfl) (by rfl))
    · intro k hk ih4
      refine G.il X dX7_truth_4 0 rfl ?_
      refine G.al X dX7_truth_5 2 rfl ?_
      refine G.get X fX7_58 dX7_truth_6 0 0 rfl rfl rfl ?_
      refine G.n_ge X (a := k) (b := s_th S) (by omega) (by omega) dX7_truth_9 (fun b9 => absurd b9 (by omega)) (fun b9 => ?_)
      refine G.il X dX7_truth_12 1 rfl ?_
      refine G.al X dX7_truth_13 2 rfl ?_
      refine G.il X dX7_truth_14 0 rfl ?_
      refine G.cvi X kX7_isKnown lX7_190 dX7_truth_15 (tX7_isKnown l D cI cW m S M k hS (by omega)) ⟨Nat.le_of_ble_eq_true rfl, Nat.le_of_ble_eq_true rfl⟩ ⟨Nat.zero_le _, Nat.zero_le _⟩ [0] rfl ⟨rfl, rfl⟩ rfl rfl 0 0 rfl rfl rfl rfl (Nat.le_of_ble_eq_true rfl) (ff_cons (ml_fst _ _ _ _ _ _) (ff_nil)) (ws' := [ml m cI S M]) rfl ?_
      refine G.b_eq X dX7_truth_18 (fun b18 => ?_) (fun b18 => ?_)
      · refine G.pu X dX7_truth_25 ?_
        refine G.nadd X (a := w_tr S k) (b := 0) dX7_truth_26 ?_
        refine G.is X dX7_truth_27 (by decide) (lv' := [(1, .int (nI ((w_tr S k) + 0))), (2, .int (nI k)), (0, .ref (m 0))]) rfl ?_
        refine G.iinc X dX7_truth_28 1 rfl (v' := nI (k + 1)) (nI_inc k) (by decide) (lv' := [(2, .int (nI (k + 1))), (1, .int (nI ((w_tr S k) + 0))), (0, .ref (m 0))]) rfl ?_
        refine G.go X dX7_truth_31 ?_
        rw [show (nI (w_tr S (k + 1))) = (nI ((w_tr S k) + 0)) from (by simp [w_tr, b9, b18])] at ih4
        exact ih4
      · refine G.pu X dX7_truth_21 ?_
        refine G.go X dX7_truth_22 ?_
        refine G.nadd X (a := w_tr S k) (b := 1) dX7_truth_26 ?_
        refine G.is X dX7_truth_27 (by decide) (lv' := [(1, .int (nI ((w_tr S k) + 1))), (2, .int (nI k)), (0, .ref (m 0))]) rfl ?_
        refine G.iinc X dX7_truth_28 1 rfl (v' := nI (k + 1)) (nI_inc k) (by decide) (lv' := [(2, .int (nI (k + 1))), (1, .int (nI ((w_tr S k) + 1))), (0, .ref (m 0))]) rfl ?_
        refine G.go X dX7_truth_31 ?_
        rw [show (nI (w_tr S (k + 1))) = (nI ((w_tr S k) + 1)) from (by simp [w_tr, b9, b18])] at ih4
        exact ih4
  have L4 := L4 0 (Nat.zero_le _)
  exact L4

set_option maxRecDepth 20000 in
theorem tX7_lessonsOf (l : Launch) (D : va_G) (cI cW : ClassId) (m : Nat → Nat) (S : WS) (M : MS) (p : Nat) (hS : Ok S) : CT l D cI cW yX7_lessonsOf cX7_lessonsOf 4 (some .int) ⟨2, 0, 0, 43⟩ [.ref (m 0), .int (nI p)] ([ml m cI S M]) (PI (m_bits (w_les S (nI p) (s_th S)) 31) ([ml m cI S M])) := by
  refine CT.of RX7 rfl (by decide +kernel) (Nat.le_of_ble_eq_true rfl) [(0, .ref (m 0)), (1, .int (nI p))] rfl (fun x X Rr hnm => ?_)
  have hth := hS.th
  have hpe := hS.pe
  refine G.pu X dX7_lessonsOf_0 ?_
  refine G.is X dX7_lessonsOf_1 (by decide) (lv' := [(2, .int 0), (0, .ref (m 0)), (1, .int (nI p))]) rfl ?_
  refine G.pu X dX7_lessonsOf_2 ?_
  refine G.is X dX7_lessonsOf_3 (by decide) (lv' := [(3, .int 0), (2, .int 0), (0, .ref (m 0)), (1, .int (nI p))]) rfl ?_
  have L4 : ∀ k, k ≤ s_th S → G x 0 0 ([ml m cI S M]) 4 [(3, .int (nI k)), (2, .int (w_les S (nI p) k)), (0, .ref (m 0)), (1, .int (nI p))] [] := by
    refine loop_dn (s_th S) _ ?_ ?_
    · refine G.il X dX7_lessonsOf_4 0 rfl ?_
      refine G.al X dX7_lessonsOf_5 2 rfl ?_
      refine G.get X fX7_58 dX7_lessonsOf_6 0 0 rfl rfl rfl ?_
      refine G.n_ge X (a := s_th S) (b := s_th S) (by omega) (by omega) dX7_lessonsOf_9 (fun b9 => ?_) (fun b9 => absurd b9 (by omega))
      refine G.il X dX7_lessonsOf_59 1 rfl ?_
      refine G.csti X kX7_bits lX7_244 dX7_lessonsOf_60 (tX7_bits l D cI cW (w_les S (nI p) (s_th S))) ⟨Nat.le_of_ble_eq_true rfl, Nat.le_of_ble_eq_true rfl⟩ ⟨Nat.zero_le _, Nat.zero_le _⟩ [] rfl ⟨rfl, rfl⟩ rfl rfl rfl (Nat.le_of_ble_eq_true rfl) (ff_nil) (ws' := [ml m cI S M]) rfl ?_
      exact G.iret X Rr (v := (m_bits (w_les S (nI p) (s_th S)) 31)) dX7_lessonsOf_63 (pi_mk (by rfl) (by rfl))
    · intro k hk ih4
      refine G.il X dX7_lessonsOf_4 0 rfl ?_
      refine G.al X dX7_lessonsOf_5 2 rfl ?_
      refine G.get X fX7_58 dX7_lessonsOf_6 0 0 rfl rfl rfl ?_
      refine G.n_ge X (a := k) (b := s_th S) (by omega) (by omega) dX7_lessonsOf_9 (fun b9 => absurd b9 (by omega)) (fun b9 => ?_)
      refine G.il X dX7_lessonsOf_12 1 rfl ?_
      refine G.al X dX7_lessonsOf_13 2 rfl ?_
      refine G.get X fX7_28 dX7_lessonsOf_14 0 0 rfl rfl rfl ?_
      refine G.il X dX7_lessonsOf_17 0 rfl ?_
      refine G.nld X (i := k) dX7_lessonsOf_18 0 7 rfl rfl (by omega) (by decide) ?_
      refine G.il X dX7_lessonsOf_19 3 rfl ?_
      refine G.c_ne X (a := ((s_dp S) k)) (b := nI p) dX7_lessonsOf_20 (fun b20 => ?_) (fun b20 => ?_)
      · refine G.pu X dX7_lessonsOf_50 ?_
        refine G.ior X dX7_lessonsOf_51 ?_
        refine G.is X dX7_lessonsOf_52 (by decide) (lv' := [(2, .int ((w_les S (nI p) k) ||| 0)), (3, .int (nI k)), (0, .ref (m 0)), (1, .int (nI p))]) rfl ?_
        refine G.iinc X dX7_lessonsOf_53 1 rfl (v' := nI (k + 1)) (nI_inc k) (by decide) (lv' := [(3, .int (nI (k + 1))), (2, .int ((w_les S (nI p) k) ||| 0)), (0, .ref (m 0)), (1, .int (nI p))]) rfl ?_
        refine G.go X dX7_lessonsOf_56 ?_
        rw [show (w_les S (nI p) (k + 1)) = ((w_les S (nI p) k) ||| 0) from (by simp [w_les, w_nev, b9, b20])] at ih4
        exact ih4
      · refine G.al X dX7_lessonsOf_23 2 rfl ?_
        refine G.get X fX7_34 dX7_lessonsOf_24 0 0 rfl rfl rfl ?_
        refine G.il X dX7_lessonsOf_27 0 rfl ?_
        refine G.nld X (i := k) dX7_lessonsOf_28 0 9 rfl rfl (by omega) (by decide) ?_
        refine G.z_le X (a := ((s_le S) k)) dX7_lessonsOf_29 (fun b29 => ?_) (fun b29 => ?_)
        · refine G.pu X dX7_lessonsOf_50 ?_
          refine G.ior X dX7_lessonsOf_51 ?_
          refine G.is X dX7_lessonsOf_52 (by decide) (lv' := [(2, .int ((w_les S (nI p) k) ||| 0)), (3, .int (nI k)), (0, .ref (m 0)), (1, .int (nI p))]) rfl ?_
          refine G.iinc X dX7_lessonsOf_53 1 rfl (v' := nI (k + 1)) (nI_inc k) (by decide) (lv' := [(3, .int (nI (k + 1))), (2, .int ((w_les S (nI p) k) ||| 0)), (0, .ref (m 0)), (1, .int (nI p))]) rfl ?_
          refine G.go X dX7_lessonsOf_56 ?_
          rw [show (w_les S (nI p) (k + 1)) = ((w_les S (nI p) k) ||| 0) from (by simp [w_les, w_nev, b9, b20, b29])] at ih4
          exact ih4
        · refine G.al X dX7_lessonsOf_32 2 rfl ?_
          refine G.il X dX7_lessonsOf_33 0 rfl ?_
          refine G.cvi X kX7_isKnown lX7_190 dX7_lessonsOf_34 (tX7_isKnown l D cI cW m S M k hS (by omega)) ⟨Nat.le_of_ble_eq_true rfl, Nat.le_of_ble_eq_true rfl⟩ ⟨Nat.zero_le _, Nat.zero_le _⟩ [0] rfl ⟨rfl, rfl⟩ rfl rfl 0 0 rfl rfl rfl rfl (Nat.le_of_ble_eq_true rfl) (ff_cons (ml_fst _ _ _ _ _ _) (ff_nil)) (ws' := [ml m cI S M]) rfl ?_
          refine G.b_ne X dX7_lessonsOf_37 (fun b37 => ?_) (fun b37 => ?_)
          · refine G.pu X dX7_lessonsOf_50 ?_
            refine G.ior X dX7_lessonsOf_51 ?_
            refine G.is X dX7_lessonsOf_52 (by decide) (lv' := [(2, .int ((w_les S (nI p) k) ||| 0)), (3, .int (nI k)), (0, .ref (m 0)), (1, .int (nI p))]) rfl ?_
            refine G.iinc X dX7_lessonsOf_53 1 rfl (v' := nI (k + 1)) (nI_inc k) (by decide) (lv' := [(3, .int (nI (k + 1))), (2, .int ((w_les S (nI p) k) ||| 0)), (0, .ref (m 0)), (1, .int (nI p))]) rfl ?_
            refine G.go X dX7_lessonsOf_56 ?_
            rw [show (w_les S (nI p) (k + 1)) = ((w_les S (nI p) k) ||| 0) from (by simp [w_les, w_nev, b9, b20, b29, b37])] at ih4
            exact ih4
          · refine G.pu X dX7_lessonsOf_40 ?_
            refine G.al X dX7_lessonsOf_41 2 rfl ?_
            refine G.il X dX7_lessonsOf_42 0 rfl ?_
            refine G.cvi X kX7_topicOf lX7_175 dX7_lessonsOf_43 (tX7_topicOf l D cI cW m S M k (by omega)) ⟨Nat.le_of_ble_eq_true rfl, Nat.le_of_ble_eq_true rfl⟩ ⟨Nat.zero_le _, Nat.zero_le _⟩ [0] rfl ⟨rfl, rfl⟩ rfl rfl 0 0 rfl rfl rfl rfl (Nat.le_of_ble_eq_true rfl) (ff_cons (ml_fst _ _ _ _ _ _) (ff_nil)) (ws' := [ml m cI S M]) rfl ?_
            refine G.ishl X dX7_lessonsOf_46 ?_
            refine G.go X dX7_lessonsOf_47 ?_
            refine G.ior X dX7_lessonsOf_51 ?_
            refine G.is X dX7_lessonsOf_52 (by decide) (lv' := [(2, .int ((w_les S (nI p) k) ||| (1 <<< ((top S k) &&& 31)))), (3, .int (nI k)), (0, .ref (m 0)), (1, .int (nI p))]) rfl ?_
            refine G.iinc X dX7_lessonsOf_53 1 rfl (v' := nI (k + 1)) (nI_inc k) (by decide) (lv' := [(3, .int (nI (k + 1))), (2, .int ((w_les S (nI p) k) ||| (1 <<< ((top S k) &&& 31)))), (0, .ref (m 0)), (1, .int (nI p))]) rfl ?_
            refine G.go X dX7_lessonsOf_56 ?_
            rw [show (w_les S (nI p) (k + 1)) = ((w_les S (nI p) k) ||| (1 <<< ((top S k) &&& 31))) from (by simp [w_les, w_nev, b9, b20, b29, b37])] at ih4
            exact ih4
  have L4 := L4 0 (Nat.zero_le _)
  exact L4

set_option maxRecDepth 20000 in
theorem tX7_fewest_oth (l : Launch) (D : va_G) (cI cW : ClassId) (m : Nat → Nat) (S : WS) (M : MS) (w : Int32) (hS : Ok S) (hw : z_in w 2 = false) : CT l D cI cW yX7_fewest cX7_fewest 7 (some .int) ⟨1, 0, 0, 22⟩ [.ref (m 0), .int w] ([ml m cI S M]) (PI (-2) ([ml m cI S (m_no M 2)])) := by
  refine CT.of RX7 rfl (by decide +kernel) (Nat.le_of_ble_eq_true rfl) [(0, .ref (m 0)), (1, .int w)] rfl (fun x X Rr hnm => ?_)
  have hth := hS.th
  have hpe := hS.pe
  refine G.il X dX7_fewest_0 1 rfl ?_
  refine G.pu X dX7_fewest_1 ?_
  refine G.pu X dX7_fewest_2 ?_
  refine G.csti X kX7_isIn lX7_85 dX7_fewest_3 (tX7_isIn_no l D cI cW w 0 1 (zbt_no (n := 1) hw (by decide))) ⟨Nat.le_of_ble_eq_true rfl, Nat.le_of_ble_eq_true rfl⟩ ⟨Nat.zero_le _, Nat.zero_le _⟩ [] rfl ⟨rfl, rfl⟩ rfl rfl rfl (Nat.le_of_ble_eq_true rfl) (ff_nil) (ws' := [ml m cI S M]) rfl ?_
  refine G.b_ne X dX7_fewest_6 (fun b6 => absurd b6 (by decide)) (fun b6 => ?_)
  refine G.al X dX7_fewest_9 0 rfl ?_
  refine G.pu X dX7_fewest_10 ?_
  refine G.cvi X kX7_no lX7_74 dX7_fewest_12 (tX7_no l D cI cW m S M 2 (by omega) (by omega)) ⟨Nat.le_of_ble_eq_true rfl, Nat.le_of_ble_eq_true rfl⟩ ⟨Nat.zero_le _, Nat.zero_le _⟩ [0] rfl ⟨rfl, rfl⟩ rfl rfl 0 0 rfl rfl rfl rfl (Nat.le_of_ble_eq_true rfl) (ff_cons (ml_fst _ _ _ _ _ _) (ff_nil)) (ws' := [ml m cI S (m_no M 2)]) rfl ?_
  exact G.iret X Rr (v := (-(nI 2))) dX7_fewest_15 (pi_mk (by rfl) (by rfl))

set_option maxRecDepth 20000 in
theorem tX7_fewest_0 (l : Launch) (D : va_G) (cI cW : ClassId) (m : Nat → Nat) (S : WS) (M : MS) (hS : Ok S) : CT l D cI cW yX7_fewest cX7_fewest 7 (some .int) ⟨3, 0, 0, 66⟩ [.ref (m 0), .int 0] ([ml m cI S M]) (PI (m_lsum S (s_pe S)) ([ml m cI S M])) := by
  refine CT.of RX7 rfl (by decide +kernel) (Nat.le_of_ble_eq_true rfl) [(0, .ref (m 0)), (1, .int 0)] rfl (fun x X Rr hnm => ?_)
  have hth := hS.th
  have hpe := hS.pe
  refine G.il X dX7_fewest_0 1 rfl ?_
  refine G.pu X dX7_fewest_1 ?_
  refine G.pu X dX7_fewest_2 ?_
  refine G.csti X kX7_isIn lX7_85 dX7_fewest_3 (tX7_isIn_yes l D cI cW 0 0 1 (by omega) (by omega) (by omega)) ⟨Nat.le_of_ble_eq_true rfl, Nat.le_of_ble_eq_true rfl⟩ ⟨Nat.zero_le _, Nat.zero_le _⟩ [] rfl ⟨rfl, rfl⟩ rfl rfl rfl (Nat.le_of_ble_eq_true rfl) (ff_nil) (ws' := [ml m cI S M]) rfl ?_
  refine G.b_ne X dX7_fewest_6 (fun b6 => ?_) (fun b6 => absurd b6 (by decide))
  refine G.pu X dX7_fewest_16 ?_
  refine G.is X dX7_fewest_17 (by decide) (lv' := [(2, .int 0), (0, .ref (m 0)), (1, .int 0)]) rfl ?_
  refine G.pu X dX7_fewest_18 ?_
  refine G.is X dX7_fewest_20 (by decide) (lv' := [(3, .int (-9)), (2, .int 0), (0, .ref (m 0)), (1, .int 0)]) rfl ?_
  refine G.pu X dX7_fewest_21 ?_
  refine G.is X dX7_fewest_22 (by decide) (lv' := [(4, .int 0), (3, .int (-9)), (2, .int 0), (0, .ref (m 0)), (1, .int 0)]) rfl ?_
  refine G.pu X dX7_fewest_24 ?_
  refine G.is X dX7_fewest_25 (by decide) (lv' := [(5, .int 0), (4, .int 0), (3, .int (-9)), (2, .int 0), (0, .ref (m 0)), (1, .int 0)]) rfl ?_
  have L27 : ∀ k, k ≤ s_pe S → G x 0 0 ([ml m cI S M]) 27 [(5, .int (nI k)), (4, .int ((bmax yes (fun p => m_bits (w_les S (nI p) (s_th S)) 31) (-9, 0) k).2)), (3, .int ((bmax yes (fun p => m_bits (w_les S (nI p) (s_th S)) 31) (-9, 0) k).1)), (2, .int (m_lsum S k)), (0, .ref (m 0)), (1, .int 0)] [] := by
    refine loop_dn (s_pe S) _ ?_ ?_
    · refine G.il X dX7_fewest_27 0 rfl ?_
      refine G.al X dX7_fewest_29 4 rfl ?_
      refine G.get X fX7_64 dX7_fewest_30 0 0 rfl rfl rfl ?_
      refine G.n_ge X (a := s_pe S) (b := s_pe S) (by omega) (by omega) dX7_fewest_33 (fun b33 => ?_) (fun b33 => absurd b33 (by omega))
      refine G.il X dX7_fewest_72 5 rfl ?_
      refine G.z_ne X (a := 0) dX7_fewest_73 (fun b73 => absurd b73 (by decide)) (fun b73 => ?_)
      refine G.il X dX7_fewest_76 3 rfl ?_
      refine G.go X dX7_fewest_77 ?_
      exact G.iret X Rr (v := (m_lsum S (s_pe S))) dX7_fewest_81 (pi_mk (by rfl) (by rfl))
    · intro k hk ih27
      refine G.il X dX7_fewest_27 0 rfl ?_
      refine G.al X dX7_fewest_29 4 rfl ?_
      refine G.get X fX7_64 dX7_fewest_30 0 0 rfl rfl rfl ?_
      refine G.n_ge X (a := k) (b := s_pe S) (by omega) (by omega) dX7_fewest_33 (fun b33 => absurd b33 (by omega)) (fun b33 => ?_)
      refine G.al X dX7_fewest_36 4 rfl ?_
      refine G.il X dX7_fewest_37 0 rfl ?_
      refine G.cvi X kX7_lessonsOf lX7_247 dX7_fewest_39 (tX7_lessonsOf l D cI cW m S M k hS) ⟨Nat.le_of_ble_eq_true rfl, Nat.le_of_ble_eq_true rfl⟩ ⟨Nat.zero_le _, Nat.zero_le _⟩ [0] rfl ⟨rfl, rfl⟩ rfl rfl 0 0 rfl rfl rfl rfl (Nat.le_of_ble_eq_true rfl) (ff_cons (ml_fst _ _ _ _ _ _) (ff_nil)) (ws' := [ml m cI S M]) rfl ?_
      refine G.is X dX7_fewest_42 (by decide) (lv' := [(6, .int (m_bits (w_les S (nI k) (s_th S)) 31)), (5, .int (nI k)), (4, .int ((bmax yes (fun p => m_bits (w_les S (nI p) (s_th S)) 31) (-9, 0) k).2)), (3, .int ((bmax yes (fun p => m_bits (w_les S (nI p) (s_th S)) 31) (-9, 0) k).1)), (2, .int (m_lsum S k)), (0, .ref (m 0)), (1, .int 0)]) rfl ?_
      refine G.il X dX7_fewest_44 4 rfl ?_
      refine G.il X dX7_fewest_45 0 rfl ?_
      refine G.iadd X dX7_fewest_47 ?_
      refine G.is X dX7_fewest_48 (by decide) (lv' := [(2, .int ((m_lsum S k) + (m_bits (w_les S (nI k) (s_th S)) 31))), (6, .int (m_bits (w_les S (nI k) (s_th S)) 31)), (5, .int (nI k)), (4, .int ((bmax yes (fun p => m_bits (w_les S (nI p) (s_th S)) 31) (-9, 0) k).2)), (3, .int ((bmax yes (fun p => m_bits (w_les S (nI p) (s_th S)) 31) (-9, 0) k).1)), (0, .ref (m 0)), (1, .int 0)]) rfl ?_
      refine G.il X dX7_fewest_49 1 rfl ?_
      refine G.il X dX7_fewest_51 3 rfl ?_
      refine G.c_gt X (a := (m_bits (w_les S (nI k) (s_th S)) 31)) (b := ((bmax yes (fun p => m_bits (w_les S (nI p) (s_th S)) 31) (-9, 0) k).2)) dX7_fewest_53 (fun b53 => ?_) (fun b53 => ?_)
      · refine G.il X dX7_fewest_59 2 rfl ?_
        refine G.is X dX7_fewest_61 (by decide) (lv' := [(3, .int (nI k)), (2, .int ((m_lsum S k) + (m_bits (w_les S (nI k) (s_th S)) 31))), (6, .int (m_bits (w_les S (nI k) (s_th S)) 31)), (5, .int (nI k)), (4, .int ((bmax yes (fun p => m_bits (w_les S (nI p) (s_th S)) 31) (-9, 0) k).2)), (0, .ref (m 0)), (1, .int 0)]) rfl ?_
        refine G.il X dX7_fewest_62 2 rfl ?_
        refine G.is X dX7_fewest_64 (by decide) (lv' := [(4, .int (m_bits (w_les S (nI k) (s_th S)) 31)), (3, .int (nI k)), (2, .int ((m_lsum S k) + (m_bits (w_les S (nI k) (s_th S)) 31))), (6, .int (m_bits (w_les S (nI k) (s_th S)) 31)), (5, .int (nI k)), (0, .ref (m 0)), (1, .int 0)]) rfl ?_
        refine G.iinc X dX7_fewest_66 4 rfl (v' := nI (k + 1)) (nI_inc k) (by decide) (lv' := [(5, .int (nI (k + 1))), (4, .int (m_bits (w_les S (nI k) (s_th S)) 31)), (3, .int (nI k)), (2, .int ((m_lsum S k) + (m_bits (w_les S (nI k) (s_th S)) 31))), (6, .int (m_bits (w_les S (nI k) (s_th S)) 31)), (0, .ref (m 0)), (1, .int 0)]) rfl ?_
        refine G.go X dX7_fewest_69 ?_
        rw [show ((bmax yes (fun p => m_bits (w_les S (nI p) (s_th S)) 31) (-9, 0) (k + 1)).2) = (m_bits (w_les S (nI k) (s_th S)) 31) from (by simp [-Int32.not_lt, bmax, yes, m_lsum, b33, b53])] at ih27
        rw [show ((bmax yes (fun p => m_bits (w_les S (nI p) (s_th S)) 31) (-9, 0) (k + 1)).1) = (nI k) from (by simp [-Int32.not_lt, bmax, yes, m_lsum, b33, b53])] at ih27
        rw [show (m_lsum S (k + 1)) = ((m_lsum S k) + (m_bits (w_les S (nI k) (s_th S)) 31)) from (by simp [-Int32.not_lt, bmax, yes, m_lsum, b33, b53])] at ih27
        refine G.lvsub [0, 1, 2, 3, 5, 6] (lv' := [(5, .int (nI (k + 1))), (4, .int (m_bits (w_les S (nI k) (s_th S)) 31)), (3, .int (nI k)), (2, .int ((m_lsum S k) + (m_bits (w_les S (nI k) (s_th S)) 31))), (0, .ref (m 0)), (1, .int 0)]) rfl ?_
        exact ih27
      · refine G.go X dX7_fewest_56 ?_
        refine G.iinc X dX7_fewest_66 2 rfl (v' := nI (k + 1)) (nI_inc k) (by decide) (lv' := [(5, .int (nI (k + 1))), (2, .int ((m_lsum S k) + (m_bits (w_les S (nI k) (s_th S)) 31))), (6, .int (m_bits (w_les S (nI k) (s_th S)) 31)), (4, .int ((bmax yes (fun p => m_bits (w_les S (nI p) (s_th S)) 31) (-9, 0) k).2)), (3, .int ((bmax yes (fun p => m_bits (w_les S (nI p) (s_th S)) 31) (-9, 0) k).1)), (0, .ref (m 0)), (1, .int 0)]) rfl ?_
        refine G.go X dX7_fewest_69 ?_
        rw [show ((bmax yes (fun p => m_bits (w_les S (nI p) (s_th S)) 31) (-9, 0) (k + 1)).2) = ((bmax yes (fun p => m_bits (w_les S (nI p) (s_th S)) 31) (-9, 0) k).2) from (by simp [-Int32.not_lt, bmax, yes, m_lsum, b33, b53])] at ih27
        rw [show ((bmax yes (fun p => m_bits (w_les S (nI p) (s_th S)) 31) (-9, 0) (k + 1)).1) = ((bmax yes (fun p => m_bits (w_les S (nI p) (s_th S)) 31) (-9, 0) k).1) from (by simp [-Int32.not_lt, bmax, yes, m_lsum, b33, b53])] at ih27
        rw [show (m_lsum S (k + 1)) = ((m_lsum S k) + (m_bits (w_les S (nI k) (s_th S)) 31)) from (by simp [-Int32.not_lt, bmax, yes, m_lsum, b33, b53])] at ih27
        refine G.lvsub [0, 3, 4, 1, 5, 6] (lv' := [(5, .int (nI (k + 1))), (4, .int ((bmax yes (fun p => m_bits (w_les S (nI p) (s_th S)) 31) (-9, 0) k).2)), (3, .int ((bmax yes (fun p => m_bits (w_les S (nI p) (s_th S)) 31) (-9, 0) k).1)), (2, .int ((m_lsum S k) + (m_bits (w_les S (nI k) (s_th S)) 31))), (0, .ref (m 0)), (1, .int 0)]) rfl ?_
        exact ih27
  have L27 := L27 0 (Nat.zero_le _)
  exact L27

set_option maxRecDepth 20000 in
theorem tX7_fewest_1 (l : Launch) (D : va_G) (cI cW : ClassId) (m : Nat → Nat) (S : WS) (M : MS) (hS : Ok S) : CT l D cI cW yX7_fewest cX7_fewest 7 (some .int) ⟨3, 0, 0, 66⟩ [.ref (m 0), .int 1] ([ml m cI S M]) (PI ((bmax yes (fun p => m_bits (w_les S (nI p) (s_th S)) 31) (-9, 0) (s_pe S)).1) ([ml m cI S M])) := by
  refine CT.of RX7 rfl (by decide +kernel) (Nat.le_of_ble_eq_true rfl) [(0, .ref (m 0)), (1, .int 1)] rfl (fun x X Rr hnm => ?_)
  have hth := hS.th
  have hpe := hS.pe
  refine G.il X dX7_fewest_0 1 rfl ?_
  refine G.pu X dX7_fewest_1 ?_
  refine G.pu X dX7_fewest_2 ?_
  refine G.csti X kX7_isIn lX7_85 dX7_fewest_3 (tX7_isIn_yes l D cI cW 1 0 1 (by omega) (by omega) (by omega)) ⟨Nat.le_of_ble_eq_true rfl, Nat.le_of_ble_eq_true rfl⟩ ⟨Nat.zero_le _, Nat.zero_le _⟩ [] rfl ⟨rfl, rfl⟩ rfl rfl rfl (Nat.le_of_ble_eq_true rfl) (ff_nil) (ws' := [ml m cI S M]) rfl ?_
  refine G.b_ne X dX7_fewest_6 (fun b6 => ?_) (fun b6 => absurd b6 (by decide))
  refine G.pu X dX7_fewest_16 ?_
  refine G.is X dX7_fewest_17 (by decide) (lv' := [(2, .int 0), (0, .ref (m 0)), (1, .int 1)]) rfl ?_
  refine G.pu X dX7_fewest_18 ?_
  refine G.is X dX7_fewest_20 (by decide) (lv' := [(3, .int (-9)), (2, .int 0), (0, .ref (m 0)), (1, .int 1)]) rfl ?_
  refine G.pu X dX7_fewest_21 ?_
  refine G.is X dX7_fewest_22 (by decide) (lv' := [(4, .int 0), (3, .int (-9)), (2, .int 0), (0, .ref (m 0)), (1, .int 1)]) rfl ?_
  refine G.pu X dX7_fewest_24 ?_
  refine G.is X dX7_fewest_25 (by decide) (lv' := [(5, .int 0), (4, .int 0), (3, .int (-9)), (2, .int 0), (0, .ref (m 0)), (1, .int 1)]) rfl ?_
  have L27 : ∀ k, k ≤ s_pe S → G x 0 0 ([ml m cI S M]) 27 [(5, .int (nI k)), (4, .int ((bmax yes (fun p => m_bits (w_les S (nI p) (s_th S)) 31) (-9, 0) k).2)), (3, .int ((bmax yes (fun p => m_bits (w_les S (nI p) (s_th S)) 31) (-9, 0) k).1)), (2, .int (m_lsum S k)), (0, .ref (m 0)), (1, .int 1)] [] := by
    refine loop_dn (s_pe S) _ ?_ ?_
    · refine G.il X dX7_fewest_27 0 rfl ?_
      refine G.al X dX7_fewest_29 4 rfl ?_
      refine G.get X fX7_64 dX7_fewest_30 0 0 rfl rfl rfl ?_
      refine G.n_ge X (a := s_pe S) (b := s_pe S) (by omega) (by omega) dX7_fewest_33 (fun b33 => ?_) (fun b33 => absurd b33 (by omega))
      refine G.il X dX7_fewest_72 5 rfl ?_
      refine G.z_ne X (a := 1) dX7_fewest_73 (fun b73 => ?_) (fun b73 => absurd b73 (by decide))
      refine G.il X dX7_fewest_80 2 rfl ?_
      exact G.iret X Rr (v := ((bmax yes (fun p => m_bits (w_les S (nI p) (s_th S)) 31) (-9, 0) (s_pe S)).1)) dX7_fewest_81 (pi_mk (by rfl) (by rfl))
    · intro k hk ih27
      refine G.il X dX7_fewest_27 0 rfl ?_
      refine G.al X dX7_fewest_29 4 rfl ?_
      refine G.get X fX7_64 dX7_fewest_30 0 0 rfl rfl rfl ?_
      refine G.n_ge X (a := k) (b := s_pe S) (by omega) (by omega) dX7_fewest_33 (fun b33 => absurd b33 (by omega)) (fun b33 => ?_)
      refine G.al X dX7_fewest_36 4 rfl ?_
      refine G.il X dX7_fewest_37 0 rfl ?_
      refine G.cvi X kX7_lessonsOf lX7_247 dX7_fewest_39 (tX7_lessonsOf l D cI cW m S M k hS) ⟨Nat.le_of_ble_eq_true rfl, Nat.le_of_ble_eq_true rfl⟩ ⟨Nat.zero_le _, Nat.zero_le _⟩ [0] rfl ⟨rfl, rfl⟩ rfl rfl 0 0 rfl rfl rfl rfl (Nat.le_of_ble_eq_true rfl) (ff_cons (ml_fst _ _ _ _ _ _) (ff_nil)) (ws' := [ml m cI S M]) rfl ?_
      refine G.is X dX7_fewest_42 (by decide) (lv' := [(6, .int (m_bits (w_les S (nI k) (s_th S)) 31)), (5, .int (nI k)), (4, .int ((bmax yes (fun p => m_bits (w_les S (nI p) (s_th S)) 31) (-9, 0) k).2)), (3, .int ((bmax yes (fun p => m_bits (w_les S (nI p) (s_th S)) 31) (-9, 0) k).1)), (2, .int (m_lsum S k)), (0, .ref (m 0)), (1, .int 1)]) rfl ?_
      refine G.il X dX7_fewest_44 4 rfl ?_
      refine G.il X dX7_fewest_45 0 rfl ?_
      refine G.iadd X dX7_fewest_47 ?_
      refine G.is X dX7_fewest_48 (by decide) (lv' := [(2, .int ((m_lsum S k) + (m_bits (w_les S (nI k) (s_th S)) 31))), (6, .int (m_bits (w_les S (nI k) (s_th S)) 31)), (5, .int (nI k)), (4, .int ((bmax yes (fun p => m_bits (w_les S (nI p) (s_th S)) 31) (-9, 0) k).2)), (3, .int ((bmax yes (fun p => m_bits (w_les S (nI p) (s_th S)) 31) (-9, 0) k).1)), (0, .ref (m 0)), (1, .int 1)]) rfl ?_
      refine G.il X dX7_fewest_49 1 rfl ?_
      refine G.il X dX7_fewest_51 3 rfl ?_
      refine G.c_gt X (a := (m_bits (w_les S (nI k) (s_th S)) 31)) (b := ((bmax yes (fun p => m_bits (w_les S (nI p) (s_th S)) 31) (-9, 0) k).2)) dX7_fewest_53 (fun b53 => ?_) (fun b53 => ?_)
      · refine G.il X dX7_fewest_59 2 rfl ?_
        refine G.is X dX7_fewest_61 (by decide) (lv' := [(3, .int (nI k)), (2, .int ((m_lsum S k) + (m_bits (w_les S (nI k) (s_th S)) 31))), (6, .int (m_bits (w_les S (nI k) (s_th S)) 31)), (5, .int (nI k)), (4, .int ((bmax yes (fun p => m_bits (w_les S (nI p) (s_th S)) 31) (-9, 0) k).2)), (0, .ref (m 0)), (1, .int 1)]) rfl ?_
        refine G.il X dX7_fewest_62 2 rfl ?_
        refine G.is X dX7_fewest_64 (by decide) (lv' := [(4, .int (m_bits (w_les S (nI k) (s_th S)) 31)), (3, .int (nI k)), (2, .int ((m_lsum S k) + (m_bits (w_les S (nI k) (s_th S)) 31))), (6, .int (m_bits (w_les S (nI k) (s_th S)) 31)), (5, .int (nI k)), (0, .ref (m 0)), (1, .int 1)]) rfl ?_
        refine G.iinc X dX7_fewest_66 4 rfl (v' := nI (k + 1)) (nI_inc k) (by decide) (lv' := [(5, .int (nI (k + 1))), (4, .int (m_bits (w_les S (nI k) (s_th S)) 31)), (3, .int (nI k)), (2, .int ((m_lsum S k) + (m_bits (w_les S (nI k) (s_th S)) 31))), (6, .int (m_bits (w_les S (nI k) (s_th S)) 31)), (0, .ref (m 0)), (1, .int 1)]) rfl ?_
        refine G.go X dX7_fewest_69 ?_
        rw [show ((bmax yes (fun p => m_bits (w_les S (nI p) (s_th S)) 31) (-9, 0) (k + 1)).2) = (m_bits (w_les S (nI k) (s_th S)) 31) from (by simp [-Int32.not_lt, bmax, yes, m_lsum, b33, b53])] at ih27
        rw [show ((bmax yes (fun p => m_bits (w_les S (nI p) (s_th S)) 31) (-9, 0) (k + 1)).1) = (nI k) from (by simp [-Int32.not_lt, bmax, yes, m_lsum, b33, b53])] at ih27
        rw [show (m_lsum S (k + 1)) = ((m_lsum S k) + (m_bits (w_les S (nI k) (s_th S)) 31)) from (by simp [-Int32.not_lt, bmax, yes, m_lsum, b33, b53])] at ih27
        refine G.lvsub [0, 1, 2, 3, 5, 6] (lv' := [(5, .int (nI (k + 1))), (4, .int (m_bits (w_les S (nI k) (s_th S)) 31)), (3, .int (nI k)), (2, .int ((m_lsum S k) + (m_bits (w_les S (nI k) (s_th S)) 31))), (0, .ref (m 0)), (1, .int 1)]) rfl ?_
        exact ih27
      · refine G.go X dX7_fewest_56 ?_
        refine G.iinc X dX7_fewest_66 2 rfl (v' := nI (k + 1)) (nI_inc k) (by decide) (lv' := [(5, .int (nI (k + 1))), (2, .int ((m_lsum S k) + (m_bits (w_les S (nI k) (s_th S)) 31))), (6, .int (m_bits (w_les S (nI k) (s_th S)) 31)), (4, .int ((bmax yes (fun p => m_bits (w_les S (nI p) (s_th S)) 31) (-9, 0) k).2)), (3, .int ((bmax yes (fun p => m_bits (w_les S (nI p) (s_th S)) 31) (-9, 0) k).1)), (0, .ref (m 0)), (1, .int 1)]) rfl ?_
        refine G.go X dX7_fewest_69 ?_
        rw [show ((bmax yes (fun p => m_bits (w_les S (nI p) (s_th S)) 31) (-9, 0) (k + 1)).2) = ((bmax yes (fun p => m_bits (w_les S (nI p) (s_th S)) 31) (-9, 0) k).2) from (by simp [-Int32.not_lt, bmax, yes, m_lsum, b33, b53])] at ih27
        rw [show ((bmax yes (fun p => m_bits (w_les S (nI p) (s_th S)) 31) (-9, 0) (k + 1)).1) = ((bmax yes (fun p => m_bits (w_les S (nI p) (s_th S)) 31) (-9, 0) k).1) from (by simp [-Int32.not_lt, bmax, yes, m_lsum, b33, b53])] at ih27
        rw [show (m_lsum S (k + 1)) = ((m_lsum S k) + (m_bits (w_les S (nI k) (s_th S)) 31)) from (by simp [-Int32.not_lt, bmax, yes, m_lsum, b33, b53])] at ih27
        refine G.lvsub [0, 3, 4, 1, 5, 6] (lv' := [(5, .int (nI (k + 1))), (4, .int ((bmax yes (fun p => m_bits (w_les S (nI p) (s_th S)) 31) (-9, 0) k).2)), (3, .int ((bmax yes (fun p => m_bits (w_les S (nI p) (s_th S)) 31) (-9, 0) k).1)), (2, .int ((m_lsum S k) + (m_bits (w_les S (nI k) (s_th S)) 31))), (0, .ref (m 0)), (1, .int 1)]) rfl ?_
        exact ih27
  have L27 := L27 0 (Nat.zero_le _)
  exact L27

set_option maxRecDepth 20000 in
theorem tX7_teach_lo (l : Launch) (D : va_G) (cI cW : ClassId) (m : Nat → Nat) (S : WS) (M : MS) (n : Int32) (h1 : n < 1) : CT l D cI cW yX7_teach cX7_teach 8 (some .int) ⟨2, 0, 0, 42⟩ [.ref (m 0), .int n] ([ml m cI S M]) (PI (-4) ([ml m cI S (m_no M 4)])) := by
  refine CT.of RX7 rfl (by decide +kernel) (Nat.le_of_ble_eq_true rfl) [(0, .ref (m 0)), (1, .int n)] rfl (fun x X Rr hnm => ?_)
  refine G.il X dX7_teach_0 1 rfl ?_
  refine G.csti X kX7_notForty lX7_241 dX7_teach_1 (tX7_notForty_lo l D cI cW n h1) ⟨Nat.le_of_ble_eq_true rfl, Nat.le_of_ble_eq_true rfl⟩ ⟨Nat.zero_le _, Nat.zero_le _⟩ [] rfl ⟨rfl, rfl⟩ rfl rfl rfl (Nat.le_of_ble_eq_true rfl) (ff_nil) (ws' := [ml m cI S M]) rfl ?_
  refine G.is X dX7_teach_4 (by decide) (lv' := [(2, .int (-4)), (0, .ref (m 0)), (1, .int n)]) rfl ?_
  refine G.il X dX7_teach_5 0 rfl ?_
  refine G.z_eq X (a := (-4)) dX7_teach_6 (fun b6 => absurd b6 (by decide)) (fun b6 => ?_)
  refine G.al X dX7_teach_9 1 rfl ?_
  refine G.il X dX7_teach_10 0 rfl ?_
  refine G.cvi X kX7_no lX7_74 dX7_teach_11 (tX7_no l D cI cW m S M 4 (by omega) (by omega)) ⟨Nat.le_of_ble_eq_true rfl, Nat.le_of_ble_eq_true rfl⟩ ⟨Nat.zero_le _, Nat.zero_le _⟩ [0] rfl ⟨rfl, rfl⟩ rfl rfl 0 0 rfl rfl rfl rfl (Nat.le_of_ble_eq_true rfl) (ff_cons (ml_fst _ _ _ _ _ _) (ff_nil)) (ws' := [ml m cI S (m_no M 4)]) rfl ?_
  exact G.iret X Rr (v := (-(nI 4))) dX7_teach_14 (pi_mk (by rfl) (by rfl))

set_option maxRecDepth 20000 in
theorem tX7_teach_hi (l : Launch) (D : va_G) (cI cW : ClassId) (m : Nat → Nat) (S : WS) (M : MS) (n : Int32) (h1 : ¬ n < 1) (h2 : 40 < n) : CT l D cI cW yX7_teach cX7_teach 8 (some .int) ⟨2, 0, 0, 42⟩ [.ref (m 0), .int n] ([ml m cI S M]) (PI (-6) ([ml m cI S (m_no M 6)])) := by
  refine CT.of RX7 rfl (by decide +kernel) (Nat.le_of_ble_eq_true rfl) [(0, .ref (m 0)), (1, .int n)] rfl (fun x X Rr hnm => ?_)
  refine G.il X dX7_teach_0 1 rfl ?_
  refine G.csti X kX7_notForty lX7_241 dX7_teach_1 (tX7_notForty_hi l D cI cW n h1 h2) ⟨Nat.le_of_ble_eq_true rfl, Nat.le_of_ble_eq_true rfl⟩ ⟨Nat.zero_le _, Nat.zero_le _⟩ [] rfl ⟨rfl, rfl⟩ rfl rfl rfl (Nat.le_of_ble_eq_true rfl) (ff_nil) (ws' := [ml m cI S M]) rfl ?_
  refine G.is X dX7_teach_4 (by decide) (lv' := [(2, .int (-6)), (0, .ref (m 0)), (1, .int n)]) rfl ?_
  refine G.il X dX7_teach_5 0 rfl ?_
  refine G.z_eq X (a := (-6)) dX7_teach_6 (fun b6 => absurd b6 (by decide)) (fun b6 => ?_)
  refine G.al X dX7_teach_9 1 rfl ?_
  refine G.il X dX7_teach_10 0 rfl ?_
  refine G.cvi X kX7_no lX7_74 dX7_teach_11 (tX7_no l D cI cW m S M 6 (by omega) (by omega)) ⟨Nat.le_of_ble_eq_true rfl, Nat.le_of_ble_eq_true rfl⟩ ⟨Nat.zero_le _, Nat.zero_le _⟩ [0] rfl ⟨rfl, rfl⟩ rfl rfl 0 0 rfl rfl rfl rfl (Nat.le_of_ble_eq_true rfl) (ff_cons (ml_fst _ _ _ _ _ _) (ff_nil)) (ws' := [ml m cI S (m_no M 6)]) rfl ?_
  exact G.iret X Rr (v := (-(nI 6))) dX7_teach_14 (pi_mk (by rfl) (by rfl))

set_option maxRecDepth 20000 in
theorem tX7_bold_lo (l : Launch) (D : va_G) (cI cW : ClassId) (m : Nat → Nat) (S : WS) (M : MS) (n : Int32) (h1 : n < 1) : CT l D cI cW yX7_bold cX7_bold 8 (some .int) ⟨2, 0, 0, 42⟩ [.ref (m 0), .int n] ([ml m cI S M]) (PI (-4) ([ml m cI S (m_no M 4)])) := by
  refine CT.of RX7 rfl (by decide +kernel) (Nat.le_of_ble_eq_true rfl) [(0, .ref (m 0)), (1, .int n)] rfl (fun x X Rr hnm => ?_)
  refine G.il X dX7_bold_0 1 rfl ?_
  refine G.csti X kX7_notForty lX7_241 dX7_bold_1 (tX7_notForty_lo l D cI cW n h1) ⟨Nat.le_of_ble_eq_true rfl, Nat.le_of_ble_eq_true rfl⟩ ⟨Nat.zero_le _, Nat.zero_le _⟩ [] rfl ⟨rfl, rfl⟩ rfl rfl rfl (Nat.le_of_ble_eq_true rfl) (ff_nil) (ws' := [ml m cI S M]) rfl ?_
  refine G.is X dX7_bold_4 (by decide) (lv' := [(2, .int (-4)), (0, .ref (m 0)), (1, .int n)]) rfl ?_
  refine G.il X dX7_bold_5 0 rfl ?_
  refine G.z_eq X (a := (-4)) dX7_bold_6 (fun b6 => absurd b6 (by decide)) (fun b6 => ?_)
  refine G.al X dX7_bold_9 1 rfl ?_
  refine G.il X dX7_bold_10 0 rfl ?_
  refine G.cvi X kX7_no lX7_74 dX7_bold_11 (tX7_no l D cI cW m S M 4 (by omega) (by omega)) ⟨Nat.le_of_ble_eq_true rfl, Nat.le_of_ble_eq_true rfl⟩ ⟨Nat.zero_le _, Nat.zero_le _⟩ [0] rfl ⟨rfl, rfl⟩ rfl rfl 0 0 rfl rfl rfl rfl (Nat.le_of_ble_eq_true rfl) (ff_cons (ml_fst _ _ _ _ _ _) (ff_nil)) (ws' := [ml m cI S (m_no M 4)]) rfl ?_
  exact G.iret X Rr (v := (-(nI 4))) dX7_bold_14 (pi_mk (by rfl) (by rfl))

set_option maxRecDepth 20000 in
theorem tX7_bold_hi (l : Launch) (D : va_G) (cI cW : ClassId) (m : Nat → Nat) (S : WS) (M : MS) (n : Int32) (h1 : ¬ n < 1) (h2 : 40 < n) : CT l D cI cW yX7_bold cX7_bold 8 (some .int) ⟨2, 0, 0, 42⟩ [.ref (m 0), .int n] ([ml m cI S M]) (PI (-6) ([ml m cI S (m_no M 6)])) := by
  refine CT.of RX7 rfl (by decide +kernel) (Nat.le_of_ble_eq_true rfl) [(0, .ref (m 0)), (1, .int n)] rfl (fun x X Rr hnm => ?_)
  refine G.il X dX7_bold_0 1 rfl ?_
  refine G.csti X kX7_notForty lX7_241 dX7_bold_1 (tX7_notForty_hi l D cI cW n h1 h2) ⟨Nat.le_of_ble_eq_true rfl, Nat.le_of_ble_eq_true rfl⟩ ⟨Nat.zero_le _, Nat.zero_le _⟩ [] rfl ⟨rfl, rfl⟩ rfl rfl rfl (Nat.le_of_ble_eq_true rfl) (ff_nil) (ws' := [ml m cI S M]) rfl ?_
  refine G.is X dX7_bold_4 (by decide) (lv' := [(2, .int (-6)), (0, .ref (m 0)), (1, .int n)]) rfl ?_
  refine G.il X dX7_bold_5 0 rfl ?_
  refine G.z_eq X (a := (-6)) dX7_bold_6 (fun b6 => absurd b6 (by decide)) (fun b6 => ?_)
  refine G.al X dX7_bold_9 1 rfl ?_
  refine G.il X dX7_bold_10 0 rfl ?_
  refine G.cvi X kX7_no lX7_74 dX7_bold_11 (tX7_no l D cI cW m S M 6 (by omega) (by omega)) ⟨Nat.le_of_ble_eq_true rfl, Nat.le_of_ble_eq_true rfl⟩ ⟨Nat.zero_le _, Nat.zero_le _⟩ [0] rfl ⟨rfl, rfl⟩ rfl rfl 0 0 rfl rfl rfl rfl (Nat.le_of_ble_eq_true rfl) (ff_cons (ml_fst _ _ _ _ _ _) (ff_nil)) (ws' := [ml m cI S (m_no M 6)]) rfl ?_
  exact G.iret X Rr (v := (-(nI 6))) dX7_bold_14 (pi_mk (by rfl) (by rfl))

set_option maxRecDepth 20000 in
theorem tX7_keepOut_lo (l : Launch) (D : va_G) (cI cW : ClassId) (m : Nat → Nat) (S : WS) (M : MS) (n : Int32) (h1 : n < 1) : CT l D cI cW yX7_keepOut cX7_keepOut 8 (some .int) ⟨2, 0, 0, 42⟩ [.ref (m 0), .int n] ([ml m cI S M]) (PI (-4) ([ml m cI S (m_no M 4)])) := by
  refine CT.of RX7 rfl (by decide +kernel) (Nat.le_of_ble_eq_true rfl) [(0, .ref (m 0)), (1, .int n)] rfl (fun x X Rr hnm => ?_)
  refine G.il X dX7_keepOut_0 1 rfl ?_
  refine G.csti X kX7_notForty lX7_241 dX7_keepOut_1 (tX7_notForty_lo l D cI cW n h1) ⟨Nat.le_of_ble_eq_true rfl, Nat.le_of_ble_eq_true rfl⟩ ⟨Nat.zero_le _, Nat.zero_le _⟩ [] rfl ⟨rfl, rfl⟩ rfl rfl rfl (Nat.le_of_ble_eq_true rfl) (ff_nil) (ws' := [ml m cI S M]) rfl ?_
  refine G.is X dX7_keepOut_4 (by decide) (lv' := [(2, .int (-4)), (0, .ref (m 0)), (1, .int n)]) rfl ?_
  refine G.il X dX7_keepOut_5 0 rfl ?_
  refine G.z_eq X (a := (-4)) dX7_keepOut_6 (fun b6 => absurd b6 (by decide)) (fun b6 => ?_)
  refine G.al X dX7_keepOut_9 1 rfl ?_
  refine G.il X dX7_keepOut_10 0 rfl ?_
  refine G.cvi X kX7_no lX7_74 dX7_keepOut_11 (tX7_no l D cI cW m S M 4 (by omega) (by omega)) ⟨Nat.le_of_ble_eq_true rfl, Nat.le_of_ble_eq_true rfl⟩ ⟨Nat.zero_le _, Nat.zero_le _⟩ [0] rfl ⟨rfl, rfl⟩ rfl rfl 0 0 rfl rfl rfl rfl (Nat.le_of_ble_eq_true rfl) (ff_cons (ml_fst _ _ _ _ _ _) (ff_nil)) (ws' := [ml m cI S (m_no M 4)]) rfl ?_
  exact G.iret X Rr (v := (-(nI 4))) dX7_keepOut_14 (pi_mk (by rfl) (by rfl))

set_option maxRecDepth 20000 in
theorem tX7_keepOut_hi (l : Launch) (D : va_G) (cI cW : ClassId) (m : Nat → Nat) (S : WS) (M : MS) (n : Int32) (h1 : ¬ n < 1) (h2 : 40 < n) : CT l D cI cW yX7_keepOut cX7_keepOut 8 (some .int) ⟨2, 0, 0, 42⟩ [.ref (m 0), .int n] ([ml m cI S M]) (PI (-6) ([ml m cI S (m_no M 6)])) := by
  refine CT.of RX7 rfl (by decide +kernel) (Nat.le_of_ble_eq_true rfl) [(0, .ref (m 0)), (1, .int n)] rfl (fun x X Rr hnm => ?_)
  refine G.il X dX7_keepOut_0 1 rfl ?_
  refine G.csti X kX7_notForty lX7_241 dX7_keepOut_1 (tX7_notForty_hi l D cI cW n h1 h2) ⟨Nat.le_of_ble_eq_true rfl, Nat.le_of_ble_eq_true rfl⟩ ⟨Nat.zero_le _, Nat.zero_le _⟩ [] rfl ⟨rfl, rfl⟩ rfl rfl rfl (Nat.le_of_ble_eq_true rfl) (ff_nil) (ws' := [ml m cI S M]) rfl ?_
  refine G.is X dX7_keepOut_4 (by decide) (lv' := [(2, .int (-6)), (0, .ref (m 0)), (1, .int n)]) rfl ?_
  refine G.il X dX7_keepOut_5 0 rfl ?_
  refine G.z_eq X (a := (-6)) dX7_keepOut_6 (fun b6 => absurd b6 (by decide)) (fun b6 => ?_)
  refine G.al X dX7_keepOut_9 1 rfl ?_
  refine G.il X dX7_keepOut_10 0 rfl ?_
  refine G.cvi X kX7_no lX7_74 dX7_keepOut_11 (tX7_no l D cI cW m S M 6 (by omega) (by omega)) ⟨Nat.le_of_ble_eq_true rfl, Nat.le_of_ble_eq_true rfl⟩ ⟨Nat.zero_le _, Nat.zero_le _⟩ [0] rfl ⟨rfl, rfl⟩ rfl rfl 0 0 rfl rfl rfl rfl (Nat.le_of_ble_eq_true rfl) (ff_cons (ml_fst _ _ _ _ _ _) (ff_nil)) (ws' := [ml m cI S (m_no M 6)]) rfl ?_
  exact G.iret X Rr (v := (-(nI 6))) dX7_keepOut_14 (pi_mk (by rfl) (by rfl))

set_option maxRecDepth 20000 in
theorem tX7_again_lo (l : Launch) (D : va_G) (cI cW : ClassId) (m : Nat → Nat) (S : WS) (M : MS) (n : Int32) (h1 : n < 1) : CT l D cI cW yX7_again cX7_again 7 (some .int) ⟨2, 0, 0, 42⟩ [.ref (m 0), .int n] ([ml m cI S M]) (PI (-4) ([ml m cI S (m_no M 4)])) := by
  refine CT.of RX7 rfl (by decide +kernel) (Nat.le_of_ble_eq_true rfl) [(0, .ref (m 0)), (1, .int n)] rfl (fun x X Rr hnm => ?_)
  refine G.il X dX7_again_0 1 rfl ?_
  refine G.csti X kX7_notForty lX7_241 dX7_again_1 (tX7_notForty_lo l D cI cW n h1) ⟨Nat.le_of_ble_eq_true rfl, Nat.le_of_ble_eq_true rfl⟩ ⟨Nat.zero_le _, Nat.zero_le _⟩ [] rfl ⟨rfl, rfl⟩ rfl rfl rfl (Nat.le_of_ble_eq_true rfl) (ff_nil) (ws' := [ml m cI S M]) rfl ?_
  refine G.is X dX7_again_4 (by decide) (lv' := [(2, .int (-4)), (0, .ref (m 0)), (1, .int n)]) rfl ?_
  refine G.il X dX7_again_5 0 rfl ?_
  refine G.z_eq X (a := (-4)) dX7_again_6 (fun b6 => absurd b6 (by decide)) (fun b6 => ?_)
  refine G.al X dX7_again_9 1 rfl ?_
  refine G.il X dX7_again_10 0 rfl ?_
  refine G.cvi X kX7_no lX7_74 dX7_again_11 (tX7_no l D cI cW m S M 4 (by omega) (by omega)) ⟨Nat.le_of_ble_eq_true rfl, Nat.le_of_ble_eq_true rfl⟩ ⟨Nat.zero_le _, Nat.zero_le _⟩ [0] rfl ⟨rfl, rfl⟩ rfl rfl 0 0 rfl rfl rfl rfl (Nat.le_of_ble_eq_true rfl) (ff_cons (ml_fst _ _ _ _ _ _) (ff_nil)) (ws' := [ml m cI S (m_no M 4)]) rfl ?_
  exact G.iret X Rr (v := (-(nI 4))) dX7_again_14 (pi_mk (by rfl) (by rfl))

set_option maxRecDepth 20000 in
theorem tX7_again_hi (l : Launch) (D : va_G) (cI cW : ClassId) (m : Nat → Nat) (S : WS) (M : MS) (n : Int32) (h1 : ¬ n < 1) (h2 : 40 < n) : CT l D cI cW yX7_again cX7_again 7 (some .int) ⟨2, 0, 0, 42⟩ [.ref (m 0), .int n] ([ml m cI S M]) (PI (-6) ([ml m cI S (m_no M 6)])) := by
  refine CT.of RX7 rfl (by decide +kernel) (Nat.le_of_ble_eq_true rfl) [(0, .ref (m 0)), (1, .int n)] rfl (fun x X Rr hnm => ?_)
  refine G.il X dX7_again_0 1 rfl ?_
  refine G.csti X kX7_notForty lX7_241 dX7_again_1 (tX7_notForty_hi l D cI cW n h1 h2) ⟨Nat.le_of_ble_eq_true rfl, Nat.le_of_ble_eq_true rfl⟩ ⟨Nat.zero_le _, Nat.zero_le _⟩ [] rfl ⟨rfl, rfl⟩ rfl rfl rfl (Nat.le_of_ble_eq_true rfl) (ff_nil) (ws' := [ml m cI S M]) rfl ?_
  refine G.is X dX7_again_4 (by decide) (lv' := [(2, .int (-6)), (0, .ref (m 0)), (1, .int n)]) rfl ?_
  refine G.il X dX7_again_5 0 rfl ?_
  refine G.z_eq X (a := (-6)) dX7_again_6 (fun b6 => absurd b6 (by decide)) (fun b6 => ?_)
  refine G.al X dX7_again_9 1 rfl ?_
  refine G.il X dX7_again_10 0 rfl ?_
  refine G.cvi X kX7_no lX7_74 dX7_again_11 (tX7_no l D cI cW m S M 6 (by omega) (by omega)) ⟨Nat.le_of_ble_eq_true rfl, Nat.le_of_ble_eq_true rfl⟩ ⟨Nat.zero_le _, Nat.zero_le _⟩ [0] rfl ⟨rfl, rfl⟩ rfl rfl 0 0 rfl rfl rfl rfl (Nat.le_of_ble_eq_true rfl) (ff_cons (ml_fst _ _ _ _ _ _) (ff_nil)) (ws' := [ml m cI S (m_no M 6)]) rfl ?_
  exact G.iret X Rr (v := (-(nI 6))) dX7_again_14 (pi_mk (by rfl) (by rfl))

set_option maxRecDepth 20000 in
theorem tX7_bold_ok (l : Launch) (D : va_G) (cI cW : ClassId) (m : Nat → Nat) (S : WS) (M : MS) (n : Nat) (hS : Ok S) (hco : m_co M = false) (h1 : 1 ≤ n) (h2 : n ≤ 40) : CT l D cI cW yX7_bold cX7_bold 8 (some .int) ⟨5, 0, 0, 110⟩ [.ref (m 0), .int (nI n)] ([ml m cI S M]) (PIE ((bmax yes (fun p => nI (w_wet (w_bld S p) n)) (-9, nI (w_wet S n)) (s_pe S)).1) (fun M9 : {M9 : MS // Mq 64 M M9} => [ml m cI S M9.1])) := by
  refine CT.of RX7 rfl (by decide +kernel) (Nat.le_of_ble_eq_true rfl) [(0, .ref (m 0)), (1, .int (nI n))] rfl (fun x X Rr hnm => ?_)
  have hth := hS.th
  have hpe := hS.pe
  refine G.il X dX7_bold_0 1 rfl ?_
  refine G.csti X kX7_notForty lX7_241 dX7_bold_1 (tX7_notForty_ok l D cI cW n h1 h2) ⟨Nat.le_of_ble_eq_true rfl, Nat.le_of_ble_eq_true rfl⟩ ⟨Nat.zero_le _, Nat.zero_le _⟩ [] rfl ⟨rfl, rfl⟩ rfl rfl rfl (Nat.le_of_ble_eq_true rfl) (ff_nil) (ws' := [ml m cI S M]) rfl ?_
  refine G.is X dX7_bold_4 (by decide) (lv' := [(2, .int 0), (0, .ref (m 0)), (1, .int (nI n))]) rfl ?_
  refine G.il X dX7_bold_5 0 rfl ?_
  refine G.z_eq X (a := 0) dX7_bold_6 (fun b6 => ?_) (fun b6 => absurd b6 (by decide))
  refine G.pu X dX7_bold_15 ?_
  refine G.is X dX7_bold_17 (by decide) (lv' := [(3, .int (-9)), (2, .int 0), (0, .ref (m 0)), (1, .int (nI n))]) rfl ?_
  refine G.al X dX7_bold_18 2 rfl ?_
  refine G.il X dX7_bold_19 3 rfl ?_
  refine G.cvi X kX7_wetDays lX7_238 dX7_bold_20 (tX7_wetDays l D cI cW m S M n hS hco (by omega)) ⟨Nat.le_of_ble_eq_true rfl, Nat.le_of_ble_eq_true rfl⟩ ⟨Nat.zero_le _, Nat.zero_le _⟩ [0] rfl ⟨rfl, rfl⟩ rfl rfl 0 0 rfl rfl rfl rfl (Nat.le_of_ble_eq_true rfl) (ff_cons (ml_fst _ _ _ _ _ _) (ff_nil)) (ws' := [ml m cI S (m_wd M S n)]) rfl ?_
  refine G.is X dX7_bold_23 (by decide) (lv' := [(4, .int (nI (w_wet S n))), (3, .int (-9)), (2, .int 0), (0, .ref (m 0)), (1, .int (nI n))]) rfl ?_
  refine G.pu X dX7_bold_25 ?_
  refine G.is X dX7_bold_26 (by decide) (lv' := [(5, .int 0), (4, .int (nI (w_wet S n))), (3, .int (-9)), (2, .int 0), (0, .ref (m 0)), (1, .int (nI n))]) rfl ?_
  have L28 : ∀ k, k ≤ s_pe S → ∀ M8 : {M8 : MS // Mq 64 M M8}, G x 0 0 ([ml m cI S M8.1]) 28 [(5, .int (nI k)), (4, .int ((bmax yes (fun p => nI (w_wet (w_bld S p) n)) (-9, nI (w_wet S n)) k).2)), (3, .int ((bmax yes (fun p => nI (w_wet (w_bld S p) n)) (-9, nI (w_wet S n)) k).1)), (0, .ref (m 0)), (1, .int (nI n))] [] := by
    refine loop_dn (s_pe S) _ ?_ ?_
    · intro M8
      refine G.il X dX7_bold_28 0 rfl ?_
      refine G.al X dX7_bold_30 3 rfl ?_
      refine G.get X fX7_64 dX7_bold_31 0 0 rfl rfl rfl ?_
      refine G.n_ge X (a := s_pe S) (b := s_pe S) (by omega) (by omega) dX7_bold_34 (fun b34 => ?_) (fun b34 => absurd b34 (by omega))
      refine G.il X dX7_bold_93 2 rfl ?_
      exact G.iret X Rr (v := ((bmax yes (fun p => nI (w_wet (w_bld S p) n)) (-9, nI (w_wet S n)) (s_pe S)).1)) dX7_bold_94 (pie_mk (qk (M8.2)) (by rfl) (by rfl))
    · intro k hk ih28 M8
      refine G.il X dX7_bold_28 0 rfl ?_
      refine G.al X dX7_bold_30 3 rfl ?_
      refine G.get X fX7_64 dX7_bold_31 0 0 rfl rfl rfl ?_
      refine G.n_ge X (a := k) (b := s_pe S) (by omega) (by omega) dX7_bold_34 (fun b34 => absurd b34 (by omega)) (fun b34 => ?_)
      refine G.al X dX7_bold_37 3 rfl ?_
      refine G.get X fX7_16 dX7_bold_38 0 0 rfl rfl rfl ?_
      refine G.il X dX7_bold_41 0 rfl ?_
      refine G.nld X (i := k) dX7_bold_43 0 3 rfl rfl (by omega) (by decide) ?_
      refine G.is X dX7_bold_44 (by decide) (lv' := [(6, .int ((s_sh S) k)), (5, .int (nI k)), (4, .int ((bmax yes (fun p => nI (w_wet (w_bld S p) n)) (-9, nI (w_wet S n)) k).2)), (3, .int ((bmax yes (fun p => nI (w_wet (w_bld S p) n)) (-9, nI (w_wet S n)) k).1)), (0, .ref (m 0)), (1, .int (nI n))]) rfl ?_
      refine G.al X dX7_bold_46 4 rfl ?_
      refine G.get X fX7_16 dX7_bold_47 0 0 rfl rfl rfl ?_
      refine G.il X dX7_bold_50 1 rfl ?_
      refine G.pu X dX7_bold_52 ?_
      refine G.nst X (i := k) dX7_bold_53 0 3 rfl rfl (by omega) (by decide) (blk' := ml m cI (s_pe S, s_th S, s_da S, s_dr S, s_kn S, upd (s_sh S) k 0, s_an S, s_ki S, s_we S, s_dp S, s_wa S, s_le S) M8.1) rfl (ws' := [ml m cI (s_pe S, s_th S, s_da S, s_dr S, s_kn S, upd (s_sh S) k 0, s_an S, s_ki S, s_we S, s_dp S, s_wa S, s_le S) M8.1]) rfl ?_
      refine G.cg (ws' := [ml m cI (w_bld S k) M8.1]) rfl rfl rfl ?_
      refine G.al X dX7_bold_54 4 rfl ?_
      refine G.il X dX7_bold_55 5 rfl ?_
      refine G.cvi X kX7_wetDays lX7_238 dX7_bold_56 (tX7_wetDays l D cI cW m (w_bld S k) M8.1 n (ok_bld hS k) (M8.2.co hco) (by omega)) ⟨Nat.le_of_ble_eq_true rfl, Nat.le_of_ble_eq_true rfl⟩ ⟨Nat.zero_le _, Nat.zero_le _⟩ [0] rfl ⟨rfl, rfl⟩ rfl rfl 0 0 rfl rfl rfl rfl (Nat.le_of_ble_eq_true rfl) (ff_cons (ml_fst _ _ _ _ _ _) (ff_nil)) (ws' := [ml m cI (w_bld S k) (m_wd M8.1 (w_bld S k) n)]) rfl ?_
      refine G.is X dX7_bold_59 (by decide) (lv' := [(7, .int (nI (w_wet (w_bld S k) n))), (6, .int ((s_sh S) k)), (5, .int (nI k)), (4, .int ((bmax yes (fun p => nI (w_wet (w_bld S p) n)) (-9, nI (w_wet S n)) k).2)), (3, .int ((bmax yes (fun p => nI (w_wet (w_bld S p) n)) (-9, nI (w_wet S n)) k).1)), (0, .ref (m 0)), (1, .int (nI n))]) rfl ?_
      refine G.al X dX7_bold_61 5 rfl ?_
      refine G.get X fX7_16 dX7_bold_62 0 0 rfl rfl rfl ?_
      refine G.il X dX7_bold_65 2 rfl ?_
      refine G.il X dX7_bold_67 1 rfl ?_
      refine G.nst X (i := k) dX7_bold_69 0 3 rfl rfl (by omega) (by decide) (blk' := ml m cI (s_pe (w_bld S k), s_th (w_bld S k), s_da (w_bld S k), s_dr (w_bld S k), s_kn (w_bld S k), upd (s_sh (w_bld S k)) k ((s_sh S) k), s_an (w_bld S k), s_ki (w_bld S k), s_we (w_bld S k), s_dp (w_bld S k), s_wa (w_bld S k), s_le (w_bld S k)) (m_wd M8.1 (w_bld S k) n)) rfl (ws' := [ml m cI (s_pe (w_bld S k), s_th (w_bld S k), s_da (w_bld S k), s_dr (w_bld S k), s_kn (w_bld S k), upd (s_sh (w_bld S k)) k ((s_sh S) k), s_an (w_bld S k), s_ki (w_bld S k), s_we (w_bld S k), s_dp (w_bld S k), s_wa (w_bld S k), s_le (w_bld S k)) (m_wd M8.1 (w_bld S k) n)]) rfl ?_
      refine G.cg (ws' := [ml m cI S (m_wd M8.1 (w_bld S k) n)]) (congrArg (fun T => [ml m cI T (m_wd M8.1 (w_bld S k) n)]) (bld_back S k)) rfl rfl ?_
      refine G.il X dX7_bold_70 0 rfl ?_
      refine G.il X dX7_bold_72 3 rfl ?_
      refine G.c_gt X (a := nI (w_wet (w_bld S k) n)) (b := ((bmax yes (fun p => nI (w_wet (w_bld S p) n)) (-9, nI (w_wet S n)) k).2)) dX7_bold_74 (fun b74 => ?_) (fun b74 => ?_)
      · refine G.il X dX7_bold_80 2 rfl ?_
        refine G.is X dX7_bold_82 (by decide) (lv' := [(3, .int (nI k)), (7, .int (nI (w_wet (w_bld S k) n))), (6, .int ((s_sh S) k)), (5, .int (nI k)), (4, .int ((bmax yes (fun p => nI (w_wet (w_bld S p) n)) (-9, nI (w_wet S n)) k).2)), (0, .ref (m 0)), (1, .int (nI n))]) rfl ?_
        refine G.il X dX7_bold_83 1 rfl ?_
        refine G.is X dX7_bold_85 (by decide) (lv' := [(4, .int (nI (w_wet (w_bld S k) n))), (3, .int (nI k)), (7, .int (nI (w_wet (w_bld S k) n))), (6, .int ((s_sh S) k)), (5, .int (nI k)), (0, .ref (m 0)), (1, .int (nI n))]) rfl ?_
        refine G.iinc X dX7_bold_87 4 rfl (v' := nI (k + 1)) (nI_inc k) (by decide) (lv' := [(5, .int (nI (k + 1))), (4, .int (nI (w_wet (w_bld S k) n))), (3, .int (nI k)), (7, .int (nI (w_wet (w_bld S k) n))), (6, .int ((s_sh S) k)), (0, .ref (m 0)), (1, .int (nI n))]) rfl ?_
        refine G.go X dX7_bold_90 ?_
        replace ih28 := ih28 (qk ((M8.2).tr (mq_wd M8.1 (w_bld S k) n) (by decide)))
        rw [show ((bmax yes (fun p => nI (w_wet (w_bld S p) n)) (-9, nI (w_wet S n)) (k + 1)).2) = (nI (w_wet (w_bld S k) n)) from (by simp [-Int32.not_lt, bmax, bmin, yes, b34, b74])] at ih28
        rw [show ((bmax yes (fun p => nI (w_wet (w_bld S p) n)) (-9, nI (w_wet S n)) (k + 1)).1) = (nI k) from (by simp [-Int32.not_lt, bmax, bmin, yes, b34, b74])] at ih28
        refine G.lvsub [0, 1, 2, 5, 6] (lv' := [(5, .int (nI (k + 1))), (4, .int (nI (w_wet (w_bld S k) n))), (3, .int (nI k)), (0, .ref (m 0)), (1, .int (nI n))]) rfl ?_
        exact ih28
      · refine G.go X dX7_bold_77 ?_
        refine G.iinc X dX7_bold_87 2 rfl (v' := nI (k + 1)) (nI_inc k) (by decide) (lv' := [(5, .int (nI (k + 1))), (7, .int (nI (w_wet (w_bld S k) n))), (6, .int ((s_sh S) k)), (4, .int ((bmax yes (fun p => nI (w_wet (w_bld S p) n)) (-9, nI (w_wet S n)) k).2)), (3, .int ((bmax yes (fun p => nI (w_wet (w_bld S p) n)) (-9, nI (w_wet S n)) k).1)), (0, .ref (m 0)), (1, .int (nI n))]) rfl ?_
        refine G.go X dX7_bold_90 ?_
        replace ih28 := ih28 (qk ((M8.2).tr (mq_wd M8.1 (w_bld S k) n) (by decide)))
        rw [show ((bmax yes (fun p => nI (w_wet (w_bld S p) n)) (-9, nI (w_wet S n)) (k + 1)).2) = ((bmax yes (fun p => nI (w_wet (w_bld S p) n)) (-9, nI (w_wet S n)) k).2) from (by simp [-Int32.not_lt, bmax, bmin, yes, b34, b74])] at ih28
        rw [show ((bmax yes (fun p => nI (w_wet (w_bld S p) n)) (-9, nI (w_wet S n)) (k + 1)).1) = ((bmax yes (fun p => nI (w_wet (w_bld S p) n)) (-9, nI (w_wet S n)) k).1) from (by simp [-Int32.not_lt, bmax, bmin, yes, b34, b74])] at ih28
        refine G.lvsub [0, 3, 4, 5, 6] (lv' := [(5, .int (nI (k + 1))), (4, .int ((bmax yes (fun p => nI (w_wet (w_bld S p) n)) (-9, nI (w_wet S n)) k).2)), (3, .int ((bmax yes (fun p => nI (w_wet (w_bld S p) n)) (-9, nI (w_wet S n)) k).1)), (0, .ref (m 0)), (1, .int (nI n))]) rfl ?_
        exact ih28
  refine G.lvsub [0, 1, 2, 4, 5] (lv' := [(5, .int 0), (4, .int (nI (w_wet S n))), (3, .int (-9)), (0, .ref (m 0)), (1, .int (nI n))]) rfl ?_
  have L28 := L28 0 (Nat.zero_le _) (qk ((Mq.rf 64 M).tr (mq_wd M S n) (by decide)))
  exact L28

set_option maxRecDepth 20000 in
theorem tX7_keepOut_ok (l : Launch) (D : va_G) (cI cW : ClassId) (m : Nat → Nat) (S : WS) (M : MS) (n : Nat) (hS : Ok S) (hco : m_co M = false) (h1 : 1 ≤ n) (h2 : n ≤ 40) : CT l D cI cW yX7_keepOut cX7_keepOut 8 (some .int) ⟨5, 0, 0, 110⟩ [.ref (m 0), .int (nI n)] ([ml m cI S M]) (PIE ((bmax yes (fun i => nI (w_wet (w_out S i) n)) (-9, nI (w_wet S n)) (s_th S)).1) (fun M9 : {M9 : MS // Mq 64 M M9} => [ml m cI S M9.1])) := by
  refine CT.of RX7 rfl (by decide +kernel) (Nat.le_of_ble_eq_true rfl) [(0, .ref (m 0)), (1, .int (nI n))] rfl (fun x X Rr hnm => ?_)
  have hth := hS.th
  have hpe := hS.pe
  refine G.il X dX7_keepOut_0 1 rfl ?_
  refine G.csti X kX7_notForty lX7_241 dX7_keepOut_1 (tX7_notForty_ok l D cI cW n h1 h2) ⟨Nat.le_of_ble_eq_true rfl, Nat.le_of_ble_eq_true rfl⟩ ⟨Nat.zero_le _, Nat.zero_le _⟩ [] rfl ⟨rfl, rfl⟩ rfl rfl rfl (Nat.le_of_ble_eq_true rfl) (ff_nil) (ws' := [ml m cI S M]) rfl ?_
  refine G.is X dX7_keepOut_4 (by decide) (lv' := [(2, .int 0), (0, .ref (m 0)), (1, .int (nI n))]) rfl ?_
  refine G.il X dX7_keepOut_5 0 rfl ?_
  refine G.z_eq X (a := 0) dX7_keepOut_6 (fun b6 => ?_) (fun b6 => absurd b6 (by decide))
  refine G.pu X dX7_keepOut_15 ?_
  refine G.is X dX7_keepOut_17 (by decide) (lv' := [(3, .int (-9)), (2, .int 0), (0, .ref (m 0)), (1, .int (nI n))]) rfl ?_
  refine G.al X dX7_keepOut_18 2 rfl ?_
  refine G.il X dX7_keepOut_19 3 rfl ?_
  refine G.cvi X kX7_wetDays lX7_238 dX7_keepOut_20 (tX7_wetDays l D cI cW m S M n hS hco (by omega)) ⟨Nat.le_of_ble_eq_true rfl, Nat.le_of_ble_eq_true rfl⟩ ⟨Nat.zero_le _, Nat.zero_le _⟩ [0] rfl ⟨rfl, rfl⟩ rfl rfl 0 0 rfl rfl rfl rfl (Nat.le_of_ble_eq_true rfl) (ff_cons (ml_fst _ _ _ _ _ _) (ff_nil)) (ws' := [ml m cI S (m_wd M S n)]) rfl ?_
  refine G.is X dX7_keepOut_23 (by decide) (lv' := [(4, .int (nI (w_wet S n))), (3, .int (-9)), (2, .int 0), (0, .ref (m 0)), (1, .int (nI n))]) rfl ?_
  refine G.pu X dX7_keepOut_25 ?_
  refine G.is X dX7_keepOut_26 (by decide) (lv' := [(5, .int 0), (4, .int (nI (w_wet S n))), (3, .int (-9)), (2, .int 0), (0, .ref (m 0)), (1, .int (nI n))]) rfl ?_
  have L28 : ∀ k, k ≤ s_th S → ∀ M8 : {M8 : MS // Mq 64 M M8}, G x 0 0 ([ml m cI S M8.1]) 28 [(5, .int (nI k)), (4, .int ((bmax yes (fun i => nI (w_wet (w_out S i) n)) (-9, nI (w_wet S n)) k).2)), (3, .int ((bmax yes (fun i => nI (w_wet (w_out S i) n)) (-9, nI (w_wet S n)) k).1)), (0, .ref (m 0)), (1, .int (nI n))] [] := by
    refine loop_dn (s_th S) _ ?_ ?_
    · intro M8
      refine G.il X dX7_keepOut_28 0 rfl ?_
      refine G.al X dX7_keepOut_30 3 rfl ?_
      refine G.get X fX7_58 dX7_keepOut_31 0 0 rfl rfl rfl ?_
      refine G.n_ge X (a := s_th S) (b := s_th S) (by omega) (by omega) dX7_keepOut_34 (fun b34 => ?_) (fun b34 => absurd b34 (by omega))
      refine G.il X dX7_keepOut_93 2 rfl ?_
      exact G.iret X Rr (v := ((bmax yes (fun i => nI (w_wet (w_out S i) n)) (-9, nI (w_wet S n)) (s_th S)).1)) dX7_keepOut_94 (pie_mk (qk (M8.2)) (by rfl) (by rfl))
    · intro k hk ih28 M8
      refine G.il X dX7_keepOut_28 0 rfl ?_
      refine G.al X dX7_keepOut_30 3 rfl ?_
      refine G.get X fX7_58 dX7_keepOut_31 0 0 rfl rfl rfl ?_
      refine G.n_ge X (a := k) (b := s_th S) (by omega) (by omega) dX7_keepOut_34 (fun b34 => absurd b34 (by omega)) (fun b34 => ?_)
      refine G.al X dX7_keepOut_37 3 rfl ?_
      refine G.get X fX7_34 dX7_keepOut_38 0 0 rfl rfl rfl ?_
      refine G.il X dX7_keepOut_41 0 rfl ?_
      refine G.nld X (i := k) dX7_keepOut_43 0 9 rfl rfl (by omega) (by decide) ?_
      refine G.is X dX7_keepOut_44 (by decide) (lv' := [(6, .int ((s_le S) k)), (5, .int (nI k)), (4, .int ((bmax yes (fun i => nI (w_wet (w_out S i) n)) (-9, nI (w_wet S n)) k).2)), (3, .int ((bmax yes (fun i => nI (w_wet (w_out S i) n)) (-9, nI (w_wet S n)) k).1)), (0, .ref (m 0)), (1, .int (nI n))]) rfl ?_
      refine G.al X dX7_keepOut_46 4 rfl ?_
      refine G.get X fX7_34 dX7_keepOut_47 0 0 rfl rfl rfl ?_
      refine G.il X dX7_keepOut_50 1 rfl ?_
      refine G.pu X dX7_keepOut_52 ?_
      refine G.nst X (i := k) dX7_keepOut_53 0 9 rfl rfl (by omega) (by decide) (blk' := ml m cI (s_pe S, s_th S, s_da S, s_dr S, s_kn S, s_sh S, s_an S, s_ki S, s_we S, s_dp S, s_wa S, upd (s_le S) k 0) M8.1) rfl (ws' := [ml m cI (s_pe S, s_th S, s_da S, s_dr S, s_kn S, s_sh S, s_an S, s_ki S, s_we S, s_dp S, s_wa S, upd (s_le S) k 0) M8.1]) rfl ?_
      refine G.cg (ws' := [ml m cI (w_out S k) M8.1]) rfl rfl rfl ?_
      refine G.al X dX7_keepOut_54 4 rfl ?_
      refine G.il X dX7_keepOut_55 5 rfl ?_
      refine G.cvi X kX7_wetDays lX7_238 dX7_keepOut_56 (tX7_wetDays l D cI cW m (w_out S k) M8.1 n (ok_out hS k) (M8.2.co hco) (by omega)) ⟨Nat.le_of_ble_eq_true rfl, Nat.le_of_ble_eq_true rfl⟩ ⟨Nat.zero_le _, Nat.zero_le _⟩ [0] rfl ⟨rfl, rfl⟩ rfl rfl 0 0 rfl rfl rfl rfl (Nat.le_of_ble_eq_true rfl) (ff_cons (ml_fst _ _ _ _ _ _) (ff_nil)) (ws' := [ml m cI (w_out S k) (m_wd M8.1 (w_out S k) n)]) rfl ?_
      refine G.is X dX7_keepOut_59 (by decide) (lv' := [(7, .int (nI (w_wet (w_out S k) n))), (6, .int ((s_le S) k)), (5, .int (nI k)), (4, .int ((bmax yes (fun i => nI (w_wet (w_out S i) n)) (-9, nI (w_wet S n)) k).2)), (3, .int ((bmax yes (fun i => nI (w_wet (w_out S i) n)) (-9, nI (w_wet S n)) k).1)), (0, .ref (m 0)), (1, .int (nI n))]) rfl ?_
      refine G.al X dX7_keepOut_61 5 rfl ?_
      refine G.get X fX7_34 dX7_keepOut_62 0 0 rfl rfl rfl ?_
      refine G.il X dX7_keepOut_65 2 rfl ?_
      refine G.il X dX7_keepOut_67 1 rfl ?_
      refine G.nst X (i := k) dX7_keepOut_69 0 9 rfl rfl (by omega) (by decide) (blk' := ml m cI (s_pe (w_out S k), s_th (w_out S k), s_da (w_out S k), s_dr (w_out S k), s_kn (w_out S k), s_sh (w_out S k), s_an (w_out S k), s_ki (w_out S k), s_we (w_out S k), s_dp (w_out S k), s_wa (w_out S k), upd (s_le (w_out S k)) k ((s_le S) k)) (m_wd M8.1 (w_out S k) n)) rfl (ws' := [ml m cI (s_pe (w_out S k), s_th (w_out S k), s_da (w_out S k), s_dr (w_out S k), s_kn (w_out S k), s_sh (w_out S k), s_an (w_out S k), s_ki (w_out S k), s_we (w_out S k), s_dp (w_out S k), s_wa (w_out S k), upd (s_le (w_out S k)) k ((s_le S) k)) (m_wd M8.1 (w_out S k) n)]) rfl ?_
      refine G.cg (ws' := [ml m cI S (m_wd M8.1 (w_out S k) n)]) (congrArg (fun T => [ml m cI T (m_wd M8.1 (w_out S k) n)]) (out_back S k)) rfl rfl ?_
      refine G.il X dX7_keepOut_70 0 rfl ?_
      refine G.il X dX7_keepOut_72 3 rfl ?_
      refine G.c_gt X (a := nI (w_wet (w_out S k) n)) (b := ((bmax yes (fun i => nI (w_wet (w_out S i) n)) (-9, nI (w_wet S n)) k).2)) dX7_keepOut_74 (fun b74 => ?_) (fun b74 => ?_)
      · refine G.il X dX7_keepOut_80 2 rfl ?_
        refine G.is X dX7_keepOut_82 (by decide) (lv' := [(3, .int (nI k)), (7, .int (nI (w_wet (w_out S k) n))), (6, .int ((s_le S) k)), (5, .int (nI k)), (4, .int ((bmax yes (fun i => nI (w_wet (w_out S i) n)) (-9, nI (w_wet S n)) k).2)), (0, .ref (m 0)), (1, .int (nI n))]) rfl ?_
        refine G.il X dX7_keepOut_83 1 rfl ?_
        refine G.is X dX7_keepOut_85 (by decide) (lv' := [(4, .int (nI (w_wet (w_out S k) n))), (3, .int (nI k)), (7, .int (nI (w_wet (w_out S k) n))), (6, .int ((s_le S) k)), (5, .int (nI k)), (0, .ref (m 0)), (1, .int (nI n))]) rfl ?_
        refine G.iinc X dX7_keepOut_87 4 rfl (v' := nI (k + 1)) (nI_inc k) (by decide) (lv' := [(5, .int (nI (k + 1))), (4, .int (nI (w_wet (w_out S k) n))), (3, .int (nI k)), (7, .int (nI (w_wet (w_out S k) n))), (6, .int ((s_le S) k)), (0, .ref (m 0)), (1, .int (nI n))]) rfl ?_
        refine G.go X dX7_keepOut_90 ?_
        replace ih28 := ih28 (qk ((M8.2).tr (mq_wd M8.1 (w_out S k) n) (by decide)))
        rw [show ((bmax yes (fun i => nI (w_wet (w_out S i) n)) (-9, nI (w_wet S n)) (k + 1)).2) = (nI (w_wet (w_out S k) n)) from (by simp [-Int32.not_lt, bmax, bmin, yes, b34, b74])] at ih28
        rw [show ((bmax yes (fun i => nI (w_wet (w_out S i) n)) (-9, nI (w_wet S n)) (k + 1)).1) = (nI k) from (by simp [-Int32.not_lt, bmax, bmin, yes, b34, b74])] at ih28
        refine G.lvsub [0, 1, 2, 5, 6] (lv' := [(5, .int (nI (k + 1))), (4, .int (nI (w_wet (w_out S k) n))), (3, .int (nI k)), (0, .ref (m 0)), (1, .int (nI n))]) rfl ?_
        exact ih28
      · refine G.go X dX7_keepOut_77 ?_
        refine G.iinc X dX7_keepOut_87 2 rfl (v' := nI (k + 1)) (nI_inc k) (by decide) (lv' := [(5, .int (nI (k + 1))), (7, .int (nI (w_wet (w_out S k) n))), (6, .int ((s_le S) k)), (4, .int ((bmax yes (fun i => nI (w_wet (w_out S i) n)) (-9, nI (w_wet S n)) k).2)), (3, .int ((bmax yes (fun i => nI (w_wet (w_out S i) n)) (-9, nI (w_wet S n)) k).1)), (0, .ref (m 0)), (1, .int (nI n))]) rfl ?_
        refine G.go X dX7_keepOut_90 ?_
        replace ih28 := ih28 (qk ((M8.2).tr (mq_wd M8.1 (w_out S k) n) (by decide)))
        rw [show ((bmax yes (fun i => nI (w_wet (w_out S i) n)) (-9, nI (w_wet S n)) (k + 1)).2) = ((bmax yes (fun i => nI (w_wet (w_out S i) n)) (-9, nI (w_wet S n)) k).2) from (by simp [-Int32.not_lt, bmax, bmin, yes, b34, b74])] at ih28
        rw [show ((bmax yes (fun i => nI (w_wet (w_out S i) n)) (-9, nI (w_wet S n)) (k + 1)).1) = ((bmax yes (fun i => nI (w_wet (w_out S i) n)) (-9, nI (w_wet S n)) k).1) from (by simp [-Int32.not_lt, bmax, bmin, yes, b34, b74])] at ih28
        refine G.lvsub [0, 3, 4, 5, 6] (lv' := [(5, .int (nI (k + 1))), (4, .int ((bmax yes (fun i => nI (w_wet (w_out S i) n)) (-9, nI (w_wet S n)) k).2)), (3, .int ((bmax yes (fun i => nI (w_wet (w_out S i) n)) (-9, nI (w_wet S n)) k).1)), (0, .ref (m 0)), (1, .int (nI n))]) rfl ?_
        exact ih28
  refine G.lvsub [0, 1, 2, 4, 5] (lv' := [(5, .int 0), (4, .int (nI (w_wet S n))), (3, .int (-9)), (0, .ref (m 0)), (1, .int (nI n))]) rfl ?_
  have L28 := L28 0 (Nat.zero_le _) (qk ((Mq.rf 64 M).tr (mq_wd M S n) (by decide)))
  exact L28

set_option maxRecDepth 20000 in
theorem tX7_teach_ok (l : Launch) (D : va_G) (cI cW : ClassId) (m : Nat → Nat) (S : WS) (M : MS) (n : Nat) (hS : Ok S) (hco : m_co M = false) (h1 : 1 ≤ n) (h2 : n ≤ 40) : CT l D cI cW yX7_teach cX7_teach 8 (some .int) ⟨5, 0, 0, 110⟩ [.ref (m 0), .int (nI n)] ([ml m cI S M]) (PIE ((m_te S n (10 * s_pe S)).1) (fun M9 : {M9 : MS // Mq 64 M M9} => [ml m cI S M9.1])) := by
  refine CT.of RX7 rfl (by decide +kernel) (Nat.le_of_ble_eq_true rfl) [(0, .ref (m 0)), (1, .int (nI n))] rfl (fun x X Rr hnm => ?_)
  have hth := hS.th
  have hpe := hS.pe
  refine G.il X dX7_teach_0 1 rfl ?_
  refine G.csti X kX7_notForty lX7_241 dX7_teach_1 (tX7_notForty_ok l D cI cW n h1 h2) ⟨Nat.le_of_ble_eq_true rfl, Nat.le_of_ble_eq_true rfl⟩ ⟨Nat.zero_le _, Nat.zero_le _⟩ [] rfl ⟨rfl, rfl⟩ rfl rfl rfl (Nat.le_of_ble_eq_true rfl) (ff_nil) (ws' := [ml m cI S M]) rfl ?_
  refine G.is X dX7_teach_4 (by decide) (lv' := [(2, .int 0), (0, .ref (m 0)), (1, .int (nI n))]) rfl ?_
  refine G.il X dX7_teach_5 0 rfl ?_
  refine G.z_eq X (a := 0) dX7_teach_6 (fun b6 => ?_) (fun b6 => absurd b6 (by decide))
  refine G.pu X dX7_teach_15 ?_
  refine G.is X dX7_teach_17 (by decide) (lv' := [(3, .int (-9)), (2, .int 0), (0, .ref (m 0)), (1, .int (nI n))]) rfl ?_
  refine G.al X dX7_teach_18 2 rfl ?_
  refine G.il X dX7_teach_19 3 rfl ?_
  refine G.cvi X kX7_wetDays lX7_238 dX7_teach_20 (tX7_wetDays l D cI cW m S M n hS hco (by omega)) ⟨Nat.le_of_ble_eq_true rfl, Nat.le_of_ble_eq_true rfl⟩ ⟨Nat.zero_le _, Nat.zero_le _⟩ [0] rfl ⟨rfl, rfl⟩ rfl rfl 0 0 rfl rfl rfl rfl (Nat.le_of_ble_eq_true rfl) (ff_cons (ml_fst _ _ _ _ _ _) (ff_nil)) (ws' := [ml m cI S (m_wd M S n)]) rfl ?_
  refine G.is X dX7_teach_23 (by decide) (lv' := [(4, .int (nI (w_wet S n))), (3, .int (-9)), (2, .int 0), (0, .ref (m 0)), (1, .int (nI n))]) rfl ?_
  refine G.pu X dX7_teach_25 ?_
  refine G.is X dX7_teach_26 (by decide) (lv' := [(5, .int 0), (4, .int (nI (w_wet S n))), (3, .int (-9)), (2, .int 0), (0, .ref (m 0)), (1, .int (nI n))]) rfl ?_
  have L28 : ∀ k, k ≤ 10 * s_pe S → ∀ M8 : {M8 : MS // Mq 64 M M8}, G x 0 0 ([ml m cI S M8.1]) 28 [(5, .int (nI k)), (4, .int ((m_te S n k).2)), (3, .int ((m_te S n k).1)), (0, .ref (m 0)), (1, .int (nI n))] [] := by
    refine loop_dn (10 * s_pe S) _ ?_ ?_
    · intro M8
      refine G.il X dX7_teach_28 0 rfl ?_
      refine G.pu X dX7_teach_30 ?_
      refine G.al X dX7_teach_32 3 rfl ?_
      refine G.get X fX7_64 dX7_teach_33 0 0 rfl rfl rfl ?_
      refine G.imul X dX7_teach_36 ?_
      refine G.top (b := nI (10 * (s_pe S))) (nI_mulc 10 (s_pe S)) ?_
      refine G.n_ge X (a := 10 * s_pe S) (b := 10 * (s_pe S)) (by omega) (by omega) dX7_teach_37 (fun b37 => ?_) (fun b37 => absurd b37 (by omega))
      refine G.il X dX7_teach_127 2 rfl ?_
      exact G.iret X Rr (v := ((m_te S n (10 * s_pe S)).1)) dX7_teach_128 (pie_mk (qk (M8.2)) (by rfl) (by rfl))
    · intro k hk ih28 M8
      refine G.il X dX7_teach_28 0 rfl ?_
      refine G.pu X dX7_teach_30 ?_
      refine G.al X dX7_teach_32 3 rfl ?_
      refine G.get X fX7_64 dX7_teach_33 0 0 rfl rfl rfl ?_
      refine G.imul X dX7_teach_36 ?_
      refine G.top (b := nI (10 * (s_pe S))) (nI_mulc 10 (s_pe S)) ?_
      refine G.n_ge X (a := k) (b := 10 * (s_pe S)) (by omega) (by omega) dX7_teach_37 (fun b37 => absurd b37 (by omega)) (fun b37 => ?_)
      refine G.il X dX7_teach_40 0 rfl ?_
      refine G.pu X dX7_teach_42 ?_
      refine G.irem X dX7_teach_44 (by decide) ?_
      refine G.top (b := nI (k % 10)) (nI_modc (c := 10) (by omega) (by decide) (by decide)) ?_
      refine G.pu X dX7_teach_45 ?_
      refine G.n_lt X (a := k % 10) (b := 8) (by omega) (by omega) dX7_teach_47 (fun b47 => ?_) (fun b47 => ?_)
      · refine G.al X dX7_teach_53 3 rfl ?_
        refine G.get X fX7_13 dX7_teach_54 0 0 rfl rfl rfl ?_
        refine G.il X dX7_teach_57 0 rfl ?_
        refine G.pu X dX7_teach_59 ?_
        refine G.idiv X dX7_teach_61 (by decide) ?_
        refine G.top (b := nI (k / 10)) (nI_divc (c := 10) (by omega) (by decide) (by decide)) ?_
        refine G.nld X (i := k / 10) dX7_teach_62 0 2 rfl rfl (by omega) (by decide) ?_
        refine G.is X dX7_teach_63 (by decide) (lv' := [(6, .int ((s_kn S) (k / 10))), (5, .int (nI k)), (4, .int ((m_te S n k).2)), (3, .int ((m_te S n k).1)), (0, .ref (m 0)), (1, .int (nI n))]) rfl ?_
        refine G.al X dX7_teach_65 4 rfl ?_
        refine G.get X fX7_13 dX7_teach_66 0 0 rfl rfl rfl ?_
        refine G.il X dX7_teach_69 1 rfl ?_
        refine G.pu X dX7_teach_71 ?_
        refine G.idiv X dX7_teach_73 (by decide) ?_
        refine G.top (b := nI (k / 10)) (nI_divc (c := 10) (by omega) (by decide) (by decide)) ?_
        refine G.dup2 X dX7_teach_74 ?_
        refine G.nld X (i := k / 10) dX7_teach_75 0 2 rfl rfl (by omega) (by decide) ?_
        refine G.pu X dX7_teach_76 ?_
        refine G.il X dX7_teach_77 1 rfl ?_
        refine G.pu X dX7_teach_79 ?_
        refine G.irem X dX7_teach_81 (by decide) ?_
        refine G.top (b := nI (k % 10)) (nI_modc (c := 10) (by omega) (by decide) (by decide)) ?_
        refine G.ishl X dX7_teach_82 ?_
        refine G.ior X dX7_teach_83 ?_
        refine G.nst X (i := k / 10) dX7_teach_84 0 2 rfl rfl (by omega) (by decide) (blk' := ml m cI (s_pe S, s_th S, s_da S, s_dr S, upd (s_kn S) (k / 10) (((s_kn S) (k / 10)) ||| (1 <<< ((nI (k % 10)) &&& 31))), s_sh S, s_an S, s_ki S, s_we S, s_dp S, s_wa S, s_le S) M8.1) rfl (ws' := [ml m cI (s_pe S, s_th S, s_da S, s_dr S, upd (s_kn S) (k / 10) (((s_kn S) (k / 10)) ||| (1 <<< ((nI (k % 10)) &&& 31))), s_sh S, s_an S, s_ki S, s_we S, s_dp S, s_wa S, s_le S) M8.1]) rfl ?_
        refine G.cg (ws' := [ml m cI (w_tau S (k / 10) (nI (k % 10))) M8.1]) rfl rfl rfl ?_
        refine G.al X dX7_teach_85 4 rfl ?_
        refine G.il X dX7_teach_86 5 rfl ?_
        refine G.cvi X kX7_wetDays lX7_238 dX7_teach_87 (tX7_wetDays l D cI cW m (w_tau S (k / 10) (nI (k % 10))) M8.1 n (ok_tau hS _ _) (M8.2.co hco) (by omega)) ⟨Nat.le_of_ble_eq_true rfl, Nat.le_of_ble_eq_true rfl⟩ ⟨Nat.zero_le _, Nat.zero_le _⟩ [0] rfl ⟨rfl, rfl⟩ rfl rfl 0 0 rfl rfl rfl rfl (Nat.le_of_ble_eq_true rfl) (ff_cons (ml_fst _ _ _ _ _ _) (ff_nil)) (ws' := [ml m cI (w_tau S (k / 10) (nI (k % 10))) (m_wd M8.1 (w_tau S (k / 10) (nI (k % 10))) n)]) rfl ?_
        refine G.is X dX7_teach_90 (by decide) (lv' := [(7, .int (nI (w_wet (w_tau S (k / 10) (nI (k % 10))) n))), (6, .int ((s_kn S) (k / 10))), (5, .int (nI k)), (4, .int ((m_te S n k).2)), (3, .int ((m_te S n k).1)), (0, .ref (m 0)), (1, .int (nI n))]) rfl ?_
        refine G.al X dX7_teach_92 5 rfl ?_
        refine G.get X fX7_13 dX7_teach_93 0 0 rfl rfl rfl ?_
        refine G.il X dX7_teach_96 2 rfl ?_
        refine G.pu X dX7_teach_98 ?_
        refine G.idiv X dX7_teach_100 (by decide) ?_
        refine G.top (b := nI (k / 10)) (nI_divc (c := 10) (by omega) (by decide) (by decide)) ?_
        refine G.il X dX7_teach_101 1 rfl ?_
        refine G.nst X (i := k / 10) dX7_teach_103 0 2 rfl rfl (by omega) (by decide) (blk' := ml m cI (s_pe (w_tau S (k / 10) (nI (k % 10))), s_th (w_tau S (k / 10) (nI (k % 10))), s_da (w_tau S (k / 10) (nI (k % 10))), s_dr (w_tau S (k / 10) (nI (k % 10))), upd (s_kn (w_tau S (k / 10) (nI (k % 10)))) (k / 10) ((s_kn S) (k / 10)), s_sh (w_tau S (k / 10) (nI (k % 10))), s_an (w_tau S (k / 10) (nI (k % 10))), s_ki (w_tau S (k / 10) (nI (k % 10))), s_we (w_tau S (k / 10) (nI (k % 10))), s_dp (w_tau S (k / 10) (nI (k % 10))), s_wa (w_tau S (k / 10) (nI (k % 10))), s_le (w_tau S (k / 10) (nI (k % 10)))) (m_wd M8.1 (w_tau S (k / 10) (nI (k % 10))) n)) rfl (ws' := [ml m cI (s_pe (w_tau S (k / 10) (nI (k % 10))), s_th (w_tau S (k / 10) (nI (k % 10))), s_da (w_tau S (k / 10) (nI (k % 10))), s_dr (w_tau S (k / 10) (nI (k % 10))), upd (s_kn (w_tau S (k / 10) (nI (k % 10)))) (k / 10) ((s_kn S) (k / 10)), s_sh (w_tau S (k / 10) (nI (k % 10))), s_an (w_tau S (k / 10) (nI (k % 10))), s_ki (w_tau S (k / 10) (nI (k % 10))), s_we (w_tau S (k / 10) (nI (k % 10))), s_dp (w_tau S (k / 10) (nI (k % 10))), s_wa (w_tau S (k / 10) (nI (k % 10))), s_le (w_tau S (k / 10) (nI (k % 10)))) (m_wd M8.1 (w_tau S (k / 10) (nI (k % 10))) n)]) rfl ?_
        refine G.cg (ws' := [ml m cI S (m_wd M8.1 (w_tau S (k / 10) (nI (k % 10))) n)]) (congrArg (fun T => [ml m cI T (m_wd M8.1 (w_tau S (k / 10) (nI (k % 10))) n)]) (tau_back S (k / 10) (nI (k % 10)))) rfl rfl ?_
        refine G.il X dX7_teach_104 0 rfl ?_
        refine G.il X dX7_teach_106 3 rfl ?_
        refine G.c_gt X (a := nI (w_wet (w_tau S (k / 10) (nI (k % 10))) n)) (b := ((m_te S n k).2)) dX7_teach_108 (fun b108 => ?_) (fun b108 => ?_)
        · refine G.il X dX7_teach_114 2 rfl ?_
          refine G.is X dX7_teach_116 (by decide) (lv' := [(3, .int (nI k)), (7, .int (nI (w_wet (w_tau S (k / 10) (nI (k % 10))) n))), (6, .int ((s_kn S) (k / 10))), (5, .int (nI k)), (4, .int ((m_te S n k).2)), (0, .ref (m 0)), (1, .int (nI n))]) rfl ?_
          refine G.il X dX7_teach_117 1 rfl ?_
          refine G.is X dX7_teach_119 (by decide) (lv' := [(4, .int (nI (w_wet (w_tau S (k / 10) (nI (k % 10))) n))), (3, .int (nI k)), (7, .int (nI (w_wet (w_tau S (k / 10) (nI (k % 10))) n))), (6, .int ((s_kn S) (k / 10))), (5, .int (nI k)), (0, .ref (m 0)), (1, .int (nI n))]) rfl ?_
          refine G.iinc X dX7_teach_121 4 rfl (v' := nI (k + 1)) (nI_inc k) (by decide) (lv' := [(5, .int (nI (k + 1))), (4, .int (nI (w_wet (w_tau S (k / 10) (nI (k % 10))) n))), (3, .int (nI k)), (7, .int (nI (w_wet (w_tau S (k / 10) (nI (k % 10))) n))), (6, .int ((s_kn S) (k / 10))), (0, .ref (m 0)), (1, .int (nI n))]) rfl ?_
          refine G.go X dX7_teach_124 ?_
          replace ih28 := ih28 (qk ((M8.2).tr (mq_wd M8.1 (w_tau S (k / 10) (nI (k % 10))) n) (by decide)))
          rw [show ((m_te S n (k + 1)).2) = (nI (w_wet (w_tau S (k / 10) (nI (k % 10))) n)) from (by simp [-Int32.not_lt, m_te, b37, b47, b108])] at ih28
          rw [show ((m_te S n (k + 1)).1) = (nI k) from (by simp [-Int32.not_lt, m_te, b37, b47, b108])] at ih28
          refine G.lvsub [0, 1, 2, 5, 6] (lv' := [(5, .int (nI (k + 1))), (4, .int (nI (w_wet (w_tau S (k / 10) (nI (k % 10))) n))), (3, .int (nI k)), (0, .ref (m 0)), (1, .int (nI n))]) rfl ?_
          exact ih28
        · refine G.go X dX7_teach_111 ?_
          refine G.iinc X dX7_teach_121 2 rfl (v' := nI (k + 1)) (nI_inc k) (by decide) (lv' := [(5, .int (nI (k + 1))), (7, .int (nI (w_wet (w_tau S (k / 10) (nI (k % 10))) n))), (6, .int ((s_kn S) (k / 10))), (4, .int ((m_te S n k).2)), (3, .int ((m_te S n k).1)), (0, .ref (m 0)), (1, .int (nI n))]) rfl ?_
          refine G.go X dX7_teach_124 ?_
          replace ih28 := ih28 (qk ((M8.2).tr (mq_wd M8.1 (w_tau S (k / 10) (nI (k % 10))) n) (by decide)))
          rw [show ((m_te S n (k + 1)).2) = ((m_te S n k).2) from (by simp [-Int32.not_lt, m_te, b37, b47, b108])] at ih28
          rw [show ((m_te S n (k + 1)).1) = ((m_te S n k).1) from (by simp [-Int32.not_lt, m_te, b37, b47, b108])] at ih28
          refine G.lvsub [0, 3, 4, 5, 6] (lv' := [(5, .int (nI (k + 1))), (4, .int ((m_te S n k).2)), (3, .int ((m_te S n k).1)), (0, .ref (m 0)), (1, .int (nI n))]) rfl ?_
          exact ih28
      · refine G.go X dX7_teach_50 ?_
        refine G.iinc X dX7_teach_121 0 rfl (v' := nI (k + 1)) (nI_inc k) (by decide) (lv' := [(5, .int (nI (k + 1))), (4, .int ((m_te S n k).2)), (3, .int ((m_te S n k).1)), (0, .ref (m 0)), (1, .int (nI n))]) rfl ?_
        refine G.go X dX7_teach_124 ?_
        replace ih28 := ih28 (qk (M8.2))
        rw [show ((m_te S n (k + 1)).2) = ((m_te S n k).2) from (by simp [-Int32.not_lt, m_te, b37, b47])] at ih28
        rw [show ((m_te S n (k + 1)).1) = ((m_te S n k).1) from (by simp [-Int32.not_lt, m_te, b37, b47])] at ih28
        exact ih28
  refine G.lvsub [0, 1, 2, 4, 5] (lv' := [(5, .int 0), (4, .int (nI (w_wet S n))), (3, .int (-9)), (0, .ref (m 0)), (1, .int (nI n))]) rfl ?_
  have L28 := L28 0 (Nat.zero_le _) (qk ((Mq.rf 64 M).tr (mq_wd M S n) (by decide)))
  exact L28

set_option maxRecDepth 20000 in
theorem tX7_wetAgain (l : Launch) (D : va_G) (cI cW : ClassId) (m : Nat → Nat) (S : WS) (M : MS) (t : Nat) (n : Nat) (hS : Ok S) (hco : m_co M = false) (ht : t < s_th S) (hn : n < 2 ^ 31) : CT l D cI cW yX7_wetAgain cX7_wetAgain 4 (some .int) ⟨5, 0, 0, 110⟩ [.ref (m 0), .int (nI t), .int (nI n)] ([ml m cI S M]) (PIE (nI (w_wet (w_fall S t) n)) (fun M9 : {M9 : MS // Mq 64 M M9} => [ml m cI S M9.1])) := by
  refine CT.of RX7 rfl (by decide +kernel) (Nat.le_of_ble_eq_true rfl) [(0, .ref (m 0)), (1, .int (nI t)), (2, .int (nI n))] rfl (fun x X Rr hnm => ?_)
  have hth := hS.th
  have hpe := hS.pe
  refine G.al X dX7_wetAgain_0 0 rfl ?_
  refine G.cvv X kX7_changes lX7_250 dX7_wetAgain_1 (tX7_changes l D cI cW m S M) ⟨Nat.le_of_ble_eq_true rfl, Nat.le_of_ble_eq_true rfl⟩ ⟨Nat.zero_le _, Nat.zero_le _⟩ [0] rfl ⟨rfl, rfl⟩ rfl rfl 0 0 rfl rfl rfl rfl (Nat.le_of_ble_eq_true rfl) (ff_cons (ml_fst _ _ _ _ _ _) (ff_nil)) (ws' := [ml m cI S (m_kpa M 64 S)]) rfl ?_
  refine G.al X dX7_wetAgain_4 0 rfl ?_
  refine G.il X dX7_wetAgain_5 1 rfl ?_
  refine G.cvv X kX7_falls lX7_129 dX7_wetAgain_6 (tX7_falls l D cI cW m S (m_kpa M 64 S) t (by omega)) ⟨Nat.le_of_ble_eq_true rfl, Nat.le_of_ble_eq_true rfl⟩ ⟨Nat.zero_le _, Nat.zero_le _⟩ [0] rfl ⟨rfl, rfl⟩ rfl rfl 0 0 rfl rfl rfl rfl (Nat.le_of_ble_eq_true rfl) (ff_cons (ml_fst _ _ _ _ _ _) (ff_nil)) (ws' := [ml m cI (w_fall S t) (m_kpa M 64 S)]) rfl ?_
  refine G.al X dX7_wetAgain_9 0 rfl ?_
  refine G.il X dX7_wetAgain_10 2 rfl ?_
  refine G.cvi X kX7_wetDays lX7_238 dX7_wetAgain_11 (tX7_wetDays l D cI cW m (w_fall S t) (m_kpa M 64 S) n (ok_fall hS ht) hco hn) ⟨Nat.le_of_ble_eq_true rfl, Nat.le_of_ble_eq_true rfl⟩ ⟨Nat.zero_le _, Nat.zero_le _⟩ [0] rfl ⟨rfl, rfl⟩ rfl rfl 0 0 rfl rfl rfl rfl (Nat.le_of_ble_eq_true rfl) (ff_cons (ml_fst _ _ _ _ _ _) (ff_nil)) (ws' := [ml m cI (w_fall S t) (m_wd (m_kpa M 64 S) (w_fall S t) n)]) rfl ?_
  refine G.is X dX7_wetAgain_14 (by decide) (lv' := [(3, .int (nI (w_wet (w_fall S t) n))), (0, .ref (m 0)), (1, .int (nI t)), (2, .int (nI n))]) rfl ?_
  refine G.al X dX7_wetAgain_15 1 rfl ?_
  refine G.cvv X kX7_changesBack lX7_253 dX7_wetAgain_16 (tX7_changesBack l D cI cW m (w_fall S t) (m_wd (m_kpa M 64 S) (w_fall S t) n) S ((mq_wd _ _ _).kpof (by decide))) ⟨Nat.le_of_ble_eq_true rfl, Nat.le_of_ble_eq_true rfl⟩ ⟨Nat.zero_le _, Nat.zero_le _⟩ [0] rfl ⟨rfl, rfl⟩ rfl rfl 0 0 rfl rfl rfl rfl (Nat.le_of_ble_eq_true rfl) (ff_cons (ml_fst _ _ _ _ _ _) (ff_nil)) (ws' := [ml m cI S (m_set (m_wd (m_kpa M 64 S) (w_fall S t) n) 128 false)]) rfl ?_
  refine G.il X dX7_wetAgain_19 0 rfl ?_
  exact G.iret X Rr (v := nI (w_wet (w_fall S t) n)) dX7_wetAgain_20 (pie_mk (qk ((((Mq.rf 64 M).tr (mq_kpa M 64 S) (by decide)).tr (mq_wd (m_kpa M 64 S) (w_fall S t) n) (by decide)).tr (mq_set 64 (m_wd (m_kpa M 64 S) (w_fall S t) n) 128 false) (Nat.le_refl _))) (by rfl) (by rfl))

set_option maxRecDepth 20000 in
theorem tX7_again_ok (l : Launch) (D : va_G) (cI cW : ClassId) (m : Nat → Nat) (S : WS) (M : MS) (n : Nat) (hS : Ok S) (hco : m_co M = false) (h1 : 1 ≤ n) (h2 : n ≤ 40) : CT l D cI cW yX7_again cX7_again 7 (some .int) ⟨6, 0, 0, 133⟩ [.ref (m 0), .int (nI n)] ([ml m cI S M]) (PIE ((bmin (fun i => nI (w_wet (w_fall S i) n)) (-9, nI (w_wet S n)) (s_th S)).1) (fun M9 : {M9 : MS // Mq 64 M M9} => [ml m cI S M9.1])) := by
  refine CT.of RX7 rfl (by decide +kernel) (Nat.le_of_ble_eq_true rfl) [(0, .ref (m 0)), (1, .int (nI n))] rfl (fun x X Rr hnm => ?_)
  have hth := hS.th
  have hpe := hS.pe
  refine G.il X dX7_again_0 1 rfl ?_
  refine G.csti X kX7_notForty lX7_241 dX7_again_1 (tX7_notForty_ok l D cI cW n h1 h2) ⟨Nat.le_of_ble_eq_true rfl, Nat.le_of_ble_eq_true rfl⟩ ⟨Nat.zero_le _, Nat.zero_le _⟩ [] rfl ⟨rfl, rfl⟩ rfl rfl rfl (Nat.le_of_ble_eq_true rfl) (ff_nil) (ws' := [ml m cI S M]) rfl ?_
  refine G.is X dX7_again_4 (by decide) (lv' := [(2, .int 0), (0, .ref (m 0)), (1, .int (nI n))]) rfl ?_
  refine G.il X dX7_again_5 0 rfl ?_
  refine G.z_eq X (a := 0) dX7_again_6 (fun b6 => ?_) (fun b6 => absurd b6 (by decide))
  refine G.pu X dX7_again_15 ?_
  refine G.is X dX7_again_17 (by decide) (lv' := [(3, .int (-9)), (2, .int 0), (0, .ref (m 0)), (1, .int (nI n))]) rfl ?_
  refine G.al X dX7_again_18 2 rfl ?_
  refine G.il X dX7_again_19 3 rfl ?_
  refine G.cvi X kX7_wetDays lX7_238 dX7_again_20 (tX7_wetDays l D cI cW m S M n hS hco (by omega)) ⟨Nat.le_of_ble_eq_true rfl, Nat.le_of_ble_eq_true rfl⟩ ⟨Nat.zero_le _, Nat.zero_le _⟩ [0] rfl ⟨rfl, rfl⟩ rfl rfl 0 0 rfl rfl rfl rfl (Nat.le_of_ble_eq_true rfl) (ff_cons (ml_fst _ _ _ _ _ _) (ff_nil)) (ws' := [ml m cI S (m_wd M S n)]) rfl ?_
  refine G.is X dX7_again_23 (by decide) (lv' := [(4, .int (nI (w_wet S n))), (3, .int (-9)), (2, .int 0), (0, .ref (m 0)), (1, .int (nI n))]) rfl ?_
  refine G.pu X dX7_again_25 ?_
  refine G.is X dX7_again_26 (by decide) (lv' := [(5, .int 0), (4, .int (nI (w_wet S n))), (3, .int (-9)), (2, .int 0), (0, .ref (m 0)), (1, .int (nI n))]) rfl ?_
  have L28 : ∀ k, k ≤ s_th S → ∀ M8 : {M8 : MS // Mq 64 M M8}, G x 0 0 ([ml m cI S M8.1]) 28 [(5, .int (nI k)), (4, .int ((bmin (fun i => nI (w_wet (w_fall S i) n)) (-9, nI (w_wet S n)) k).2)), (3, .int ((bmin (fun i => nI (w_wet (w_fall S i) n)) (-9, nI (w_wet S n)) k).1)), (0, .ref (m 0)), (1, .int (nI n))] [] := by
    refine loop_dn (s_th S) _ ?_ ?_
    · intro M8
      refine G.il X dX7_again_28 0 rfl ?_
      refine G.al X dX7_again_30 3 rfl ?_
      refine G.get X fX7_58 dX7_again_31 0 0 rfl rfl rfl ?_
      refine G.n_ge X (a := s_th S) (b := s_th S) (by omega) (by omega) dX7_again_34 (fun b34 => ?_) (fun b34 => absurd b34 (by omega))
      refine G.il X dX7_again_69 2 rfl ?_
      exact G.iret X Rr (v := ((bmin (fun i => nI (w_wet (w_fall S i) n)) (-9, nI (w_wet S n)) (s_th S)).1)) dX7_again_70 (pie_mk (qk (M8.2)) (by rfl) (by rfl))
    · intro k hk ih28 M8
      refine G.il X dX7_again_28 0 rfl ?_
      refine G.al X dX7_again_30 3 rfl ?_
      refine G.get X fX7_58 dX7_again_31 0 0 rfl rfl rfl ?_
      refine G.n_ge X (a := k) (b := s_th S) (by omega) (by omega) dX7_again_34 (fun b34 => absurd b34 (by omega)) (fun b34 => ?_)
      refine G.al X dX7_again_37 3 rfl ?_
      refine G.il X dX7_again_38 0 rfl ?_
      refine G.il X dX7_again_40 4 rfl ?_
      refine G.cvie X kX7_wetAgain lX7_260 dX7_again_41 (tX7_wetAgain l D cI cW m S M8.1 k n hS (M8.2.co hco) (by omega) (by omega)) ⟨Nat.le_of_ble_eq_true rfl, Nat.le_of_ble_eq_true rfl⟩ ⟨Nat.zero_le _, Nat.zero_le _⟩ [0] rfl ⟨rfl, rfl⟩ rfl rfl 0 0 rfl rfl rfl rfl (Nat.le_of_ble_eq_true rfl) (fun _ => (ff_cons (ml_fst _ _ _ _ _ _) (ff_nil))) (f8 := fun M9_41 : {M9_41 : MS // Mq 64 M8.1 M9_41} => [ml m cI S M9_41.1]) (fun _ => rfl) (fun M9_41 => ?_)
      refine G.is X dX7_again_44 (by decide) (lv' := [(6, .int (nI (w_wet (w_fall S k) n))), (5, .int (nI k)), (4, .int ((bmin (fun i => nI (w_wet (w_fall S i) n)) (-9, nI (w_wet S n)) k).2)), (3, .int ((bmin (fun i => nI (w_wet (w_fall S i) n)) (-9, nI (w_wet S n)) k).1)), (0, .ref (m 0)), (1, .int (nI n))]) rfl ?_
      refine G.il X dX7_again_46 0 rfl ?_
      refine G.il X dX7_again_48 2 rfl ?_
      refine G.c_lt X (a := nI (w_wet (w_fall S k) n)) (b := ((bmin (fun i => nI (w_wet (w_fall S i) n)) (-9, nI (w_wet S n)) k).2)) dX7_again_50 (fun b50 => ?_) (fun b50 => ?_)
      · refine G.il X dX7_again_56 1 rfl ?_
        refine G.is X dX7_again_58 (by decide) (lv' := [(3, .int (nI k)), (6, .int (nI (w_wet (w_fall S k) n))), (5, .int (nI k)), (4, .int ((bmin (fun i => nI (w_wet (w_fall S i) n)) (-9, nI (w_wet S n)) k).2)), (0, .ref (m 0)), (1, .int (nI n))]) rfl ?_
        refine G.il X dX7_again_59 1 rfl ?_
        refine G.is X dX7_again_61 (by decide) (lv' := [(4, .int (nI (w_wet (w_fall S k) n))), (3, .int (nI k)), (6, .int (nI (w_wet (w_fall S k) n))), (5, .int (nI k)), (0, .ref (m 0)), (1, .int (nI n))]) rfl ?_
        refine G.iinc X dX7_again_63 3 rfl (v' := nI (k + 1)) (nI_inc k) (by decide) (lv' := [(5, .int (nI (k + 1))), (4, .int (nI (w_wet (w_fall S k) n))), (3, .int (nI k)), (6, .int (nI (w_wet (w_fall S k) n))), (0, .ref (m 0)), (1, .int (nI n))]) rfl ?_
        refine G.go X dX7_again_66 ?_
        replace ih28 := ih28 (qk ((M8.2).tr M9_41.2 (by decide)))
        rw [show ((bmin (fun i => nI (w_wet (w_fall S i) n)) (-9, nI (w_wet S n)) (k + 1)).2) = (nI (w_wet (w_fall S k) n)) from (by simp [-Int32.not_lt, bmax, bmin, yes, b34, b50])] at ih28
        rw [show ((bmin (fun i => nI (w_wet (w_fall S i) n)) (-9, nI (w_wet S n)) (k + 1)).1) = (nI k) from (by simp [-Int32.not_lt, bmax, bmin, yes, b34, b50])] at ih28
        refine G.lvsub [0, 1, 2, 4, 5] (lv' := [(5, .int (nI (k + 1))), (4, .int (nI (w_wet (w_fall S k) n))), (3, .int (nI k)), (0, .ref (m 0)), (1, .int (nI n))]) rfl ?_
        exact ih28
      · refine G.go X dX7_again_53 ?_
        refine G.iinc X dX7_again_63 1 rfl (v' := nI (k + 1)) (nI_inc k) (by decide) (lv' := [(5, .int (nI (k + 1))), (6, .int (nI (w_wet (w_fall S k) n))), (4, .int ((bmin (fun i => nI (w_wet (w_fall S i) n)) (-9, nI (w_wet S n)) k).2)), (3, .int ((bmin (fun i => nI (w_wet (w_fall S i) n)) (-9, nI (w_wet S n)) k).1)), (0, .ref (m 0)), (1, .int (nI n))]) rfl ?_
        refine G.go X dX7_again_66 ?_
        replace ih28 := ih28 (qk ((M8.2).tr M9_41.2 (by decide)))
        rw [show ((bmin (fun i => nI (w_wet (w_fall S i) n)) (-9, nI (w_wet S n)) (k + 1)).2) = ((bmin (fun i => nI (w_wet (w_fall S i) n)) (-9, nI (w_wet S n)) k).2) from (by simp [-Int32.not_lt, bmax, bmin, yes, b34, b50])] at ih28
        rw [show ((bmin (fun i => nI (w_wet (w_fall S i) n)) (-9, nI (w_wet S n)) (k + 1)).1) = ((bmin (fun i => nI (w_wet (w_fall S i) n)) (-9, nI (w_wet S n)) k).1) from (by simp [-Int32.not_lt, bmax, bmin, yes, b34, b50])] at ih28
        refine G.lvsub [0, 2, 3, 4, 5] (lv' := [(5, .int (nI (k + 1))), (4, .int ((bmin (fun i => nI (w_wet (w_fall S i) n)) (-9, nI (w_wet S n)) k).2)), (3, .int ((bmin (fun i => nI (w_wet (w_fall S i) n)) (-9, nI (w_wet S n)) k).1)), (0, .ref (m 0)), (1, .int (nI n))]) rfl ?_
        exact ih28
  refine G.lvsub [0, 1, 2, 4, 5] (lv' := [(5, .int 0), (4, .int (nI (w_wet S n))), (3, .int (-9)), (0, .ref (m 0)), (1, .int (nI n))]) rfl ?_
  have L28 := L28 0 (Nat.zero_le _) (qk ((Mq.rf 64 M).tr (mq_wd M S n) (by decide)))
  exact L28

set_option maxRecDepth 20000 in
theorem tX7_wetWith (l : Launch) (D : va_G) (cI cW : ClassId) (m : Nat → Nat) (S : WS) (M : MS) (kd : Nat) (v : Nat) (p : Nat) (n : Nat) (hS : Ok S) (hco : m_co M = false) (hkd : kd < 6) (hv : v ≤ 9) (hp : p < s_pe S) (ht9 : s_th S < 9) (hn : n < 2 ^ 31) : CT l D cI cW yX7_wetWith cX7_wetWith 6 (some .int) ⟨5, 0, 0, 110⟩ [.ref (m 0), .int (nI kd), .int (nI v), .int (nI p), .int (nI n)] ([ml m cI S M]) (PIE (nI (w_wet (w_add S (nI kd) (nI v) (nI p)) n)) (fun M9 : {M9 : MS // Mq 64 M M9} => [ml m cI S M9.1])) := by
  refine CT.of RX7 rfl (by decide +kernel) (Nat.le_of_ble_eq_true rfl) [(0, .ref (m 0)), (1, .int (nI kd)), (2, .int (nI v)), (3, .int (nI p)), (4, .int (nI n))] rfl (fun x X Rr hnm => ?_)
  have hth := hS.th
  have hpe := hS.pe
  refine G.al X dX7_wetWith_0 0 rfl ?_
  refine G.cvv X kX7_changes lX7_250 dX7_wetWith_1 (tX7_changes l D cI cW m S M) ⟨Nat.le_of_ble_eq_true rfl, Nat.le_of_ble_eq_true rfl⟩ ⟨Nat.zero_le _, Nat.zero_le _⟩ [0] rfl ⟨rfl, rfl⟩ rfl rfl 0 0 rfl rfl rfl rfl (Nat.le_of_ble_eq_true rfl) (ff_cons (ml_fst _ _ _ _ _ _) (ff_nil)) (ws' := [ml m cI S (m_kpa M 64 S)]) rfl ?_
  refine G.al X dX7_wetWith_4 0 rfl ?_
  refine G.il X dX7_wetWith_5 1 rfl ?_
  refine G.il X dX7_wetWith_6 2 rfl ?_
  refine G.il X dX7_wetWith_7 3 rfl ?_
  refine G.cvv X kX7_adds lX7_109 dX7_wetWith_8 (tX7_adds l D cI cW m S (m_kpa M 64 S) (nI kd) (nI v) (nI p) ht9) ⟨Nat.le_of_ble_eq_true rfl, Nat.le_of_ble_eq_true rfl⟩ ⟨Nat.zero_le _, Nat.zero_le _⟩ [0] rfl ⟨rfl, rfl⟩ rfl rfl 0 0 rfl rfl rfl rfl (Nat.le_of_ble_eq_true rfl) (ff_cons (ml_fst _ _ _ _ _ _) (ff_nil)) (ws' := [ml m cI (w_add S (nI kd) (nI v) (nI p)) (m_kpa M 64 S)]) rfl ?_
  refine G.al X dX7_wetWith_11 0 rfl ?_
  refine G.il X dX7_wetWith_12 4 rfl ?_
  refine G.cvi X kX7_wetDays lX7_238 dX7_wetWith_14 (tX7_wetDays l D cI cW m (w_add S (nI kd) (nI v) (nI p)) (m_kpa M 64 S) n (ok_add hS ht9 ⟨kd, by omega, rfl⟩ ⟨v, by omega, rfl⟩ ⟨p, hp, rfl⟩) hco hn) ⟨Nat.le_of_ble_eq_true rfl, Nat.le_of_ble_eq_true rfl⟩ ⟨Nat.zero_le _, Nat.zero_le _⟩ [0] rfl ⟨rfl, rfl⟩ rfl rfl 0 0 rfl rfl rfl rfl (Nat.le_of_ble_eq_true rfl) (ff_cons (ml_fst _ _ _ _ _ _) (ff_nil)) (ws' := [ml m cI (w_add S (nI kd) (nI v) (nI p)) (m_wd (m_kpa M 64 S) (w_add S (nI kd) (nI v) (nI p)) n)]) rfl ?_
  refine G.is X dX7_wetWith_17 (by decide) (lv' := [(5, .int (nI (w_wet (w_add S (nI kd) (nI v) (nI p)) n))), (0, .ref (m 0)), (1, .int (nI kd)), (2, .int (nI v)), (3, .int (nI p)), (4, .int (nI n))]) rfl ?_
  refine G.al X dX7_wetWith_19 1 rfl ?_
  refine G.cvv X kX7_changesBack lX7_253 dX7_wetWith_20 (tX7_changesBack l D cI cW m (w_add S (nI kd) (nI v) (nI p)) (m_wd (m_kpa M 64 S) (w_add S (nI kd) (nI v) (nI p)) n) S ((mq_wd _ _ _).kpof (by decide))) ⟨Nat.le_of_ble_eq_true rfl, Nat.le_of_ble_eq_true rfl⟩ ⟨Nat.zero_le _, Nat.zero_le _⟩ [0] rfl ⟨rfl, rfl⟩ rfl rfl 0 0 rfl rfl rfl rfl (Nat.le_of_ble_eq_true rfl) (ff_cons (ml_fst _ _ _ _ _ _) (ff_nil)) (ws' := [ml m cI S (m_set (m_wd (m_kpa M 64 S) (w_add S (nI kd) (nI v) (nI p)) n) 128 false)]) rfl ?_
  refine G.il X dX7_wetWith_23 0 rfl ?_
  exact G.iret X Rr (v := nI (w_wet (w_add S (nI kd) (nI v) (nI p)) n)) dX7_wetWith_25 (pie_mk (qk ((((Mq.rf 64 M).tr (mq_kpa M 64 S) (by decide)).tr (mq_wd (m_kpa M 64 S) (w_add S (nI kd) (nI v) (nI p)) n) (by decide)).tr (mq_set 64 (m_wd (m_kpa M 64 S) (w_add S (nI kd) (nI v) (nI p)) n) 128 false) (Nat.le_refl _))) (by rfl) (by rfl))

set_option maxRecDepth 20000 in
theorem tX7_drop_oth (l : Launch) (D : va_G) (cI cW : ClassId) (m : Nat → Nat) (S : WS) (M : MS) (kd : Int32) (v : Int32) (n : Int32) (w : Int32) (hk : z_in kd 6 = false) : CT l D cI cW yX7_drop cX7_drop 10 (some .int) ⟨1, 0, 0, 22⟩ [.ref (m 0), .int kd, .int v, .int n, .int w] ([ml m cI S M]) (PI (-2) ([ml m cI S (m_no M 2)])) := by
  refine CT.of RX7 rfl (by decide +kernel) (Nat.le_of_ble_eq_true rfl) [(0, .ref (m 0)), (1, .int kd), (2, .int v), (3, .int n), (4, .int w)] rfl (fun x X Rr hnm => ?_)
  refine G.il X dX7_drop_0 1 rfl ?_
  refine G.pu X dX7_drop_1 ?_
  refine G.pu X dX7_drop_2 ?_
  refine G.csti X kX7_isIn lX7_85 dX7_drop_3 (tX7_isIn_no l D cI cW kd 0 5 (zbt_no (n := 5) hk (by decide))) ⟨Nat.le_of_ble_eq_true rfl, Nat.le_of_ble_eq_true rfl⟩ ⟨Nat.zero_le _, Nat.zero_le _⟩ [] rfl ⟨rfl, rfl⟩ rfl rfl rfl (Nat.le_of_ble_eq_true rfl) (ff_nil) (ws' := [ml m cI S M]) rfl ?_
  refine G.b_ne X dX7_drop_6 (fun b6 => absurd b6 (by decide)) (fun b6 => ?_)
  refine G.pu X dX7_drop_9 ?_
  refine G.go X dX7_drop_11 ?_
  refine G.is X dX7_drop_61 (by decide) (lv' := [(5, .int (-2)), (0, .ref (m 0)), (1, .int kd), (2, .int v), (3, .int n), (4, .int w)]) rfl ?_
  refine G.il X dX7_drop_63 0 rfl ?_
  refine G.z_eq X (a := (-2)) dX7_drop_65 (fun b65 => absurd b65 (by decide)) (fun b65 => ?_)
  refine G.al X dX7_drop_68 1 rfl ?_
  refine G.il X dX7_drop_69 0 rfl ?_
  refine G.cvi X kX7_no lX7_74 dX7_drop_71 (tX7_no l D cI cW m S M 2 (by omega) (by omega)) ⟨Nat.le_of_ble_eq_true rfl, Nat.le_of_ble_eq_true rfl⟩ ⟨Nat.zero_le _, Nat.zero_le _⟩ [0] rfl ⟨rfl, rfl⟩ rfl rfl 0 0 rfl rfl rfl rfl (Nat.le_of_ble_eq_true rfl) (ff_cons (ml_fst _ _ _ _ _ _) (ff_nil)) (ws' := [ml m cI S (m_no M 2)]) rfl ?_
  exact G.iret X Rr (v := (-(nI 2))) dX7_drop_74 (pi_mk (by rfl) (by rfl))

set_option maxRecDepth 20000 in
theorem tX7_drop_lo1 (l : Launch) (D : va_G) (cI cW : ClassId) (m : Nat → Nat) (S : WS) (M : MS) (kd : Nat) (v : Int32) (n : Int32) (w : Int32) (hkd : kd < 6) (h1 : v < 0) : CT l D cI cW yX7_drop cX7_drop 10 (some .int) ⟨1, 0, 0, 22⟩ [.ref (m 0), .int (nI kd), .int v, .int n, .int w] ([ml m cI S M]) (PI (-4) ([ml m cI S (m_no M 4)])) := by
  refine CT.of RX7 rfl (by decide +kernel) (Nat.le_of_ble_eq_true rfl) [(0, .ref (m 0)), (1, .int (nI kd)), (2, .int v), (3, .int n), (4, .int w)] rfl (fun x X Rr hnm => ?_)
  refine G.il X dX7_drop_0 1 rfl ?_
  refine G.pu X dX7_drop_1 ?_
  refine G.pu X dX7_drop_2 ?_
  refine G.csti X kX7_isIn lX7_85 dX7_drop_3 (tX7_isIn_yes l D cI cW kd 0 5 (by omega) (by omega) (by omega)) ⟨Nat.le_of_ble_eq_true rfl, Nat.le_of_ble_eq_true rfl⟩ ⟨Nat.zero_le _, Nat.zero_le _⟩ [] rfl ⟨rfl, rfl⟩ rfl rfl rfl (Nat.le_of_ble_eq_true rfl) (ff_nil) (ws' := [ml m cI S M]) rfl ?_
  refine G.b_ne X dX7_drop_6 (fun b6 => ?_) (fun b6 => absurd b6 (by decide))
  refine G.il X dX7_drop_14 2 rfl ?_
  refine G.z_lt X (a := v) dX7_drop_15 (fun b15 => ?_) (fun b15 => absurd (h1) b15)
  refine G.pu X dX7_drop_23 ?_
  refine G.go X dX7_drop_25 ?_
  refine G.is X dX7_drop_61 (by decide) (lv' := [(5, .int (-4)), (0, .ref (m 0)), (1, .int (nI kd)), (2, .int v), (3, .int n), (4, .int w)]) rfl ?_
  refine G.il X dX7_drop_63 0 rfl ?_
  refine G.z_eq X (a := (-4)) dX7_drop_65 (fun b65 => absurd b65 (by decide)) (fun b65 => ?_)
  refine G.al X dX7_drop_68 1 rfl ?_
  refine G.il X dX7_drop_69 0 rfl ?_
  refine G.cvi X kX7_no lX7_74 dX7_drop_71 (tX7_no l D cI cW m S M 4 (by omega) (by omega)) ⟨Nat.le_of_ble_eq_true rfl, Nat.le_of_ble_eq_true rfl⟩ ⟨Nat.zero_le _, Nat.zero_le _⟩ [0] rfl ⟨rfl, rfl⟩ rfl rfl 0 0 rfl rfl rfl rfl (Nat.le_of_ble_eq_true rfl) (ff_cons (ml_fst _ _ _ _ _ _) (ff_nil)) (ws' := [ml m cI S (m_no M 4)]) rfl ?_
  exact G.iret X Rr (v := (-(nI 4))) dX7_drop_74 (pi_mk (by rfl) (by rfl))

set_option maxRecDepth 20000 in
theorem tX7_drop_lo2 (l : Launch) (D : va_G) (cI cW : ClassId) (m : Nat → Nat) (S : WS) (M : MS) (kd : Nat) (v : Int32) (n : Int32) (w : Int32) (hkd : kd < 6) (h1 : ¬ v < 0) (h2 : n < 1) : CT l D cI cW yX7_drop cX7_drop 10 (some .int) ⟨1, 0, 0, 22⟩ [.ref (m 0), .int (nI kd), .int v, .int n, .int w] ([ml m cI S M]) (PI (-4) ([ml m cI S (m_no M 4)])) := by
  refine CT.of RX7 rfl (by decide +kernel) (Nat.le_of_ble_eq_true rfl) [(0, .ref (m 0)), (1, .int (nI kd)), (2, .int v), (3, .int n), (4, .int w)] rfl (fun x X Rr hnm => ?_)
  refine G.il X dX7_drop_0 1 rfl ?_
  refine G.pu X dX7_drop_1 ?_
  refine G.pu X dX7_drop_2 ?_
  refine G.csti X kX7_isIn lX7_85 dX7_drop_3 (tX7_isIn_yes l D cI cW kd 0 5 (by omega) (by omega) (by omega)) ⟨Nat.le_of_ble_eq_true rfl, Nat.le_of_ble_eq_true rfl⟩ ⟨Nat.zero_le _, Nat.zero_le _⟩ [] rfl ⟨rfl, rfl⟩ rfl rfl rfl (Nat.le_of_ble_eq_true rfl) (ff_nil) (ws' := [ml m cI S M]) rfl ?_
  refine G.b_ne X dX7_drop_6 (fun b6 => ?_) (fun b6 => absurd b6 (by decide))
  refine G.il X dX7_drop_14 2 rfl ?_
  refine G.z_lt X (a := v) dX7_drop_15 (fun b15 => absurd b15 (h1)) (fun b15 => ?_)
  refine G.il X dX7_drop_18 3 rfl ?_
  refine G.pu X dX7_drop_19 ?_
  refine G.c_ge X (a := n) (b := 1) dX7_drop_20 (fun b20 => absurd (h2) b20) (fun b20 => ?_)
  refine G.pu X dX7_drop_23 ?_
  refine G.go X dX7_drop_25 ?_
  refine G.is X dX7_drop_61 (by decide) (lv' := [(5, .int (-4)), (0, .ref (m 0)), (1, .int (nI kd)), (2, .int v), (3, .int n), (4, .int w)]) rfl ?_
  refine G.il X dX7_drop_63 0 rfl ?_
  refine G.z_eq X (a := (-4)) dX7_drop_65 (fun b65 => absurd b65 (by decide)) (fun b65 => ?_)
  refine G.al X dX7_drop_68 1 rfl ?_
  refine G.il X dX7_drop_69 0 rfl ?_
  refine G.cvi X kX7_no lX7_74 dX7_drop_71 (tX7_no l D cI cW m S M 4 (by omega) (by omega)) ⟨Nat.le_of_ble_eq_true rfl, Nat.le_of_ble_eq_true rfl⟩ ⟨Nat.zero_le _, Nat.zero_le _⟩ [0] rfl ⟨rfl, rfl⟩ rfl rfl 0 0 rfl rfl rfl rfl (Nat.le_of_ble_eq_true rfl) (ff_cons (ml_fst _ _ _ _ _ _) (ff_nil)) (ws' := [ml m cI S (m_no M 4)]) rfl ?_
  exact G.iret X Rr (v := (-(nI 4))) dX7_drop_74 (pi_mk (by rfl) (by rfl))

set_option maxRecDepth 20000 in
theorem tX7_drop_hi1 (l : Launch) (D : va_G) (cI cW : ClassId) (m : Nat → Nat) (S : WS) (M : MS) (kd : Nat) (v : Int32) (n : Int32) (w : Int32) (hkd : kd < 6) (h1 : ¬ v < 0) (h2 : ¬ n < 1) (h3 : 9 < v) : CT l D cI cW yX7_drop cX7_drop 10 (some .int) ⟨1, 0, 0, 22⟩ [.ref (m 0), .int (nI kd), .int v, .int n, .int w] ([ml m cI S M]) (PI (-6) ([ml m cI S (m_no M 6)])) := by
  refine CT.of RX7 rfl (by decide +kernel) (Nat.le_of_ble_eq_true rfl) [(0, .ref (m 0)), (1, .int (nI kd)), (2, .int v), (3, .int n), (4, .int w)] rfl (fun x X Rr hnm => ?_)
  refine G.il X dX7_drop_0 1 rfl ?_
  refine G.pu X dX7_drop_1 ?_
  refine G.pu X dX7_drop_2 ?_
  refine G.csti X kX7_isIn lX7_85 dX7_drop_3 (tX7_isIn_yes l D cI cW kd 0 5 (by omega) (by omega) (by omega)) ⟨Nat.le_of_ble_eq_true rfl, Nat.le_of_ble_eq_true rfl⟩ ⟨Nat.zero_le _, Nat.zero_le _⟩ [] rfl ⟨rfl, rfl⟩ rfl rfl rfl (Nat.le_of_ble_eq_true rfl) (ff_nil) (ws' := [ml m cI S M]) rfl ?_
  refine G.b_ne X dX7_drop_6 (fun b6 => ?_) (fun b6 => absurd b6 (by decide))
  refine G.il X dX7_drop_14 2 rfl ?_
  refine G.z_lt X (a := v) dX7_drop_15 (fun b15 => absurd b15 (h1)) (fun b15 => ?_)
  refine G.il X dX7_drop_18 3 rfl ?_
  refine G.pu X dX7_drop_19 ?_
  refine G.c_ge X (a := n) (b := 1) dX7_drop_20 (fun b20 => ?_) (fun b20 => absurd b20 (h2))
  refine G.il X dX7_drop_28 2 rfl ?_
  refine G.pu X dX7_drop_29 ?_
  refine G.c_gt X (a := v) (b := 9) dX7_drop_31 (fun b31 => ?_) (fun b31 => absurd (h3) b31)
  refine G.pu X dX7_drop_40 ?_
  refine G.go X dX7_drop_42 ?_
  refine G.is X dX7_drop_61 (by decide) (lv' := [(5, .int (-6)), (0, .ref (m 0)), (1, .int (nI kd)), (2, .int v), (3, .int n), (4, .int w)]) rfl ?_
  refine G.il X dX7_drop_63 0 rfl ?_
  refine G.z_eq X (a := (-6)) dX7_drop_65 (fun b65 => absurd b65 (by decide)) (fun b65 => ?_)
  refine G.al X dX7_drop_68 1 rfl ?_
  refine G.il X dX7_drop_69 0 rfl ?_
  refine G.cvi X kX7_no lX7_74 dX7_drop_71 (tX7_no l D cI cW m S M 6 (by omega) (by omega)) ⟨Nat.le_of_ble_eq_true rfl, Nat.le_of_ble_eq_true rfl⟩ ⟨Nat.zero_le _, Nat.zero_le _⟩ [0] rfl ⟨rfl, rfl⟩ rfl rfl 0 0 rfl rfl rfl rfl (Nat.le_of_ble_eq_true rfl) (ff_cons (ml_fst _ _ _ _ _ _) (ff_nil)) (ws' := [ml m cI S (m_no M 6)]) rfl ?_
  exact G.iret X Rr (v := (-(nI 6))) dX7_drop_74 (pi_mk (by rfl) (by rfl))

set_option maxRecDepth 20000 in
theorem tX7_drop_hi2 (l : Launch) (D : va_G) (cI cW : ClassId) (m : Nat → Nat) (S : WS) (M : MS) (kd : Nat) (v : Int32) (n : Int32) (w : Int32) (hkd : kd < 6) (h1 : ¬ v < 0) (h2 : ¬ n < 1) (h3 : ¬ 9 < v) (h4 : 40 < n) : CT l D cI cW yX7_drop cX7_drop 10 (some .int) ⟨1, 0, 0, 22⟩ [.ref (m 0), .int (nI kd), .int v, .int n, .int w] ([ml m cI S M]) (PI (-6) ([ml m cI S (m_no M 6)])) := by
  refine CT.of RX7 rfl (by decide +kernel) (Nat.le_of_ble_eq_true rfl) [(0, .ref (m 0)), (1, .int (nI kd)), (2, .int v), (3, .int n), (4, .int w)] rfl (fun x X Rr hnm => ?_)
  refine G.il X dX7_drop_0 1 rfl ?_
  refine G.pu X dX7_drop_1 ?_
  refine G.pu X dX7_drop_2 ?_
  refine G.csti X kX7_isIn lX7_85 dX7_drop_3 (tX7_isIn_yes l D cI cW kd 0 5 (by omega) (by omega) (by omega)) ⟨Nat.le_of_ble_eq_true rfl, Nat.le_of_ble_eq_true rfl⟩ ⟨Nat.zero_le _, Nat.zero_le _⟩ [] rfl ⟨rfl, rfl⟩ rfl rfl rfl (Nat.le_of_ble_eq_true rfl) (ff_nil) (ws' := [ml m cI S M]) rfl ?_
  refine G.b_ne X dX7_drop_6 (fun b6 => ?_) (fun b6 => absurd b6 (by decide))
  refine G.il X dX7_drop_14 2 rfl ?_
  refine G.z_lt X (a := v) dX7_drop_15 (fun b15 => absurd b15 (h1)) (fun b15 => ?_)
  refine G.il X dX7_drop_18 3 rfl ?_
  refine G.pu X dX7_drop_19 ?_
  refine G.c_ge X (a := n) (b := 1) dX7_drop_20 (fun b20 => ?_) (fun b20 => absurd b20 (h2))
  refine G.il X dX7_drop_28 2 rfl ?_
  refine G.pu X dX7_drop_29 ?_
  refine G.c_gt X (a := v) (b := 9) dX7_drop_31 (fun b31 => absurd b31 (h3)) (fun b31 => ?_)
  refine G.il X dX7_drop_34 3 rfl ?_
  refine G.pu X dX7_drop_35 ?_
  refine G.c_le X (a := n) (b := 40) dX7_drop_37 (fun b37 => absurd (h4) b37) (fun b37 => ?_)
  refine G.pu X dX7_drop_40 ?_
  refine G.go X dX7_drop_42 ?_
  refine G.is X dX7_drop_61 (by decide) (lv' := [(5, .int (-6)), (0, .ref (m 0)), (1, .int (nI kd)), (2, .int v), (3, .int n), (4, .int w)]) rfl ?_
  refine G.il X dX7_drop_63 0 rfl ?_
  refine G.z_eq X (a := (-6)) dX7_drop_65 (fun b65 => absurd b65 (by decide)) (fun b65 => ?_)
  refine G.al X dX7_drop_68 1 rfl ?_
  refine G.il X dX7_drop_69 0 rfl ?_
  refine G.cvi X kX7_no lX7_74 dX7_drop_71 (tX7_no l D cI cW m S M 6 (by omega) (by omega)) ⟨Nat.le_of_ble_eq_true rfl, Nat.le_of_ble_eq_true rfl⟩ ⟨Nat.zero_le _, Nat.zero_le _⟩ [0] rfl ⟨rfl, rfl⟩ rfl rfl 0 0 rfl rfl rfl rfl (Nat.le_of_ble_eq_true rfl) (ff_cons (ml_fst _ _ _ _ _ _) (ff_nil)) (ws' := [ml m cI S (m_no M 6)]) rfl ?_
  exact G.iret X Rr (v := (-(nI 6))) dX7_drop_74 (pi_mk (by rfl) (by rfl))

set_option maxRecDepth 20000 in
theorem tX7_drop_oth2 (l : Launch) (D : va_G) (cI cW : ClassId) (m : Nat → Nat) (S : WS) (M : MS) (kd : Nat) (v : Nat) (n : Nat) (w : Int32) (hkd : kd < 6) (hv : v ≤ 9) (h1 : 1 ≤ n) (h2 : n ≤ 40) (hw : z_in w 2 = false) : CT l D cI cW yX7_drop cX7_drop 10 (some .int) ⟨1, 0, 0, 22⟩ [.ref (m 0), .int (nI kd), .int (nI v), .int (nI n), .int w] ([ml m cI S M]) (PI (-2) ([ml m cI S (m_no M 2)])) := by
  refine CT.of RX7 rfl (by decide +kernel) (Nat.le_of_ble_eq_true rfl) [(0, .ref (m 0)), (1, .int (nI kd)), (2, .int (nI v)), (3, .int (nI n)), (4, .int w)] rfl (fun x X Rr hnm => ?_)
  refine G.il X dX7_drop_0 1 rfl ?_
  refine G.pu X dX7_drop_1 ?_
  refine G.pu X dX7_drop_2 ?_
  refine G.csti X kX7_isIn lX7_85 dX7_drop_3 (tX7_isIn_yes l D cI cW kd 0 5 (by omega) (by omega) (by omega)) ⟨Nat.le_of_ble_eq_true rfl, Nat.le_of_ble_eq_true rfl⟩ ⟨Nat.zero_le _, Nat.zero_le _⟩ [] rfl ⟨rfl, rfl⟩ rfl rfl rfl (Nat.le_of_ble_eq_true rfl) (ff_nil) (ws' := [ml m cI S M]) rfl ?_
  refine G.b_ne X dX7_drop_6 (fun b6 => ?_) (fun b6 => absurd b6 (by decide))
  refine G.il X dX7_drop_14 2 rfl ?_
  refine G.z_lt X (a := nI v) dX7_drop_15 (fun b15 => absurd b15 (nI_pos (by omega))) (fun b15 => ?_)
  refine G.il X dX7_drop_18 3 rfl ?_
  refine G.pu X dX7_drop_19 ?_
  refine G.n_ge X (a := n) (b := 1) (by omega) (by omega) dX7_drop_20 (fun b20 => ?_) (fun b20 => absurd b20 (by omega))
  refine G.il X dX7_drop_28 2 rfl ?_
  refine G.pu X dX7_drop_29 ?_
  refine G.n_gt X (a := v) (b := 9) (by omega) (by omega) dX7_drop_31 (fun b31 => absurd b31 (by omega)) (fun b31 => ?_)
  refine G.il X dX7_drop_34 3 rfl ?_
  refine G.pu X dX7_drop_35 ?_
  refine G.n_le X (a := n) (b := 40) (by omega) (by omega) dX7_drop_37 (fun b37 => ?_) (fun b37 => absurd b37 (by omega))
  refine G.il X dX7_drop_45 4 rfl ?_
  refine G.pu X dX7_drop_47 ?_
  refine G.pu X dX7_drop_48 ?_
  refine G.csti X kX7_isIn lX7_85 dX7_drop_49 (tX7_isIn_no l D cI cW w 0 1 (zbt_no (n := 1) hw (by decide))) ⟨Nat.le_of_ble_eq_true rfl, Nat.le_of_ble_eq_true rfl⟩ ⟨Nat.zero_le _, Nat.zero_le _⟩ [] rfl ⟨rfl, rfl⟩ rfl rfl rfl (Nat.le_of_ble_eq_true rfl) (ff_nil) (ws' := [ml m cI S M]) rfl ?_
  refine G.b_ne X dX7_drop_52 (fun b52 => absurd b52 (by decide)) (fun b52 => ?_)
  refine G.pu X dX7_drop_55 ?_
  refine G.go X dX7_drop_57 ?_
  refine G.is X dX7_drop_61 (by decide) (lv' := [(5, .int (-2)), (0, .ref (m 0)), (1, .int (nI kd)), (2, .int (nI v)), (3, .int (nI n)), (4, .int w)]) rfl ?_
  refine G.il X dX7_drop_63 0 rfl ?_
  refine G.z_eq X (a := (-2)) dX7_drop_65 (fun b65 => absurd b65 (by decide)) (fun b65 => ?_)
  refine G.al X dX7_drop_68 1 rfl ?_
  refine G.il X dX7_drop_69 0 rfl ?_
  refine G.cvi X kX7_no lX7_74 dX7_drop_71 (tX7_no l D cI cW m S M 2 (by omega) (by omega)) ⟨Nat.le_of_ble_eq_true rfl, Nat.le_of_ble_eq_true rfl⟩ ⟨Nat.zero_le _, Nat.zero_le _⟩ [0] rfl ⟨rfl, rfl⟩ rfl rfl 0 0 rfl rfl rfl rfl (Nat.le_of_ble_eq_true rfl) (ff_cons (ml_fst _ _ _ _ _ _) (ff_nil)) (ws' := [ml m cI S (m_no M 2)]) rfl ?_
  exact G.iret X Rr (v := (-(nI 2))) dX7_drop_74 (pi_mk (by rfl) (by rfl))

set_option maxRecDepth 20000 in
theorem tX7_drop_full0 (l : Launch) (D : va_G) (cI cW : ClassId) (m : Nat → Nat) (S : WS) (M : MS) (kd : Nat) (v : Nat) (n : Nat) (hS : Ok S) (hco : m_co M = false) (hkd : kd < 6) (hv : v ≤ 9) (h1 : 1 ≤ n) (h2 : n ≤ 40) (ht9 : ¬ s_th S < 9) : CT l D cI cW yX7_drop cX7_drop 10 (some .int) ⟨1, 0, 0, 22⟩ [.ref (m 0), .int (nI kd), .int (nI v), .int (nI n), .int 0] ([ml m cI S M]) (PI (-9) ([ml m cI S M])) := by
  refine CT.of RX7 rfl (by decide +kernel) (Nat.le_of_ble_eq_true rfl) [(0, .ref (m 0)), (1, .int (nI kd)), (2, .int (nI v)), (3, .int (nI n)), (4, .int 0)] rfl (fun x X Rr hnm => ?_)
  have hth := hS.th
  have hpe := hS.pe
  refine G.il X dX7_drop_0 1 rfl ?_
  refine G.pu X dX7_drop_1 ?_
  refine G.pu X dX7_drop_2 ?_
  refine G.csti X kX7_isIn lX7_85 dX7_drop_3 (tX7_isIn_yes l D cI cW kd 0 5 (by omega) (by omega) (by omega)) ⟨Nat.le_of_ble_eq_true rfl, Nat.le_of_ble_eq_true rfl⟩ ⟨Nat.zero_le _, Nat.zero_le _⟩ [] rfl ⟨rfl, rfl⟩ rfl rfl rfl (Nat.le_of_ble_eq_true rfl) (ff_nil) (ws' := [ml m cI S M]) rfl ?_
  refine G.b_ne X dX7_drop_6 (fun b6 => ?_) (fun b6 => absurd b6 (by decide))
  refine G.il X dX7_drop_14 2 rfl ?_
  refine G.z_lt X (a := nI v) dX7_drop_15 (fun b15 => absurd b15 (nI_pos (by omega))) (fun b15 => ?_)
  refine G.il X dX7_drop_18 3 rfl ?_
  refine G.pu X dX7_drop_19 ?_
  refine G.n_ge X (a := n) (b := 1) (by omega) (by omega) dX7_drop_20 (fun b20 => ?_) (fun b20 => absurd b20 (by omega))
  refine G.il X dX7_drop_28 2 rfl ?_
  refine G.pu X dX7_drop_29 ?_
  refine G.n_gt X (a := v) (b := 9) (by omega) (by omega) dX7_drop_31 (fun b31 => absurd b31 (by omega)) (fun b31 => ?_)
  refine G.il X dX7_drop_34 3 rfl ?_
  refine G.pu X dX7_drop_35 ?_
  refine G.n_le X (a := n) (b := 40) (by omega) (by omega) dX7_drop_37 (fun b37 => ?_) (fun b37 => absurd b37 (by omega))
  refine G.il X dX7_drop_45 4 rfl ?_
  refine G.pu X dX7_drop_47 ?_
  refine G.pu X dX7_drop_48 ?_
  refine G.csti X kX7_isIn lX7_85 dX7_drop_49 (tX7_isIn_yes l D cI cW 0 0 1 (by omega) (by omega) (by omega)) ⟨Nat.le_of_ble_eq_true rfl, Nat.le_of_ble_eq_true rfl⟩ ⟨Nat.zero_le _, Nat.zero_le _⟩ [] rfl ⟨rfl, rfl⟩ rfl rfl rfl (Nat.le_of_ble_eq_true rfl) (ff_nil) (ws' := [ml m cI S M]) rfl ?_
  refine G.b_ne X dX7_drop_52 (fun b52 => ?_) (fun b52 => absurd b52 (by decide))
  refine G.pu X dX7_drop_60 ?_
  refine G.is X dX7_drop_61 (by decide) (lv' := [(5, .int 0), (0, .ref (m 0)), (1, .int (nI kd)), (2, .int (nI v)), (3, .int (nI n)), (4, .int 0)]) rfl ?_
  refine G.il X dX7_drop_63 0 rfl ?_
  refine G.z_eq X (a := 0) dX7_drop_65 (fun b65 => ?_) (fun b65 => absurd b65 (by decide))
  refine G.pu X dX7_drop_75 ?_
  refine G.is X dX7_drop_77 (by decide) (lv' := [(6, .int (-9)), (5, .int 0), (0, .ref (m 0)), (1, .int (nI kd)), (2, .int (nI v)), (3, .int (nI n)), (4, .int 0)]) rfl ?_
  refine G.pu X dX7_drop_79 ?_
  refine G.is X dX7_drop_81 (by decide) (lv' := [(7, .int (-9)), (6, .int (-9)), (5, .int 0), (0, .ref (m 0)), (1, .int (nI kd)), (2, .int (nI v)), (3, .int (nI n)), (4, .int 0)]) rfl ?_
  refine G.pu X dX7_drop_83 ?_
  refine G.is X dX7_drop_84 (by decide) (lv' := [(8, .int 0), (7, .int (-9)), (6, .int (-9)), (5, .int 0), (0, .ref (m 0)), (1, .int (nI kd)), (2, .int (nI v)), (3, .int (nI n)), (4, .int 0)]) rfl ?_
  refine G.il X dX7_drop_86 0 rfl ?_
  refine G.al X dX7_drop_88 4 rfl ?_
  refine G.get X fX7_64 dX7_drop_89 0 0 rfl rfl rfl ?_
  refine G.n_ge X (a := 0) (b := s_pe S) (by omega) (by omega) dX7_drop_92 (fun b92 => ?_) (fun b92 => ?_)
  · refine G.il X dX7_drop_144 8 rfl ?_
    refine G.z_ne X (a := 0) dX7_drop_146 (fun b146 => absurd b146 (by decide)) (fun b146 => ?_)
    refine G.il X dX7_drop_149 2 rfl ?_
    refine G.go X dX7_drop_151 ?_
    exact G.iret X Rr (v := (-9)) dX7_drop_156 (pi_mk (by rfl) (by rfl))
  · refine G.al X dX7_drop_95 4 rfl ?_
    refine G.get X fX7_58 dX7_drop_96 0 0 rfl rfl rfl ?_
    refine G.pu X dX7_drop_99 ?_
    refine G.n_ge X (a := s_th S) (b := 9) (by omega) (by omega) dX7_drop_101 (fun b101 => ?_) (fun b101 => absurd b101 (by omega))
    refine G.il X dX7_drop_144 8 rfl ?_
    refine G.z_ne X (a := 0) dX7_drop_146 (fun b146 => absurd b146 (by decide)) (fun b146 => ?_)
    refine G.il X dX7_drop_149 2 rfl ?_
    refine G.go X dX7_drop_151 ?_
    exact G.iret X Rr (v := (-9)) dX7_drop_156 (pi_mk (by rfl) (by rfl))

set_option maxRecDepth 20000 in
theorem tX7_drop_0 (l : Launch) (D : va_G) (cI cW : ClassId) (m : Nat → Nat) (S : WS) (M : MS) (kd : Nat) (v : Nat) (n : Nat) (hS : Ok S) (hco : m_co M = false) (hkd : kd < 6) (hv : v ≤ 9) (h1 : 1 ≤ n) (h2 : n ≤ 40) (ht9 : s_th S < 9) : CT l D cI cW yX7_drop cX7_drop 10 (some .int) ⟨6, 0, 0, 135⟩ [.ref (m 0), .int (nI kd), .int (nI v), .int (nI n), .int 0] ([ml m cI S M]) (PIE (o2i (bix yes (fun i j => decide (w_wet (w_add S (nI kd) (nI v) (nI j)) n < w_wet (w_add S (nI kd) (nI v) (nI i)) n)) (s_pe S))) (fun M9 : {M9 : MS // Mq 64 M M9} => [ml m cI S M9.1])) := by
  refine CT.of RX7 rfl (by decide +kernel) (Nat.le_of_ble_eq_true rfl) [(0, .ref (m 0)), (1, .int (nI kd)), (2, .int (nI v)), (3, .int (nI n)), (4, .int 0)] rfl (fun x X Rr hnm => ?_)
  have hth := hS.th
  have hpe := hS.pe
  refine G.il X dX7_drop_0 1 rfl ?_
  refine G.pu X dX7_drop_1 ?_
  refine G.pu X dX7_drop_2 ?_
  refine G.csti X kX7_isIn lX7_85 dX7_drop_3 (tX7_isIn_yes l D cI cW kd 0 5 (by omega) (by omega) (by omega)) ⟨Nat.le_of_ble_eq_true rfl, Nat.le_of_ble_eq_true rfl⟩ ⟨Nat.zero_le _, Nat.zero_le _⟩ [] rfl ⟨rfl, rfl⟩ rfl rfl rfl (Nat.le_of_ble_eq_true rfl) (ff_nil) (ws' := [ml m cI S M]) rfl ?_
  refine G.b_ne X dX7_drop_6 (fun b6 => ?_) (fun b6 => absurd b6 (by decide))
  refine G.il X dX7_drop_14 2 rfl ?_
  refine G.z_lt X (a := nI v) dX7_drop_15 (fun b15 => absurd b15 (nI_pos (by omega))) (fun b15 => ?_)
  refine G.il X dX7_drop_18 3 rfl ?_
  refine G.pu X dX7_drop_19 ?_
  refine G.n_ge X (a := n) (b := 1) (by omega) (by omega) dX7_drop_20 (fun b20 => ?_) (fun b20 => absurd b20 (by omega))
  refine G.il X dX7_drop_28 2 rfl ?_
  refine G.pu X dX7_drop_29 ?_
  refine G.n_gt X (a := v) (b := 9) (by omega) (by omega) dX7_drop_31 (fun b31 => absurd b31 (by omega)) (fun b31 => ?_)
  refine G.il X dX7_drop_34 3 rfl ?_
  refine G.pu X dX7_drop_35 ?_
  refine G.n_le X (a := n) (b := 40) (by omega) (by omega) dX7_drop_37 (fun b37 => ?_) (fun b37 => absurd b37 (by omega))
  refine G.il X dX7_drop_45 4 rfl ?_
  refine G.pu X dX7_drop_47 ?_
  refine G.pu X dX7_drop_48 ?_
  refine G.csti X kX7_isIn lX7_85 dX7_drop_49 (tX7_isIn_yes l D cI cW 0 0 1 (by omega) (by omega) (by omega)) ⟨Nat.le_of_ble_eq_true rfl, Nat.le_of_ble_eq_true rfl⟩ ⟨Nat.zero_le _, Nat.zero_le _⟩ [] rfl ⟨rfl, rfl⟩ rfl rfl rfl (Nat.le_of_ble_eq_true rfl) (ff_nil) (ws' := [ml m cI S M]) rfl ?_
  refine G.b_ne X dX7_drop_52 (fun b52 => ?_) (fun b52 => absurd b52 (by decide))
  refine G.pu X dX7_drop_60 ?_
  refine G.is X dX7_drop_61 (by decide) (lv' := [(5, .int 0), (0, .ref (m 0)), (1, .int (nI kd)), (2, .int (nI v)), (3, .int (nI n)), (4, .int 0)]) rfl ?_
  refine G.il X dX7_drop_63 0 rfl ?_
  refine G.z_eq X (a := 0) dX7_drop_65 (fun b65 => ?_) (fun b65 => absurd b65 (by decide))
  refine G.pu X dX7_drop_75 ?_
  refine G.is X dX7_drop_77 (by decide) (lv' := [(6, .int (-9)), (5, .int 0), (0, .ref (m 0)), (1, .int (nI kd)), (2, .int (nI v)), (3, .int (nI n)), (4, .int 0)]) rfl ?_
  refine G.pu X dX7_drop_79 ?_
  refine G.is X dX7_drop_81 (by decide) (lv' := [(7, .int (-9)), (6, .int (-9)), (5, .int 0), (0, .ref (m 0)), (1, .int (nI kd)), (2, .int (nI v)), (3, .int (nI n)), (4, .int 0)]) rfl ?_
  refine G.pu X dX7_drop_83 ?_
  refine G.is X dX7_drop_84 (by decide) (lv' := [(8, .int 0), (7, .int (-9)), (6, .int (-9)), (5, .int 0), (0, .ref (m 0)), (1, .int (nI kd)), (2, .int (nI v)), (3, .int (nI n)), (4, .int 0)]) rfl ?_
  have L86 : ∀ k, k ≤ s_pe S → ∀ M8 : {M8 : MS // Mq 64 M M8}, G x 0 0 ([ml m cI S M8.1]) 86 [(8, .int (nI k)), (7, .int (obv (fun p => w_wet (w_add S (nI kd) (nI v) (nI p)) n) (bix yes (fun i j => decide (w_wet (w_add S (nI kd) (nI v) (nI j)) n < w_wet (w_add S (nI kd) (nI v) (nI i)) n)) k))), (6, .int (o2i (bix yes (fun i j => decide (w_wet (w_add S (nI kd) (nI v) (nI j)) n < w_wet (w_add S (nI kd) (nI v) (nI i)) n)) k))), (0, .ref (m 0)), (1, .int (nI kd)), (2, .int (nI v)), (3, .int (nI n)), (4, .int 0)] [] := by
    refine loop_dn (s_pe S) _ ?_ ?_
    · intro M8
      refine G.il X dX7_drop_86 0 rfl ?_
      refine G.al X dX7_drop_88 3 rfl ?_
      refine G.get X fX7_64 dX7_drop_89 0 0 rfl rfl rfl ?_
      refine G.n_ge X (a := s_pe S) (b := s_pe S) (by omega) (by omega) dX7_drop_92 (fun b92 => ?_) (fun b92 => absurd b92 (by omega))
      refine G.il X dX7_drop_144 7 rfl ?_
      refine G.z_ne X (a := 0) dX7_drop_146 (fun b146 => absurd b146 (by decide)) (fun b146 => ?_)
      refine G.il X dX7_drop_149 2 rfl ?_
      refine G.go X dX7_drop_151 ?_
      exact G.iret X Rr (v := (o2i (bix yes (fun i j => decide (w_wet (w_add S (nI kd) (nI v) (nI j)) n < w_wet (w_add S (nI kd) (nI v) (nI i)) n)) (s_pe S)))) dX7_drop_156 (pie_mk (qk (M8.2)) (by rfl) (by rfl))
    · intro k hk ih86 M8
      refine G.il X dX7_drop_86 0 rfl ?_
      refine G.al X dX7_drop_88 3 rfl ?_
      refine G.get X fX7_64 dX7_drop_89 0 0 rfl rfl rfl ?_
      refine G.n_ge X (a := k) (b := s_pe S) (by omega) (by omega) dX7_drop_92 (fun b92 => absurd b92 (by omega)) (fun b92 => ?_)
      refine G.al X dX7_drop_95 3 rfl ?_
      refine G.get X fX7_58 dX7_drop_96 0 0 rfl rfl rfl ?_
      refine G.pu X dX7_drop_99 ?_
      refine G.n_ge X (a := s_th S) (b := 9) (by omega) (by omega) dX7_drop_101 (fun b101 => absurd b101 (by omega)) (fun b101 => ?_)
      refine G.al X dX7_drop_104 3 rfl ?_
      refine G.il X dX7_drop_105 4 rfl ?_
      refine G.il X dX7_drop_106 5 rfl ?_
      refine G.il X dX7_drop_107 0 rfl ?_
      refine G.il X dX7_drop_109 6 rfl ?_
      refine G.cvie X kX7_wetWith lX7_256 dX7_drop_110 (tX7_wetWith l D cI cW m S M8.1 kd v k n hS (M8.2.co hco) hkd hv (by omega) ht9 (by omega)) ⟨Nat.le_of_ble_eq_true rfl, Nat.le_of_ble_eq_true rfl⟩ ⟨Nat.zero_le _, Nat.zero_le _⟩ [0] rfl ⟨rfl, rfl⟩ rfl rfl 0 0 rfl rfl rfl rfl (Nat.le_of_ble_eq_true rfl) (fun _ => (ff_cons (ml_fst _ _ _ _ _ _) (ff_nil))) (f8 := fun M9_110 : {M9_110 : MS // Mq 64 M8.1 M9_110} => [ml m cI S M9_110.1]) (fun _ => rfl) (fun M9_110 => ?_)
      refine G.is X dX7_drop_113 (by decide) (lv' := [(9, .int (nI (w_wet (w_add S (nI kd) (nI v) (nI k)) n))), (8, .int (nI k)), (7, .int (obv (fun p => w_wet (w_add S (nI kd) (nI v) (nI p)) n) (bix yes (fun i j => decide (w_wet (w_add S (nI kd) (nI v) (nI j)) n < w_wet (w_add S (nI kd) (nI v) (nI i)) n)) k))), (6, .int (o2i (bix yes (fun i j => decide (w_wet (w_add S (nI kd) (nI v) (nI j)) n < w_wet (w_add S (nI kd) (nI v) (nI i)) n)) k))), (0, .ref (m 0)), (1, .int (nI kd)), (2, .int (nI v)), (3, .int (nI n)), (4, .int 0)]) rfl ?_
      rcases eb : bix yes (fun i j => decide (w_wet (w_add S (nI kd) (nI v) (nI j)) n < w_wet (w_add S (nI kd) (nI v) (nI i)) n)) k with _ | j9
      · refine G.cg (lv' := [(9, .int (nI (w_wet (w_add S (nI kd) (nI v) (nI k)) n))), (8, .int (nI k)), (7, .int (-9)), (6, .int (-9)), (0, .ref (m 0)), (1, .int (nI kd)), (2, .int (nI v)), (3, .int (nI n)), (4, .int 0)]) rfl rfl rfl ?_
        refine G.il X dX7_drop_115 3 rfl ?_
        refine G.z_lt X (a := (-9)) dX7_drop_117 (fun b117 => ?_) (fun b117 => absurd b117 (by decide))
        refine G.il X dX7_drop_130 1 rfl ?_
        refine G.is X dX7_drop_132 (by decide) (lv' := [(6, .int (nI k)), (9, .int (nI (w_wet (w_add S (nI kd) (nI v) (nI k)) n))), (8, .int (nI k)), (7, .int (-9)), (0, .ref (m 0)), (1, .int (nI kd)), (2, .int (nI v)), (3, .int (nI n)), (4, .int 0)]) rfl ?_
        refine G.il X dX7_drop_134 1 rfl ?_
        refine G.is X dX7_drop_136 (by decide) (lv' := [(7, .int (nI (w_wet (w_add S (nI kd) (nI v) (nI k)) n))), (6, .int (nI k)), (9, .int (nI (w_wet (w_add S (nI kd) (nI v) (nI k)) n))), (8, .int (nI k)), (0, .ref (m 0)), (1, .int (nI kd)), (2, .int (nI v)), (3, .int (nI n)), (4, .int 0)]) rfl ?_
        refine G.iinc X dX7_drop_138 3 rfl (v' := nI (k + 1)) (nI_inc k) (by decide) (lv' := [(8, .int (nI (k + 1))), (7, .int (nI (w_wet (w_add S (nI kd) (nI v) (nI k)) n))), (6, .int (nI k)), (9, .int (nI (w_wet (w_add S (nI kd) (nI v) (nI k)) n))), (0, .ref (m 0)), (1, .int (nI kd)), (2, .int (nI v)), (3, .int (nI n)), (4, .int 0)]) rfl ?_
        refine G.go X dX7_drop_141 ?_
        replace ih86 := ih86 (qk ((M8.2).tr M9_110.2 (by decide)))
        rw [show (obv (fun p => w_wet (w_add S (nI kd) (nI v) (nI p)) n) (bix yes (fun i j => decide (w_wet (w_add S (nI kd) (nI v) (nI j)) n < w_wet (w_add S (nI kd) (nI v) (nI i)) n)) (k + 1))) = (nI (w_wet (w_add S (nI kd) (nI v) (nI k)) n)) from (by simp [-Int32.not_lt, bix, yes, o2i, obv, b92, b101, eb])] at ih86
        rw [show (o2i (bix yes (fun i j => decide (w_wet (w_add S (nI kd) (nI v) (nI j)) n < w_wet (w_add S (nI kd) (nI v) (nI i)) n)) (k + 1))) = (nI k) from (by simp [-Int32.not_lt, bix, yes, o2i, obv, b92, b101, eb])] at ih86
        refine G.lvsub [0, 1, 2, 4, 5, 6, 7, 8] (lv' := [(8, .int (nI (k + 1))), (7, .int (nI (w_wet (w_add S (nI kd) (nI v) (nI k)) n))), (6, .int (nI k)), (0, .ref (m 0)), (1, .int (nI kd)), (2, .int (nI v)), (3, .int (nI n)), (4, .int 0)]) rfl ?_
        exact ih86
      · refine G.cg (lv' := [(9, .int (nI (w_wet (w_add S (nI kd) (nI v) (nI k)) n))), (8, .int (nI k)), (7, .int (nI (w_wet (w_add S (nI kd) (nI v) (nI j9)) n))), (6, .int (nI j9)), (0, .ref (m 0)), (1, .int (nI kd)), (2, .int (nI v)), (3, .int (nI n)), (4, .int 0)]) rfl rfl rfl ?_
        have hj9 : j9 < k := bix_lt eb
        refine G.il X dX7_drop_115 3 rfl ?_
        refine G.z_lt X (a := nI j9) dX7_drop_117 (fun b117 => absurd b117 (nI_pos (by omega))) (fun b117 => ?_)
        refine G.il X dX7_drop_120 0 rfl ?_
        refine G.il X dX7_drop_122 2 rfl ?_
        refine G.n_lt X (a := w_wet (w_add S (nI kd) (nI v) (nI k)) n) (b := w_wet (w_add S (nI kd) (nI v) (nI j9)) n) (by have := w_wet_le (w_add S (nI kd) (nI v) (nI k)) n; omega) (by have := w_wet_le (w_add S (nI kd) (nI v) (nI j9)) n; omega) dX7_drop_124 (fun b124 => ?_) (fun b124 => ?_)
        · refine G.il X dX7_drop_130 1 rfl ?_
          refine G.is X dX7_drop_132 (by decide) (lv' := [(6, .int (nI k)), (9, .int (nI (w_wet (w_add S (nI kd) (nI v) (nI k)) n))), (8, .int (nI k)), (7, .int (nI (w_wet (w_add S (nI kd) (nI v) (nI j9)) n))), (0, .ref (m 0)), (1, .int (nI kd)), (2, .int (nI v)), (3, .int (nI n)), (4, .int 0)]) rfl ?_
          refine G.il X dX7_drop_134 1 rfl ?_
          refine G.is X dX7_drop_136 (by decide) (lv' := [(7, .int (nI (w_wet (w_add S (nI kd) (nI v) (nI k)) n))), (6, .int (nI k)), (9, .int (nI (w_wet (w_add S (nI kd) (nI v) (nI k)) n))), (8, .int (nI k)), (0, .ref (m 0)), (1, .int (nI kd)), (2, .int (nI v)), (3, .int (nI n)), (4, .int 0)]) rfl ?_
          refine G.iinc X dX7_drop_138 3 rfl (v' := nI (k + 1)) (nI_inc k) (by decide) (lv' := [(8, .int (nI (k + 1))), (7, .int (nI (w_wet (w_add S (nI kd) (nI v) (nI k)) n))), (6, .int (nI k)), (9, .int (nI (w_wet (w_add S (nI kd) (nI v) (nI k)) n))), (0, .ref (m 0)), (1, .int (nI kd)), (2, .int (nI v)), (3, .int (nI n)), (4, .int 0)]) rfl ?_
          refine G.go X dX7_drop_141 ?_
          replace ih86 := ih86 (qk ((M8.2).tr M9_110.2 (by decide)))
          rw [show (obv (fun p => w_wet (w_add S (nI kd) (nI v) (nI p)) n) (bix yes (fun i j => decide (w_wet (w_add S (nI kd) (nI v) (nI j)) n < w_wet (w_add S (nI kd) (nI v) (nI i)) n)) (k + 1))) = (nI (w_wet (w_add S (nI kd) (nI v) (nI k)) n)) from (by simp [-Int32.not_lt, bix, yes, o2i, obv, b92, b101, eb, b117, b124])] at ih86
          rw [show (o2i (bix yes (fun i j => decide (w_wet (w_add S (nI kd) (nI v) (nI j)) n < w_wet (w_add S (nI kd) (nI v) (nI i)) n)) (k + 1))) = (nI k) from (by simp [-Int32.not_lt, bix, yes, o2i, obv, b92, b101, eb, b117, b124])] at ih86
          refine G.lvsub [0, 1, 2, 4, 5, 6, 7, 8] (lv' := [(8, .int (nI (k + 1))), (7, .int (nI (w_wet (w_add S (nI kd) (nI v) (nI k)) n))), (6, .int (nI k)), (0, .ref (m 0)), (1, .int (nI kd)), (2, .int (nI v)), (3, .int (nI n)), (4, .int 0)]) rfl ?_
          exact ih86
        · refine G.go X dX7_drop_127 ?_
          refine G.iinc X dX7_drop_138 1 rfl (v' := nI (k + 1)) (nI_inc k) (by decide) (lv' := [(8, .int (nI (k + 1))), (9, .int (nI (w_wet (w_add S (nI kd) (nI v) (nI k)) n))), (7, .int (nI (w_wet (w_add S (nI kd) (nI v) (nI j9)) n))), (6, .int (nI j9)), (0, .ref (m 0)), (1, .int (nI kd)), (2, .int (nI v)), (3, .int (nI n)), (4, .int 0)]) rfl ?_
          refine G.go X dX7_drop_141 ?_
          replace ih86 := ih86 (qk ((M8.2).tr M9_110.2 (by decide)))
          rw [show (obv (fun p => w_wet (w_add S (nI kd) (nI v) (nI p)) n) (bix yes (fun i j => decide (w_wet (w_add S (nI kd) (nI v) (nI j)) n < w_wet (w_add S (nI kd) (nI v) (nI i)) n)) (k + 1))) = (nI (w_wet (w_add S (nI kd) (nI v) (nI j9)) n)) from (by simp [-Int32.not_lt, bix, yes, o2i, obv, b92, b101, eb, b117, b124])] at ih86
          rw [show (o2i (bix yes (fun i j => decide (w_wet (w_add S (nI kd) (nI v) (nI j)) n < w_wet (w_add S (nI kd) (nI v) (nI i)) n)) (k + 1))) = (nI j9) from (by simp [-Int32.not_lt, bix, yes, o2i, obv, b92, b101, eb, b117, b124])] at ih86
          refine G.lvsub [0, 2, 3, 4, 5, 6, 7, 8] (lv' := [(8, .int (nI (k + 1))), (7, .int (nI (w_wet (w_add S (nI kd) (nI v) (nI j9)) n))), (6, .int (nI j9)), (0, .ref (m 0)), (1, .int (nI kd)), (2, .int (nI v)), (3, .int (nI n)), (4, .int 0)]) rfl ?_
          exact ih86
  refine G.lvsub [0, 1, 2, 4, 5, 6, 7, 8] (lv' := [(8, .int 0), (7, .int (-9)), (6, .int (-9)), (0, .ref (m 0)), (1, .int (nI kd)), (2, .int (nI v)), (3, .int (nI n)), (4, .int 0)]) rfl ?_
  have L86 := L86 0 (Nat.zero_le _) (qk (Mq.rf 64 M))
  exact L86

set_option maxRecDepth 20000 in
theorem tX7_drop_full1 (l : Launch) (D : va_G) (cI cW : ClassId) (m : Nat → Nat) (S : WS) (M : MS) (kd : Nat) (v : Nat) (n : Nat) (hS : Ok S) (hco : m_co M = false) (hkd : kd < 6) (hv : v ≤ 9) (h1 : 1 ≤ n) (h2 : n ≤ 40) (ht9 : ¬ s_th S < 9) : CT l D cI cW yX7_drop cX7_drop 10 (some .int) ⟨1, 0, 0, 22⟩ [.ref (m 0), .int (nI kd), .int (nI v), .int (nI n), .int 1] ([ml m cI S M]) (PI (-9) ([ml m cI S M])) := by
  refine CT.of RX7 rfl (by decide +kernel) (Nat.le_of_ble_eq_true rfl) [(0, .ref (m 0)), (1, .int (nI kd)), (2, .int (nI v)), (3, .int (nI n)), (4, .int 1)] rfl (fun x X Rr hnm => ?_)
  have hth := hS.th
  have hpe := hS.pe
  refine G.il X dX7_drop_0 1 rfl ?_
  refine G.pu X dX7_drop_1 ?_
  refine G.pu X dX7_drop_2 ?_
  refine G.csti X kX7_isIn lX7_85 dX7_drop_3 (tX7_isIn_yes l D cI cW kd 0 5 (by omega) (by omega) (by omega)) ⟨Nat.le_of_ble_eq_true rfl, Nat.le_of_ble_eq_true rfl⟩ ⟨Nat.zero_le _, Nat.zero_le _⟩ [] rfl ⟨rfl, rfl⟩ rfl rfl rfl (Nat.le_of_ble_eq_true rfl) (ff_nil) (ws' := [ml m cI S M]) rfl ?_
  refine G.b_ne X dX7_drop_6 (fun b6 => ?_) (fun b6 => absurd b6 (by decide))
  refine G.il X dX7_drop_14 2 rfl ?_
  refine G.z_lt X (a := nI v) dX7_drop_15 (fun b15 => absurd b15 (nI_pos (by omega))) (fun b15 => ?_)
  refine G.il X dX7_drop_18 3 rfl ?_
  refine G.pu X dX7_drop_19 ?_
  refine G.n_ge X (a := n) (b := 1) (by omega) (by omega) dX7_drop_20 (fun b20 => ?_) (fun b20 => absurd b20 (by omega))
  refine G.il X dX7_drop_28 2 rfl ?_
  refine G.pu X dX7_drop_29 ?_
  refine G.n_gt X (a := v) (b := 9) (by omega) (by omega) dX7_drop_31 (fun b31 => absurd b31 (by omega)) (fun b31 => ?_)
  refine G.il X dX7_drop_34 3 rfl ?_
  refine G.pu X dX7_drop_35 ?_
  refine G.n_le X (a := n) (b := 40) (by omega) (by omega) dX7_drop_37 (fun b37 => ?_) (fun b37 => absurd b37 (by omega))
  refine G.il X dX7_drop_45 4 rfl ?_
  refine G.pu X dX7_drop_47 ?_
  refine G.pu X dX7_drop_48 ?_
  refine G.csti X kX7_isIn lX7_85 dX7_drop_49 (tX7_isIn_yes l D cI cW 1 0 1 (by omega) (by omega) (by omega)) ⟨Nat.le_of_ble_eq_true rfl, Nat.le_of_ble_eq_true rfl⟩ ⟨Nat.zero_le _, Nat.zero_le _⟩ [] rfl ⟨rfl, rfl⟩ rfl rfl rfl (Nat.le_of_ble_eq_true rfl) (ff_nil) (ws' := [ml m cI S M]) rfl ?_
  refine G.b_ne X dX7_drop_52 (fun b52 => ?_) (fun b52 => absurd b52 (by decide))
  refine G.pu X dX7_drop_60 ?_
  refine G.is X dX7_drop_61 (by decide) (lv' := [(5, .int 0), (0, .ref (m 0)), (1, .int (nI kd)), (2, .int (nI v)), (3, .int (nI n)), (4, .int 1)]) rfl ?_
  refine G.il X dX7_drop_63 0 rfl ?_
  refine G.z_eq X (a := 0) dX7_drop_65 (fun b65 => ?_) (fun b65 => absurd b65 (by decide))
  refine G.pu X dX7_drop_75 ?_
  refine G.is X dX7_drop_77 (by decide) (lv' := [(6, .int (-9)), (5, .int 0), (0, .ref (m 0)), (1, .int (nI kd)), (2, .int (nI v)), (3, .int (nI n)), (4, .int 1)]) rfl ?_
  refine G.pu X dX7_drop_79 ?_
  refine G.is X dX7_drop_81 (by decide) (lv' := [(7, .int (-9)), (6, .int (-9)), (5, .int 0), (0, .ref (m 0)), (1, .int (nI kd)), (2, .int (nI v)), (3, .int (nI n)), (4, .int 1)]) rfl ?_
  refine G.pu X dX7_drop_83 ?_
  refine G.is X dX7_drop_84 (by decide) (lv' := [(8, .int 0), (7, .int (-9)), (6, .int (-9)), (5, .int 0), (0, .ref (m 0)), (1, .int (nI kd)), (2, .int (nI v)), (3, .int (nI n)), (4, .int 1)]) rfl ?_
  refine G.il X dX7_drop_86 0 rfl ?_
  refine G.al X dX7_drop_88 4 rfl ?_
  refine G.get X fX7_64 dX7_drop_89 0 0 rfl rfl rfl ?_
  refine G.n_ge X (a := 0) (b := s_pe S) (by omega) (by omega) dX7_drop_92 (fun b92 => ?_) (fun b92 => ?_)
  · refine G.il X dX7_drop_144 8 rfl ?_
    refine G.z_ne X (a := 1) dX7_drop_146 (fun b146 => ?_) (fun b146 => absurd b146 (by decide))
    refine G.il X dX7_drop_154 1 rfl ?_
    exact G.iret X Rr (v := (-9)) dX7_drop_156 (pi_mk (by rfl) (by rfl))
  · refine G.al X dX7_drop_95 4 rfl ?_
    refine G.get X fX7_58 dX7_drop_96 0 0 rfl rfl rfl ?_
    refine G.pu X dX7_drop_99 ?_
    refine G.n_ge X (a := s_th S) (b := 9) (by omega) (by omega) dX7_drop_101 (fun b101 => ?_) (fun b101 => absurd b101 (by omega))
    refine G.il X dX7_drop_144 8 rfl ?_
    refine G.z_ne X (a := 1) dX7_drop_146 (fun b146 => ?_) (fun b146 => absurd b146 (by decide))
    refine G.il X dX7_drop_154 1 rfl ?_
    exact G.iret X Rr (v := (-9)) dX7_drop_156 (pi_mk (by rfl) (by rfl))

set_option maxRecDepth 20000 in
theorem tX7_drop_1 (l : Launch) (D : va_G) (cI cW : ClassId) (m : Nat → Nat) (S : WS) (M : MS) (kd : Nat) (v : Nat) (n : Nat) (hS : Ok S) (hco : m_co M = false) (hkd : kd < 6) (hv : v ≤ 9) (h1 : 1 ≤ n) (h2 : n ≤ 40) (ht9 : s_th S < 9) : CT l D cI cW yX7_drop cX7_drop 10 (some .int) ⟨6, 0, 0, 135⟩ [.ref (m 0), .int (nI kd), .int (nI v), .int (nI n), .int 1] ([ml m cI S M]) (PIE (obv (fun p => w_wet (w_add S (nI kd) (nI v) (nI p)) n) (bix yes (fun i j => decide (w_wet (w_add S (nI kd) (nI v) (nI j)) n < w_wet (w_add S (nI kd) (nI v) (nI i)) n)) (s_pe S))) (fun M9 : {M9 : MS // Mq 64 M M9} => [ml m cI S M9.1])) := by
  refine CT.of RX7 rfl (by decide +kernel) (Nat.le_of_ble_eq_true rfl) [(0, .ref (m 0)), (1, .int (nI kd)), (2, .int (nI v)), (3, .int (nI n)), (4, .int 1)] rfl (fun x X Rr hnm => ?_)
  have hth := hS.th
  have hpe := hS.pe
  refine G.il X dX7_drop_0 1 rfl ?_
  refine G.pu X dX7_drop_1 ?_
  refine G.pu X dX7_drop_2 ?_
  refine G.csti X kX7_isIn lX7_85 dX7_drop_3 (tX7_isIn_yes l D cI cW kd 0 5 (by omega) (by omega) (by omega)) ⟨Nat.le_of_ble_eq_true rfl, Nat.le_of_ble_eq_true rfl⟩ ⟨Nat.zero_le _, Nat.zero_le _⟩ [] rfl ⟨rfl, rfl⟩ rfl rfl rfl (Nat.le_of_ble_eq_true rfl) (ff_nil) (ws' := [ml m cI S M]) rfl ?_
  refine G.b_ne X dX7_drop_6 (fun b6 => ?_) (fun b6 => absurd b6 (by decide))
  refine G.il X dX7_drop_14 2 rfl ?_
  refine G.z_lt X (a := nI v) dX7_drop_15 (fun b15 => absurd b15 (nI_pos (by omega))) (fun b15 => ?_)
  refine G.il X dX7_drop_18 3 rfl ?_
  refine G.pu X dX7_drop_19 ?_
  refine G.n_ge X (a := n) (b := 1) (by omega) (by omega) dX7_drop_20 (fun b20 => ?_) (fun b20 => absurd b20 (by omega))
  refine G.il X dX7_drop_28 2 rfl ?_
  refine G.pu X dX7_drop_29 ?_
  refine G.n_gt X (a := v) (b := 9) (by omega) (by omega) dX7_drop_31 (fun b31 => absurd b31 (by omega)) (fun b31 => ?_)
  refine G.il X dX7_drop_34 3 rfl ?_
  refine G.pu X dX7_drop_35 ?_
  refine G.n_le X (a := n) (b := 40) (by omega) (by omega) dX7_drop_37 (fun b37 => ?_) (fun b37 => absurd b37 (by omega))
  refine G.il X dX7_drop_45 4 rfl ?_
  refine G.pu X dX7_drop_47 ?_
  refine G.pu X dX7_drop_48 ?_
  refine G.csti X kX7_isIn lX7_85 dX7_drop_49 (tX7_isIn_yes l D cI cW 1 0 1 (by omega) (by omega) (by omega)) ⟨Nat.le_of_ble_eq_true rfl, Nat.le_of_ble_eq_true rfl⟩ ⟨Nat.zero_le _, Nat.zero_le _⟩ [] rfl ⟨rfl, rfl⟩ rfl rfl rfl (Nat.le_of_ble_eq_true rfl) (ff_nil) (ws' := [ml m cI S M]) rfl ?_
  refine G.b_ne X dX7_drop_52 (fun b52 => ?_) (fun b52 => absurd b52 (by decide))
  refine G.pu X dX7_drop_60 ?_
  refine G.is X dX7_drop_61 (by decide) (lv' := [(5, .int 0), (0, .ref (m 0)), (1, .int (nI kd)), (2, .int (nI v)), (3, .int (nI n)), (4, .int 1)]) rfl ?_
  refine G.il X dX7_drop_63 0 rfl ?_
  refine G.z_eq X (a := 0) dX7_drop_65 (fun b65 => ?_) (fun b65 => absurd b65 (by decide))
  refine G.pu X dX7_drop_75 ?_
  refine G.is X dX7_drop_77 (by decide) (lv' := [(6, .int (-9)), (5, .int 0), (0, .ref (m 0)), (1, .int (nI kd)), (2, .int (nI v)), (3, .int (nI n)), (4, .int 1)]) rfl ?_
  refine G.pu X dX7_drop_79 ?_
  refine G.is X dX7_drop_81 (by decide) (lv' := [(7, .int (-9)), (6, .int (-9)), (5, .int 0), (0, .ref (m 0)), (1, .int (nI kd)), (2, .int (nI v)), (3, .int (nI n)), (4, .int 1)]) rfl ?_
  refine G.pu X dX7_drop_83 ?_
  refine G.is X dX7_drop_84 (by decide) (lv' := [(8, .int 0), (7, .int (-9)), (6, .int (-9)), (5, .int 0), (0, .ref (m 0)), (1, .int (nI kd)), (2, .int (nI v)), (3, .int (nI n)), (4, .int 1)]) rfl ?_
  have L86 : ∀ k, k ≤ s_pe S → ∀ M8 : {M8 : MS // Mq 64 M M8}, G x 0 0 ([ml m cI S M8.1]) 86 [(8, .int (nI k)), (7, .int (obv (fun p => w_wet (w_add S (nI kd) (nI v) (nI p)) n) (bix yes (fun i j => decide (w_wet (w_add S (nI kd) (nI v) (nI j)) n < w_wet (w_add S (nI kd) (nI v) (nI i)) n)) k))), (6, .int (o2i (bix yes (fun i j => decide (w_wet (w_add S (nI kd) (nI v) (nI j)) n < w_wet (w_add S (nI kd) (nI v) (nI i)) n)) k))), (0, .ref (m 0)), (1, .int (nI kd)), (2, .int (nI v)), (3, .int (nI n)), (4, .int 1)] [] := by
    refine loop_dn (s_pe S) _ ?_ ?_
    · intro M8
      refine G.il X dX7_drop_86 0 rfl ?_
      refine G.al X dX7_drop_88 3 rfl ?_
      refine G.get X fX7_64 dX7_drop_89 0 0 rfl rfl rfl ?_
      refine G.n_ge X (a := s_pe S) (b := s_pe S) (by omega) (by omega) dX7_drop_92 (fun b92 => ?_) (fun b92 => absurd b92 (by omega))
      refine G.il X dX7_drop_144 7 rfl ?_
      refine G.z_ne X (a := 1) dX7_drop_146 (fun b146 => ?_) (fun b146 => absurd b146 (by decide))
      refine G.il X dX7_drop_154 1 rfl ?_
      exact G.iret X Rr (v := (obv (fun p => w_wet (w_add S (nI kd) (nI v) (nI p)) n) (bix yes (fun i j => decide (w_wet (w_add S (nI kd) (nI v) (nI j)) n < w_wet (w_add S (nI kd) (nI v) (nI i)) n)) (s_pe S)))) dX7_drop_156 (pie_mk (qk (M8.2)) (by rfl) (by rfl))
    · intro k hk ih86 M8
      refine G.il X dX7_drop_86 0 rfl ?_
      refine G.al X dX7_drop_88 3 rfl ?_
      refine G.get X fX7_64 dX7_drop_89 0 0 rfl rfl rfl ?_
      refine G.n_ge X (a := k) (b := s_pe S) (by omega) (by omega) dX7_drop_92 (fun b92 => absurd b92 (by omega)) (fun b92 => ?_)
      refine G.al X dX7_drop_95 3 rfl ?_
      refine G.get X fX7_58 dX7_drop_96 0 0 rfl rfl rfl ?_
      refine G.pu X dX7_drop_99 ?_
      refine G.n_ge X (a := s_th S) (b := 9) (by omega) (by omega) dX7_drop_101 (fun b101 => absurd b101 (by omega)) (fun b101 => ?_)
      refine G.al X dX7_drop_104 3 rfl ?_
      refine G.il X dX7_drop_105 4 rfl ?_
      refine G.il X dX7_drop_106 5 rfl ?_
      refine G.il X dX7_drop_107 0 rfl ?_
      refine G.il X dX7_drop_109 6 rfl ?_
      refine G.cvie X kX7_wetWith lX7_256 dX7_drop_110 (tX7_wetWith l D cI cW m S M8.1 kd v k n hS (M8.2.co hco) hkd hv (by omega) ht9 (by omega)) ⟨Nat.le_of_ble_eq_true rfl, Nat.le_of_ble_eq_true rfl⟩ ⟨Nat.zero_le _, Nat.zero_le _⟩ [0] rfl ⟨rfl, rfl⟩ rfl rfl 0 0 rfl rfl rfl rfl (Nat.le_of_ble_eq_true rfl) (fun _ => (ff_cons (ml_fst _ _ _ _ _ _) (ff_nil))) (f8 := fun M9_110 : {M9_110 : MS // Mq 64 M8.1 M9_110} => [ml m cI S M9_110.1]) (fun _ => rfl) (fun M9_110 => ?_)
      refine G.is X dX7_drop_113 (by decide) (lv' := [(9, .int (nI (w_wet (w_add S (nI kd) (nI v) (nI k)) n))), (8, .int (nI k)), (7, .int (obv (fun p => w_wet (w_add S (nI kd) (nI v) (nI p)) n) (bix yes (fun i j => decide (w_wet (w_add S (nI kd) (nI v) (nI j)) n < w_wet (w_add S (nI kd) (nI v) (nI i)) n)) k))), (6, .int (o2i (bix yes (fun i j => decide (w_wet (w_add S (nI kd) (nI v) (nI j)) n < w_wet (w_add S (nI kd) (nI v) (nI i)) n)) k))), (0, .ref (m 0)), (1, .int (nI kd)), (2, .int (nI v)), (3, .int (nI n)), (4, .int 1)]) rfl ?_
      rcases eb : bix yes (fun i j => decide (w_wet (w_add S (nI kd) (nI v) (nI j)) n < w_wet (w_add S (nI kd) (nI v) (nI i)) n)) k with _ | j9
      · refine G.cg (lv' := [(9, .int (nI (w_wet (w_add S (nI kd) (nI v) (nI k)) n))), (8, .int (nI k)), (7, .int (-9)), (6, .int (-9)), (0, .ref (m 0)), (1, .int (nI kd)), (2, .int (nI v)), (3, .int (nI n)), (4, .int 1)]) rfl rfl rfl ?_
        refine G.il X dX7_drop_115 3 rfl ?_
        refine G.z_lt X (a := (-9)) dX7_drop_117 (fun b117 => ?_) (fun b117 => absurd b117 (by decide))
        refine G.il X dX7_drop_130 1 rfl ?_
        refine G.is X dX7_drop_132 (by decide) (lv' := [(6, .int (nI k)), (9, .int (nI (w_wet (w_add S (nI kd) (nI v) (nI k)) n))), (8, .int (nI k)), (7, .int (-9)), (0, .ref (m 0)), (1, .int (nI kd)), (2, .int (nI v)), (3, .int (nI n)), (4, .int 1)]) rfl ?_
        refine G.il X dX7_drop_134 1 rfl ?_
        refine G.is X dX7_drop_136 (by decide) (lv' := [(7, .int (nI (w_wet (w_add S (nI kd) (nI v) (nI k)) n))), (6, .int (nI k)), (9, .int (nI (w_wet (w_add S (nI kd) (nI v) (nI k)) n))), (8, .int (nI k)), (0, .ref (m 0)), (1, .int (nI kd)), (2, .int (nI v)), (3, .int (nI n)), (4, .int 1)]) rfl ?_
        refine G.iinc X dX7_drop_138 3 rfl (v' := nI (k + 1)) (nI_inc k) (by decide) (lv' := [(8, .int (nI (k + 1))), (7, .int (nI (w_wet (w_add S (nI kd) (nI v) (nI k)) n))), (6, .int (nI k)), (9, .int (nI (w_wet (w_add S (nI kd) (nI v) (nI k)) n))), (0, .ref (m 0)), (1, .int (nI kd)), (2, .int (nI v)), (3, .int (nI n)), (4, .int 1)]) rfl ?_
        refine G.go X dX7_drop_141 ?_
        replace ih86 := ih86 (qk ((M8.2).tr M9_110.2 (by decide)))
        rw [show (obv (fun p => w_wet (w_add S (nI kd) (nI v) (nI p)) n) (bix yes (fun i j => decide (w_wet (w_add S (nI kd) (nI v) (nI j)) n < w_wet (w_add S (nI kd) (nI v) (nI i)) n)) (k + 1))) = (nI (w_wet (w_add S (nI kd) (nI v) (nI k)) n)) from (by simp [-Int32.not_lt, bix, yes, o2i, obv, b92, b101, eb])] at ih86
        rw [show (o2i (bix yes (fun i j => decide (w_wet (w_add S (nI kd) (nI v) (nI j)) n < w_wet (w_add S (nI kd) (nI v) (nI i)) n)) (k + 1))) = (nI k) from (by simp [-Int32.not_lt, bix, yes, o2i, obv, b92, b101, eb])] at ih86
        refine G.lvsub [0, 1, 2, 4, 5, 6, 7, 8] (lv' := [(8, .int (nI (k + 1))), (7, .int (nI (w_wet (w_add S (nI kd) (nI v) (nI k)) n))), (6, .int (nI k)), (0, .ref (m 0)), (1, .int (nI kd)), (2, .int (nI v)), (3, .int (nI n)), (4, .int 1)]) rfl ?_
        exact ih86
      · refine G.cg (lv' := [(9, .int (nI (w_wet (w_add S (nI kd) (nI v) (nI k)) n))), (8, .int (nI k)), (7, .int (nI (w_wet (w_add S (nI kd) (nI v) (nI j9)) n))), (6, .int (nI j9)), (0, .ref (m 0)), (1, .int (nI kd)), (2, .int (nI v)), (3, .int (nI n)), (4, .int 1)]) rfl rfl rfl ?_
        have hj9 : j9 < k := bix_lt eb
        refine G.il X dX7_drop_115 3 rfl ?_
        refine G.z_lt X (a := nI j9) dX7_drop_117 (fun b117 => absurd b117 (nI_pos (by omega))) (fun b117 => ?_)
        refine G.il X dX7_drop_120 0 rfl ?_
        refine G.il X dX7_drop_122 2 rfl ?_
        refine G.n_lt X (a := w_wet (w_add S (nI kd) (nI v) (nI k)) n) (b := w_wet (w_add S (nI kd) (nI v) (nI j9)) n) (by have := w_wet_le (w_add S (nI kd) (nI v) (nI k)) n; omega) (by have := w_wet_le (w_add S (nI kd) (nI v) (nI j9)) n; omega) dX7_drop_124 (fun b124 => ?_) (fun b124 => ?_)
        · refine G.il X dX7_drop_130 1 rfl ?_
          refine G.is X dX7_drop_132 (by decide) (lv' := [(6, .int (nI k)), (9, .int (nI (w_wet (w_add S (nI kd) (nI v) (nI k)) n))), (8, .int (nI k)), (7, .int (nI (w_wet (w_add S (nI kd) (nI v) (nI j9)) n))), (0, .ref (m 0)), (1, .int (nI kd)), (2, .int (nI v)), (3, .int (nI n)), (4, .int 1)]) rfl ?_
          refine G.il X dX7_drop_134 1 rfl ?_
          refine G.is X dX7_drop_136 (by decide) (lv' := [(7, .int (nI (w_wet (w_add S (nI kd) (nI v) (nI k)) n))), (6, .int (nI k)), (9, .int (nI (w_wet (w_add S (nI kd) (nI v) (nI k)) n))), (8, .int (nI k)), (0, .ref (m 0)), (1, .int (nI kd)), (2, .int (nI v)), (3, .int (nI n)), (4, .int 1)]) rfl ?_
          refine G.iinc X dX7_drop_138 3 rfl (v' := nI (k + 1)) (nI_inc k) (by decide) (lv' := [(8, .int (nI (k + 1))), (7, .int (nI (w_wet (w_add S (nI kd) (nI v) (nI k)) n))), (6, .int (nI k)), (9, .int (nI (w_wet (w_add S (nI kd) (nI v) (nI k)) n))), (0, .ref (m 0)), (1, .int (nI kd)), (2, .int (nI v)), (3, .int (nI n)), (4, .int 1)]) rfl ?_
          refine G.go X dX7_drop_141 ?_
          replace ih86 := ih86 (qk ((M8.2).tr M9_110.2 (by decide)))
          rw [show (obv (fun p => w_wet (w_add S (nI kd) (nI v) (nI p)) n) (bix yes (fun i j => decide (w_wet (w_add S (nI kd) (nI v) (nI j)) n < w_wet (w_add S (nI kd) (nI v) (nI i)) n)) (k + 1))) = (nI (w_wet (w_add S (nI kd) (nI v) (nI k)) n)) from (by simp [-Int32.not_lt, bix, yes, o2i, obv, b92, b101, eb, b117, b124])] at ih86
          rw [show (o2i (bix yes (fun i j => decide (w_wet (w_add S (nI kd) (nI v) (nI j)) n < w_wet (w_add S (nI kd) (nI v) (nI i)) n)) (k + 1))) = (nI k) from (by simp [-Int32.not_lt, bix, yes, o2i, obv, b92, b101, eb, b117, b124])] at ih86
          refine G.lvsub [0, 1, 2, 4, 5, 6, 7, 8] (lv' := [(8, .int (nI (k + 1))), (7, .int (nI (w_wet (w_add S (nI kd) (nI v) (nI k)) n))), (6, .int (nI k)), (0, .ref (m 0)), (1, .int (nI kd)), (2, .int (nI v)), (3, .int (nI n)), (4, .int 1)]) rfl ?_
          exact ih86
        · refine G.go X dX7_drop_127 ?_
          refine G.iinc X dX7_drop_138 1 rfl (v' := nI (k + 1)) (nI_inc k) (by decide) (lv' := [(8, .int (nI (k + 1))), (9, .int (nI (w_wet (w_add S (nI kd) (nI v) (nI k)) n))), (7, .int (nI (w_wet (w_add S (nI kd) (nI v) (nI j9)) n))), (6, .int (nI j9)), (0, .ref (m 0)), (1, .int (nI kd)), (2, .int (nI v)), (3, .int (nI n)), (4, .int 1)]) rfl ?_
          refine G.go X dX7_drop_141 ?_
          replace ih86 := ih86 (qk ((M8.2).tr M9_110.2 (by decide)))
          rw [show (obv (fun p => w_wet (w_add S (nI kd) (nI v) (nI p)) n) (bix yes (fun i j => decide (w_wet (w_add S (nI kd) (nI v) (nI j)) n < w_wet (w_add S (nI kd) (nI v) (nI i)) n)) (k + 1))) = (nI (w_wet (w_add S (nI kd) (nI v) (nI j9)) n)) from (by simp [-Int32.not_lt, bix, yes, o2i, obv, b92, b101, eb, b117, b124])] at ih86
          rw [show (o2i (bix yes (fun i j => decide (w_wet (w_add S (nI kd) (nI v) (nI j)) n < w_wet (w_add S (nI kd) (nI v) (nI i)) n)) (k + 1))) = (nI j9) from (by simp [-Int32.not_lt, bix, yes, o2i, obv, b92, b101, eb, b117, b124])] at ih86
          refine G.lvsub [0, 2, 3, 4, 5, 6, 7, 8] (lv' := [(8, .int (nI (k + 1))), (7, .int (nI (w_wet (w_add S (nI kd) (nI v) (nI j9)) n))), (6, .int (nI j9)), (0, .ref (m 0)), (1, .int (nI kd)), (2, .int (nI v)), (3, .int (nI n)), (4, .int 1)]) rfl ?_
          exact ih86
  refine G.lvsub [0, 1, 2, 4, 5, 6, 7, 8] (lv' := [(8, .int 0), (7, .int (-9)), (6, .int (-9)), (0, .ref (m 0)), (1, .int (nI kd)), (2, .int (nI v)), (3, .int (nI n)), (4, .int 1)]) rfl ?_
  have L86 := L86 0 (Nat.zero_le _) (qk (Mq.rf 64 M))
  exact L86
