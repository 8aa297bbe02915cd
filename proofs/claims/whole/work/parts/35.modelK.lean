set_option maxRecDepth 20000 in
theorem tX7_well_l0 (l : Launch) (D : va_G) (cI cW : ClassId) (m : Nat → Nat) (S : WS) (M : MS) (K : Nat) (hn96 : m_tn M ≤ 96) (hco : m_co M = false) (hK : K < 48) (hle : ∀ k, k ≤ K → i_a (p_it (m_q M) (m_t0 M) k) ≤ 96) (hgo : ∀ k, k < K → (i_a (p_it (m_q M) (m_t0 M) k) < m_tn M ∨ k = 0)) (hhv : ∀ k, k < K → p_hv (p_nx (m_q M) (i_a (p_it (m_q M) (m_t0 M) k)))) (hgd : ∀ k, k < K → (p_ss (m_q M) (p_it (m_q M) (m_t0 M) k) k).1 = true) (hgK : i_a (p_it (m_q M) (m_t0 M) K) < m_tn M ∨ K = 0) (hno : ¬ p_hv (p_nx (m_q M) (i_a (p_it (m_q M) (m_t0 M) K)))) : CT l D cI cW yX7_well cX7_well 3 (some .int) ⟨5, 0, 0, 110⟩ [.ref (m 0)] ([ml m cI S M]) (PIE (-1000 - nI (i_a (p_it (m_q M) (m_t0 M) K))) (fun M9 : {M9 : MS // Mq 64 (m_tns M 0) M9} => [ml m cI S M9.1])) := by
  refine CT.of RX7 rfl (by decide +kernel) (Nat.le_of_ble_eq_true rfl) [(0, .ref (m 0))] rfl (fun x X Rr hnm => ?_)
  refine G.al X dX7_well_0 0 rfl ?_
  refine G.pu X dX7_well_1 ?_
  refine G.puti X fX7_78 fe7 dX7_well_2 rfl rfl 0 0 rfl rfl (Nat.le_of_ble_eq_true rfl) (blk' := ml m cI S (m_rf M, m_co M, m_tx M, m_lt M, m_la M, m_to M, m_tn M, 0, m_st M, m_kp M, m_hi M, m_kg M, m_cu M, m_lr M, m_ge M, m_rw M, m_rn M)) rfl (ws' := [ml m cI S (m_rf M, m_co M, m_tx M, m_lt M, m_la M, m_to M, m_tn M, 0, m_st M, m_kp M, m_hi M, m_kg M, m_cu M, m_lr M, m_ge M, m_rw M, m_rn M)]) rfl ?_
  refine G.al X dX7_well_5 0 rfl ?_
  refine G.pu X dX7_well_6 ?_
  refine G.puti X fX7_100 fe7 dX7_well_7 rfl rfl 0 0 rfl rfl (Nat.le_of_ble_eq_true rfl) (blk' := ml m cI S (m_rf M, m_co M, m_tx M, m_lt M, m_la M, m_to M, m_tn M, 0, 0, m_kp M, m_hi M, m_kg M, m_cu M, m_lr M, m_ge M, m_rw M, m_rn M)) rfl (ws' := [ml m cI S (m_rf M, m_co M, m_tx M, m_lt M, m_la M, m_to M, m_tn M, 0, 0, m_kp M, m_hi M, m_kg M, m_cu M, m_lr M, m_ge M, m_rw M, m_rn M)]) rfl ?_
  refine G.cg (ws' := [ml m cI S (m_rs M (m_t0 M) 0)]) rfl rfl rfl ?_
  refine G.pu X dX7_well_10 ?_
  refine G.is X dX7_well_11 (by decide) (lv' := [(1, .int 1), (0, .ref (m 0))]) rfl ?_
  have L12 : ∀ k, k ≤ K → G x 0 0 ([ml m cI S (m_rs M (p_it (m_q M) (m_t0 M) k) k)]) 12 [(1, .int 1), (0, .ref (m 0))] [] := by
    refine loop_dn K _ ?_ ?_
    · have ha9 : i_a (p_it (m_q M) (m_t0 M) K) ≤ 96 := hle K (by omega)
      refine G.il X dX7_well_12 0 rfl ?_
      refine G.z_eq X (a := 1) dX7_well_13 (fun b13 => absurd b13 (by decide)) (fun b13 => ?_)
      refine G.al X dX7_well_16 1 rfl ?_
      refine G.get X fX7_78 dX7_well_17 0 0 rfl rfl rfl ?_
      refine G.top (b := nI (i_a (p_it (m_q M) (m_t0 M) K))) rfl ?_
      refine G.al X dX7_well_20 1 rfl ?_
      refine G.get X fX7_71 dX7_well_21 0 0 rfl rfl rfl ?_
      refine G.top (b := nI (m_tn M)) rfl ?_
      refine G.n_lt X (a := i_a (p_it (m_q M) (m_t0 M) K)) (b := m_tn M) (by omega) (by omega) dX7_well_24 (fun b24 => ?_) (fun b24 => ?_)
      · refine G.al X dX7_well_34 1 rfl ?_
        refine G.cvi X kX7_statement lX7_141 dX7_well_35 (tX7_statement_no l D cI cW m S (m_rs M (p_it (m_q M) (m_t0 M) K) K) hn96 ha9 hno) ⟨Nat.le_of_ble_eq_true rfl, Nat.le_of_ble_eq_true rfl⟩ ⟨Nat.zero_le _, Nat.zero_le _⟩ [0] rfl ⟨rfl, rfl⟩ rfl rfl 0 0 rfl rfl rfl rfl (Nat.le_of_ble_eq_true rfl) (ff_cons (ml_fst _ _ _ _ _ _) (ff_nil)) (ws' := [ml m cI S (m_rs M (p_it (m_q M) (m_t0 M) K) K)]) rfl ?_
        refine G.top (b := 0) rfl ?_
        refine G.is X dX7_well_38 (by decide) (lv' := [(1, .int 0), (0, .ref (m 0))]) rfl ?_
        refine G.al X dX7_well_39 1 rfl ?_
        refine G.dupr X dX7_well_40 ?_
        refine G.get X fX7_100 dX7_well_41 0 0 rfl rfl rfl ?_
        refine G.top (b := nI K) rfl ?_
        refine G.il X dX7_well_44 0 rfl ?_
        refine G.z_eq X (a := 0) dX7_well_45 (fun b45 => ?_) (fun b45 => absurd b45 (by decide))
        refine G.pu X dX7_well_52 ?_
        refine G.nadd X (a := K) (b := 0) dX7_well_53 ?_
        refine G.puti X fX7_100 fe7 dX7_well_54 rfl rfl 0 0 rfl rfl (Nat.le_of_ble_eq_true rfl) (blk' := ml m cI S (m_rf (m_rs M (p_it (m_q M) (m_t0 M) K) K), m_co (m_rs M (p_it (m_q M) (m_t0 M) K) K), m_tx (m_rs M (p_it (m_q M) (m_t0 M) K) K), m_lt (m_rs M (p_it (m_q M) (m_t0 M) K) K), m_la (m_rs M (p_it (m_q M) (m_t0 M) K) K), m_to (m_rs M (p_it (m_q M) (m_t0 M) K) K), m_tn (m_rs M (p_it (m_q M) (m_t0 M) K) K), m_at (m_rs M (p_it (m_q M) (m_t0 M) K) K), K + 0, m_kp (m_rs M (p_it (m_q M) (m_t0 M) K) K), m_hi (m_rs M (p_it (m_q M) (m_t0 M) K) K), m_kg (m_rs M (p_it (m_q M) (m_t0 M) K) K), m_cu (m_rs M (p_it (m_q M) (m_t0 M) K) K), m_lr (m_rs M (p_it (m_q M) (m_t0 M) K) K), m_ge (m_rs M (p_it (m_q M) (m_t0 M) K) K), m_rw (m_rs M (p_it (m_q M) (m_t0 M) K) K), m_rn (m_rs M (p_it (m_q M) (m_t0 M) K) K))) rfl (ws' := [ml m cI S (m_rf (m_rs M (p_it (m_q M) (m_t0 M) K) K), m_co (m_rs M (p_it (m_q M) (m_t0 M) K) K), m_tx (m_rs M (p_it (m_q M) (m_t0 M) K) K), m_lt (m_rs M (p_it (m_q M) (m_t0 M) K) K), m_la (m_rs M (p_it (m_q M) (m_t0 M) K) K), m_to (m_rs M (p_it (m_q M) (m_t0 M) K) K), m_tn (m_rs M (p_it (m_q M) (m_t0 M) K) K), m_at (m_rs M (p_it (m_q M) (m_t0 M) K) K), K + 0, m_kp (m_rs M (p_it (m_q M) (m_t0 M) K) K), m_hi (m_rs M (p_it (m_q M) (m_t0 M) K) K), m_kg (m_rs M (p_it (m_q M) (m_t0 M) K) K), m_cu (m_rs M (p_it (m_q M) (m_t0 M) K) K), m_lr (m_rs M (p_it (m_q M) (m_t0 M) K) K), m_ge (m_rs M (p_it (m_q M) (m_t0 M) K) K), m_rw (m_rs M (p_it (m_q M) (m_t0 M) K) K), m_rn (m_rs M (p_it (m_q M) (m_t0 M) K) K))]) rfl ?_
        refine G.go X dX7_well_57 ?_
        refine G.il X dX7_well_12 0 rfl ?_
        refine G.z_eq X (a := 0) dX7_well_13 (fun b13 => ?_) (fun b13 => absurd b13 (by decide))
        refine G.al X dX7_well_60 1 rfl ?_
        refine G.pu X dX7_well_61 ?_
        refine G.puti X fX7_71 fe7 dX7_well_62 rfl rfl 0 0 rfl rfl (Nat.le_of_ble_eq_true rfl) (blk' := ml m cI S (m_rf (m_rs M (p_it (m_q M) (m_t0 M) K) K), m_co (m_rs M (p_it (m_q M) (m_t0 M) K) K), m_tx (m_rs M (p_it (m_q M) (m_t0 M) K) K), m_lt (m_rs M (p_it (m_q M) (m_t0 M) K) K), m_la (m_rs M (p_it (m_q M) (m_t0 M) K) K), m_to (m_rs M (p_it (m_q M) (m_t0 M) K) K), 0, m_at (m_rs M (p_it (m_q M) (m_t0 M) K) K), K + 0, m_kp (m_rs M (p_it (m_q M) (m_t0 M) K) K), m_hi (m_rs M (p_it (m_q M) (m_t0 M) K) K), m_kg (m_rs M (p_it (m_q M) (m_t0 M) K) K), m_cu (m_rs M (p_it (m_q M) (m_t0 M) K) K), m_lr (m_rs M (p_it (m_q M) (m_t0 M) K) K), m_ge (m_rs M (p_it (m_q M) (m_t0 M) K) K), m_rw (m_rs M (p_it (m_q M) (m_t0 M) K) K), m_rn (m_rs M (p_it (m_q M) (m_t0 M) K) K))) rfl (ws' := [ml m cI S (m_rf (m_rs M (p_it (m_q M) (m_t0 M) K) K), m_co (m_rs M (p_it (m_q M) (m_t0 M) K) K), m_tx (m_rs M (p_it (m_q M) (m_t0 M) K) K), m_lt (m_rs M (p_it (m_q M) (m_t0 M) K) K), m_la (m_rs M (p_it (m_q M) (m_t0 M) K) K), m_to (m_rs M (p_it (m_q M) (m_t0 M) K) K), 0, m_at (m_rs M (p_it (m_q M) (m_t0 M) K) K), K + 0, m_kp (m_rs M (p_it (m_q M) (m_t0 M) K) K), m_hi (m_rs M (p_it (m_q M) (m_t0 M) K) K), m_kg (m_rs M (p_it (m_q M) (m_t0 M) K) K), m_cu (m_rs M (p_it (m_q M) (m_t0 M) K) K), m_lr (m_rs M (p_it (m_q M) (m_t0 M) K) K), m_ge (m_rs M (p_it (m_q M) (m_t0 M) K) K), m_rw (m_rs M (p_it (m_q M) (m_t0 M) K) K), m_rn (m_rs M (p_it (m_q M) (m_t0 M) K) K))]) rfl ?_
        refine G.il X dX7_well_65 0 rfl ?_
        refine G.z_ne X (a := 0) dX7_well_66 (fun b66 => absurd b66 (by decide)) (fun b66 => ?_)
        refine G.pu X dX7_well_69 ?_
        refine G.al X dX7_well_72 1 rfl ?_
        refine G.get X fX7_78 dX7_well_73 0 0 rfl rfl rfl ?_
        refine G.isub X dX7_well_76 ?_
        exact G.iret X Rr (v := ((-1000) - (nI (m_at (m_rs M (p_it (m_q M) (m_t0 M) K) K))))) dX7_well_77 (pie_mk (qk (b := 64) (M := m_tns M 0) (N := (m_rf (m_rs M (p_it (m_q M) (m_t0 M) K) K), m_co (m_rs M (p_it (m_q M) (m_t0 M) K) K), m_tx (m_rs M (p_it (m_q M) (m_t0 M) K) K), m_lt (m_rs M (p_it (m_q M) (m_t0 M) K) K), m_la (m_rs M (p_it (m_q M) (m_t0 M) K) K), m_to (m_rs M (p_it (m_q M) (m_t0 M) K) K), 0, m_at (m_rs M (p_it (m_q M) (m_t0 M) K) K), K + 0, m_kp (m_rs M (p_it (m_q M) (m_t0 M) K) K), m_hi (m_rs M (p_it (m_q M) (m_t0 M) K) K), m_kg (m_rs M (p_it (m_q M) (m_t0 M) K) K), m_cu (m_rs M (p_it (m_q M) (m_t0 M) K) K), m_lr (m_rs M (p_it (m_q M) (m_t0 M) K) K), m_ge (m_rs M (p_it (m_q M) (m_t0 M) K) K), m_rw (m_rs M (p_it (m_q M) (m_t0 M) K) K), m_rn (m_rs M (p_it (m_q M) (m_t0 M) K) K))) ⟨rfl, rfl, rfl, rfl, rfl, rfl, rfl, fun _ _ => rfl⟩) (by rfl) (by rfl))
      · refine G.al X dX7_well_27 1 rfl ?_
        refine G.get X fX7_100 dX7_well_28 0 0 rfl rfl rfl ?_
        refine G.top (b := nI K) rfl ?_
        refine G.nz_ne X (a := K) (by omega) dX7_well_31 (fun b31 => absurd b31 ((fun h => h (hgK.resolve_left b24)))) (fun b31 => ?_)
        refine G.al X dX7_well_34 1 rfl ?_
        refine G.cvi X kX7_statement lX7_141 dX7_well_35 (tX7_statement_no l D cI cW m S (m_rs M (p_it (m_q M) (m_t0 M) K) K) hn96 ha9 hno) ⟨Nat.le_of_ble_eq_true rfl, Nat.le_of_ble_eq_true rfl⟩ ⟨Nat.zero_le _, Nat.zero_le _⟩ [0] rfl ⟨rfl, rfl⟩ rfl rfl 0 0 rfl rfl rfl rfl (Nat.le_of_ble_eq_true rfl) (ff_cons (ml_fst _ _ _ _ _ _) (ff_nil)) (ws' := [ml m cI S (m_rs M (p_it (m_q M) (m_t0 M) K) K)]) rfl ?_
        refine G.top (b := 0) rfl ?_
        refine G.is X dX7_well_38 (by decide) (lv' := [(1, .int 0), (0, .ref (m 0))]) rfl ?_
        refine G.al X dX7_well_39 1 rfl ?_
        refine G.dupr X dX7_well_40 ?_
        refine G.get X fX7_100 dX7_well_41 0 0 rfl rfl rfl ?_
        refine G.top (b := nI K) rfl ?_
        refine G.il X dX7_well_44 0 rfl ?_
        refine G.z_eq X (a := 0) dX7_well_45 (fun b45 => ?_) (fun b45 => absurd b45 (by decide))
        refine G.pu X dX7_well_52 ?_
        refine G.nadd X (a := K) (b := 0) dX7_well_53 ?_
        refine G.puti X fX7_100 fe7 dX7_well_54 rfl rfl 0 0 rfl rfl (Nat.le_of_ble_eq_true rfl) (blk' := ml m cI S (m_rf (m_rs M (p_it (m_q M) (m_t0 M) K) K), m_co (m_rs M (p_it (m_q M) (m_t0 M) K) K), m_tx (m_rs M (p_it (m_q M) (m_t0 M) K) K), m_lt (m_rs M (p_it (m_q M) (m_t0 M) K) K), m_la (m_rs M (p_it (m_q M) (m_t0 M) K) K), m_to (m_rs M (p_it (m_q M) (m_t0 M) K) K), m_tn (m_rs M (p_it (m_q M) (m_t0 M) K) K), m_at (m_rs M (p_it (m_q M) (m_t0 M) K) K), K + 0, m_kp (m_rs M (p_it (m_q M) (m_t0 M) K) K), m_hi (m_rs M (p_it (m_q M) (m_t0 M) K) K), m_kg (m_rs M (p_it (m_q M) (m_t0 M) K) K), m_cu (m_rs M (p_it (m_q M) (m_t0 M) K) K), m_lr (m_rs M (p_it (m_q M) (m_t0 M) K) K), m_ge (m_rs M (p_it (m_q M) (m_t0 M) K) K), m_rw (m_rs M (p_it (m_q M) (m_t0 M) K) K), m_rn (m_rs M (p_it (m_q M) (m_t0 M) K) K))) rfl (ws' := [ml m cI S (m_rf (m_rs M (p_it (m_q M) (m_t0 M) K) K), m_co (m_rs M (p_it (m_q M) (m_t0 M) K) K), m_tx (m_rs M (p_it (m_q M) (m_t0 M) K) K), m_lt (m_rs M (p_it (m_q M) (m_t0 M) K) K), m_la (m_rs M (p_it (m_q M) (m_t0 M) K) K), m_to (m_rs M (p_it (m_q M) (m_t0 M) K) K), m_tn (m_rs M (p_it (m_q M) (m_t0 M) K) K), m_at (m_rs M (p_it (m_q M) (m_t0 M) K) K), K + 0, m_kp (m_rs M (p_it (m_q M) (m_t0 M) K) K), m_hi (m_rs M (p_it (m_q M) (m_t0 M) K) K), m_kg (m_rs M (p_it (m_q M) (m_t0 M) K) K), m_cu (m_rs M (p_it (m_q M) (m_t0 M) K) K), m_lr (m_rs M (p_it (m_q M) (m_t0 M) K) K), m_ge (m_rs M (p_it (m_q M) (m_t0 M) K) K), m_rw (m_rs M (p_it (m_q M) (m_t0 M) K) K), m_rn (m_rs M (p_it (m_q M) (m_t0 M) K) K))]) rfl ?_
        refine G.go X dX7_well_57 ?_
        refine G.il X dX7_well_12 0 rfl ?_
        refine G.z_eq X (a := 0) dX7_well_13 (fun b13 => ?_) (fun b13 => absurd b13 (by decide))
        refine G.al X dX7_well_60 1 rfl ?_
        refine G.pu X dX7_well_61 ?_
        refine G.puti X fX7_71 fe7 dX7_well_62 rfl rfl 0 0 rfl rfl (Nat.le_of_ble_eq_true rfl) (blk' := ml m cI S (m_rf (m_rs M (p_it (m_q M) (m_t0 M) K) K), m_co (m_rs M (p_it (m_q M) (m_t0 M) K) K), m_tx (m_rs M (p_it (m_q M) (m_t0 M) K) K), m_lt (m_rs M (p_it (m_q M) (m_t0 M) K) K), m_la (m_rs M (p_it (m_q M) (m_t0 M) K) K), m_to (m_rs M (p_it (m_q M) (m_t0 M) K) K), 0, m_at (m_rs M (p_it (m_q M) (m_t0 M) K) K), K + 0, m_kp (m_rs M (p_it (m_q M) (m_t0 M) K) K), m_hi (m_rs M (p_it (m_q M) (m_t0 M) K) K), m_kg (m_rs M (p_it (m_q M) (m_t0 M) K) K), m_cu (m_rs M (p_it (m_q M) (m_t0 M) K) K), m_lr (m_rs M (p_it (m_q M) (m_t0 M) K) K), m_ge (m_rs M (p_it (m_q M) (m_t0 M) K) K), m_rw (m_rs M (p_it (m_q M) (m_t0 M) K) K), m_rn (m_rs M (p_it (m_q M) (m_t0 M) K) K))) rfl (ws' := [ml m cI S (m_rf (m_rs M (p_it (m_q M) (m_t0 M) K) K), m_co (m_rs M (p_it (m_q M) (m_t0 M) K) K), m_tx (m_rs M (p_it (m_q M) (m_t0 M) K) K), m_lt (m_rs M (p_it (m_q M) (m_t0 M) K) K), m_la (m_rs M (p_it (m_q M) (m_t0 M) K) K), m_to (m_rs M (p_it (m_q M) (m_t0 M) K) K), 0, m_at (m_rs M (p_it (m_q M) (m_t0 M) K) K), K + 0, m_kp (m_rs M (p_it (m_q M) (m_t0 M) K) K), m_hi (m_rs M (p_it (m_q M) (m_t0 M) K) K), m_kg (m_rs M (p_it (m_q M) (m_t0 M) K) K), m_cu (m_rs M (p_it (m_q M) (m_t0 M) K) K), m_lr (m_rs M (p_it (m_q M) (m_t0 M) K) K), m_ge (m_rs M (p_it (m_q M) (m_t0 M) K) K), m_rw (m_rs M (p_it (m_q M) (m_t0 M) K) K), m_rn (m_rs M (p_it (m_q M) (m_t0 M) K) K))]) rfl ?_
        refine G.il X dX7_well_65 0 rfl ?_
        refine G.z_ne X (a := 0) dX7_well_66 (fun b66 => absurd b66 (by decide)) (fun b66 => ?_)
        refine G.pu X dX7_well_69 ?_
        refine G.al X dX7_well_72 1 rfl ?_
        refine G.get X fX7_78 dX7_well_73 0 0 rfl rfl rfl ?_
        refine G.isub X dX7_well_76 ?_
        exact G.iret X Rr (v := ((-1000) - (nI (m_at (m_rs M (p_it (m_q M) (m_t0 M) K) K))))) dX7_well_77 (pie_mk (qk (b := 64) (M := m_tns M 0) (N := (m_rf (m_rs M (p_it (m_q M) (m_t0 M) K) K), m_co (m_rs M (p_it (m_q M) (m_t0 M) K) K), m_tx (m_rs M (p_it (m_q M) (m_t0 M) K) K), m_lt (m_rs M (p_it (m_q M) (m_t0 M) K) K), m_la (m_rs M (p_it (m_q M) (m_t0 M) K) K), m_to (m_rs M (p_it (m_q M) (m_t0 M) K) K), 0, m_at (m_rs M (p_it (m_q M) (m_t0 M) K) K), K + 0, m_kp (m_rs M (p_it (m_q M) (m_t0 M) K) K), m_hi (m_rs M (p_it (m_q M) (m_t0 M) K) K), m_kg (m_rs M (p_it (m_q M) (m_t0 M) K) K), m_cu (m_rs M (p_it (m_q M) (m_t0 M) K) K), m_lr (m_rs M (p_it (m_q M) (m_t0 M) K) K), m_ge (m_rs M (p_it (m_q M) (m_t0 M) K) K), m_rw (m_rs M (p_it (m_q M) (m_t0 M) K) K), m_rn (m_rs M (p_it (m_q M) (m_t0 M) K) K))) ⟨rfl, rfl, rfl, rfl, rfl, rfl, rfl, fun _ _ => rfl⟩) (by rfl) (by rfl))
    · intro k hk ih12
      have ha9 : i_a (p_it (m_q M) (m_t0 M) k) ≤ 96 := hle k (by omega)
      refine G.il X dX7_well_12 0 rfl ?_
      refine G.z_eq X (a := 1) dX7_well_13 (fun b13 => absurd b13 (by decide)) (fun b13 => ?_)
      refine G.al X dX7_well_16 1 rfl ?_
      refine G.get X fX7_78 dX7_well_17 0 0 rfl rfl rfl ?_
      refine G.top (b := nI (i_a (p_it (m_q M) (m_t0 M) k))) rfl ?_
      refine G.al X dX7_well_20 1 rfl ?_
      refine G.get X fX7_71 dX7_well_21 0 0 rfl rfl rfl ?_
      refine G.top (b := nI (m_tn M)) rfl ?_
      refine G.n_lt X (a := i_a (p_it (m_q M) (m_t0 M) k)) (b := m_tn M) (by omega) (by omega) dX7_well_24 (fun b24 => ?_) (fun b24 => ?_)
      · refine G.al X dX7_well_34 1 rfl ?_
        refine G.cvi X kX7_statement lX7_141 dX7_well_35 (tX7_statement_hd l D cI cW m S (m_rs M (p_it (m_q M) (m_t0 M) k) k) hn96 ha9 (show k < 48 from by omega) (hhv k hk)) ⟨Nat.le_of_ble_eq_true rfl, Nat.le_of_ble_eq_true rfl⟩ ⟨Nat.zero_le _, Nat.zero_le _⟩ [0] rfl ⟨rfl, rfl⟩ rfl rfl 0 0 rfl rfl rfl rfl (Nat.le_of_ble_eq_true rfl) (ff_cons (ml_fst _ _ _ _ _ _) (ff_nil)) (ws' := [ml m cI S (m_pst (m_rs M (p_it (m_q M) (m_t0 M) k) k) ((p_sm (m_q (m_rs M (p_it (m_q M) (m_t0 M) k) k)) (p_nx (m_q (m_rs M (p_it (m_q M) (m_t0 M) k) k)) (m_at (m_rs M (p_it (m_q M) (m_t0 M) k) k))) (m_at (m_rs M (p_it (m_q M) (m_t0 M) k) k) + 1) (m_to (m_rs M (p_it (m_q M) (m_t0 M) k) k)) (3 * m_st (m_rs M (p_it (m_q M) (m_t0 M) k) k))).2.1) (upd (m_lt (m_rs M (p_it (m_q M) (m_t0 M) k) k)) (m_st (m_rs M (p_it (m_q M) (m_t0 M) k) k)) (p_nx (m_q (m_rs M (p_it (m_q M) (m_t0 M) k) k)) (m_at (m_rs M (p_it (m_q M) (m_t0 M) k) k)))) (upd (m_la (m_rs M (p_it (m_q M) (m_t0 M) k) k)) (m_st (m_rs M (p_it (m_q M) (m_t0 M) k) k)) (nI (m_at (m_rs M (p_it (m_q M) (m_t0 M) k) k)))) ((p_sm (m_q (m_rs M (p_it (m_q M) (m_t0 M) k) k)) (p_nx (m_q (m_rs M (p_it (m_q M) (m_t0 M) k) k)) (m_at (m_rs M (p_it (m_q M) (m_t0 M) k) k))) (m_at (m_rs M (p_it (m_q M) (m_t0 M) k) k) + 1) (m_to (m_rs M (p_it (m_q M) (m_t0 M) k) k)) (3 * m_st (m_rs M (p_it (m_q M) (m_t0 M) k) k))).2.2) (m_st (m_rs M (p_it (m_q M) (m_t0 M) k) k)))]) rfl ?_
        refine G.top (b := 1) (show b2i (p_ss (m_q M) (p_it (m_q M) (m_t0 M) k) k).1 = 1 from by rw [hgd k hk]; rfl) ?_
        refine G.cg (ws' := [ml m cI S (m_rs M (p_st1 (m_q M) (p_it (m_q M) (m_t0 M) k) k) k)]) rfl rfl rfl ?_
        refine G.is X dX7_well_38 (by decide) (lv' := [(1, .int 1), (0, .ref (m 0))]) rfl ?_
        refine G.al X dX7_well_39 1 rfl ?_
        refine G.dupr X dX7_well_40 ?_
        refine G.get X fX7_100 dX7_well_41 0 0 rfl rfl rfl ?_
        refine G.top (b := nI k) rfl ?_
        refine G.il X dX7_well_44 0 rfl ?_
        refine G.z_eq X (a := 1) dX7_well_45 (fun b45 => absurd b45 (by decide)) (fun b45 => ?_)
        refine G.pu X dX7_well_48 ?_
        refine G.go X dX7_well_49 ?_
        refine G.nadd X (a := k) (b := 1) dX7_well_53 ?_
        refine G.puti X fX7_100 fe7 dX7_well_54 rfl rfl 0 0 rfl rfl (Nat.le_of_ble_eq_true rfl) (blk' := ml m cI S (m_rf (m_rs M (p_st1 (m_q M) (p_it (m_q M) (m_t0 M) k) k) k), m_co (m_rs M (p_st1 (m_q M) (p_it (m_q M) (m_t0 M) k) k) k), m_tx (m_rs M (p_st1 (m_q M) (p_it (m_q M) (m_t0 M) k) k) k), m_lt (m_rs M (p_st1 (m_q M) (p_it (m_q M) (m_t0 M) k) k) k), m_la (m_rs M (p_st1 (m_q M) (p_it (m_q M) (m_t0 M) k) k) k), m_to (m_rs M (p_st1 (m_q M) (p_it (m_q M) (m_t0 M) k) k) k), m_tn (m_rs M (p_st1 (m_q M) (p_it (m_q M) (m_t0 M) k) k) k), m_at (m_rs M (p_st1 (m_q M) (p_it (m_q M) (m_t0 M) k) k) k), k + 1, m_kp (m_rs M (p_st1 (m_q M) (p_it (m_q M) (m_t0 M) k) k) k), m_hi (m_rs M (p_st1 (m_q M) (p_it (m_q M) (m_t0 M) k) k) k), m_kg (m_rs M (p_st1 (m_q M) (p_it (m_q M) (m_t0 M) k) k) k), m_cu (m_rs M (p_st1 (m_q M) (p_it (m_q M) (m_t0 M) k) k) k), m_lr (m_rs M (p_st1 (m_q M) (p_it (m_q M) (m_t0 M) k) k) k), m_ge (m_rs M (p_st1 (m_q M) (p_it (m_q M) (m_t0 M) k) k) k), m_rw (m_rs M (p_st1 (m_q M) (p_it (m_q M) (m_t0 M) k) k) k), m_rn (m_rs M (p_st1 (m_q M) (p_it (m_q M) (m_t0 M) k) k) k))) rfl (ws' := [ml m cI S (m_rf (m_rs M (p_st1 (m_q M) (p_it (m_q M) (m_t0 M) k) k) k), m_co (m_rs M (p_st1 (m_q M) (p_it (m_q M) (m_t0 M) k) k) k), m_tx (m_rs M (p_st1 (m_q M) (p_it (m_q M) (m_t0 M) k) k) k), m_lt (m_rs M (p_st1 (m_q M) (p_it (m_q M) (m_t0 M) k) k) k), m_la (m_rs M (p_st1 (m_q M) (p_it (m_q M) (m_t0 M) k) k) k), m_to (m_rs M (p_st1 (m_q M) (p_it (m_q M) (m_t0 M) k) k) k), m_tn (m_rs M (p_st1 (m_q M) (p_it (m_q M) (m_t0 M) k) k) k), m_at (m_rs M (p_st1 (m_q M) (p_it (m_q M) (m_t0 M) k) k) k), k + 1, m_kp (m_rs M (p_st1 (m_q M) (p_it (m_q M) (m_t0 M) k) k) k), m_hi (m_rs M (p_st1 (m_q M) (p_it (m_q M) (m_t0 M) k) k) k), m_kg (m_rs M (p_st1 (m_q M) (p_it (m_q M) (m_t0 M) k) k) k), m_cu (m_rs M (p_st1 (m_q M) (p_it (m_q M) (m_t0 M) k) k) k), m_lr (m_rs M (p_st1 (m_q M) (p_it (m_q M) (m_t0 M) k) k) k), m_ge (m_rs M (p_st1 (m_q M) (p_it (m_q M) (m_t0 M) k) k) k), m_rw (m_rs M (p_st1 (m_q M) (p_it (m_q M) (m_t0 M) k) k) k), m_rn (m_rs M (p_st1 (m_q M) (p_it (m_q M) (m_t0 M) k) k) k))]) rfl ?_
        refine G.cg (ws' := [ml m cI S (m_rs M (p_st1 (m_q M) (p_it (m_q M) (m_t0 M) k) k) (k + 1))]) rfl rfl rfl ?_
        refine G.go X dX7_well_57 ?_
        exact ih12
      · refine G.al X dX7_well_27 1 rfl ?_
        refine G.get X fX7_100 dX7_well_28 0 0 rfl rfl rfl ?_
        refine G.top (b := nI k) rfl ?_
        refine G.nz_ne X (a := k) (by omega) dX7_well_31 (fun b31 => absurd b31 ((fun h => h ((hgo k hk).resolve_left b24)))) (fun b31 => ?_)
        refine G.al X dX7_well_34 1 rfl ?_
        refine G.cvi X kX7_statement lX7_141 dX7_well_35 (tX7_statement_hd l D cI cW m S (m_rs M (p_it (m_q M) (m_t0 M) k) k) hn96 ha9 (show k < 48 from by omega) (hhv k hk)) ⟨Nat.le_of_ble_eq_true rfl, Nat.le_of_ble_eq_true rfl⟩ ⟨Nat.zero_le _, Nat.zero_le _⟩ [0] rfl ⟨rfl, rfl⟩ rfl rfl 0 0 rfl rfl rfl rfl (Nat.le_of_ble_eq_true rfl) (ff_cons (ml_fst _ _ _ _ _ _) (ff_nil)) (ws' := [ml m cI S (m_pst (m_rs M (p_it (m_q M) (m_t0 M) k) k) ((p_sm (m_q (m_rs M (p_it (m_q M) (m_t0 M) k) k)) (p_nx (m_q (m_rs M (p_it (m_q M) (m_t0 M) k) k)) (m_at (m_rs M (p_it (m_q M) (m_t0 M) k) k))) (m_at (m_rs M (p_it (m_q M) (m_t0 M) k) k) + 1) (m_to (m_rs M (p_it (m_q M) (m_t0 M) k) k)) (3 * m_st (m_rs M (p_it (m_q M) (m_t0 M) k) k))).2.1) (upd (m_lt (m_rs M (p_it (m_q M) (m_t0 M) k) k)) (m_st (m_rs M (p_it (m_q M) (m_t0 M) k) k)) (p_nx (m_q (m_rs M (p_it (m_q M) (m_t0 M) k) k)) (m_at (m_rs M (p_it (m_q M) (m_t0 M) k) k)))) (upd (m_la (m_rs M (p_it (m_q M) (m_t0 M) k) k)) (m_st (m_rs M (p_it (m_q M) (m_t0 M) k) k)) (nI (m_at (m_rs M (p_it (m_q M) (m_t0 M) k) k)))) ((p_sm (m_q (m_rs M (p_it (m_q M) (m_t0 M) k) k)) (p_nx (m_q (m_rs M (p_it (m_q M) (m_t0 M) k) k)) (m_at (m_rs M (p_it (m_q M) (m_t0 M) k) k))) (m_at (m_rs M (p_it (m_q M) (m_t0 M) k) k) + 1) (m_to (m_rs M (p_it (m_q M) (m_t0 M) k) k)) (3 * m_st (m_rs M (p_it (m_q M) (m_t0 M) k) k))).2.2) (m_st (m_rs M (p_it (m_q M) (m_t0 M) k) k)))]) rfl ?_
        refine G.top (b := 1) (show b2i (p_ss (m_q M) (p_it (m_q M) (m_t0 M) k) k).1 = 1 from by rw [hgd k hk]; rfl) ?_
        refine G.cg (ws' := [ml m cI S (m_rs M (p_st1 (m_q M) (p_it (m_q M) (m_t0 M) k) k) k)]) rfl rfl rfl ?_
        refine G.is X dX7_well_38 (by decide) (lv' := [(1, .int 1), (0, .ref (m 0))]) rfl ?_
        refine G.al X dX7_well_39 1 rfl ?_
        refine G.dupr X dX7_well_40 ?_
        refine G.get X fX7_100 dX7_well_41 0 0 rfl rfl rfl ?_
        refine G.top (b := nI k) rfl ?_
        refine G.il X dX7_well_44 0 rfl ?_
        refine G.z_eq X (a := 1) dX7_well_45 (fun b45 => absurd b45 (by decide)) (fun b45 => ?_)
        refine G.pu X dX7_well_48 ?_
        refine G.go X dX7_well_49 ?_
        refine G.nadd X (a := k) (b := 1) dX7_well_53 ?_
        refine G.puti X fX7_100 fe7 dX7_well_54 rfl rfl 0 0 rfl rfl (Nat.le_of_ble_eq_true rfl) (blk' := ml m cI S (m_rf (m_rs M (p_st1 (m_q M) (p_it (m_q M) (m_t0 M) k) k) k), m_co (m_rs M (p_st1 (m_q M) (p_it (m_q M) (m_t0 M) k) k) k), m_tx (m_rs M (p_st1 (m_q M) (p_it (m_q M) (m_t0 M) k) k) k), m_lt (m_rs M (p_st1 (m_q M) (p_it (m_q M) (m_t0 M) k) k) k), m_la (m_rs M (p_st1 (m_q M) (p_it (m_q M) (m_t0 M) k) k) k), m_to (m_rs M (p_st1 (m_q M) (p_it (m_q M) (m_t0 M) k) k) k), m_tn (m_rs M (p_st1 (m_q M) (p_it (m_q M) (m_t0 M) k) k) k), m_at (m_rs M (p_st1 (m_q M) (p_it (m_q M) (m_t0 M) k) k) k), k + 1, m_kp (m_rs M (p_st1 (m_q M) (p_it (m_q M) (m_t0 M) k) k) k), m_hi (m_rs M (p_st1 (m_q M) (p_it (m_q M) (m_t0 M) k) k) k), m_kg (m_rs M (p_st1 (m_q M) (p_it (m_q M) (m_t0 M) k) k) k), m_cu (m_rs M (p_st1 (m_q M) (p_it (m_q M) (m_t0 M) k) k) k), m_lr (m_rs M (p_st1 (m_q M) (p_it (m_q M) (m_t0 M) k) k) k), m_ge (m_rs M (p_st1 (m_q M) (p_it (m_q M) (m_t0 M) k) k) k), m_rw (m_rs M (p_st1 (m_q M) (p_it (m_q M) (m_t0 M) k) k) k), m_rn (m_rs M (p_st1 (m_q M) (p_it (m_q M) (m_t0 M) k) k) k))) rfl (ws' := [ml m cI S (m_rf (m_rs M (p_st1 (m_q M) (p_it (m_q M) (m_t0 M) k) k) k), m_co (m_rs M (p_st1 (m_q M) (p_it (m_q M) (m_t0 M) k) k) k), m_tx (m_rs M (p_st1 (m_q M) (p_it (m_q M) (m_t0 M) k) k) k), m_lt (m_rs M (p_st1 (m_q M) (p_it (m_q M) (m_t0 M) k) k) k), m_la (m_rs M (p_st1 (m_q M) (p_it (m_q M) (m_t0 M) k) k) k), m_to (m_rs M (p_st1 (m_q M) (p_it (m_q M) (m_t0 M) k) k) k), m_tn (m_rs M (p_st1 (m_q M) (p_it (m_q M) (m_t0 M) k) k) k), m_at (m_rs M (p_st1 (m_q M) (p_it (m_q M) (m_t0 M) k) k) k), k + 1, m_kp (m_rs M (p_st1 (m_q M) (p_it (m_q M) (m_t0 M) k) k) k), m_hi (m_rs M (p_st1 (m_q M) (p_it (m_q M) (m_t0 M) k) k) k), m_kg (m_rs M (p_st1 (m_q M) (p_it (m_q M) (m_t0 M) k) k) k), m_cu (m_rs M (p_st1 (m_q M) (p_it (m_q M) (m_t0 M) k) k) k), m_lr (m_rs M (p_st1 (m_q M) (p_it (m_q M) (m_t0 M) k) k) k), m_ge (m_rs M (p_st1 (m_q M) (p_it (m_q M) (m_t0 M) k) k) k), m_rw (m_rs M (p_st1 (m_q M) (p_it (m_q M) (m_t0 M) k) k) k), m_rn (m_rs M (p_st1 (m_q M) (p_it (m_q M) (m_t0 M) k) k) k))]) rfl ?_
        refine G.cg (ws' := [ml m cI S (m_rs M (p_st1 (m_q M) (p_it (m_q M) (m_t0 M) k) k) (k + 1))]) rfl rfl rfl ?_
        refine G.go X dX7_well_57 ?_
        exact ih12
  have L12 := L12 0 (Nat.zero_le _)
  exact L12

set_option maxRecDepth 20000 in
theorem tX7_well_l1 (l : Launch) (D : va_G) (cI cW : ClassId) (m : Nat → Nat) (S : WS) (M : MS) (K : Nat) (hn96 : m_tn M ≤ 96) (hco : m_co M = false) (hK : K < 48) (hle : ∀ k, k ≤ K → i_a (p_it (m_q M) (m_t0 M) k) ≤ 96) (hgo : ∀ k, k < K → (i_a (p_it (m_q M) (m_t0 M) k) < m_tn M ∨ k = 0)) (hhv : ∀ k, k < K → p_hv (p_nx (m_q M) (i_a (p_it (m_q M) (m_t0 M) k)))) (hgd : ∀ k, k < K → (p_ss (m_q M) (p_it (m_q M) (m_t0 M) k) k).1 = true) (hgK : i_a (p_it (m_q M) (m_t0 M) K) < m_tn M ∨ K = 0) (hhK : p_hv (p_nx (m_q M) (i_a (p_it (m_q M) (m_t0 M) K)))) (hbK : (p_ss (m_q M) (p_it (m_q M) (m_t0 M) K) K).1 = false) : CT l D cI cW yX7_well cX7_well 3 (some .int) ⟨5, 0, 0, 110⟩ [.ref (m 0)] ([ml m cI S M]) (PIE (-1000 - nI (p_ss (m_q M) (p_it (m_q M) (m_t0 M) K) K).2.1) (fun M9 : {M9 : MS // Mq 64 (m_tns M 0) M9} => [ml m cI S M9.1])) := by
  refine CT.of RX7 rfl (by decide +kernel) (Nat.le_of_ble_eq_true rfl) [(0, .ref (m 0))] rfl (fun x X Rr hnm => ?_)
  refine G.al X dX7_well_0 0 rfl ?_
  refine G.pu X dX7_well_1 ?_
  refine G.puti X fX7_78 fe7 dX7_well_2 rfl rfl 0 0 rfl rfl (Nat.le_of_ble_eq_true rfl) (blk' := ml m cI S (m_rf M, m_co M, m_tx M, m_lt M, m_la M, m_to M, m_tn M, 0, m_st M, m_kp M, m_hi M, m_kg M, m_cu M, m_lr M, m_ge M, m_rw M, m_rn M)) rfl (ws' := [ml m cI S (m_rf M, m_co M, m_tx M, m_lt M, m_la M, m_to M, m_tn M, 0, m_st M, m_kp M, m_hi M, m_kg M, m_cu M, m_lr M, m_ge M, m_rw M, m_rn M)]) rfl ?_
  refine G.al X dX7_well_5 0 rfl ?_
  refine G.pu X dX7_well_6 ?_
  refine G.puti X fX7_100 fe7 dX7_well_7 rfl rfl 0 0 rfl rfl (Nat.le_of_ble_eq_true rfl) (blk' := ml m cI S (m_rf M, m_co M, m_tx M, m_lt M, m_la M, m_to M, m_tn M, 0, 0, m_kp M, m_hi M, m_kg M, m_cu M, m_lr M, m_ge M, m_rw M, m_rn M)) rfl (ws' := [ml m cI S (m_rf M, m_co M, m_tx M, m_lt M, m_la M, m_to M, m_tn M, 0, 0, m_kp M, m_hi M, m_kg M, m_cu M, m_lr M, m_ge M, m_rw M, m_rn M)]) rfl ?_
  refine G.cg (ws' := [ml m cI S (m_rs M (m_t0 M) 0)]) rfl rfl rfl ?_
  refine G.pu X dX7_well_10 ?_
  refine G.is X dX7_well_11 (by decide) (lv' := [(1, .int 1), (0, .ref (m 0))]) rfl ?_
  have L12 : ∀ k, k ≤ K → G x 0 0 ([ml m cI S (m_rs M (p_it (m_q M) (m_t0 M) k) k)]) 12 [(1, .int 1), (0, .ref (m 0))] [] := by
    refine loop_dn K _ ?_ ?_
    · have ha9 : i_a (p_it (m_q M) (m_t0 M) K) ≤ 96 := hle K (by omega)
      refine G.il X dX7_well_12 0 rfl ?_
      refine G.z_eq X (a := 1) dX7_well_13 (fun b13 => absurd b13 (by decide)) (fun b13 => ?_)
      refine G.al X dX7_well_16 1 rfl ?_
      refine G.get X fX7_78 dX7_well_17 0 0 rfl rfl rfl ?_
      refine G.top (b := nI (i_a (p_it (m_q M) (m_t0 M) K))) rfl ?_
      refine G.al X dX7_well_20 1 rfl ?_
      refine G.get X fX7_71 dX7_well_21 0 0 rfl rfl rfl ?_
      refine G.top (b := nI (m_tn M)) rfl ?_
      refine G.n_lt X (a := i_a (p_it (m_q M) (m_t0 M) K)) (b := m_tn M) (by omega) (by omega) dX7_well_24 (fun b24 => ?_) (fun b24 => ?_)
      · refine G.al X dX7_well_34 1 rfl ?_
        refine G.cvi X kX7_statement lX7_141 dX7_well_35 (tX7_statement_hd l D cI cW m S (m_rs M (p_it (m_q M) (m_t0 M) K) K) hn96 ha9 (show K < 48 from by omega) hhK) ⟨Nat.le_of_ble_eq_true rfl, Nat.le_of_ble_eq_true rfl⟩ ⟨Nat.zero_le _, Nat.zero_le _⟩ [0] rfl ⟨rfl, rfl⟩ rfl rfl 0 0 rfl rfl rfl rfl (Nat.le_of_ble_eq_true rfl) (ff_cons (ml_fst _ _ _ _ _ _) (ff_nil)) (ws' := [ml m cI S (m_pst (m_rs M (p_it (m_q M) (m_t0 M) K) K) ((p_sm (m_q (m_rs M (p_it (m_q M) (m_t0 M) K) K)) (p_nx (m_q (m_rs M (p_it (m_q M) (m_t0 M) K) K)) (m_at (m_rs M (p_it (m_q M) (m_t0 M) K) K))) (m_at (m_rs M (p_it (m_q M) (m_t0 M) K) K) + 1) (m_to (m_rs M (p_it (m_q M) (m_t0 M) K) K)) (3 * m_st (m_rs M (p_it (m_q M) (m_t0 M) K) K))).2.1) (upd (m_lt (m_rs M (p_it (m_q M) (m_t0 M) K) K)) (m_st (m_rs M (p_it (m_q M) (m_t0 M) K) K)) (p_nx (m_q (m_rs M (p_it (m_q M) (m_t0 M) K) K)) (m_at (m_rs M (p_it (m_q M) (m_t0 M) K) K)))) (upd (m_la (m_rs M (p_it (m_q M) (m_t0 M) K) K)) (m_st (m_rs M (p_it (m_q M) (m_t0 M) K) K)) (nI (m_at (m_rs M (p_it (m_q M) (m_t0 M) K) K)))) ((p_sm (m_q (m_rs M (p_it (m_q M) (m_t0 M) K) K)) (p_nx (m_q (m_rs M (p_it (m_q M) (m_t0 M) K) K)) (m_at (m_rs M (p_it (m_q M) (m_t0 M) K) K))) (m_at (m_rs M (p_it (m_q M) (m_t0 M) K) K) + 1) (m_to (m_rs M (p_it (m_q M) (m_t0 M) K) K)) (3 * m_st (m_rs M (p_it (m_q M) (m_t0 M) K) K))).2.2) (m_st (m_rs M (p_it (m_q M) (m_t0 M) K) K)))]) rfl ?_
        refine G.top (b := 0) (show b2i (p_ss (m_q M) (p_it (m_q M) (m_t0 M) K) K).1 = 0 from by rw [hbK]; rfl) ?_
        refine G.cg (ws' := [ml m cI S (m_rs M (p_st1 (m_q M) (p_it (m_q M) (m_t0 M) K) K) K)]) rfl rfl rfl ?_
        refine G.is X dX7_well_38 (by decide) (lv' := [(1, .int 0), (0, .ref (m 0))]) rfl ?_
        refine G.al X dX7_well_39 1 rfl ?_
        refine G.dupr X dX7_well_40 ?_
        refine G.get X fX7_100 dX7_well_41 0 0 rfl rfl rfl ?_
        refine G.top (b := nI K) rfl ?_
        refine G.il X dX7_well_44 0 rfl ?_
        refine G.z_eq X (a := 0) dX7_well_45 (fun b45 => ?_) (fun b45 => absurd b45 (by decide))
        refine G.pu X dX7_well_52 ?_
        refine G.nadd X (a := K) (b := 0) dX7_well_53 ?_
        refine G.puti X fX7_100 fe7 dX7_well_54 rfl rfl 0 0 rfl rfl (Nat.le_of_ble_eq_true rfl) (blk' := ml m cI S (m_rf (m_rs M (p_st1 (m_q M) (p_it (m_q M) (m_t0 M) K) K) K), m_co (m_rs M (p_st1 (m_q M) (p_it (m_q M) (m_t0 M) K) K) K), m_tx (m_rs M (p_st1 (m_q M) (p_it (m_q M) (m_t0 M) K) K) K), m_lt (m_rs M (p_st1 (m_q M) (p_it (m_q M) (m_t0 M) K) K) K), m_la (m_rs M (p_st1 (m_q M) (p_it (m_q M) (m_t0 M) K) K) K), m_to (m_rs M (p_st1 (m_q M) (p_it (m_q M) (m_t0 M) K) K) K), m_tn (m_rs M (p_st1 (m_q M) (p_it (m_q M) (m_t0 M) K) K) K), m_at (m_rs M (p_st1 (m_q M) (p_it (m_q M) (m_t0 M) K) K) K), K + 0, m_kp (m_rs M (p_st1 (m_q M) (p_it (m_q M) (m_t0 M) K) K) K), m_hi (m_rs M (p_st1 (m_q M) (p_it (m_q M) (m_t0 M) K) K) K), m_kg (m_rs M (p_st1 (m_q M) (p_it (m_q M) (m_t0 M) K) K) K), m_cu (m_rs M (p_st1 (m_q M) (p_it (m_q M) (m_t0 M) K) K) K), m_lr (m_rs M (p_st1 (m_q M) (p_it (m_q M) (m_t0 M) K) K) K), m_ge (m_rs M (p_st1 (m_q M) (p_it (m_q M) (m_t0 M) K) K) K), m_rw (m_rs M (p_st1 (m_q M) (p_it (m_q M) (m_t0 M) K) K) K), m_rn (m_rs M (p_st1 (m_q M) (p_it (m_q M) (m_t0 M) K) K) K))) rfl (ws' := [ml m cI S (m_rf (m_rs M (p_st1 (m_q M) (p_it (m_q M) (m_t0 M) K) K) K), m_co (m_rs M (p_st1 (m_q M) (p_it (m_q M) (m_t0 M) K) K) K), m_tx (m_rs M (p_st1 (m_q M) (p_it (m_q M) (m_t0 M) K) K) K), m_lt (m_rs M (p_st1 (m_q M) (p_it (m_q M) (m_t0 M) K) K) K), m_la (m_rs M (p_st1 (m_q M) (p_it (m_q M) (m_t0 M) K) K) K), m_to (m_rs M (p_st1 (m_q M) (p_it (m_q M) (m_t0 M) K) K) K), m_tn (m_rs M (p_st1 (m_q M) (p_it (m_q M) (m_t0 M) K) K) K), m_at (m_rs M (p_st1 (m_q M) (p_it (m_q M) (m_t0 M) K) K) K), K + 0, m_kp (m_rs M (p_st1 (m_q M) (p_it (m_q M) (m_t0 M) K) K) K), m_hi (m_rs M (p_st1 (m_q M) (p_it (m_q M) (m_t0 M) K) K) K), m_kg (m_rs M (p_st1 (m_q M) (p_it (m_q M) (m_t0 M) K) K) K), m_cu (m_rs M (p_st1 (m_q M) (p_it (m_q M) (m_t0 M) K) K) K), m_lr (m_rs M (p_st1 (m_q M) (p_it (m_q M) (m_t0 M) K) K) K), m_ge (m_rs M (p_st1 (m_q M) (p_it (m_q M) (m_t0 M) K) K) K), m_rw (m_rs M (p_st1 (m_q M) (p_it (m_q M) (m_t0 M) K) K) K), m_rn (m_rs M (p_st1 (m_q M) (p_it (m_q M) (m_t0 M) K) K) K))]) rfl ?_
        refine G.go X dX7_well_57 ?_
        refine G.il X dX7_well_12 0 rfl ?_
        refine G.z_eq X (a := 0) dX7_well_13 (fun b13 => ?_) (fun b13 => absurd b13 (by decide))
        refine G.al X dX7_well_60 1 rfl ?_
        refine G.pu X dX7_well_61 ?_
        refine G.puti X fX7_71 fe7 dX7_well_62 rfl rfl 0 0 rfl rfl (Nat.le_of_ble_eq_true rfl) (blk' := ml m cI S (m_rf (m_rs M (p_st1 (m_q M) (p_it (m_q M) (m_t0 M) K) K) K), m_co (m_rs M (p_st1 (m_q M) (p_it (m_q M) (m_t0 M) K) K) K), m_tx (m_rs M (p_st1 (m_q M) (p_it (m_q M) (m_t0 M) K) K) K), m_lt (m_rs M (p_st1 (m_q M) (p_it (m_q M) (m_t0 M) K) K) K), m_la (m_rs M (p_st1 (m_q M) (p_it (m_q M) (m_t0 M) K) K) K), m_to (m_rs M (p_st1 (m_q M) (p_it (m_q M) (m_t0 M) K) K) K), 0, m_at (m_rs M (p_st1 (m_q M) (p_it (m_q M) (m_t0 M) K) K) K), K + 0, m_kp (m_rs M (p_st1 (m_q M) (p_it (m_q M) (m_t0 M) K) K) K), m_hi (m_rs M (p_st1 (m_q M) (p_it (m_q M) (m_t0 M) K) K) K), m_kg (m_rs M (p_st1 (m_q M) (p_it (m_q M) (m_t0 M) K) K) K), m_cu (m_rs M (p_st1 (m_q M) (p_it (m_q M) (m_t0 M) K) K) K), m_lr (m_rs M (p_st1 (m_q M) (p_it (m_q M) (m_t0 M) K) K) K), m_ge (m_rs M (p_st1 (m_q M) (p_it (m_q M) (m_t0 M) K) K) K), m_rw (m_rs M (p_st1 (m_q M) (p_it (m_q M) (m_t0 M) K) K) K), m_rn (m_rs M (p_st1 (m_q M) (p_it (m_q M) (m_t0 M) K) K) K))) rfl (ws' := [ml m cI S (m_rf (m_rs M (p_st1 (m_q M) (p_it (m_q M) (m_t0 M) K) K) K), m_co (m_rs M (p_st1 (m_q M) (p_it (m_q M) (m_t0 M) K) K) K), m_tx (m_rs M (p_st1 (m_q M) (p_it (m_q M) (m_t0 M) K) K) K), m_lt (m_rs M (p_st1 (m_q M) (p_it (m_q M) (m_t0 M) K) K) K), m_la (m_rs M (p_st1 (m_q M) (p_it (m_q M) (m_t0 M) K) K) K), m_to (m_rs M (p_st1 (m_q M) (p_it (m_q M) (m_t0 M) K) K) K), 0, m_at (m_rs M (p_st1 (m_q M) (p_it (m_q M) (m_t0 M) K) K) K), K + 0, m_kp (m_rs M (p_st1 (m_q M) (p_it (m_q M) (m_t0 M) K) K) K), m_hi (m_rs M (p_st1 (m_q M) (p_it (m_q M) (m_t0 M) K) K) K), m_kg (m_rs M (p_st1 (m_q M) (p_it (m_q M) (m_t0 M) K) K) K), m_cu (m_rs M (p_st1 (m_q M) (p_it (m_q M) (m_t0 M) K) K) K), m_lr (m_rs M (p_st1 (m_q M) (p_it (m_q M) (m_t0 M) K) K) K), m_ge (m_rs M (p_st1 (m_q M) (p_it (m_q M) (m_t0 M) K) K) K), m_rw (m_rs M (p_st1 (m_q M) (p_it (m_q M) (m_t0 M) K) K) K), m_rn (m_rs M (p_st1 (m_q M) (p_it (m_q M) (m_t0 M) K) K) K))]) rfl ?_
        refine G.il X dX7_well_65 0 rfl ?_
        refine G.z_ne X (a := 0) dX7_well_66 (fun b66 => absurd b66 (by decide)) (fun b66 => ?_)
        refine G.pu X dX7_well_69 ?_
        refine G.al X dX7_well_72 1 rfl ?_
        refine G.get X fX7_78 dX7_well_73 0 0 rfl rfl rfl ?_
        refine G.isub X dX7_well_76 ?_
        exact G.iret X Rr (v := ((-1000) - (nI (m_at (m_rs M (p_st1 (m_q M) (p_it (m_q M) (m_t0 M) K) K) K))))) dX7_well_77 (pie_mk (qk (b := 64) (M := m_tns M 0) (N := (m_rf (m_rs M (p_st1 (m_q M) (p_it (m_q M) (m_t0 M) K) K) K), m_co (m_rs M (p_st1 (m_q M) (p_it (m_q M) (m_t0 M) K) K) K), m_tx (m_rs M (p_st1 (m_q M) (p_it (m_q M) (m_t0 M) K) K) K), m_lt (m_rs M (p_st1 (m_q M) (p_it (m_q M) (m_t0 M) K) K) K), m_la (m_rs M (p_st1 (m_q M) (p_it (m_q M) (m_t0 M) K) K) K), m_to (m_rs M (p_st1 (m_q M) (p_it (m_q M) (m_t0 M) K) K) K), 0, m_at (m_rs M (p_st1 (m_q M) (p_it (m_q M) (m_t0 M) K) K) K), K + 0, m_kp (m_rs M (p_st1 (m_q M) (p_it (m_q M) (m_t0 M) K) K) K), m_hi (m_rs M (p_st1 (m_q M) (p_it (m_q M) (m_t0 M) K) K) K), m_kg (m_rs M (p_st1 (m_q M) (p_it (m_q M) (m_t0 M) K) K) K), m_cu (m_rs M (p_st1 (m_q M) (p_it (m_q M) (m_t0 M) K) K) K), m_lr (m_rs M (p_st1 (m_q M) (p_it (m_q M) (m_t0 M) K) K) K), m_ge (m_rs M (p_st1 (m_q M) (p_it (m_q M) (m_t0 M) K) K) K), m_rw (m_rs M (p_st1 (m_q M) (p_it (m_q M) (m_t0 M) K) K) K), m_rn (m_rs M (p_st1 (m_q M) (p_it (m_q M) (m_t0 M) K) K) K))) ⟨rfl, rfl, rfl, rfl, rfl, rfl, rfl, fun _ _ => rfl⟩) (by rfl) (by rfl))
      · refine G.al X dX7_well_27 1 rfl ?_
        refine G.get X fX7_100 dX7_well_28 0 0 rfl rfl rfl ?_
        refine G.top (b := nI K) rfl ?_
        refine G.nz_ne X (a := K) (by omega) dX7_well_31 (fun b31 => absurd b31 ((fun h => h (hgK.resolve_left b24)))) (fun b31 => ?_)
        refine G.al X dX7_well_34 1 rfl ?_
        refine G.cvi X kX7_statement lX7_141 dX7_well_35 (tX7_statement_hd l D cI cW m S (m_rs M (p_it (m_q M) (m_t0 M) K) K) hn96 ha9 (show K < 48 from by omega) hhK) ⟨Nat.le_of_ble_eq_true rfl, Nat.le_of_ble_eq_true rfl⟩ ⟨Nat.zero_le _, Nat.zero_le _⟩ [0] rfl ⟨rfl, rfl⟩ rfl rfl 0 0 rfl rfl rfl rfl (Nat.le_of_ble_eq_true rfl) (ff_cons (ml_fst _ _ _ _ _ _) (ff_nil)) (ws' := [ml m cI S (m_pst (m_rs M (p_it (m_q M) (m_t0 M) K) K) ((p_sm (m_q (m_rs M (p_it (m_q M) (m_t0 M) K) K)) (p_nx (m_q (m_rs M (p_it (m_q M) (m_t0 M) K) K)) (m_at (m_rs M (p_it (m_q M) (m_t0 M) K) K))) (m_at (m_rs M (p_it (m_q M) (m_t0 M) K) K) + 1) (m_to (m_rs M (p_it (m_q M) (m_t0 M) K) K)) (3 * m_st (m_rs M (p_it (m_q M) (m_t0 M) K) K))).2.1) (upd (m_lt (m_rs M (p_it (m_q M) (m_t0 M) K) K)) (m_st (m_rs M (p_it (m_q M) (m_t0 M) K) K)) (p_nx (m_q (m_rs M (p_it (m_q M) (m_t0 M) K) K)) (m_at (m_rs M (p_it (m_q M) (m_t0 M) K) K)))) (upd (m_la (m_rs M (p_it (m_q M) (m_t0 M) K) K)) (m_st (m_rs M (p_it (m_q M) (m_t0 M) K) K)) (nI (m_at (m_rs M (p_it (m_q M) (m_t0 M) K) K)))) ((p_sm (m_q (m_rs M (p_it (m_q M) (m_t0 M) K) K)) (p_nx (m_q (m_rs M (p_it (m_q M) (m_t0 M) K) K)) (m_at (m_rs M (p_it (m_q M) (m_t0 M) K) K))) (m_at (m_rs M (p_it (m_q M) (m_t0 M) K) K) + 1) (m_to (m_rs M (p_it (m_q M) (m_t0 M) K) K)) (3 * m_st (m_rs M (p_it (m_q M) (m_t0 M) K) K))).2.2) (m_st (m_rs M (p_it (m_q M) (m_t0 M) K) K)))]) rfl ?_
        refine G.top (b := 0) (show b2i (p_ss (m_q M) (p_it (m_q M) (m_t0 M) K) K).1 = 0 from by rw [hbK]; rfl) ?_
        refine G.cg (ws' := [ml m cI S (m_rs M (p_st1 (m_q M) (p_it (m_q M) (m_t0 M) K) K) K)]) rfl rfl rfl ?_
        refine G.is X dX7_well_38 (by decide) (lv' := [(1, .int 0), (0, .ref (m 0))]) rfl ?_
        refine G.al X dX7_well_39 1 rfl ?_
        refine G.dupr X dX7_well_40 ?_
        refine G.get X fX7_100 dX7_well_41 0 0 rfl rfl rfl ?_
        refine G.top (b := nI K) rfl ?_
        refine G.il X dX7_well_44 0 rfl ?_
        refine G.z_eq X (a := 0) dX7_well_45 (fun b45 => ?_) (fun b45 => absurd b45 (by decide))
        refine G.pu X dX7_well_52 ?_
        refine G.nadd X (a := K) (b := 0) dX7_well_53 ?_
        refine G.puti X fX7_100 fe7 dX7_well_54 rfl rfl 0 0 rfl rfl (Nat.le_of_ble_eq_true rfl) (blk' := ml m cI S (m_rf (m_rs M (p_st1 (m_q M) (p_it (m_q M) (m_t0 M) K) K) K), m_co (m_rs M (p_st1 (m_q M) (p_it (m_q M) (m_t0 M) K) K) K), m_tx (m_rs M (p_st1 (m_q M) (p_it (m_q M) (m_t0 M) K) K) K), m_lt (m_rs M (p_st1 (m_q M) (p_it (m_q M) (m_t0 M) K) K) K), m_la (m_rs M (p_st1 (m_q M) (p_it (m_q M) (m_t0 M) K) K) K), m_to (m_rs M (p_st1 (m_q M) (p_it (m_q M) (m_t0 M) K) K) K), m_tn (m_rs M (p_st1 (m_q M) (p_it (m_q M) (m_t0 M) K) K) K), m_at (m_rs M (p_st1 (m_q M) (p_it (m_q M) (m_t0 M) K) K) K), K + 0, m_kp (m_rs M (p_st1 (m_q M) (p_it (m_q M) (m_t0 M) K) K) K), m_hi (m_rs M (p_st1 (m_q M) (p_it (m_q M) (m_t0 M) K) K) K), m_kg (m_rs M (p_st1 (m_q M) (p_it (m_q M) (m_t0 M) K) K) K), m_cu (m_rs M (p_st1 (m_q M) (p_it (m_q M) (m_t0 M) K) K) K), m_lr (m_rs M (p_st1 (m_q M) (p_it (m_q M) (m_t0 M) K) K) K), m_ge (m_rs M (p_st1 (m_q M) (p_it (m_q M) (m_t0 M) K) K) K), m_rw (m_rs M (p_st1 (m_q M) (p_it (m_q M) (m_t0 M) K) K) K), m_rn (m_rs M (p_st1 (m_q M) (p_it (m_q M) (m_t0 M) K) K) K))) rfl (ws' := [ml m cI S (m_rf (m_rs M (p_st1 (m_q M) (p_it (m_q M) (m_t0 M) K) K) K), m_co (m_rs M (p_st1 (m_q M) (p_it (m_q M) (m_t0 M) K) K) K), m_tx (m_rs M (p_st1 (m_q M) (p_it (m_q M) (m_t0 M) K) K) K), m_lt (m_rs M (p_st1 (m_q M) (p_it (m_q M) (m_t0 M) K) K) K), m_la (m_rs M (p_st1 (m_q M) (p_it (m_q M) (m_t0 M) K) K) K), m_to (m_rs M (p_st1 (m_q M) (p_it (m_q M) (m_t0 M) K) K) K), m_tn (m_rs M (p_st1 (m_q M) (p_it (m_q M) (m_t0 M) K) K) K), m_at (m_rs M (p_st1 (m_q M) (p_it (m_q M) (m_t0 M) K) K) K), K + 0, m_kp (m_rs M (p_st1 (m_q M) (p_it (m_q M) (m_t0 M) K) K) K), m_hi (m_rs M (p_st1 (m_q M) (p_it (m_q M) (m_t0 M) K) K) K), m_kg (m_rs M (p_st1 (m_q M) (p_it (m_q M) (m_t0 M) K) K) K), m_cu (m_rs M (p_st1 (m_q M) (p_it (m_q M) (m_t0 M) K) K) K), m_lr (m_rs M (p_st1 (m_q M) (p_it (m_q M) (m_t0 M) K) K) K), m_ge (m_rs M (p_st1 (m_q M) (p_it (m_q M) (m_t0 M) K) K) K), m_rw (m_rs M (p_st1 (m_q M) (p_it (m_q M) (m_t0 M) K) K) K), m_rn (m_rs M (p_st1 (m_q M) (p_it (m_q M) (m_t0 M) K) K) K))]) rfl ?_
        refine G.go X dX7_well_57 ?_
        refine G.il X dX7_well_12 0 rfl ?_
        refine G.z_eq X (a := 0) dX7_well_13 (fun b13 => ?_) (fun b13 => absurd b13 (by decide))
        refine G.al X dX7_well_60 1 rfl ?_
        refine G.pu X dX7_well_61 ?_
        refine G.puti X fX7_71 fe7 dX7_well_62 rfl rfl 0 0 rfl rfl (Nat.le_of_ble_eq_true rfl) (blk' := ml m cI S (m_rf (m_rs M (p_st1 (m_q M) (p_it (m_q M) (m_t0 M) K) K) K), m_co (m_rs M (p_st1 (m_q M) (p_it (m_q M) (m_t0 M) K) K) K), m_tx (m_rs M (p_st1 (m_q M) (p_it (m_q M) (m_t0 M) K) K) K), m_lt (m_rs M (p_st1 (m_q M) (p_it (m_q M) (m_t0 M) K) K) K), m_la (m_rs M (p_st1 (m_q M) (p_it (m_q M) (m_t0 M) K) K) K), m_to (m_rs M (p_st1 (m_q M) (p_it (m_q M) (m_t0 M) K) K) K), 0, m_at (m_rs M (p_st1 (m_q M) (p_it (m_q M) (m_t0 M) K) K) K), K + 0, m_kp (m_rs M (p_st1 (m_q M) (p_it (m_q M) (m_t0 M) K) K) K), m_hi (m_rs M (p_st1 (m_q M) (p_it (m_q M) (m_t0 M) K) K) K), m_kg (m_rs M (p_st1 (m_q M) (p_it (m_q M) (m_t0 M) K) K) K), m_cu (m_rs M (p_st1 (m_q M) (p_it (m_q M) (m_t0 M) K) K) K), m_lr (m_rs M (p_st1 (m_q M) (p_it (m_q M) (m_t0 M) K) K) K), m_ge (m_rs M (p_st1 (m_q M) (p_it (m_q M) (m_t0 M) K) K) K), m_rw (m_rs M (p_st1 (m_q M) (p_it (m_q M) (m_t0 M) K) K) K), m_rn (m_rs M (p_st1 (m_q M) (p_it (m_q M) (m_t0 M) K) K) K))) rfl (ws' := [ml m cI S (m_rf (m_rs M (p_st1 (m_q M) (p_it (m_q M) (m_t0 M) K) K) K), m_co (m_rs M (p_st1 (m_q M) (p_it (m_q M) (m_t0 M) K) K) K), m_tx (m_rs M (p_st1 (m_q M) (p_it (m_q M) (m_t0 M) K) K) K), m_lt (m_rs M (p_st1 (m_q M) (p_it (m_q M) (m_t0 M) K) K) K), m_la (m_rs M (p_st1 (m_q M) (p_it (m_q M) (m_t0 M) K) K) K), m_to (m_rs M (p_st1 (m_q M) (p_it (m_q M) (m_t0 M) K) K) K), 0, m_at (m_rs M (p_st1 (m_q M) (p_it (m_q M) (m_t0 M) K) K) K), K + 0, m_kp (m_rs M (p_st1 (m_q M) (p_it (m_q M) (m_t0 M) K) K) K), m_hi (m_rs M (p_st1 (m_q M) (p_it (m_q M) (m_t0 M) K) K) K), m_kg (m_rs M (p_st1 (m_q M) (p_it (m_q M) (m_t0 M) K) K) K), m_cu (m_rs M (p_st1 (m_q M) (p_it (m_q M) (m_t0 M) K) K) K), m_lr (m_rs M (p_st1 (m_q M) (p_it (m_q M) (m_t0 M) K) K) K), m_ge (m_rs M (p_st1 (m_q M) (p_it (m_q M) (m_t0 M) K) K) K), m_rw (m_rs M (p_st1 (m_q M) (p_it (m_q M) (m_t0 M) K) K) K), m_rn (m_rs M (p_st1 (m_q M) (p_it (m_q M) (m_t0 M) K) K) K))]) rfl ?_
        refine G.il X dX7_well_65 0 rfl ?_
        refine G.z_ne X (a := 0) dX7_well_66 (fun b66 => absurd b66 (by decide)) (fun b66 => ?_)
        refine G.pu X dX7_well_69 ?_
        refine G.al X dX7_well_72 1 rfl ?_
        refine G.get X fX7_78 dX7_well_73 0 0 rfl rfl rfl ?_
        refine G.isub X dX7_well_76 ?_
        exact G.iret X Rr (v := ((-1000) - (nI (m_at (m_rs M (p_st1 (m_q M) (p_it (m_q M) (m_t0 M) K) K) K))))) dX7_well_77 (pie_mk (qk (b := 64) (M := m_tns M 0) (N := (m_rf (m_rs M (p_st1 (m_q M) (p_it (m_q M) (m_t0 M) K) K) K), m_co (m_rs M (p_st1 (m_q M) (p_it (m_q M) (m_t0 M) K) K) K), m_tx (m_rs M (p_st1 (m_q M) (p_it (m_q M) (m_t0 M) K) K) K), m_lt (m_rs M (p_st1 (m_q M) (p_it (m_q M) (m_t0 M) K) K) K), m_la (m_rs M (p_st1 (m_q M) (p_it (m_q M) (m_t0 M) K) K) K), m_to (m_rs M (p_st1 (m_q M) (p_it (m_q M) (m_t0 M) K) K) K), 0, m_at (m_rs M (p_st1 (m_q M) (p_it (m_q M) (m_t0 M) K) K) K), K + 0, m_kp (m_rs M (p_st1 (m_q M) (p_it (m_q M) (m_t0 M) K) K) K), m_hi (m_rs M (p_st1 (m_q M) (p_it (m_q M) (m_t0 M) K) K) K), m_kg (m_rs M (p_st1 (m_q M) (p_it (m_q M) (m_t0 M) K) K) K), m_cu (m_rs M (p_st1 (m_q M) (p_it (m_q M) (m_t0 M) K) K) K), m_lr (m_rs M (p_st1 (m_q M) (p_it (m_q M) (m_t0 M) K) K) K), m_ge (m_rs M (p_st1 (m_q M) (p_it (m_q M) (m_t0 M) K) K) K), m_rw (m_rs M (p_st1 (m_q M) (p_it (m_q M) (m_t0 M) K) K) K), m_rn (m_rs M (p_st1 (m_q M) (p_it (m_q M) (m_t0 M) K) K) K))) ⟨rfl, rfl, rfl, rfl, rfl, rfl, rfl, fun _ _ => rfl⟩) (by rfl) (by rfl))
    · intro k hk ih12
      have ha9 : i_a (p_it (m_q M) (m_t0 M) k) ≤ 96 := hle k (by omega)
      refine G.il X dX7_well_12 0 rfl ?_
      refine G.z_eq X (a := 1) dX7_well_13 (fun b13 => absurd b13 (by decide)) (fun b13 => ?_)
      refine G.al X dX7_well_16 1 rfl ?_
      refine G.get X fX7_78 dX7_well_17 0 0 rfl rfl rfl ?_
      refine G.top (b := nI (i_a (p_it (m_q M) (m_t0 M) k))) rfl ?_
      refine G.al X dX7_well_20 1 rfl ?_
      refine G.get X fX7_71 dX7_well_21 0 0 rfl rfl rfl ?_
      refine G.top (b := nI (m_tn M)) rfl ?_
      refine G.n_lt X (a := i_a (p_it (m_q M) (m_t0 M) k)) (b := m_tn M) (by omega) (by omega) dX7_well_24 (fun b24 => ?_) (fun b24 => ?_)
      · refine G.al X dX7_well_34 1 rfl ?_
        refine G.cvi X kX7_statement lX7_141 dX7_well_35 (tX7_statement_hd l D cI cW m S (m_rs M (p_it (m_q M) (m_t0 M) k) k) hn96 ha9 (show k < 48 from by omega) (hhv k hk)) ⟨Nat.le_of_ble_eq_true rfl, Nat.le_of_ble_eq_true rfl⟩ ⟨Nat.zero_le _, Nat.zero_le _⟩ [0] rfl ⟨rfl, rfl⟩ rfl rfl 0 0 rfl rfl rfl rfl (Nat.le_of_ble_eq_true rfl) (ff_cons (ml_fst _ _ _ _ _ _) (ff_nil)) (ws' := [ml m cI S (m_pst (m_rs M (p_it (m_q M) (m_t0 M) k) k) ((p_sm (m_q (m_rs M (p_it (m_q M) (m_t0 M) k) k)) (p_nx (m_q (m_rs M (p_it (m_q M) (m_t0 M) k) k)) (m_at (m_rs M (p_it (m_q M) (m_t0 M) k) k))) (m_at (m_rs M (p_it (m_q M) (m_t0 M) k) k) + 1) (m_to (m_rs M (p_it (m_q M) (m_t0 M) k) k)) (3 * m_st (m_rs M (p_it (m_q M) (m_t0 M) k) k))).2.1) (upd (m_lt (m_rs M (p_it (m_q M) (m_t0 M) k) k)) (m_st (m_rs M (p_it (m_q M) (m_t0 M) k) k)) (p_nx (m_q (m_rs M (p_it (m_q M) (m_t0 M) k) k)) (m_at (m_rs M (p_it (m_q M) (m_t0 M) k) k)))) (upd (m_la (m_rs M (p_it (m_q M) (m_t0 M) k) k)) (m_st (m_rs M (p_it (m_q M) (m_t0 M) k) k)) (nI (m_at (m_rs M (p_it (m_q M) (m_t0 M) k) k)))) ((p_sm (m_q (m_rs M (p_it (m_q M) (m_t0 M) k) k)) (p_nx (m_q (m_rs M (p_it (m_q M) (m_t0 M) k) k)) (m_at (m_rs M (p_it (m_q M) (m_t0 M) k) k))) (m_at (m_rs M (p_it (m_q M) (m_t0 M) k) k) + 1) (m_to (m_rs M (p_it (m_q M) (m_t0 M) k) k)) (3 * m_st (m_rs M (p_it (m_q M) (m_t0 M) k) k))).2.2) (m_st (m_rs M (p_it (m_q M) (m_t0 M) k) k)))]) rfl ?_
        refine G.top (b := 1) (show b2i (p_ss (m_q M) (p_it (m_q M) (m_t0 M) k) k).1 = 1 from by rw [hgd k hk]; rfl) ?_
        refine G.cg (ws' := [ml m cI S (m_rs M (p_st1 (m_q M) (p_it (m_q M) (m_t0 M) k) k) k)]) rfl rfl rfl ?_
        refine G.is X dX7_well_38 (by decide) (lv' := [(1, .int 1), (0, .ref (m 0))]) rfl ?_
        refine G.al X dX7_well_39 1 rfl ?_
        refine G.dupr X dX7_well_40 ?_
        refine G.get X fX7_100 dX7_well_41 0 0 rfl rfl rfl ?_
        refine G.top (b := nI k) rfl ?_
        refine G.il X dX7_well_44 0 rfl ?_
        refine G.z_eq X (a := 1) dX7_well_45 (fun b45 => absurd b45 (by decide)) (fun b45 => ?_)
        refine G.pu X dX7_well_48 ?_
        refine G.go X dX7_well_49 ?_
        refine G.nadd X (a := k) (b := 1) dX7_well_53 ?_
        refine G.puti X fX7_100 fe7 dX7_well_54 rfl rfl 0 0 rfl rfl (Nat.le_of_ble_eq_true rfl) (blk' := ml m cI S (m_rf (m_rs M (p_st1 (m_q M) (p_it (m_q M) (m_t0 M) k) k) k), m_co (m_rs M (p_st1 (m_q M) (p_it (m_q M) (m_t0 M) k) k) k), m_tx (m_rs M (p_st1 (m_q M) (p_it (m_q M) (m_t0 M) k) k) k), m_lt (m_rs M (p_st1 (m_q M) (p_it (m_q M) (m_t0 M) k) k) k), m_la (m_rs M (p_st1 (m_q M) (p_it (m_q M) (m_t0 M) k) k) k), m_to (m_rs M (p_st1 (m_q M) (p_it (m_q M) (m_t0 M) k) k) k), m_tn (m_rs M (p_st1 (m_q M) (p_it (m_q M) (m_t0 M) k) k) k), m_at (m_rs M (p_st1 (m_q M) (p_it (m_q M) (m_t0 M) k) k) k), k + 1, m_kp (m_rs M (p_st1 (m_q M) (p_it (m_q M) (m_t0 M) k) k) k), m_hi (m_rs M (p_st1 (m_q M) (p_it (m_q M) (m_t0 M) k) k) k), m_kg (m_rs M (p_st1 (m_q M) (p_it (m_q M) (m_t0 M) k) k) k), m_cu (m_rs M (p_st1 (m_q M) (p_it (m_q M) (m_t0 M) k) k) k), m_lr (m_rs M (p_st1 (m_q M) (p_it (m_q M) (m_t0 M) k) k) k), m_ge (m_rs M (p_st1 (m_q M) (p_it (m_q M) (m_t0 M) k) k) k), m_rw (m_rs M (p_st1 (m_q M) (p_it (m_q M) (m_t0 M) k) k) k), m_rn (m_rs M (p_st1 (m_q M) (p_it (m_q M) (m_t0 M) k) k) k))) rfl (ws' := [ml m cI S (m_rf (m_rs M (p_st1 (m_q M) (p_it (m_q M) (m_t0 M) k) k) k), m_co (m_rs M (p_st1 (m_q M) (p_it (m_q M) (m_t0 M) k) k) k), m_tx (m_rs M (p_st1 (m_q M) (p_it (m_q M) (m_t0 M) k) k) k), m_lt (m_rs M (p_st1 (m_q M) (p_it (m_q M) (m_t0 M) k) k) k), m_la (m_rs M (p_st1 (m_q M) (p_it (m_q M) (m_t0 M) k) k) k), m_to (m_rs M (p_st1 (m_q M) (p_it (m_q M) (m_t0 M) k) k) k), m_tn (m_rs M (p_st1 (m_q M) (p_it (m_q M) (m_t0 M) k) k) k), m_at (m_rs M (p_st1 (m_q M) (p_it (m_q M) (m_t0 M) k) k) k), k + 1, m_kp (m_rs M (p_st1 (m_q M) (p_it (m_q M) (m_t0 M) k) k) k), m_hi (m_rs M (p_st1 (m_q M) (p_it (m_q M) (m_t0 M) k) k) k), m_kg (m_rs M (p_st1 (m_q M) (p_it (m_q M) (m_t0 M) k) k) k), m_cu (m_rs M (p_st1 (m_q M) (p_it (m_q M) (m_t0 M) k) k) k), m_lr (m_rs M (p_st1 (m_q M) (p_it (m_q M) (m_t0 M) k) k) k), m_ge (m_rs M (p_st1 (m_q M) (p_it (m_q M) (m_t0 M) k) k) k), m_rw (m_rs M (p_st1 (m_q M) (p_it (m_q M) (m_t0 M) k) k) k), m_rn (m_rs M (p_st1 (m_q M) (p_it (m_q M) (m_t0 M) k) k) k))]) rfl ?_
        refine G.cg (ws' := [ml m cI S (m_rs M (p_st1 (m_q M) (p_it (m_q M) (m_t0 M) k) k) (k + 1))]) rfl rfl rfl ?_
        refine G.go X dX7_well_57 ?_
        exact ih12
      · refine G.al X dX7_well_27 1 rfl ?_
        refine G.get X fX7_100 dX7_well_28 0 0 rfl rfl rfl ?_
        refine G.top (b := nI k) rfl ?_
        refine G.nz_ne X (a := k) (by omega) dX7_well_31 (fun b31 => absurd b31 ((fun h => h ((hgo k hk).resolve_left b24)))) (fun b31 => ?_)
        refine G.al X dX7_well_34 1 rfl ?_
        refine G.cvi X kX7_statement lX7_141 dX7_well_35 (tX7_statement_hd l D cI cW m S (m_rs M (p_it (m_q M) (m_t0 M) k) k) hn96 ha9 (show k < 48 from by omega) (hhv k hk)) ⟨Nat.le_of_ble_eq_true rfl, Nat.le_of_ble_eq_true rfl⟩ ⟨Nat.zero_le _, Nat.zero_le _⟩ [0] rfl ⟨rfl, rfl⟩ rfl rfl 0 0 rfl rfl rfl rfl (Nat.le_of_ble_eq_true rfl) (ff_cons (ml_fst _ _ _ _ _ _) (ff_nil)) (ws' := [ml m cI S (m_pst (m_rs M (p_it (m_q M) (m_t0 M) k) k) ((p_sm (m_q (m_rs M (p_it (m_q M) (m_t0 M) k) k)) (p_nx (m_q (m_rs M (p_it (m_q M) (m_t0 M) k) k)) (m_at (m_rs M (p_it (m_q M) (m_t0 M) k) k))) (m_at (m_rs M (p_it (m_q M) (m_t0 M) k) k) + 1) (m_to (m_rs M (p_it (m_q M) (m_t0 M) k) k)) (3 * m_st (m_rs M (p_it (m_q M) (m_t0 M) k) k))).2.1) (upd (m_lt (m_rs M (p_it (m_q M) (m_t0 M) k) k)) (m_st (m_rs M (p_it (m_q M) (m_t0 M) k) k)) (p_nx (m_q (m_rs M (p_it (m_q M) (m_t0 M) k) k)) (m_at (m_rs M (p_it (m_q M) (m_t0 M) k) k)))) (upd (m_la (m_rs M (p_it (m_q M) (m_t0 M) k) k)) (m_st (m_rs M (p_it (m_q M) (m_t0 M) k) k)) (nI (m_at (m_rs M (p_it (m_q M) (m_t0 M) k) k)))) ((p_sm (m_q (m_rs M (p_it (m_q M) (m_t0 M) k) k)) (p_nx (m_q (m_rs M (p_it (m_q M) (m_t0 M) k) k)) (m_at (m_rs M (p_it (m_q M) (m_t0 M) k) k))) (m_at (m_rs M (p_it (m_q M) (m_t0 M) k) k) + 1) (m_to (m_rs M (p_it (m_q M) (m_t0 M) k) k)) (3 * m_st (m_rs M (p_it (m_q M) (m_t0 M) k) k))).2.2) (m_st (m_rs M (p_it (m_q M) (m_t0 M) k) k)))]) rfl ?_
        refine G.top (b := 1) (show b2i (p_ss (m_q M) (p_it (m_q M) (m_t0 M) k) k).1 = 1 from by rw [hgd k hk]; rfl) ?_
        refine G.cg (ws' := [ml m cI S (m_rs M (p_st1 (m_q M) (p_it (m_q M) (m_t0 M) k) k) k)]) rfl rfl rfl ?_
        refine G.is X dX7_well_38 (by decide) (lv' := [(1, .int 1), (0, .ref (m 0))]) rfl ?_
        refine G.al X dX7_well_39 1 rfl ?_
        refine G.dupr X dX7_well_40 ?_
        refine G.get X fX7_100 dX7_well_41 0 0 rfl rfl rfl ?_
        refine G.top (b := nI k) rfl ?_
        refine G.il X dX7_well_44 0 rfl ?_
        refine G.z_eq X (a := 1) dX7_well_45 (fun b45 => absurd b45 (by decide)) (fun b45 => ?_)
        refine G.pu X dX7_well_48 ?_
        refine G.go X dX7_well_49 ?_
        refine G.nadd X (a := k) (b := 1) dX7_well_53 ?_
        refine G.puti X fX7_100 fe7 dX7_well_54 rfl rfl 0 0 rfl rfl (Nat.le_of_ble_eq_true rfl) (blk' := ml m cI S (m_rf (m_rs M (p_st1 (m_q M) (p_it (m_q M) (m_t0 M) k) k) k), m_co (m_rs M (p_st1 (m_q M) (p_it (m_q M) (m_t0 M) k) k) k), m_tx (m_rs M (p_st1 (m_q M) (p_it (m_q M) (m_t0 M) k) k) k), m_lt (m_rs M (p_st1 (m_q M) (p_it (m_q M) (m_t0 M) k) k) k), m_la (m_rs M (p_st1 (m_q M) (p_it (m_q M) (m_t0 M) k) k) k), m_to (m_rs M (p_st1 (m_q M) (p_it (m_q M) (m_t0 M) k) k) k), m_tn (m_rs M (p_st1 (m_q M) (p_it (m_q M) (m_t0 M) k) k) k), m_at (m_rs M (p_st1 (m_q M) (p_it (m_q M) (m_t0 M) k) k) k), k + 1, m_kp (m_rs M (p_st1 (m_q M) (p_it (m_q M) (m_t0 M) k) k) k), m_hi (m_rs M (p_st1 (m_q M) (p_it (m_q M) (m_t0 M) k) k) k), m_kg (m_rs M (p_st1 (m_q M) (p_it (m_q M) (m_t0 M) k) k) k), m_cu (m_rs M (p_st1 (m_q M) (p_it (m_q M) (m_t0 M) k) k) k), m_lr (m_rs M (p_st1 (m_q M) (p_it (m_q M) (m_t0 M) k) k) k), m_ge (m_rs M (p_st1 (m_q M) (p_it (m_q M) (m_t0 M) k) k) k), m_rw (m_rs M (p_st1 (m_q M) (p_it (m_q M) (m_t0 M) k) k) k), m_rn (m_rs M (p_st1 (m_q M) (p_it (m_q M) (m_t0 M) k) k) k))) rfl (ws' := [ml m cI S (m_rf (m_rs M (p_st1 (m_q M) (p_it (m_q M) (m_t0 M) k) k) k), m_co (m_rs M (p_st1 (m_q M) (p_it (m_q M) (m_t0 M) k) k) k), m_tx (m_rs M (p_st1 (m_q M) (p_it (m_q M) (m_t0 M) k) k) k), m_lt (m_rs M (p_st1 (m_q M) (p_it (m_q M) (m_t0 M) k) k) k), m_la (m_rs M (p_st1 (m_q M) (p_it (m_q M) (m_t0 M) k) k) k), m_to (m_rs M (p_st1 (m_q M) (p_it (m_q M) (m_t0 M) k) k) k), m_tn (m_rs M (p_st1 (m_q M) (p_it (m_q M) (m_t0 M) k) k) k), m_at (m_rs M (p_st1 (m_q M) (p_it (m_q M) (m_t0 M) k) k) k), k + 1, m_kp (m_rs M (p_st1 (m_q M) (p_it (m_q M) (m_t0 M) k) k) k), m_hi (m_rs M (p_st1 (m_q M) (p_it (m_q M) (m_t0 M) k) k) k), m_kg (m_rs M (p_st1 (m_q M) (p_it (m_q M) (m_t0 M) k) k) k), m_cu (m_rs M (p_st1 (m_q M) (p_it (m_q M) (m_t0 M) k) k) k), m_lr (m_rs M (p_st1 (m_q M) (p_it (m_q M) (m_t0 M) k) k) k), m_ge (m_rs M (p_st1 (m_q M) (p_it (m_q M) (m_t0 M) k) k) k), m_rw (m_rs M (p_st1 (m_q M) (p_it (m_q M) (m_t0 M) k) k) k), m_rn (m_rs M (p_st1 (m_q M) (p_it (m_q M) (m_t0 M) k) k) k))]) rfl ?_
        refine G.cg (ws' := [ml m cI S (m_rs M (p_st1 (m_q M) (p_it (m_q M) (m_t0 M) k) k) (k + 1))]) rfl rfl rfl ?_
        refine G.go X dX7_well_57 ?_
        exact ih12
  have L12 := L12 0 (Nat.zero_le _)
  exact L12

set_option maxRecDepth 20000 in
theorem tX7_well_ok (l : Launch) (D : va_G) (cI cW : ClassId) (m : Nat → Nat) (S : WS) (M : MS) (K : Nat) (hn96 : m_tn M ≤ 96) (hco : m_co M = false) (hK : K < 48) (hle : ∀ k, k ≤ K → i_a (p_it (m_q M) (m_t0 M) k) ≤ 96) (hgo : ∀ k, k < K → (i_a (p_it (m_q M) (m_t0 M) k) < m_tn M ∨ k = 0)) (hhv : ∀ k, k < K → p_hv (p_nx (m_q M) (i_a (p_it (m_q M) (m_t0 M) k)))) (hgd : ∀ k, k < K → (p_ss (m_q M) (p_it (m_q M) (m_t0 M) k) k).1 = true) (hend : ¬ i_a (p_it (m_q M) (m_t0 M) K) < m_tn M) (hK0 : 0 < K) (hO : ∀ k, k ≤ K → Ok (p_go (p_it (m_q M) (m_t0 M) K) S k)) (hcm : ∀ k, k < K → (p_c1 (p_it (m_q M) (m_t0 M) K) k (p_go (p_it (m_q M) (m_t0 M) K) S k)).1 = true) : CT l D cI cW yX7_well cX7_well 3 (some .int) ⟨7, 0, 0, 151⟩ [.ref (m 0)] ([ml m cI S M]) (PIE (nI (K)) (fun M9 : {M9 : MS // Mq 64 (m_tns M 0) M9} => [ml m cI (p_go (p_it (m_q M) (m_t0 M) K) S K) M9.1])) := by
  refine CT.of RX7 rfl (by decide +kernel) (Nat.le_of_ble_eq_true rfl) [(0, .ref (m 0))] rfl (fun x X Rr hnm => ?_)
  refine G.al X dX7_well_0 0 rfl ?_
  refine G.pu X dX7_well_1 ?_
  refine G.puti X fX7_78 fe7 dX7_well_2 rfl rfl 0 0 rfl rfl (Nat.le_of_ble_eq_true rfl) (blk' := ml m cI S (m_rf M, m_co M, m_tx M, m_lt M, m_la M, m_to M, m_tn M, 0, m_st M, m_kp M, m_hi M, m_kg M, m_cu M, m_lr M, m_ge M, m_rw M, m_rn M)) rfl (ws' := [ml m cI S (m_rf M, m_co M, m_tx M, m_lt M, m_la M, m_to M, m_tn M, 0, m_st M, m_kp M, m_hi M, m_kg M, m_cu M, m_lr M, m_ge M, m_rw M, m_rn M)]) rfl ?_
  refine G.al X dX7_well_5 0 rfl ?_
  refine G.pu X dX7_well_6 ?_
  refine G.puti X fX7_100 fe7 dX7_well_7 rfl rfl 0 0 rfl rfl (Nat.le_of_ble_eq_true rfl) (blk' := ml m cI S (m_rf M, m_co M, m_tx M, m_lt M, m_la M, m_to M, m_tn M, 0, 0, m_kp M, m_hi M, m_kg M, m_cu M, m_lr M, m_ge M, m_rw M, m_rn M)) rfl (ws' := [ml m cI S (m_rf M, m_co M, m_tx M, m_lt M, m_la M, m_to M, m_tn M, 0, 0, m_kp M, m_hi M, m_kg M, m_cu M, m_lr M, m_ge M, m_rw M, m_rn M)]) rfl ?_
  refine G.cg (ws' := [ml m cI S (m_rs M (m_t0 M) 0)]) rfl rfl rfl ?_
  refine G.pu X dX7_well_10 ?_
  refine G.is X dX7_well_11 (by decide) (lv' := [(1, .int 1), (0, .ref (m 0))]) rfl ?_
  have L12 : ∀ k, k ≤ K → G x 0 0 ([ml m cI S (m_rs M (p_it (m_q M) (m_t0 M) k) k)]) 12 [(1, .int 1), (0, .ref (m 0))] [] := by
    refine loop_dn K _ ?_ ?_
    · have ha9 : i_a (p_it (m_q M) (m_t0 M) K) ≤ 96 := hle K (by omega)
      refine G.il X dX7_well_12 0 rfl ?_
      refine G.z_eq X (a := 1) dX7_well_13 (fun b13 => absurd b13 (by decide)) (fun b13 => ?_)
      refine G.al X dX7_well_16 1 rfl ?_
      refine G.get X fX7_78 dX7_well_17 0 0 rfl rfl rfl ?_
      refine G.top (b := nI (i_a (p_it (m_q M) (m_t0 M) K))) rfl ?_
      refine G.al X dX7_well_20 1 rfl ?_
      refine G.get X fX7_71 dX7_well_21 0 0 rfl rfl rfl ?_
      refine G.top (b := nI (m_tn M)) rfl ?_
      refine G.n_lt X (a := i_a (p_it (m_q M) (m_t0 M) K)) (b := m_tn M) (by omega) (by omega) dX7_well_24 (fun b24 => absurd b24 (hend)) (fun b24 => ?_)
      refine G.al X dX7_well_27 1 rfl ?_
      refine G.get X fX7_100 dX7_well_28 0 0 rfl rfl rfl ?_
      refine G.top (b := nI K) rfl ?_
      refine G.nz_ne X (a := K) (by omega) dX7_well_31 (fun b31 => ?_) (fun b31 => absurd b31 (by omega))
      refine G.al X dX7_well_60 1 rfl ?_
      refine G.pu X dX7_well_61 ?_
      refine G.puti X fX7_71 fe7 dX7_well_62 rfl rfl 0 0 rfl rfl (Nat.le_of_ble_eq_true rfl) (blk' := ml m cI S (m_rf (m_rs M (p_it (m_q M) (m_t0 M) K) K), m_co (m_rs M (p_it (m_q M) (m_t0 M) K) K), m_tx (m_rs M (p_it (m_q M) (m_t0 M) K) K), m_lt (m_rs M (p_it (m_q M) (m_t0 M) K) K), m_la (m_rs M (p_it (m_q M) (m_t0 M) K) K), m_to (m_rs M (p_it (m_q M) (m_t0 M) K) K), 0, m_at (m_rs M (p_it (m_q M) (m_t0 M) K) K), m_st (m_rs M (p_it (m_q M) (m_t0 M) K) K), m_kp (m_rs M (p_it (m_q M) (m_t0 M) K) K), m_hi (m_rs M (p_it (m_q M) (m_t0 M) K) K), m_kg (m_rs M (p_it (m_q M) (m_t0 M) K) K), m_cu (m_rs M (p_it (m_q M) (m_t0 M) K) K), m_lr (m_rs M (p_it (m_q M) (m_t0 M) K) K), m_ge (m_rs M (p_it (m_q M) (m_t0 M) K) K), m_rw (m_rs M (p_it (m_q M) (m_t0 M) K) K), m_rn (m_rs M (p_it (m_q M) (m_t0 M) K) K))) rfl (ws' := [ml m cI S (m_rf (m_rs M (p_it (m_q M) (m_t0 M) K) K), m_co (m_rs M (p_it (m_q M) (m_t0 M) K) K), m_tx (m_rs M (p_it (m_q M) (m_t0 M) K) K), m_lt (m_rs M (p_it (m_q M) (m_t0 M) K) K), m_la (m_rs M (p_it (m_q M) (m_t0 M) K) K), m_to (m_rs M (p_it (m_q M) (m_t0 M) K) K), 0, m_at (m_rs M (p_it (m_q M) (m_t0 M) K) K), m_st (m_rs M (p_it (m_q M) (m_t0 M) K) K), m_kp (m_rs M (p_it (m_q M) (m_t0 M) K) K), m_hi (m_rs M (p_it (m_q M) (m_t0 M) K) K), m_kg (m_rs M (p_it (m_q M) (m_t0 M) K) K), m_cu (m_rs M (p_it (m_q M) (m_t0 M) K) K), m_lr (m_rs M (p_it (m_q M) (m_t0 M) K) K), m_ge (m_rs M (p_it (m_q M) (m_t0 M) K) K), m_rw (m_rs M (p_it (m_q M) (m_t0 M) K) K), m_rn (m_rs M (p_it (m_q M) (m_t0 M) K) K))]) rfl ?_
      refine G.cg (ws' := [ml m cI S (m_tns (m_rs M (p_it (m_q M) (m_t0 M) K) K) 0)]) rfl rfl rfl ?_
      refine G.il X dX7_well_65 0 rfl ?_
      refine G.z_ne X (a := 1) dX7_well_66 (fun b66 => ?_) (fun b66 => absurd b66 (by decide))
      refine G.al X dX7_well_78 1 rfl ?_
      refine G.pu X dX7_well_79 ?_
      refine G.pu X dX7_well_80 ?_
      refine G.cvv X kX7_passesAll lX7_145 dX7_well_81 (tX7_passesAll_keep1 l D cI cW m S (m_tns (m_rs M (p_it (m_q M) (m_t0 M) K) K) 0)) ⟨Nat.le_of_ble_eq_true rfl, Nat.le_of_ble_eq_true rfl⟩ ⟨Nat.zero_le _, Nat.zero_le _⟩ [0] rfl ⟨rfl, rfl⟩ rfl rfl 0 0 rfl rfl rfl rfl (Nat.le_of_ble_eq_true rfl) (ff_cons (ml_fst _ _ _ _ _ _) (ff_nil)) (ws' := [ml m cI S (m_kpa (m_tns (m_rs M (p_it (m_q M) (m_t0 M) K) K) 0) 64 S)]) rfl ?_
      refine G.pu X dX7_well_84 ?_
      refine G.is X dX7_well_85 (by decide) (lv' := [(2, .int 0), (1, .int 1), (0, .ref (m 0))]) rfl ?_
      have L86 : ∀ k, k ≤ K → G x 0 0 ([ml m cI (p_go (p_it (m_q M) (m_t0 M) K) S k) (m_kpa (m_tns (m_rs M (p_it (m_q M) (m_t0 M) K) K) 0) 64 S)]) 86 [(2, .int (nI k)), (1, .int 1), (0, .ref (m 0))] [] := by
        refine loop_dn K _ ?_ ?_
        · refine G.il X dX7_well_86 0 rfl ?_
          refine G.al X dX7_well_87 2 rfl ?_
          refine G.get X fX7_100 dX7_well_88 0 0 rfl rfl rfl ?_
          refine G.top (b := nI K) rfl ?_
          refine G.n_ge X (a := K) (b := K) (by omega) (by omega) dX7_well_91 (fun b91 => ?_) (fun b91 => absurd b91 (by omega))
          refine G.al X dX7_well_128 2 rfl ?_
          refine G.get X fX7_100 dX7_well_129 0 0 rfl rfl rfl ?_
          exact G.iret X Rr (v := nI (m_st (m_kpa (m_tns (m_rs M (p_it (m_q M) (m_t0 M) K) K) 0) 64 S))) dX7_well_132 (pie_mk (qk (b := 64) (M := m_tns M 0) (N := m_kpa (m_tns (m_rs M (p_it (m_q M) (m_t0 M) K) K) 0) 64 S) ⟨rfl, rfl, rfl, rfl, rfl, rfl, rfl, fun j9 hj9 => kpall_out (Or.inl hj9)⟩) (by rfl) (by rfl))
        · intro k hk ih86
          refine G.il X dX7_well_86 0 rfl ?_
          refine G.al X dX7_well_87 2 rfl ?_
          refine G.get X fX7_100 dX7_well_88 0 0 rfl rfl rfl ?_
          refine G.top (b := nI K) rfl ?_
          refine G.n_ge X (a := k) (b := K) (by omega) (by omega) dX7_well_91 (fun b91 => absurd b91 (by omega)) (fun b91 => ?_)
          refine G.al X dX7_well_94 2 rfl ?_
          refine G.il X dX7_well_95 0 rfl ?_
          refine G.cvi X kX7_comes lX7_149 dX7_well_96 (tX7_comes l D cI cW m (p_go (p_it (m_q M) (m_t0 M) K) S k) (m_kpa (m_tns (m_rs M (p_it (m_q M) (m_t0 M) K) K) 0) 64 S) k (hO k (by omega)) hco (by omega)) ⟨Nat.le_of_ble_eq_true rfl, Nat.le_of_ble_eq_true rfl⟩ ⟨Nat.zero_le _, Nat.zero_le _⟩ [0] rfl ⟨rfl, rfl⟩ rfl rfl 0 0 rfl rfl rfl rfl (Nat.le_of_ble_eq_true rfl) (ff_cons (ml_fst _ _ _ _ _ _) (ff_nil)) (ws' := [ml m cI ((p_com (m_lt (m_kpa (m_tns (m_rs M (p_it (m_q M) (m_t0 M) K) K) 0) 64 S) k) (m_to (m_kpa (m_tns (m_rs M (p_it (m_q M) (m_t0 M) K) K) 0) 64 S) (3 * k)) (m_to (m_kpa (m_tns (m_rs M (p_it (m_q M) (m_t0 M) K) K) 0) 64 S) (3 * k + 1)) (m_to (m_kpa (m_tns (m_rs M (p_it (m_q M) (m_t0 M) K) K) 0) 64 S) (3 * k + 2)) (p_go (p_it (m_q M) (m_t0 M) K) S k)).2) (m_kpa (m_tns (m_rs M (p_it (m_q M) (m_t0 M) K) K) 0) 64 S)]) rfl ?_
          refine G.top (b := b2i (p_c1 (p_it (m_q M) (m_t0 M) K) k (p_go (p_it (m_q M) (m_t0 M) K) S k)).1) rfl ?_
          refine G.cg (ws' := [ml m cI ((p_c1 (p_it (m_q M) (m_t0 M) K) k (p_go (p_it (m_q M) (m_t0 M) K) S k)).2) (m_kpa (m_tns (m_rs M (p_it (m_q M) (m_t0 M) K) K) 0) 64 S)]) rfl rfl rfl ?_
          refine G.b_eq X dX7_well_99 (fun b99 => absurd (Eq.trans (Eq.symm (hcm k hk)) b99) (by decide)) (fun b99 => ?_)
          refine G.go X dX7_well_102 ?_
          refine G.iinc X dX7_well_122 0 rfl (v' := nI (k + 1)) (nI_inc k) (by decide) (lv' := [(2, .int (nI (k + 1))), (1, .int 1), (0, .ref (m 0))]) rfl ?_
          refine G.go X dX7_well_125 ?_
          exact ih86
      have L86 := L86 0 (Nat.zero_le _)
      exact L86
    · intro k hk ih12
      have ha9 : i_a (p_it (m_q M) (m_t0 M) k) ≤ 96 := hle k (by omega)
      refine G.il X dX7_well_12 0 rfl ?_
      refine G.z_eq X (a := 1) dX7_well_13 (fun b13 => absurd b13 (by decide)) (fun b13 => ?_)
      refine G.al X dX7_well_16 1 rfl ?_
      refine G.get X fX7_78 dX7_well_17 0 0 rfl rfl rfl ?_
      refine G.top (b := nI (i_a (p_it (m_q M) (m_t0 M) k))) rfl ?_
      refine G.al X dX7_well_20 1 rfl ?_
      refine G.get X fX7_71 dX7_well_21 0 0 rfl rfl rfl ?_
      refine G.top (b := nI (m_tn M)) rfl ?_
      refine G.n_lt X (a := i_a (p_it (m_q M) (m_t0 M) k)) (b := m_tn M) (by omega) (by omega) dX7_well_24 (fun b24 => ?_) (fun b24 => ?_)
      · refine G.al X dX7_well_34 1 rfl ?_
        refine G.cvi X kX7_statement lX7_141 dX7_well_35 (tX7_statement_hd l D cI cW m S (m_rs M (p_it (m_q M) (m_t0 M) k) k) hn96 ha9 (show k < 48 from by omega) (hhv k hk)) ⟨Nat.le_of_ble_eq_true rfl, Nat.le_of_ble_eq_true rfl⟩ ⟨Nat.zero_le _, Nat.zero_le _⟩ [0] rfl ⟨rfl, rfl⟩ rfl rfl 0 0 rfl rfl rfl rfl (Nat.le_of_ble_eq_true rfl) (ff_cons (ml_fst _ _ _ _ _ _) (ff_nil)) (ws' := [ml m cI S (m_pst (m_rs M (p_it (m_q M) (m_t0 M) k) k) ((p_sm (m_q (m_rs M (p_it (m_q M) (m_t0 M) k) k)) (p_nx (m_q (m_rs M (p_it (m_q M) (m_t0 M) k) k)) (m_at (m_rs M (p_it (m_q M) (m_t0 M) k) k))) (m_at (m_rs M (p_it (m_q M) (m_t0 M) k) k) + 1) (m_to (m_rs M (p_it (m_q M) (m_t0 M) k) k)) (3 * m_st (m_rs M (p_it (m_q M) (m_t0 M) k) k))).2.1) (upd (m_lt (m_rs M (p_it (m_q M) (m_t0 M) k) k)) (m_st (m_rs M (p_it (m_q M) (m_t0 M) k) k)) (p_nx (m_q (m_rs M (p_it (m_q M) (m_t0 M) k) k)) (m_at (m_rs M (p_it (m_q M) (m_t0 M) k) k)))) (upd (m_la (m_rs M (p_it (m_q M) (m_t0 M) k) k)) (m_st (m_rs M (p_it (m_q M) (m_t0 M) k) k)) (nI (m_at (m_rs M (p_it (m_q M) (m_t0 M) k) k)))) ((p_sm (m_q (m_rs M (p_it (m_q M) (m_t0 M) k) k)) (p_nx (m_q (m_rs M (p_it (m_q M) (m_t0 M) k) k)) (m_at (m_rs M (p_it (m_q M) (m_t0 M) k) k))) (m_at (m_rs M (p_it (m_q M) (m_t0 M) k) k) + 1) (m_to (m_rs M (p_it (m_q M) (m_t0 M) k) k)) (3 * m_st (m_rs M (p_it (m_q M) (m_t0 M) k) k))).2.2) (m_st (m_rs M (p_it (m_q M) (m_t0 M) k) k)))]) rfl ?_
        refine G.top (b := 1) (show b2i (p_ss (m_q M) (p_it (m_q M) (m_t0 M) k) k).1 = 1 from by rw [hgd k hk]; rfl) ?_
        refine G.cg (ws' := [ml m cI S (m_rs M (p_st1 (m_q M) (p_it (m_q M) (m_t0 M) k) k) k)]) rfl rfl rfl ?_
        refine G.is X dX7_well_38 (by decide) (lv' := [(1, .int 1), (0, .ref (m 0))]) rfl ?_
        refine G.al X dX7_well_39 1 rfl ?_
        refine G.dupr X dX7_well_40 ?_
        refine G.get X fX7_100 dX7_well_41 0 0 rfl rfl rfl ?_
        refine G.top (b := nI k) rfl ?_
        refine G.il X dX7_well_44 0 rfl ?_
        refine G.z_eq X (a := 1) dX7_well_45 (fun b45 => absurd b45 (by decide)) (fun b45 => ?_)
        refine G.pu X dX7_well_48 ?_
        refine G.go X dX7_well_49 ?_
        refine G.nadd X (a := k) (b := 1) dX7_well_53 ?_
        refine G.puti X fX7_100 fe7 dX7_well_54 rfl rfl 0 0 rfl rfl (Nat.le_of_ble_eq_true rfl) (blk' := ml m cI S (m_rf (m_rs M (p_st1 (m_q M) (p_it (m_q M) (m_t0 M) k) k) k), m_co (m_rs M (p_st1 (m_q M) (p_it (m_q M) (m_t0 M) k) k) k), m_tx (m_rs M (p_st1 (m_q M) (p_it (m_q M) (m_t0 M) k) k) k), m_lt (m_rs M (p_st1 (m_q M) (p_it (m_q M) (m_t0 M) k) k) k), m_la (m_rs M (p_st1 (m_q M) (p_it (m_q M) (m_t0 M) k) k) k), m_to (m_rs M (p_st1 (m_q M) (p_it (m_q M) (m_t0 M) k) k) k), m_tn (m_rs M (p_st1 (m_q M) (p_it (m_q M) (m_t0 M) k) k) k), m_at (m_rs M (p_st1 (m_q M) (p_it (m_q M) (m_t0 M) k) k) k), k + 1, m_kp (m_rs M (p_st1 (m_q M) (p_it (m_q M) (m_t0 M) k) k) k), m_hi (m_rs M (p_st1 (m_q M) (p_it (m_q M) (m_t0 M) k) k) k), m_kg (m_rs M (p_st1 (m_q M) (p_it (m_q M) (m_t0 M) k) k) k), m_cu (m_rs M (p_st1 (m_q M) (p_it (m_q M) (m_t0 M) k) k) k), m_lr (m_rs M (p_st1 (m_q M) (p_it (m_q M) (m_t0 M) k) k) k), m_ge (m_rs M (p_st1 (m_q M) (p_it (m_q M) (m_t0 M) k) k) k), m_rw (m_rs M (p_st1 (m_q M) (p_it (m_q M) (m_t0 M) k) k) k), m_rn (m_rs M (p_st1 (m_q M) (p_it (m_q M) (m_t0 M) k) k) k))) rfl (ws' := [ml m cI S (m_rf (m_rs M (p_st1 (m_q M) (p_it (m_q M) (m_t0 M) k) k) k), m_co (m_rs M (p_st1 (m_q M) (p_it (m_q M) (m_t0 M) k) k) k), m_tx (m_rs M (p_st1 (m_q M) (p_it (m_q M) (m_t0 M) k) k) k), m_lt (m_rs M (p_st1 (m_q M) (p_it (m_q M) (m_t0 M) k) k) k), m_la (m_rs M (p_st1 (m_q M) (p_it (m_q M) (m_t0 M) k) k) k), m_to (m_rs M (p_st1 (m_q M) (p_it (m_q M) (m_t0 M) k) k) k), m_tn (m_rs M (p_st1 (m_q M) (p_it (m_q M) (m_t0 M) k) k) k), m_at (m_rs M (p_st1 (m_q M) (p_it (m_q M) (m_t0 M) k) k) k), k + 1, m_kp (m_rs M (p_st1 (m_q M) (p_it (m_q M) (m_t0 M) k) k) k), m_hi (m_rs M (p_st1 (m_q M) (p_it (m_q M) (m_t0 M) k) k) k), m_kg (m_rs M (p_st1 (m_q M) (p_it (m_q M) (m_t0 M) k) k) k), m_cu (m_rs M (p_st1 (m_q M) (p_it (m_q M) (m_t0 M) k) k) k), m_lr (m_rs M (p_st1 (m_q M) (p_it (m_q M) (m_t0 M) k) k) k), m_ge (m_rs M (p_st1 (m_q M) (p_it (m_q M) (m_t0 M) k) k) k), m_rw (m_rs M (p_st1 (m_q M) (p_it (m_q M) (m_t0 M) k) k) k), m_rn (m_rs M (p_st1 (m_q M) (p_it (m_q M) (m_t0 M) k) k) k))]) rfl ?_
        refine G.cg (ws' := [ml m cI S (m_rs M (p_st1 (m_q M) (p_it (m_q M) (m_t0 M) k) k) (k + 1))]) rfl rfl rfl ?_
        refine G.go X dX7_well_57 ?_
        exact ih12
      · refine G.al X dX7_well_27 1 rfl ?_
        refine G.get X fX7_100 dX7_well_28 0 0 rfl rfl rfl ?_
        refine G.top (b := nI k) rfl ?_
        refine G.nz_ne X (a := k) (by omega) dX7_well_31 (fun b31 => absurd b31 ((fun h => h ((hgo k hk).resolve_left b24)))) (fun b31 => ?_)
        refine G.al X dX7_well_34 1 rfl ?_
        refine G.cvi X kX7_statement lX7_141 dX7_well_35 (tX7_statement_hd l D cI cW m S (m_rs M (p_it (m_q M) (m_t0 M) k) k) hn96 ha9 (show k < 48 from by omega) (hhv k hk)) ⟨Nat.le_of_ble_eq_true rfl, Nat.le_of_ble_eq_true rfl⟩ ⟨Nat.zero_le _, Nat.zero_le _⟩ [0] rfl ⟨rfl, rfl⟩ rfl rfl 0 0 rfl rfl rfl rfl (Nat.le_of_ble_eq_true rfl) (ff_cons (ml_fst _ _ _ _ _ _) (ff_nil)) (ws' := [ml m cI S (m_pst (m_rs M (p_it (m_q M) (m_t0 M) k) k) ((p_sm (m_q (m_rs M (p_it (m_q M) (m_t0 M) k) k)) (p_nx (m_q (m_rs M (p_it (m_q M) (m_t0 M) k) k)) (m_at (m_rs M (p_it (m_q M) (m_t0 M) k) k))) (m_at (m_rs M (p_it (m_q M) (m_t0 M) k) k) + 1) (m_to (m_rs M (p_it (m_q M) (m_t0 M) k) k)) (3 * m_st (m_rs M (p_it (m_q M) (m_t0 M) k) k))).2.1) (upd (m_lt (m_rs M (p_it (m_q M) (m_t0 M) k) k)) (m_st (m_rs M (p_it (m_q M) (m_t0 M) k) k)) (p_nx (m_q (m_rs M (p_it (m_q M) (m_t0 M) k) k)) (m_at (m_rs M (p_it (m_q M) (m_t0 M) k) k)))) (upd (m_la (m_rs M (p_it (m_q M) (m_t0 M) k) k)) (m_st (m_rs M (p_it (m_q M) (m_t0 M) k) k)) (nI (m_at (m_rs M (p_it (m_q M) (m_t0 M) k) k)))) ((p_sm (m_q (m_rs M (p_it (m_q M) (m_t0 M) k) k)) (p_nx (m_q (m_rs M (p_it (m_q M) (m_t0 M) k) k)) (m_at (m_rs M (p_it (m_q M) (m_t0 M) k) k))) (m_at (m_rs M (p_it (m_q M) (m_t0 M) k) k) + 1) (m_to (m_rs M (p_it (m_q M) (m_t0 M) k) k)) (3 * m_st (m_rs M (p_it (m_q M) (m_t0 M) k) k))).2.2) (m_st (m_rs M (p_it (m_q M) (m_t0 M) k) k)))]) rfl ?_
        refine G.top (b := 1) (show b2i (p_ss (m_q M) (p_it (m_q M) (m_t0 M) k) k).1 = 1 from by rw [hgd k hk]; rfl) ?_
        refine G.cg (ws' := [ml m cI S (m_rs M (p_st1 (m_q M) (p_it (m_q M) (m_t0 M) k) k) k)]) rfl rfl rfl ?_
        refine G.is X dX7_well_38 (by decide) (lv' := [(1, .int 1), (0, .ref (m 0))]) rfl ?_
        refine G.al X dX7_well_39 1 rfl ?_
        refine G.dupr X dX7_well_40 ?_
        refine G.get X fX7_100 dX7_well_41 0 0 rfl rfl rfl ?_
        refine G.top (b := nI k) rfl ?_
        refine G.il X dX7_well_44 0 rfl ?_
        refine G.z_eq X (a := 1) dX7_well_45 (fun b45 => absurd b45 (by decide)) (fun b45 => ?_)
        refine G.pu X dX7_well_48 ?_
        refine G.go X dX7_well_49 ?_
        refine G.nadd X (a := k) (b := 1) dX7_well_53 ?_
        refine G.puti X fX7_100 fe7 dX7_well_54 rfl rfl 0 0 rfl rfl (Nat.le_of_ble_eq_true rfl) (blk' := ml m cI S (m_rf (m_rs M (p_st1 (m_q M) (p_it (m_q M) (m_t0 M) k) k) k), m_co (m_rs M (p_st1 (m_q M) (p_it (m_q M) (m_t0 M) k) k) k), m_tx (m_rs M (p_st1 (m_q M) (p_it (m_q M) (m_t0 M) k) k) k), m_lt (m_rs M (p_st1 (m_q M) (p_it (m_q M) (m_t0 M) k) k) k), m_la (m_rs M (p_st1 (m_q M) (p_it (m_q M) (m_t0 M) k) k) k), m_to (m_rs M (p_st1 (m_q M) (p_it (m_q M) (m_t0 M) k) k) k), m_tn (m_rs M (p_st1 (m_q M) (p_it (m_q M) (m_t0 M) k) k) k), m_at (m_rs M (p_st1 (m_q M) (p_it (m_q M) (m_t0 M) k) k) k), k + 1, m_kp (m_rs M (p_st1 (m_q M) (p_it (m_q M) (m_t0 M) k) k) k), m_hi (m_rs M (p_st1 (m_q M) (p_it (m_q M) (m_t0 M) k) k) k), m_kg (m_rs M (p_st1 (m_q M) (p_it (m_q M) (m_t0 M) k) k) k), m_cu (m_rs M (p_st1 (m_q M) (p_it (m_q M) (m_t0 M) k) k) k), m_lr (m_rs M (p_st1 (m_q M) (p_it (m_q M) (m_t0 M) k) k) k), m_ge (m_rs M (p_st1 (m_q M) (p_it (m_q M) (m_t0 M) k) k) k), m_rw (m_rs M (p_st1 (m_q M) (p_it (m_q M) (m_t0 M) k) k) k), m_rn (m_rs M (p_st1 (m_q M) (p_it (m_q M) (m_t0 M) k) k) k))) rfl (ws' := [ml m cI S (m_rf (m_rs M (p_st1 (m_q M) (p_it (m_q M) (m_t0 M) k) k) k), m_co (m_rs M (p_st1 (m_q M) (p_it (m_q M) (m_t0 M) k) k) k), m_tx (m_rs M (p_st1 (m_q M) (p_it (m_q M) (m_t0 M) k) k) k), m_lt (m_rs M (p_st1 (m_q M) (p_it (m_q M) (m_t0 M) k) k) k), m_la (m_rs M (p_st1 (m_q M) (p_it (m_q M) (m_t0 M) k) k) k), m_to (m_rs M (p_st1 (m_q M) (p_it (m_q M) (m_t0 M) k) k) k), m_tn (m_rs M (p_st1 (m_q M) (p_it (m_q M) (m_t0 M) k) k) k), m_at (m_rs M (p_st1 (m_q M) (p_it (m_q M) (m_t0 M) k) k) k), k + 1, m_kp (m_rs M (p_st1 (m_q M) (p_it (m_q M) (m_t0 M) k) k) k), m_hi (m_rs M (p_st1 (m_q M) (p_it (m_q M) (m_t0 M) k) k) k), m_kg (m_rs M (p_st1 (m_q M) (p_it (m_q M) (m_t0 M) k) k) k), m_cu (m_rs M (p_st1 (m_q M) (p_it (m_q M) (m_t0 M) k) k) k), m_lr (m_rs M (p_st1 (m_q M) (p_it (m_q M) (m_t0 M) k) k) k), m_ge (m_rs M (p_st1 (m_q M) (p_it (m_q M) (m_t0 M) k) k) k), m_rw (m_rs M (p_st1 (m_q M) (p_it (m_q M) (m_t0 M) k) k) k), m_rn (m_rs M (p_st1 (m_q M) (p_it (m_q M) (m_t0 M) k) k) k))]) rfl ?_
        refine G.cg (ws' := [ml m cI S (m_rs M (p_st1 (m_q M) (p_it (m_q M) (m_t0 M) k) k) (k + 1))]) rfl rfl rfl ?_
        refine G.go X dX7_well_57 ?_
        exact ih12
  have L12 := L12 0 (Nat.zero_le _)
  exact L12

set_option maxRecDepth 20000 in
theorem tX7_well_bs (l : Launch) (D : va_G) (cI cW : ClassId) (m : Nat → Nat) (S : WS) (M : MS) (K j : Nat) (hn96 : m_tn M ≤ 96) (hco : m_co M = false) (hK : K < 48) (hle : ∀ k, k ≤ K → i_a (p_it (m_q M) (m_t0 M) k) ≤ 96) (hgo : ∀ k, k < K → (i_a (p_it (m_q M) (m_t0 M) k) < m_tn M ∨ k = 0)) (hhv : ∀ k, k < K → p_hv (p_nx (m_q M) (i_a (p_it (m_q M) (m_t0 M) k)))) (hgd : ∀ k, k < K → (p_ss (m_q M) (p_it (m_q M) (m_t0 M) k) k).1 = true) (hend : ¬ i_a (p_it (m_q M) (m_t0 M) K) < m_tn M) (hK0 : 0 < K) (hj : j < K) (hO : ∀ k, k ≤ j → Ok (p_go (p_it (m_q M) (m_t0 M) K) S k)) (hcm : ∀ k, k < j → (p_c1 (p_it (m_q M) (m_t0 M) K) k (p_go (p_it (m_q M) (m_t0 M) K) S k)).1 = true) (hbd : (p_c1 (p_it (m_q M) (m_t0 M) K) j (p_go (p_it (m_q M) (m_t0 M) K) S j)).1 = false) : CT l D cI cW yX7_well cX7_well 3 (some .int) ⟨7, 0, 0, 151⟩ [.ref (m 0)] ([ml m cI S M]) (PIE (-2000 - i_la (p_it (m_q M) (m_t0 M) K) j) (fun M9 : {M9 : MS // Mq 64 (m_tns M 0) M9} => [ml m cI S M9.1])) := by
  refine CT.of RX7 rfl (by decide +kernel) (Nat.le_of_ble_eq_true rfl) [(0, .ref (m 0))] rfl (fun x X Rr hnm => ?_)
  refine G.al X dX7_well_0 0 rfl ?_
  refine G.pu X dX7_well_1 ?_
  refine G.puti X fX7_78 fe7 dX7_well_2 rfl rfl 0 0 rfl rfl (Nat.le_of_ble_eq_true rfl) (blk' := ml m cI S (m_rf M, m_co M, m_tx M, m_lt M, m_la M, m_to M, m_tn M, 0, m_st M, m_kp M, m_hi M, m_kg M, m_cu M, m_lr M, m_ge M, m_rw M, m_rn M)) rfl (ws' := [ml m cI S (m_rf M, m_co M, m_tx M, m_lt M, m_la M, m_to M, m_tn M, 0, m_st M, m_kp M, m_hi M, m_kg M, m_cu M, m_lr M, m_ge M, m_rw M, m_rn M)]) rfl ?_
  refine G.al X dX7_well_5 0 rfl ?_
  refine G.pu X dX7_well_6 ?_
  refine G.puti X fX7_100 fe7 dX7_well_7 rfl rfl 0 0 rfl rfl (Nat.le_of_ble_eq_true rfl) (blk' := ml m cI S (m_rf M, m_co M, m_tx M, m_lt M, m_la M, m_to M, m_tn M, 0, 0, m_kp M, m_hi M, m_kg M, m_cu M, m_lr M, m_ge M, m_rw M, m_rn M)) rfl (ws' := [ml m cI S (m_rf M, m_co M, m_tx M, m_lt M, m_la M, m_to M, m_tn M, 0, 0, m_kp M, m_hi M, m_kg M, m_cu M, m_lr M, m_ge M, m_rw M, m_rn M)]) rfl ?_
  refine G.cg (ws' := [ml m cI S (m_rs M (m_t0 M) 0)]) rfl rfl rfl ?_
  refine G.pu X dX7_well_10 ?_
  refine G.is X dX7_well_11 (by decide) (lv' := [(1, .int 1), (0, .ref (m 0))]) rfl ?_
  have L12 : ∀ k, k ≤ K → G x 0 0 ([ml m cI S (m_rs M (p_it (m_q M) (m_t0 M) k) k)]) 12 [(1, .int 1), (0, .ref (m 0))] [] := by
    refine loop_dn K _ ?_ ?_
    · have ha9 : i_a (p_it (m_q M) (m_t0 M) K) ≤ 96 := hle K (by omega)
      refine G.il X dX7_well_12 0 rfl ?_
      refine G.z_eq X (a := 1) dX7_well_13 (fun b13 => absurd b13 (by decide)) (fun b13 => ?_)
      refine G.al X dX7_well_16 1 rfl ?_
      refine G.get X fX7_78 dX7_well_17 0 0 rfl rfl rfl ?_
      refine G.top (b := nI (i_a (p_it (m_q M) (m_t0 M) K))) rfl ?_
      refine G.al X dX7_well_20 1 rfl ?_
      refine G.get X fX7_71 dX7_well_21 0 0 rfl rfl rfl ?_
      refine G.top (b := nI (m_tn M)) rfl ?_
      refine G.n_lt X (a := i_a (p_it (m_q M) (m_t0 M) K)) (b := m_tn M) (by omega) (by omega) dX7_well_24 (fun b24 => absurd b24 (hend)) (fun b24 => ?_)
      refine G.al X dX7_well_27 1 rfl ?_
      refine G.get X fX7_100 dX7_well_28 0 0 rfl rfl rfl ?_
      refine G.top (b := nI K) rfl ?_
      refine G.nz_ne X (a := K) (by omega) dX7_well_31 (fun b31 => ?_) (fun b31 => absurd b31 (by omega))
      refine G.al X dX7_well_60 1 rfl ?_
      refine G.pu X dX7_well_61 ?_
      refine G.puti X fX7_71 fe7 dX7_well_62 rfl rfl 0 0 rfl rfl (Nat.le_of_ble_eq_true rfl) (blk' := ml m cI S (m_rf (m_rs M (p_it (m_q M) (m_t0 M) K) K), m_co (m_rs M (p_it (m_q M) (m_t0 M) K) K), m_tx (m_rs M (p_it (m_q M) (m_t0 M) K) K), m_lt (m_rs M (p_it (m_q M) (m_t0 M) K) K), m_la (m_rs M (p_it (m_q M) (m_t0 M) K) K), m_to (m_rs M (p_it (m_q M) (m_t0 M) K) K), 0, m_at (m_rs M (p_it (m_q M) (m_t0 M) K) K), m_st (m_rs M (p_it (m_q M) (m_t0 M) K) K), m_kp (m_rs M (p_it (m_q M) (m_t0 M) K) K), m_hi (m_rs M (p_it (m_q M) (m_t0 M) K) K), m_kg (m_rs M (p_it (m_q M) (m_t0 M) K) K), m_cu (m_rs M (p_it (m_q M) (m_t0 M) K) K), m_lr (m_rs M (p_it (m_q M) (m_t0 M) K) K), m_ge (m_rs M (p_it (m_q M) (m_t0 M) K) K), m_rw (m_rs M (p_it (m_q M) (m_t0 M) K) K), m_rn (m_rs M (p_it (m_q M) (m_t0 M) K) K))) rfl (ws' := [ml m cI S (m_rf (m_rs M (p_it (m_q M) (m_t0 M) K) K), m_co (m_rs M (p_it (m_q M) (m_t0 M) K) K), m_tx (m_rs M (p_it (m_q M) (m_t0 M) K) K), m_lt (m_rs M (p_it (m_q M) (m_t0 M) K) K), m_la (m_rs M (p_it (m_q M) (m_t0 M) K) K), m_to (m_rs M (p_it (m_q M) (m_t0 M) K) K), 0, m_at (m_rs M (p_it (m_q M) (m_t0 M) K) K), m_st (m_rs M (p_it (m_q M) (m_t0 M) K) K), m_kp (m_rs M (p_it (m_q M) (m_t0 M) K) K), m_hi (m_rs M (p_it (m_q M) (m_t0 M) K) K), m_kg (m_rs M (p_it (m_q M) (m_t0 M) K) K), m_cu (m_rs M (p_it (m_q M) (m_t0 M) K) K), m_lr (m_rs M (p_it (m_q M) (m_t0 M) K) K), m_ge (m_rs M (p_it (m_q M) (m_t0 M) K) K), m_rw (m_rs M (p_it (m_q M) (m_t0 M) K) K), m_rn (m_rs M (p_it (m_q M) (m_t0 M) K) K))]) rfl ?_
      refine G.cg (ws' := [ml m cI S (m_tns (m_rs M (p_it (m_q M) (m_t0 M) K) K) 0)]) rfl rfl rfl ?_
      refine G.il X dX7_well_65 0 rfl ?_
      refine G.z_ne X (a := 1) dX7_well_66 (fun b66 => ?_) (fun b66 => absurd b66 (by decide))
      refine G.al X dX7_well_78 1 rfl ?_
      refine G.pu X dX7_well_79 ?_
      refine G.pu X dX7_well_80 ?_
      refine G.cvv X kX7_passesAll lX7_145 dX7_well_81 (tX7_passesAll_keep1 l D cI cW m S (m_tns (m_rs M (p_it (m_q M) (m_t0 M) K) K) 0)) ⟨Nat.le_of_ble_eq_true rfl, Nat.le_of_ble_eq_true rfl⟩ ⟨Nat.zero_le _, Nat.zero_le _⟩ [0] rfl ⟨rfl, rfl⟩ rfl rfl 0 0 rfl rfl rfl rfl (Nat.le_of_ble_eq_true rfl) (ff_cons (ml_fst _ _ _ _ _ _) (ff_nil)) (ws' := [ml m cI S (m_kpa (m_tns (m_rs M (p_it (m_q M) (m_t0 M) K) K) 0) 64 S)]) rfl ?_
      refine G.pu X dX7_well_84 ?_
      refine G.is X dX7_well_85 (by decide) (lv' := [(2, .int 0), (1, .int 1), (0, .ref (m 0))]) rfl ?_
      have L86 : ∀ k, k ≤ j → G x 0 0 ([ml m cI (p_go (p_it (m_q M) (m_t0 M) K) S k) (m_kpa (m_tns (m_rs M (p_it (m_q M) (m_t0 M) K) K) 0) 64 S)]) 86 [(2, .int (nI k)), (1, .int 1), (0, .ref (m 0))] [] := by
        refine loop_dn j _ ?_ ?_
        · refine G.il X dX7_well_86 0 rfl ?_
          refine G.al X dX7_well_87 2 rfl ?_
          refine G.get X fX7_100 dX7_well_88 0 0 rfl rfl rfl ?_
          refine G.top (b := nI K) rfl ?_
          refine G.n_ge X (a := j) (b := K) (by omega) (by omega) dX7_well_91 (fun b91 => absurd b91 (by omega)) (fun b91 => ?_)
          refine G.al X dX7_well_94 2 rfl ?_
          refine G.il X dX7_well_95 0 rfl ?_
          refine G.cvi X kX7_comes lX7_149 dX7_well_96 (tX7_comes l D cI cW m (p_go (p_it (m_q M) (m_t0 M) K) S j) (m_kpa (m_tns (m_rs M (p_it (m_q M) (m_t0 M) K) K) 0) 64 S) j (hO j (by omega)) hco (by omega)) ⟨Nat.le_of_ble_eq_true rfl, Nat.le_of_ble_eq_true rfl⟩ ⟨Nat.zero_le _, Nat.zero_le _⟩ [0] rfl ⟨rfl, rfl⟩ rfl rfl 0 0 rfl rfl rfl rfl (Nat.le_of_ble_eq_true rfl) (ff_cons (ml_fst _ _ _ _ _ _) (ff_nil)) (ws' := [ml m cI ((p_com (m_lt (m_kpa (m_tns (m_rs M (p_it (m_q M) (m_t0 M) K) K) 0) 64 S) j) (m_to (m_kpa (m_tns (m_rs M (p_it (m_q M) (m_t0 M) K) K) 0) 64 S) (3 * j)) (m_to (m_kpa (m_tns (m_rs M (p_it (m_q M) (m_t0 M) K) K) 0) 64 S) (3 * j + 1)) (m_to (m_kpa (m_tns (m_rs M (p_it (m_q M) (m_t0 M) K) K) 0) 64 S) (3 * j + 2)) (p_go (p_it (m_q M) (m_t0 M) K) S j)).2) (m_kpa (m_tns (m_rs M (p_it (m_q M) (m_t0 M) K) K) 0) 64 S)]) rfl ?_
          refine G.top (b := b2i (p_c1 (p_it (m_q M) (m_t0 M) K) j (p_go (p_it (m_q M) (m_t0 M) K) S j)).1) rfl ?_
          refine G.cg (ws' := [ml m cI ((p_c1 (p_it (m_q M) (m_t0 M) K) j (p_go (p_it (m_q M) (m_t0 M) K) S j)).2) (m_kpa (m_tns (m_rs M (p_it (m_q M) (m_t0 M) K) K) 0) 64 S)]) rfl rfl rfl ?_
          refine G.b_eq X dX7_well_99 (fun b99 => ?_) (fun b99 => absurd (Eq.trans (Eq.symm hbd) b99) (by decide))
          refine G.al X dX7_well_105 2 rfl ?_
          refine G.pu X dX7_well_106 ?_
          refine G.pu X dX7_well_107 ?_
          refine G.cvv X kX7_passesAll lX7_145 dX7_well_108 (tX7_passesAll_rest1 l D cI cW m ((p_c1 (p_it (m_q M) (m_t0 M) K) j (p_go (p_it (m_q M) (m_t0 M) K) S j)).2) (m_kpa (m_tns (m_rs M (p_it (m_q M) (m_t0 M) K) K) 0) 64 S) S (kpall_KP _ 64 S)) ⟨Nat.le_of_ble_eq_true rfl, Nat.le_of_ble_eq_true rfl⟩ ⟨Nat.zero_le _, Nat.zero_le _⟩ [0] rfl ⟨rfl, rfl⟩ rfl rfl 0 0 rfl rfl rfl rfl (Nat.le_of_ble_eq_true rfl) (ff_cons (ml_fst _ _ _ _ _ _) (ff_nil)) (ws' := [ml m cI S (m_set (m_kpa (m_tns (m_rs M (p_it (m_q M) (m_t0 M) K) K) 0) 64 S) 128 false)]) rfl ?_
          refine G.pu X dX7_well_111 ?_
          refine G.al X dX7_well_114 2 rfl ?_
          refine G.get X fX7_43 dX7_well_115 0 0 rfl rfl rfl ?_
          refine G.il X dX7_well_118 0 rfl ?_
          refine G.nld X (i := j) dX7_well_119 0 12 rfl rfl (by omega) (by decide) ?_
          refine G.isub X dX7_well_120 ?_
          exact G.iret X Rr (v := ((-2000) - ((m_la (m_set (m_kpa (m_tns (m_rs M (p_it (m_q M) (m_t0 M) K) K) 0) 64 S) 128 false)) j))) dX7_well_121 (pie_mk (qk (b := 64) (M := m_tns M 0) (N := m_set (m_kpa (m_tns (m_rs M (p_it (m_q M) (m_t0 M) K) K) 0) 64 S) 128 false) ⟨rfl, rfl, rfl, rfl, rfl, rfl, rfl, fun j9 hj9 => kpall_out (Or.inl hj9)⟩) (by rfl) (by rfl))
        · intro k hk ih86
          refine G.il X dX7_well_86 0 rfl ?_
          refine G.al X dX7_well_87 2 rfl ?_
          refine G.get X fX7_100 dX7_well_88 0 0 rfl rfl rfl ?_
          refine G.top (b := nI K) rfl ?_
          refine G.n_ge X (a := k) (b := K) (by omega) (by omega) dX7_well_91 (fun b91 => absurd b91 (by omega)) (fun b91 => ?_)
          refine G.al X dX7_well_94 2 rfl ?_
          refine G.il X dX7_well_95 0 rfl ?_
          refine G.cvi X kX7_comes lX7_149 dX7_well_96 (tX7_comes l D cI cW m (p_go (p_it (m_q M) (m_t0 M) K) S k) (m_kpa (m_tns (m_rs M (p_it (m_q M) (m_t0 M) K) K) 0) 64 S) k (hO k (by omega)) hco (by omega)) ⟨Nat.le_of_ble_eq_true rfl, Nat.le_of_ble_eq_true rfl⟩ ⟨Nat.zero_le _, Nat.zero_le _⟩ [0] rfl ⟨rfl, rfl⟩ rfl rfl 0 0 rfl rfl rfl rfl (Nat.le_of_ble_eq_true rfl) (ff_cons (ml_fst _ _ _ _ _ _) (ff_nil)) (ws' := [ml m cI ((p_com (m_lt (m_kpa (m_tns (m_rs M (p_it (m_q M) (m_t0 M) K) K) 0) 64 S) k) (m_to (m_kpa (m_tns (m_rs M (p_it (m_q M) (m_t0 M) K) K) 0) 64 S) (3 * k)) (m_to (m_kpa (m_tns (m_rs M (p_it (m_q M) (m_t0 M) K) K) 0) 64 S) (3 * k + 1)) (m_to (m_kpa (m_tns (m_rs M (p_it (m_q M) (m_t0 M) K) K) 0) 64 S) (3 * k + 2)) (p_go (p_it (m_q M) (m_t0 M) K) S k)).2) (m_kpa (m_tns (m_rs M (p_it (m_q M) (m_t0 M) K) K) 0) 64 S)]) rfl ?_
          refine G.top (b := b2i (p_c1 (p_it (m_q M) (m_t0 M) K) k (p_go (p_it (m_q M) (m_t0 M) K) S k)).1) rfl ?_
          refine G.cg (ws' := [ml m cI ((p_c1 (p_it (m_q M) (m_t0 M) K) k (p_go (p_it (m_q M) (m_t0 M) K) S k)).2) (m_kpa (m_tns (m_rs M (p_it (m_q M) (m_t0 M) K) K) 0) 64 S)]) rfl rfl rfl ?_
          refine G.b_eq X dX7_well_99 (fun b99 => absurd (Eq.trans (Eq.symm (hcm k hk)) b99) (by decide)) (fun b99 => ?_)
          refine G.go X dX7_well_102 ?_
          refine G.iinc X dX7_well_122 0 rfl (v' := nI (k + 1)) (nI_inc k) (by decide) (lv' := [(2, .int (nI (k + 1))), (1, .int 1), (0, .ref (m 0))]) rfl ?_
          refine G.go X dX7_well_125 ?_
          exact ih86
      have L86 := L86 0 (Nat.zero_le _)
      exact L86
    · intro k hk ih12
      have ha9 : i_a (p_it (m_q M) (m_t0 M) k) ≤ 96 := hle k (by omega)
      refine G.il X dX7_well_12 0 rfl ?_
      refine G.z_eq X (a := 1) dX7_well_13 (fun b13 => absurd b13 (by decide)) (fun b13 => ?_)
      refine G.al X dX7_well_16 1 rfl ?_
      refine G.get X fX7_78 dX7_well_17 0 0 rfl rfl rfl ?_
      refine G.top (b := nI (i_a (p_it (m_q M) (m_t0 M) k))) rfl ?_
      refine G.al X dX7_well_20 1 rfl ?_
      refine G.get X fX7_71 dX7_well_21 0 0 rfl rfl rfl ?_
      refine G.top (b := nI (m_tn M)) rfl ?_
      refine G.n_lt X (a := i_a (p_it (m_q M) (m_t0 M) k)) (b := m_tn M) (by omega) (by omega) dX7_well_24 (fun b24 => ?_) (fun b24 => ?_)
      · refine G.al X dX7_well_34 1 rfl ?_
        refine G.cvi X kX7_statement lX7_141 dX7_well_35 (tX7_statement_hd l D cI cW m S (m_rs M (p_it (m_q M) (m_t0 M) k) k) hn96 ha9 (show k < 48 from by omega) (hhv k hk)) ⟨Nat.le_of_ble_eq_true rfl, Nat.le_of_ble_eq_true rfl⟩ ⟨Nat.zero_le _, Nat.zero_le _⟩ [0] rfl ⟨rfl, rfl⟩ rfl rfl 0 0 rfl rfl rfl rfl (Nat.le_of_ble_eq_true rfl) (ff_cons (ml_fst _ _ _ _ _ _) (ff_nil)) (ws' := [ml m cI S (m_pst (m_rs M (p_it (m_q M) (m_t0 M) k) k) ((p_sm (m_q (m_rs M (p_it (m_q M) (m_t0 M) k) k)) (p_nx (m_q (m_rs M (p_it (m_q M) (m_t0 M) k) k)) (m_at (m_rs M (p_it (m_q M) (m_t0 M) k) k))) (m_at (m_rs M (p_it (m_q M) (m_t0 M) k) k) + 1) (m_to (m_rs M (p_it (m_q M) (m_t0 M) k) k)) (3 * m_st (m_rs M (p_it (m_q M) (m_t0 M) k) k))).2.1) (upd (m_lt (m_rs M (p_it (m_q M) (m_t0 M) k) k)) (m_st (m_rs M (p_it (m_q M) (m_t0 M) k) k)) (p_nx (m_q (m_rs M (p_it (m_q M) (m_t0 M) k) k)) (m_at (m_rs M (p_it (m_q M) (m_t0 M) k) k)))) (upd (m_la (m_rs M (p_it (m_q M) (m_t0 M) k) k)) (m_st (m_rs M (p_it (m_q M) (m_t0 M) k) k)) (nI (m_at (m_rs M (p_it (m_q M) (m_t0 M) k) k)))) ((p_sm (m_q (m_rs M (p_it (m_q M) (m_t0 M) k) k)) (p_nx (m_q (m_rs M (p_it (m_q M) (m_t0 M) k) k)) (m_at (m_rs M (p_it (m_q M) (m_t0 M) k) k))) (m_at (m_rs M (p_it (m_q M) (m_t0 M) k) k) + 1) (m_to (m_rs M (p_it (m_q M) (m_t0 M) k) k)) (3 * m_st (m_rs M (p_it (m_q M) (m_t0 M) k) k))).2.2) (m_st (m_rs M (p_it (m_q M) (m_t0 M) k) k)))]) rfl ?_
        refine G.top (b := 1) (show b2i (p_ss (m_q M) (p_it (m_q M) (m_t0 M) k) k).1 = 1 from by rw [hgd k hk]; rfl) ?_
        refine G.cg (ws' := [ml m cI S (m_rs M (p_st1 (m_q M) (p_it (m_q M) (m_t0 M) k) k) k)]) rfl rfl rfl ?_
        refine G.is X dX7_well_38 (by decide) (lv' := [(1, .int 1), (0, .ref (m 0))]) rfl ?_
        refine G.al X dX7_well_39 1 rfl ?_
        refine G.dupr X dX7_well_40 ?_
        refine G.get X fX7_100 dX7_well_41 0 0 rfl rfl rfl ?_
        refine G.top (b := nI k) rfl ?_
        refine G.il X dX7_well_44 0 rfl ?_
        refine G.z_eq X (a := 1) dX7_well_45 (fun b45 => absurd b45 (by decide)) (fun b45 => ?_)
        refine G.pu X dX7_well_48 ?_
        refine G.go X dX7_well_49 ?_
        refine G.nadd X (a := k) (b := 1) dX7_well_53 ?_
        refine G.puti X fX7_100 fe7 dX7_well_54 rfl rfl 0 0 rfl rfl (Nat.le_of_ble_eq_true rfl) (blk' := ml m cI S (m_rf (m_rs M (p_st1 (m_q M) (p_it (m_q M) (m_t0 M) k) k) k), m_co (m_rs M (p_st1 (m_q M) (p_it (m_q M) (m_t0 M) k) k) k), m_tx (m_rs M (p_st1 (m_q M) (p_it (m_q M) (m_t0 M) k) k) k), m_lt (m_rs M (p_st1 (m_q M) (p_it (m_q M) (m_t0 M) k) k) k), m_la (m_rs M (p_st1 (m_q M) (p_it (m_q M) (m_t0 M) k) k) k), m_to (m_rs M (p_st1 (m_q M) (p_it (m_q M) (m_t0 M) k) k) k), m_tn (m_rs M (p_st1 (m_q M) (p_it (m_q M) (m_t0 M) k) k) k), m_at (m_rs M (p_st1 (m_q M) (p_it (m_q M) (m_t0 M) k) k) k), k + 1, m_kp (m_rs M (p_st1 (m_q M) (p_it (m_q M) (m_t0 M) k) k) k), m_hi (m_rs M (p_st1 (m_q M) (p_it (m_q M) (m_t0 M) k) k) k), m_kg (m_rs M (p_st1 (m_q M) (p_it (m_q M) (m_t0 M) k) k) k), m_cu (m_rs M (p_st1 (m_q M) (p_it (m_q M) (m_t0 M) k) k) k), m_lr (m_rs M (p_st1 (m_q M) (p_it (m_q M) (m_t0 M) k) k) k), m_ge (m_rs M (p_st1 (m_q M) (p_it (m_q M) (m_t0 M) k) k) k), m_rw (m_rs M (p_st1 (m_q M) (p_it (m_q M) (m_t0 M) k) k) k), m_rn (m_rs M (p_st1 (m_q M) (p_it (m_q M) (m_t0 M) k) k) k))) rfl (ws' := [ml m cI S (m_rf (m_rs M (p_st1 (m_q M) (p_it (m_q M) (m_t0 M) k) k) k), m_co (m_rs M (p_st1 (m_q M) (p_it (m_q M) (m_t0 M) k) k) k), m_tx (m_rs M (p_st1 (m_q M) (p_it (m_q M) (m_t0 M) k) k) k), m_lt (m_rs M (p_st1 (m_q M) (p_it (m_q M) (m_t0 M) k) k) k), m_la (m_rs M (p_st1 (m_q M) (p_it (m_q M) (m_t0 M) k) k) k), m_to (m_rs M (p_st1 (m_q M) (p_it (m_q M) (m_t0 M) k) k) k), m_tn (m_rs M (p_st1 (m_q M) (p_it (m_q M) (m_t0 M) k) k) k), m_at (m_rs M (p_st1 (m_q M) (p_it (m_q M) (m_t0 M) k) k) k), k + 1, m_kp (m_rs M (p_st1 (m_q M) (p_it (m_q M) (m_t0 M) k) k) k), m_hi (m_rs M (p_st1 (m_q M) (p_it (m_q M) (m_t0 M) k) k) k), m_kg (m_rs M (p_st1 (m_q M) (p_it (m_q M) (m_t0 M) k) k) k), m_cu (m_rs M (p_st1 (m_q M) (p_it (m_q M) (m_t0 M) k) k) k), m_lr (m_rs M (p_st1 (m_q M) (p_it (m_q M) (m_t0 M) k) k) k), m_ge (m_rs M (p_st1 (m_q M) (p_it (m_q M) (m_t0 M) k) k) k), m_rw (m_rs M (p_st1 (m_q M) (p_it (m_q M) (m_t0 M) k) k) k), m_rn (m_rs M (p_st1 (m_q M) (p_it (m_q M) (m_t0 M) k) k) k))]) rfl ?_
        refine G.cg (ws' := [ml m cI S (m_rs M (p_st1 (m_q M) (p_it (m_q M) (m_t0 M) k) k) (k + 1))]) rfl rfl rfl ?_
        refine G.go X dX7_well_57 ?_
        exact ih12
      · refine G.al X dX7_well_27 1 rfl ?_
        refine G.get X fX7_100 dX7_well_28 0 0 rfl rfl rfl ?_
        refine G.top (b := nI k) rfl ?_
        refine G.nz_ne X (a := k) (by omega) dX7_well_31 (fun b31 => absurd b31 ((fun h => h ((hgo k hk).resolve_left b24)))) (fun b31 => ?_)
        refine G.al X dX7_well_34 1 rfl ?_
        refine G.cvi X kX7_statement lX7_141 dX7_well_35 (tX7_statement_hd l D cI cW m S (m_rs M (p_it (m_q M) (m_t0 M) k) k) hn96 ha9 (show k < 48 from by omega) (hhv k hk)) ⟨Nat.le_of_ble_eq_true rfl, Nat.le_of_ble_eq_true rfl⟩ ⟨Nat.zero_le _, Nat.zero_le _⟩ [0] rfl ⟨rfl, rfl⟩ rfl rfl 0 0 rfl rfl rfl rfl (Nat.le_of_ble_eq_true rfl) (ff_cons (ml_fst _ _ _ _ _ _) (ff_nil)) (ws' := [ml m cI S (m_pst (m_rs M (p_it (m_q M) (m_t0 M) k) k) ((p_sm (m_q (m_rs M (p_it (m_q M) (m_t0 M) k) k)) (p_nx (m_q (m_rs M (p_it (m_q M) (m_t0 M) k) k)) (m_at (m_rs M (p_it (m_q M) (m_t0 M) k) k))) (m_at (m_rs M (p_it (m_q M) (m_t0 M) k) k) + 1) (m_to (m_rs M (p_it (m_q M) (m_t0 M) k) k)) (3 * m_st (m_rs M (p_it (m_q M) (m_t0 M) k) k))).2.1) (upd (m_lt (m_rs M (p_it (m_q M) (m_t0 M) k) k)) (m_st (m_rs M (p_it (m_q M) (m_t0 M) k) k)) (p_nx (m_q (m_rs M (p_it (m_q M) (m_t0 M) k) k)) (m_at (m_rs M (p_it (m_q M) (m_t0 M) k) k)))) (upd (m_la (m_rs M (p_it (m_q M) (m_t0 M) k) k)) (m_st (m_rs M (p_it (m_q M) (m_t0 M) k) k)) (nI (m_at (m_rs M (p_it (m_q M) (m_t0 M) k) k)))) ((p_sm (m_q (m_rs M (p_it (m_q M) (m_t0 M) k) k)) (p_nx (m_q (m_rs M (p_it (m_q M) (m_t0 M) k) k)) (m_at (m_rs M (p_it (m_q M) (m_t0 M) k) k))) (m_at (m_rs M (p_it (m_q M) (m_t0 M) k) k) + 1) (m_to (m_rs M (p_it (m_q M) (m_t0 M) k) k)) (3 * m_st (m_rs M (p_it (m_q M) (m_t0 M) k) k))).2.2) (m_st (m_rs M (p_it (m_q M) (m_t0 M) k) k)))]) rfl ?_
        refine G.top (b := 1) (show b2i (p_ss (m_q M) (p_it (m_q M) (m_t0 M) k) k).1 = 1 from by rw [hgd k hk]; rfl) ?_
        refine G.cg (ws' := [ml m cI S (m_rs M (p_st1 (m_q M) (p_it (m_q M) (m_t0 M) k) k) k)]) rfl rfl rfl ?_
        refine G.is X dX7_well_38 (by decide) (lv' := [(1, .int 1), (0, .ref (m 0))]) rfl ?_
        refine G.al X dX7_well_39 1 rfl ?_
        refine G.dupr X dX7_well_40 ?_
        refine G.get X fX7_100 dX7_well_41 0 0 rfl rfl rfl ?_
        refine G.top (b := nI k) rfl ?_
        refine G.il X dX7_well_44 0 rfl ?_
        refine G.z_eq X (a := 1) dX7_well_45 (fun b45 => absurd b45 (by decide)) (fun b45 => ?_)
        refine G.pu X dX7_well_48 ?_
        refine G.go X dX7_well_49 ?_
        refine G.nadd X (a := k) (b := 1) dX7_well_53 ?_
        refine G.puti X fX7_100 fe7 dX7_well_54 rfl rfl 0 0 rfl rfl (Nat.le_of_ble_eq_true rfl) (blk' := ml m cI S (m_rf (m_rs M (p_st1 (m_q M) (p_it (m_q M) (m_t0 M) k) k) k), m_co (m_rs M (p_st1 (m_q M) (p_it (m_q M) (m_t0 M) k) k) k), m_tx (m_rs M (p_st1 (m_q M) (p_it (m_q M) (m_t0 M) k) k) k), m_lt (m_rs M (p_st1 (m_q M) (p_it (m_q M) (m_t0 M) k) k) k), m_la (m_rs M (p_st1 (m_q M) (p_it (m_q M) (m_t0 M) k) k) k), m_to (m_rs M (p_st1 (m_q M) (p_it (m_q M) (m_t0 M) k) k) k), m_tn (m_rs M (p_st1 (m_q M) (p_it (m_q M) (m_t0 M) k) k) k), m_at (m_rs M (p_st1 (m_q M) (p_it (m_q M) (m_t0 M) k) k) k), k + 1, m_kp (m_rs M (p_st1 (m_q M) (p_it (m_q M) (m_t0 M) k) k) k), m_hi (m_rs M (p_st1 (m_q M) (p_it (m_q M) (m_t0 M) k) k) k), m_kg (m_rs M (p_st1 (m_q M) (p_it (m_q M) (m_t0 M) k) k) k), m_cu (m_rs M (p_st1 (m_q M) (p_it (m_q M) (m_t0 M) k) k) k), m_lr (m_rs M (p_st1 (m_q M) (p_it (m_q M) (m_t0 M) k) k) k), m_ge (m_rs M (p_st1 (m_q M) (p_it (m_q M) (m_t0 M) k) k) k), m_rw (m_rs M (p_st1 (m_q M) (p_it (m_q M) (m_t0 M) k) k) k), m_rn (m_rs M (p_st1 (m_q M) (p_it (m_q M) (m_t0 M) k) k) k))) rfl (ws' := [ml m cI S (m_rf (m_rs M (p_st1 (m_q M) (p_it (m_q M) (m_t0 M) k) k) k), m_co (m_rs M (p_st1 (m_q M) (p_it (m_q M) (m_t0 M) k) k) k), m_tx (m_rs M (p_st1 (m_q M) (p_it (m_q M) (m_t0 M) k) k) k), m_lt (m_rs M (p_st1 (m_q M) (p_it (m_q M) (m_t0 M) k) k) k), m_la (m_rs M (p_st1 (m_q M) (p_it (m_q M) (m_t0 M) k) k) k), m_to (m_rs M (p_st1 (m_q M) (p_it (m_q M) (m_t0 M) k) k) k), m_tn (m_rs M (p_st1 (m_q M) (p_it (m_q M) (m_t0 M) k) k) k), m_at (m_rs M (p_st1 (m_q M) (p_it (m_q M) (m_t0 M) k) k) k), k + 1, m_kp (m_rs M (p_st1 (m_q M) (p_it (m_q M) (m_t0 M) k) k) k), m_hi (m_rs M (p_st1 (m_q M) (p_it (m_q M) (m_t0 M) k) k) k), m_kg (m_rs M (p_st1 (m_q M) (p_it (m_q M) (m_t0 M) k) k) k), m_cu (m_rs M (p_st1 (m_q M) (p_it (m_q M) (m_t0 M) k) k) k), m_lr (m_rs M (p_st1 (m_q M) (p_it (m_q M) (m_t0 M) k) k) k), m_ge (m_rs M (p_st1 (m_q M) (p_it (m_q M) (m_t0 M) k) k) k), m_rw (m_rs M (p_st1 (m_q M) (p_it (m_q M) (m_t0 M) k) k) k), m_rn (m_rs M (p_st1 (m_q M) (p_it (m_q M) (m_t0 M) k) k) k))]) rfl ?_
        refine G.cg (ws' := [ml m cI S (m_rs M (p_st1 (m_q M) (p_it (m_q M) (m_t0 M) k) k) (k + 1))]) rfl rfl rfl ?_
        refine G.go X dX7_well_57 ?_
        exact ih12
  have L12 := L12 0 (Nat.zero_le _)
  exact L12
