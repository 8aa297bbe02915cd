theorem dg_in {M : MS} {a : Nat} (hn : m_tn M ≤ 96) (h : z_bt (p_nx (m_q M) a) 48 57 = true) : a + 1 ≤ 96 := by
  unfold p_nx at h
  by_cases ha : a < q_n (m_q M)
  · have : a < m_tn M := ha
    omega
  · rw [if_neg ha] at h
    exact absurd h (by decide)
set_option maxRecDepth 20000 in
theorem tX7_next (l : Launch) (D : va_G) (cI cW : ClassId) (m : Nat → Nat) (S : WS) (M : MS) (hn96 : m_tn M ≤ 96) (hat : m_at M ≤ 96) : CT l D cI cW yX7_next cX7_next 1 (some .int) ⟨0, 0, 0, 0⟩ [.ref (m 0)] ([ml m cI S M]) (PI (p_nx (m_q M) (m_at M)) ([ml m cI S M])) := by
  refine CT.of RX7 rfl (by decide +kernel) (Nat.le_of_ble_eq_true rfl) [(0, .ref (m 0))] rfl (fun x X Rr hnm => ?_)
  refine G.al X dX7_next_0 0 rfl ?_
  refine G.get X fX7_78 dX7_next_1 0 0 rfl rfl rfl ?_
  refine G.al X dX7_next_4 0 rfl ?_
  refine G.get X fX7_71 dX7_next_5 0 0 rfl rfl rfl ?_
  refine G.n_ge X (a := m_at M) (b := m_tn M) (by omega) (by omega) dX7_next_8 (fun b8 => ?_) (fun b8 => ?_)
  · refine G.pu X dX7_next_23 ?_
    exact G.iret X Rr (v := (-1)) dX7_next_24 (pi_mk (by simp [p_nx, m_q, b8]) (by rfl))
  · refine G.al X dX7_next_11 0 rfl ?_
    refine G.get X fX7_37 dX7_next_12 0 0 rfl rfl rfl ?_
    refine G.al X dX7_next_15 0 rfl ?_
    refine G.get X fX7_78 dX7_next_16 0 0 rfl rfl rfl ?_
    refine G.nld X (i := m_at M) dX7_next_19 0 10 rfl rfl (by omega) (by decide) ?_
    refine G.go X dX7_next_20 ?_
    exact G.iret X Rr (v := ((m_tx M) (m_at M))) dX7_next_24 (pi_mk (by simp [p_nx, m_q, b8]) (by rfl))

set_option maxRecDepth 20000 in
theorem tX7_readsDigits (l : Launch) (D : va_G) (cI cW : ClassId) (m : Nat → Nat) (S : WS) (M : MS) (p : Nat) (d : Nat) (hn96 : m_tn M ≤ 96) (hat : m_at M + d ≤ 103) (hat2 : m_at M ≤ 96) (hp : p < 144) (hd : d ≤ 3) : CT l D cI cW yX7_readsDigits cX7_readsDigits 5 (some .boolean) ⟨1, 0, 0, 22⟩ [.ref (m 0), .int (nI p), .int (nI d)] ([ml m cI S M]) (PI (b2i ((p_rd (m_q M) (m_at M) (m_to M) p d).1)) ([ml m cI S (m_pa M (p_rd (m_q M) (m_at M) (m_to M) p d).2.1 (p_rd (m_q M) (m_at M) (m_to M) p d).2.2)])) := by
  refine CT.of RX7 rfl (by decide +kernel) (Nat.le_of_ble_eq_true rfl) [(0, .ref (m 0)), (1, .int (nI p)), (2, .int (nI d))] rfl (fun x X Rr hnm => ?_)
  refine G.pu X dX7_readsDigits_0 ?_
  refine G.is X dX7_readsDigits_1 (by decide) (lv' := [(3, .int 0), (0, .ref (m 0)), (1, .int (nI p)), (2, .int (nI d))]) rfl ?_
  refine G.pu X dX7_readsDigits_2 ?_
  refine G.is X dX7_readsDigits_3 (by decide) (lv' := [(4, .int 0), (3, .int 0), (0, .ref (m 0)), (1, .int (nI p)), (2, .int (nI d))]) rfl ?_
  have L5 : ∀ k, k ≤ d → (m_at M + k ≤ 96 ∧ ∀ j, j < k → (fun k => !p_dg (m_q M) (m_at M + k)) j = false) → G x 0 0 ([ml m cI S (m_pa M (m_at M + k) (m_to M))]) 5 [(4, .int (nI k)), (3, .int (p_v (m_q M) (m_at M) k)), (0, .ref (m 0)), (1, .int (nI p)), (2, .int (nI d))] [] := by
    refine loop_dn d _ ?_ ?_
    · intro hinv5
      refine G.il X dX7_readsDigits_5 0 rfl ?_
      refine G.il X dX7_readsDigits_7 4 rfl ?_
      refine G.n_ge X (a := d) (b := d) (by omega) (by omega) dX7_readsDigits_8 (fun b8 => ?_) (fun b8 => absurd b8 (by omega))
      refine G.al X dX7_readsDigits_56 2 rfl ?_
      refine G.get X fX7_46 dX7_readsDigits_57 0 0 rfl rfl rfl ?_
      refine G.il X dX7_readsDigits_60 3 rfl ?_
      refine G.il X dX7_readsDigits_61 1 rfl ?_
      refine G.nst X (i := p) dX7_readsDigits_62 0 13 rfl rfl (by omega) (by decide) (blk' := ml m cI S (m_rf (m_pa M (m_at M + d) (m_to M)), m_co (m_pa M (m_at M + d) (m_to M)), m_tx (m_pa M (m_at M + d) (m_to M)), m_lt (m_pa M (m_at M + d) (m_to M)), m_la (m_pa M (m_at M + d) (m_to M)), upd (m_to (m_pa M (m_at M + d) (m_to M))) p (p_v (m_q M) (m_at M) d), m_tn (m_pa M (m_at M + d) (m_to M)), m_at (m_pa M (m_at M + d) (m_to M)), m_st (m_pa M (m_at M + d) (m_to M)), m_kp (m_pa M (m_at M + d) (m_to M)), m_hi (m_pa M (m_at M + d) (m_to M)), m_kg (m_pa M (m_at M + d) (m_to M)), m_cu (m_pa M (m_at M + d) (m_to M)), m_lr (m_pa M (m_at M + d) (m_to M)), m_ge (m_pa M (m_at M + d) (m_to M)), m_rw (m_pa M (m_at M + d) (m_to M)), m_rn (m_pa M (m_at M + d) (m_to M)))) rfl (ws' := [ml m cI S (m_rf (m_pa M (m_at M + d) (m_to M)), m_co (m_pa M (m_at M + d) (m_to M)), m_tx (m_pa M (m_at M + d) (m_to M)), m_lt (m_pa M (m_at M + d) (m_to M)), m_la (m_pa M (m_at M + d) (m_to M)), upd (m_to (m_pa M (m_at M + d) (m_to M))) p (p_v (m_q M) (m_at M) d), m_tn (m_pa M (m_at M + d) (m_to M)), m_at (m_pa M (m_at M + d) (m_to M)), m_st (m_pa M (m_at M + d) (m_to M)), m_kp (m_pa M (m_at M + d) (m_to M)), m_hi (m_pa M (m_at M + d) (m_to M)), m_kg (m_pa M (m_at M + d) (m_to M)), m_cu (m_pa M (m_at M + d) (m_to M)), m_lr (m_pa M (m_at M + d) (m_to M)), m_ge (m_pa M (m_at M + d) (m_to M)), m_rw (m_pa M (m_at M + d) (m_to M)), m_rn (m_pa M (m_at M + d) (m_to M)))]) rfl ?_
      refine G.pu X dX7_readsDigits_63 ?_
      exact G.zret X Rr (v := 1) (Or.inr rfl) dX7_readsDigits_64 (pi_mk (by rw [ps_rd hinv5.2]; rfl) (by rw [ps_rd hinv5.2]; rfl))
    · intro k hk ih5 hinv5
      have ha9 : m_at (m_pa M (m_at M + k) (m_to M)) ≤ 96 := hinv5.1
      refine G.il X dX7_readsDigits_5 0 rfl ?_
      refine G.il X dX7_readsDigits_7 4 rfl ?_
      refine G.n_ge X (a := k) (b := d) (by omega) (by omega) dX7_readsDigits_8 (fun b8 => absurd b8 (by omega)) (fun b8 => ?_)
      refine G.al X dX7_readsDigits_11 2 rfl ?_
      refine G.cvi X kX7_next lX7_81 dX7_readsDigits_12 (tX7_next l D cI cW m S (m_pa M (m_at M + k) (m_to M)) hn96 ha9) ⟨Nat.le_of_ble_eq_true rfl, Nat.le_of_ble_eq_true rfl⟩ ⟨Nat.zero_le _, Nat.zero_le _⟩ [0] rfl ⟨rfl, rfl⟩ rfl rfl 0 0 rfl rfl rfl rfl (Nat.le_of_ble_eq_true rfl) (ff_cons (ml_fst _ _ _ _ _ _) (ff_nil)) (ws' := [ml m cI S (m_pa M (m_at M + k) (m_to M))]) rfl ?_
      refine G.top (b := p_nx (m_q M) (m_at M + k)) rfl ?_
      refine G.pu X dX7_readsDigits_15 ?_
      refine G.pu X dX7_readsDigits_17 ?_
      refine G.csti X kX7_isIn lX7_85 dX7_readsDigits_19 (tX7_isIn l D cI cW (p_nx (m_q M) (m_at M + k)) 48 57) ⟨Nat.le_of_ble_eq_true rfl, Nat.le_of_ble_eq_true rfl⟩ ⟨Nat.zero_le _, Nat.zero_le _⟩ [] rfl ⟨rfl, rfl⟩ rfl rfl rfl (Nat.le_of_ble_eq_true rfl) (ff_nil) (ws' := [ml m cI S (m_pa M (m_at M + k) (m_to M))]) rfl ?_
      refine G.b_ne X dX7_readsDigits_22 (fun b22 => ?_) (fun b22 => ?_)
      · refine G.pu X dX7_readsDigits_27 ?_
        refine G.il X dX7_readsDigits_29 1 rfl ?_
        refine G.imul X dX7_readsDigits_30 ?_
        refine G.al X dX7_readsDigits_31 2 rfl ?_
        refine G.cvi X kX7_next lX7_81 dX7_readsDigits_32 (tX7_next l D cI cW m S (m_pa M (m_at M + k) (m_to M)) hn96 ha9) ⟨Nat.le_of_ble_eq_true rfl, Nat.le_of_ble_eq_true rfl⟩ ⟨Nat.zero_le _, Nat.zero_le _⟩ [0] rfl ⟨rfl, rfl⟩ rfl rfl 0 0 rfl rfl rfl rfl (Nat.le_of_ble_eq_true rfl) (ff_cons (ml_fst _ _ _ _ _ _) (ff_nil)) (ws' := [ml m cI S (m_pa M (m_at M + k) (m_to M))]) rfl ?_
        refine G.top (b := p_nx (m_q M) (m_at M + k)) rfl ?_
        refine G.iadd X dX7_readsDigits_35 ?_
        refine G.pu X dX7_readsDigits_36 ?_
        refine G.isub X dX7_readsDigits_38 ?_
        refine G.is X dX7_readsDigits_39 (by decide) (lv' := [(3, .int (((10 * (p_v (m_q M) (m_at M) k)) + (p_nx (m_q M) (m_at M + k))) - 48)), (4, .int (nI k)), (0, .ref (m 0)), (1, .int (nI p)), (2, .int (nI d))]) rfl ?_
        refine G.al X dX7_readsDigits_40 2 rfl ?_
        refine G.dupr X dX7_readsDigits_41 ?_
        refine G.get X fX7_78 dX7_readsDigits_42 0 0 rfl rfl rfl ?_
        refine G.pu X dX7_readsDigits_45 ?_
        refine G.nadd X (a := m_at (m_pa M (m_at M + k) (m_to M))) (b := 1) dX7_readsDigits_46 ?_
        refine G.puti X fX7_78 fe7 dX7_readsDigits_47 rfl rfl 0 0 rfl rfl (Nat.le_of_ble_eq_true rfl) (blk' := ml m cI S (m_rf (m_pa M (m_at M + k) (m_to M)), m_co (m_pa M (m_at M + k) (m_to M)), m_tx (m_pa M (m_at M + k) (m_to M)), m_lt (m_pa M (m_at M + k) (m_to M)), m_la (m_pa M (m_at M + k) (m_to M)), m_to (m_pa M (m_at M + k) (m_to M)), m_tn (m_pa M (m_at M + k) (m_to M)), (m_at (m_pa M (m_at M + k) (m_to M))) + 1, m_st (m_pa M (m_at M + k) (m_to M)), m_kp (m_pa M (m_at M + k) (m_to M)), m_hi (m_pa M (m_at M + k) (m_to M)), m_kg (m_pa M (m_at M + k) (m_to M)), m_cu (m_pa M (m_at M + k) (m_to M)), m_lr (m_pa M (m_at M + k) (m_to M)), m_ge (m_pa M (m_at M + k) (m_to M)), m_rw (m_pa M (m_at M + k) (m_to M)), m_rn (m_pa M (m_at M + k) (m_to M)))) rfl (ws' := [ml m cI S (m_rf (m_pa M (m_at M + k) (m_to M)), m_co (m_pa M (m_at M + k) (m_to M)), m_tx (m_pa M (m_at M + k) (m_to M)), m_lt (m_pa M (m_at M + k) (m_to M)), m_la (m_pa M (m_at M + k) (m_to M)), m_to (m_pa M (m_at M + k) (m_to M)), m_tn (m_pa M (m_at M + k) (m_to M)), (m_at (m_pa M (m_at M + k) (m_to M))) + 1, m_st (m_pa M (m_at M + k) (m_to M)), m_kp (m_pa M (m_at M + k) (m_to M)), m_hi (m_pa M (m_at M + k) (m_to M)), m_kg (m_pa M (m_at M + k) (m_to M)), m_cu (m_pa M (m_at M + k) (m_to M)), m_lr (m_pa M (m_at M + k) (m_to M)), m_ge (m_pa M (m_at M + k) (m_to M)), m_rw (m_pa M (m_at M + k) (m_to M)), m_rn (m_pa M (m_at M + k) (m_to M)))]) rfl ?_
        refine G.cg (ws' := [ml m cI S (m_pa M (m_at M + k + 1) (m_to M))]) rfl rfl rfl ?_
        refine G.iinc X dX7_readsDigits_50 1 rfl (v' := nI (k + 1)) (nI_inc k) (by decide) (lv' := [(4, .int (nI (k + 1))), (3, .int (((10 * (p_v (m_q M) (m_at M) k)) + (p_nx (m_q M) (m_at M + k))) - 48)), (0, .ref (m 0)), (1, .int (nI p)), (2, .int (nI d))]) rfl ?_
        refine G.go X dX7_readsDigits_53 ?_
        rw [show (p_v (m_q M) (m_at M) (k + 1)) = (((10 * (p_v (m_q M) (m_at M) k)) + (p_nx (m_q M) (m_at M + k))) - 48) from (by rfl)] at ih5
        exact ih5 ⟨dg_in hn96 b22, lt_snoc hinv5.2 (by show (!p_dg (m_q M) (m_at M + k)) = false; rw [show p_dg (m_q M) (m_at M + k) = true from b22]; rfl)⟩
      · refine G.pu X dX7_readsDigits_25 ?_
        exact G.zret X Rr (v := 0) (Or.inl rfl) dX7_readsDigits_26 (pi_mk (by rw [ps_rdf hinv5.2 b22 hk]; rfl) (by rw [ps_rdf hinv5.2 b22 hk]))
  have L5 := L5 0 (Nat.zero_le _) ⟨hat2, fun j hj => absurd hj (by omega)⟩
  exact L5

set_option maxRecDepth 20000 in
theorem tX7_kindOf (l : Launch) (D : va_G) (cI cW : ClassId) (c : Int32) : CT l D cI cW yX7_kindOf cX7_kindOf 1 (some .int) ⟨0, 0, 0, 0⟩ [.int c] ([]) (PI (m_kt c) ([])) := by
  refine CT.of RX7 rfl (by decide +kernel) (Nat.le_of_ble_eq_true rfl) [(0, .int c)] rfl (fun x X Rr hnm => ?_)
  refine G.il X dX7_kindOf_0 0 rfl ?_
  refine G.pu X dX7_kindOf_1 ?_
  refine G.c_ne X (a := c) (b := 115) dX7_kindOf_3 (fun b3 => ?_) (fun b3 => ?_)
  · refine G.il X dX7_kindOf_10 0 rfl ?_
    refine G.pu X dX7_kindOf_11 ?_
    refine G.c_ne X (a := c) (b := 114) dX7_kindOf_13 (fun b13 => ?_) (fun b13 => ?_)
    · refine G.il X dX7_kindOf_20 0 rfl ?_
      refine G.pu X dX7_kindOf_21 ?_
      refine G.c_ne X (a := c) (b := 99) dX7_kindOf_23 (fun b23 => ?_) (fun b23 => ?_)
      · refine G.il X dX7_kindOf_30 0 rfl ?_
        refine G.pu X dX7_kindOf_31 ?_
        refine G.c_ne X (a := c) (b := 104) dX7_kindOf_33 (fun b33 => ?_) (fun b33 => ?_)
        · refine G.il X dX7_kindOf_40 0 rfl ?_
          refine G.pu X dX7_kindOf_41 ?_
          refine G.c_ne X (a := c) (b := 112) dX7_kindOf_43 (fun b43 => ?_) (fun b43 => ?_)
          · refine G.il X dX7_kindOf_50 0 rfl ?_
            refine G.pu X dX7_kindOf_51 ?_
            refine G.c_ne X (a := c) (b := 98) dX7_kindOf_53 (fun b53 => ?_) (fun b53 => ?_)
            · refine G.pu X dX7_kindOf_60 ?_
              exact G.iret X Rr (v := (-1)) dX7_kindOf_61 (pi_mk (by simp [m_kt, b3, b13, b23, b33, b43, b53]) (by rfl))
            · refine G.pu X dX7_kindOf_56 ?_
              refine G.go X dX7_kindOf_57 ?_
              exact G.iret X Rr (v := 5) dX7_kindOf_61 (pi_mk (by simp [m_kt, b3, b13, b23, b33, b43, b53]) (by rfl))
          · refine G.pu X dX7_kindOf_46 ?_
            refine G.go X dX7_kindOf_47 ?_
            exact G.iret X Rr (v := 4) dX7_kindOf_61 (pi_mk (by simp [m_kt, b3, b13, b23, b33, b43]) (by rfl))
        · refine G.pu X dX7_kindOf_36 ?_
          refine G.go X dX7_kindOf_37 ?_
          exact G.iret X Rr (v := 3) dX7_kindOf_61 (pi_mk (by simp [m_kt, b3, b13, b23, b33]) (by rfl))
      · refine G.pu X dX7_kindOf_26 ?_
        refine G.go X dX7_kindOf_27 ?_
        exact G.iret X Rr (v := 2) dX7_kindOf_61 (pi_mk (by simp [m_kt, b3, b13, b23]) (by rfl))
    · refine G.pu X dX7_kindOf_16 ?_
      refine G.go X dX7_kindOf_17 ?_
      exact G.iret X Rr (v := 1) dX7_kindOf_61 (pi_mk (by simp [m_kt, b3, b13]) (by rfl))
  · refine G.pu X dX7_kindOf_6 ?_
    refine G.go X dX7_kindOf_7 ?_
    exact G.iret X Rr (v := 0) dX7_kindOf_61 (pi_mk (by simp [m_kt, b3]) (by rfl))

set_option maxRecDepth 20000 in
theorem tX7_comesOne_ok (l : Launch) (D : va_G) (cI cW : ClassId) (m : Nat → Nat) (S : WS) (M : MS) (v : Int32) (w : Int32) (hpe : s_pe S < 5) (hw : ¬ 255 < w) : CT l D cI cW yX7_comesOne cX7_comesOne 3 (some .boolean) ⟨0, 0, 0, 0⟩ [.ref (m 0), .int v, .int w] ([ml m cI S M]) (PI (b2i (true)) ([ml m cI (w_one S v w) M])) := by
  refine CT.of RX7 rfl (by decide +kernel) (Nat.le_of_ble_eq_true rfl) [(0, .ref (m 0)), (1, .int v), (2, .int w)] rfl (fun x X Rr hnm => ?_)
  refine G.il X dX7_comesOne_0 2 rfl ?_
  refine G.pu X dX7_comesOne_1 ?_
  refine G.c_gt X (a := w) (b := 255) dX7_comesOne_4 (fun b4 => absurd b4 (hw)) (fun b4 => ?_)
  refine G.al X dX7_comesOne_7 0 rfl ?_
  refine G.get X fX7_64 dX7_comesOne_8 0 0 rfl rfl rfl ?_
  refine G.pu X dX7_comesOne_11 ?_
  refine G.n_ne X (a := s_pe S) (b := 5) (by omega) (by omega) dX7_comesOne_12 (fun b12 => ?_) (fun b12 => absurd b12 (by omega))
  refine G.al X dX7_comesOne_17 0 rfl ?_
  refine G.get X fX7_16 dX7_comesOne_18 0 0 rfl rfl rfl ?_
  refine G.al X dX7_comesOne_21 0 rfl ?_
  refine G.get X fX7_64 dX7_comesOne_22 0 0 rfl rfl rfl ?_
  refine G.il X dX7_comesOne_25 1 rfl ?_
  refine G.nst X (i := s_pe S) dX7_comesOne_26 0 3 rfl rfl (by omega) (by decide) (blk' := ml m cI (s_pe S, s_th S, s_da S, s_dr S, s_kn S, upd (s_sh S) (s_pe S) v, s_an S, s_ki S, s_we S, s_dp S, s_wa S, s_le S) M) rfl (ws' := [ml m cI (s_pe S, s_th S, s_da S, s_dr S, s_kn S, upd (s_sh S) (s_pe S) v, s_an S, s_ki S, s_we S, s_dp S, s_wa S, s_le S) M]) rfl ?_
  refine G.al X dX7_comesOne_27 0 rfl ?_
  refine G.get X fX7_13 dX7_comesOne_28 0 0 rfl rfl rfl ?_
  refine G.al X dX7_comesOne_31 0 rfl ?_
  refine G.get X fX7_64 dX7_comesOne_32 0 0 rfl rfl rfl ?_
  refine G.il X dX7_comesOne_35 2 rfl ?_
  refine G.nst X (i := s_pe S) dX7_comesOne_36 0 2 rfl rfl (by omega) (by decide) (blk' := ml m cI (s_pe S, s_th S, s_da S, s_dr S, upd (s_kn S) (s_pe S) w, upd (s_sh S) (s_pe S) v, s_an S, s_ki S, s_we S, s_dp S, s_wa S, s_le S) M) rfl (ws' := [ml m cI (s_pe S, s_th S, s_da S, s_dr S, upd (s_kn S) (s_pe S) w, upd (s_sh S) (s_pe S) v, s_an S, s_ki S, s_we S, s_dp S, s_wa S, s_le S) M]) rfl ?_
  refine G.al X dX7_comesOne_37 0 rfl ?_
  refine G.get X fX7_19 dX7_comesOne_38 0 0 rfl rfl rfl ?_
  refine G.al X dX7_comesOne_41 0 rfl ?_
  refine G.get X fX7_64 dX7_comesOne_42 0 0 rfl rfl rfl ?_
  refine G.pu X dX7_comesOne_45 ?_
  refine G.nst X (i := s_pe S) dX7_comesOne_46 0 4 rfl rfl (by omega) (by decide) (blk' := ml m cI (s_pe S, s_th S, s_da S, s_dr S, upd (s_kn S) (s_pe S) w, upd (s_sh S) (s_pe S) v, upd (s_an S) (s_pe S) 0, s_ki S, s_we S, s_dp S, s_wa S, s_le S) M) rfl (ws' := [ml m cI (s_pe S, s_th S, s_da S, s_dr S, upd (s_kn S) (s_pe S) w, upd (s_sh S) (s_pe S) v, upd (s_an S) (s_pe S) 0, s_ki S, s_we S, s_dp S, s_wa S, s_le S) M]) rfl ?_
  refine G.al X dX7_comesOne_47 0 rfl ?_
  refine G.dupr X dX7_comesOne_48 ?_
  refine G.get X fX7_64 dX7_comesOne_49 0 0 rfl rfl rfl ?_
  refine G.pu X dX7_comesOne_52 ?_
  refine G.nadd X (a := s_pe S) (b := 1) dX7_comesOne_53 ?_
  refine G.puti X fX7_64 fe7 dX7_comesOne_54 rfl rfl 0 0 rfl rfl (Nat.le_of_ble_eq_true rfl) (blk' := ml m cI ((s_pe S) + 1, s_th S, s_da S, s_dr S, upd (s_kn S) (s_pe S) w, upd (s_sh S) (s_pe S) v, upd (s_an S) (s_pe S) 0, s_ki S, s_we S, s_dp S, s_wa S, s_le S) M) rfl (ws' := [ml m cI ((s_pe S) + 1, s_th S, s_da S, s_dr S, upd (s_kn S) (s_pe S) w, upd (s_sh S) (s_pe S) v, upd (s_an S) (s_pe S) 0, s_ki S, s_we S, s_dp S, s_wa S, s_le S) M]) rfl ?_
  refine G.pu X dX7_comesOne_57 ?_
  exact G.zret X Rr (v := 1) (Or.inr rfl) dX7_comesOne_58 (pi_mk (by rfl) (by rfl))

set_option maxRecDepth 20000 in
theorem tX7_comesOne_bad (l : Launch) (D : va_G) (cI cW : ClassId) (m : Nat → Nat) (S : WS) (M : MS) (v : Int32) (w : Int32) (hS : Ok S) (hw : ¬ s_pe S < 5 ∨ 255 < w) : CT l D cI cW yX7_comesOne cX7_comesOne 3 (some .boolean) ⟨0, 0, 0, 0⟩ [.ref (m 0), .int v, .int w] ([ml m cI S M]) (PI (b2i (false)) ([ml m cI S M])) := by
  refine CT.of RX7 rfl (by decide +kernel) (Nat.le_of_ble_eq_true rfl) [(0, .ref (m 0)), (1, .int v), (2, .int w)] rfl (fun x X Rr hnm => ?_)
  have hth := hS.th
  have hpe := hS.pe
  refine G.il X dX7_comesOne_0 2 rfl ?_
  refine G.pu X dX7_comesOne_1 ?_
  refine G.c_gt X (a := w) (b := 255) dX7_comesOne_4 (fun b4 => ?_) (fun b4 => ?_)
  · refine G.pu X dX7_comesOne_15 ?_
    exact G.zret X Rr (v := 0) (Or.inl rfl) dX7_comesOne_16 (pi_mk (by rfl) (by rfl))
  · refine G.al X dX7_comesOne_7 0 rfl ?_
    refine G.get X fX7_64 dX7_comesOne_8 0 0 rfl rfl rfl ?_
    refine G.pu X dX7_comesOne_11 ?_
    refine G.n_ne X (a := s_pe S) (b := 5) (by omega) (by omega) dX7_comesOne_12 (fun b12 => absurd ((by have := hw.resolve_right b4; omega)) b12) (fun b12 => ?_)
    refine G.pu X dX7_comesOne_15 ?_
    exact G.zret X Rr (v := 0) (Or.inl rfl) dX7_comesOne_16 (pi_mk (by rfl) (by rfl))

set_option maxRecDepth 20000 in
theorem tX7_comesThing_ok (l : Launch) (D : va_G) (cI cW : ClassId) (m : Nat → Nat) (S : WS) (M : MS) (a : Int32) (b : Int32) (c : Int32) (hth : s_th S < 9) (hb : z_in c (s_pe S) = true) : CT l D cI cW yX7_comesThing cX7_comesThing 4 (some .boolean) ⟨3, 0, 0, 66⟩ [.ref (m 0), .int a, .int b, .int c] ([ml m cI S M]) (PI (b2i (true)) ([ml m cI (w_add S a b c) M])) := by
  refine CT.of RX7 rfl (by decide +kernel) (Nat.le_of_ble_eq_true rfl) [(0, .ref (m 0)), (1, .int a), (2, .int b), (3, .int c)] rfl (fun x X Rr hnm => ?_)
  refine G.al X dX7_comesThing_0 0 rfl ?_
  refine G.il X dX7_comesThing_1 3 rfl ?_
  refine G.cvi X kX7_isOne lX7_106 dX7_comesThing_2 (tX7_isOne l D cI cW m S M c) ⟨Nat.le_of_ble_eq_true rfl, Nat.le_of_ble_eq_true rfl⟩ ⟨Nat.zero_le _, Nat.zero_le _⟩ [0] rfl ⟨rfl, rfl⟩ rfl rfl 0 0 rfl rfl rfl rfl (Nat.le_of_ble_eq_true rfl) (ff_cons (ml_fst _ _ _ _ _ _) (ff_nil)) (ws' := [ml m cI S M]) rfl ?_
  refine G.b_eq X dX7_comesThing_5 (fun b5 => absurd (Eq.trans (Eq.symm hb) b5) (by decide)) (fun b5 => ?_)
  refine G.al X dX7_comesThing_8 0 rfl ?_
  refine G.get X fX7_58 dX7_comesThing_9 0 0 rfl rfl rfl ?_
  refine G.pu X dX7_comesThing_12 ?_
  refine G.n_ne X (a := s_th S) (b := 9) (by omega) (by omega) dX7_comesThing_14 (fun b14 => ?_) (fun b14 => absurd b14 (by omega))
  refine G.al X dX7_comesThing_19 0 rfl ?_
  refine G.il X dX7_comesThing_20 1 rfl ?_
  refine G.il X dX7_comesThing_21 2 rfl ?_
  refine G.il X dX7_comesThing_22 3 rfl ?_
  refine G.cvv X kX7_adds lX7_109 dX7_comesThing_23 (tX7_adds l D cI cW m S M a b c hth) ⟨Nat.le_of_ble_eq_true rfl, Nat.le_of_ble_eq_true rfl⟩ ⟨Nat.zero_le _, Nat.zero_le _⟩ [0] rfl ⟨rfl, rfl⟩ rfl rfl 0 0 rfl rfl rfl rfl (Nat.le_of_ble_eq_true rfl) (ff_cons (ml_fst _ _ _ _ _ _) (ff_nil)) (ws' := [ml m cI (w_add S a b c) M]) rfl ?_
  refine G.pu X dX7_comesThing_26 ?_
  exact G.zret X Rr (v := 1) (Or.inr rfl) dX7_comesThing_27 (pi_mk (by rfl) (by rfl))

set_option maxRecDepth 20000 in
theorem tX7_comesThing_bad (l : Launch) (D : va_G) (cI cW : ClassId) (m : Nat → Nat) (S : WS) (M : MS) (a : Int32) (b : Int32) (c : Int32) (hS : Ok S) (hb : ¬ s_th S < 9 ∨ z_in c (s_pe S) = false) : CT l D cI cW yX7_comesThing cX7_comesThing 4 (some .boolean) ⟨1, 0, 0, 21⟩ [.ref (m 0), .int a, .int b, .int c] ([ml m cI S M]) (PI (b2i (false)) ([ml m cI S M])) := by
  refine CT.of RX7 rfl (by decide +kernel) (Nat.le_of_ble_eq_true rfl) [(0, .ref (m 0)), (1, .int a), (2, .int b), (3, .int c)] rfl (fun x X Rr hnm => ?_)
  have hth := hS.th
  have hpe := hS.pe
  refine G.al X dX7_comesThing_0 0 rfl ?_
  refine G.il X dX7_comesThing_1 3 rfl ?_
  refine G.cvi X kX7_isOne lX7_106 dX7_comesThing_2 (tX7_isOne l D cI cW m S M c) ⟨Nat.le_of_ble_eq_true rfl, Nat.le_of_ble_eq_true rfl⟩ ⟨Nat.zero_le _, Nat.zero_le _⟩ [0] rfl ⟨rfl, rfl⟩ rfl rfl 0 0 rfl rfl rfl rfl (Nat.le_of_ble_eq_true rfl) (ff_cons (ml_fst _ _ _ _ _ _) (ff_nil)) (ws' := [ml m cI S M]) rfl ?_
  refine G.b_eq X dX7_comesThing_5 (fun b5 => ?_) (fun b5 => ?_)
  · refine G.pu X dX7_comesThing_17 ?_
    exact G.zret X Rr (v := 0) (Or.inl rfl) dX7_comesThing_18 (pi_mk (by rfl) (by rfl))
  · refine G.al X dX7_comesThing_8 0 rfl ?_
    refine G.get X fX7_58 dX7_comesThing_9 0 0 rfl rfl rfl ?_
    refine G.pu X dX7_comesThing_12 ?_
    refine G.n_ne X (a := s_th S) (b := 9) (by omega) (by omega) dX7_comesThing_14 (fun b14 => absurd ((by have := hb.resolve_right (by rw [b5]; decide); omega)) b14) (fun b14 => ?_)
    refine G.pu X dX7_comesThing_17 ?_
    exact G.zret X Rr (v := 0) (Or.inl rfl) dX7_comesThing_18 (pi_mk (by rfl) (by rfl))

set_option maxRecDepth 20000 in
theorem tX7_comesTopic_ok (l : Launch) (D : va_G) (cI cW : ClassId) (m : Nat → Nat) (S : WS) (M : MS) (p : Nat) (t : Int32) (hS : Ok S) (hp : p < s_pe S) (ht : t < 8) : CT l D cI cW yX7_comesTopic cX7_comesTopic 3 (some .boolean) ⟨1, 0, 0, 21⟩ [.ref (m 0), .int (nI p), .int t] ([ml m cI S M]) (PI (b2i (true)) ([ml m cI (w_lrn S p t) M])) := by
  refine CT.of RX7 rfl (by decide +kernel) (Nat.le_of_ble_eq_true rfl) [(0, .ref (m 0)), (1, .int (nI p)), (2, .int t)] rfl (fun x X Rr hnm => ?_)
  have hth := hS.th
  have hpe := hS.pe
  refine G.al X dX7_comesTopic_0 0 rfl ?_
  refine G.il X dX7_comesTopic_1 1 rfl ?_
  refine G.cvi X kX7_isOne lX7_106 dX7_comesTopic_2 (tX7_isOne l D cI cW m S M (nI p)) ⟨Nat.le_of_ble_eq_true rfl, Nat.le_of_ble_eq_true rfl⟩ ⟨Nat.zero_le _, Nat.zero_le _⟩ [0] rfl ⟨rfl, rfl⟩ rfl rfl 0 0 rfl rfl rfl rfl (Nat.le_of_ble_eq_true rfl) (ff_cons (ml_fst _ _ _ _ _ _) (ff_nil)) (ws' := [ml m cI S M]) rfl ?_
  refine G.b_eq X dX7_comesTopic_5 (fun b5 => absurd (Eq.trans (Eq.symm (z_in_nI hp (by omega))) b5) (by decide)) (fun b5 => ?_)
  refine G.il X dX7_comesTopic_8 2 rfl ?_
  refine G.pu X dX7_comesTopic_9 ?_
  refine G.c_lt X (a := t) (b := 8) dX7_comesTopic_11 (fun b11 => ?_) (fun b11 => absurd (ht) b11)
  refine G.al X dX7_comesTopic_16 0 rfl ?_
  refine G.get X fX7_13 dX7_comesTopic_17 0 0 rfl rfl rfl ?_
  refine G.il X dX7_comesTopic_20 1 rfl ?_
  refine G.dup2 X dX7_comesTopic_21 ?_
  refine G.nld X (i := p) dX7_comesTopic_22 0 2 rfl rfl (by omega) (by decide) ?_
  refine G.pu X dX7_comesTopic_23 ?_
  refine G.il X dX7_comesTopic_24 2 rfl ?_
  refine G.ishl X dX7_comesTopic_25 ?_
  refine G.ixor X dX7_comesTopic_26 ?_
  refine G.nst X (i := p) dX7_comesTopic_27 0 2 rfl rfl (by omega) (by decide) (blk' := ml m cI (s_pe S, s_th S, s_da S, s_dr S, upd (s_kn S) p (((s_kn S) p) ^^^ (1 <<< (t &&& 31))), s_sh S, s_an S, s_ki S, s_we S, s_dp S, s_wa S, s_le S) M) rfl (ws' := [ml m cI (s_pe S, s_th S, s_da S, s_dr S, upd (s_kn S) p (((s_kn S) p) ^^^ (1 <<< (t &&& 31))), s_sh S, s_an S, s_ki S, s_we S, s_dp S, s_wa S, s_le S) M]) rfl ?_
  refine G.pu X dX7_comesTopic_28 ?_
  exact G.zret X Rr (v := 1) (Or.inr rfl) dX7_comesTopic_29 (pi_mk (by rfl) (by rfl))

set_option maxRecDepth 20000 in
theorem tX7_comesTopic_bad (l : Launch) (D : va_G) (cI cW : ClassId) (m : Nat → Nat) (S : WS) (M : MS) (p : Int32) (t : Int32) (hS : Ok S) (hp : z_in p (s_pe S) = false ∨ ¬ t < 8) : CT l D cI cW yX7_comesTopic cX7_comesTopic 3 (some .boolean) ⟨1, 0, 0, 21⟩ [.ref (m 0), .int p, .int t] ([ml m cI S M]) (PI (b2i (false)) ([ml m cI S M])) := by
  refine CT.of RX7 rfl (by decide +kernel) (Nat.le_of_ble_eq_true rfl) [(0, .ref (m 0)), (1, .int p), (2, .int t)] rfl (fun x X Rr hnm => ?_)
  have hth := hS.th
  have hpe := hS.pe
  refine G.al X dX7_comesTopic_0 0 rfl ?_
  refine G.il X dX7_comesTopic_1 1 rfl ?_
  refine G.cvi X kX7_isOne lX7_106 dX7_comesTopic_2 (tX7_isOne l D cI cW m S M p) ⟨Nat.le_of_ble_eq_true rfl, Nat.le_of_ble_eq_true rfl⟩ ⟨Nat.zero_le _, Nat.zero_le _⟩ [0] rfl ⟨rfl, rfl⟩ rfl rfl 0 0 rfl rfl rfl rfl (Nat.le_of_ble_eq_true rfl) (ff_cons (ml_fst _ _ _ _ _ _) (ff_nil)) (ws' := [ml m cI S M]) rfl ?_
  refine G.b_eq X dX7_comesTopic_5 (fun b5 => ?_) (fun b5 => ?_)
  · refine G.pu X dX7_comesTopic_14 ?_
    exact G.zret X Rr (v := 0) (Or.inl rfl) dX7_comesTopic_15 (pi_mk (by rfl) (by rfl))
  · refine G.il X dX7_comesTopic_8 2 rfl ?_
    refine G.pu X dX7_comesTopic_9 ?_
    refine G.c_lt X (a := t) (b := 8) dX7_comesTopic_11 (fun b11 => absurd b11 ((hp.resolve_left (by rw [b5]; decide)))) (fun b11 => ?_)
    refine G.pu X dX7_comesTopic_14 ?_
    exact G.zret X Rr (v := 0) (Or.inl rfl) dX7_comesTopic_15 (pi_mk (by rfl) (by rfl))

set_option maxRecDepth 20000 in
theorem tX7_comesDays_ok (l : Launch) (D : va_G) (cI cW : ClassId) (m : Nat → Nat) (S : WS) (M : MS) (n : Nat) (hS : Ok S) (hco : m_co M = false) (h1 : 1 ≤ n) (h2 : n ≤ 60) (h3 : ¬ 999 < s_da S + nI n) : CT l D cI cW yX7_comesDays cX7_comesDays 2 (some .boolean) ⟨5, 0, 0, 108⟩ [.ref (m 0), .int (nI n)] ([ml m cI S M]) (PI (b2i (true)) ([ml m cI (w_dayN S n) M])) := by
  refine CT.of RX7 rfl (by decide +kernel) (Nat.le_of_ble_eq_true rfl) [(0, .ref (m 0)), (1, .int (nI n))] rfl (fun x X Rr hnm => ?_)
  have hth := hS.th
  have hpe := hS.pe
  refine G.il X dX7_comesDays_0 1 rfl ?_
  refine G.pu X dX7_comesDays_1 ?_
  refine G.pu X dX7_comesDays_2 ?_
  refine G.csti X kX7_isIn lX7_85 dX7_comesDays_4 (tX7_isIn_yes l D cI cW n 1 60 h1 h2 (by omega)) ⟨Nat.le_of_ble_eq_true rfl, Nat.le_of_ble_eq_true rfl⟩ ⟨Nat.zero_le _, Nat.zero_le _⟩ [] rfl ⟨rfl, rfl⟩ rfl rfl rfl (Nat.le_of_ble_eq_true rfl) (ff_nil) (ws' := [ml m cI S M]) rfl ?_
  refine G.b_eq X dX7_comesDays_7 (fun b7 => absurd b7 (by decide)) (fun b7 => ?_)
  refine G.al X dX7_comesDays_10 0 rfl ?_
  refine G.get X fX7_113 dX7_comesDays_11 0 0 rfl rfl rfl ?_
  refine G.il X dX7_comesDays_14 1 rfl ?_
  refine G.iadd X dX7_comesDays_15 ?_
  refine G.pu X dX7_comesDays_16 ?_
  refine G.c_le X (a := ((s_da S) + (nI n))) (b := 999) dX7_comesDays_19 (fun b19 => ?_) (fun b19 => absurd b19 (h3))
  refine G.al X dX7_comesDays_24 0 rfl ?_
  refine G.il X dX7_comesDays_25 1 rfl ?_
  refine G.cvv X kX7_goes lX7_116 dX7_comesDays_26 (tX7_goes l D cI cW m S M n hS hco (by omega)) ⟨Nat.le_of_ble_eq_true rfl, Nat.le_of_ble_eq_true rfl⟩ ⟨Nat.zero_le _, Nat.zero_le _⟩ [0] rfl ⟨rfl, rfl⟩ rfl rfl 0 0 rfl rfl rfl rfl (Nat.le_of_ble_eq_true rfl) (ff_cons (ml_fst _ _ _ _ _ _) (ff_nil)) (ws' := [ml m cI (w_dayN S n) M]) rfl ?_
  refine G.pu X dX7_comesDays_29 ?_
  exact G.zret X Rr (v := 1) (Or.inr rfl) dX7_comesDays_30 (pi_mk (by rfl) (by rfl))

set_option maxRecDepth 20000 in
theorem tX7_comesDays_bad (l : Launch) (D : va_G) (cI cW : ClassId) (m : Nat → Nat) (S : WS) (M : MS) (n : Int32) (hS : Ok S) (h1 : n < 1 ∨ 60 < n ∨ 999 < s_da S + n) : CT l D cI cW yX7_comesDays cX7_comesDays 2 (some .boolean) ⟨1, 0, 0, 22⟩ [.ref (m 0), .int n] ([ml m cI S M]) (PI (b2i (false)) ([ml m cI S M])) := by
  refine CT.of RX7 rfl (by decide +kernel) (Nat.le_of_ble_eq_true rfl) [(0, .ref (m 0)), (1, .int n)] rfl (fun x X Rr hnm => ?_)
  have hth := hS.th
  have hpe := hS.pe
  refine G.il X dX7_comesDays_0 1 rfl ?_
  refine G.pu X dX7_comesDays_1 ?_
  refine G.pu X dX7_comesDays_2 ?_
  refine G.csti X kX7_isIn lX7_85 dX7_comesDays_4 (tX7_isIn l D cI cW n 1 60) ⟨Nat.le_of_ble_eq_true rfl, Nat.le_of_ble_eq_true rfl⟩ ⟨Nat.zero_le _, Nat.zero_le _⟩ [] rfl ⟨rfl, rfl⟩ rfl rfl rfl (Nat.le_of_ble_eq_true rfl) (ff_nil) (ws' := [ml m cI S M]) rfl ?_
  refine G.b_eq X dX7_comesDays_7 (fun b7 => ?_) (fun b7 => ?_)
  · refine G.pu X dX7_comesDays_22 ?_
    exact G.zret X Rr (v := 0) (Or.inl rfl) dX7_comesDays_23 (pi_mk (by rfl) (by rfl))
  · refine G.al X dX7_comesDays_10 0 rfl ?_
    refine G.get X fX7_113 dX7_comesDays_11 0 0 rfl rfl rfl ?_
    refine G.il X dX7_comesDays_14 1 rfl ?_
    refine G.iadd X dX7_comesDays_15 ?_
    refine G.pu X dX7_comesDays_16 ?_
    refine G.c_le X (a := ((s_da S) + n)) (b := 999) dX7_comesDays_19 (fun b19 => absurd b19 ((by grind [z_bt]))) (fun b19 => ?_)
    refine G.pu X dX7_comesDays_22 ?_
    exact G.zret X Rr (v := 0) (Or.inl rfl) dX7_comesDays_23 (pi_mk (by rfl) (by rfl))

set_option maxRecDepth 20000 in
theorem tX7_comes (l : Launch) (D : va_G) (cI cW : ClassId) (m : Nat → Nat) (S : WS) (M : MS) (k : Nat) (hS : Ok S) (hco : m_co M = false) (hk : k < 48) : CT l D cI cW yX7_comes cX7_comes 3 (some .boolean) ⟨6, 0, 0, 129⟩ [.ref (m 0), .int (nI k)] ([ml m cI S M]) (PI (b2i ((p_com (m_lt M k) (m_to M (3 * k)) (m_to M (3 * k + 1)) (m_to M (3 * k + 2)) S).1)) ([ml m cI ((p_com (m_lt M k) (m_to M (3 * k)) (m_to M (3 * k + 1)) (m_to M (3 * k + 2)) S).2) M])) := by
  refine CT.of RX7 rfl (by decide +kernel) (Nat.le_of_ble_eq_true rfl) [(0, .ref (m 0)), (1, .int (nI k))] rfl (fun x X Rr hnm => ?_)
  have hth := hS.th
  have hpe := hS.pe
  refine G.pu X dX7_comes_0 ?_
  refine G.il X dX7_comes_1 1 rfl ?_
  refine G.imul X dX7_comes_2 ?_
  refine G.top (b := nI (3 * k)) (nI_mulc 3 k) ?_
  refine G.is X dX7_comes_3 (by decide) (lv' := [(2, .int (nI (3 * k))), (0, .ref (m 0)), (1, .int (nI k))]) rfl ?_
  refine G.al X dX7_comes_4 1 rfl ?_
  refine G.get X fX7_40 dX7_comes_5 0 0 rfl rfl rfl ?_
  refine G.il X dX7_comes_8 2 rfl ?_
  refine G.nld X (i := k) dX7_comes_9 0 11 rfl rfl (by omega) (by decide) ?_
  by_cases h10_97 : ((m_lt M) k) = 97
  · refine G.lk X dX7_comes_10 (96) 106 (by rw [h10_97]; decide) (by decide) ?_
    refine G.al X dX7_comes_106 1 rfl ?_
    refine G.al X dX7_comes_107 1 rfl ?_
    refine G.get X fX7_46 dX7_comes_108 0 0 rfl rfl rfl ?_
    refine G.il X dX7_comes_111 0 rfl ?_
    refine G.nld X (i := 3 * k) dX7_comes_112 0 13 rfl rfl (by omega) (by decide) ?_
    refine G.cvi X kX7_isThing lX7_126 dX7_comes_113 (tX7_isThing l D cI cW m S M ((m_to M) (3 * k))) ⟨Nat.le_of_ble_eq_true rfl, Nat.le_of_ble_eq_true rfl⟩ ⟨Nat.zero_le _, Nat.zero_le _⟩ [0] rfl ⟨rfl, rfl⟩ rfl rfl 0 0 rfl rfl rfl rfl (Nat.le_of_ble_eq_true rfl) (ff_cons (ml_fst _ _ _ _ _ _) (ff_nil)) (ws' := [ml m cI S M]) rfl ?_
    refine G.b_ne X dX7_comes_116 (fun b116 => ?_) (fun b116 => ?_)
    · refine G.al X dX7_comes_121 1 rfl ?_
      refine G.al X dX7_comes_122 1 rfl ?_
      refine G.get X fX7_46 dX7_comes_123 0 0 rfl rfl rfl ?_
      refine G.il X dX7_comes_126 0 rfl ?_
      refine G.nld X (i := 3 * k) dX7_comes_127 0 13 rfl rfl (by omega) (by decide) ?_
      obtain ⟨j, hj, ej⟩ := z_in_t b116
      have cj : (m_to M (3 * k)).toNatClampNeg = j := by rw [ej]; exact nI_clamp (by omega)
      rw [ej]
      refine G.cvv X kX7_falls lX7_129 dX7_comes_128 (tX7_falls l D cI cW m S M j (by omega)) ⟨Nat.le_of_ble_eq_true rfl, Nat.le_of_ble_eq_true rfl⟩ ⟨Nat.zero_le _, Nat.zero_le _⟩ [0] rfl ⟨rfl, rfl⟩ rfl rfl 0 0 rfl rfl rfl rfl (Nat.le_of_ble_eq_true rfl) (ff_cons (ml_fst _ _ _ _ _ _) (ff_nil)) (ws' := [ml m cI (w_fall S j) M]) rfl ?_
      refine G.pu X dX7_comes_131 ?_
      exact G.zret X Rr (v := 1) (Or.inr rfl) dX7_comes_132 (pi_mk (by simp [-Int32.not_lt, p_com, b2i, h10_97, b116, cj]) (by simp [-Int32.not_lt, p_com, w_dr, h10_97, b116, cj]; try rfl))
    · refine G.pu X dX7_comes_119 ?_
      exact G.zret X Rr (v := 0) (Or.inl rfl) dX7_comes_120 (pi_mk (by simp [-Int32.not_lt, p_com, b2i, h10_97, b116]) (by simp [-Int32.not_lt, p_com, w_dr, h10_97, b116]; try rfl))
  by_cases h10_107 : ((m_lt M) k) = 107
  · refine G.lk X dX7_comes_10 (123) 133 (by rw [h10_107]; decide) (by decide) ?_
    refine G.al X dX7_comes_133 1 rfl ?_
    refine G.al X dX7_comes_134 1 rfl ?_
    refine G.get X fX7_46 dX7_comes_135 0 0 rfl rfl rfl ?_
    refine G.il X dX7_comes_138 0 rfl ?_
    refine G.nld X (i := 3 * k) dX7_comes_139 0 13 rfl rfl (by omega) (by decide) ?_
    refine G.al X dX7_comes_140 1 rfl ?_
    refine G.get X fX7_46 dX7_comes_141 0 0 rfl rfl rfl ?_
    refine G.il X dX7_comes_144 0 rfl ?_
    refine G.pu X dX7_comes_145 ?_
    refine G.nadd X (a := 3 * k) (b := 1) dX7_comes_146 ?_
    refine G.nld X (i := (3 * k) + 1) dX7_comes_147 0 13 rfl rfl (by omega) (by decide) ?_
    by_cases hc : z_in (m_to M (3 * k)) (s_pe S) = true ∧ m_to M (3 * k + 1) < 8
    · obtain ⟨j, hj, ej⟩ := z_in_t hc.1
      have cj : (m_to M (3 * k)).toNatClampNeg = j := by rw [ej]; exact nI_clamp (by omega)
      rw [ej]
      refine G.cvi X kX7_comesTopic lX7_132 dX7_comes_148 (tX7_comesTopic_ok l D cI cW m S M j ((m_to M) ((3 * k) + 1)) hS hj hc.2) ⟨Nat.le_of_ble_eq_true rfl, Nat.le_of_ble_eq_true rfl⟩ ⟨Nat.zero_le _, Nat.zero_le _⟩ [0] rfl ⟨rfl, rfl⟩ rfl rfl 0 0 rfl rfl rfl rfl (Nat.le_of_ble_eq_true rfl) (ff_cons (ml_fst _ _ _ _ _ _) (ff_nil)) (ws' := [ml m cI (w_lrn S j ((m_to M) ((3 * k) + 1))) M]) rfl ?_
      exact G.bret X Rr dX7_comes_151 (pi_mk (by simp [-Int32.not_lt, p_com, b2i, h10_107, hc, cj]) (by simp [-Int32.not_lt, p_com, w_dr, h10_107, hc, cj]; try rfl))
    refine G.cvi X kX7_comesTopic lX7_132 dX7_comes_148 (tX7_comesTopic_bad l D cI cW m S M ((m_to M) (3 * k)) ((m_to M) ((3 * k) + 1)) hS ((Decidable.not_and_iff_not_or_not.mp hc).imp (fun h => by simpa using h) id)) ⟨Nat.le_of_ble_eq_true rfl, Nat.le_of_ble_eq_true rfl⟩ ⟨Nat.zero_le _, Nat.zero_le _⟩ [0] rfl ⟨rfl, rfl⟩ rfl rfl 0 0 rfl rfl rfl rfl (Nat.le_of_ble_eq_true rfl) (ff_cons (ml_fst _ _ _ _ _ _) (ff_nil)) (ws' := [ml m cI S M]) rfl ?_
    exact G.bret X Rr dX7_comes_151 (pi_mk (by simp [-Int32.not_lt, p_com, b2i, h10_107, hc]) (by simp [-Int32.not_lt, p_com, w_dr, h10_107, hc]; try rfl))
  by_cases h10_111 : ((m_lt M) k) = 111
  · refine G.lk X dX7_comes_10 (142) 152 (by rw [h10_111]; decide) (by decide) ?_
    refine G.al X dX7_comes_152 1 rfl ?_
    refine G.al X dX7_comes_153 1 rfl ?_
    refine G.get X fX7_46 dX7_comes_154 0 0 rfl rfl rfl ?_
    refine G.il X dX7_comes_157 0 rfl ?_
    refine G.nld X (i := 3 * k) dX7_comes_158 0 13 rfl rfl (by omega) (by decide) ?_
    refine G.puti X fX7_135 fe7 dX7_comes_159 rfl rfl 0 0 rfl rfl (Nat.le_of_ble_eq_true rfl) (blk' := ml m cI (s_pe S, s_th S, s_da S, (m_to M) (3 * k), s_kn S, s_sh S, s_an S, s_ki S, s_we S, s_dp S, s_wa S, s_le S) M) rfl (ws' := [ml m cI (s_pe S, s_th S, s_da S, (m_to M) (3 * k), s_kn S, s_sh S, s_an S, s_ki S, s_we S, s_dp S, s_wa S, s_le S) M]) rfl ?_
    refine G.pu X dX7_comes_162 ?_
    exact G.zret X Rr (v := 1) (Or.inr rfl) dX7_comes_163 (pi_mk (by simp [-Int32.not_lt, p_com, b2i, h10_111]) (by simp [-Int32.not_lt, p_com, w_dr, h10_111]; try rfl))
  by_cases h10_112 : ((m_lt M) k) = 112
  · refine G.lk X dX7_comes_10 (50) 60 (by rw [h10_112]; decide) (by decide) ?_
    refine G.al X dX7_comes_60 1 rfl ?_
    refine G.al X dX7_comes_61 1 rfl ?_
    refine G.get X fX7_46 dX7_comes_62 0 0 rfl rfl rfl ?_
    refine G.il X dX7_comes_65 0 rfl ?_
    refine G.nld X (i := 3 * k) dX7_comes_66 0 13 rfl rfl (by omega) (by decide) ?_
    refine G.al X dX7_comes_67 1 rfl ?_
    refine G.get X fX7_46 dX7_comes_68 0 0 rfl rfl rfl ?_
    refine G.il X dX7_comes_71 0 rfl ?_
    refine G.pu X dX7_comes_72 ?_
    refine G.nadd X (a := 3 * k) (b := 1) dX7_comes_73 ?_
    refine G.nld X (i := (3 * k) + 1) dX7_comes_74 0 13 rfl rfl (by omega) (by decide) ?_
    by_cases hc : s_pe S < 5 ∧ ¬ 255 < m_to M (3 * k + 1)
    · refine G.cvi X kX7_comesOne lX7_120 dX7_comes_75 (tX7_comesOne_ok l D cI cW m S M ((m_to M) (3 * k)) ((m_to M) ((3 * k) + 1)) hc.1 hc.2) ⟨Nat.le_of_ble_eq_true rfl, Nat.le_of_ble_eq_true rfl⟩ ⟨Nat.zero_le _, Nat.zero_le _⟩ [0] rfl ⟨rfl, rfl⟩ rfl rfl 0 0 rfl rfl rfl rfl (Nat.le_of_ble_eq_true rfl) (ff_cons (ml_fst _ _ _ _ _ _) (ff_nil)) (ws' := [ml m cI (w_one S ((m_to M) (3 * k)) ((m_to M) ((3 * k) + 1))) M]) rfl ?_
      exact G.bret X Rr dX7_comes_78 (pi_mk (by simp [-Int32.not_lt, p_com, b2i, h10_112, hc]) (by simp [-Int32.not_lt, p_com, w_dr, h10_112, hc]; try rfl))
    refine G.cvi X kX7_comesOne lX7_120 dX7_comes_75 (tX7_comesOne_bad l D cI cW m S M ((m_to M) (3 * k)) ((m_to M) ((3 * k) + 1)) hS ((Decidable.not_and_iff_not_or_not.mp hc).imp id Decidable.not_not.mp)) ⟨Nat.le_of_ble_eq_true rfl, Nat.le_of_ble_eq_true rfl⟩ ⟨Nat.zero_le _, Nat.zero_le _⟩ [0] rfl ⟨rfl, rfl⟩ rfl rfl 0 0 rfl rfl rfl rfl (Nat.le_of_ble_eq_true rfl) (ff_cons (ml_fst _ _ _ _ _ _) (ff_nil)) (ws' := [ml m cI S M]) rfl ?_
    exact G.bret X Rr dX7_comes_78 (pi_mk (by simp [-Int32.not_lt, p_com, b2i, h10_112, hc]) (by simp [-Int32.not_lt, p_com, w_dr, h10_112, hc]; try rfl))
  by_cases h10_116 : ((m_lt M) k) = 116
  · refine G.lk X dX7_comes_10 (69) 79 (by rw [h10_116]; decide) (by decide) ?_
    refine G.al X dX7_comes_79 1 rfl ?_
    refine G.al X dX7_comes_80 1 rfl ?_
    refine G.get X fX7_46 dX7_comes_81 0 0 rfl rfl rfl ?_
    refine G.il X dX7_comes_84 0 rfl ?_
    refine G.nld X (i := 3 * k) dX7_comes_85 0 13 rfl rfl (by omega) (by decide) ?_
    refine G.al X dX7_comes_86 1 rfl ?_
    refine G.get X fX7_46 dX7_comes_87 0 0 rfl rfl rfl ?_
    refine G.il X dX7_comes_90 0 rfl ?_
    refine G.pu X dX7_comes_91 ?_
    refine G.nadd X (a := 3 * k) (b := 1) dX7_comes_92 ?_
    refine G.nld X (i := (3 * k) + 1) dX7_comes_93 0 13 rfl rfl (by omega) (by decide) ?_
    refine G.al X dX7_comes_94 1 rfl ?_
    refine G.get X fX7_46 dX7_comes_95 0 0 rfl rfl rfl ?_
    refine G.il X dX7_comes_98 0 rfl ?_
    refine G.pu X dX7_comes_99 ?_
    refine G.nadd X (a := 3 * k) (b := 2) dX7_comes_100 ?_
    refine G.nld X (i := (3 * k) + 2) dX7_comes_101 0 13 rfl rfl (by omega) (by decide) ?_
    by_cases hc : s_th S < 9 ∧ z_in (m_to M (3 * k + 2)) (s_pe S) = true
    · refine G.cvi X kX7_comesThing lX7_123 dX7_comes_102 (tX7_comesThing_ok l D cI cW m S M ((m_to M) (3 * k)) ((m_to M) ((3 * k) + 1)) ((m_to M) ((3 * k) + 2)) hc.1 hc.2) ⟨Nat.le_of_ble_eq_true rfl, Nat.le_of_ble_eq_true rfl⟩ ⟨Nat.zero_le _, Nat.zero_le _⟩ [0] rfl ⟨rfl, rfl⟩ rfl rfl 0 0 rfl rfl rfl rfl (Nat.le_of_ble_eq_true rfl) (ff_cons (ml_fst _ _ _ _ _ _) (ff_nil)) (ws' := [ml m cI (w_add S ((m_to M) (3 * k)) ((m_to M) ((3 * k) + 1)) ((m_to M) ((3 * k) + 2))) M]) rfl ?_
      exact G.bret X Rr dX7_comes_105 (pi_mk (by simp [-Int32.not_lt, p_com, b2i, h10_116, hc]) (by simp [-Int32.not_lt, p_com, w_dr, h10_116, hc]; try rfl))
    refine G.cvi X kX7_comesThing lX7_123 dX7_comes_102 (tX7_comesThing_bad l D cI cW m S M ((m_to M) (3 * k)) ((m_to M) ((3 * k) + 1)) ((m_to M) ((3 * k) + 2)) hS ((Decidable.not_and_iff_not_or_not.mp hc).imp id (fun h => by simpa using h))) ⟨Nat.le_of_ble_eq_true rfl, Nat.le_of_ble_eq_true rfl⟩ ⟨Nat.zero_le _, Nat.zero_le _⟩ [0] rfl ⟨rfl, rfl⟩ rfl rfl 0 0 rfl rfl rfl rfl (Nat.le_of_ble_eq_true rfl) (ff_cons (ml_fst _ _ _ _ _ _) (ff_nil)) (ws' := [ml m cI S M]) rfl ?_
    exact G.bret X Rr dX7_comes_105 (pi_mk (by simp [-Int32.not_lt, p_com, b2i, h10_116, hc]) (by simp [-Int32.not_lt, p_com, w_dr, h10_116, hc]; try rfl))
  refine G.lk X dX7_comes_10 (154) 164 (by show Op.lookupswitch.offset [(97, 96), (107, 123), (111, 142), (112, 50), (116, 69)] 154 (Int32.toInt ((m_lt M) k)) = 154; rw [lv_osw (k := 97) (a := 97) h10_97 rfl, lv_osw (k := 107) (a := 107) h10_107 rfl, lv_osw (k := 111) (a := 111) h10_111 rfl, lv_osw (k := 112) (a := 112) h10_112 rfl, lv_osw (k := 116) (a := 116) h10_116 rfl]; rfl) (by decide) ?_
  refine G.al X dX7_comes_164 1 rfl ?_
  refine G.al X dX7_comes_165 1 rfl ?_
  refine G.get X fX7_46 dX7_comes_166 0 0 rfl rfl rfl ?_
  refine G.il X dX7_comes_169 0 rfl ?_
  refine G.nld X (i := 3 * k) dX7_comes_170 0 13 rfl rfl (by omega) (by decide) ?_
  by_cases hc : ¬ m_to M (3 * k) < 1 ∧ ¬ 60 < m_to M (3 * k) ∧ ¬ 999 < s_da S + m_to M (3 * k)
  · obtain ⟨j, hj, ej⟩ := n_in60 hc.1 hc.2.1
    have cj : (m_to M (3 * k)).toNatClampNeg = j := by rw [ej]; exact nI_clamp (by omega)
    rw [ej]
    refine G.cvi X kX7_comesDays lX7_138 dX7_comes_171 (tX7_comesDays_ok l D cI cW m S M j hS hco hj.1 hj.2 (by rw [← ej]; exact hc.2.2)) ⟨Nat.le_of_ble_eq_true rfl, Nat.le_of_ble_eq_true rfl⟩ ⟨Nat.zero_le _, Nat.zero_le _⟩ [0] rfl ⟨rfl, rfl⟩ rfl rfl 0 0 rfl rfl rfl rfl (Nat.le_of_ble_eq_true rfl) (ff_cons (ml_fst _ _ _ _ _ _) (ff_nil)) (ws' := [ml m cI (w_dayN S j) M]) rfl ?_
    exact G.bret X Rr dX7_comes_174 (pi_mk (by simp [-Int32.not_lt, p_com, b2i, h10_97, h10_107, h10_111, h10_112, h10_116, hc, cj]) (by simp [-Int32.not_lt, p_com, w_dr, h10_97, h10_107, h10_111, h10_112, h10_116, hc, cj]; try rfl))
  refine G.cvi X kX7_comesDays lX7_138 dX7_comes_171 (tX7_comesDays_bad l D cI cW m S M ((m_to M) (3 * k)) hS (by grind)) ⟨Nat.le_of_ble_eq_true rfl, Nat.le_of_ble_eq_true rfl⟩ ⟨Nat.zero_le _, Nat.zero_le _⟩ [0] rfl ⟨rfl, rfl⟩ rfl rfl 0 0 rfl rfl rfl rfl (Nat.le_of_ble_eq_true rfl) (ff_cons (ml_fst _ _ _ _ _ _) (ff_nil)) (ws' := [ml m cI S M]) rfl ?_
  exact G.bret X Rr dX7_comes_174 (pi_mk (by simp [-Int32.not_lt, p_com, b2i, h10_97, h10_107, h10_111, h10_112, h10_116, hc]) (by simp [-Int32.not_lt, p_com, w_dr, h10_97, h10_107, h10_111, h10_112, h10_116, hc]; try rfl))
