set_option maxRecDepth 20000 in
theorem tX7_isSo (l : Launch) (D : va_G) (cI cW : ClassId) (m : Nat → Nat) (S : WS) (M : MS) (t : Nat) (hS : Ok S) (hco : m_co M = false) (ht : t < s_th S) (hq : m_rn M ≤ 16) : CT l D cI cW yX7_isSo cX7_isSo 4 (some .boolean) ⟨4, 0, 0, 86⟩ [.ref (m 0), .int (nI t)] ([ml m cI S M]) (PIE (b2i (m_so S t (m_rw M, m_rn M))) (fun M9 : {M9 : MS // Mq 128 M M9} => [ml m cI S M9.1])) := by
  refine CT.of RX7 rfl (by decide +kernel) (Nat.le_of_ble_eq_true rfl) [(0, .ref (m 0)), (1, .int (nI t))] rfl (fun x X Rr hnm => ?_)
  have hth := hS.th
  have hpe := hS.pe
  refine G.al X dX7_isSo_0 0 rfl ?_
  refine G.cvv X kX7_thinks lX7_211 dX7_isSo_1 (tX7_thinks l D cI cW m S M) ⟨Nat.le_of_ble_eq_true rfl, Nat.le_of_ble_eq_true rfl⟩ ⟨Nat.zero_le _, Nat.zero_le _⟩ [0] rfl ⟨rfl, rfl⟩ rfl rfl 0 0 rfl rfl rfl rfl (Nat.le_of_ble_eq_true rfl) (ff_cons (ml_fst _ _ _ _ _ _) (ff_nil)) (ws' := [ml m cI S (m_kpa M 128 S)]) rfl ?_
  refine G.al X dX7_isSo_4 0 rfl ?_
  refine G.il X dX7_isSo_5 1 rfl ?_
  refine G.cvv X kX7_falls lX7_129 dX7_isSo_6 (tX7_falls l D cI cW m S (m_kpa M 128 S) t (by omega)) ⟨Nat.le_of_ble_eq_true rfl, Nat.le_of_ble_eq_true rfl⟩ ⟨Nat.zero_le _, Nat.zero_le _⟩ [0] rfl ⟨rfl, rfl⟩ rfl rfl 0 0 rfl rfl rfl rfl (Nat.le_of_ble_eq_true rfl) (ff_cons (ml_fst _ _ _ _ _ _) (ff_nil)) (ws' := [ml m cI (w_fall S t) (m_kpa M 128 S)]) rfl ?_
  refine G.pu X dX7_isSo_9 ?_
  refine G.is X dX7_isSo_10 (by decide) (lv' := [(2, .int 1), (0, .ref (m 0)), (1, .int (nI t))]) rfl ?_
  refine G.pu X dX7_isSo_11 ?_
  refine G.is X dX7_isSo_12 (by decide) (lv' := [(3, .int 0), (2, .int 1), (0, .ref (m 0)), (1, .int (nI t))]) rfl ?_
  have L13 : ∀ k, k ≤ m_rn M → (∀ j, j < k → (fun d => decide (s_le (w_dayN (w_fall S t) d) t = m_rw M d)) j = true) → G x 0 0 ([ml m cI (w_dayN (w_fall S t) k) (m_kpa M 128 S)]) 13 [(3, .int (nI k)), (2, .int 1), (0, .ref (m 0)), (1, .int (nI t))] [] := by
    refine loop_dn (m_rn M) _ ?_ ?_
    · intro hinv13
      refine G.il X dX7_isSo_13 0 rfl ?_
      refine G.al X dX7_isSo_14 2 rfl ?_
      refine G.get X fX7_282 dX7_isSo_15 0 0 rfl rfl rfl ?_
      refine G.top (b := nI (m_rn M)) rfl ?_
      refine G.n_ge X (a := m_rn M) (b := m_rn M) (by omega) (by omega) dX7_isSo_18 (fun b18 => ?_) (fun b18 => absurd b18 (by omega))
      refine G.al X dX7_isSo_56 2 rfl ?_
      refine G.cvv X kX7_forgets lX7_214 dX7_isSo_57 (tX7_forgets l D cI cW m (w_dayN (w_fall S t) (m_rn M)) (m_kpa M 128 S) S (kpall_KP _ 128 S)) ⟨Nat.le_of_ble_eq_true rfl, Nat.le_of_ble_eq_true rfl⟩ ⟨Nat.zero_le _, Nat.zero_le _⟩ [0] rfl ⟨rfl, rfl⟩ rfl rfl 0 0 rfl rfl rfl rfl (Nat.le_of_ble_eq_true rfl) (ff_cons (ml_fst _ _ _ _ _ _) (ff_nil)) (ws' := [ml m cI S (m_set (m_kpa M 128 S) 192 false)]) rfl ?_
      refine G.il X dX7_isSo_60 1 rfl ?_
      exact G.zret X Rr (v := 1) (Or.inr rfl) dX7_isSo_61 (pie_mk (qk (((Mq.rf 128 M).tr (mq_kpa M 128 S) (by decide)).tr (mq_set 128 (m_kpa M 128 S) 192 false) (Nat.le_refl _))) (by simp [m_so, b2i, allb_t (P := fun d => decide (s_le (w_dayN (w_fall S t) d) t = m_rw M d)) (n := m_rn M) hinv13]) (by rfl))
    · intro k hk ih13 hinv13
      have hT : Ok (w_dayN (w_fall S t) k) := ok_dayN (ok_fall hS ht) k
      refine G.il X dX7_isSo_13 0 rfl ?_
      refine G.al X dX7_isSo_14 2 rfl ?_
      refine G.get X fX7_282 dX7_isSo_15 0 0 rfl rfl rfl ?_
      refine G.top (b := nI (m_rn M)) rfl ?_
      refine G.n_ge X (a := k) (b := m_rn M) (by omega) (by omega) dX7_isSo_18 (fun b18 => absurd b18 (by omega)) (fun b18 => ?_)
      refine G.il X dX7_isSo_21 1 rfl ?_
      refine G.z_eq X (a := 1) dX7_isSo_22 (fun b22 => absurd b22 (by decide)) (fun b22 => ?_)
      refine G.al X dX7_isSo_25 2 rfl ?_
      refine G.get X fX7_34 dX7_isSo_26 0 0 rfl rfl rfl ?_
      refine G.il X dX7_isSo_29 3 rfl ?_
      refine G.nld X (i := t) dX7_isSo_30 0 9 rfl rfl (by omega) (by decide) ?_
      refine G.al X dX7_isSo_31 2 rfl ?_
      refine G.get X fX7_55 dX7_isSo_32 0 0 rfl rfl rfl ?_
      refine G.il X dX7_isSo_35 0 rfl ?_
      refine G.nld X (i := k) dX7_isSo_36 0 16 rfl rfl (by omega) (by decide) ?_
      refine G.c_ne X (a := ((s_le (w_dayN (w_fall S t) k)) t)) (b := ((m_rw (m_kpa M 128 S)) k)) dX7_isSo_37 (fun b37 => ?_) (fun b37 => ?_)
      · refine G.pu X dX7_isSo_44 ?_
        refine G.is X dX7_isSo_45 (by decide) (lv' := [(2, .int 0), (3, .int (nI k)), (0, .ref (m 0)), (1, .int (nI t))]) rfl ?_
        refine G.al X dX7_isSo_46 2 rfl ?_
        refine G.cvv X kX7_goesDay lX7_199 dX7_isSo_47 (tX7_goesDay l D cI cW m (w_dayN (w_fall S t) k) (m_kpa M 128 S) hT hco) ⟨Nat.le_of_ble_eq_true rfl, Nat.le_of_ble_eq_true rfl⟩ ⟨Nat.zero_le _, Nat.zero_le _⟩ [0] rfl ⟨rfl, rfl⟩ rfl rfl 0 0 rfl rfl rfl rfl (Nat.le_of_ble_eq_true rfl) (ff_cons (ml_fst _ _ _ _ _ _) (ff_nil)) (ws' := [ml m cI (w_day true (w_dayN (w_fall S t) k)) (m_kpa M 128 S)]) rfl ?_
        refine G.iinc X dX7_isSo_50 1 rfl (v' := nI (k + 1)) (nI_inc k) (by decide) (lv' := [(3, .int (nI (k + 1))), (2, .int 0), (0, .ref (m 0)), (1, .int (nI t))]) rfl ?_
        refine G.go X dX7_isSo_53 ?_
        refine G.il X dX7_isSo_13 0 rfl ?_
        refine G.al X dX7_isSo_14 2 rfl ?_
        refine G.get X fX7_282 dX7_isSo_15 0 0 rfl rfl rfl ?_
        refine G.top (b := nI (m_rn M)) rfl ?_
        refine G.n_ge X (a := k + 1) (b := m_rn M) (by omega) (by omega) dX7_isSo_18 (fun b18_2 => ?_) (fun b18_2 => ?_)
        · refine G.al X dX7_isSo_56 2 rfl ?_
          refine G.cvv X kX7_forgets lX7_214 dX7_isSo_57 (tX7_forgets l D cI cW m (w_day true (w_dayN (w_fall S t) k)) (m_kpa M 128 S) S (kpall_KP _ 128 S)) ⟨Nat.le_of_ble_eq_true rfl, Nat.le_of_ble_eq_true rfl⟩ ⟨Nat.zero_le _, Nat.zero_le _⟩ [0] rfl ⟨rfl, rfl⟩ rfl rfl 0 0 rfl rfl rfl rfl (Nat.le_of_ble_eq_true rfl) (ff_cons (ml_fst _ _ _ _ _ _) (ff_nil)) (ws' := [ml m cI S (m_set (m_kpa M 128 S) 192 false)]) rfl ?_
          refine G.il X dX7_isSo_60 1 rfl ?_
          exact G.zret X Rr (v := 0) (Or.inl rfl) dX7_isSo_61 (pie_mk (qk (((Mq.rf 128 M).tr (mq_kpa M 128 S) (by decide)).tr (mq_set 128 (m_kpa M 128 S) 192 false) (Nat.le_refl _))) (by have e9 : (fun d => decide (s_le (w_dayN (w_fall S t) d) t = m_rw M d)) k = false := decide_eq_false b37; simp [m_so, b2i, allb_f (P := fun d => decide (s_le (w_dayN (w_fall S t) d) t = m_rw M d)) e9 hk]) (by rfl))
        · refine G.il X dX7_isSo_21 1 rfl ?_
          refine G.z_eq X (a := 0) dX7_isSo_22 (fun b22 => ?_) (fun b22 => absurd b22 (by decide))
          refine G.al X dX7_isSo_56 2 rfl ?_
          refine G.cvv X kX7_forgets lX7_214 dX7_isSo_57 (tX7_forgets l D cI cW m (w_day true (w_dayN (w_fall S t) k)) (m_kpa M 128 S) S (kpall_KP _ 128 S)) ⟨Nat.le_of_ble_eq_true rfl, Nat.le_of_ble_eq_true rfl⟩ ⟨Nat.zero_le _, Nat.zero_le _⟩ [0] rfl ⟨rfl, rfl⟩ rfl rfl 0 0 rfl rfl rfl rfl (Nat.le_of_ble_eq_true rfl) (ff_cons (ml_fst _ _ _ _ _ _) (ff_nil)) (ws' := [ml m cI S (m_set (m_kpa M 128 S) 192 false)]) rfl ?_
          refine G.il X dX7_isSo_60 1 rfl ?_
          exact G.zret X Rr (v := 0) (Or.inl rfl) dX7_isSo_61 (pie_mk (qk (((Mq.rf 128 M).tr (mq_kpa M 128 S) (by decide)).tr (mq_set 128 (m_kpa M 128 S) 192 false) (Nat.le_refl _))) (by have e9 : (fun d => decide (s_le (w_dayN (w_fall S t) d) t = m_rw M d)) k = false := decide_eq_false b37; simp [m_so, b2i, allb_f (P := fun d => decide (s_le (w_dayN (w_fall S t) d) t = m_rw M d)) e9 hk]) (by rfl))
      · refine G.pu X dX7_isSo_40 ?_
        refine G.go X dX7_isSo_41 ?_
        refine G.is X dX7_isSo_45 (by decide) (lv' := [(2, .int 1), (3, .int (nI k)), (0, .ref (m 0)), (1, .int (nI t))]) rfl ?_
        refine G.al X dX7_isSo_46 2 rfl ?_
        refine G.cvv X kX7_goesDay lX7_199 dX7_isSo_47 (tX7_goesDay l D cI cW m (w_dayN (w_fall S t) k) (m_kpa M 128 S) hT hco) ⟨Nat.le_of_ble_eq_true rfl, Nat.le_of_ble_eq_true rfl⟩ ⟨Nat.zero_le _, Nat.zero_le _⟩ [0] rfl ⟨rfl, rfl⟩ rfl rfl 0 0 rfl rfl rfl rfl (Nat.le_of_ble_eq_true rfl) (ff_cons (ml_fst _ _ _ _ _ _) (ff_nil)) (ws' := [ml m cI (w_day true (w_dayN (w_fall S t) k)) (m_kpa M 128 S)]) rfl ?_
        refine G.iinc X dX7_isSo_50 1 rfl (v' := nI (k + 1)) (nI_inc k) (by decide) (lv' := [(3, .int (nI (k + 1))), (2, .int 1), (0, .ref (m 0)), (1, .int (nI t))]) rfl ?_
        refine G.go X dX7_isSo_53 ?_
        exact ih13 (lt_snoc hinv13 (decide_eq_true b37))
  have L13 := L13 0 (Nat.zero_le _) (fun j hj => absurd hj (by omega))
  exact L13

set_option maxRecDepth 20000 in
theorem tX7_bitsFor_5 (l : Launch) (D : va_G) (cI cW : ClassId) (m : Nat → Nat) (S : WS) (M : MS) (t : Nat) (hS : Ok S) (hco : m_co M = false) (ht : t < s_th S) (hq : m_rn M ≤ 16) : CT l D cI cW yX7_bitsFor cX7_bitsFor 7 (some .int) ⟨5, 0, 0, 109⟩ [.ref (m 0), .ref (m 5), .int (nI t), .int 6] ([ml m cI S M]) (PIE (w_fb (fun k => w_fit S t (nI k) (s_we S t) (m_rw M, m_rn M)) 6) (fun M9 : {M9 : MS // Mq 128 M M9} => [ml m cI S M9.1])) := by
  refine CT.of RX7 rfl (by decide +kernel) (Nat.le_of_ble_eq_true rfl) [(0, .ref (m 0)), (1, .ref (m 5)), (2, .int (nI t)), (3, .int 6)] rfl (fun x X Rr hnm => ?_)
  have hth := hS.th
  have hpe := hS.pe
  refine G.al X dX7_bitsFor_0 1 rfl ?_
  refine G.il X dX7_bitsFor_1 2 rfl ?_
  refine G.nld X (i := t) dX7_bitsFor_2 0 5 rfl rfl (by omega) (by decide) ?_
  refine G.is X dX7_bitsFor_3 (by decide) (lv' := [(4, .int ((s_ki S) t)), (0, .ref (m 0)), (1, .ref (m 5)), (2, .int (nI t)), (3, .int 6)]) rfl ?_
  refine G.pu X dX7_bitsFor_5 ?_
  refine G.is X dX7_bitsFor_6 (by decide) (lv' := [(5, .int 0), (4, .int ((s_ki S) t)), (0, .ref (m 0)), (1, .ref (m 5)), (2, .int (nI t)), (3, .int 6)]) rfl ?_
  refine G.pu X dX7_bitsFor_8 ?_
  refine G.is X dX7_bitsFor_9 (by decide) (lv' := [(6, .int 0), (5, .int 0), (4, .int ((s_ki S) t)), (0, .ref (m 0)), (1, .ref (m 5)), (2, .int (nI t)), (3, .int 6)]) rfl ?_
  have L11 : ∀ k, k ≤ 6 → ∀ y8 : Int32 × {M8 : MS // Mq 128 M M8}, G x 0 0 ([ml m cI (w_kw S t y8.1 (s_we S t)) y8.2.1]) 11 [(6, .int (nI k)), (5, .int (w_fb (fun k => w_fit S t (nI k) (s_we S t) (m_rw M, m_rn M)) k)), (4, .int ((s_ki S) t)), (0, .ref (m 0)), (1, .ref (m 5)), (2, .int (nI t)), (3, .int 6)] [] := by
    refine loop_dn 6 _ ?_ ?_
    · intro y8
      refine G.il X dX7_bitsFor_11 0 rfl ?_
      refine G.il X dX7_bitsFor_13 6 rfl ?_
      refine G.n_ge X (a := 6) (b := 6) (by omega) (by omega) dX7_bitsFor_14 (fun b14 => ?_) (fun b14 => absurd b14 (by omega))
      refine G.al X dX7_bitsFor_49 4 rfl ?_
      refine G.il X dX7_bitsFor_50 5 rfl ?_
      refine G.il X dX7_bitsFor_51 2 rfl ?_
      refine G.nst X (i := t) dX7_bitsFor_53 0 5 rfl rfl (by omega) (by decide) (blk' := ml m cI (s_pe (w_kw S t y8.1 (s_we S t)), s_th (w_kw S t y8.1 (s_we S t)), s_da (w_kw S t y8.1 (s_we S t)), s_dr (w_kw S t y8.1 (s_we S t)), s_kn (w_kw S t y8.1 (s_we S t)), s_sh (w_kw S t y8.1 (s_we S t)), s_an (w_kw S t y8.1 (s_we S t)), upd (s_ki (w_kw S t y8.1 (s_we S t))) t ((s_ki S) t), s_we (w_kw S t y8.1 (s_we S t)), s_dp (w_kw S t y8.1 (s_we S t)), s_wa (w_kw S t y8.1 (s_we S t)), s_le (w_kw S t y8.1 (s_we S t))) y8.2.1) rfl (ws' := [ml m cI (s_pe (w_kw S t y8.1 (s_we S t)), s_th (w_kw S t y8.1 (s_we S t)), s_da (w_kw S t y8.1 (s_we S t)), s_dr (w_kw S t y8.1 (s_we S t)), s_kn (w_kw S t y8.1 (s_we S t)), s_sh (w_kw S t y8.1 (s_we S t)), s_an (w_kw S t y8.1 (s_we S t)), upd (s_ki (w_kw S t y8.1 (s_we S t))) t ((s_ki S) t), s_we (w_kw S t y8.1 (s_we S t)), s_dp (w_kw S t y8.1 (s_we S t)), s_wa (w_kw S t y8.1 (s_we S t)), s_le (w_kw S t y8.1 (s_we S t))) y8.2.1]) rfl ?_
      refine G.cg (ws' := [ml m cI S y8.2.1]) (congrArg (fun T => [ml m cI T y8.2.1]) ((kw_7 S t y8.1 (s_we S t) (s_ki S t)).trans (kw_id S t))) rfl rfl ?_
      refine G.il X dX7_bitsFor_54 1 rfl ?_
      exact G.iret X Rr (v := (w_fb (fun k => w_fit S t (nI k) (s_we S t) (m_rw M, m_rn M)) 6)) dX7_bitsFor_56 (pie_mk (y8.2) (by rfl) (by rfl))
    · intro k hk ih11 y8
      refine G.il X dX7_bitsFor_11 0 rfl ?_
      refine G.il X dX7_bitsFor_13 6 rfl ?_
      refine G.n_ge X (a := k) (b := 6) (by omega) (by omega) dX7_bitsFor_14 (fun b14 => absurd b14 (by omega)) (fun b14 => ?_)
      refine G.al X dX7_bitsFor_17 4 rfl ?_
      refine G.il X dX7_bitsFor_18 5 rfl ?_
      refine G.il X dX7_bitsFor_19 0 rfl ?_
      refine G.nst X (i := t) dX7_bitsFor_21 0 5 rfl rfl (by omega) (by decide) (blk' := ml m cI (s_pe (w_kw S t y8.1 (s_we S t)), s_th (w_kw S t y8.1 (s_we S t)), s_da (w_kw S t y8.1 (s_we S t)), s_dr (w_kw S t y8.1 (s_we S t)), s_kn (w_kw S t y8.1 (s_we S t)), s_sh (w_kw S t y8.1 (s_we S t)), s_an (w_kw S t y8.1 (s_we S t)), upd (s_ki (w_kw S t y8.1 (s_we S t))) t (nI k), s_we (w_kw S t y8.1 (s_we S t)), s_dp (w_kw S t y8.1 (s_we S t)), s_wa (w_kw S t y8.1 (s_we S t)), s_le (w_kw S t y8.1 (s_we S t))) y8.2.1) rfl (ws' := [ml m cI (s_pe (w_kw S t y8.1 (s_we S t)), s_th (w_kw S t y8.1 (s_we S t)), s_da (w_kw S t y8.1 (s_we S t)), s_dr (w_kw S t y8.1 (s_we S t)), s_kn (w_kw S t y8.1 (s_we S t)), s_sh (w_kw S t y8.1 (s_we S t)), s_an (w_kw S t y8.1 (s_we S t)), upd (s_ki (w_kw S t y8.1 (s_we S t))) t (nI k), s_we (w_kw S t y8.1 (s_we S t)), s_dp (w_kw S t y8.1 (s_we S t)), s_wa (w_kw S t y8.1 (s_we S t)), s_le (w_kw S t y8.1 (s_we S t))) y8.2.1]) rfl ?_
      refine G.cg (ws' := [ml m cI (w_kw S t (nI k) (s_we S t)) y8.2.1]) (congrArg (fun T => [ml m cI T y8.2.1]) (kw_7 S t y8.1 (s_we S t) (nI k))) rfl rfl ?_
      refine G.il X dX7_bitsFor_22 1 rfl ?_
      refine G.al X dX7_bitsFor_24 3 rfl ?_
      refine G.il X dX7_bitsFor_25 5 rfl ?_
      refine G.cvie X kX7_isSo lX7_285 dX7_bitsFor_26 (tX7_isSo l D cI cW m (w_kw S t (nI k) (s_we S t)) y8.2.1 t (ok_kw hS t ⟨k, by omega, rfl⟩ (hS.we ht)) (y8.2.2.co hco) ht (by rw [y8.2.2.2.2.2.2.2.2.1]; exact hq)) ⟨Nat.le_of_ble_eq_true rfl, Nat.le_of_ble_eq_true rfl⟩ ⟨Nat.zero_le _, Nat.zero_le _⟩ [0] rfl ⟨rfl, rfl⟩ rfl rfl 0 0 rfl rfl rfl rfl (Nat.le_of_ble_eq_true rfl) (fun _ => (ff_cons (ml_fst _ _ _ _ _ _) (ff_nil))) (f8 := fun M9_26 : {M9_26 : MS // Mq 128 y8.2.1 M9_26} => [ml m cI (w_kw S t (nI k) (s_we S t)) M9_26.1]) (fun _ => rfl) (fun M9_26 => ?_)
      refine G.top (b := b2i (w_fit S t (nI k) (s_we S t) (m_rw M, m_rn M))) (by rw [fit_so, y8.2.2.rw]) ?_
      refine G.b_eq X dX7_bitsFor_29 (fun b29 => ?_) (fun b29 => ?_)
      · refine G.pu X dX7_bitsFor_39 ?_
        refine G.ior X dX7_bitsFor_40 ?_
        refine G.is X dX7_bitsFor_41 (by decide) (lv' := [(5, .int ((w_fb (fun k => w_fit S t (nI k) (s_we S t) (m_rw M, m_rn M)) k) ||| 0)), (6, .int (nI k)), (4, .int ((s_ki S) t)), (0, .ref (m 0)), (1, .ref (m 5)), (2, .int (nI t)), (3, .int 6)]) rfl ?_
        refine G.iinc X dX7_bitsFor_43 1 rfl (v' := nI (k + 1)) (nI_inc k) (by decide) (lv' := [(6, .int (nI (k + 1))), (5, .int ((w_fb (fun k => w_fit S t (nI k) (s_we S t) (m_rw M, m_rn M)) k) ||| 0)), (4, .int ((s_ki S) t)), (0, .ref (m 0)), (1, .ref (m 5)), (2, .int (nI t)), (3, .int 6)]) rfl ?_
        refine G.go X dX7_bitsFor_46 ?_
        replace ih11 := ih11 (nI k, qk (y8.2.2.tr M9_26.2 (Nat.le_refl _)))
        rw [show (w_fb (fun k => w_fit S t (nI k) (s_we S t) (m_rw M, m_rn M)) (k + 1)) = ((w_fb (fun k => w_fit S t (nI k) (s_we S t) (m_rw M, m_rn M)) k) ||| 0) from (by simp [w_fb, b14, b29])] at ih11
        exact ih11
      · refine G.pu X dX7_bitsFor_32 ?_
        refine G.il X dX7_bitsFor_33 0 rfl ?_
        refine G.ishl X dX7_bitsFor_35 ?_
        refine G.go X dX7_bitsFor_36 ?_
        refine G.ior X dX7_bitsFor_40 ?_
        refine G.is X dX7_bitsFor_41 (by decide) (lv' := [(5, .int ((w_fb (fun k => w_fit S t (nI k) (s_we S t) (m_rw M, m_rn M)) k) ||| (1 <<< ((nI k) &&& 31)))), (6, .int (nI k)), (4, .int ((s_ki S) t)), (0, .ref (m 0)), (1, .ref (m 5)), (2, .int (nI t)), (3, .int 6)]) rfl ?_
        refine G.iinc X dX7_bitsFor_43 1 rfl (v' := nI (k + 1)) (nI_inc k) (by decide) (lv' := [(6, .int (nI (k + 1))), (5, .int ((w_fb (fun k => w_fit S t (nI k) (s_we S t) (m_rw M, m_rn M)) k) ||| (1 <<< ((nI k) &&& 31)))), (4, .int ((s_ki S) t)), (0, .ref (m 0)), (1, .ref (m 5)), (2, .int (nI t)), (3, .int 6)]) rfl ?_
        refine G.go X dX7_bitsFor_46 ?_
        replace ih11 := ih11 (nI k, qk (y8.2.2.tr M9_26.2 (Nat.le_refl _)))
        rw [show (w_fb (fun k => w_fit S t (nI k) (s_we S t) (m_rw M, m_rn M)) (k + 1)) = ((w_fb (fun k => w_fit S t (nI k) (s_we S t) (m_rw M, m_rn M)) k) ||| (1 <<< ((nI k) &&& 31))) from (by simp [w_fb, b14, b29])] at ih11
        exact ih11
  have L11 := L11 0 (Nat.zero_le _) (s_ki S t, qk (Mq.rf 128 M))
  rw [show (w_kw S t (s_ki S t, qk (Mq.rf 128 M)).1 (s_we S t)) = S from (by exact kw_id S t)] at L11
  exact L11

set_option maxRecDepth 20000 in
theorem tX7_bitsFor_6 (l : Launch) (D : va_G) (cI cW : ClassId) (m : Nat → Nat) (S : WS) (M : MS) (t : Nat) (hS : Ok S) (hco : m_co M = false) (ht : t < s_th S) (hq : m_rn M ≤ 16) : CT l D cI cW yX7_bitsFor cX7_bitsFor 7 (some .int) ⟨5, 0, 0, 109⟩ [.ref (m 0), .ref (m 6), .int (nI t), .int 10] ([ml m cI S M]) (PIE (w_fb (fun k => w_fit S t (s_ki S t) (nI k) (m_rw M, m_rn M)) 10) (fun M9 : {M9 : MS // Mq 128 M M9} => [ml m cI S M9.1])) := by
  refine CT.of RX7 rfl (by decide +kernel) (Nat.le_of_ble_eq_true rfl) [(0, .ref (m 0)), (1, .ref (m 6)), (2, .int (nI t)), (3, .int 10)] rfl (fun x X Rr hnm => ?_)
  have hth := hS.th
  have hpe := hS.pe
  refine G.al X dX7_bitsFor_0 1 rfl ?_
  refine G.il X dX7_bitsFor_1 2 rfl ?_
  refine G.nld X (i := t) dX7_bitsFor_2 0 6 rfl rfl (by omega) (by decide) ?_
  refine G.is X dX7_bitsFor_3 (by decide) (lv' := [(4, .int ((s_we S) t)), (0, .ref (m 0)), (1, .ref (m 6)), (2, .int (nI t)), (3, .int 10)]) rfl ?_
  refine G.pu X dX7_bitsFor_5 ?_
  refine G.is X dX7_bitsFor_6 (by decide) (lv' := [(5, .int 0), (4, .int ((s_we S) t)), (0, .ref (m 0)), (1, .ref (m 6)), (2, .int (nI t)), (3, .int 10)]) rfl ?_
  refine G.pu X dX7_bitsFor_8 ?_
  refine G.is X dX7_bitsFor_9 (by decide) (lv' := [(6, .int 0), (5, .int 0), (4, .int ((s_we S) t)), (0, .ref (m 0)), (1, .ref (m 6)), (2, .int (nI t)), (3, .int 10)]) rfl ?_
  have L11 : ∀ k, k ≤ 10 → ∀ y8 : Int32 × {M8 : MS // Mq 128 M M8}, G x 0 0 ([ml m cI (w_kw S t (s_ki S t) y8.1) y8.2.1]) 11 [(6, .int (nI k)), (5, .int (w_fb (fun k => w_fit S t (s_ki S t) (nI k) (m_rw M, m_rn M)) k)), (4, .int ((s_we S) t)), (0, .ref (m 0)), (1, .ref (m 6)), (2, .int (nI t)), (3, .int 10)] [] := by
    refine loop_dn 10 _ ?_ ?_
    · intro y8
      refine G.il X dX7_bitsFor_11 0 rfl ?_
      refine G.il X dX7_bitsFor_13 6 rfl ?_
      refine G.n_ge X (a := 10) (b := 10) (by omega) (by omega) dX7_bitsFor_14 (fun b14 => ?_) (fun b14 => absurd b14 (by omega))
      refine G.al X dX7_bitsFor_49 4 rfl ?_
      refine G.il X dX7_bitsFor_50 5 rfl ?_
      refine G.il X dX7_bitsFor_51 2 rfl ?_
      refine G.nst X (i := t) dX7_bitsFor_53 0 6 rfl rfl (by omega) (by decide) (blk' := ml m cI (s_pe (w_kw S t (s_ki S t) y8.1), s_th (w_kw S t (s_ki S t) y8.1), s_da (w_kw S t (s_ki S t) y8.1), s_dr (w_kw S t (s_ki S t) y8.1), s_kn (w_kw S t (s_ki S t) y8.1), s_sh (w_kw S t (s_ki S t) y8.1), s_an (w_kw S t (s_ki S t) y8.1), s_ki (w_kw S t (s_ki S t) y8.1), upd (s_we (w_kw S t (s_ki S t) y8.1)) t ((s_we S) t), s_dp (w_kw S t (s_ki S t) y8.1), s_wa (w_kw S t (s_ki S t) y8.1), s_le (w_kw S t (s_ki S t) y8.1)) y8.2.1) rfl (ws' := [ml m cI (s_pe (w_kw S t (s_ki S t) y8.1), s_th (w_kw S t (s_ki S t) y8.1), s_da (w_kw S t (s_ki S t) y8.1), s_dr (w_kw S t (s_ki S t) y8.1), s_kn (w_kw S t (s_ki S t) y8.1), s_sh (w_kw S t (s_ki S t) y8.1), s_an (w_kw S t (s_ki S t) y8.1), s_ki (w_kw S t (s_ki S t) y8.1), upd (s_we (w_kw S t (s_ki S t) y8.1)) t ((s_we S) t), s_dp (w_kw S t (s_ki S t) y8.1), s_wa (w_kw S t (s_ki S t) y8.1), s_le (w_kw S t (s_ki S t) y8.1)) y8.2.1]) rfl ?_
      refine G.cg (ws' := [ml m cI S y8.2.1]) (congrArg (fun T => [ml m cI T y8.2.1]) ((kw_8 S t (s_ki S t) y8.1 (s_we S t)).trans (kw_id S t))) rfl rfl ?_
      refine G.il X dX7_bitsFor_54 1 rfl ?_
      exact G.iret X Rr (v := (w_fb (fun k => w_fit S t (s_ki S t) (nI k) (m_rw M, m_rn M)) 10)) dX7_bitsFor_56 (pie_mk (y8.2) (by rfl) (by rfl))
    · intro k hk ih11 y8
      refine G.il X dX7_bitsFor_11 0 rfl ?_
      refine G.il X dX7_bitsFor_13 6 rfl ?_
      refine G.n_ge X (a := k) (b := 10) (by omega) (by omega) dX7_bitsFor_14 (fun b14 => absurd b14 (by omega)) (fun b14 => ?_)
      refine G.al X dX7_bitsFor_17 4 rfl ?_
      refine G.il X dX7_bitsFor_18 5 rfl ?_
      refine G.il X dX7_bitsFor_19 0 rfl ?_
      refine G.nst X (i := t) dX7_bitsFor_21 0 6 rfl rfl (by omega) (by decide) (blk' := ml m cI (s_pe (w_kw S t (s_ki S t) y8.1), s_th (w_kw S t (s_ki S t) y8.1), s_da (w_kw S t (s_ki S t) y8.1), s_dr (w_kw S t (s_ki S t) y8.1), s_kn (w_kw S t (s_ki S t) y8.1), s_sh (w_kw S t (s_ki S t) y8.1), s_an (w_kw S t (s_ki S t) y8.1), s_ki (w_kw S t (s_ki S t) y8.1), upd (s_we (w_kw S t (s_ki S t) y8.1)) t (nI k), s_dp (w_kw S t (s_ki S t) y8.1), s_wa (w_kw S t (s_ki S t) y8.1), s_le (w_kw S t (s_ki S t) y8.1)) y8.2.1) rfl (ws' := [ml m cI (s_pe (w_kw S t (s_ki S t) y8.1), s_th (w_kw S t (s_ki S t) y8.1), s_da (w_kw S t (s_ki S t) y8.1), s_dr (w_kw S t (s_ki S t) y8.1), s_kn (w_kw S t (s_ki S t) y8.1), s_sh (w_kw S t (s_ki S t) y8.1), s_an (w_kw S t (s_ki S t) y8.1), s_ki (w_kw S t (s_ki S t) y8.1), upd (s_we (w_kw S t (s_ki S t) y8.1)) t (nI k), s_dp (w_kw S t (s_ki S t) y8.1), s_wa (w_kw S t (s_ki S t) y8.1), s_le (w_kw S t (s_ki S t) y8.1)) y8.2.1]) rfl ?_
      refine G.cg (ws' := [ml m cI (w_kw S t (s_ki S t) (nI k)) y8.2.1]) (congrArg (fun T => [ml m cI T y8.2.1]) (kw_8 S t (s_ki S t) y8.1 (nI k))) rfl rfl ?_
      refine G.il X dX7_bitsFor_22 1 rfl ?_
      refine G.al X dX7_bitsFor_24 3 rfl ?_
      refine G.il X dX7_bitsFor_25 5 rfl ?_
      refine G.cvie X kX7_isSo lX7_285 dX7_bitsFor_26 (tX7_isSo l D cI cW m (w_kw S t (s_ki S t) (nI k)) y8.2.1 t (ok_kw hS t (hS.ki ht) ⟨k, by omega, rfl⟩) (y8.2.2.co hco) ht (by rw [y8.2.2.2.2.2.2.2.2.1]; exact hq)) ⟨Nat.le_of_ble_eq_true rfl, Nat.le_of_ble_eq_true rfl⟩ ⟨Nat.zero_le _, Nat.zero_le _⟩ [0] rfl ⟨rfl, rfl⟩ rfl rfl 0 0 rfl rfl rfl rfl (Nat.le_of_ble_eq_true rfl) (fun _ => (ff_cons (ml_fst _ _ _ _ _ _) (ff_nil))) (f8 := fun M9_26 : {M9_26 : MS // Mq 128 y8.2.1 M9_26} => [ml m cI (w_kw S t (s_ki S t) (nI k)) M9_26.1]) (fun _ => rfl) (fun M9_26 => ?_)
      refine G.top (b := b2i (w_fit S t (s_ki S t) (nI k) (m_rw M, m_rn M))) (by rw [fit_so, y8.2.2.rw]) ?_
      refine G.b_eq X dX7_bitsFor_29 (fun b29 => ?_) (fun b29 => ?_)
      · refine G.pu X dX7_bitsFor_39 ?_
        refine G.ior X dX7_bitsFor_40 ?_
        refine G.is X dX7_bitsFor_41 (by decide) (lv' := [(5, .int ((w_fb (fun k => w_fit S t (s_ki S t) (nI k) (m_rw M, m_rn M)) k) ||| 0)), (6, .int (nI k)), (4, .int ((s_we S) t)), (0, .ref (m 0)), (1, .ref (m 6)), (2, .int (nI t)), (3, .int 10)]) rfl ?_
        refine G.iinc X dX7_bitsFor_43 1 rfl (v' := nI (k + 1)) (nI_inc k) (by decide) (lv' := [(6, .int (nI (k + 1))), (5, .int ((w_fb (fun k => w_fit S t (s_ki S t) (nI k) (m_rw M, m_rn M)) k) ||| 0)), (4, .int ((s_we S) t)), (0, .ref (m 0)), (1, .ref (m 6)), (2, .int (nI t)), (3, .int 10)]) rfl ?_
        refine G.go X dX7_bitsFor_46 ?_
        replace ih11 := ih11 (nI k, qk (y8.2.2.tr M9_26.2 (Nat.le_refl _)))
        rw [show (w_fb (fun k => w_fit S t (s_ki S t) (nI k) (m_rw M, m_rn M)) (k + 1)) = ((w_fb (fun k => w_fit S t (s_ki S t) (nI k) (m_rw M, m_rn M)) k) ||| 0) from (by simp [w_fb, b14, b29])] at ih11
        exact ih11
      · refine G.pu X dX7_bitsFor_32 ?_
        refine G.il X dX7_bitsFor_33 0 rfl ?_
        refine G.ishl X dX7_bitsFor_35 ?_
        refine G.go X dX7_bitsFor_36 ?_
        refine G.ior X dX7_bitsFor_40 ?_
        refine G.is X dX7_bitsFor_41 (by decide) (lv' := [(5, .int ((w_fb (fun k => w_fit S t (s_ki S t) (nI k) (m_rw M, m_rn M)) k) ||| (1 <<< ((nI k) &&& 31)))), (6, .int (nI k)), (4, .int ((s_we S) t)), (0, .ref (m 0)), (1, .ref (m 6)), (2, .int (nI t)), (3, .int 10)]) rfl ?_
        refine G.iinc X dX7_bitsFor_43 1 rfl (v' := nI (k + 1)) (nI_inc k) (by decide) (lv' := [(6, .int (nI (k + 1))), (5, .int ((w_fb (fun k => w_fit S t (s_ki S t) (nI k) (m_rw M, m_rn M)) k) ||| (1 <<< ((nI k) &&& 31)))), (4, .int ((s_we S) t)), (0, .ref (m 0)), (1, .ref (m 6)), (2, .int (nI t)), (3, .int 10)]) rfl ?_
        refine G.go X dX7_bitsFor_46 ?_
        replace ih11 := ih11 (nI k, qk (y8.2.2.tr M9_26.2 (Nat.le_refl _)))
        rw [show (w_fb (fun k => w_fit S t (s_ki S t) (nI k) (m_rw M, m_rn M)) (k + 1)) = ((w_fb (fun k => w_fit S t (s_ki S t) (nI k) (m_rw M, m_rn M)) k) ||| (1 <<< ((nI k) &&& 31))) from (by simp [w_fb, b14, b29])] at ih11
        exact ih11
  have L11 := L11 0 (Nat.zero_le _) (s_we S t, qk (Mq.rf 128 M))
  rw [show (w_kw S t (s_ki S t) (s_we S t, qk (Mq.rf 128 M)).1) = S from (by exact kw_id S t)] at L11
  exact L11

set_option maxRecDepth 20000 in
theorem tX7_whatWas_bad (l : Launch) (D : va_G) (cI cW : ClassId) (m : Nat → Nat) (S : WS) (M : MS) (p : Int32) (w : Int32) (hS : Ok S) (hp : z_in p (s_th S) = false) : CT l D cI cW yX7_whatWas cX7_whatWas 4 (some .int) ⟨1, 0, 0, 21⟩ [.ref (m 0), .int p, .int w] ([ml m cI S M]) (PI (-1) ([ml m cI S (m_no M 1)])) := by
  refine CT.of RX7 rfl (by decide +kernel) (Nat.le_of_ble_eq_true rfl) [(0, .ref (m 0)), (1, .int p), (2, .int w)] rfl (fun x X Rr hnm => ?_)
  have hth := hS.th
  have hpe := hS.pe
  refine G.al X dX7_whatWas_0 0 rfl ?_
  refine G.il X dX7_whatWas_1 1 rfl ?_
  refine G.cvi X kX7_isThing lX7_126 dX7_whatWas_2 (tX7_isThing l D cI cW m S M p) ⟨Nat.le_of_ble_eq_true rfl, Nat.le_of_ble_eq_true rfl⟩ ⟨Nat.zero_le _, Nat.zero_le _⟩ [0] rfl ⟨rfl, rfl⟩ rfl rfl 0 0 rfl rfl rfl rfl (Nat.le_of_ble_eq_true rfl) (ff_cons (ml_fst _ _ _ _ _ _) (ff_nil)) (ws' := [ml m cI S M]) rfl ?_
  refine G.b_ne X dX7_whatWas_5 (fun b5 => absurd (Eq.trans (Eq.symm hp) b5) (by decide)) (fun b5 => ?_)
  refine G.pu X dX7_whatWas_8 ?_
  refine G.go X dX7_whatWas_9 ?_
  refine G.is X dX7_whatWas_27 (by decide) (lv' := [(3, .int (-1)), (0, .ref (m 0)), (1, .int p), (2, .int w)]) rfl ?_
  refine G.il X dX7_whatWas_28 0 rfl ?_
  refine G.z_eq X (a := (-1)) dX7_whatWas_29 (fun b29 => absurd b29 (by decide)) (fun b29 => ?_)
  refine G.al X dX7_whatWas_32 1 rfl ?_
  refine G.il X dX7_whatWas_33 0 rfl ?_
  refine G.cvi X kX7_no lX7_74 dX7_whatWas_34 (tX7_no l D cI cW m S M 1 (by omega) (by omega)) ⟨Nat.le_of_ble_eq_true rfl, Nat.le_of_ble_eq_true rfl⟩ ⟨Nat.zero_le _, Nat.zero_le _⟩ [0] rfl ⟨rfl, rfl⟩ rfl rfl 0 0 rfl rfl rfl rfl (Nat.le_of_ble_eq_true rfl) (ff_cons (ml_fst _ _ _ _ _ _) (ff_nil)) (ws' := [ml m cI S (m_no M 1)]) rfl ?_
  exact G.iret X Rr (v := (-(nI 1))) dX7_whatWas_37 (pi_mk (by rfl) (by rfl))

set_option maxRecDepth 20000 in
theorem tX7_whatWas_oth (l : Launch) (D : va_G) (cI cW : ClassId) (m : Nat → Nat) (S : WS) (M : MS) (p : Nat) (w : Int32) (hS : Ok S) (hp : p < s_th S) (hw : z_in w 2 = false) : CT l D cI cW yX7_whatWas cX7_whatWas 4 (some .int) ⟨1, 0, 0, 22⟩ [.ref (m 0), .int (nI p), .int w] ([ml m cI S M]) (PI (-2) ([ml m cI S (m_no M 2)])) := by
  refine CT.of RX7 rfl (by decide +kernel) (Nat.le_of_ble_eq_true rfl) [(0, .ref (m 0)), (1, .int (nI p)), (2, .int w)] rfl (fun x X Rr hnm => ?_)
  have hth := hS.th
  have hpe := hS.pe
  refine G.al X dX7_whatWas_0 0 rfl ?_
  refine G.il X dX7_whatWas_1 1 rfl ?_
  refine G.cvi X kX7_isThing lX7_126 dX7_whatWas_2 (tX7_isThing l D cI cW m S M (nI p)) ⟨Nat.le_of_ble_eq_true rfl, Nat.le_of_ble_eq_true rfl⟩ ⟨Nat.zero_le _, Nat.zero_le _⟩ [0] rfl ⟨rfl, rfl⟩ rfl rfl 0 0 rfl rfl rfl rfl (Nat.le_of_ble_eq_true rfl) (ff_cons (ml_fst _ _ _ _ _ _) (ff_nil)) (ws' := [ml m cI S M]) rfl ?_
  refine G.b_ne X dX7_whatWas_5 (fun b5 => ?_) (fun b5 => absurd (Eq.trans (Eq.symm (z_in_nI hp (by omega))) b5) (by decide))
  refine G.il X dX7_whatWas_12 2 rfl ?_
  refine G.pu X dX7_whatWas_13 ?_
  refine G.pu X dX7_whatWas_14 ?_
  refine G.csti X kX7_isIn lX7_85 dX7_whatWas_15 (tX7_isIn_no l D cI cW w 0 1 (zbt_no (n := 1) hw (by decide))) ⟨Nat.le_of_ble_eq_true rfl, Nat.le_of_ble_eq_true rfl⟩ ⟨Nat.zero_le _, Nat.zero_le _⟩ [] rfl ⟨rfl, rfl⟩ rfl rfl rfl (Nat.le_of_ble_eq_true rfl) (ff_nil) (ws' := [ml m cI S M]) rfl ?_
  refine G.b_ne X dX7_whatWas_18 (fun b18 => absurd b18 (by decide)) (fun b18 => ?_)
  refine G.pu X dX7_whatWas_21 ?_
  refine G.go X dX7_whatWas_23 ?_
  refine G.is X dX7_whatWas_27 (by decide) (lv' := [(3, .int (-2)), (0, .ref (m 0)), (1, .int (nI p)), (2, .int w)]) rfl ?_
  refine G.il X dX7_whatWas_28 0 rfl ?_
  refine G.z_eq X (a := (-2)) dX7_whatWas_29 (fun b29 => absurd b29 (by decide)) (fun b29 => ?_)
  refine G.al X dX7_whatWas_32 1 rfl ?_
  refine G.il X dX7_whatWas_33 0 rfl ?_
  refine G.cvi X kX7_no lX7_74 dX7_whatWas_34 (tX7_no l D cI cW m S M 2 (by omega) (by omega)) ⟨Nat.le_of_ble_eq_true rfl, Nat.le_of_ble_eq_true rfl⟩ ⟨Nat.zero_le _, Nat.zero_le _⟩ [0] rfl ⟨rfl, rfl⟩ rfl rfl 0 0 rfl rfl rfl rfl (Nat.le_of_ble_eq_true rfl) (ff_cons (ml_fst _ _ _ _ _ _) (ff_nil)) (ws' := [ml m cI S (m_no M 2)]) rfl ?_
  exact G.iret X Rr (v := (-(nI 2))) dX7_whatWas_37 (pi_mk (by rfl) (by rfl))

set_option maxRecDepth 20000 in
theorem tX7_whatWas_0 (l : Launch) (D : va_G) (cI cW : ClassId) (m : Nat → Nat) (S : WS) (M : MS) (p : Nat) (hS : Ok S) (hco : m_co M = false) (hq : m_rn M ≤ 16) (hp : p < s_th S) : CT l D cI cW yX7_whatWas cX7_whatWas 4 (some .int) ⟨6, 0, 0, 135⟩ [.ref (m 0), .int (nI p), .int 0] ([ml m cI S M]) (PIE (w_fb (fun k => w_fit S p (nI k) (s_we S p) (m_rw M, m_rn M)) 6) (fun M9 : {M9 : MS // Mq 64 M M9} => [ml m cI S M9.1])) := by
  refine CT.of RX7 rfl (by decide +kernel) (Nat.le_of_ble_eq_true rfl) [(0, .ref (m 0)), (1, .int (nI p)), (2, .int 0)] rfl (fun x X Rr hnm => ?_)
  have hth := hS.th
  have hpe := hS.pe
  refine G.al X dX7_whatWas_0 0 rfl ?_
  refine G.il X dX7_whatWas_1 1 rfl ?_
  refine G.cvi X kX7_isThing lX7_126 dX7_whatWas_2 (tX7_isThing l D cI cW m S M (nI p)) ⟨Nat.le_of_ble_eq_true rfl, Nat.le_of_ble_eq_true rfl⟩ ⟨Nat.zero_le _, Nat.zero_le _⟩ [0] rfl ⟨rfl, rfl⟩ rfl rfl 0 0 rfl rfl rfl rfl (Nat.le_of_ble_eq_true rfl) (ff_cons (ml_fst _ _ _ _ _ _) (ff_nil)) (ws' := [ml m cI S M]) rfl ?_
  refine G.b_ne X dX7_whatWas_5 (fun b5 => ?_) (fun b5 => absurd (Eq.trans (Eq.symm (z_in_nI hp (by omega))) b5) (by decide))
  refine G.il X dX7_whatWas_12 2 rfl ?_
  refine G.pu X dX7_whatWas_13 ?_
  refine G.pu X dX7_whatWas_14 ?_
  refine G.csti X kX7_isIn lX7_85 dX7_whatWas_15 (tX7_isIn_yes l D cI cW 0 0 1 (by omega) (by omega) (by omega)) ⟨Nat.le_of_ble_eq_true rfl, Nat.le_of_ble_eq_true rfl⟩ ⟨Nat.zero_le _, Nat.zero_le _⟩ [] rfl ⟨rfl, rfl⟩ rfl rfl rfl (Nat.le_of_ble_eq_true rfl) (ff_nil) (ws' := [ml m cI S M]) rfl ?_
  refine G.b_ne X dX7_whatWas_18 (fun b18 => ?_) (fun b18 => absurd b18 (by decide))
  refine G.pu X dX7_whatWas_26 ?_
  refine G.is X dX7_whatWas_27 (by decide) (lv' := [(3, .int 0), (0, .ref (m 0)), (1, .int (nI p)), (2, .int 0)]) rfl ?_
  refine G.il X dX7_whatWas_28 0 rfl ?_
  refine G.z_eq X (a := 0) dX7_whatWas_29 (fun b29 => ?_) (fun b29 => absurd b29 (by decide))
  refine G.il X dX7_whatWas_38 3 rfl ?_
  refine G.z_ne X (a := 0) dX7_whatWas_39 (fun b39 => absurd b39 (by decide)) (fun b39 => ?_)
  refine G.al X dX7_whatWas_42 1 rfl ?_
  refine G.al X dX7_whatWas_43 1 rfl ?_
  refine G.get X fX7_22 dX7_whatWas_44 0 0 rfl rfl rfl ?_
  refine G.il X dX7_whatWas_47 2 rfl ?_
  refine G.pu X dX7_whatWas_48 ?_
  refine G.cvie X kX7_bitsFor lX7_288 dX7_whatWas_50 (tX7_bitsFor_5 l D cI cW m S M p hS hco hp hq) ⟨Nat.le_of_ble_eq_true rfl, Nat.le_of_ble_eq_true rfl⟩ ⟨Nat.zero_le _, Nat.zero_le _⟩ [0] rfl ⟨rfl, rfl⟩ rfl rfl 0 0 rfl rfl rfl rfl (Nat.le_of_ble_eq_true rfl) (fun _ => (ff_cons (ml_fst _ _ _ _ _ _) (ff_nil))) (f8 := fun M9_50 : {M9_50 : MS // Mq 128 M M9_50} => [ml m cI S M9_50.1]) (fun _ => rfl) (fun M9_50 => ?_)
  refine G.go X dX7_whatWas_53 ?_
  exact G.iret X Rr (v := (w_fb (fun k => w_fit S p (nI k) (s_we S p) (m_rw M, m_rn M)) 6)) dX7_whatWas_67 (pie_mk (qk ((Mq.rf 64 M).tr M9_50.2 (by decide))) (by rfl) (by rfl))

set_option maxRecDepth 20000 in
theorem tX7_whatWas_1 (l : Launch) (D : va_G) (cI cW : ClassId) (m : Nat → Nat) (S : WS) (M : MS) (p : Nat) (hS : Ok S) (hco : m_co M = false) (hq : m_rn M ≤ 16) (hp : p < s_th S) : CT l D cI cW yX7_whatWas cX7_whatWas 4 (some .int) ⟨6, 0, 0, 135⟩ [.ref (m 0), .int (nI p), .int 1] ([ml m cI S M]) (PIE (w_fb (fun k => w_fit S p (s_ki S p) (nI k) (m_rw M, m_rn M)) 10) (fun M9 : {M9 : MS // Mq 64 M M9} => [ml m cI S M9.1])) := by
  refine CT.of RX7 rfl (by decide +kernel) (Nat.le_of_ble_eq_true rfl) [(0, .ref (m 0)), (1, .int (nI p)), (2, .int 1)] rfl (fun x X Rr hnm => ?_)
  have hth := hS.th
  have hpe := hS.pe
  refine G.al X dX7_whatWas_0 0 rfl ?_
  refine G.il X dX7_whatWas_1 1 rfl ?_
  refine G.cvi X kX7_isThing lX7_126 dX7_whatWas_2 (tX7_isThing l D cI cW m S M (nI p)) ⟨Nat.le_of_ble_eq_true rfl, Nat.le_of_ble_eq_true rfl⟩ ⟨Nat.zero_le _, Nat.zero_le _⟩ [0] rfl ⟨rfl, rfl⟩ rfl rfl 0 0 rfl rfl rfl rfl (Nat.le_of_ble_eq_true rfl) (ff_cons (ml_fst _ _ _ _ _ _) (ff_nil)) (ws' := [ml m cI S M]) rfl ?_
  refine G.b_ne X dX7_whatWas_5 (fun b5 => ?_) (fun b5 => absurd (Eq.trans (Eq.symm (z_in_nI hp (by omega))) b5) (by decide))
  refine G.il X dX7_whatWas_12 2 rfl ?_
  refine G.pu X dX7_whatWas_13 ?_
  refine G.pu X dX7_whatWas_14 ?_
  refine G.csti X kX7_isIn lX7_85 dX7_whatWas_15 (tX7_isIn_yes l D cI cW 1 0 1 (by omega) (by omega) (by omega)) ⟨Nat.le_of_ble_eq_true rfl, Nat.le_of_ble_eq_true rfl⟩ ⟨Nat.zero_le _, Nat.zero_le _⟩ [] rfl ⟨rfl, rfl⟩ rfl rfl rfl (Nat.le_of_ble_eq_true rfl) (ff_nil) (ws' := [ml m cI S M]) rfl ?_
  refine G.b_ne X dX7_whatWas_18 (fun b18 => ?_) (fun b18 => absurd b18 (by decide))
  refine G.pu X dX7_whatWas_26 ?_
  refine G.is X dX7_whatWas_27 (by decide) (lv' := [(3, .int 0), (0, .ref (m 0)), (1, .int (nI p)), (2, .int 1)]) rfl ?_
  refine G.il X dX7_whatWas_28 0 rfl ?_
  refine G.z_eq X (a := 0) dX7_whatWas_29 (fun b29 => ?_) (fun b29 => absurd b29 (by decide))
  refine G.il X dX7_whatWas_38 3 rfl ?_
  refine G.z_ne X (a := 1) dX7_whatWas_39 (fun b39 => ?_) (fun b39 => absurd b39 (by decide))
  refine G.al X dX7_whatWas_56 1 rfl ?_
  refine G.al X dX7_whatWas_57 1 rfl ?_
  refine G.get X fX7_25 dX7_whatWas_58 0 0 rfl rfl rfl ?_
  refine G.il X dX7_whatWas_61 2 rfl ?_
  refine G.pu X dX7_whatWas_62 ?_
  refine G.cvie X kX7_bitsFor lX7_288 dX7_whatWas_64 (tX7_bitsFor_6 l D cI cW m S M p hS hco hp hq) ⟨Nat.le_of_ble_eq_true rfl, Nat.le_of_ble_eq_true rfl⟩ ⟨Nat.zero_le _, Nat.zero_le _⟩ [0] rfl ⟨rfl, rfl⟩ rfl rfl 0 0 rfl rfl rfl rfl (Nat.le_of_ble_eq_true rfl) (fun _ => (ff_cons (ml_fst _ _ _ _ _ _) (ff_nil))) (f8 := fun M9_64 : {M9_64 : MS // Mq 128 M M9_64} => [ml m cI S M9_64.1]) (fun _ => rfl) (fun M9_64 => ?_)
  exact G.iret X Rr (v := (w_fb (fun k => w_fit S p (s_ki S p) (nI k) (m_rw M, m_rn M)) 10)) dX7_whatWas_67 (pie_mk (qk ((Mq.rf 64 M).tr M9_64.2 (by decide))) (by rfl) (by rfl))

set_option maxRecDepth 20000 in
theorem tX7_row_lo (l : Launch) (D : va_G) (cI cW : ClassId) (m : Nat → Nat) (S : WS) (M : MS) (v : Int32) (h1 : v < 0) : CT l D cI cW yX7_row cX7_row 3 (some .int) ⟨1, 0, 0, 22⟩ [.ref (m 0), .int v] ([ml m cI S M]) (PI (-4) ([ml m cI S (m_no M 4)])) := by
  refine CT.of RX7 rfl (by decide +kernel) (Nat.le_of_ble_eq_true rfl) [(0, .ref (m 0)), (1, .int v)] rfl (fun x X Rr hnm => ?_)
  refine G.il X dX7_row_0 1 rfl ?_
  refine G.pu X dX7_row_1 ?_
  refine G.pu X dX7_row_2 ?_
  refine G.csti X kX7_bound lX7_67 dX7_row_4 (tX7_bound_lo l D cI cW v 0 99 h1) ⟨Nat.le_of_ble_eq_true rfl, Nat.le_of_ble_eq_true rfl⟩ ⟨Nat.zero_le _, Nat.zero_le _⟩ [] rfl ⟨rfl, rfl⟩ rfl rfl rfl (Nat.le_of_ble_eq_true rfl) (ff_nil) (ws' := [ml m cI S M]) rfl ?_
  refine G.is X dX7_row_7 (by decide) (lv' := [(2, .int (-4)), (0, .ref (m 0)), (1, .int v)]) rfl ?_
  refine G.il X dX7_row_8 0 rfl ?_
  refine G.z_ne X (a := (-4)) dX7_row_9 (fun b9 => ?_) (fun b9 => absurd b9 (by decide))
  refine G.il X dX7_row_24 0 rfl ?_
  refine G.z_eq X (a := (-4)) dX7_row_25 (fun b25 => absurd b25 (by decide)) (fun b25 => ?_)
  refine G.al X dX7_row_28 1 rfl ?_
  refine G.il X dX7_row_29 0 rfl ?_
  refine G.cvi X kX7_no lX7_74 dX7_row_30 (tX7_no l D cI cW m S M 4 (by omega) (by omega)) ⟨Nat.le_of_ble_eq_true rfl, Nat.le_of_ble_eq_true rfl⟩ ⟨Nat.zero_le _, Nat.zero_le _⟩ [0] rfl ⟨rfl, rfl⟩ rfl rfl 0 0 rfl rfl rfl rfl (Nat.le_of_ble_eq_true rfl) (ff_cons (ml_fst _ _ _ _ _ _) (ff_nil)) (ws' := [ml m cI S (m_no M 4)]) rfl ?_
  exact G.iret X Rr (v := (-(nI 4))) dX7_row_33 (pi_mk (by rfl) (by rfl))

set_option maxRecDepth 20000 in
theorem tX7_row_hi (l : Launch) (D : va_G) (cI cW : ClassId) (m : Nat → Nat) (S : WS) (M : MS) (v : Int32) (h1 : ¬ v < 0) (h2 : 99 < v) : CT l D cI cW yX7_row cX7_row 3 (some .int) ⟨1, 0, 0, 22⟩ [.ref (m 0), .int v] ([ml m cI S M]) (PI (-6) ([ml m cI S (m_no M 6)])) := by
  refine CT.of RX7 rfl (by decide +kernel) (Nat.le_of_ble_eq_true rfl) [(0, .ref (m 0)), (1, .int v)] rfl (fun x X Rr hnm => ?_)
  refine G.il X dX7_row_0 1 rfl ?_
  refine G.pu X dX7_row_1 ?_
  refine G.pu X dX7_row_2 ?_
  refine G.csti X kX7_bound lX7_67 dX7_row_4 (tX7_bound_hi l D cI cW v 0 99 h1 h2) ⟨Nat.le_of_ble_eq_true rfl, Nat.le_of_ble_eq_true rfl⟩ ⟨Nat.zero_le _, Nat.zero_le _⟩ [] rfl ⟨rfl, rfl⟩ rfl rfl rfl (Nat.le_of_ble_eq_true rfl) (ff_nil) (ws' := [ml m cI S M]) rfl ?_
  refine G.is X dX7_row_7 (by decide) (lv' := [(2, .int (-6)), (0, .ref (m 0)), (1, .int v)]) rfl ?_
  refine G.il X dX7_row_8 0 rfl ?_
  refine G.z_ne X (a := (-6)) dX7_row_9 (fun b9 => ?_) (fun b9 => absurd b9 (by decide))
  refine G.il X dX7_row_24 0 rfl ?_
  refine G.z_eq X (a := (-6)) dX7_row_25 (fun b25 => absurd b25 (by decide)) (fun b25 => ?_)
  refine G.al X dX7_row_28 1 rfl ?_
  refine G.il X dX7_row_29 0 rfl ?_
  refine G.cvi X kX7_no lX7_74 dX7_row_30 (tX7_no l D cI cW m S M 6 (by omega) (by omega)) ⟨Nat.le_of_ble_eq_true rfl, Nat.le_of_ble_eq_true rfl⟩ ⟨Nat.zero_le _, Nat.zero_le _⟩ [0] rfl ⟨rfl, rfl⟩ rfl rfl 0 0 rfl rfl rfl rfl (Nat.le_of_ble_eq_true rfl) (ff_cons (ml_fst _ _ _ _ _ _) (ff_nil)) (ws' := [ml m cI S (m_no M 6)]) rfl ?_
  exact G.iret X Rr (v := (-(nI 6))) dX7_row_33 (pi_mk (by rfl) (by rfl))

set_option maxRecDepth 20000 in
theorem tX7_row_full (l : Launch) (D : va_G) (cI cW : ClassId) (m : Nat → Nat) (S : WS) (M : MS) (v : Int32) (h1 : ¬ v < 0) (h2 : ¬ 99 < v) (hq : m_rn M = 16) : CT l D cI cW yX7_row cX7_row 3 (some .int) ⟨1, 0, 0, 22⟩ [.ref (m 0), .int v] ([ml m cI S M]) (PI (-6) ([ml m cI S (m_no M 6)])) := by
  refine CT.of RX7 rfl (by decide +kernel) (Nat.le_of_ble_eq_true rfl) [(0, .ref (m 0)), (1, .int v)] rfl (fun x X Rr hnm => ?_)
  refine G.il X dX7_row_0 1 rfl ?_
  refine G.pu X dX7_row_1 ?_
  refine G.pu X dX7_row_2 ?_
  refine G.csti X kX7_bound lX7_67 dX7_row_4 (tX7_bound_okI l D cI cW v 0 99 h1 h2) ⟨Nat.le_of_ble_eq_true rfl, Nat.le_of_ble_eq_true rfl⟩ ⟨Nat.zero_le _, Nat.zero_le _⟩ [] rfl ⟨rfl, rfl⟩ rfl rfl rfl (Nat.le_of_ble_eq_true rfl) (ff_nil) (ws' := [ml m cI S M]) rfl ?_
  refine G.is X dX7_row_7 (by decide) (lv' := [(2, .int 0), (0, .ref (m 0)), (1, .int v)]) rfl ?_
  refine G.il X dX7_row_8 0 rfl ?_
  refine G.z_ne X (a := 0) dX7_row_9 (fun b9 => absurd b9 (by decide)) (fun b9 => ?_)
  refine G.al X dX7_row_12 1 rfl ?_
  refine G.get X fX7_282 dX7_row_13 0 0 rfl rfl rfl ?_
  refine G.pu X dX7_row_16 ?_
  refine G.n_ne X (a := m_rn M) (b := 16) (by omega) (by omega) dX7_row_18 (fun b18 => absurd b18 (by omega)) (fun b18 => ?_)
  refine G.pu X dX7_row_21 ?_
  refine G.is X dX7_row_23 (by decide) (lv' := [(2, .int (-6)), (0, .ref (m 0)), (1, .int v)]) rfl ?_
  refine G.il X dX7_row_24 0 rfl ?_
  refine G.z_eq X (a := (-6)) dX7_row_25 (fun b25 => absurd b25 (by decide)) (fun b25 => ?_)
  refine G.al X dX7_row_28 1 rfl ?_
  refine G.il X dX7_row_29 0 rfl ?_
  refine G.cvi X kX7_no lX7_74 dX7_row_30 (tX7_no l D cI cW m S M 6 (by omega) (by omega)) ⟨Nat.le_of_ble_eq_true rfl, Nat.le_of_ble_eq_true rfl⟩ ⟨Nat.zero_le _, Nat.zero_le _⟩ [0] rfl ⟨rfl, rfl⟩ rfl rfl 0 0 rfl rfl rfl rfl (Nat.le_of_ble_eq_true rfl) (ff_cons (ml_fst _ _ _ _ _ _) (ff_nil)) (ws' := [ml m cI S (m_no M 6)]) rfl ?_
  exact G.iret X Rr (v := (-(nI 6))) dX7_row_33 (pi_mk (by rfl) (by rfl))

set_option maxRecDepth 20000 in
theorem tX7_row_ok (l : Launch) (D : va_G) (cI cW : ClassId) (m : Nat → Nat) (S : WS) (M : MS) (v : Int32) (h1 : ¬ v < 0) (h2 : ¬ 99 < v) (hq : m_rn M < 16) : CT l D cI cW yX7_row cX7_row 3 (some .int) ⟨1, 0, 0, 22⟩ [.ref (m 0), .int v] ([ml m cI S M]) (PI (nI (m_rn M + 1)) ([ml m cI S (m_rwa M v)])) := by
  refine CT.of RX7 rfl (by decide +kernel) (Nat.le_of_ble_eq_true rfl) [(0, .ref (m 0)), (1, .int v)] rfl (fun x X Rr hnm => ?_)
  refine G.il X dX7_row_0 1 rfl ?_
  refine G.pu X dX7_row_1 ?_
  refine G.pu X dX7_row_2 ?_
  refine G.csti X kX7_bound lX7_67 dX7_row_4 (tX7_bound_okI l D cI cW v 0 99 h1 h2) ⟨Nat.le_of_ble_eq_true rfl, Nat.le_of_ble_eq_true rfl⟩ ⟨Nat.zero_le _, Nat.zero_le _⟩ [] rfl ⟨rfl, rfl⟩ rfl rfl rfl (Nat.le_of_ble_eq_true rfl) (ff_nil) (ws' := [ml m cI S M]) rfl ?_
  refine G.is X dX7_row_7 (by decide) (lv' := [(2, .int 0), (0, .ref (m 0)), (1, .int v)]) rfl ?_
  refine G.il X dX7_row_8 0 rfl ?_
  refine G.z_ne X (a := 0) dX7_row_9 (fun b9 => absurd b9 (by decide)) (fun b9 => ?_)
  refine G.al X dX7_row_12 1 rfl ?_
  refine G.get X fX7_282 dX7_row_13 0 0 rfl rfl rfl ?_
  refine G.pu X dX7_row_16 ?_
  refine G.n_ne X (a := m_rn M) (b := 16) (by omega) (by omega) dX7_row_18 (fun b18 => ?_) (fun b18 => absurd b18 (by omega))
  refine G.il X dX7_row_24 0 rfl ?_
  refine G.z_eq X (a := 0) dX7_row_25 (fun b25 => ?_) (fun b25 => absurd b25 (by decide))
  refine G.al X dX7_row_34 1 rfl ?_
  refine G.get X fX7_55 dX7_row_35 0 0 rfl rfl rfl ?_
  refine G.al X dX7_row_38 1 rfl ?_
  refine G.get X fX7_282 dX7_row_39 0 0 rfl rfl rfl ?_
  refine G.il X dX7_row_42 2 rfl ?_
  refine G.nst X (i := m_rn M) dX7_row_43 0 16 rfl rfl (by omega) (by decide) (blk' := ml m cI S (m_rf M, m_co M, m_tx M, m_lt M, m_la M, m_to M, m_tn M, m_at M, m_st M, m_kp M, m_hi M, m_kg M, m_cu M, m_lr M, m_ge M, upd (m_rw M) (m_rn M) v, m_rn M)) rfl (ws' := [ml m cI S (m_rf M, m_co M, m_tx M, m_lt M, m_la M, m_to M, m_tn M, m_at M, m_st M, m_kp M, m_hi M, m_kg M, m_cu M, m_lr M, m_ge M, upd (m_rw M) (m_rn M) v, m_rn M)]) rfl ?_
  refine G.al X dX7_row_44 1 rfl ?_
  refine G.dupr X dX7_row_45 ?_
  refine G.get X fX7_282 dX7_row_46 0 0 rfl rfl rfl ?_
  refine G.pu X dX7_row_49 ?_
  refine G.nadd X (a := m_rn M) (b := 1) dX7_row_50 ?_
  refine G.puti X fX7_282 fe7 dX7_row_51 rfl rfl 0 0 rfl rfl (Nat.le_of_ble_eq_true rfl) (blk' := ml m cI S (m_rf M, m_co M, m_tx M, m_lt M, m_la M, m_to M, m_tn M, m_at M, m_st M, m_kp M, m_hi M, m_kg M, m_cu M, m_lr M, m_ge M, upd (m_rw M) (m_rn M) v, (m_rn M) + 1)) rfl (ws' := [ml m cI S (m_rf M, m_co M, m_tx M, m_lt M, m_la M, m_to M, m_tn M, m_at M, m_st M, m_kp M, m_hi M, m_kg M, m_cu M, m_lr M, m_ge M, upd (m_rw M) (m_rn M) v, (m_rn M) + 1)]) rfl ?_
  refine G.al X dX7_row_54 1 rfl ?_
  refine G.get X fX7_282 dX7_row_55 0 0 rfl rfl rfl ?_
  exact G.iret X Rr (v := nI ((m_rn M) + 1)) dX7_row_58 (pi_mk (by rfl) (by rfl))

set_option maxRecDepth 20000 in
theorem tX7_clear (l : Launch) (D : va_G) (cI cW : ClassId) (m : Nat → Nat) (S : WS) (M : MS) : CT l D cI cW yX7_clear cX7_clear 2 (some .int) ⟨0, 0, 0, 0⟩ [.ref (m 0)] ([ml m cI S M]) (PI (nI (m_rn M)) ([ml m cI S (m_rns M 0)])) := by
  refine CT.of RX7 rfl (by decide +kernel) (Nat.le_of_ble_eq_true rfl) [(0, .ref (m 0))] rfl (fun x X Rr hnm => ?_)
  refine G.al X dX7_clear_0 0 rfl ?_
  refine G.get X fX7_282 dX7_clear_1 0 0 rfl rfl rfl ?_
  refine G.is X dX7_clear_4 (by decide) (lv' := [(1, .int (nI (m_rn M))), (0, .ref (m 0))]) rfl ?_
  refine G.al X dX7_clear_5 1 rfl ?_
  refine G.pu X dX7_clear_6 ?_
  refine G.puti X fX7_282 fe7 dX7_clear_7 rfl rfl 0 0 rfl rfl (Nat.le_of_ble_eq_true rfl) (blk' := ml m cI S (m_rf M, m_co M, m_tx M, m_lt M, m_la M, m_to M, m_tn M, m_at M, m_st M, m_kp M, m_hi M, m_kg M, m_cu M, m_lr M, m_ge M, m_rw M, 0)) rfl (ws' := [ml m cI S (m_rf M, m_co M, m_tx M, m_lt M, m_la M, m_to M, m_tn M, m_at M, m_st M, m_kp M, m_hi M, m_kg M, m_cu M, m_lr M, m_ge M, m_rw M, 0)]) rfl ?_
  refine G.il X dX7_clear_10 0 rfl ?_
  exact G.iret X Rr (v := nI (m_rn M)) dX7_clear_11 (pi_mk (by rfl) (by rfl))

set_option maxRecDepth 20000 in
theorem tX7_judge (l : Launch) (D : va_G) (cI cW : ClassId) (m : Nat → Nat) (S : WS) (M : MS) (hS : Ok S) (hco : m_co M = false) (hq : m_rn M ≤ 16) : CT l D cI cW yX7_judge cX7_judge 4 (some .int) ⟨4, 0, 0, 86⟩ [.ref (m 0)] ([ml m cI S M]) (PIE (o2i (fi (fun d => !decide (m_bits (askb (w_dayN S d) (s_th (w_dayN S d))) 31 = m_rw M d)) (m_rn M))) (fun M9 : {M9 : MS // Mq 64 (m_rns M 0) M9} => [ml m cI S M9.1])) := by
  refine CT.of RX7 rfl (by decide +kernel) (Nat.le_of_ble_eq_true rfl) [(0, .ref (m 0))] rfl (fun x X Rr hnm => ?_)
  have hth := hS.th
  have hpe := hS.pe
  refine G.al X dX7_judge_0 0 rfl ?_
  refine G.get X fX7_282 dX7_judge_1 0 0 rfl rfl rfl ?_
  refine G.is X dX7_judge_4 (by decide) (lv' := [(1, .int (nI (m_rn M))), (0, .ref (m 0))]) rfl ?_
  refine G.al X dX7_judge_5 1 rfl ?_
  refine G.pu X dX7_judge_6 ?_
  refine G.puti X fX7_282 fe7 dX7_judge_7 rfl rfl 0 0 rfl rfl (Nat.le_of_ble_eq_true rfl) (blk' := ml m cI S (m_rf M, m_co M, m_tx M, m_lt M, m_la M, m_to M, m_tn M, m_at M, m_st M, m_kp M, m_hi M, m_kg M, m_cu M, m_lr M, m_ge M, m_rw M, 0)) rfl (ws' := [ml m cI S (m_rf M, m_co M, m_tx M, m_lt M, m_la M, m_to M, m_tn M, m_at M, m_st M, m_kp M, m_hi M, m_kg M, m_cu M, m_lr M, m_ge M, m_rw M, 0)]) rfl ?_
  refine G.cg (ws' := [ml m cI S (m_rns M 0)]) rfl rfl rfl ?_
  refine G.al X dX7_judge_10 1 rfl ?_
  refine G.cvv X kX7_thinks lX7_211 dX7_judge_11 (tX7_thinks l D cI cW m S (m_rns M 0)) ⟨Nat.le_of_ble_eq_true rfl, Nat.le_of_ble_eq_true rfl⟩ ⟨Nat.zero_le _, Nat.zero_le _⟩ [0] rfl ⟨rfl, rfl⟩ rfl rfl 0 0 rfl rfl rfl rfl (Nat.le_of_ble_eq_true rfl) (ff_cons (ml_fst _ _ _ _ _ _) (ff_nil)) (ws' := [ml m cI S (m_kpa (m_rns M 0) 128 S)]) rfl ?_
  refine G.pu X dX7_judge_14 ?_
  refine G.is X dX7_judge_16 (by decide) (lv' := [(2, .int (-9)), (1, .int (nI (m_rn M))), (0, .ref (m 0))]) rfl ?_
  refine G.pu X dX7_judge_17 ?_
  refine G.is X dX7_judge_18 (by decide) (lv' := [(3, .int 0), (2, .int (-9)), (1, .int (nI (m_rn M))), (0, .ref (m 0))]) rfl ?_
  have L19 : ∀ k, k ≤ m_rn M → (∀ j, j < k → (fun d => !decide (m_bits (askb (w_dayN S d) (s_th (w_dayN S d))) 31 = m_rw M d)) j = false) → G x 0 0 ([ml m cI (w_dayN S k) (m_kpa (m_rns M 0) 128 S)]) 19 [(3, .int (nI k)), (2, .int (-9)), (1, .int (nI (m_rn M))), (0, .ref (m 0))] [] := by
    refine loop_dn (m_rn M) _ ?_ ?_
    · intro hinv19
      refine G.il X dX7_judge_19 0 rfl ?_
      refine G.il X dX7_judge_20 2 rfl ?_
      refine G.n_ge X (a := m_rn M) (b := m_rn M) (by omega) (by omega) dX7_judge_21 (fun b21 => ?_) (fun b21 => absurd b21 (by omega))
      refine G.al X dX7_judge_61 3 rfl ?_
      refine G.cvv X kX7_forgets lX7_214 dX7_judge_62 (tX7_forgets l D cI cW m (w_dayN S (m_rn M)) (m_kpa (m_rns M 0) 128 S) S (kpall_KP _ 128 S)) ⟨Nat.le_of_ble_eq_true rfl, Nat.le_of_ble_eq_true rfl⟩ ⟨Nat.zero_le _, Nat.zero_le _⟩ [0] rfl ⟨rfl, rfl⟩ rfl rfl 0 0 rfl rfl rfl rfl (Nat.le_of_ble_eq_true rfl) (ff_cons (ml_fst _ _ _ _ _ _) (ff_nil)) (ws' := [ml m cI S (m_set (m_kpa (m_rns M 0) 128 S) 192 false)]) rfl ?_
      refine G.il X dX7_judge_65 1 rfl ?_
      exact G.iret X Rr (v := (-9)) dX7_judge_66 (pie_mk (qk (((Mq.rf 64 (m_rns M 0)).tr (mq_kpa (m_rns M 0) 128 S) (by decide)).tr (mq_set 64 (m_kpa (m_rns M 0) 128 S) 192 false) (Nat.le_refl _))) (by rw [fi_none (P := fun d => !decide (m_bits (askb (w_dayN S d) (s_th (w_dayN S d))) 31 = m_rw M d)) hinv19]; rfl) (by rfl))
    · intro k hk ih19 hinv19
      have hT : Ok (w_dayN S k) := ok_dayN hS k
      have f1 : s_th (w_dayN S k) = s_th S := (fr_dayN S k).2.1
      refine G.il X dX7_judge_19 0 rfl ?_
      refine G.il X dX7_judge_20 2 rfl ?_
      refine G.n_ge X (a := k) (b := m_rn M) (by omega) (by omega) dX7_judge_21 (fun b21 => absurd b21 (by omega)) (fun b21 => ?_)
      refine G.il X dX7_judge_24 1 rfl ?_
      refine G.z_ge X (a := (-9)) dX7_judge_25 (fun b25 => absurd b25 (by decide)) (fun b25 => ?_)
      refine G.al X dX7_judge_28 3 rfl ?_
      refine G.cvi X kX7_asking lX7_184 dX7_judge_29 (tX7_asking l D cI cW m (w_dayN S k) (m_kpa (m_rns M 0) 128 S) hT.th) ⟨Nat.le_of_ble_eq_true rfl, Nat.le_of_ble_eq_true rfl⟩ ⟨Nat.zero_le _, Nat.zero_le _⟩ [0] rfl ⟨rfl, rfl⟩ rfl rfl 0 0 rfl rfl rfl rfl (Nat.le_of_ble_eq_true rfl) (ff_cons (ml_fst _ _ _ _ _ _) (ff_nil)) (ws' := [ml m cI (w_dayN S k) (m_kpa (m_rns M 0) 128 S)]) rfl ?_
      refine G.csti X kX7_bits lX7_244 dX7_judge_32 (tX7_bits l D cI cW (askb (w_dayN S k) (s_th (w_dayN S k)))) ⟨Nat.le_of_ble_eq_true rfl, Nat.le_of_ble_eq_true rfl⟩ ⟨Nat.zero_le _, Nat.zero_le _⟩ [] rfl ⟨rfl, rfl⟩ rfl rfl rfl (Nat.le_of_ble_eq_true rfl) (ff_nil) (ws' := [ml m cI (w_dayN S k) (m_kpa (m_rns M 0) 128 S)]) rfl ?_
      refine G.al X dX7_judge_35 3 rfl ?_
      refine G.get X fX7_55 dX7_judge_36 0 0 rfl rfl rfl ?_
      refine G.il X dX7_judge_39 0 rfl ?_
      refine G.nld X (i := k) dX7_judge_40 0 16 rfl rfl (by omega) (by decide) ?_
      refine G.c_ne X (a := (m_bits (askb (w_dayN S k) (s_th (w_dayN S k))) 31)) (b := ((m_rw (m_kpa (m_rns M 0) 128 S)) k)) dX7_judge_41 (fun b41 => ?_) (fun b41 => ?_)
      · refine G.il X dX7_judge_49 0 rfl ?_
        refine G.is X dX7_judge_50 (by decide) (lv' := [(2, .int (nI k)), (3, .int (nI k)), (1, .int (nI (m_rn M))), (0, .ref (m 0))]) rfl ?_
        refine G.al X dX7_judge_51 3 rfl ?_
        refine G.cvv X kX7_goesDay lX7_199 dX7_judge_52 (tX7_goesDay l D cI cW m (w_dayN S k) (m_kpa (m_rns M 0) 128 S) hT hco) ⟨Nat.le_of_ble_eq_true rfl, Nat.le_of_ble_eq_true rfl⟩ ⟨Nat.zero_le _, Nat.zero_le _⟩ [0] rfl ⟨rfl, rfl⟩ rfl rfl 0 0 rfl rfl rfl rfl (Nat.le_of_ble_eq_true rfl) (ff_cons (ml_fst _ _ _ _ _ _) (ff_nil)) (ws' := [ml m cI (w_day true (w_dayN S k)) (m_kpa (m_rns M 0) 128 S)]) rfl ?_
        refine G.iinc X dX7_judge_55 1 rfl (v' := nI (k + 1)) (nI_inc k) (by decide) (lv' := [(3, .int (nI (k + 1))), (2, .int (nI k)), (1, .int (nI (m_rn M))), (0, .ref (m 0))]) rfl ?_
        refine G.go X dX7_judge_58 ?_
        refine G.il X dX7_judge_19 0 rfl ?_
        refine G.il X dX7_judge_20 2 rfl ?_
        refine G.n_ge X (a := k + 1) (b := m_rn M) (by omega) (by omega) dX7_judge_21 (fun b21_2 => ?_) (fun b21_2 => ?_)
        · refine G.al X dX7_judge_61 3 rfl ?_
          refine G.cvv X kX7_forgets lX7_214 dX7_judge_62 (tX7_forgets l D cI cW m (w_day true (w_dayN S k)) (m_kpa (m_rns M 0) 128 S) S (kpall_KP _ 128 S)) ⟨Nat.le_of_ble_eq_true rfl, Nat.le_of_ble_eq_true rfl⟩ ⟨Nat.zero_le _, Nat.zero_le _⟩ [0] rfl ⟨rfl, rfl⟩ rfl rfl 0 0 rfl rfl rfl rfl (Nat.le_of_ble_eq_true rfl) (ff_cons (ml_fst _ _ _ _ _ _) (ff_nil)) (ws' := [ml m cI S (m_set (m_kpa (m_rns M 0) 128 S) 192 false)]) rfl ?_
          refine G.il X dX7_judge_65 1 rfl ?_
          exact G.iret X Rr (v := nI k) dX7_judge_66 (pie_mk (qk (((Mq.rf 64 (m_rns M 0)).tr (mq_kpa (m_rns M 0) 128 S) (by decide)).tr (mq_set 64 (m_kpa (m_rns M 0) 128 S) 192 false) (Nat.le_refl _))) (by rw [fi_hit (P := fun d => !decide (m_bits (askb (w_dayN S d) (s_th (w_dayN S d))) 31 = m_rw M d)) hinv19 (by show (!decide _) = true; rw [decide_eq_false (show ¬ m_bits (askb (w_dayN S k) (s_th (w_dayN S k))) 31 = m_rw M k from b41)]; rfl) hk]; rfl) (by rfl))
        · refine G.il X dX7_judge_24 1 rfl ?_
          refine G.z_ge X (a := nI k) dX7_judge_25 (fun b25 => ?_) (fun b25 => absurd b25 (nI_pos (by omega)))
          refine G.al X dX7_judge_61 3 rfl ?_
          refine G.cvv X kX7_forgets lX7_214 dX7_judge_62 (tX7_forgets l D cI cW m (w_day true (w_dayN S k)) (m_kpa (m_rns M 0) 128 S) S (kpall_KP _ 128 S)) ⟨Nat.le_of_ble_eq_true rfl, Nat.le_of_ble_eq_true rfl⟩ ⟨Nat.zero_le _, Nat.zero_le _⟩ [0] rfl ⟨rfl, rfl⟩ rfl rfl 0 0 rfl rfl rfl rfl (Nat.le_of_ble_eq_true rfl) (ff_cons (ml_fst _ _ _ _ _ _) (ff_nil)) (ws' := [ml m cI S (m_set (m_kpa (m_rns M 0) 128 S) 192 false)]) rfl ?_
          refine G.il X dX7_judge_65 1 rfl ?_
          exact G.iret X Rr (v := nI k) dX7_judge_66 (pie_mk (qk (((Mq.rf 64 (m_rns M 0)).tr (mq_kpa (m_rns M 0) 128 S) (by decide)).tr (mq_set 64 (m_kpa (m_rns M 0) 128 S) 192 false) (Nat.le_refl _))) (by rw [fi_hit (P := fun d => !decide (m_bits (askb (w_dayN S d) (s_th (w_dayN S d))) 31 = m_rw M d)) hinv19 (by show (!decide _) = true; rw [decide_eq_false (show ¬ m_bits (askb (w_dayN S k) (s_th (w_dayN S k))) 31 = m_rw M k from b41)]; rfl) hk]; rfl) (by rfl))
      · refine G.pu X dX7_judge_44 ?_
        refine G.go X dX7_judge_46 ?_
        refine G.is X dX7_judge_50 (by decide) (lv' := [(2, .int (-9)), (3, .int (nI k)), (1, .int (nI (m_rn M))), (0, .ref (m 0))]) rfl ?_
        refine G.al X dX7_judge_51 3 rfl ?_
        refine G.cvv X kX7_goesDay lX7_199 dX7_judge_52 (tX7_goesDay l D cI cW m (w_dayN S k) (m_kpa (m_rns M 0) 128 S) hT hco) ⟨Nat.le_of_ble_eq_true rfl, Nat.le_of_ble_eq_true rfl⟩ ⟨Nat.zero_le _, Nat.zero_le _⟩ [0] rfl ⟨rfl, rfl⟩ rfl rfl 0 0 rfl rfl rfl rfl (Nat.le_of_ble_eq_true rfl) (ff_cons (ml_fst _ _ _ _ _ _) (ff_nil)) (ws' := [ml m cI (w_day true (w_dayN S k)) (m_kpa (m_rns M 0) 128 S)]) rfl ?_
        refine G.iinc X dX7_judge_55 1 rfl (v' := nI (k + 1)) (nI_inc k) (by decide) (lv' := [(3, .int (nI (k + 1))), (2, .int (-9)), (1, .int (nI (m_rn M))), (0, .ref (m 0))]) rfl ?_
        refine G.go X dX7_judge_58 ?_
        exact ih19 (lt_snoc hinv19 (by show (!decide _) = false; rw [decide_eq_true (show m_bits (askb (w_dayN S k) (s_th (w_dayN S k))) 31 = m_rw M k from b41)]; rfl))
  have L19 := L19 0 (Nat.zero_le _) (fun j hj => absurd hj (by omega))
  exact L19
