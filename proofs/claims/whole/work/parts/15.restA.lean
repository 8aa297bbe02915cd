set_option maxRecDepth 20000 in
theorem tX0_bestLesson (l : Launch) (D : va_G) (cI cW : ClassId) (o : Nat → Nat) (b : Nat → Nat) (q : FN × FN) (T : WS) (a : Nat → Nat) (S : WS) (n : Nat) (hS : Ok S) (hn : n < 2 ^ 31) : CT l D cI cW yX0_bestLesson cX0_bestLesson 9 (some .int) ⟨5, 0, 0, 114⟩ [.ref (o 0), .ref (a 0), .int (nI n)] ([al o b cI q, wl b cI T, wl a cI S]) (PIE ((w_bl S n (s_pe S)).1) (fun T9 : WS => [al o b cI q, wl b cI T9, wl a cI S])) := by
  refine CT.of RX0 rfl (by decide +kernel) (Nat.le_of_ble_eq_true rfl) [(0, .ref (o 0)), (1, .ref (a 0)), (2, .int (nI n))] rfl (fun x X Rr hnm => ?_)
  have hth := hS.th
  have hpe := hS.pe
  refine G.pu X dX0_bestLesson_0 ?_
  refine G.is X dX0_bestLesson_2 (by decide) (lv' := [(3, .int (-9)), (0, .ref (o 0)), (1, .ref (a 0)), (2, .int (nI n))]) rfl ?_
  refine G.al X dX0_bestLesson_3 1 rfl ?_
  refine G.al X dX0_bestLesson_4 2 rfl ?_
  refine G.il X dX0_bestLesson_5 3 rfl ?_
  refine G.cvi X kX0_waterAsItIs lX0_33 dX0_bestLesson_6 (tX0_waterAsItIs l D cI cW o b q T a S n hS (by omega)) ⟨Nat.le_of_ble_eq_true rfl, Nat.le_of_ble_eq_true rfl⟩ ⟨Nat.zero_le _, Nat.zero_le _⟩ [0, 1, 2] rfl ⟨rfl, rfl⟩ rfl rfl 0 0 rfl rfl rfl rfl (Nat.le_of_ble_eq_true rfl) (ff_cons (al_fst _ _ _ _ _) (ff_cons (wl_fst _ _ _ _) (ff_cons (wl_fst _ _ _ _) (ff_nil)))) (ws' := [al o b cI q, wl b cI (w_dayN S n), wl a cI S]) rfl ?_
  refine G.is X dX0_bestLesson_9 (by decide) (lv' := [(4, .int (nI (w_wet S n))), (3, .int (-9)), (0, .ref (o 0)), (1, .ref (a 0)), (2, .int (nI n))]) rfl ?_
  refine G.pu X dX0_bestLesson_11 ?_
  refine G.is X dX0_bestLesson_12 (by decide) (lv' := [(5, .int 0), (4, .int (nI (w_wet S n))), (3, .int (-9)), (0, .ref (o 0)), (1, .ref (a 0)), (2, .int (nI n))]) rfl ?_
  have L14 : ∀ p, p ≤ s_pe S → ∀ T8 : WS, G x 0 0 ([al o b cI q, wl b cI T8, wl a cI S]) 14 [(5, .int (nI p)), (4, .int ((w_bl S n p).2)), (3, .int ((w_bl S n p).1)), (0, .ref (o 0)), (1, .ref (a 0)), (2, .int (nI n))] [] := by
    refine loop_dn (s_pe S) _ ?_ ?_
    · intro T8
      refine G.il X dX0_bestLesson_14 0 rfl ?_
      refine G.al X dX0_bestLesson_16 4 rfl ?_
      refine G.get X fX0_37 dX0_bestLesson_17 2 0 rfl rfl rfl ?_
      refine G.n_ge X (a := s_pe S) (b := s_pe S) (by omega) (by omega) dX0_bestLesson_20 (fun h20 => ?_) (fun h20 => absurd h20 (by omega))
      refine G.il X dX0_bestLesson_101 2 rfl ?_
      exact G.iret X Rr (v := ((w_bl S n (s_pe S)).1)) dX0_bestLesson_102 (pie_mk (T8) (by rfl) (by rfl))
    · intro p hp ih14 T8
      refine G.il X dX0_bestLesson_14 0 rfl ?_
      refine G.al X dX0_bestLesson_16 4 rfl ?_
      refine G.get X fX0_37 dX0_bestLesson_17 2 0 rfl rfl rfl ?_
      refine G.n_ge X (a := p) (b := s_pe S) (by omega) (by omega) dX0_bestLesson_20 (fun h20 => absurd h20 (by omega)) (fun h20 => ?_)
      refine G.al X dX0_bestLesson_23 4 rfl ?_
      refine G.il X dX0_bestLesson_24 0 rfl ?_
      refine G.cvi X kX5_lessonBitsOf lX0_41 dX0_bestLesson_26 (tX5_lessonBitsOf l D cI cW a S (nI p) hS) ⟨Nat.le_of_ble_eq_true rfl, Nat.le_of_ble_eq_true rfl⟩ ⟨Nat.zero_le _, Nat.zero_le _⟩ [2] rfl ⟨rfl, rfl⟩ rfl rfl 2 0 rfl rfl rfl rfl (Nat.le_of_ble_eq_true rfl) (ff_cons (wl_fst _ _ _ _) (ff_nil)) (ws' := [al o b cI q, wl b cI T8, wl a cI S]) rfl ?_
      refine G.is X dX0_bestLesson_29 (by decide) (lv' := [(6, .int (w_les S (nI p) (s_th S))), (5, .int (nI p)), (4, .int ((w_bl S n p).2)), (3, .int ((w_bl S n p).1)), (0, .ref (o 0)), (1, .ref (a 0)), (2, .int (nI n))]) rfl ?_
      refine G.pu X dX0_bestLesson_31 ?_
      refine G.is X dX0_bestLesson_32 (by decide) (lv' := [(7, .int 0), (6, .int (w_les S (nI p) (s_th S))), (5, .int (nI p)), (4, .int ((w_bl S n p).2)), (3, .int ((w_bl S n p).1)), (0, .ref (o 0)), (1, .ref (a 0)), (2, .int (nI n))]) rfl ?_
      have L34 : ∀ t, t ≤ 8 → ∀ T7 : WS, G x 0 0 ([al o b cI q, wl b cI T7, wl a cI S]) 34 [(7, .int (nI t)), (6, .int (w_les S (nI p) (s_th S))), (5, .int (nI p)), (4, .int ((w_bl1 S n p (w_bl S n p) t).2)), (3, .int ((w_bl1 S n p (w_bl S n p) t).1)), (0, .ref (o 0)), (1, .ref (a 0)), (2, .int (nI n))] [] := by
        refine loop_dn 8 _ ?_ ?_
        · intro T7
          refine G.il X dX0_bestLesson_34 0 rfl ?_
          refine G.pu X dX0_bestLesson_36 ?_
          refine G.n_ge X (a := 8) (b := 8) (by omega) (by omega) dX0_bestLesson_38 (fun h38 => ?_) (fun h38 => absurd h38 (by omega))
          refine G.iinc X dX0_bestLesson_95 2 rfl (v' := nI (p + 1)) (nI_inc p) (by decide) (lv' := [(5, .int (nI (p + 1))), (7, .int (nI 8)), (6, .int (w_les S (nI p) (s_th S))), (4, .int ((w_bl1 S n p (w_bl S n p) 8).2)), (3, .int ((w_bl1 S n p (w_bl S n p) 8).1)), (0, .ref (o 0)), (1, .ref (a 0)), (2, .int (nI n))]) rfl ?_
          refine G.go X dX0_bestLesson_98 ?_
          replace ih14 := ih14 T7
          rw [show ((w_bl S n (p + 1)).2) = ((w_bl1 S n p (w_bl S n p) 8).2) from (by rfl)] at ih14
          rw [show ((w_bl S n (p + 1)).1) = ((w_bl1 S n p (w_bl S n p) 8).1) from (by rfl)] at ih14
          refine G.lvsub [0, 3, 4, 5, 6, 7] (lv' := [(5, .int (nI (p + 1))), (4, .int ((w_bl1 S n p (w_bl S n p) 8).2)), (3, .int ((w_bl1 S n p (w_bl S n p) 8).1)), (0, .ref (o 0)), (1, .ref (a 0)), (2, .int (nI n))]) rfl ?_
          exact ih14
        · intro t ht ih34 T7
          refine G.il X dX0_bestLesson_34 0 rfl ?_
          refine G.pu X dX0_bestLesson_36 ?_
          refine G.n_ge X (a := t) (b := 8) (by omega) (by omega) dX0_bestLesson_38 (fun h38 => absurd h38 (by omega)) (fun h38 => ?_)
          refine G.il X dX0_bestLesson_41 1 rfl ?_
          refine G.il X dX0_bestLesson_43 0 rfl ?_
          refine G.ishr X dX0_bestLesson_45 ?_
          refine G.pu X dX0_bestLesson_46 ?_
          refine G.iand X dX0_bestLesson_47 ?_
          refine G.pu X dX0_bestLesson_48 ?_
          refine G.c_ne X (a := (((w_les S (nI p) (s_th S)) >>> ((nI t) &&& 31)) &&& 1)) (b := 1) dX0_bestLesson_49 (fun h49 => ?_) (fun h49 => ?_)
          · refine G.pu X dX0_bestLesson_65 ?_
            refine G.is X dX0_bestLesson_67 (by decide) (lv' := [(8, .int (-9)), (7, .int (nI t)), (6, .int (w_les S (nI p) (s_th S))), (5, .int (nI p)), (4, .int ((w_bl1 S n p (w_bl S n p) t).2)), (3, .int ((w_bl1 S n p (w_bl S n p) t).1)), (0, .ref (o 0)), (1, .ref (a 0)), (2, .int (nI n))]) rfl ?_
            refine G.il X dX0_bestLesson_69 0 rfl ?_
            refine G.il X dX0_bestLesson_71 4 rfl ?_
            refine G.c_le X (a := (-9)) (b := ((w_bl1 S n p (w_bl S n p) t).2)) dX0_bestLesson_73 (fun h73 => ?_) (fun h73 => absurd h73 ((w_bl1_n9 S n p t hn)))
            refine G.iinc X dX0_bestLesson_89 1 rfl (v' := nI (t + 1)) (nI_inc t) (by decide) (lv' := [(7, .int (nI (t + 1))), (8, .int (-9)), (6, .int (w_les S (nI p) (s_th S))), (5, .int (nI p)), (4, .int ((w_bl1 S n p (w_bl S n p) t).2)), (3, .int ((w_bl1 S n p (w_bl S n p) t).1)), (0, .ref (o 0)), (1, .ref (a 0)), (2, .int (nI n))]) rfl ?_
            refine G.go X dX0_bestLesson_92 ?_
            replace ih34 := ih34 T7
            rw [show ((w_bl1 S n p (w_bl S n p) (t + 1)).2) = ((w_bl1 S n p (w_bl S n p) t).2) from (by simp [w_bl1, hasb, h38, h49, h73])] at ih34
            rw [show ((w_bl1 S n p (w_bl S n p) (t + 1)).1) = ((w_bl1 S n p (w_bl S n p) t).1) from (by simp [w_bl1, hasb, h38, h49, h73])] at ih34
            refine G.lvsub [0, 2, 3, 4, 5, 6, 7, 8] (lv' := [(7, .int (nI (t + 1))), (6, .int (w_les S (nI p) (s_th S))), (5, .int (nI p)), (4, .int ((w_bl1 S n p (w_bl S n p) t).2)), (3, .int ((w_bl1 S n p (w_bl S n p) t).1)), (0, .ref (o 0)), (1, .ref (a 0)), (2, .int (nI n))]) rfl ?_
            exact ih34
          · refine G.al X dX0_bestLesson_52 5 rfl ?_
            refine G.al X dX0_bestLesson_53 6 rfl ?_
            refine G.il X dX0_bestLesson_54 2 rfl ?_
            refine G.il X dX0_bestLesson_56 0 rfl ?_
            refine G.il X dX0_bestLesson_58 7 rfl ?_
            refine G.cvi X kX0_waterTaught lX0_44 dX0_bestLesson_59 (tX0_waterTaught l D cI cW o b q T7 a S p t n hS (by omega) (by omega)) ⟨Nat.le_of_ble_eq_true rfl, Nat.le_of_ble_eq_true rfl⟩ ⟨Nat.zero_le _, Nat.zero_le _⟩ [0, 1, 2] rfl ⟨rfl, rfl⟩ rfl rfl 0 0 rfl rfl rfl rfl (Nat.le_of_ble_eq_true rfl) (ff_cons (al_fst _ _ _ _ _) (ff_cons (wl_fst _ _ _ _) (ff_cons (wl_fst _ _ _ _) (ff_nil)))) (ws' := [al o b cI q, wl b cI (w_dayN (w_tau S p (nI t)) n), wl a cI S]) rfl ?_
            refine G.go X dX0_bestLesson_62 ?_
            refine G.is X dX0_bestLesson_67 (by decide) (lv' := [(8, .int (nI (w_wet (w_tau S p (nI t)) n))), (7, .int (nI t)), (6, .int (w_les S (nI p) (s_th S))), (5, .int (nI p)), (4, .int ((w_bl1 S n p (w_bl S n p) t).2)), (3, .int ((w_bl1 S n p (w_bl S n p) t).1)), (0, .ref (o 0)), (1, .ref (a 0)), (2, .int (nI n))]) rfl ?_
            refine G.il X dX0_bestLesson_69 0 rfl ?_
            refine G.il X dX0_bestLesson_71 4 rfl ?_
            refine G.c_le X (a := nI (w_wet (w_tau S p (nI t)) n)) (b := ((w_bl1 S n p (w_bl S n p) t).2)) dX0_bestLesson_73 (fun h73 => ?_) (fun h73 => ?_)
            · refine G.iinc X dX0_bestLesson_89 1 rfl (v' := nI (t + 1)) (nI_inc t) (by decide) (lv' := [(7, .int (nI (t + 1))), (8, .int (nI (w_wet (w_tau S p (nI t)) n))), (6, .int (w_les S (nI p) (s_th S))), (5, .int (nI p)), (4, .int ((w_bl1 S n p (w_bl S n p) t).2)), (3, .int ((w_bl1 S n p (w_bl S n p) t).1)), (0, .ref (o 0)), (1, .ref (a 0)), (2, .int (nI n))]) rfl ?_
              refine G.go X dX0_bestLesson_92 ?_
              replace ih34 := ih34 (w_dayN (w_tau S p (nI t)) n)
              rw [show ((w_bl1 S n p (w_bl S n p) (t + 1)).2) = ((w_bl1 S n p (w_bl S n p) t).2) from (by simp [w_bl1, hasb, h38, h49, h73])] at ih34
              rw [show ((w_bl1 S n p (w_bl S n p) (t + 1)).1) = ((w_bl1 S n p (w_bl S n p) t).1) from (by simp [w_bl1, hasb, h38, h49, h73])] at ih34
              refine G.lvsub [0, 2, 3, 4, 5, 6, 7, 8] (lv' := [(7, .int (nI (t + 1))), (6, .int (w_les S (nI p) (s_th S))), (5, .int (nI p)), (4, .int ((w_bl1 S n p (w_bl S n p) t).2)), (3, .int ((w_bl1 S n p (w_bl S n p) t).1)), (0, .ref (o 0)), (1, .ref (a 0)), (2, .int (nI n))]) rfl ?_
              exact ih34
            · refine G.il X dX0_bestLesson_76 0 rfl ?_
              refine G.is X dX0_bestLesson_78 (by decide) (lv' := [(4, .int (nI (w_wet (w_tau S p (nI t)) n))), (8, .int (nI (w_wet (w_tau S p (nI t)) n))), (7, .int (nI t)), (6, .int (w_les S (nI p) (s_th S))), (5, .int (nI p)), (3, .int ((w_bl1 S n p (w_bl S n p) t).1)), (0, .ref (o 0)), (1, .ref (a 0)), (2, .int (nI n))]) rfl ?_
              refine G.pu X dX0_bestLesson_80 ?_
              refine G.il X dX0_bestLesson_82 4 rfl ?_
              refine G.imul X dX0_bestLesson_84 ?_
              refine G.il X dX0_bestLesson_85 2 rfl ?_
              refine G.iadd X dX0_bestLesson_87 ?_
              refine G.is X dX0_bestLesson_88 (by decide) (lv' := [(3, .int ((10 * (nI p)) + (nI t))), (4, .int (nI (w_wet (w_tau S p (nI t)) n))), (8, .int (nI (w_wet (w_tau S p (nI t)) n))), (7, .int (nI t)), (6, .int (w_les S (nI p) (s_th S))), (5, .int (nI p)), (0, .ref (o 0)), (1, .ref (a 0)), (2, .int (nI n))]) rfl ?_
              refine G.iinc X dX0_bestLesson_89 3 rfl (v' := nI (t + 1)) (nI_inc t) (by decide) (lv' := [(7, .int (nI (t + 1))), (3, .int ((10 * (nI p)) + (nI t))), (4, .int (nI (w_wet (w_tau S p (nI t)) n))), (8, .int (nI (w_wet (w_tau S p (nI t)) n))), (6, .int (w_les S (nI p) (s_th S))), (5, .int (nI p)), (0, .ref (o 0)), (1, .ref (a 0)), (2, .int (nI n))]) rfl ?_
              refine G.go X dX0_bestLesson_92 ?_
              replace ih34 := ih34 (w_dayN (w_tau S p (nI t)) n)
              rw [show ((w_bl1 S n p (w_bl S n p) (t + 1)).2) = (nI (w_wet (w_tau S p (nI t)) n)) from (by simp [w_bl1, hasb, h38, h49, h73])] at ih34
              rw [show ((w_bl1 S n p (w_bl S n p) (t + 1)).1) = ((10 * (nI p)) + (nI t)) from (by simp [w_bl1, hasb, h38, h49, h73])] at ih34
              refine G.lvsub [0, 4, 5, 2, 1, 6, 7, 8] (lv' := [(7, .int (nI (t + 1))), (6, .int (w_les S (nI p) (s_th S))), (5, .int (nI p)), (4, .int (nI (w_wet (w_tau S p (nI t)) n))), (3, .int ((10 * (nI p)) + (nI t))), (0, .ref (o 0)), (1, .ref (a 0)), (2, .int (nI n))]) rfl ?_
              exact ih34
      have L34 := L34 0 (Nat.zero_le _) T8
      exact L34
  have L14 := L14 0 (Nat.zero_le _) (w_dayN S n)
  exact L14

set_option maxRecDepth 20000 in
theorem tX0_burdenOf (l : Launch) (D : va_G) (cI cW : ClassId) (o : Nat → Nat) (b : Nat → Nat) (q : FN × FN) (T : WS) (p : Nat) (v : Bool) (hth : s_th T ≤ 9) : CT l D cI cW yX0_burdenOf cX0_burdenOf 3 (some .int) ⟨1, 0, 0, 23⟩ [.ref (o 0), .int (nI p), .int (b2i v)] ([al o b cI q, wl b cI T]) (PI (w_bur T p v) ([al o b cI q, wl b cI T])) := by
  refine CT.of RX0 rfl (by decide +kernel) (Nat.le_of_ble_eq_true rfl) [(0, .ref (o 0)), (1, .int (nI p)), (2, .int (b2i v))] rfl (fun x X Rr hnm => ?_)
  refine G.il X dX0_burdenOf_0 2 rfl ?_
  refine G.b_ne X dX0_burdenOf_1 (fun h1 => ?_) (fun h1 => ?_)
  · refine G.pu X dX0_burdenOf_19 ?_
    exact G.iret X Rr (v := 0) dX0_burdenOf_20 (pi_mk (by simp [w_bur, h1]) (by rfl))
  · refine G.al X dX0_burdenOf_4 0 rfl ?_
    refine G.get X fX0_12 dX0_burdenOf_5 0 0 rfl rfl rfl ?_
    refine G.il X dX0_burdenOf_8 1 rfl ?_
    refine G.cvi X kX5_queueOf lX0_80 dX0_burdenOf_9 (tX5_queueOf l D cI cW b T (nI p) (by omega)) ⟨Nat.le_of_ble_eq_true rfl, Nat.le_of_ble_eq_true rfl⟩ ⟨Nat.zero_le _, Nat.zero_le _⟩ [1] rfl ⟨rfl, rfl⟩ rfl rfl 1 0 rfl rfl rfl rfl (Nat.le_of_ble_eq_true rfl) (ff_cons (wl_fst _ _ _ _) (ff_nil)) (ws' := [al o b cI q, wl b cI T]) rfl ?_
    refine G.z_le X (a := (w_qs T (nI p) (s_th T))) dX0_burdenOf_12 (fun h12 => ?_) (fun h12 => ?_)
    · refine G.pu X dX0_burdenOf_19 ?_
      exact G.iret X Rr (v := 0) dX0_burdenOf_20 (pi_mk (by simp [w_bur, h1, h12]) (by rfl))
    · refine G.pu X dX0_burdenOf_15 ?_
      refine G.go X dX0_burdenOf_16 ?_
      exact G.iret X Rr (v := 3) dX0_burdenOf_20 (pi_mk (by simp [w_bur, h1, h12]) (by rfl))

set_option maxRecDepth 20000 in
theorem tX0_findGains_0 (l : Launch) (D : va_G) (cI cW : ClassId) (o : Nat → Nat) (b : Nat → Nat) (q : FN × FN) (T : WS) (a : Nat → Nat) (S : WS) (i : Nat) (j : Nat) (n : Nat) (hS : Ok S) (hi : i < s_pe S) (hj : j < s_pe S) (hn : n < 2 ^ 31) : CT l D cI cW yX0_findGains cX0_findGains 9 none ⟨4, 0, 0, 90⟩ [.ref (o 0), .ref (a 0), .int (nI i), .int (nI j), .int (nI n), .int 0] ([al o b cI q, wl b cI T, wl a cI S]) (PV ([al o b cI (upd (g_1 q) 0 (w_gn S i j n false false i false), upd (g_2 q) 0 (w_gn S i j n false false j false)), wl b cI (w_dayN (w_s2 S i j false false) n), wl a cI S])) := by
  refine CT.of RX0 rfl (by decide +kernel) (Nat.le_of_ble_eq_true rfl) [(0, .ref (o 0)), (1, .ref (a 0)), (2, .int (nI i)), (3, .int (nI j)), (4, .int (nI n)), (5, .int 0)] rfl (fun x X Rr hnm => ?_)
  have hth := hS.th
  have hpe := hS.pe
  refine G.il X dX0_findGains_0 5 rfl ?_
  refine G.pu X dX0_findGains_2 ?_
  refine G.iand X dX0_findGains_3 ?_
  refine G.top (b := 0) (by decide) ?_
  refine G.z_eq X (a := 0) dX0_findGains_4 (fun h4 => ?_) (fun h4 => absurd h4 (by decide))
  refine G.pu X dX0_findGains_11 ?_
  refine G.is X dX0_findGains_12 (by decide) (lv' := [(6, .int 0), (0, .ref (o 0)), (1, .ref (a 0)), (2, .int (nI i)), (3, .int (nI j)), (4, .int (nI n)), (5, .int 0)]) rfl ?_
  refine G.il X dX0_findGains_14 6 rfl ?_
  refine G.pu X dX0_findGains_16 ?_
  refine G.iand X dX0_findGains_17 ?_
  refine G.top (b := 0) (by decide) ?_
  refine G.z_eq X (a := 0) dX0_findGains_18 (fun h18 => ?_) (fun h18 => absurd h18 (by decide))
  refine G.pu X dX0_findGains_25 ?_
  refine G.is X dX0_findGains_26 (by decide) (lv' := [(7, .int 0), (6, .int 0), (0, .ref (o 0)), (1, .ref (a 0)), (2, .int (nI i)), (3, .int (nI j)), (4, .int (nI n)), (5, .int 0)]) rfl ?_
  refine G.al X dX0_findGains_28 2 rfl ?_
  refine G.get X fX0_12 dX0_findGains_29 0 0 rfl rfl rfl ?_
  refine G.al X dX0_findGains_32 3 rfl ?_
  refine G.cvv X kX5_becomes lX0_25 dX0_findGains_33 (tX5_becomes l D cI cW b T a S) ⟨Nat.le_of_ble_eq_true rfl, Nat.le_of_ble_eq_true rfl⟩ ⟨Nat.zero_le _, Nat.zero_le _⟩ [1, 2] rfl ⟨rfl, rfl⟩ rfl rfl 1 0 rfl rfl rfl rfl (Nat.le_of_ble_eq_true rfl) (ff_cons (wl_fst _ _ _ _) (ff_cons (wl_fst _ _ _ _) (ff_nil))) (ws' := [al o b cI q, wl b cI S, wl a cI S]) rfl ?_
  refine G.il X dX0_findGains_36 1 rfl ?_
  refine G.z_eq X (a := 0) dX0_findGains_38 (fun h38 => ?_) (fun h38 => absurd h38 (by decide))
  refine G.il X dX0_findGains_51 0 rfl ?_
  refine G.z_eq X (a := 0) dX0_findGains_53 (fun h53 => ?_) (fun h53 => absurd h53 (by decide))
  refine G.cg (ws' := [al o b cI q, wl b cI (w_s2 S i j false false), wl a cI S]) rfl rfl rfl ?_
  refine G.al X dX0_findGains_66 2 rfl ?_
  refine G.get X fX0_12 dX0_findGains_67 0 0 rfl rfl rfl ?_
  refine G.il X dX0_findGains_70 6 rfl ?_
  refine G.cvi X kX5_waterInPassing lX0_29 dX0_findGains_72 (tX5_waterInPassing l D cI cW b (w_s2 S i j false false) n (ok_s2 hS i j false false) (by omega)) ⟨Nat.le_of_ble_eq_true rfl, Nat.le_of_ble_eq_true rfl⟩ ⟨Nat.zero_le _, Nat.zero_le _⟩ [1] rfl ⟨rfl, rfl⟩ rfl rfl 1 0 rfl rfl rfl rfl (Nat.le_of_ble_eq_true rfl) (ff_cons (wl_fst _ _ _ _) (ff_nil)) (ws' := [al o b cI q, wl b cI (w_dayN (w_s2 S i j false false) n), wl a cI S]) rfl ?_
  refine G.is X dX0_findGains_75 (by decide) (lv' := [(8, .int (nI (w_wet (w_s2 S i j false false) n))), (7, .int 0), (6, .int 0), (0, .ref (o 0)), (1, .ref (a 0)), (2, .int (nI i)), (3, .int (nI j)), (4, .int (nI n)), (5, .int 0)]) rfl ?_
  refine G.al X dX0_findGains_77 3 rfl ?_
  refine G.get X fX0_18 dX0_findGains_78 0 0 rfl rfl rfl ?_
  refine G.il X dX0_findGains_81 8 rfl ?_
  refine G.il X dX0_findGains_83 0 rfl ?_
  refine G.al X dX0_findGains_85 3 rfl ?_
  refine G.il X dX0_findGains_86 5 rfl ?_
  refine G.il X dX0_findGains_87 2 rfl ?_
  refine G.cvi X kX0_burdenOf lX0_76 dX0_findGains_89 (tX0_burdenOf l D cI cW o b q (w_dayN (w_s2 S i j false false) n) i false (ok_dayN (ok_s2 hS i j false false) n).th) ⟨Nat.le_of_ble_eq_true rfl, Nat.le_of_ble_eq_true rfl⟩ ⟨Nat.zero_le _, Nat.zero_le _⟩ [0, 1] rfl ⟨rfl, rfl⟩ rfl rfl 0 0 rfl rfl rfl rfl (Nat.le_of_ble_eq_true rfl) (ff_cons (al_fst _ _ _ _ _) (ff_cons (wl_fst _ _ _ _) (ff_nil))) (ws' := [al o b cI q, wl b cI (w_dayN (w_s2 S i j false false) n), wl a cI S]) rfl ?_
  refine G.isub X dX0_findGains_92 ?_
  refine G.nst X (i := 0) dX0_findGains_93 0 1 rfl rfl (by omega) (by decide) (blk' := al o b cI (upd (g_1 q) 0 ((nI (w_wet (w_s2 S i j false false) n)) - (w_bur (w_dayN (w_s2 S i j false false) n) i false)), g_2 q)) rfl (ws' := [al o b cI (upd (g_1 q) 0 ((nI (w_wet (w_s2 S i j false false) n)) - (w_bur (w_dayN (w_s2 S i j false false) n) i false)), g_2 q), wl b cI (w_dayN (w_s2 S i j false false) n), wl a cI S]) rfl ?_
  refine G.al X dX0_findGains_94 3 rfl ?_
  refine G.get X fX0_22 dX0_findGains_95 0 0 rfl rfl rfl ?_
  refine G.il X dX0_findGains_98 8 rfl ?_
  refine G.il X dX0_findGains_100 0 rfl ?_
  refine G.al X dX0_findGains_102 3 rfl ?_
  refine G.il X dX0_findGains_103 6 rfl ?_
  refine G.il X dX0_findGains_104 1 rfl ?_
  refine G.cvi X kX0_burdenOf lX0_76 dX0_findGains_106 (tX0_burdenOf l D cI cW o b (upd (g_1 q) 0 ((nI (w_wet (w_s2 S i j false false) n)) - (w_bur (w_dayN (w_s2 S i j false false) n) i false)), g_2 q) (w_dayN (w_s2 S i j false false) n) j false (ok_dayN (ok_s2 hS i j false false) n).th) ⟨Nat.le_of_ble_eq_true rfl, Nat.le_of_ble_eq_true rfl⟩ ⟨Nat.zero_le _, Nat.zero_le _⟩ [0, 1] rfl ⟨rfl, rfl⟩ rfl rfl 0 0 rfl rfl rfl rfl (Nat.le_of_ble_eq_true rfl) (ff_cons (al_fst _ _ _ _ _) (ff_cons (wl_fst _ _ _ _) (ff_nil))) (ws' := [al o b cI (upd (g_1 q) 0 ((nI (w_wet (w_s2 S i j false false) n)) - (w_bur (w_dayN (w_s2 S i j false false) n) i false)), g_2 q), wl b cI (w_dayN (w_s2 S i j false false) n), wl a cI S]) rfl ?_
  refine G.isub X dX0_findGains_109 ?_
  refine G.nst X (i := 0) dX0_findGains_110 0 2 rfl rfl (by omega) (by decide) (blk' := al o b cI (upd (g_1 q) 0 ((nI (w_wet (w_s2 S i j false false) n)) - (w_bur (w_dayN (w_s2 S i j false false) n) i false)), upd (g_2 q) 0 ((nI (w_wet (w_s2 S i j false false) n)) - (w_bur (w_dayN (w_s2 S i j false false) n) j false)))) rfl (ws' := [al o b cI (upd (g_1 q) 0 ((nI (w_wet (w_s2 S i j false false) n)) - (w_bur (w_dayN (w_s2 S i j false false) n) i false)), upd (g_2 q) 0 ((nI (w_wet (w_s2 S i j false false) n)) - (w_bur (w_dayN (w_s2 S i j false false) n) j false))), wl b cI (w_dayN (w_s2 S i j false false) n), wl a cI S]) rfl ?_
  exact G.vret X Rr dX0_findGains_111 (pv_mk (by rfl))

set_option maxRecDepth 20000 in
theorem tX0_findGains_1 (l : Launch) (D : va_G) (cI cW : ClassId) (o : Nat → Nat) (b : Nat → Nat) (q : FN × FN) (T : WS) (a : Nat → Nat) (S : WS) (i : Nat) (j : Nat) (n : Nat) (hS : Ok S) (hi : i < s_pe S) (hj : j < s_pe S) (hn : n < 2 ^ 31) : CT l D cI cW yX0_findGains cX0_findGains 9 none ⟨4, 0, 0, 90⟩ [.ref (o 0), .ref (a 0), .int (nI i), .int (nI j), .int (nI n), .int 1] ([al o b cI q, wl b cI T, wl a cI S]) (PV ([al o b cI (upd (g_1 q) 1 (w_gn S i j n false true i false), upd (g_2 q) 1 (w_gn S i j n false true j true)), wl b cI (w_dayN (w_s2 S i j false true) n), wl a cI S])) := by
  refine CT.of RX0 rfl (by decide +kernel) (Nat.le_of_ble_eq_true rfl) [(0, .ref (o 0)), (1, .ref (a 0)), (2, .int (nI i)), (3, .int (nI j)), (4, .int (nI n)), (5, .int 1)] rfl (fun x X Rr hnm => ?_)
  have hth := hS.th
  have hpe := hS.pe
  refine G.il X dX0_findGains_0 5 rfl ?_
  refine G.pu X dX0_findGains_2 ?_
  refine G.iand X dX0_findGains_3 ?_
  refine G.top (b := 0) (by decide) ?_
  refine G.z_eq X (a := 0) dX0_findGains_4 (fun h4 => ?_) (fun h4 => absurd h4 (by decide))
  refine G.pu X dX0_findGains_11 ?_
  refine G.is X dX0_findGains_12 (by decide) (lv' := [(6, .int 0), (0, .ref (o 0)), (1, .ref (a 0)), (2, .int (nI i)), (3, .int (nI j)), (4, .int (nI n)), (5, .int 1)]) rfl ?_
  refine G.il X dX0_findGains_14 6 rfl ?_
  refine G.pu X dX0_findGains_16 ?_
  refine G.iand X dX0_findGains_17 ?_
  refine G.top (b := 1) (by decide) ?_
  refine G.z_eq X (a := 1) dX0_findGains_18 (fun h18 => absurd h18 (by decide)) (fun h18 => ?_)
  refine G.pu X dX0_findGains_21 ?_
  refine G.go X dX0_findGains_22 ?_
  refine G.is X dX0_findGains_26 (by decide) (lv' := [(7, .int 1), (6, .int 0), (0, .ref (o 0)), (1, .ref (a 0)), (2, .int (nI i)), (3, .int (nI j)), (4, .int (nI n)), (5, .int 1)]) rfl ?_
  refine G.al X dX0_findGains_28 2 rfl ?_
  refine G.get X fX0_12 dX0_findGains_29 0 0 rfl rfl rfl ?_
  refine G.al X dX0_findGains_32 3 rfl ?_
  refine G.cvv X kX5_becomes lX0_25 dX0_findGains_33 (tX5_becomes l D cI cW b T a S) ⟨Nat.le_of_ble_eq_true rfl, Nat.le_of_ble_eq_true rfl⟩ ⟨Nat.zero_le _, Nat.zero_le _⟩ [1, 2] rfl ⟨rfl, rfl⟩ rfl rfl 1 0 rfl rfl rfl rfl (Nat.le_of_ble_eq_true rfl) (ff_cons (wl_fst _ _ _ _) (ff_cons (wl_fst _ _ _ _) (ff_nil))) (ws' := [al o b cI q, wl b cI S, wl a cI S]) rfl ?_
  refine G.il X dX0_findGains_36 1 rfl ?_
  refine G.z_eq X (a := 0) dX0_findGains_38 (fun h38 => ?_) (fun h38 => absurd h38 (by decide))
  refine G.il X dX0_findGains_51 0 rfl ?_
  refine G.z_eq X (a := 1) dX0_findGains_53 (fun h53 => absurd h53 (by decide)) (fun h53 => ?_)
  refine G.al X dX0_findGains_56 2 rfl ?_
  refine G.get X fX0_12 dX0_findGains_57 0 0 rfl rfl rfl ?_
  refine G.get X fX0_48 dX0_findGains_60 1 0 rfl rfl rfl ?_
  refine G.il X dX0_findGains_63 5 rfl ?_
  refine G.pu X dX0_findGains_64 ?_
  refine G.nst X (i := j) dX0_findGains_65 1 1 rfl rfl (by omega) (by decide) (blk' := wl b cI (s_pe S, s_th S, s_da S, s_dr S, upd (s_kn S) j 0, s_sh S, s_an S, s_ki S, s_we S, s_dp S, s_wa S, s_le S)) rfl (ws' := [al o b cI q, wl b cI (s_pe S, s_th S, s_da S, s_dr S, upd (s_kn S) j 0, s_sh S, s_an S, s_ki S, s_we S, s_dp S, s_wa S, s_le S), wl a cI S]) rfl ?_
  refine G.cg (ws' := [al o b cI q, wl b cI (w_s2 S i j false true), wl a cI S]) rfl rfl rfl ?_
  refine G.al X dX0_findGains_66 2 rfl ?_
  refine G.get X fX0_12 dX0_findGains_67 0 0 rfl rfl rfl ?_
  refine G.il X dX0_findGains_70 6 rfl ?_
  refine G.cvi X kX5_waterInPassing lX0_29 dX0_findGains_72 (tX5_waterInPassing l D cI cW b (w_s2 S i j false true) n (ok_s2 hS i j false true) (by omega)) ⟨Nat.le_of_ble_eq_true rfl, Nat.le_of_ble_eq_true rfl⟩ ⟨Nat.zero_le _, Nat.zero_le _⟩ [1] rfl ⟨rfl, rfl⟩ rfl rfl 1 0 rfl rfl rfl rfl (Nat.le_of_ble_eq_true rfl) (ff_cons (wl_fst _ _ _ _) (ff_nil)) (ws' := [al o b cI q, wl b cI (w_dayN (w_s2 S i j false true) n), wl a cI S]) rfl ?_
  refine G.is X dX0_findGains_75 (by decide) (lv' := [(8, .int (nI (w_wet (w_s2 S i j false true) n))), (7, .int 1), (6, .int 0), (0, .ref (o 0)), (1, .ref (a 0)), (2, .int (nI i)), (3, .int (nI j)), (4, .int (nI n)), (5, .int 1)]) rfl ?_
  refine G.al X dX0_findGains_77 3 rfl ?_
  refine G.get X fX0_18 dX0_findGains_78 0 0 rfl rfl rfl ?_
  refine G.il X dX0_findGains_81 8 rfl ?_
  refine G.il X dX0_findGains_83 0 rfl ?_
  refine G.al X dX0_findGains_85 3 rfl ?_
  refine G.il X dX0_findGains_86 5 rfl ?_
  refine G.il X dX0_findGains_87 2 rfl ?_
  refine G.cvi X kX0_burdenOf lX0_76 dX0_findGains_89 (tX0_burdenOf l D cI cW o b q (w_dayN (w_s2 S i j false true) n) i false (ok_dayN (ok_s2 hS i j false true) n).th) ⟨Nat.le_of_ble_eq_true rfl, Nat.le_of_ble_eq_true rfl⟩ ⟨Nat.zero_le _, Nat.zero_le _⟩ [0, 1] rfl ⟨rfl, rfl⟩ rfl rfl 0 0 rfl rfl rfl rfl (Nat.le_of_ble_eq_true rfl) (ff_cons (al_fst _ _ _ _ _) (ff_cons (wl_fst _ _ _ _) (ff_nil))) (ws' := [al o b cI q, wl b cI (w_dayN (w_s2 S i j false true) n), wl a cI S]) rfl ?_
  refine G.isub X dX0_findGains_92 ?_
  refine G.nst X (i := 1) dX0_findGains_93 0 1 rfl rfl (by omega) (by decide) (blk' := al o b cI (upd (g_1 q) 1 ((nI (w_wet (w_s2 S i j false true) n)) - (w_bur (w_dayN (w_s2 S i j false true) n) i false)), g_2 q)) rfl (ws' := [al o b cI (upd (g_1 q) 1 ((nI (w_wet (w_s2 S i j false true) n)) - (w_bur (w_dayN (w_s2 S i j false true) n) i false)), g_2 q), wl b cI (w_dayN (w_s2 S i j false true) n), wl a cI S]) rfl ?_
  refine G.al X dX0_findGains_94 3 rfl ?_
  refine G.get X fX0_22 dX0_findGains_95 0 0 rfl rfl rfl ?_
  refine G.il X dX0_findGains_98 8 rfl ?_
  refine G.il X dX0_findGains_100 0 rfl ?_
  refine G.al X dX0_findGains_102 3 rfl ?_
  refine G.il X dX0_findGains_103 6 rfl ?_
  refine G.il X dX0_findGains_104 1 rfl ?_
  refine G.cvi X kX0_burdenOf lX0_76 dX0_findGains_106 (tX0_burdenOf l D cI cW o b (upd (g_1 q) 1 ((nI (w_wet (w_s2 S i j false true) n)) - (w_bur (w_dayN (w_s2 S i j false true) n) i false)), g_2 q) (w_dayN (w_s2 S i j false true) n) j true (ok_dayN (ok_s2 hS i j false true) n).th) ⟨Nat.le_of_ble_eq_true rfl, Nat.le_of_ble_eq_true rfl⟩ ⟨Nat.zero_le _, Nat.zero_le _⟩ [0, 1] rfl ⟨rfl, rfl⟩ rfl rfl 0 0 rfl rfl rfl rfl (Nat.le_of_ble_eq_true rfl) (ff_cons (al_fst _ _ _ _ _) (ff_cons (wl_fst _ _ _ _) (ff_nil))) (ws' := [al o b cI (upd (g_1 q) 1 ((nI (w_wet (w_s2 S i j false true) n)) - (w_bur (w_dayN (w_s2 S i j false true) n) i false)), g_2 q), wl b cI (w_dayN (w_s2 S i j false true) n), wl a cI S]) rfl ?_
  refine G.isub X dX0_findGains_109 ?_
  refine G.nst X (i := 1) dX0_findGains_110 0 2 rfl rfl (by omega) (by decide) (blk' := al o b cI (upd (g_1 q) 1 ((nI (w_wet (w_s2 S i j false true) n)) - (w_bur (w_dayN (w_s2 S i j false true) n) i false)), upd (g_2 q) 1 ((nI (w_wet (w_s2 S i j false true) n)) - (w_bur (w_dayN (w_s2 S i j false true) n) j true)))) rfl (ws' := [al o b cI (upd (g_1 q) 1 ((nI (w_wet (w_s2 S i j false true) n)) - (w_bur (w_dayN (w_s2 S i j false true) n) i false)), upd (g_2 q) 1 ((nI (w_wet (w_s2 S i j false true) n)) - (w_bur (w_dayN (w_s2 S i j false true) n) j true))), wl b cI (w_dayN (w_s2 S i j false true) n), wl a cI S]) rfl ?_
  exact G.vret X Rr dX0_findGains_111 (pv_mk (by rfl))

set_option maxRecDepth 20000 in
theorem tX0_findGains_2 (l : Launch) (D : va_G) (cI cW : ClassId) (o : Nat → Nat) (b : Nat → Nat) (q : FN × FN) (T : WS) (a : Nat → Nat) (S : WS) (i : Nat) (j : Nat) (n : Nat) (hS : Ok S) (hi : i < s_pe S) (hj : j < s_pe S) (hn : n < 2 ^ 31) : CT l D cI cW yX0_findGains cX0_findGains 9 none ⟨4, 0, 0, 90⟩ [.ref (o 0), .ref (a 0), .int (nI i), .int (nI j), .int (nI n), .int 2] ([al o b cI q, wl b cI T, wl a cI S]) (PV ([al o b cI (upd (g_1 q) 2 (w_gn S i j n true false i true), upd (g_2 q) 2 (w_gn S i j n true false j false)), wl b cI (w_dayN (w_s2 S i j true false) n), wl a cI S])) := by
  refine CT.of RX0 rfl (by decide +kernel) (Nat.le_of_ble_eq_true rfl) [(0, .ref (o 0)), (1, .ref (a 0)), (2, .int (nI i)), (3, .int (nI j)), (4, .int (nI n)), (5, .int 2)] rfl (fun x X Rr hnm => ?_)
  have hth := hS.th
  have hpe := hS.pe
  refine G.il X dX0_findGains_0 5 rfl ?_
  refine G.pu X dX0_findGains_2 ?_
  refine G.iand X dX0_findGains_3 ?_
  refine G.top (b := 2) (by decide) ?_
  refine G.z_eq X (a := 2) dX0_findGains_4 (fun h4 => absurd h4 (by decide)) (fun h4 => ?_)
  refine G.pu X dX0_findGains_7 ?_
  refine G.go X dX0_findGains_8 ?_
  refine G.is X dX0_findGains_12 (by decide) (lv' := [(6, .int 1), (0, .ref (o 0)), (1, .ref (a 0)), (2, .int (nI i)), (3, .int (nI j)), (4, .int (nI n)), (5, .int 2)]) rfl ?_
  refine G.il X dX0_findGains_14 6 rfl ?_
  refine G.pu X dX0_findGains_16 ?_
  refine G.iand X dX0_findGains_17 ?_
  refine G.top (b := 0) (by decide) ?_
  refine G.z_eq X (a := 0) dX0_findGains_18 (fun h18 => ?_) (fun h18 => absurd h18 (by decide))
  refine G.pu X dX0_findGains_25 ?_
  refine G.is X dX0_findGains_26 (by decide) (lv' := [(7, .int 0), (6, .int 1), (0, .ref (o 0)), (1, .ref (a 0)), (2, .int (nI i)), (3, .int (nI j)), (4, .int (nI n)), (5, .int 2)]) rfl ?_
  refine G.al X dX0_findGains_28 2 rfl ?_
  refine G.get X fX0_12 dX0_findGains_29 0 0 rfl rfl rfl ?_
  refine G.al X dX0_findGains_32 3 rfl ?_
  refine G.cvv X kX5_becomes lX0_25 dX0_findGains_33 (tX5_becomes l D cI cW b T a S) ⟨Nat.le_of_ble_eq_true rfl, Nat.le_of_ble_eq_true rfl⟩ ⟨Nat.zero_le _, Nat.zero_le _⟩ [1, 2] rfl ⟨rfl, rfl⟩ rfl rfl 1 0 rfl rfl rfl rfl (Nat.le_of_ble_eq_true rfl) (ff_cons (wl_fst _ _ _ _) (ff_cons (wl_fst _ _ _ _) (ff_nil))) (ws' := [al o b cI q, wl b cI S, wl a cI S]) rfl ?_
  refine G.il X dX0_findGains_36 1 rfl ?_
  refine G.z_eq X (a := 1) dX0_findGains_38 (fun h38 => absurd h38 (by decide)) (fun h38 => ?_)
  refine G.al X dX0_findGains_41 2 rfl ?_
  refine G.get X fX0_12 dX0_findGains_42 0 0 rfl rfl rfl ?_
  refine G.get X fX0_48 dX0_findGains_45 1 0 rfl rfl rfl ?_
  refine G.il X dX0_findGains_48 4 rfl ?_
  refine G.pu X dX0_findGains_49 ?_
  refine G.nst X (i := i) dX0_findGains_50 1 1 rfl rfl (by omega) (by decide) (blk' := wl b cI (s_pe S, s_th S, s_da S, s_dr S, upd (s_kn S) i 0, s_sh S, s_an S, s_ki S, s_we S, s_dp S, s_wa S, s_le S)) rfl (ws' := [al o b cI q, wl b cI (s_pe S, s_th S, s_da S, s_dr S, upd (s_kn S) i 0, s_sh S, s_an S, s_ki S, s_we S, s_dp S, s_wa S, s_le S), wl a cI S]) rfl ?_
  refine G.il X dX0_findGains_51 0 rfl ?_
  refine G.z_eq X (a := 0) dX0_findGains_53 (fun h53 => ?_) (fun h53 => absurd h53 (by decide))
  refine G.cg (ws' := [al o b cI q, wl b cI (w_s2 S i j true false), wl a cI S]) rfl rfl rfl ?_
  refine G.al X dX0_findGains_66 2 rfl ?_
  refine G.get X fX0_12 dX0_findGains_67 0 0 rfl rfl rfl ?_
  refine G.il X dX0_findGains_70 6 rfl ?_
  refine G.cvi X kX5_waterInPassing lX0_29 dX0_findGains_72 (tX5_waterInPassing l D cI cW b (w_s2 S i j true false) n (ok_s2 hS i j true false) (by omega)) ⟨Nat.le_of_ble_eq_true rfl, Nat.le_of_ble_eq_true rfl⟩ ⟨Nat.zero_le _, Nat.zero_le _⟩ [1] rfl ⟨rfl, rfl⟩ rfl rfl 1 0 rfl rfl rfl rfl (Nat.le_of_ble_eq_true rfl) (ff_cons (wl_fst _ _ _ _) (ff_nil)) (ws' := [al o b cI q, wl b cI (w_dayN (w_s2 S i j true false) n), wl a cI S]) rfl ?_
  refine G.is X dX0_findGains_75 (by decide) (lv' := [(8, .int (nI (w_wet (w_s2 S i j true false) n))), (7, .int 0), (6, .int 1), (0, .ref (o 0)), (1, .ref (a 0)), (2, .int (nI i)), (3, .int (nI j)), (4, .int (nI n)), (5, .int 2)]) rfl ?_
  refine G.al X dX0_findGains_77 3 rfl ?_
  refine G.get X fX0_18 dX0_findGains_78 0 0 rfl rfl rfl ?_
  refine G.il X dX0_findGains_81 8 rfl ?_
  refine G.il X dX0_findGains_83 0 rfl ?_
  refine G.al X dX0_findGains_85 3 rfl ?_
  refine G.il X dX0_findGains_86 5 rfl ?_
  refine G.il X dX0_findGains_87 2 rfl ?_
  refine G.cvi X kX0_burdenOf lX0_76 dX0_findGains_89 (tX0_burdenOf l D cI cW o b q (w_dayN (w_s2 S i j true false) n) i true (ok_dayN (ok_s2 hS i j true false) n).th) ⟨Nat.le_of_ble_eq_true rfl, Nat.le_of_ble_eq_true rfl⟩ ⟨Nat.zero_le _, Nat.zero_le _⟩ [0, 1] rfl ⟨rfl, rfl⟩ rfl rfl 0 0 rfl rfl rfl rfl (Nat.le_of_ble_eq_true rfl) (ff_cons (al_fst _ _ _ _ _) (ff_cons (wl_fst _ _ _ _) (ff_nil))) (ws' := [al o b cI q, wl b cI (w_dayN (w_s2 S i j true false) n), wl a cI S]) rfl ?_
  refine G.isub X dX0_findGains_92 ?_
  refine G.nst X (i := 2) dX0_findGains_93 0 1 rfl rfl (by omega) (by decide) (blk' := al o b cI (upd (g_1 q) 2 ((nI (w_wet (w_s2 S i j true false) n)) - (w_bur (w_dayN (w_s2 S i j true false) n) i true)), g_2 q)) rfl (ws' := [al o b cI (upd (g_1 q) 2 ((nI (w_wet (w_s2 S i j true false) n)) - (w_bur (w_dayN (w_s2 S i j true false) n) i true)), g_2 q), wl b cI (w_dayN (w_s2 S i j true false) n), wl a cI S]) rfl ?_
  refine G.al X dX0_findGains_94 3 rfl ?_
  refine G.get X fX0_22 dX0_findGains_95 0 0 rfl rfl rfl ?_
  refine G.il X dX0_findGains_98 8 rfl ?_
  refine G.il X dX0_findGains_100 0 rfl ?_
  refine G.al X dX0_findGains_102 3 rfl ?_
  refine G.il X dX0_findGains_103 6 rfl ?_
  refine G.il X dX0_findGains_104 1 rfl ?_
  refine G.cvi X kX0_burdenOf lX0_76 dX0_findGains_106 (tX0_burdenOf l D cI cW o b (upd (g_1 q) 2 ((nI (w_wet (w_s2 S i j true false) n)) - (w_bur (w_dayN (w_s2 S i j true false) n) i true)), g_2 q) (w_dayN (w_s2 S i j true false) n) j false (ok_dayN (ok_s2 hS i j true false) n).th) ⟨Nat.le_of_ble_eq_true rfl, Nat.le_of_ble_eq_true rfl⟩ ⟨Nat.zero_le _, Nat.zero_le _⟩ [0, 1] rfl ⟨rfl, rfl⟩ rfl rfl 0 0 rfl rfl rfl rfl (Nat.le_of_ble_eq_true rfl) (ff_cons (al_fst _ _ _ _ _) (ff_cons (wl_fst _ _ _ _) (ff_nil))) (ws' := [al o b cI (upd (g_1 q) 2 ((nI (w_wet (w_s2 S i j true false) n)) - (w_bur (w_dayN (w_s2 S i j true false) n) i true)), g_2 q), wl b cI (w_dayN (w_s2 S i j true false) n), wl a cI S]) rfl ?_
  refine G.isub X dX0_findGains_109 ?_
  refine G.nst X (i := 2) dX0_findGains_110 0 2 rfl rfl (by omega) (by decide) (blk' := al o b cI (upd (g_1 q) 2 ((nI (w_wet (w_s2 S i j true false) n)) - (w_bur (w_dayN (w_s2 S i j true false) n) i true)), upd (g_2 q) 2 ((nI (w_wet (w_s2 S i j true false) n)) - (w_bur (w_dayN (w_s2 S i j true false) n) j false)))) rfl (ws' := [al o b cI (upd (g_1 q) 2 ((nI (w_wet (w_s2 S i j true false) n)) - (w_bur (w_dayN (w_s2 S i j true false) n) i true)), upd (g_2 q) 2 ((nI (w_wet (w_s2 S i j true false) n)) - (w_bur (w_dayN (w_s2 S i j true false) n) j false))), wl b cI (w_dayN (w_s2 S i j true false) n), wl a cI S]) rfl ?_
  exact G.vret X Rr dX0_findGains_111 (pv_mk (by rfl))

set_option maxRecDepth 20000 in
theorem tX0_findGains_3 (l : Launch) (D : va_G) (cI cW : ClassId) (o : Nat → Nat) (b : Nat → Nat) (q : FN × FN) (T : WS) (a : Nat → Nat) (S : WS) (i : Nat) (j : Nat) (n : Nat) (hS : Ok S) (hi : i < s_pe S) (hj : j < s_pe S) (hn : n < 2 ^ 31) : CT l D cI cW yX0_findGains cX0_findGains 9 none ⟨4, 0, 0, 90⟩ [.ref (o 0), .ref (a 0), .int (nI i), .int (nI j), .int (nI n), .int 3] ([al o b cI q, wl b cI T, wl a cI S]) (PV ([al o b cI (upd (g_1 q) 3 (w_gn S i j n true true i true), upd (g_2 q) 3 (w_gn S i j n true true j true)), wl b cI (w_dayN (w_s2 S i j true true) n), wl a cI S])) := by
  refine CT.of RX0 rfl (by decide +kernel) (Nat.le_of_ble_eq_true rfl) [(0, .ref (o 0)), (1, .ref (a 0)), (2, .int (nI i)), (3, .int (nI j)), (4, .int (nI n)), (5, .int 3)] rfl (fun x X Rr hnm => ?_)
  have hth := hS.th
  have hpe := hS.pe
  refine G.il X dX0_findGains_0 5 rfl ?_
  refine G.pu X dX0_findGains_2 ?_
  refine G.iand X dX0_findGains_3 ?_
  refine G.top (b := 2) (by decide) ?_
  refine G.z_eq X (a := 2) dX0_findGains_4 (fun h4 => absurd h4 (by decide)) (fun h4 => ?_)
  refine G.pu X dX0_findGains_7 ?_
  refine G.go X dX0_findGains_8 ?_
  refine G.is X dX0_findGains_12 (by decide) (lv' := [(6, .int 1), (0, .ref (o 0)), (1, .ref (a 0)), (2, .int (nI i)), (3, .int (nI j)), (4, .int (nI n)), (5, .int 3)]) rfl ?_
  refine G.il X dX0_findGains_14 6 rfl ?_
  refine G.pu X dX0_findGains_16 ?_
  refine G.iand X dX0_findGains_17 ?_
  refine G.top (b := 1) (by decide) ?_
  refine G.z_eq X (a := 1) dX0_findGains_18 (fun h18 => absurd h18 (by decide)) (fun h18 => ?_)
  refine G.pu X dX0_findGains_21 ?_
  refine G.go X dX0_findGains_22 ?_
  refine G.is X dX0_findGains_26 (by decide) (lv' := [(7, .int 1), (6, .int 1), (0, .ref (o 0)), (1, .ref (a 0)), (2, .int (nI i)), (3, .int (nI j)), (4, .int (nI n)), (5, .int 3)]) rfl ?_
  refine G.al X dX0_findGains_28 2 rfl ?_
  refine G.get X fX0_12 dX0_findGains_29 0 0 rfl rfl rfl ?_
  refine G.al X dX0_findGains_32 3 rfl ?_
  refine G.cvv X kX5_becomes lX0_25 dX0_findGains_33 (tX5_becomes l D cI cW b T a S) ⟨Nat.le_of_ble_eq_true rfl, Nat.le_of_ble_eq_true rfl⟩ ⟨Nat.zero_le _, Nat.zero_le _⟩ [1, 2] rfl ⟨rfl, rfl⟩ rfl rfl 1 0 rfl rfl rfl rfl (Nat.le_of_ble_eq_true rfl) (ff_cons (wl_fst _ _ _ _) (ff_cons (wl_fst _ _ _ _) (ff_nil))) (ws' := [al o b cI q, wl b cI S, wl a cI S]) rfl ?_
  refine G.il X dX0_findGains_36 1 rfl ?_
  refine G.z_eq X (a := 1) dX0_findGains_38 (fun h38 => absurd h38 (by decide)) (fun h38 => ?_)
  refine G.al X dX0_findGains_41 2 rfl ?_
  refine G.get X fX0_12 dX0_findGains_42 0 0 rfl rfl rfl ?_
  refine G.get X fX0_48 dX0_findGains_45 1 0 rfl rfl rfl ?_
  refine G.il X dX0_findGains_48 4 rfl ?_
  refine G.pu X dX0_findGains_49 ?_
  refine G.nst X (i := i) dX0_findGains_50 1 1 rfl rfl (by omega) (by decide) (blk' := wl b cI (s_pe S, s_th S, s_da S, s_dr S, upd (s_kn S) i 0, s_sh S, s_an S, s_ki S, s_we S, s_dp S, s_wa S, s_le S)) rfl (ws' := [al o b cI q, wl b cI (s_pe S, s_th S, s_da S, s_dr S, upd (s_kn S) i 0, s_sh S, s_an S, s_ki S, s_we S, s_dp S, s_wa S, s_le S), wl a cI S]) rfl ?_
  refine G.il X dX0_findGains_51 0 rfl ?_
  refine G.z_eq X (a := 1) dX0_findGains_53 (fun h53 => absurd h53 (by decide)) (fun h53 => ?_)
  refine G.al X dX0_findGains_56 2 rfl ?_
  refine G.get X fX0_12 dX0_findGains_57 0 0 rfl rfl rfl ?_
  refine G.get X fX0_48 dX0_findGains_60 1 0 rfl rfl rfl ?_
  refine G.il X dX0_findGains_63 5 rfl ?_
  refine G.pu X dX0_findGains_64 ?_
  refine G.nst X (i := j) dX0_findGains_65 1 1 rfl rfl (by omega) (by decide) (blk' := wl b cI (s_pe S, s_th S, s_da S, s_dr S, upd (upd (s_kn S) i 0) j 0, s_sh S, s_an S, s_ki S, s_we S, s_dp S, s_wa S, s_le S)) rfl (ws' := [al o b cI q, wl b cI (s_pe S, s_th S, s_da S, s_dr S, upd (upd (s_kn S) i 0) j 0, s_sh S, s_an S, s_ki S, s_we S, s_dp S, s_wa S, s_le S), wl a cI S]) rfl ?_
  refine G.cg (ws' := [al o b cI q, wl b cI (w_s2 S i j true true), wl a cI S]) rfl rfl rfl ?_
  refine G.al X dX0_findGains_66 2 rfl ?_
  refine G.get X fX0_12 dX0_findGains_67 0 0 rfl rfl rfl ?_
  refine G.il X dX0_findGains_70 6 rfl ?_
  refine G.cvi X kX5_waterInPassing lX0_29 dX0_findGains_72 (tX5_waterInPassing l D cI cW b (w_s2 S i j true true) n (ok_s2 hS i j true true) (by omega)) ⟨Nat.le_of_ble_eq_true rfl, Nat.le_of_ble_eq_true rfl⟩ ⟨Nat.zero_le _, Nat.zero_le _⟩ [1] rfl ⟨rfl, rfl⟩ rfl rfl 1 0 rfl rfl rfl rfl (Nat.le_of_ble_eq_true rfl) (ff_cons (wl_fst _ _ _ _) (ff_nil)) (ws' := [al o b cI q, wl b cI (w_dayN (w_s2 S i j true true) n), wl a cI S]) rfl ?_
  refine G.is X dX0_findGains_75 (by decide) (lv' := [(8, .int (nI (w_wet (w_s2 S i j true true) n))), (7, .int 1), (6, .int 1), (0, .ref (o 0)), (1, .ref (a 0)), (2, .int (nI i)), (3, .int (nI j)), (4, .int (nI n)), (5, .int 3)]) rfl ?_
  refine G.al X dX0_findGains_77 3 rfl ?_
  refine G.get X fX0_18 dX0_findGains_78 0 0 rfl rfl rfl ?_
  refine G.il X dX0_findGains_81 8 rfl ?_
  refine G.il X dX0_findGains_83 0 rfl ?_
  refine G.al X dX0_findGains_85 3 rfl ?_
  refine G.il X dX0_findGains_86 5 rfl ?_
  refine G.il X dX0_findGains_87 2 rfl ?_
  refine G.cvi X kX0_burdenOf lX0_76 dX0_findGains_89 (tX0_burdenOf l D cI cW o b q (w_dayN (w_s2 S i j true true) n) i true (ok_dayN (ok_s2 hS i j true true) n).th) ⟨Nat.le_of_ble_eq_true rfl, Nat.le_of_ble_eq_true rfl⟩ ⟨Nat.zero_le _, Nat.zero_le _⟩ [0, 1] rfl ⟨rfl, rfl⟩ rfl rfl 0 0 rfl rfl rfl rfl (Nat.le_of_ble_eq_true rfl) (ff_cons (al_fst _ _ _ _ _) (ff_cons (wl_fst _ _ _ _) (ff_nil))) (ws' := [al o b cI q, wl b cI (w_dayN (w_s2 S i j true true) n), wl a cI S]) rfl ?_
  refine G.isub X dX0_findGains_92 ?_
  refine G.nst X (i := 3) dX0_findGains_93 0 1 rfl rfl (by omega) (by decide) (blk' := al o b cI (upd (g_1 q) 3 ((nI (w_wet (w_s2 S i j true true) n)) - (w_bur (w_dayN (w_s2 S i j true true) n) i true)), g_2 q)) rfl (ws' := [al o b cI (upd (g_1 q) 3 ((nI (w_wet (w_s2 S i j true true) n)) - (w_bur (w_dayN (w_s2 S i j true true) n) i true)), g_2 q), wl b cI (w_dayN (w_s2 S i j true true) n), wl a cI S]) rfl ?_
  refine G.al X dX0_findGains_94 3 rfl ?_
  refine G.get X fX0_22 dX0_findGains_95 0 0 rfl rfl rfl ?_
  refine G.il X dX0_findGains_98 8 rfl ?_
  refine G.il X dX0_findGains_100 0 rfl ?_
  refine G.al X dX0_findGains_102 3 rfl ?_
  refine G.il X dX0_findGains_103 6 rfl ?_
  refine G.il X dX0_findGains_104 1 rfl ?_
  refine G.cvi X kX0_burdenOf lX0_76 dX0_findGains_106 (tX0_burdenOf l D cI cW o b (upd (g_1 q) 3 ((nI (w_wet (w_s2 S i j true true) n)) - (w_bur (w_dayN (w_s2 S i j true true) n) i true)), g_2 q) (w_dayN (w_s2 S i j true true) n) j true (ok_dayN (ok_s2 hS i j true true) n).th) ⟨Nat.le_of_ble_eq_true rfl, Nat.le_of_ble_eq_true rfl⟩ ⟨Nat.zero_le _, Nat.zero_le _⟩ [0, 1] rfl ⟨rfl, rfl⟩ rfl rfl 0 0 rfl rfl rfl rfl (Nat.le_of_ble_eq_true rfl) (ff_cons (al_fst _ _ _ _ _) (ff_cons (wl_fst _ _ _ _) (ff_nil))) (ws' := [al o b cI (upd (g_1 q) 3 ((nI (w_wet (w_s2 S i j true true) n)) - (w_bur (w_dayN (w_s2 S i j true true) n) i true)), g_2 q), wl b cI (w_dayN (w_s2 S i j true true) n), wl a cI S]) rfl ?_
  refine G.isub X dX0_findGains_109 ?_
  refine G.nst X (i := 3) dX0_findGains_110 0 2 rfl rfl (by omega) (by decide) (blk' := al o b cI (upd (g_1 q) 3 ((nI (w_wet (w_s2 S i j true true) n)) - (w_bur (w_dayN (w_s2 S i j true true) n) i true)), upd (g_2 q) 3 ((nI (w_wet (w_s2 S i j true true) n)) - (w_bur (w_dayN (w_s2 S i j true true) n) j true)))) rfl (ws' := [al o b cI (upd (g_1 q) 3 ((nI (w_wet (w_s2 S i j true true) n)) - (w_bur (w_dayN (w_s2 S i j true true) n) i true)), upd (g_2 q) 3 ((nI (w_wet (w_s2 S i j true true) n)) - (w_bur (w_dayN (w_s2 S i j true true) n) j true))), wl b cI (w_dayN (w_s2 S i j true true) n), wl a cI S]) rfl ?_
  exact G.vret X Rr dX0_findGains_111 (pv_mk (by rfl))

set_option maxRecDepth 20000 in
theorem tX0_steadyPair (l : Launch) (D : va_G) (cI cW : ClassId) (o : Nat → Nat) (b : Nat → Nat) (q : FN × FN) (T : WS) (a : Nat → Nat) (S : WS) (i : Nat) (j : Nat) (n : Nat) (hS : Ok S) (hi : i < s_pe S) (hj : j < s_pe S) (hn : n < 2 ^ 31) : CT l D cI cW yX0_steadyPair cX0_steadyPair 6 (some .int) ⟨5, 0, 0, 118⟩ [.ref (o 0), .ref (a 0), .int (nI i), .int (nI j), .int (nI n)] ([al o b cI q, wl b cI T, wl a cI S]) (PIE (w_two S i j n) (fun T9 : WS => [al o b cI (w_ga S i j n, w_gb S i j n), wl b cI T9, wl a cI S])) := by
  refine CT.of RX0 rfl (by decide +kernel) (Nat.le_of_ble_eq_true rfl) [(0, .ref (o 0)), (1, .ref (a 0)), (2, .int (nI i)), (3, .int (nI j)), (4, .int (nI n))] rfl (fun x X Rr hnm => ?_)
  have hth := hS.th
  have hpe := hS.pe
  refine G.pu X dX0_steadyPair_0 ?_
  refine G.is X dX0_steadyPair_1 (by decide) (lv' := [(5, .int 0), (0, .ref (o 0)), (1, .ref (a 0)), (2, .int (nI i)), (3, .int (nI j)), (4, .int (nI n))]) rfl ?_
  refine G.il X dX0_steadyPair_3 0 rfl ?_
  refine G.pu X dX0_steadyPair_5 ?_
  refine G.c_ge X (a := 0) (b := 4) dX0_steadyPair_6 (fun h6 => absurd h6 (by decide)) (fun h6 => ?_)
  refine G.al X dX0_steadyPair_9 1 rfl ?_
  refine G.al X dX0_steadyPair_10 2 rfl ?_
  refine G.il X dX0_steadyPair_11 3 rfl ?_
  refine G.il X dX0_steadyPair_12 4 rfl ?_
  refine G.il X dX0_steadyPair_13 5 rfl ?_
  refine G.il X dX0_steadyPair_15 0 rfl ?_
  refine G.cvv X kX0_findGains lX0_72 dX0_steadyPair_17 (tX0_findGains_0 l D cI cW o b q T a S i j n hS (by omega) (by omega) (by omega)) ⟨Nat.le_of_ble_eq_true rfl, Nat.le_of_ble_eq_true rfl⟩ ⟨Nat.zero_le _, Nat.zero_le _⟩ [0, 1, 2] rfl ⟨rfl, rfl⟩ rfl rfl 0 0 rfl rfl rfl rfl (Nat.le_of_ble_eq_true rfl) (ff_cons (al_fst _ _ _ _ _) (ff_cons (wl_fst _ _ _ _) (ff_cons (wl_fst _ _ _ _) (ff_nil)))) (ws' := [al o b cI (upd (g_1 q) 0 (w_gn S i j n false false i false), upd (g_2 q) 0 (w_gn S i j n false false j false)), wl b cI (w_dayN (w_s2 S i j false false) n), wl a cI S]) rfl ?_
  refine G.iinc X dX0_steadyPair_20 0 rfl (v' := 1) (by decide) (by decide) (lv' := [(5, .int 1), (0, .ref (o 0)), (1, .ref (a 0)), (2, .int (nI i)), (3, .int (nI j)), (4, .int (nI n))]) rfl ?_
  refine G.go X dX0_steadyPair_23 ?_
  refine G.il X dX0_steadyPair_3 0 rfl ?_
  refine G.pu X dX0_steadyPair_5 ?_
  refine G.c_ge X (a := 1) (b := 4) dX0_steadyPair_6 (fun h6 => absurd h6 (by decide)) (fun h6 => ?_)
  refine G.al X dX0_steadyPair_9 1 rfl ?_
  refine G.al X dX0_steadyPair_10 2 rfl ?_
  refine G.il X dX0_steadyPair_11 3 rfl ?_
  refine G.il X dX0_steadyPair_12 4 rfl ?_
  refine G.il X dX0_steadyPair_13 5 rfl ?_
  refine G.il X dX0_steadyPair_15 0 rfl ?_
  refine G.cvv X kX0_findGains lX0_72 dX0_steadyPair_17 (tX0_findGains_1 l D cI cW o b (upd (g_1 q) 0 (w_gn S i j n false false i false), upd (g_2 q) 0 (w_gn S i j n false false j false)) (w_dayN (w_s2 S i j false false) n) a S i j n hS (by omega) (by omega) (by omega)) ⟨Nat.le_of_ble_eq_true rfl, Nat.le_of_ble_eq_true rfl⟩ ⟨Nat.zero_le _, Nat.zero_le _⟩ [0, 1, 2] rfl ⟨rfl, rfl⟩ rfl rfl 0 0 rfl rfl rfl rfl (Nat.le_of_ble_eq_true rfl) (ff_cons (al_fst _ _ _ _ _) (ff_cons (wl_fst _ _ _ _) (ff_cons (wl_fst _ _ _ _) (ff_nil)))) (ws' := [al o b cI (upd (g_1 (upd (g_1 q) 0 (w_gn S i j n false false i false), upd (g_2 q) 0 (w_gn S i j n false false j false))) 1 (w_gn S i j n false true i false), upd (g_2 (upd (g_1 q) 0 (w_gn S i j n false false i false), upd (g_2 q) 0 (w_gn S i j n false false j false))) 1 (w_gn S i j n false true j true)), wl b cI (w_dayN (w_s2 S i j false true) n), wl a cI S]) rfl ?_
  refine G.iinc X dX0_steadyPair_20 0 rfl (v' := 2) (by decide) (by decide) (lv' := [(5, .int 2), (0, .ref (o 0)), (1, .ref (a 0)), (2, .int (nI i)), (3, .int (nI j)), (4, .int (nI n))]) rfl ?_
  refine G.go X dX0_steadyPair_23 ?_
  refine G.il X dX0_steadyPair_3 0 rfl ?_
  refine G.pu X dX0_steadyPair_5 ?_
  refine G.c_ge X (a := 2) (b := 4) dX0_steadyPair_6 (fun h6 => absurd h6 (by decide)) (fun h6 => ?_)
  refine G.al X dX0_steadyPair_9 1 rfl ?_
  refine G.al X dX0_steadyPair_10 2 rfl ?_
  refine G.il X dX0_steadyPair_11 3 rfl ?_
  refine G.il X dX0_steadyPair_12 4 rfl ?_
  refine G.il X dX0_steadyPair_13 5 rfl ?_
  refine G.il X dX0_steadyPair_15 0 rfl ?_
  refine G.cvv X kX0_findGains lX0_72 dX0_steadyPair_17 (tX0_findGains_2 l D cI cW o b (upd (g_1 (upd (g_1 q) 0 (w_gn S i j n false false i false), upd (g_2 q) 0 (w_gn S i j n false false j false))) 1 (w_gn S i j n false true i false), upd (g_2 (upd (g_1 q) 0 (w_gn S i j n false false i false), upd (g_2 q) 0 (w_gn S i j n false false j false))) 1 (w_gn S i j n false true j true)) (w_dayN (w_s2 S i j false true) n) a S i j n hS (by omega) (by omega) (by omega)) ⟨Nat.le_of_ble_eq_true rfl, Nat.le_of_ble_eq_true rfl⟩ ⟨Nat.zero_le _, Nat.zero_le _⟩ [0, 1, 2] rfl ⟨rfl, rfl⟩ rfl rfl 0 0 rfl rfl rfl rfl (Nat.le_of_ble_eq_true rfl) (ff_cons (al_fst _ _ _ _ _) (ff_cons (wl_fst _ _ _ _) (ff_cons (wl_fst _ _ _ _) (ff_nil)))) (ws' := [al o b cI (upd (g_1 (upd (g_1 (upd (g_1 q) 0 (w_gn S i j n false false i false), upd (g_2 q) 0 (w_gn S i j n false false j false))) 1 (w_gn S i j n false true i false), upd (g_2 (upd (g_1 q) 0 (w_gn S i j n false false i false), upd (g_2 q) 0 (w_gn S i j n false false j false))) 1 (w_gn S i j n false true j true))) 2 (w_gn S i j n true false i true), upd (g_2 (upd (g_1 (upd (g_1 q) 0 (w_gn S i j n false false i false), upd (g_2 q) 0 (w_gn S i j n false false j false))) 1 (w_gn S i j n false true i false), upd (g_2 (upd (g_1 q) 0 (w_gn S i j n false false i false), upd (g_2 q) 0 (w_gn S i j n false false j false))) 1 (w_gn S i j n false true j true))) 2 (w_gn S i j n true false j false)), wl b cI (w_dayN (w_s2 S i j true false) n), wl a cI S]) rfl ?_
  refine G.iinc X dX0_steadyPair_20 0 rfl (v' := 3) (by decide) (by decide) (lv' := [(5, .int 3), (0, .ref (o 0)), (1, .ref (a 0)), (2, .int (nI i)), (3, .int (nI j)), (4, .int (nI n))]) rfl ?_
  refine G.go X dX0_steadyPair_23 ?_
  refine G.il X dX0_steadyPair_3 0 rfl ?_
  refine G.pu X dX0_steadyPair_5 ?_
  refine G.c_ge X (a := 3) (b := 4) dX0_steadyPair_6 (fun h6 => absurd h6 (by decide)) (fun h6 => ?_)
  refine G.al X dX0_steadyPair_9 1 rfl ?_
  refine G.al X dX0_steadyPair_10 2 rfl ?_
  refine G.il X dX0_steadyPair_11 3 rfl ?_
  refine G.il X dX0_steadyPair_12 4 rfl ?_
  refine G.il X dX0_steadyPair_13 5 rfl ?_
  refine G.il X dX0_steadyPair_15 0 rfl ?_
  refine G.cvv X kX0_findGains lX0_72 dX0_steadyPair_17 (tX0_findGains_3 l D cI cW o b (upd (g_1 (upd (g_1 (upd (g_1 q) 0 (w_gn S i j n false false i false), upd (g_2 q) 0 (w_gn S i j n false false j false))) 1 (w_gn S i j n false true i false), upd (g_2 (upd (g_1 q) 0 (w_gn S i j n false false i false), upd (g_2 q) 0 (w_gn S i j n false false j false))) 1 (w_gn S i j n false true j true))) 2 (w_gn S i j n true false i true), upd (g_2 (upd (g_1 (upd (g_1 q) 0 (w_gn S i j n false false i false), upd (g_2 q) 0 (w_gn S i j n false false j false))) 1 (w_gn S i j n false true i false), upd (g_2 (upd (g_1 q) 0 (w_gn S i j n false false i false), upd (g_2 q) 0 (w_gn S i j n false false j false))) 1 (w_gn S i j n false true j true))) 2 (w_gn S i j n true false j false)) (w_dayN (w_s2 S i j true false) n) a S i j n hS (by omega) (by omega) (by omega)) ⟨Nat.le_of_ble_eq_true rfl, Nat.le_of_ble_eq_true rfl⟩ ⟨Nat.zero_le _, Nat.zero_le _⟩ [0, 1, 2] rfl ⟨rfl, rfl⟩ rfl rfl 0 0 rfl rfl rfl rfl (Nat.le_of_ble_eq_true rfl) (ff_cons (al_fst _ _ _ _ _) (ff_cons (wl_fst _ _ _ _) (ff_cons (wl_fst _ _ _ _) (ff_nil)))) (ws' := [al o b cI (upd (g_1 (upd (g_1 (upd (g_1 (upd (g_1 q) 0 (w_gn S i j n false false i false), upd (g_2 q) 0 (w_gn S i j n false false j false))) 1 (w_gn S i j n false true i false), upd (g_2 (upd (g_1 q) 0 (w_gn S i j n false false i false), upd (g_2 q) 0 (w_gn S i j n false false j false))) 1 (w_gn S i j n false true j true))) 2 (w_gn S i j n true false i true), upd (g_2 (upd (g_1 (upd (g_1 q) 0 (w_gn S i j n false false i false), upd (g_2 q) 0 (w_gn S i j n false false j false))) 1 (w_gn S i j n false true i false), upd (g_2 (upd (g_1 q) 0 (w_gn S i j n false false i false), upd (g_2 q) 0 (w_gn S i j n false false j false))) 1 (w_gn S i j n false true j true))) 2 (w_gn S i j n true false j false))) 3 (w_gn S i j n true true i true), upd (g_2 (upd (g_1 (upd (g_1 (upd (g_1 q) 0 (w_gn S i j n false false i false), upd (g_2 q) 0 (w_gn S i j n false false j false))) 1 (w_gn S i j n false true i false), upd (g_2 (upd (g_1 q) 0 (w_gn S i j n false false i false), upd (g_2 q) 0 (w_gn S i j n false false j false))) 1 (w_gn S i j n false true j true))) 2 (w_gn S i j n true false i true), upd (g_2 (upd (g_1 (upd (g_1 q) 0 (w_gn S i j n false false i false), upd (g_2 q) 0 (w_gn S i j n false false j false))) 1 (w_gn S i j n false true i false), upd (g_2 (upd (g_1 q) 0 (w_gn S i j n false false i false), upd (g_2 q) 0 (w_gn S i j n false false j false))) 1 (w_gn S i j n false true j true))) 2 (w_gn S i j n true false j false))) 3 (w_gn S i j n true true j true)), wl b cI (w_dayN (w_s2 S i j true true) n), wl a cI S]) rfl ?_
  refine G.iinc X dX0_steadyPair_20 0 rfl (v' := 4) (by decide) (by decide) (lv' := [(5, .int 4), (0, .ref (o 0)), (1, .ref (a 0)), (2, .int (nI i)), (3, .int (nI j)), (4, .int (nI n))]) rfl ?_
  refine G.go X dX0_steadyPair_23 ?_
  refine G.il X dX0_steadyPair_3 0 rfl ?_
  refine G.pu X dX0_steadyPair_5 ?_
  refine G.c_ge X (a := 4) (b := 4) dX0_steadyPair_6 (fun h6 => ?_) (fun h6 => absurd h6 (by decide))
  refine G.canon 0 1 rfl rfl (g := w_ga S i j n) (fun k hk => by rcases (show k = 0 ∨ k = 1 ∨ k = 2 ∨ k = 3 by omega) with rfl | rfl | rfl | rfl <;> rfl) (blk' := al o b cI (w_ga S i j n, g_2 (upd (g_1 (upd (g_1 (upd (g_1 (upd (g_1 q) 0 (w_gn S i j n false false i false), upd (g_2 q) 0 (w_gn S i j n false false j false))) 1 (w_gn S i j n false true i false), upd (g_2 (upd (g_1 q) 0 (w_gn S i j n false false i false), upd (g_2 q) 0 (w_gn S i j n false false j false))) 1 (w_gn S i j n false true j true))) 2 (w_gn S i j n true false i true), upd (g_2 (upd (g_1 (upd (g_1 q) 0 (w_gn S i j n false false i false), upd (g_2 q) 0 (w_gn S i j n false false j false))) 1 (w_gn S i j n false true i false), upd (g_2 (upd (g_1 q) 0 (w_gn S i j n false false i false), upd (g_2 q) 0 (w_gn S i j n false false j false))) 1 (w_gn S i j n false true j true))) 2 (w_gn S i j n true false j false))) 3 (w_gn S i j n true true i true), upd (g_2 (upd (g_1 (upd (g_1 (upd (g_1 q) 0 (w_gn S i j n false false i false), upd (g_2 q) 0 (w_gn S i j n false false j false))) 1 (w_gn S i j n false true i false), upd (g_2 (upd (g_1 q) 0 (w_gn S i j n false false i false), upd (g_2 q) 0 (w_gn S i j n false false j false))) 1 (w_gn S i j n false true j true))) 2 (w_gn S i j n true false i true), upd (g_2 (upd (g_1 (upd (g_1 q) 0 (w_gn S i j n false false i false), upd (g_2 q) 0 (w_gn S i j n false false j false))) 1 (w_gn S i j n false true i false), upd (g_2 (upd (g_1 q) 0 (w_gn S i j n false false i false), upd (g_2 q) 0 (w_gn S i j n false false j false))) 1 (w_gn S i j n false true j true))) 2 (w_gn S i j n true false j false))) 3 (w_gn S i j n true true j true)))) rfl (ws' := [al o b cI (w_ga S i j n, g_2 (upd (g_1 (upd (g_1 (upd (g_1 (upd (g_1 q) 0 (w_gn S i j n false false i false), upd (g_2 q) 0 (w_gn S i j n false false j false))) 1 (w_gn S i j n false true i false), upd (g_2 (upd (g_1 q) 0 (w_gn S i j n false false i false), upd (g_2 q) 0 (w_gn S i j n false false j false))) 1 (w_gn S i j n false true j true))) 2 (w_gn S i j n true false i true), upd (g_2 (upd (g_1 (upd (g_1 q) 0 (w_gn S i j n false false i false), upd (g_2 q) 0 (w_gn S i j n false false j false))) 1 (w_gn S i j n false true i false), upd (g_2 (upd (g_1 q) 0 (w_gn S i j n false false i false), upd (g_2 q) 0 (w_gn S i j n false false j false))) 1 (w_gn S i j n false true j true))) 2 (w_gn S i j n true false j false))) 3 (w_gn S i j n true true i true), upd (g_2 (upd (g_1 (upd (g_1 (upd (g_1 q) 0 (w_gn S i j n false false i false), upd (g_2 q) 0 (w_gn S i j n false false j false))) 1 (w_gn S i j n false true i false), upd (g_2 (upd (g_1 q) 0 (w_gn S i j n false false i false), upd (g_2 q) 0 (w_gn S i j n false false j false))) 1 (w_gn S i j n false true j true))) 2 (w_gn S i j n true false i true), upd (g_2 (upd (g_1 (upd (g_1 q) 0 (w_gn S i j n false false i false), upd (g_2 q) 0 (w_gn S i j n false false j false))) 1 (w_gn S i j n false true i false), upd (g_2 (upd (g_1 q) 0 (w_gn S i j n false false i false), upd (g_2 q) 0 (w_gn S i j n false false j false))) 1 (w_gn S i j n false true j true))) 2 (w_gn S i j n true false j false))) 3 (w_gn S i j n true true j true))), wl b cI (w_dayN (w_s2 S i j true true) n), wl a cI S]) rfl ?_
  refine G.canon 0 2 rfl rfl (g := w_gb S i j n) (fun k hk => by rcases (show k = 0 ∨ k = 1 ∨ k = 2 ∨ k = 3 by omega) with rfl | rfl | rfl | rfl <;> rfl) (blk' := al o b cI (w_ga S i j n, w_gb S i j n)) rfl (ws' := [al o b cI (w_ga S i j n, w_gb S i j n), wl b cI (w_dayN (w_s2 S i j true true) n), wl a cI S]) rfl ?_
  refine G.pu X dX0_steadyPair_26 ?_
  refine G.is X dX0_steadyPair_27 (by decide) (lv' := [(5, .int 0), (0, .ref (o 0)), (1, .ref (a 0)), (2, .int (nI i)), (3, .int (nI j)), (4, .int (nI n))]) rfl ?_
  have L29 : ∀ k, k ≤ 4 → (∀ u, u < k → w_st (w_ga S i j n) (w_gb S i j n) u = false) → G x 0 0 ([al o b cI (w_ga S i j n, w_gb S i j n), wl b cI (w_dayN (w_s2 S i j true true) n), wl a cI S]) 29 [(5, .int (nI k)), (0, .ref (o 0)), (1, .ref (a 0)), (2, .int (nI i)), (3, .int (nI j)), (4, .int (nI n))] [] := by
    refine loop_dn 4 _ ?_ ?_
    · intro hinv29
      refine G.il X dX0_steadyPair_29 0 rfl ?_
      refine G.pu X dX0_steadyPair_31 ?_
      refine G.n_ge X (a := 4) (b := 4) (by omega) (by omega) dX0_steadyPair_32 (fun h32 => ?_) (fun h32 => absurd h32 (by omega))
      refine G.pu X dX0_steadyPair_92 ?_
      exact G.iret X Rr (v := (-9)) dX0_steadyPair_94 (pie_mk (w_dayN (w_s2 S i j true true) n) (by rw [w_two, fi_none (P := w_st (w_ga S i j n) (w_gb S i j n)) hinv29]) (by rfl))
    · intro k hk ih29 hinv29
      rcases (show k = 0 ∨ k = 1 ∨ k = 2 ∨ k = 3 by omega) with rfl | rfl | rfl | rfl
      · refine G.il X dX0_steadyPair_29 0 rfl ?_
        refine G.pu X dX0_steadyPair_31 ?_
        refine G.c_ge X (a := 0) (b := 4) dX0_steadyPair_32 (fun h32 => absurd h32 (by decide)) (fun h32 => ?_)
        refine G.al X dX0_steadyPair_35 1 rfl ?_
        refine G.get X fX0_18 dX0_steadyPair_36 0 0 rfl rfl rfl ?_
        refine G.il X dX0_steadyPair_39 0 rfl ?_
        refine G.pu X dX0_steadyPair_41 ?_
        refine G.ixor X dX0_steadyPair_42 ?_
        refine G.top (b := 2) (by decide) ?_
        refine G.nld X (i := 2) dX0_steadyPair_43 0 1 rfl rfl (by omega) (by decide) ?_
        refine G.al X dX0_steadyPair_44 1 rfl ?_
        refine G.get X fX0_18 dX0_steadyPair_45 0 0 rfl rfl rfl ?_
        refine G.il X dX0_steadyPair_48 0 rfl ?_
        refine G.nld X (i := 0) dX0_steadyPair_50 0 1 rfl rfl (by omega) (by decide) ?_
        refine G.c_gt X (a := ((w_ga S i j n) 2)) (b := ((w_ga S i j n) 0)) dX0_steadyPair_51 (fun h51 => ?_) (fun h51 => ?_)
        · refine G.iinc X dX0_steadyPair_86 0 rfl (v' := 1) (by decide) (by decide) (lv' := [(5, .int 1), (0, .ref (o 0)), (1, .ref (a 0)), (2, .int (nI i)), (3, .int (nI j)), (4, .int (nI n))]) rfl ?_
          refine G.go X dX0_steadyPair_89 ?_
          rw [show (nI (0 + 1)) = 1 from (by rfl)] at ih29
          exact ih29 (lt_snoc hinv29 (by simp [-Int32.not_lt, w_st, h51]))
        · refine G.al X dX0_steadyPair_54 1 rfl ?_
          refine G.get X fX0_22 dX0_steadyPair_55 0 0 rfl rfl rfl ?_
          refine G.il X dX0_steadyPair_58 0 rfl ?_
          refine G.pu X dX0_steadyPair_60 ?_
          refine G.ixor X dX0_steadyPair_61 ?_
          refine G.top (b := 1) (by decide) ?_
          refine G.nld X (i := 1) dX0_steadyPair_62 0 2 rfl rfl (by omega) (by decide) ?_
          refine G.al X dX0_steadyPair_63 1 rfl ?_
          refine G.get X fX0_22 dX0_steadyPair_64 0 0 rfl rfl rfl ?_
          refine G.il X dX0_steadyPair_67 0 rfl ?_
          refine G.nld X (i := 0) dX0_steadyPair_69 0 2 rfl rfl (by omega) (by decide) ?_
          refine G.c_gt X (a := ((w_gb S i j n) 1)) (b := ((w_gb S i j n) 0)) dX0_steadyPair_70 (fun h70 => ?_) (fun h70 => ?_)
          · refine G.iinc X dX0_steadyPair_86 0 rfl (v' := 1) (by decide) (by decide) (lv' := [(5, .int 1), (0, .ref (o 0)), (1, .ref (a 0)), (2, .int (nI i)), (3, .int (nI j)), (4, .int (nI n))]) rfl ?_
            refine G.go X dX0_steadyPair_89 ?_
            rw [show (nI (0 + 1)) = 1 from (by rfl)] at ih29
            exact ih29 (lt_snoc hinv29 (by simp [-Int32.not_lt, w_st, h51, h70]))
          · refine G.pu X dX0_steadyPair_73 ?_
            refine G.il X dX0_steadyPair_75 0 rfl ?_
            refine G.pu X dX0_steadyPair_77 ?_
            refine G.ishr X dX0_steadyPair_78 ?_
            refine G.top (b := 0) (by decide) ?_
            refine G.imul X dX0_steadyPair_79 ?_
            refine G.top (b := 0) (by decide) ?_
            refine G.il X dX0_steadyPair_80 0 rfl ?_
            refine G.pu X dX0_steadyPair_82 ?_
            refine G.iand X dX0_steadyPair_83 ?_
            refine G.top (b := 0) (by decide) ?_
            refine G.iadd X dX0_steadyPair_84 ?_
            refine G.top (b := 0) (by decide) ?_
            exact G.iret X Rr (v := 0) dX0_steadyPair_85 (pie_mk (w_dayN (w_s2 S i j true true) n) (by rw [w_two, fi_hit (P := w_st (w_ga S i j n) (w_gb S i j n)) (k := 0) hinv29 (by simp [-Int32.not_lt, w_st, h51, h70]) (by omega)]; decide) (by rfl))
      · refine G.il X dX0_steadyPair_29 0 rfl ?_
        refine G.pu X dX0_steadyPair_31 ?_
        refine G.c_ge X (a := 1) (b := 4) dX0_steadyPair_32 (fun h32 => absurd h32 (by decide)) (fun h32 => ?_)
        refine G.al X dX0_steadyPair_35 1 rfl ?_
        refine G.get X fX0_18 dX0_steadyPair_36 0 0 rfl rfl rfl ?_
        refine G.il X dX0_steadyPair_39 0 rfl ?_
        refine G.pu X dX0_steadyPair_41 ?_
        refine G.ixor X dX0_steadyPair_42 ?_
        refine G.top (b := 3) (by decide) ?_
        refine G.nld X (i := 3) dX0_steadyPair_43 0 1 rfl rfl (by omega) (by decide) ?_
        refine G.al X dX0_steadyPair_44 1 rfl ?_
        refine G.get X fX0_18 dX0_steadyPair_45 0 0 rfl rfl rfl ?_
        refine G.il X dX0_steadyPair_48 0 rfl ?_
        refine G.nld X (i := 1) dX0_steadyPair_50 0 1 rfl rfl (by omega) (by decide) ?_
        refine G.c_gt X (a := ((w_ga S i j n) 3)) (b := ((w_ga S i j n) 1)) dX0_steadyPair_51 (fun h51 => ?_) (fun h51 => ?_)
        · refine G.iinc X dX0_steadyPair_86 0 rfl (v' := 2) (by decide) (by decide) (lv' := [(5, .int 2), (0, .ref (o 0)), (1, .ref (a 0)), (2, .int (nI i)), (3, .int (nI j)), (4, .int (nI n))]) rfl ?_
          refine G.go X dX0_steadyPair_89 ?_
          rw [show (nI (1 + 1)) = 2 from (by rfl)] at ih29
          exact ih29 (lt_snoc hinv29 (by simp [-Int32.not_lt, w_st, h51]))
        · refine G.al X dX0_steadyPair_54 1 rfl ?_
          refine G.get X fX0_22 dX0_steadyPair_55 0 0 rfl rfl rfl ?_
          refine G.il X dX0_steadyPair_58 0 rfl ?_
          refine G.pu X dX0_steadyPair_60 ?_
          refine G.ixor X dX0_steadyPair_61 ?_
          refine G.top (b := 0) (by decide) ?_
          refine G.nld X (i := 0) dX0_steadyPair_62 0 2 rfl rfl (by omega) (by decide) ?_
          refine G.al X dX0_steadyPair_63 1 rfl ?_
          refine G.get X fX0_22 dX0_steadyPair_64 0 0 rfl rfl rfl ?_
          refine G.il X dX0_steadyPair_67 0 rfl ?_
          refine G.nld X (i := 1) dX0_steadyPair_69 0 2 rfl rfl (by omega) (by decide) ?_
          refine G.c_gt X (a := ((w_gb S i j n) 0)) (b := ((w_gb S i j n) 1)) dX0_steadyPair_70 (fun h70 => ?_) (fun h70 => ?_)
          · refine G.iinc X dX0_steadyPair_86 0 rfl (v' := 2) (by decide) (by decide) (lv' := [(5, .int 2), (0, .ref (o 0)), (1, .ref (a 0)), (2, .int (nI i)), (3, .int (nI j)), (4, .int (nI n))]) rfl ?_
            refine G.go X dX0_steadyPair_89 ?_
            rw [show (nI (1 + 1)) = 2 from (by rfl)] at ih29
            exact ih29 (lt_snoc hinv29 (by simp [-Int32.not_lt, w_st, h51, h70]))
          · refine G.pu X dX0_steadyPair_73 ?_
            refine G.il X dX0_steadyPair_75 0 rfl ?_
            refine G.pu X dX0_steadyPair_77 ?_
            refine G.ishr X dX0_steadyPair_78 ?_
            refine G.top (b := 0) (by decide) ?_
            refine G.imul X dX0_steadyPair_79 ?_
            refine G.top (b := 0) (by decide) ?_
            refine G.il X dX0_steadyPair_80 0 rfl ?_
            refine G.pu X dX0_steadyPair_82 ?_
            refine G.iand X dX0_steadyPair_83 ?_
            refine G.top (b := 1) (by decide) ?_
            refine G.iadd X dX0_steadyPair_84 ?_
            refine G.top (b := 1) (by decide) ?_
            exact G.iret X Rr (v := 1) dX0_steadyPair_85 (pie_mk (w_dayN (w_s2 S i j true true) n) (by rw [w_two, fi_hit (P := w_st (w_ga S i j n) (w_gb S i j n)) (k := 1) hinv29 (by simp [-Int32.not_lt, w_st, h51, h70]) (by omega)]; decide) (by rfl))
      · refine G.il X dX0_steadyPair_29 0 rfl ?_
        refine G.pu X dX0_steadyPair_31 ?_
        refine G.c_ge X (a := 2) (b := 4) dX0_steadyPair_32 (fun h32 => absurd h32 (by decide)) (fun h32 => ?_)
        refine G.al X dX0_steadyPair_35 1 rfl ?_
        refine G.get X fX0_18 dX0_steadyPair_36 0 0 rfl rfl rfl ?_
        refine G.il X dX0_steadyPair_39 0 rfl ?_
        refine G.pu X dX0_steadyPair_41 ?_
        refine G.ixor X dX0_steadyPair_42 ?_
        refine G.top (b := 0) (by decide) ?_
        refine G.nld X (i := 0) dX0_steadyPair_43 0 1 rfl rfl (by omega) (by decide) ?_
        refine G.al X dX0_steadyPair_44 1 rfl ?_
        refine G.get X fX0_18 dX0_steadyPair_45 0 0 rfl rfl rfl ?_
        refine G.il X dX0_steadyPair_48 0 rfl ?_
        refine G.nld X (i := 2) dX0_steadyPair_50 0 1 rfl rfl (by omega) (by decide) ?_
        refine G.c_gt X (a := ((w_ga S i j n) 0)) (b := ((w_ga S i j n) 2)) dX0_steadyPair_51 (fun h51 => ?_) (fun h51 => ?_)
        · refine G.iinc X dX0_steadyPair_86 0 rfl (v' := 3) (by decide) (by decide) (lv' := [(5, .int 3), (0, .ref (o 0)), (1, .ref (a 0)), (2, .int (nI i)), (3, .int (nI j)), (4, .int (nI n))]) rfl ?_
          refine G.go X dX0_steadyPair_89 ?_
          rw [show (nI (2 + 1)) = 3 from (by rfl)] at ih29
          exact ih29 (lt_snoc hinv29 (by simp [-Int32.not_lt, w_st, h51]))
        · refine G.al X dX0_steadyPair_54 1 rfl ?_
          refine G.get X fX0_22 dX0_steadyPair_55 0 0 rfl rfl rfl ?_
          refine G.il X dX0_steadyPair_58 0 rfl ?_
          refine G.pu X dX0_steadyPair_60 ?_
          refine G.ixor X dX0_steadyPair_61 ?_
          refine G.top (b := 3) (by decide) ?_
          refine G.nld X (i := 3) dX0_steadyPair_62 0 2 rfl rfl (by omega) (by decide) ?_
          refine G.al X dX0_steadyPair_63 1 rfl ?_
          refine G.get X fX0_22 dX0_steadyPair_64 0 0 rfl rfl rfl ?_
          refine G.il X dX0_steadyPair_67 0 rfl ?_
          refine G.nld X (i := 2) dX0_steadyPair_69 0 2 rfl rfl (by omega) (by decide) ?_
          refine G.c_gt X (a := ((w_gb S i j n) 3)) (b := ((w_gb S i j n) 2)) dX0_steadyPair_70 (fun h70 => ?_) (fun h70 => ?_)
          · refine G.iinc X dX0_steadyPair_86 0 rfl (v' := 3) (by decide) (by decide) (lv' := [(5, .int 3), (0, .ref (o 0)), (1, .ref (a 0)), (2, .int (nI i)), (3, .int (nI j)), (4, .int (nI n))]) rfl ?_
            refine G.go X dX0_steadyPair_89 ?_
            rw [show (nI (2 + 1)) = 3 from (by rfl)] at ih29
            exact ih29 (lt_snoc hinv29 (by simp [-Int32.not_lt, w_st, h51, h70]))
          · refine G.pu X dX0_steadyPair_73 ?_
            refine G.il X dX0_steadyPair_75 0 rfl ?_
            refine G.pu X dX0_steadyPair_77 ?_
            refine G.ishr X dX0_steadyPair_78 ?_
            refine G.top (b := 1) (by decide) ?_
            refine G.imul X dX0_steadyPair_79 ?_
            refine G.top (b := 10) (by decide) ?_
            refine G.il X dX0_steadyPair_80 0 rfl ?_
            refine G.pu X dX0_steadyPair_82 ?_
            refine G.iand X dX0_steadyPair_83 ?_
            refine G.top (b := 0) (by decide) ?_
            refine G.iadd X dX0_steadyPair_84 ?_
            refine G.top (b := 10) (by decide) ?_
            exact G.iret X Rr (v := 10) dX0_steadyPair_85 (pie_mk (w_dayN (w_s2 S i j true true) n) (by rw [w_two, fi_hit (P := w_st (w_ga S i j n) (w_gb S i j n)) (k := 2) hinv29 (by simp [-Int32.not_lt, w_st, h51, h70]) (by omega)]; decide) (by rfl))
      · refine G.il X dX0_steadyPair_29 0 rfl ?_
        refine G.pu X dX0_steadyPair_31 ?_
        refine G.c_ge X (a := 3) (b := 4) dX0_steadyPair_32 (fun h32 => absurd h32 (by decide)) (fun h32 => ?_)
        refine G.al X dX0_steadyPair_35 1 rfl ?_
        refine G.get X fX0_18 dX0_steadyPair_36 0 0 rfl rfl rfl ?_
        refine G.il X dX0_steadyPair_39 0 rfl ?_
        refine G.pu X dX0_steadyPair_41 ?_
        refine G.ixor X dX0_steadyPair_42 ?_
        refine G.top (b := 1) (by decide) ?_
        refine G.nld X (i := 1) dX0_steadyPair_43 0 1 rfl rfl (by omega) (by decide) ?_
        refine G.al X dX0_steadyPair_44 1 rfl ?_
        refine G.get X fX0_18 dX0_steadyPair_45 0 0 rfl rfl rfl ?_
        refine G.il X dX0_steadyPair_48 0 rfl ?_
        refine G.nld X (i := 3) dX0_steadyPair_50 0 1 rfl rfl (by omega) (by decide) ?_
        refine G.c_gt X (a := ((w_ga S i j n) 1)) (b := ((w_ga S i j n) 3)) dX0_steadyPair_51 (fun h51 => ?_) (fun h51 => ?_)
        · refine G.iinc X dX0_steadyPair_86 0 rfl (v' := 4) (by decide) (by decide) (lv' := [(5, .int 4), (0, .ref (o 0)), (1, .ref (a 0)), (2, .int (nI i)), (3, .int (nI j)), (4, .int (nI n))]) rfl ?_
          refine G.go X dX0_steadyPair_89 ?_
          rw [show (nI (3 + 1)) = 4 from (by rfl)] at ih29
          exact ih29 (lt_snoc hinv29 (by simp [-Int32.not_lt, w_st, h51]))
        · refine G.al X dX0_steadyPair_54 1 rfl ?_
          refine G.get X fX0_22 dX0_steadyPair_55 0 0 rfl rfl rfl ?_
          refine G.il X dX0_steadyPair_58 0 rfl ?_
          refine G.pu X dX0_steadyPair_60 ?_
          refine G.ixor X dX0_steadyPair_61 ?_
          refine G.top (b := 2) (by decide) ?_
          refine G.nld X (i := 2) dX0_steadyPair_62 0 2 rfl rfl (by omega) (by decide) ?_
          refine G.al X dX0_steadyPair_63 1 rfl ?_
          refine G.get X fX0_22 dX0_steadyPair_64 0 0 rfl rfl rfl ?_
          refine G.il X dX0_steadyPair_67 0 rfl ?_
          refine G.nld X (i := 3) dX0_steadyPair_69 0 2 rfl rfl (by omega) (by decide) ?_
          refine G.c_gt X (a := ((w_gb S i j n) 2)) (b := ((w_gb S i j n) 3)) dX0_steadyPair_70 (fun h70 => ?_) (fun h70 => ?_)
          · refine G.iinc X dX0_steadyPair_86 0 rfl (v' := 4) (by decide) (by decide) (lv' := [(5, .int 4), (0, .ref (o 0)), (1, .ref (a 0)), (2, .int (nI i)), (3, .int (nI j)), (4, .int (nI n))]) rfl ?_
            refine G.go X dX0_steadyPair_89 ?_
            rw [show (nI (3 + 1)) = 4 from (by rfl)] at ih29
            exact ih29 (lt_snoc hinv29 (by simp [-Int32.not_lt, w_st, h51, h70]))
          · refine G.pu X dX0_steadyPair_73 ?_
            refine G.il X dX0_steadyPair_75 0 rfl ?_
            refine G.pu X dX0_steadyPair_77 ?_
            refine G.ishr X dX0_steadyPair_78 ?_
            refine G.top (b := 1) (by decide) ?_
            refine G.imul X dX0_steadyPair_79 ?_
            refine G.top (b := 10) (by decide) ?_
            refine G.il X dX0_steadyPair_80 0 rfl ?_
            refine G.pu X dX0_steadyPair_82 ?_
            refine G.iand X dX0_steadyPair_83 ?_
            refine G.top (b := 1) (by decide) ?_
            refine G.iadd X dX0_steadyPair_84 ?_
            refine G.top (b := 11) (by decide) ?_
            exact G.iret X Rr (v := 11) dX0_steadyPair_85 (pie_mk (w_dayN (w_s2 S i j true true) n) (by rw [w_two, fi_hit (P := w_st (w_ga S i j n) (w_gb S i j n)) (k := 3) hinv29 (by simp [-Int32.not_lt, w_st, h51, h70]) (by omega)]; decide) (by rfl))
  have L29 := L29 0 (Nat.zero_le _) (fun u hu => absurd hu (by omega))
  exact L29

set_option maxRecDepth 20000 in
theorem tX4_take (l : Launch) (D : va_G) (cI cW : ClassId) (o : Nat → Nat) (b : Nat → Nat) (q : FN × Nat) (v : Int32) (hq : q_n q < 16) : CT l D cI cW yX4_take cX4_take 2 (some .boolean) ⟨0, 0, 0, 0⟩ [.ref (o 0), .int v] ([rl o b cI q]) (PI (b2i (true)) ([rl o b cI (upd (q_f q) (q_n q) v, q_n q + 1)])) := by
  refine CT.of RX4 rfl (by decide +kernel) (Nat.le_of_ble_eq_true rfl) [(0, .ref (o 0)), (1, .int v)] rfl (fun x X Rr hnm => ?_)
  refine G.al X dX4_take_0 0 rfl ?_
  refine G.get X fX4_22 dX4_take_1 0 0 rfl rfl rfl ?_
  refine G.pu X dX4_take_4 ?_
  refine G.n_lt X (a := q_n q) (b := 16) (by omega) (by omega) dX4_take_6 (fun h6 => ?_) (fun h6 => absurd h6 (by omega))
  refine G.al X dX4_take_11 0 rfl ?_
  refine G.get X fX4_18 dX4_take_12 0 0 rfl rfl rfl ?_
  refine G.al X dX4_take_15 0 rfl ?_
  refine G.get X fX4_22 dX4_take_16 0 0 rfl rfl rfl ?_
  refine G.il X dX4_take_19 1 rfl ?_
  refine G.nst X (i := q_n q) dX4_take_20 0 1 rfl rfl (by omega) (by decide) (blk' := rl o b cI (upd (q_f q) (q_n q) v, q_n q)) rfl (ws' := [rl o b cI (upd (q_f q) (q_n q) v, q_n q)]) rfl ?_
  refine G.al X dX4_take_21 0 rfl ?_
  refine G.dupr X dX4_take_22 ?_
  refine G.get X fX4_22 dX4_take_23 0 0 rfl rfl rfl ?_
  refine G.pu X dX4_take_26 ?_
  refine G.nadd X (a := q_n q) (b := 1) dX4_take_27 ?_
  refine G.puti X fX4_22 fe4 dX4_take_28 rfl rfl 0 0 rfl rfl (Nat.le_of_ble_eq_true rfl) (blk' := rl o b cI (upd (q_f q) (q_n q) v, (q_n q) + 1)) rfl (ws' := [rl o b cI (upd (q_f q) (q_n q) v, (q_n q) + 1)]) rfl ?_
  refine G.pu X dX4_take_31 ?_
  exact G.zret X Rr (v := 1) (Or.inr rfl) dX4_take_32 (pi_mk (by rfl) (by rfl))

set_option maxRecDepth 20000 in
theorem tX4_take_bad (l : Launch) (D : va_G) (cI cW : ClassId) (o : Nat → Nat) (b : Nat → Nat) (q : FN × Nat) (v : Int32) (hq : q_n q = 16) : CT l D cI cW yX4_take cX4_take 2 (some .boolean) ⟨0, 0, 0, 0⟩ [.ref (o 0), .int v] ([rl o b cI q]) (PI (b2i (false)) ([rl o b cI q])) := by
  refine CT.of RX4 rfl (by decide +kernel) (Nat.le_of_ble_eq_true rfl) [(0, .ref (o 0)), (1, .int v)] rfl (fun x X Rr hnm => ?_)
  refine G.al X dX4_take_0 0 rfl ?_
  refine G.get X fX4_22 dX4_take_1 0 0 rfl rfl rfl ?_
  refine G.pu X dX4_take_4 ?_
  refine G.n_lt X (a := q_n q) (b := 16) (by omega) (by omega) dX4_take_6 (fun h6 => absurd h6 (by omega)) (fun h6 => ?_)
  refine G.pu X dX4_take_9 ?_
  exact G.zret X Rr (v := 0) (Or.inl rfl) dX4_take_10 (pi_mk (by rfl) (by rfl))

set_option maxRecDepth 20000 in
theorem tX4_fits (l : Launch) (D : va_G) (cI cW : ClassId) (o : Nat → Nat) (b : Nat → Nat) (q : FN × Nat) (T : WS) (a : Nat → Nat) (S : WS) (t : Nat) (kd : Int32) (w : Int32) (hS : Ok S) (hq : q_n q ≤ 16) (ht : t < s_th S) (hkd : ∃ q, q ≤ 5 ∧ kd = nI q) (hw : ∃ q, q ≤ 9 ∧ w = nI q) : CT l D cI cW yX4_fits cX4_fits 6 (some .boolean) ⟨3, 0, 0, 81⟩ [.ref (o 0), .ref (a 0), .int (nI t), .int kd, .int w] ([rl o b cI q, wl b cI T, wl a cI S]) (PIE (b2i (w_fit S t kd w q)) (fun T9 : WS => [rl o b cI q, wl b cI T9, wl a cI S])) := by
  refine CT.of RX4 rfl (by decide +kernel) (Nat.le_of_ble_eq_true rfl) [(0, .ref (o 0)), (1, .ref (a 0)), (2, .int (nI t)), (3, .int kd), (4, .int w)] rfl (fun x X Rr hnm => ?_)
  have hth := hS.th
  have hpe := hS.pe
  have hO : Ok (w_fall (w_kw S t kd w) t) := ok_fall (ok_kw hS t hkd hw) ht
  refine G.al X dX4_fits_0 0 rfl ?_
  refine G.get X fX4_12 dX4_fits_1 0 0 rfl rfl rfl ?_
  refine G.al X dX4_fits_4 1 rfl ?_
  refine G.cvv X kX5_becomes lX4_36 dX4_fits_5 (tX5_becomes l D cI cW b T a S) ⟨Nat.le_of_ble_eq_true rfl, Nat.le_of_ble_eq_true rfl⟩ ⟨Nat.zero_le _, Nat.zero_le _⟩ [1, 2] rfl ⟨rfl, rfl⟩ rfl rfl 1 0 rfl rfl rfl rfl (Nat.le_of_ble_eq_true rfl) (ff_cons (wl_fst _ _ _ _) (ff_cons (wl_fst _ _ _ _) (ff_nil))) (ws' := [rl o b cI q, wl b cI S, wl a cI S]) rfl ?_
  refine G.al X dX4_fits_8 0 rfl ?_
  refine G.get X fX4_12 dX4_fits_9 0 0 rfl rfl rfl ?_
  refine G.get X fX4_33 dX4_fits_12 1 0 rfl rfl rfl ?_
  refine G.il X dX4_fits_15 2 rfl ?_
  refine G.il X dX4_fits_16 3 rfl ?_
  refine G.nst X (i := t) dX4_fits_17 1 4 rfl rfl (by omega) (by decide) (blk' := wl b cI (s_pe S, s_th S, s_da S, s_dr S, s_kn S, s_sh S, s_an S, upd (s_ki S) t kd, s_we S, s_dp S, s_wa S, s_le S)) rfl (ws' := [rl o b cI q, wl b cI (s_pe S, s_th S, s_da S, s_dr S, s_kn S, s_sh S, s_an S, upd (s_ki S) t kd, s_we S, s_dp S, s_wa S, s_le S), wl a cI S]) rfl ?_
  refine G.al X dX4_fits_18 0 rfl ?_
  refine G.get X fX4_12 dX4_fits_19 0 0 rfl rfl rfl ?_
  refine G.get X fX4_26 dX4_fits_22 1 0 rfl rfl rfl ?_
  refine G.il X dX4_fits_25 2 rfl ?_
  refine G.il X dX4_fits_26 4 rfl ?_
  refine G.nst X (i := t) dX4_fits_28 1 5 rfl rfl (by omega) (by decide) (blk' := wl b cI (s_pe S, s_th S, s_da S, s_dr S, s_kn S, s_sh S, s_an S, upd (s_ki S) t kd, upd (s_we S) t w, s_dp S, s_wa S, s_le S)) rfl (ws' := [rl o b cI q, wl b cI (s_pe S, s_th S, s_da S, s_dr S, s_kn S, s_sh S, s_an S, upd (s_ki S) t kd, upd (s_we S) t w, s_dp S, s_wa S, s_le S), wl a cI S]) rfl ?_
  refine G.cg (ws' := [rl o b cI q, wl b cI (w_kw S t kd w), wl a cI S]) rfl rfl rfl ?_
  refine G.al X dX4_fits_29 0 rfl ?_
  refine G.get X fX4_12 dX4_fits_30 0 0 rfl rfl rfl ?_
  refine G.il X dX4_fits_33 2 rfl ?_
  refine G.cvi X kX5_fall lX4_40 dX4_fits_34 (tX5_fall l D cI cW b (w_kw S t kd w) t hth ht) ⟨Nat.le_of_ble_eq_true rfl, Nat.le_of_ble_eq_true rfl⟩ ⟨Nat.zero_le _, Nat.zero_le _⟩ [1] rfl ⟨rfl, rfl⟩ rfl rfl 1 0 rfl rfl rfl rfl (Nat.le_of_ble_eq_true rfl) (ff_cons (wl_fst _ _ _ _) (ff_nil)) (ws' := [rl o b cI q, wl b cI (w_fall (w_kw S t kd w) t), wl a cI S]) rfl ?_
  refine G.popi X dX4_fits_37 ?_
  refine G.pu X dX4_fits_38 ?_
  refine G.is X dX4_fits_39 (by decide) (lv' := [(5, .int 0), (0, .ref (o 0)), (1, .ref (a 0)), (2, .int (nI t)), (3, .int kd), (4, .int w)]) rfl ?_
  have L41 : ∀ k, k ≤ q_n q → (∀ j, j < k → (fun d => decide (s_le (w_dayN (w_fall (w_kw S t kd w) t) d) t = q_f q d)) j = true) → G x 0 0 ([rl o b cI q, wl b cI (w_dayN (w_fall (w_kw S t kd w) t) k), wl a cI S]) 41 [(5, .int (nI k)), (0, .ref (o 0)), (1, .ref (a 0)), (2, .int (nI t)), (3, .int kd), (4, .int w)] [] := by
    refine loop_dn (q_n q) _ ?_ ?_
    · intro hinv41
      refine G.il X dX4_fits_41 0 rfl ?_
      refine G.al X dX4_fits_43 1 rfl ?_
      refine G.get X fX4_22 dX4_fits_44 0 0 rfl rfl rfl ?_
      refine G.n_ge X (a := q_n q) (b := q_n q) (by omega) (by omega) dX4_fits_47 (fun h47 => ?_) (fun h47 => absurd h47 (by omega))
      refine G.pu X dX4_fits_85 ?_
      exact G.zret X Rr (v := 1) (Or.inr rfl) dX4_fits_86 (pie_mk (w_dayN (w_fall (w_kw S t kd w) t) (q_n q)) (by simp [w_fit, b2i, allb_t (P := (fun d => decide (s_le (w_dayN (w_fall (w_kw S t kd w) t) d) t = q_f q d))) (n := q_n q) hinv41]) (by rfl))
    · intro k hk ih41 hinv41
      refine G.il X dX4_fits_41 0 rfl ?_
      refine G.al X dX4_fits_43 1 rfl ?_
      refine G.get X fX4_22 dX4_fits_44 0 0 rfl rfl rfl ?_
      refine G.n_ge X (a := k) (b := q_n q) (by omega) (by omega) dX4_fits_47 (fun h47 => absurd h47 (by omega)) (fun h47 => ?_)
      refine G.al X dX4_fits_50 1 rfl ?_
      refine G.get X fX4_12 dX4_fits_51 0 0 rfl rfl rfl ?_
      refine G.get X fX4_44 dX4_fits_54 1 0 rfl rfl rfl ?_
      refine G.il X dX4_fits_57 3 rfl ?_
      refine G.nld X (i := t) dX4_fits_58 1 8 rfl rfl (by omega) (by decide) ?_
      refine G.al X dX4_fits_59 1 rfl ?_
      refine G.get X fX4_18 dX4_fits_60 0 0 rfl rfl rfl ?_
      refine G.il X dX4_fits_63 0 rfl ?_
      refine G.nld X (i := k) dX4_fits_65 0 1 rfl rfl (by omega) (by decide) ?_
      refine G.c_eq X (a := ((s_le (w_dayN (w_fall (w_kw S t kd w) t) k)) t)) (b := ((q_f q) k)) dX4_fits_66 (fun h66 => ?_) (fun h66 => ?_)
      · refine G.al X dX4_fits_71 1 rfl ?_
        refine G.get X fX4_12 dX4_fits_72 0 0 rfl rfl rfl ?_
        refine G.pu X dX4_fits_75 ?_
        refine G.cvv X kX5_passDay lX4_47 dX4_fits_76 (tX5_passDay l D cI cW b (w_dayN (w_fall (w_kw S t kd w) t) k) (ok_dayN hO k)) ⟨Nat.le_of_ble_eq_true rfl, Nat.le_of_ble_eq_true rfl⟩ ⟨Nat.zero_le _, Nat.zero_le _⟩ [1] rfl ⟨rfl, rfl⟩ rfl rfl 1 0 rfl rfl rfl rfl (Nat.le_of_ble_eq_true rfl) (ff_cons (wl_fst _ _ _ _) (ff_nil)) (ws' := [rl o b cI q, wl b cI (w_day true (w_dayN (w_fall (w_kw S t kd w) t) k)), wl a cI S]) rfl ?_
        refine G.iinc X dX4_fits_79 0 rfl (v' := nI (k + 1)) (nI_inc k) (by decide) (lv' := [(5, .int (nI (k + 1))), (0, .ref (o 0)), (1, .ref (a 0)), (2, .int (nI t)), (3, .int kd), (4, .int w)]) rfl ?_
        refine G.go X dX4_fits_82 ?_
        exact ih41 (lt_snoc hinv41 (by simp [h66]))
      · refine G.pu X dX4_fits_69 ?_
        exact G.zret X Rr (v := 0) (Or.inl rfl) dX4_fits_70 (pie_mk (w_dayN (w_fall (w_kw S t kd w) t) k) (by simp [w_fit, b2i, allb_f (P := (fun d => decide (s_le (w_dayN (w_fall (w_kw S t kd w) t) d) t = q_f q d))) (k := k) (by simp [h66]) hk]) (by rfl))
  have L41 := L41 0 (Nat.zero_le _) (fun j hj => absurd hj (by omega))
  exact L41

set_option maxRecDepth 20000 in
theorem tX4_kindsThatFit (l : Launch) (D : va_G) (cI cW : ClassId) (o : Nat → Nat) (b : Nat → Nat) (q : FN × Nat) (T : WS) (a : Nat → Nat) (S : WS) (t : Nat) (hS : Ok S) (hq : q_n q ≤ 16) (ht : t < s_th S) : CT l D cI cW yX4_kindsThatFit cX4_kindsThatFit 5 (some .int) ⟨4, 0, 0, 106⟩ [.ref (o 0), .ref (a 0), .int (nI t)] ([rl o b cI q, wl b cI T, wl a cI S]) (PIE (w_fb (fun k => w_fit S t (nI k) (s_we S t) q) 6) (fun T9 : WS => [rl o b cI q, wl b cI T9, wl a cI S])) := by
  refine CT.of RX4 rfl (by decide +kernel) (Nat.le_of_ble_eq_true rfl) [(0, .ref (o 0)), (1, .ref (a 0)), (2, .int (nI t))] rfl (fun x X Rr hnm => ?_)
  have hth := hS.th
  have hpe := hS.pe
  refine G.pu X dX4_kindsThatFit_0 ?_
  refine G.is X dX4_kindsThatFit_1 (by decide) (lv' := [(3, .int 0), (0, .ref (o 0)), (1, .ref (a 0)), (2, .int (nI t))]) rfl ?_
  refine G.pu X dX4_kindsThatFit_2 ?_
  refine G.is X dX4_kindsThatFit_3 (by decide) (lv' := [(4, .int 0), (3, .int 0), (0, .ref (o 0)), (1, .ref (a 0)), (2, .int (nI t))]) rfl ?_
  have L5 : ∀ k, k ≤ 6 → ∀ T8 : WS, G x 0 0 ([rl o b cI q, wl b cI T8, wl a cI S]) 5 [(4, .int (nI k)), (3, .int (w_fb (fun k => w_fit S t (nI k) (s_we S t) q) k)), (0, .ref (o 0)), (1, .ref (a 0)), (2, .int (nI t))] [] := by
    refine loop_dn 6 _ ?_ ?_
    · intro T8
      refine G.il X dX4_kindsThatFit_5 0 rfl ?_
      refine G.pu X dX4_kindsThatFit_7 ?_
      refine G.n_ge X (a := 6) (b := 6) (by omega) (by omega) dX4_kindsThatFit_9 (fun h9 => ?_) (fun h9 => absurd h9 (by omega))
      refine G.il X dX4_kindsThatFit_42 1 rfl ?_
      exact G.iret X Rr (v := (w_fb (fun k => w_fit S t (nI k) (s_we S t) q) 6)) dX4_kindsThatFit_43 (pie_mk (T8) (by rfl) (by rfl))
    · intro k hk ih5 T8
      refine G.il X dX4_kindsThatFit_5 0 rfl ?_
      refine G.pu X dX4_kindsThatFit_7 ?_
      refine G.n_ge X (a := k) (b := 6) (by omega) (by omega) dX4_kindsThatFit_9 (fun h9 => absurd h9 (by omega)) (fun h9 => ?_)
      refine G.al X dX4_kindsThatFit_12 2 rfl ?_
      refine G.al X dX4_kindsThatFit_13 3 rfl ?_
      refine G.il X dX4_kindsThatFit_14 4 rfl ?_
      refine G.il X dX4_kindsThatFit_15 0 rfl ?_
      refine G.al X dX4_kindsThatFit_17 3 rfl ?_
      refine G.get X fX4_26 dX4_kindsThatFit_18 2 0 rfl rfl rfl ?_
      refine G.il X dX4_kindsThatFit_21 4 rfl ?_
      refine G.nld X (i := t) dX4_kindsThatFit_22 2 5 rfl rfl (by omega) (by decide) ?_
      refine G.cvie X kX4_fits lX4_29 dX4_kindsThatFit_23 (tX4_fits l D cI cW o b q T8 a S t (nI k) ((s_we S) t) hS hq (by omega) ⟨k, by omega, rfl⟩ (hS.we ht)) ⟨Nat.le_of_ble_eq_true rfl, Nat.le_of_ble_eq_true rfl⟩ ⟨Nat.zero_le _, Nat.zero_le _⟩ [0, 1, 2] rfl ⟨rfl, rfl⟩ rfl rfl 0 0 rfl rfl rfl rfl (Nat.le_of_ble_eq_true rfl) (fun _ => (ff_cons (rl_fst _ _ _ _ _) (ff_cons (wl_fst _ _ _ _) (ff_cons (wl_fst _ _ _ _) (ff_nil))))) (f8 := fun T9_23 : WS => [rl o b cI q, wl b cI T9_23, wl a cI S]) (fun _ => rfl) (fun T9_23 => ?_)
      refine G.b_eq X dX4_kindsThatFit_26 (fun h26 => ?_) (fun h26 => ?_)
      · refine G.iinc X dX4_kindsThatFit_36 0 rfl (v' := nI (k + 1)) (nI_inc k) (by decide) (lv' := [(4, .int (nI (k + 1))), (3, .int (w_fb (fun k => w_fit S t (nI k) (s_we S t) q) k)), (0, .ref (o 0)), (1, .ref (a 0)), (2, .int (nI t))]) rfl ?_
        refine G.go X dX4_kindsThatFit_39 ?_
        replace ih5 := ih5 T9_23
        rw [show (w_fb (fun k => w_fit S t (nI k) (s_we S t) q) (k + 1)) = (w_fb (fun k => w_fit S t (nI k) (s_we S t) q) k) from (by simp [w_fb, h9, h26])] at ih5
        exact ih5
      · refine G.il X dX4_kindsThatFit_29 1 rfl ?_
        refine G.pu X dX4_kindsThatFit_30 ?_
        refine G.il X dX4_kindsThatFit_31 0 rfl ?_
        refine G.ishl X dX4_kindsThatFit_33 ?_
        refine G.ior X dX4_kindsThatFit_34 ?_
        refine G.is X dX4_kindsThatFit_35 (by decide) (lv' := [(3, .int ((w_fb (fun k => w_fit S t (nI k) (s_we S t) q) k) ||| (1 <<< ((nI k) &&& 31)))), (4, .int (nI k)), (0, .ref (o 0)), (1, .ref (a 0)), (2, .int (nI t))]) rfl ?_
        refine G.iinc X dX4_kindsThatFit_36 1 rfl (v' := nI (k + 1)) (nI_inc k) (by decide) (lv' := [(4, .int (nI (k + 1))), (3, .int ((w_fb (fun k => w_fit S t (nI k) (s_we S t) q) k) ||| (1 <<< ((nI k) &&& 31)))), (0, .ref (o 0)), (1, .ref (a 0)), (2, .int (nI t))]) rfl ?_
        refine G.go X dX4_kindsThatFit_39 ?_
        replace ih5 := ih5 T9_23
        rw [show (w_fb (fun k => w_fit S t (nI k) (s_we S t) q) (k + 1)) = ((w_fb (fun k => w_fit S t (nI k) (s_we S t) q) k) ||| (1 <<< ((nI k) &&& 31))) from (by simp [w_fb, h9, h26])] at ih5
        exact ih5
  have L5 := L5 0 (Nat.zero_le _) T
  exact L5

set_option maxRecDepth 20000 in
theorem tX4_weightsThatFit (l : Launch) (D : va_G) (cI cW : ClassId) (o : Nat → Nat) (b : Nat → Nat) (q : FN × Nat) (T : WS) (a : Nat → Nat) (S : WS) (t : Nat) (hS : Ok S) (hq : q_n q ≤ 16) (ht : t < s_th S) : CT l D cI cW yX4_weightsThatFit cX4_weightsThatFit 5 (some .int) ⟨4, 0, 0, 106⟩ [.ref (o 0), .ref (a 0), .int (nI t)] ([rl o b cI q, wl b cI T, wl a cI S]) (PIE (w_fb (fun k => w_fit S t (s_ki S t) (nI k) q) 10) (fun T9 : WS => [rl o b cI q, wl b cI T9, wl a cI S])) := by
  refine CT.of RX4 rfl (by decide +kernel) (Nat.le_of_ble_eq_true rfl) [(0, .ref (o 0)), (1, .ref (a 0)), (2, .int (nI t))] rfl (fun x X Rr hnm => ?_)
  have hth := hS.th
  have hpe := hS.pe
  refine G.pu X dX4_weightsThatFit_0 ?_
  refine G.is X dX4_weightsThatFit_1 (by decide) (lv' := [(3, .int 0), (0, .ref (o 0)), (1, .ref (a 0)), (2, .int (nI t))]) rfl ?_
  refine G.pu X dX4_weightsThatFit_2 ?_
  refine G.is X dX4_weightsThatFit_3 (by decide) (lv' := [(4, .int 0), (3, .int 0), (0, .ref (o 0)), (1, .ref (a 0)), (2, .int (nI t))]) rfl ?_
  have L5 : ∀ k, k ≤ 10 → ∀ T8 : WS, G x 0 0 ([rl o b cI q, wl b cI T8, wl a cI S]) 5 [(4, .int (nI k)), (3, .int (w_fb (fun k => w_fit S t (s_ki S t) (nI k) q) k)), (0, .ref (o 0)), (1, .ref (a 0)), (2, .int (nI t))] [] := by
    refine loop_dn 10 _ ?_ ?_
    · intro T8
      refine G.il X dX4_weightsThatFit_5 0 rfl ?_
      refine G.pu X dX4_weightsThatFit_7 ?_
      refine G.n_gt X (a := 10) (b := 9) (by omega) (by omega) dX4_weightsThatFit_9 (fun h9 => ?_) (fun h9 => absurd h9 (by omega))
      refine G.il X dX4_weightsThatFit_42 1 rfl ?_
      exact G.iret X Rr (v := (w_fb (fun k => w_fit S t (s_ki S t) (nI k) q) 10)) dX4_weightsThatFit_43 (pie_mk (T8) (by rfl) (by rfl))
    · intro k hk ih5 T8
      refine G.il X dX4_weightsThatFit_5 0 rfl ?_
      refine G.pu X dX4_weightsThatFit_7 ?_
      refine G.n_gt X (a := k) (b := 9) (by omega) (by omega) dX4_weightsThatFit_9 (fun h9 => absurd h9 (by omega)) (fun h9 => ?_)
      refine G.al X dX4_weightsThatFit_12 2 rfl ?_
      refine G.al X dX4_weightsThatFit_13 3 rfl ?_
      refine G.il X dX4_weightsThatFit_14 4 rfl ?_
      refine G.al X dX4_weightsThatFit_15 3 rfl ?_
      refine G.get X fX4_33 dX4_weightsThatFit_16 2 0 rfl rfl rfl ?_
      refine G.il X dX4_weightsThatFit_19 4 rfl ?_
      refine G.nld X (i := t) dX4_weightsThatFit_20 2 4 rfl rfl (by omega) (by decide) ?_
      refine G.il X dX4_weightsThatFit_21 0 rfl ?_
      refine G.cvie X kX4_fits lX4_29 dX4_weightsThatFit_23 (tX4_fits l D cI cW o b q T8 a S t ((s_ki S) t) (nI k) hS hq (by omega) (hS.ki ht) ⟨k, by omega, rfl⟩) ⟨Nat.le_of_ble_eq_true rfl, Nat.le_of_ble_eq_true rfl⟩ ⟨Nat.zero_le _, Nat.zero_le _⟩ [0, 1, 2] rfl ⟨rfl, rfl⟩ rfl rfl 0 0 rfl rfl rfl rfl (Nat.le_of_ble_eq_true rfl) (fun _ => (ff_cons (rl_fst _ _ _ _ _) (ff_cons (wl_fst _ _ _ _) (ff_cons (wl_fst _ _ _ _) (ff_nil))))) (f8 := fun T9_23 : WS => [rl o b cI q, wl b cI T9_23, wl a cI S]) (fun _ => rfl) (fun T9_23 => ?_)
      refine G.b_eq X dX4_weightsThatFit_26 (fun h26 => ?_) (fun h26 => ?_)
      · refine G.iinc X dX4_weightsThatFit_36 0 rfl (v' := nI (k + 1)) (nI_inc k) (by decide) (lv' := [(4, .int (nI (k + 1))), (3, .int (w_fb (fun k => w_fit S t (s_ki S t) (nI k) q) k)), (0, .ref (o 0)), (1, .ref (a 0)), (2, .int (nI t))]) rfl ?_
        refine G.go X dX4_weightsThatFit_39 ?_
        replace ih5 := ih5 T9_23
        rw [show (w_fb (fun k => w_fit S t (s_ki S t) (nI k) q) (k + 1)) = (w_fb (fun k => w_fit S t (s_ki S t) (nI k) q) k) from (by simp [w_fb, h9, h26])] at ih5
        exact ih5
      · refine G.il X dX4_weightsThatFit_29 1 rfl ?_
        refine G.pu X dX4_weightsThatFit_30 ?_
        refine G.il X dX4_weightsThatFit_31 0 rfl ?_
        refine G.ishl X dX4_weightsThatFit_33 ?_
        refine G.ior X dX4_weightsThatFit_34 ?_
        refine G.is X dX4_weightsThatFit_35 (by decide) (lv' := [(3, .int ((w_fb (fun k => w_fit S t (s_ki S t) (nI k) q) k) ||| (1 <<< ((nI k) &&& 31)))), (4, .int (nI k)), (0, .ref (o 0)), (1, .ref (a 0)), (2, .int (nI t))]) rfl ?_
        refine G.iinc X dX4_weightsThatFit_36 1 rfl (v' := nI (k + 1)) (nI_inc k) (by decide) (lv' := [(4, .int (nI (k + 1))), (3, .int ((w_fb (fun k => w_fit S t (s_ki S t) (nI k) q) k) ||| (1 <<< ((nI k) &&& 31)))), (0, .ref (o 0)), (1, .ref (a 0)), (2, .int (nI t))]) rfl ?_
        refine G.go X dX4_weightsThatFit_39 ?_
        replace ih5 := ih5 T9_23
        rw [show (w_fb (fun k => w_fit S t (s_ki S t) (nI k) q) (k + 1)) = ((w_fb (fun k => w_fit S t (s_ki S t) (nI k) q) k) ||| (1 <<< ((nI k) &&& 31))) from (by simp [w_fb, h9, h26])] at ih5
        exact ih5
  have L5 := L5 0 (Nat.zero_le _) T
  exact L5

set_option maxRecDepth 20000 in
theorem tX4_firstWrong (l : Launch) (D : va_G) (cI cW : ClassId) (o : Nat → Nat) (b : Nat → Nat) (q : FN × Nat) (T : WS) (a : Nat → Nat) (S : WS) (hS : Ok S) (hq : q_n q ≤ 16) : CT l D cI cW yX4_firstWrong cX4_firstWrong 3 (some .int) ⟨3, 0, 0, 81⟩ [.ref (o 0), .ref (a 0)] ([rl o b cI q, wl b cI T, wl a cI S]) (PIE (o2i (fi (fun d => !decide (bc (askb (w_dayN S d) (s_th (w_dayN S d))) = q_f q d)) (q_n q))) (fun T9 : WS => [rl o b cI q, wl b cI T9, wl a cI S])) := by
  refine CT.of RX4 rfl (by decide +kernel) (Nat.le_of_ble_eq_true rfl) [(0, .ref (o 0)), (1, .ref (a 0))] rfl (fun x X Rr hnm => ?_)
  have hth := hS.th
  have hpe := hS.pe
  refine G.al X dX4_firstWrong_0 0 rfl ?_
  refine G.get X fX4_12 dX4_firstWrong_1 0 0 rfl rfl rfl ?_
  refine G.al X dX4_firstWrong_4 1 rfl ?_
  refine G.cvv X kX5_becomes lX4_36 dX4_firstWrong_5 (tX5_becomes l D cI cW b T a S) ⟨Nat.le_of_ble_eq_true rfl, Nat.le_of_ble_eq_true rfl⟩ ⟨Nat.zero_le _, Nat.zero_le _⟩ [1, 2] rfl ⟨rfl, rfl⟩ rfl rfl 1 0 rfl rfl rfl rfl (Nat.le_of_ble_eq_true rfl) (ff_cons (wl_fst _ _ _ _) (ff_cons (wl_fst _ _ _ _) (ff_nil))) (ws' := [rl o b cI q, wl b cI S, wl a cI S]) rfl ?_
  refine G.pu X dX4_firstWrong_8 ?_
  refine G.is X dX4_firstWrong_9 (by decide) (lv' := [(2, .int 0), (0, .ref (o 0)), (1, .ref (a 0))]) rfl ?_
  have L10 : ∀ k, k ≤ q_n q → (∀ j, j < k → (fun d => !decide (bc (askb (w_dayN S d) (s_th (w_dayN S d))) = q_f q d)) j = false) → G x 0 0 ([rl o b cI q, wl b cI (w_dayN S k), wl a cI S]) 10 [(2, .int (nI k)), (0, .ref (o 0)), (1, .ref (a 0))] [] := by
    refine loop_dn (q_n q) _ ?_ ?_
    · intro hinv10
      refine G.il X dX4_firstWrong_10 0 rfl ?_
      refine G.al X dX4_firstWrong_11 1 rfl ?_
      refine G.get X fX4_22 dX4_firstWrong_12 0 0 rfl rfl rfl ?_
      refine G.n_ge X (a := q_n q) (b := q_n q) (by omega) (by omega) dX4_firstWrong_15 (fun h15 => ?_) (fun h15 => absurd h15 (by omega))
      refine G.pu X dX4_firstWrong_53 ?_
      exact G.iret X Rr (v := (-9)) dX4_firstWrong_55 (pie_mk (w_dayN S (q_n q)) (by rw [fi_none (P := fun d => !decide (bc (askb (w_dayN S d) (s_th (w_dayN S d))) = q_f q d)) hinv10]; rfl) (by rfl))
    · intro k hk ih10 hinv10
      have hT : Ok (w_dayN S k) := ok_dayN hS k
      have f1 : s_th (w_dayN S k) = s_th S := (fr_dayN S k).2.1
      refine G.il X dX4_firstWrong_10 0 rfl ?_
      refine G.al X dX4_firstWrong_11 1 rfl ?_
      refine G.get X fX4_22 dX4_firstWrong_12 0 0 rfl rfl rfl ?_
      refine G.n_ge X (a := k) (b := q_n q) (by omega) (by omega) dX4_firstWrong_15 (fun h15 => absurd h15 (by omega)) (fun h15 => ?_)
      refine G.al X dX4_firstWrong_18 1 rfl ?_
      refine G.get X fX4_12 dX4_firstWrong_19 0 0 rfl rfl rfl ?_
      refine G.cvi X kX5_askBits lX4_51 dX4_firstWrong_22 (tX5_askBits l D cI cW b (w_dayN S k) hT.th) ⟨Nat.le_of_ble_eq_true rfl, Nat.le_of_ble_eq_true rfl⟩ ⟨Nat.zero_le _, Nat.zero_le _⟩ [1] rfl ⟨rfl, rfl⟩ rfl rfl 1 0 rfl rfl rfl rfl (Nat.le_of_ble_eq_true rfl) (ff_cons (wl_fst _ _ _ _) (ff_nil)) (ws' := [rl o b cI q, wl b cI (w_dayN S k), wl a cI S]) rfl ?_
      refine G.csti X kJ6_bitCount_0f7a4 lX4_55 dX4_firstWrong_25 (tJ6_bitCount_0f7a4 l D cI cW (askb (w_dayN S k) (s_th (w_dayN S k)))) ⟨Nat.le_of_ble_eq_true rfl, Nat.le_of_ble_eq_true rfl⟩ ⟨Nat.zero_le _, Nat.zero_le _⟩ [] rfl ⟨rfl, rfl⟩ rfl rfl rfl (Nat.le_of_ble_eq_true rfl) (ff_nil) (ws' := [rl o b cI q, wl b cI (w_dayN S k), wl a cI S]) rfl ?_
      refine G.al X dX4_firstWrong_28 1 rfl ?_
      refine G.get X fX4_18 dX4_firstWrong_29 0 0 rfl rfl rfl ?_
      refine G.il X dX4_firstWrong_32 0 rfl ?_
      refine G.nld X (i := k) dX4_firstWrong_33 0 1 rfl rfl (by omega) (by decide) ?_
      refine G.c_eq X (a := (bc (askb (w_dayN S k) (s_th (w_dayN S k))))) (b := ((q_f q) k)) dX4_firstWrong_34 (fun h34 => ?_) (fun h34 => ?_)
      · refine G.al X dX4_firstWrong_39 1 rfl ?_
        refine G.get X fX4_12 dX4_firstWrong_40 0 0 rfl rfl rfl ?_
        refine G.pu X dX4_firstWrong_43 ?_
        refine G.cvv X kX5_passDay lX4_47 dX4_firstWrong_44 (tX5_passDay l D cI cW b (w_dayN S k) hT) ⟨Nat.le_of_ble_eq_true rfl, Nat.le_of_ble_eq_true rfl⟩ ⟨Nat.zero_le _, Nat.zero_le _⟩ [1] rfl ⟨rfl, rfl⟩ rfl rfl 1 0 rfl rfl rfl rfl (Nat.le_of_ble_eq_true rfl) (ff_cons (wl_fst _ _ _ _) (ff_nil)) (ws' := [rl o b cI q, wl b cI (w_day true (w_dayN S k)), wl a cI S]) rfl ?_
        refine G.iinc X dX4_firstWrong_47 0 rfl (v' := nI (k + 1)) (nI_inc k) (by decide) (lv' := [(2, .int (nI (k + 1))), (0, .ref (o 0)), (1, .ref (a 0))]) rfl ?_
        refine G.go X dX4_firstWrong_50 ?_
        exact ih10 (lt_snoc hinv10 (by simp [h34]))
      · refine G.il X dX4_firstWrong_37 0 rfl ?_
        exact G.iret X Rr (v := nI k) dX4_firstWrong_38 (pie_mk (w_dayN S k) (by rw [fi_hit (P := fun d => !decide (bc (askb (w_dayN S d) (s_th (w_dayN S d))) = q_f q d)) hinv10 (by simp [h34]) hk]; rfl) (by rfl))
  have L10 := L10 0 (Nat.zero_le _) (fun j hj => absurd hj (by omega))
  exact L10

set_option maxRecDepth 20000 in
theorem tX1_draw (l : Launch) (D : va_G) (cI cW : ClassId) (o : Nat → Nat) (b : Nat → Nat) (w : Nat → Nat → Nat) (q : Int32 × Int32 × Int32) (m : Nat) (hm : 0 < m) (hm2 : m < 2 ^ 31) : CT l D cI cW yX1_draw cX1_draw 2 (some .int) ⟨0, 0, 0, 0⟩ [.ref (o 0), .int (nI m)] ([cl o b w cW q]) (PI (d_of (k_s q) m) ([cl o b w cW (d_nx (k_s q), k_w q, k_a q)])) := by
  refine CT.of RX1 rfl (by decide +kernel) (Nat.le_of_ble_eq_true rfl) [(0, .ref (o 0)), (1, .int (nI m))] rfl (fun x X Rr hnm => ?_)
  refine G.al X dX1_draw_0 0 rfl ?_
  refine G.al X dX1_draw_1 0 rfl ?_
  refine G.get X fX1_22 dX1_draw_2 0 0 rfl rfl rfl ?_
  refine G.ldc X dX1_draw_5 qX1_73 ?_
  refine G.imul X dX1_draw_7 ?_
  refine G.ldc X dX1_draw_8 qX1_74 ?_
  refine G.iadd X dX1_draw_10 ?_
  refine G.puti X fX1_22 fe1 dX1_draw_11 rfl rfl 0 0 rfl rfl (Nat.le_of_ble_eq_true rfl) (blk' := cl o b w cW (((k_s q) * 1664525) + 1013904223, k_w q, k_a q)) rfl (ws' := [cl o b w cW (((k_s q) * 1664525) + 1013904223, k_w q, k_a q)]) rfl ?_
  refine G.il X dX1_draw_14 1 rfl ?_
  refine G.z_le X (a := nI m) dX1_draw_15 (fun h15 => absurd (nI_ltI (a := 0) (by decide) hm2 |>.mpr hm) h15) (fun h15 => ?_)
  refine G.al X dX1_draw_18 0 rfl ?_
  refine G.get X fX1_22 dX1_draw_19 0 0 rfl rfl rfl ?_
  refine G.ldc X dX1_draw_22 qX1_75 ?_
  refine G.iand X dX1_draw_24 ?_
  refine G.pu X dX1_draw_25 ?_
  refine G.idiv X dX1_draw_28 (by decide) ?_
  refine G.il X dX1_draw_29 1 rfl ?_
  refine G.irem X dX1_draw_30 (nI_ne0 hm hm2) ?_
  refine G.go X dX1_draw_31 ?_
  exact G.iret X Rr (v := (rm32 (((((k_s q) * 1664525) + 1013904223) &&& 2147483647) / 256) (nI m))) dX1_draw_35 (pi_mk (by rfl) (by rfl))

set_option maxRecDepth 20000 in
theorem tX1_waysFrom_7 (l : Launch) (D : va_G) (cI cW : ClassId) (o : Nat → Nat) (b : Nat → Nat) (w : Nat → Nat → Nat) (q : Int32 × Int32 × Int32) (S7 : WS) (n : Nat) (t : Int32) (hS : Ok S7) (hn : n ≤ 7) : CT l D cI cW yX1_waysFrom cX1_waysFrom 7 (some .long) ⟨2, 0, 0, 42⟩ [.ref (o 1), .int (nI 7), .int (nI n), .int t] ([cl o b w cW q, wl (w 7) cI S7]) (PJ (w_ways (Int32.toInt64 (t - 1)) (n - 7) S7) ([cl o b w cW q, wl (w 7) cI S7])) := by
  refine CT.of RX1 rfl (by decide +kernel) (Nat.le_of_ble_eq_true rfl) [(0, .ref (o 1)), (1, .int (nI 7)), (2, .int (nI n)), (3, .int t)] rfl (fun x X Rr hnm => ?_)
  have hth := hS.th
  refine G.il X dX1_waysFrom_0 1 rfl ?_
  refine G.il X dX1_waysFrom_1 2 rfl ?_
  refine G.n_ge X (a := 7) (b := n) (by omega) (by omega) dX1_waysFrom_2 (fun h2 => ?_) (fun h2 => absurd h2 (by omega))
  refine G.al X dX1_waysFrom_11 0 rfl ?_
  refine G.il X dX1_waysFrom_12 1 rfl ?_
  refine G.rld X (i := 7) (b := w 7 0) dX1_waysFrom_13 0 1 rfl rfl (by omega) (by decide) rfl ?_
  refine G.cvi X kX5_hasWater lX1_40 dX1_waysFrom_14 (tX5_hasWater l D cI cW (w 7) S7 (by omega)) ⟨Nat.le_of_ble_eq_true rfl, Nat.le_of_ble_eq_true rfl⟩ ⟨Nat.zero_le _, Nat.zero_le _⟩ [1] rfl ⟨rfl, rfl⟩ rfl rfl 1 0 rfl rfl rfl rfl (Nat.le_of_ble_eq_true rfl) (ff_cons (wl_fst _ _ _ _) (ff_nil)) (ws' := [cl o b w cW q, wl (w 7) cI S7]) rfl ?_
  refine G.b_eq X dX1_waysFrom_17 (fun h17 => ?_) (fun h17 => ?_)
  · refine G.lc X dX1_waysFrom_24 (v := 0) rfl ?_
    exact G.lret X Rr dX1_waysFrom_25 (pj_mk (by rw [show n - 7 = 0 by omega]; simp [w_ways, h2, h17]) (by rfl))
  · refine G.lc X dX1_waysFrom_20 (v := 1) rfl ?_
    refine G.go X dX1_waysFrom_21 ?_
    exact G.lret X Rr dX1_waysFrom_25 (pj_mk (by rw [show n - 7 = 0 by omega]; simp [w_ways, h2, h17]) (by rfl))

set_option maxRecDepth 20000 in
theorem tX1_waysFrom_6 (l : Launch) (D : va_G) (cI cW : ClassId) (o : Nat → Nat) (b : Nat → Nat) (w : Nat → Nat → Nat) (q : Int32 × Int32 × Int32) (S6 : WS) (S7 : WS) (n : Nat) (t : Int32) (hS : Ok S6) (hn : n ≤ 7) : CT l D cI cW yX1_waysFrom cX1_waysFrom 7 (some .long) ⟨3, 0, 0, 81⟩ [.ref (o 1), .int (nI 6), .int (nI n), .int t] ([cl o b w cW q, wl (w 6) cI S6, wl (w 7) cI S7]) (PJE (w_ways (Int32.toInt64 (t - 1)) (n - 6) S6) (fun z9 : WS => [cl o b w cW q, wl (w 6) cI S6, wl (w 7) cI z9])) := by
  refine CT.of RX1 rfl (by decide +kernel) (Nat.le_of_ble_eq_true rfl) [(0, .ref (o 1)), (1, .int (nI 6)), (2, .int (nI n)), (3, .int t)] rfl (fun x X Rr hnm => ?_)
  have hth := hS.th
  refine G.il X dX1_waysFrom_0 1 rfl ?_
  refine G.il X dX1_waysFrom_1 2 rfl ?_
  refine G.n_ge X (a := 6) (b := n) (by omega) (by omega) dX1_waysFrom_2 (fun h2 => ?_) (fun h2 => ?_)
  · refine G.al X dX1_waysFrom_11 0 rfl ?_
    refine G.il X dX1_waysFrom_12 1 rfl ?_
    refine G.rld X (i := 6) (b := w 6 0) dX1_waysFrom_13 0 1 rfl rfl (by omega) (by decide) rfl ?_
    refine G.cvi X kX5_hasWater lX1_40 dX1_waysFrom_14 (tX5_hasWater l D cI cW (w 6) S6 (by omega)) ⟨Nat.le_of_ble_eq_true rfl, Nat.le_of_ble_eq_true rfl⟩ ⟨Nat.zero_le _, Nat.zero_le _⟩ [1] rfl ⟨rfl, rfl⟩ rfl rfl 1 0 rfl rfl rfl rfl (Nat.le_of_ble_eq_true rfl) (ff_cons (wl_fst _ _ _ _) (ff_nil)) (ws' := [cl o b w cW q, wl (w 6) cI S6, wl (w 7) cI S7]) rfl ?_
    refine G.b_eq X dX1_waysFrom_17 (fun h17 => ?_) (fun h17 => ?_)
    · refine G.lc X dX1_waysFrom_24 (v := 0) rfl ?_
      exact G.lret X Rr dX1_waysFrom_25 (pje_mk (S7) (by rw [show n - 6 = 0 by omega]; simp [w_ways, h2, h17]) (by rfl))
    · refine G.lc X dX1_waysFrom_20 (v := 1) rfl ?_
      refine G.go X dX1_waysFrom_21 ?_
      exact G.lret X Rr dX1_waysFrom_25 (pje_mk (S7) (by rw [show n - 6 = 0 by omega]; simp [w_ways, h2, h17]) (by rfl))
  · refine G.il X dX1_waysFrom_5 1 rfl ?_
    refine G.pu X dX1_waysFrom_6 ?_
    refine G.n_lt X (a := 6) (b := 7) (by omega) (by omega) dX1_waysFrom_8 (fun h8 => ?_) (fun h8 => absurd h8 (by omega))
    refine G.al X dX1_waysFrom_26 0 rfl ?_
    refine G.il X dX1_waysFrom_27 1 rfl ?_
    refine G.pu X dX1_waysFrom_28 ?_
    refine G.nadd X (a := 6) (b := 1) dX1_waysFrom_29 ?_
    refine G.rld X (i := 7) (b := w 7 0) dX1_waysFrom_30 0 1 rfl rfl (by omega) (by decide) rfl ?_
    refine G.as X dX1_waysFrom_31 (by decide) (lv' := [(4, .ref (w 7 0)), (0, .ref (o 1)), (1, .int (nI 6)), (2, .int (nI n)), (3, .int t)]) rfl ?_
    refine G.al X dX1_waysFrom_33 0 rfl ?_
    refine G.al X dX1_waysFrom_35 1 rfl ?_
    refine G.il X dX1_waysFrom_36 2 rfl ?_
    refine G.rld X (i := 6) (b := w 6 0) dX1_waysFrom_37 0 1 rfl rfl (by omega) (by decide) rfl ?_
    refine G.cvv X kX5_becomes lX1_32 dX1_waysFrom_38 (tX5_becomes l D cI cW (w 7) S7 (w 6) S6) ⟨Nat.le_of_ble_eq_true rfl, Nat.le_of_ble_eq_true rfl⟩ ⟨Nat.zero_le _, Nat.zero_le _⟩ [2, 1] rfl ⟨rfl, rfl⟩ rfl rfl 2 0 rfl rfl rfl rfl (Nat.le_of_ble_eq_true rfl) (ff_cons (wl_fst _ _ _ _) (ff_cons (wl_fst _ _ _ _) (ff_nil))) (ws' := [cl o b w cW q, wl (w 6) cI S6, wl (w 7) cI S6]) rfl ?_
    refine G.al X dX1_waysFrom_41 0 rfl ?_
    refine G.pu X dX1_waysFrom_43 ?_
    refine G.cvv X kX5_passDay lX1_44 dX1_waysFrom_44 (tX5_passDay_cold l D cI cW (w 7) S6 hS) ⟨Nat.le_of_ble_eq_true rfl, Nat.le_of_ble_eq_true rfl⟩ ⟨Nat.zero_le _, Nat.zero_le _⟩ [2] rfl ⟨rfl, rfl⟩ rfl rfl 2 0 rfl rfl rfl rfl (Nat.le_of_ble_eq_true rfl) (ff_cons (wl_fst _ _ _ _) (ff_nil)) (ws' := [cl o b w cW q, wl (w 6) cI S6, wl (w 7) cI (w_day false S6)]) rfl ?_
    refine G.al X dX1_waysFrom_47 1 rfl ?_
    refine G.il X dX1_waysFrom_48 2 rfl ?_
    refine G.pu X dX1_waysFrom_49 ?_
    refine G.nadd X (a := 6) (b := 1) dX1_waysFrom_50 ?_
    refine G.il X dX1_waysFrom_51 3 rfl ?_
    refine G.il X dX1_waysFrom_52 4 rfl ?_
    refine G.cstj X kX1_waysFrom lX1_36 dX1_waysFrom_53 (tX1_waysFrom_7 l D cI cW o b w q (w_day false S6) n t (ok_day hS false) (by omega)) ⟨Nat.le_of_ble_eq_true rfl, Nat.le_of_ble_eq_true rfl⟩ ⟨Nat.zero_le _, Nat.zero_le _⟩ [0, 2] rfl ⟨rfl, rfl⟩ rfl rfl rfl (Nat.le_of_ble_eq_true rfl) (ff_cons (cl_fst _ _ _ _ _ _) (ff_cons (wl_fst _ _ _ _) (ff_nil))) (ws' := [cl o b w cW q, wl (w 6) cI S6, wl (w 7) cI (w_day false S6)]) rfl ?_
    refine G.ls X dX1_waysFrom_56 (by decide) (lv' := [(5, .long (w_ways (Int32.toInt64 (t - 1)) (n - 7) (w_day false S6))), (4, .ref (w 7 0)), (0, .ref (o 1)), (1, .int (nI 6)), (2, .int (nI n)), (3, .int t)]) rfl ?_
    refine G.al X dX1_waysFrom_58 1 rfl ?_
    refine G.al X dX1_waysFrom_60 2 rfl ?_
    refine G.il X dX1_waysFrom_61 3 rfl ?_
    refine G.rld X (i := 6) (b := w 6 0) dX1_waysFrom_62 0 1 rfl rfl (by omega) (by decide) rfl ?_
    refine G.cvv X kX5_becomes lX1_32 dX1_waysFrom_63 (tX5_becomes l D cI cW (w 7) (w_day false S6) (w 6) S6) ⟨Nat.le_of_ble_eq_true rfl, Nat.le_of_ble_eq_true rfl⟩ ⟨Nat.zero_le _, Nat.zero_le _⟩ [2, 1] rfl ⟨rfl, rfl⟩ rfl rfl 2 0 rfl rfl rfl rfl (Nat.le_of_ble_eq_true rfl) (ff_cons (wl_fst _ _ _ _) (ff_cons (wl_fst _ _ _ _) (ff_nil))) (ws' := [cl o b w cW q, wl (w 6) cI S6, wl (w 7) cI S6]) rfl ?_
    refine G.al X dX1_waysFrom_66 1 rfl ?_
    refine G.pu X dX1_waysFrom_68 ?_
    refine G.cvv X kX5_passDay lX1_44 dX1_waysFrom_69 (tX5_passDay l D cI cW (w 7) S6 hS) ⟨Nat.le_of_ble_eq_true rfl, Nat.le_of_ble_eq_true rfl⟩ ⟨Nat.zero_le _, Nat.zero_le _⟩ [2] rfl ⟨rfl, rfl⟩ rfl rfl 2 0 rfl rfl rfl rfl (Nat.le_of_ble_eq_true rfl) (ff_cons (wl_fst _ _ _ _) (ff_nil)) (ws' := [cl o b w cW q, wl (w 6) cI S6, wl (w 7) cI (w_day true S6)]) rfl ?_
    refine G.ll X dX1_waysFrom_72 0 rfl ?_
    refine G.il X dX1_waysFrom_74 5 rfl ?_
    refine G.pu X dX1_waysFrom_75 ?_
    refine G.isub X dX1_waysFrom_76 ?_
    refine G.i2l X dX1_waysFrom_77 ?_
    refine G.al X dX1_waysFrom_78 2 rfl ?_
    refine G.il X dX1_waysFrom_79 3 rfl ?_
    refine G.pu X dX1_waysFrom_80 ?_
    refine G.nadd X (a := 6) (b := 1) dX1_waysFrom_81 ?_
    refine G.il X dX1_waysFrom_82 4 rfl ?_
    refine G.il X dX1_waysFrom_83 5 rfl ?_
    refine G.cstj X kX1_waysFrom lX1_36 dX1_waysFrom_84 (tX1_waysFrom_7 l D cI cW o b w q (w_day true S6) n t (ok_day hS true) (by omega)) ⟨Nat.le_of_ble_eq_true rfl, Nat.le_of_ble_eq_true rfl⟩ ⟨Nat.zero_le _, Nat.zero_le _⟩ [0, 2] rfl ⟨rfl, rfl⟩ rfl rfl rfl (Nat.le_of_ble_eq_true rfl) (ff_cons (cl_fst _ _ _ _ _ _) (ff_cons (wl_fst _ _ _ _) (ff_nil))) (ws' := [cl o b w cW q, wl (w 6) cI S6, wl (w 7) cI (w_day true S6)]) rfl ?_
    refine G.lmul X dX1_waysFrom_87 ?_
    refine G.ladd X dX1_waysFrom_88 ?_
    exact G.lret X Rr dX1_waysFrom_89 (pje_mk (w_day true S6) (by rw [show n - 6 = (n - 7) + 1 by omega]; rfl) (by rfl))

set_option maxRecDepth 20000 in
theorem tX1_waysFrom_5 (l : Launch) (D : va_G) (cI cW : ClassId) (o : Nat → Nat) (b : Nat → Nat) (w : Nat → Nat → Nat) (q : Int32 × Int32 × Int32) (S5 : WS) (S6 : WS) (S7 : WS) (n : Nat) (t : Int32) (hS : Ok S5) (hn : n ≤ 7) : CT l D cI cW yX1_waysFrom cX1_waysFrom 7 (some .long) ⟨4, 0, 0, 107⟩ [.ref (o 1), .int (nI 5), .int (nI n), .int t] ([cl o b w cW q, wl (w 5) cI S5, wl (w 6) cI S6, wl (w 7) cI S7]) (PJE (w_ways (Int32.toInt64 (t - 1)) (n - 5) S5) (fun z9 : WS × WS => [cl o b w cW q, wl (w 5) cI S5, wl (w 6) cI z9.1, wl (w 7) cI z9.2])) := by
  refine CT.of RX1 rfl (by decide +kernel) (Nat.le_of_ble_eq_true rfl) [(0, .ref (o 1)), (1, .int (nI 5)), (2, .int (nI n)), (3, .int t)] rfl (fun x X Rr hnm => ?_)
  have hth := hS.th
  refine G.il X dX1_waysFrom_0 1 rfl ?_
  refine G.il X dX1_waysFrom_1 2 rfl ?_
  refine G.n_ge X (a := 5) (b := n) (by omega) (by omega) dX1_waysFrom_2 (fun h2 => ?_) (fun h2 => ?_)
  · refine G.al X dX1_waysFrom_11 0 rfl ?_
    refine G.il X dX1_waysFrom_12 1 rfl ?_
    refine G.rld X (i := 5) (b := w 5 0) dX1_waysFrom_13 0 1 rfl rfl (by omega) (by decide) rfl ?_
    refine G.cvi X kX5_hasWater lX1_40 dX1_waysFrom_14 (tX5_hasWater l D cI cW (w 5) S5 (by omega)) ⟨Nat.le_of_ble_eq_true rfl, Nat.le_of_ble_eq_true rfl⟩ ⟨Nat.zero_le _, Nat.zero_le _⟩ [1] rfl ⟨rfl, rfl⟩ rfl rfl 1 0 rfl rfl rfl rfl (Nat.le_of_ble_eq_true rfl) (ff_cons (wl_fst _ _ _ _) (ff_nil)) (ws' := [cl o b w cW q, wl (w 5) cI S5, wl (w 6) cI S6, wl (w 7) cI S7]) rfl ?_
    refine G.b_eq X dX1_waysFrom_17 (fun h17 => ?_) (fun h17 => ?_)
    · refine G.lc X dX1_waysFrom_24 (v := 0) rfl ?_
      exact G.lret X Rr dX1_waysFrom_25 (pje_mk ((S6, S7)) (by rw [show n - 5 = 0 by omega]; simp [w_ways, h2, h17]) (by rfl))
    · refine G.lc X dX1_waysFrom_20 (v := 1) rfl ?_
      refine G.go X dX1_waysFrom_21 ?_
      exact G.lret X Rr dX1_waysFrom_25 (pje_mk ((S6, S7)) (by rw [show n - 5 = 0 by omega]; simp [w_ways, h2, h17]) (by rfl))
  · refine G.il X dX1_waysFrom_5 1 rfl ?_
    refine G.pu X dX1_waysFrom_6 ?_
    refine G.n_lt X (a := 5) (b := 7) (by omega) (by omega) dX1_waysFrom_8 (fun h8 => ?_) (fun h8 => absurd h8 (by omega))
    refine G.al X dX1_waysFrom_26 0 rfl ?_
    refine G.il X dX1_waysFrom_27 1 rfl ?_
    refine G.pu X dX1_waysFrom_28 ?_
    refine G.nadd X (a := 5) (b := 1) dX1_waysFrom_29 ?_
    refine G.rld X (i := 6) (b := w 6 0) dX1_waysFrom_30 0 1 rfl rfl (by omega) (by decide) rfl ?_
    refine G.as X dX1_waysFrom_31 (by decide) (lv' := [(4, .ref (w 6 0)), (0, .ref (o 1)), (1, .int (nI 5)), (2, .int (nI n)), (3, .int t)]) rfl ?_
    refine G.al X dX1_waysFrom_33 0 rfl ?_
    refine G.al X dX1_waysFrom_35 1 rfl ?_
    refine G.il X dX1_waysFrom_36 2 rfl ?_
    refine G.rld X (i := 5) (b := w 5 0) dX1_waysFrom_37 0 1 rfl rfl (by omega) (by decide) rfl ?_
    refine G.cvv X kX5_becomes lX1_32 dX1_waysFrom_38 (tX5_becomes l D cI cW (w 6) S6 (w 5) S5) ⟨Nat.le_of_ble_eq_true rfl, Nat.le_of_ble_eq_true rfl⟩ ⟨Nat.zero_le _, Nat.zero_le _⟩ [2, 1] rfl ⟨rfl, rfl⟩ rfl rfl 2 0 rfl rfl rfl rfl (Nat.le_of_ble_eq_true rfl) (ff_cons (wl_fst _ _ _ _) (ff_cons (wl_fst _ _ _ _) (ff_nil))) (ws' := [cl o b w cW q, wl (w 5) cI S5, wl (w 6) cI S5, wl (w 7) cI S7]) rfl ?_
    refine G.al X dX1_waysFrom_41 0 rfl ?_
    refine G.pu X dX1_waysFrom_43 ?_
    refine G.cvv X kX5_passDay lX1_44 dX1_waysFrom_44 (tX5_passDay_cold l D cI cW (w 6) S5 hS) ⟨Nat.le_of_ble_eq_true rfl, Nat.le_of_ble_eq_true rfl⟩ ⟨Nat.zero_le _, Nat.zero_le _⟩ [2] rfl ⟨rfl, rfl⟩ rfl rfl 2 0 rfl rfl rfl rfl (Nat.le_of_ble_eq_true rfl) (ff_cons (wl_fst _ _ _ _) (ff_nil)) (ws' := [cl o b w cW q, wl (w 5) cI S5, wl (w 6) cI (w_day false S5), wl (w 7) cI S7]) rfl ?_
    refine G.al X dX1_waysFrom_47 1 rfl ?_
    refine G.il X dX1_waysFrom_48 2 rfl ?_
    refine G.pu X dX1_waysFrom_49 ?_
    refine G.nadd X (a := 5) (b := 1) dX1_waysFrom_50 ?_
    refine G.il X dX1_waysFrom_51 3 rfl ?_
    refine G.il X dX1_waysFrom_52 4 rfl ?_
    refine G.cstje X kX1_waysFrom lX1_36 dX1_waysFrom_53 (tX1_waysFrom_6 l D cI cW o b w q (w_day false S5) S7 n t (ok_day hS false) (by omega)) ⟨Nat.le_of_ble_eq_true rfl, Nat.le_of_ble_eq_true rfl⟩ ⟨Nat.zero_le _, Nat.zero_le _⟩ [0, 2, 3] rfl ⟨rfl, rfl⟩ rfl rfl rfl (Nat.le_of_ble_eq_true rfl) (fun _ => (ff_cons (cl_fst _ _ _ _ _ _) (ff_cons (wl_fst _ _ _ _) (ff_cons (wl_fst _ _ _ _) (ff_nil))))) (f8 := fun z9_53 : WS => [cl o b w cW q, wl (w 5) cI S5, wl (w 6) cI (w_day false S5), wl (w 7) cI z9_53]) (fun _ => rfl) (fun z9_53 => ?_)
    refine G.ls X dX1_waysFrom_56 (by decide) (lv' := [(5, .long (w_ways (Int32.toInt64 (t - 1)) (n - 6) (w_day false S5))), (4, .ref (w 6 0)), (0, .ref (o 1)), (1, .int (nI 5)), (2, .int (nI n)), (3, .int t)]) rfl ?_
    refine G.al X dX1_waysFrom_58 1 rfl ?_
    refine G.al X dX1_waysFrom_60 2 rfl ?_
    refine G.il X dX1_waysFrom_61 3 rfl ?_
    refine G.rld X (i := 5) (b := w 5 0) dX1_waysFrom_62 0 1 rfl rfl (by omega) (by decide) rfl ?_
    refine G.cvv X kX5_becomes lX1_32 dX1_waysFrom_63 (tX5_becomes l D cI cW (w 6) (w_day false S5) (w 5) S5) ⟨Nat.le_of_ble_eq_true rfl, Nat.le_of_ble_eq_true rfl⟩ ⟨Nat.zero_le _, Nat.zero_le _⟩ [2, 1] rfl ⟨rfl, rfl⟩ rfl rfl 2 0 rfl rfl rfl rfl (Nat.le_of_ble_eq_true rfl) (ff_cons (wl_fst _ _ _ _) (ff_cons (wl_fst _ _ _ _) (ff_nil))) (ws' := [cl o b w cW q, wl (w 5) cI S5, wl (w 6) cI S5, wl (w 7) cI z9_53]) rfl ?_
    refine G.al X dX1_waysFrom_66 1 rfl ?_
    refine G.pu X dX1_waysFrom_68 ?_
    refine G.cvv X kX5_passDay lX1_44 dX1_waysFrom_69 (tX5_passDay l D cI cW (w 6) S5 hS) ⟨Nat.le_of_ble_eq_true rfl, Nat.le_of_ble_eq_true rfl⟩ ⟨Nat.zero_le _, Nat.zero_le _⟩ [2] rfl ⟨rfl, rfl⟩ rfl rfl 2 0 rfl rfl rfl rfl (Nat.le_of_ble_eq_true rfl) (ff_cons (wl_fst _ _ _ _) (ff_nil)) (ws' := [cl o b w cW q, wl (w 5) cI S5, wl (w 6) cI (w_day true S5), wl (w 7) cI z9_53]) rfl ?_
    refine G.ll X dX1_waysFrom_72 0 rfl ?_
    refine G.il X dX1_waysFrom_74 5 rfl ?_
    refine G.pu X dX1_waysFrom_75 ?_
    refine G.isub X dX1_waysFrom_76 ?_
    refine G.i2l X dX1_waysFrom_77 ?_
    refine G.al X dX1_waysFrom_78 2 rfl ?_
    refine G.il X dX1_waysFrom_79 3 rfl ?_
    refine G.pu X dX1_waysFrom_80 ?_
    refine G.nadd X (a := 5) (b := 1) dX1_waysFrom_81 ?_
    refine G.il X dX1_waysFrom_82 4 rfl ?_
    refine G.il X dX1_waysFrom_83 5 rfl ?_
    refine G.cstje X kX1_waysFrom lX1_36 dX1_waysFrom_84 (tX1_waysFrom_6 l D cI cW o b w q (w_day true S5) z9_53 n t (ok_day hS true) (by omega)) ⟨Nat.le_of_ble_eq_true rfl, Nat.le_of_ble_eq_true rfl⟩ ⟨Nat.zero_le _, Nat.zero_le _⟩ [0, 2, 3] rfl ⟨rfl, rfl⟩ rfl rfl rfl (Nat.le_of_ble_eq_true rfl) (fun _ => (ff_cons (cl_fst _ _ _ _ _ _) (ff_cons (wl_fst _ _ _ _) (ff_cons (wl_fst _ _ _ _) (ff_nil))))) (f8 := fun z9_84 : WS => [cl o b w cW q, wl (w 5) cI S5, wl (w 6) cI (w_day true S5), wl (w 7) cI z9_84]) (fun _ => rfl) (fun z9_84 => ?_)
    refine G.lmul X dX1_waysFrom_87 ?_
    refine G.ladd X dX1_waysFrom_88 ?_
    exact G.lret X Rr dX1_waysFrom_89 (pje_mk ((w_day true S5, z9_84)) (by rw [show n - 5 = (n - 6) + 1 by omega]; rfl) (by rfl))

set_option maxRecDepth 20000 in
theorem tX1_waysFrom_4 (l : Launch) (D : va_G) (cI cW : ClassId) (o : Nat → Nat) (b : Nat → Nat) (w : Nat → Nat → Nat) (q : Int32 × Int32 × Int32) (S4 : WS) (S5 : WS) (S6 : WS) (S7 : WS) (n : Nat) (t : Int32) (hS : Ok S4) (hn : n ≤ 7) : CT l D cI cW yX1_waysFrom cX1_waysFrom 7 (some .long) ⟨5, 0, 0, 133⟩ [.ref (o 1), .int (nI 4), .int (nI n), .int t] ([cl o b w cW q, wl (w 4) cI S4, wl (w 5) cI S5, wl (w 6) cI S6, wl (w 7) cI S7]) (PJE (w_ways (Int32.toInt64 (t - 1)) (n - 4) S4) (fun z9 : WS × WS × WS => [cl o b w cW q, wl (w 4) cI S4, wl (w 5) cI z9.1, wl (w 6) cI z9.2.1, wl (w 7) cI z9.2.2])) := by
  refine CT.of RX1 rfl (by decide +kernel) (Nat.le_of_ble_eq_true rfl) [(0, .ref (o 1)), (1, .int (nI 4)), (2, .int (nI n)), (3, .int t)] rfl (fun x X Rr hnm => ?_)
  have hth := hS.th
  refine G.il X dX1_waysFrom_0 1 rfl ?_
  refine G.il X dX1_waysFrom_1 2 rfl ?_
  refine G.n_ge X (a := 4) (b := n) (by omega) (by omega) dX1_waysFrom_2 (fun h2 => ?_) (fun h2 => ?_)
  · refine G.al X dX1_waysFrom_11 0 rfl ?_
    refine G.il X dX1_waysFrom_12 1 rfl ?_
    refine G.rld X (i := 4) (b := w 4 0) dX1_waysFrom_13 0 1 rfl rfl (by omega) (by decide) rfl ?_
    refine G.cvi X kX5_hasWater lX1_40 dX1_waysFrom_14 (tX5_hasWater l D cI cW (w 4) S4 (by omega)) ⟨Nat.le_of_ble_eq_true rfl, Nat.le_of_ble_eq_true rfl⟩ ⟨Nat.zero_le _, Nat.zero_le _⟩ [1] rfl ⟨rfl, rfl⟩ rfl rfl 1 0 rfl rfl rfl rfl (Nat.le_of_ble_eq_true rfl) (ff_cons (wl_fst _ _ _ _) (ff_nil)) (ws' := [cl o b w cW q, wl (w 4) cI S4, wl (w 5) cI S5, wl (w 6) cI S6, wl (w 7) cI S7]) rfl ?_
    refine G.b_eq X dX1_waysFrom_17 (fun h17 => ?_) (fun h17 => ?_)
    · refine G.lc X dX1_waysFrom_24 (v := 0) rfl ?_
      exact G.lret X Rr dX1_waysFrom_25 (pje_mk ((S5, S6, S7)) (by rw [show n - 4 = 0 by omega]; simp [w_ways, h2, h17]) (by rfl))
    · refine G.lc X dX1_waysFrom_20 (v := 1) rfl ?_
      refine G.go X dX1_waysFrom_21 ?_
      exact G.lret X Rr dX1_waysFrom_25 (pje_mk ((S5, S6, S7)) (by rw [show n - 4 = 0 by omega]; simp [w_ways, h2, h17]) (by rfl))
  · refine G.il X dX1_waysFrom_5 1 rfl ?_
    refine G.pu X dX1_waysFrom_6 ?_
    refine G.n_lt X (a := 4) (b := 7) (by omega) (by omega) dX1_waysFrom_8 (fun h8 => ?_) (fun h8 => absurd h8 (by omega))
    refine G.al X dX1_waysFrom_26 0 rfl ?_
    refine G.il X dX1_waysFrom_27 1 rfl ?_
    refine G.pu X dX1_waysFrom_28 ?_
    refine G.nadd X (a := 4) (b := 1) dX1_waysFrom_29 ?_
    refine G.rld X (i := 5) (b := w 5 0) dX1_waysFrom_30 0 1 rfl rfl (by omega) (by decide) rfl ?_
    refine G.as X dX1_waysFrom_31 (by decide) (lv' := [(4, .ref (w 5 0)), (0, .ref (o 1)), (1, .int (nI 4)), (2, .int (nI n)), (3, .int t)]) rfl ?_
    refine G.al X dX1_waysFrom_33 0 rfl ?_
    refine G.al X dX1_waysFrom_35 1 rfl ?_
    refine G.il X dX1_waysFrom_36 2 rfl ?_
    refine G.rld X (i := 4) (b := w 4 0) dX1_waysFrom_37 0 1 rfl rfl (by omega) (by decide) rfl ?_
    refine G.cvv X kX5_becomes lX1_32 dX1_waysFrom_38 (tX5_becomes l D cI cW (w 5) S5 (w 4) S4) ⟨Nat.le_of_ble_eq_true rfl, Nat.le_of_ble_eq_true rfl⟩ ⟨Nat.zero_le _, Nat.zero_le _⟩ [2, 1] rfl ⟨rfl, rfl⟩ rfl rfl 2 0 rfl rfl rfl rfl (Nat.le_of_ble_eq_true rfl) (ff_cons (wl_fst _ _ _ _) (ff_cons (wl_fst _ _ _ _) (ff_nil))) (ws' := [cl o b w cW q, wl (w 4) cI S4, wl (w 5) cI S4, wl (w 6) cI S6, wl (w 7) cI S7]) rfl ?_
    refine G.al X dX1_waysFrom_41 0 rfl ?_
    refine G.pu X dX1_waysFrom_43 ?_
    refine G.cvv X kX5_passDay lX1_44 dX1_waysFrom_44 (tX5_passDay_cold l D cI cW (w 5) S4 hS) ⟨Nat.le_of_ble_eq_true rfl, Nat.le_of_ble_eq_true rfl⟩ ⟨Nat.zero_le _, Nat.zero_le _⟩ [2] rfl ⟨rfl, rfl⟩ rfl rfl 2 0 rfl rfl rfl rfl (Nat.le_of_ble_eq_true rfl) (ff_cons (wl_fst _ _ _ _) (ff_nil)) (ws' := [cl o b w cW q, wl (w 4) cI S4, wl (w 5) cI (w_day false S4), wl (w 6) cI S6, wl (w 7) cI S7]) rfl ?_
    refine G.al X dX1_waysFrom_47 1 rfl ?_
    refine G.il X dX1_waysFrom_48 2 rfl ?_
    refine G.pu X dX1_waysFrom_49 ?_
    refine G.nadd X (a := 4) (b := 1) dX1_waysFrom_50 ?_
    refine G.il X dX1_waysFrom_51 3 rfl ?_
    refine G.il X dX1_waysFrom_52 4 rfl ?_
    refine G.cstje X kX1_waysFrom lX1_36 dX1_waysFrom_53 (tX1_waysFrom_5 l D cI cW o b w q (w_day false S4) S6 S7 n t (ok_day hS false) (by omega)) ⟨Nat.le_of_ble_eq_true rfl, Nat.le_of_ble_eq_true rfl⟩ ⟨Nat.zero_le _, Nat.zero_le _⟩ [0, 2, 3, 4] rfl ⟨rfl, rfl⟩ rfl rfl rfl (Nat.le_of_ble_eq_true rfl) (fun _ => (ff_cons (cl_fst _ _ _ _ _ _) (ff_cons (wl_fst _ _ _ _) (ff_cons (wl_fst _ _ _ _) (ff_cons (wl_fst _ _ _ _) (ff_nil)))))) (f8 := fun z9_53 : WS × WS => [cl o b w cW q, wl (w 4) cI S4, wl (w 5) cI (w_day false S4), wl (w 6) cI z9_53.1, wl (w 7) cI z9_53.2]) (fun _ => rfl) (fun z9_53 => ?_)
    refine G.ls X dX1_waysFrom_56 (by decide) (lv' := [(5, .long (w_ways (Int32.toInt64 (t - 1)) (n - 5) (w_day false S4))), (4, .ref (w 5 0)), (0, .ref (o 1)), (1, .int (nI 4)), (2, .int (nI n)), (3, .int t)]) rfl ?_
    refine G.al X dX1_waysFrom_58 1 rfl ?_
    refine G.al X dX1_waysFrom_60 2 rfl ?_
    refine G.il X dX1_waysFrom_61 3 rfl ?_
    refine G.rld X (i := 4) (b := w 4 0) dX1_waysFrom_62 0 1 rfl rfl (by omega) (by decide) rfl ?_
    refine G.cvv X kX5_becomes lX1_32 dX1_waysFrom_63 (tX5_becomes l D cI cW (w 5) (w_day false S4) (w 4) S4) ⟨Nat.le_of_ble_eq_true rfl, Nat.le_of_ble_eq_true rfl⟩ ⟨Nat.zero_le _, Nat.zero_le _⟩ [2, 1] rfl ⟨rfl, rfl⟩ rfl rfl 2 0 rfl rfl rfl rfl (Nat.le_of_ble_eq_true rfl) (ff_cons (wl_fst _ _ _ _) (ff_cons (wl_fst _ _ _ _) (ff_nil))) (ws' := [cl o b w cW q, wl (w 4) cI S4, wl (w 5) cI S4, wl (w 6) cI z9_53.1, wl (w 7) cI z9_53.2]) rfl ?_
    refine G.al X dX1_waysFrom_66 1 rfl ?_
    refine G.pu X dX1_waysFrom_68 ?_
    refine G.cvv X kX5_passDay lX1_44 dX1_waysFrom_69 (tX5_passDay l D cI cW (w 5) S4 hS) ⟨Nat.le_of_ble_eq_true rfl, Nat.le_of_ble_eq_true rfl⟩ ⟨Nat.zero_le _, Nat.zero_le _⟩ [2] rfl ⟨rfl, rfl⟩ rfl rfl 2 0 rfl rfl rfl rfl (Nat.le_of_ble_eq_true rfl) (ff_cons (wl_fst _ _ _ _) (ff_nil)) (ws' := [cl o b w cW q, wl (w 4) cI S4, wl (w 5) cI (w_day true S4), wl (w 6) cI z9_53.1, wl (w 7) cI z9_53.2]) rfl ?_
    refine G.ll X dX1_waysFrom_72 0 rfl ?_
    refine G.il X dX1_waysFrom_74 5 rfl ?_
    refine G.pu X dX1_waysFrom_75 ?_
    refine G.isub X dX1_waysFrom_76 ?_
    refine G.i2l X dX1_waysFrom_77 ?_
    refine G.al X dX1_waysFrom_78 2 rfl ?_
    refine G.il X dX1_waysFrom_79 3 rfl ?_
    refine G.pu X dX1_waysFrom_80 ?_
    refine G.nadd X (a := 4) (b := 1) dX1_waysFrom_81 ?_
    refine G.il X dX1_waysFrom_82 4 rfl ?_
    refine G.il X dX1_waysFrom_83 5 rfl ?_
    refine G.cstje X kX1_waysFrom lX1_36 dX1_waysFrom_84 (tX1_waysFrom_5 l D cI cW o b w q (w_day true S4) z9_53.1 z9_53.2 n t (ok_day hS true) (by omega)) ⟨Nat.le_of_ble_eq_true rfl, Nat.le_of_ble_eq_true rfl⟩ ⟨Nat.zero_le _, Nat.zero_le _⟩ [0, 2, 3, 4] rfl ⟨rfl, rfl⟩ rfl rfl rfl (Nat.le_of_ble_eq_true rfl) (fun _ => (ff_cons (cl_fst _ _ _ _ _ _) (ff_cons (wl_fst _ _ _ _) (ff_cons (wl_fst _ _ _ _) (ff_cons (wl_fst _ _ _ _) (ff_nil)))))) (f8 := fun z9_84 : WS × WS => [cl o b w cW q, wl (w 4) cI S4, wl (w 5) cI (w_day true S4), wl (w 6) cI z9_84.1, wl (w 7) cI z9_84.2]) (fun _ => rfl) (fun z9_84 => ?_)
    refine G.lmul X dX1_waysFrom_87 ?_
    refine G.ladd X dX1_waysFrom_88 ?_
    exact G.lret X Rr dX1_waysFrom_89 (pje_mk ((w_day true S4, z9_84.1, z9_84.2)) (by rw [show n - 4 = (n - 5) + 1 by omega]; rfl) (by rfl))

set_option maxRecDepth 20000 in
theorem tX1_waysFrom_3 (l : Launch) (D : va_G) (cI cW : ClassId) (o : Nat → Nat) (b : Nat → Nat) (w : Nat → Nat → Nat) (q : Int32 × Int32 × Int32) (S3 : WS) (S4 : WS) (S5 : WS) (S6 : WS) (S7 : WS) (n : Nat) (t : Int32) (hS : Ok S3) (hn : n ≤ 7) : CT l D cI cW yX1_waysFrom cX1_waysFrom 7 (some .long) ⟨6, 0, 0, 159⟩ [.ref (o 1), .int (nI 3), .int (nI n), .int t] ([cl o b w cW q, wl (w 3) cI S3, wl (w 4) cI S4, wl (w 5) cI S5, wl (w 6) cI S6, wl (w 7) cI S7]) (PJE (w_ways (Int32.toInt64 (t - 1)) (n - 3) S3) (fun z9 : WS × WS × WS × WS => [cl o b w cW q, wl (w 3) cI S3, wl (w 4) cI z9.1, wl (w 5) cI z9.2.1, wl (w 6) cI z9.2.2.1, wl (w 7) cI z9.2.2.2])) := by
  refine CT.of RX1 rfl (by decide +kernel) (Nat.le_of_ble_eq_true rfl) [(0, .ref (o 1)), (1, .int (nI 3)), (2, .int (nI n)), (3, .int t)] rfl (fun x X Rr hnm => ?_)
  have hth := hS.th
  refine G.il X dX1_waysFrom_0 1 rfl ?_
  refine G.il X dX1_waysFrom_1 2 rfl ?_
  refine G.n_ge X (a := 3) (b := n) (by omega) (by omega) dX1_waysFrom_2 (fun h2 => ?_) (fun h2 => ?_)
  · refine G.al X dX1_waysFrom_11 0 rfl ?_
    refine G.il X dX1_waysFrom_12 1 rfl ?_
    refine G.rld X (i := 3) (b := w 3 0) dX1_waysFrom_13 0 1 rfl rfl (by omega) (by decide) rfl ?_
    refine G.cvi X kX5_hasWater lX1_40 dX1_waysFrom_14 (tX5_hasWater l D cI cW (w 3) S3 (by omega)) ⟨Nat.le_of_ble_eq_true rfl, Nat.le_of_ble_eq_true rfl⟩ ⟨Nat.zero_le _, Nat.zero_le _⟩ [1] rfl ⟨rfl, rfl⟩ rfl rfl 1 0 rfl rfl rfl rfl (Nat.le_of_ble_eq_true rfl) (ff_cons (wl_fst _ _ _ _) (ff_nil)) (ws' := [cl o b w cW q, wl (w 3) cI S3, wl (w 4) cI S4, wl (w 5) cI S5, wl (w 6) cI S6, wl (w 7) cI S7]) rfl ?_
    refine G.b_eq X dX1_waysFrom_17 (fun h17 => ?_) (fun h17 => ?_)
    · refine G.lc X dX1_waysFrom_24 (v := 0) rfl ?_
      exact G.lret X Rr dX1_waysFrom_25 (pje_mk ((S4, S5, S6, S7)) (by rw [show n - 3 = 0 by omega]; simp [w_ways, h2, h17]) (by rfl))
    · refine G.lc X dX1_waysFrom_20 (v := 1) rfl ?_
      refine G.go X dX1_waysFrom_21 ?_
      exact G.lret X Rr dX1_waysFrom_25 (pje_mk ((S4, S5, S6, S7)) (by rw [show n - 3 = 0 by omega]; simp [w_ways, h2, h17]) (by rfl))
  · refine G.il X dX1_waysFrom_5 1 rfl ?_
    refine G.pu X dX1_waysFrom_6 ?_
    refine G.n_lt X (a := 3) (b := 7) (by omega) (by omega) dX1_waysFrom_8 (fun h8 => ?_) (fun h8 => absurd h8 (by omega))
    refine G.al X dX1_waysFrom_26 0 rfl ?_
    refine G.il X dX1_waysFrom_27 1 rfl ?_
    refine G.pu X dX1_waysFrom_28 ?_
    refine G.nadd X (a := 3) (b := 1) dX1_waysFrom_29 ?_
    refine G.rld X (i := 4) (b := w 4 0) dX1_waysFrom_30 0 1 rfl rfl (by omega) (by decide) rfl ?_
    refine G.as X dX1_waysFrom_31 (by decide) (lv' := [(4, .ref (w 4 0)), (0, .ref (o 1)), (1, .int (nI 3)), (2, .int (nI n)), (3, .int t)]) rfl ?_
    refine G.al X dX1_waysFrom_33 0 rfl ?_
    refine G.al X dX1_waysFrom_35 1 rfl ?_
    refine G.il X dX1_waysFrom_36 2 rfl ?_
    refine G.rld X (i := 3) (b := w 3 0) dX1_waysFrom_37 0 1 rfl rfl (by omega) (by decide) rfl ?_
    refine G.cvv X kX5_becomes lX1_32 dX1_waysFrom_38 (tX5_becomes l D cI cW (w 4) S4 (w 3) S3) ⟨Nat.le_of_ble_eq_true rfl, Nat.le_of_ble_eq_true rfl⟩ ⟨Nat.zero_le _, Nat.zero_le _⟩ [2, 1] rfl ⟨rfl, rfl⟩ rfl rfl 2 0 rfl rfl rfl rfl (Nat.le_of_ble_eq_true rfl) (ff_cons (wl_fst _ _ _ _) (ff_cons (wl_fst _ _ _ _) (ff_nil))) (ws' := [cl o b w cW q, wl (w 3) cI S3, wl (w 4) cI S3, wl (w 5) cI S5, wl (w 6) cI S6, wl (w 7) cI S7]) rfl ?_
    refine G.al X dX1_waysFrom_41 0 rfl ?_
    refine G.pu X dX1_waysFrom_43 ?_
    refine G.cvv X kX5_passDay lX1_44 dX1_waysFrom_44 (tX5_passDay_cold l D cI cW (w 4) S3 hS) ⟨Nat.le_of_ble_eq_true rfl, Nat.le_of_ble_eq_true rfl⟩ ⟨Nat.zero_le _, Nat.zero_le _⟩ [2] rfl ⟨rfl, rfl⟩ rfl rfl 2 0 rfl rfl rfl rfl (Nat.le_of_ble_eq_true rfl) (ff_cons (wl_fst _ _ _ _) (ff_nil)) (ws' := [cl o b w cW q, wl (w 3) cI S3, wl (w 4) cI (w_day false S3), wl (w 5) cI S5, wl (w 6) cI S6, wl (w 7) cI S7]) rfl ?_
    refine G.al X dX1_waysFrom_47 1 rfl ?_
    refine G.il X dX1_waysFrom_48 2 rfl ?_
    refine G.pu X dX1_waysFrom_49 ?_
    refine G.nadd X (a := 3) (b := 1) dX1_waysFrom_50 ?_
    refine G.il X dX1_waysFrom_51 3 rfl ?_
    refine G.il X dX1_waysFrom_52 4 rfl ?_
    refine G.cstje X kX1_waysFrom lX1_36 dX1_waysFrom_53 (tX1_waysFrom_4 l D cI cW o b w q (w_day false S3) S5 S6 S7 n t (ok_day hS false) (by omega)) ⟨Nat.le_of_ble_eq_true rfl, Nat.le_of_ble_eq_true rfl⟩ ⟨Nat.zero_le _, Nat.zero_le _⟩ [0, 2, 3, 4, 5] rfl ⟨rfl, rfl⟩ rfl rfl rfl (Nat.le_of_ble_eq_true rfl) (fun _ => (ff_cons (cl_fst _ _ _ _ _ _) (ff_cons (wl_fst _ _ _ _) (ff_cons (wl_fst _ _ _ _) (ff_cons (wl_fst _ _ _ _) (ff_cons (wl_fst _ _ _ _) (ff_nil))))))) (f8 := fun z9_53 : WS × WS × WS => [cl o b w cW q, wl (w 3) cI S3, wl (w 4) cI (w_day false S3), wl (w 5) cI z9_53.1, wl (w 6) cI z9_53.2.1, wl (w 7) cI z9_53.2.2]) (fun _ => rfl) (fun z9_53 => ?_)
    refine G.ls X dX1_waysFrom_56 (by decide) (lv' := [(5, .long (w_ways (Int32.toInt64 (t - 1)) (n - 4) (w_day false S3))), (4, .ref (w 4 0)), (0, .ref (o 1)), (1, .int (nI 3)), (2, .int (nI n)), (3, .int t)]) rfl ?_
    refine G.al X dX1_waysFrom_58 1 rfl ?_
    refine G.al X dX1_waysFrom_60 2 rfl ?_
    refine G.il X dX1_waysFrom_61 3 rfl ?_
    refine G.rld X (i := 3) (b := w 3 0) dX1_waysFrom_62 0 1 rfl rfl (by omega) (by decide) rfl ?_
    refine G.cvv X kX5_becomes lX1_32 dX1_waysFrom_63 (tX5_becomes l D cI cW (w 4) (w_day false S3) (w 3) S3) ⟨Nat.le_of_ble_eq_true rfl, Nat.le_of_ble_eq_true rfl⟩ ⟨Nat.zero_le _, Nat.zero_le _⟩ [2, 1] rfl ⟨rfl, rfl⟩ rfl rfl 2 0 rfl rfl rfl rfl (Nat.le_of_ble_eq_true rfl) (ff_cons (wl_fst _ _ _ _) (ff_cons (wl_fst _ _ _ _) (ff_nil))) (ws' := [cl o b w cW q, wl (w 3) cI S3, wl (w 4) cI S3, wl (w 5) cI z9_53.1, wl (w 6) cI z9_53.2.1, wl (w 7) cI z9_53.2.2]) rfl ?_
    refine G.al X dX1_waysFrom_66 1 rfl ?_
    refine G.pu X dX1_waysFrom_68 ?_
    refine G.cvv X kX5_passDay lX1_44 dX1_waysFrom_69 (tX5_passDay l D cI cW (w 4) S3 hS) ⟨Nat.le_of_ble_eq_true rfl, Nat.le_of_ble_eq_true rfl⟩ ⟨Nat.zero_le _, Nat.zero_le _⟩ [2] rfl ⟨rfl, rfl⟩ rfl rfl 2 0 rfl rfl rfl rfl (Nat.le_of_ble_eq_true rfl) (ff_cons (wl_fst _ _ _ _) (ff_nil)) (ws' := [cl o b w cW q, wl (w 3) cI S3, wl (w 4) cI (w_day true S3), wl (w 5) cI z9_53.1, wl (w 6) cI z9_53.2.1, wl (w 7) cI z9_53.2.2]) rfl ?_
    refine G.ll X dX1_waysFrom_72 0 rfl ?_
    refine G.il X dX1_waysFrom_74 5 rfl ?_
    refine G.pu X dX1_waysFrom_75 ?_
    refine G.isub X dX1_waysFrom_76 ?_
    refine G.i2l X dX1_waysFrom_77 ?_
    refine G.al X dX1_waysFrom_78 2 rfl ?_
    refine G.il X dX1_waysFrom_79 3 rfl ?_
    refine G.pu X dX1_waysFrom_80 ?_
    refine G.nadd X (a := 3) (b := 1) dX1_waysFrom_81 ?_
    refine G.il X dX1_waysFrom_82 4 rfl ?_
    refine G.il X dX1_waysFrom_83 5 rfl ?_
    refine G.cstje X kX1_waysFrom lX1_36 dX1_waysFrom_84 (tX1_waysFrom_4 l D cI cW o b w q (w_day true S3) z9_53.1 z9_53.2.1 z9_53.2.2 n t (ok_day hS true) (by omega)) ⟨Nat.le_of_ble_eq_true rfl, Nat.le_of_ble_eq_true rfl⟩ ⟨Nat.zero_le _, Nat.zero_le _⟩ [0, 2, 3, 4, 5] rfl ⟨rfl, rfl⟩ rfl rfl rfl (Nat.le_of_ble_eq_true rfl) (fun _ => (ff_cons (cl_fst _ _ _ _ _ _) (ff_cons (wl_fst _ _ _ _) (ff_cons (wl_fst _ _ _ _) (ff_cons (wl_fst _ _ _ _) (ff_cons (wl_fst _ _ _ _) (ff_nil))))))) (f8 := fun z9_84 : WS × WS × WS => [cl o b w cW q, wl (w 3) cI S3, wl (w 4) cI (w_day true S3), wl (w 5) cI z9_84.1, wl (w 6) cI z9_84.2.1, wl (w 7) cI z9_84.2.2]) (fun _ => rfl) (fun z9_84 => ?_)
    refine G.lmul X dX1_waysFrom_87 ?_
    refine G.ladd X dX1_waysFrom_88 ?_
    exact G.lret X Rr dX1_waysFrom_89 (pje_mk ((w_day true S3, z9_84.1, z9_84.2.1, z9_84.2.2)) (by rw [show n - 3 = (n - 4) + 1 by omega]; rfl) (by rfl))

set_option maxRecDepth 20000 in
theorem tX1_waysFrom_2 (l : Launch) (D : va_G) (cI cW : ClassId) (o : Nat → Nat) (b : Nat → Nat) (w : Nat → Nat → Nat) (q : Int32 × Int32 × Int32) (S2 : WS) (S3 : WS) (S4 : WS) (S5 : WS) (S6 : WS) (S7 : WS) (n : Nat) (t : Int32) (hS : Ok S2) (hn : n ≤ 7) : CT l D cI cW yX1_waysFrom cX1_waysFrom 7 (some .long) ⟨7, 0, 0, 185⟩ [.ref (o 1), .int (nI 2), .int (nI n), .int t] ([cl o b w cW q, wl (w 2) cI S2, wl (w 3) cI S3, wl (w 4) cI S4, wl (w 5) cI S5, wl (w 6) cI S6, wl (w 7) cI S7]) (PJE (w_ways (Int32.toInt64 (t - 1)) (n - 2) S2) (fun z9 : WS × WS × WS × WS × WS => [cl o b w cW q, wl (w 2) cI S2, wl (w 3) cI z9.1, wl (w 4) cI z9.2.1, wl (w 5) cI z9.2.2.1, wl (w 6) cI z9.2.2.2.1, wl (w 7) cI z9.2.2.2.2])) := by
  refine CT.of RX1 rfl (by decide +kernel) (Nat.le_of_ble_eq_true rfl) [(0, .ref (o 1)), (1, .int (nI 2)), (2, .int (nI n)), (3, .int t)] rfl (fun x X Rr hnm => ?_)
  have hth := hS.th
  refine G.il X dX1_waysFrom_0 1 rfl ?_
  refine G.il X dX1_waysFrom_1 2 rfl ?_
  refine G.n_ge X (a := 2) (b := n) (by omega) (by omega) dX1_waysFrom_2 (fun h2 => ?_) (fun h2 => ?_)
  · refine G.al X dX1_waysFrom_11 0 rfl ?_
    refine G.il X dX1_waysFrom_12 1 rfl ?_
    refine G.rld X (i := 2) (b := w 2 0) dX1_waysFrom_13 0 1 rfl rfl (by omega) (by decide) rfl ?_
    refine G.cvi X kX5_hasWater lX1_40 dX1_waysFrom_14 (tX5_hasWater l D cI cW (w 2) S2 (by omega)) ⟨Nat.le_of_ble_eq_true rfl, Nat.le_of_ble_eq_true rfl⟩ ⟨Nat.zero_le _, Nat.zero_le _⟩ [1] rfl ⟨rfl, rfl⟩ rfl rfl 1 0 rfl rfl rfl rfl (Nat.le_of_ble_eq_true rfl) (ff_cons (wl_fst _ _ _ _) (ff_nil)) (ws' := [cl o b w cW q, wl (w 2) cI S2, wl (w 3) cI S3, wl (w 4) cI S4, wl (w 5) cI S5, wl (w 6) cI S6, wl (w 7) cI S7]) rfl ?_
    refine G.b_eq X dX1_waysFrom_17 (fun h17 => ?_) (fun h17 => ?_)
    · refine G.lc X dX1_waysFrom_24 (v := 0) rfl ?_
      exact G.lret X Rr dX1_waysFrom_25 (pje_mk ((S3, S4, S5, S6, S7)) (by rw [show n - 2 = 0 by omega]; simp [w_ways, h2, h17]) (by rfl))
    · refine G.lc X dX1_waysFrom_20 (v := 1) rfl ?_
      refine G.go X dX1_waysFrom_21 ?_
      exact G.lret X Rr dX1_waysFrom_25 (pje_mk ((S3, S4, S5, S6, S7)) (by rw [show n - 2 = 0 by omega]; simp [w_ways, h2, h17]) (by rfl))
  · refine G.il X dX1_waysFrom_5 1 rfl ?_
    refine G.pu X dX1_waysFrom_6 ?_
    refine G.n_lt X (a := 2) (b := 7) (by omega) (by omega) dX1_waysFrom_8 (fun h8 => ?_) (fun h8 => absurd h8 (by omega))
    refine G.al X dX1_waysFrom_26 0 rfl ?_
    refine G.il X dX1_waysFrom_27 1 rfl ?_
    refine G.pu X dX1_waysFrom_28 ?_
    refine G.nadd X (a := 2) (b := 1) dX1_waysFrom_29 ?_
    refine G.rld X (i := 3) (b := w 3 0) dX1_waysFrom_30 0 1 rfl rfl (by omega) (by decide) rfl ?_
    refine G.as X dX1_waysFrom_31 (by decide) (lv' := [(4, .ref (w 3 0)), (0, .ref (o 1)), (1, .int (nI 2)), (2, .int (nI n)), (3, .int t)]) rfl ?_
    refine G.al X dX1_waysFrom_33 0 rfl ?_
    refine G.al X dX1_waysFrom_35 1 rfl ?_
    refine G.il X dX1_waysFrom_36 2 rfl ?_
    refine G.rld X (i := 2) (b := w 2 0) dX1_waysFrom_37 0 1 rfl rfl (by omega) (by decide) rfl ?_
    refine G.cvv X kX5_becomes lX1_32 dX1_waysFrom_38 (tX5_becomes l D cI cW (w 3) S3 (w 2) S2) ⟨Nat.le_of_ble_eq_true rfl, Nat.le_of_ble_eq_true rfl⟩ ⟨Nat.zero_le _, Nat.zero_le _⟩ [2, 1] rfl ⟨rfl, rfl⟩ rfl rfl 2 0 rfl rfl rfl rfl (Nat.le_of_ble_eq_true rfl) (ff_cons (wl_fst _ _ _ _) (ff_cons (wl_fst _ _ _ _) (ff_nil))) (ws' := [cl o b w cW q, wl (w 2) cI S2, wl (w 3) cI S2, wl (w 4) cI S4, wl (w 5) cI S5, wl (w 6) cI S6, wl (w 7) cI S7]) rfl ?_
    refine G.al X dX1_waysFrom_41 0 rfl ?_
    refine G.pu X dX1_waysFrom_43 ?_
    refine G.cvv X kX5_passDay lX1_44 dX1_waysFrom_44 (tX5_passDay_cold l D cI cW (w 3) S2 hS) ⟨Nat.le_of_ble_eq_true rfl, Nat.le_of_ble_eq_true rfl⟩ ⟨Nat.zero_le _, Nat.zero_le _⟩ [2] rfl ⟨rfl, rfl⟩ rfl rfl 2 0 rfl rfl rfl rfl (Nat.le_of_ble_eq_true rfl) (ff_cons (wl_fst _ _ _ _) (ff_nil)) (ws' := [cl o b w cW q, wl (w 2) cI S2, wl (w 3) cI (w_day false S2), wl (w 4) cI S4, wl (w 5) cI S5, wl (w 6) cI S6, wl (w 7) cI S7]) rfl ?_
    refine G.al X dX1_waysFrom_47 1 rfl ?_
    refine G.il X dX1_waysFrom_48 2 rfl ?_
    refine G.pu X dX1_waysFrom_49 ?_
    refine G.nadd X (a := 2) (b := 1) dX1_waysFrom_50 ?_
    refine G.il X dX1_waysFrom_51 3 rfl ?_
    refine G.il X dX1_waysFrom_52 4 rfl ?_
    refine G.cstje X kX1_waysFrom lX1_36 dX1_waysFrom_53 (tX1_waysFrom_3 l D cI cW o b w q (w_day false S2) S4 S5 S6 S7 n t (ok_day hS false) (by omega)) ⟨Nat.le_of_ble_eq_true rfl, Nat.le_of_ble_eq_true rfl⟩ ⟨Nat.zero_le _, Nat.zero_le _⟩ [0, 2, 3, 4, 5, 6] rfl ⟨rfl, rfl⟩ rfl rfl rfl (Nat.le_of_ble_eq_true rfl) (fun _ => (ff_cons (cl_fst _ _ _ _ _ _) (ff_cons (wl_fst _ _ _ _) (ff_cons (wl_fst _ _ _ _) (ff_cons (wl_fst _ _ _ _) (ff_cons (wl_fst _ _ _ _) (ff_cons (wl_fst _ _ _ _) (ff_nil)))))))) (f8 := fun z9_53 : WS × WS × WS × WS => [cl o b w cW q, wl (w 2) cI S2, wl (w 3) cI (w_day false S2), wl (w 4) cI z9_53.1, wl (w 5) cI z9_53.2.1, wl (w 6) cI z9_53.2.2.1, wl (w 7) cI z9_53.2.2.2]) (fun _ => rfl) (fun z9_53 => ?_)
    refine G.ls X dX1_waysFrom_56 (by decide) (lv' := [(5, .long (w_ways (Int32.toInt64 (t - 1)) (n - 3) (w_day false S2))), (4, .ref (w 3 0)), (0, .ref (o 1)), (1, .int (nI 2)), (2, .int (nI n)), (3, .int t)]) rfl ?_
    refine G.al X dX1_waysFrom_58 1 rfl ?_
    refine G.al X dX1_waysFrom_60 2 rfl ?_
    refine G.il X dX1_waysFrom_61 3 rfl ?_
    refine G.rld X (i := 2) (b := w 2 0) dX1_waysFrom_62 0 1 rfl rfl (by omega) (by decide) rfl ?_
    refine G.cvv X kX5_becomes lX1_32 dX1_waysFrom_63 (tX5_becomes l D cI cW (w 3) (w_day false S2) (w 2) S2) ⟨Nat.le_of_ble_eq_true rfl, Nat.le_of_ble_eq_true rfl⟩ ⟨Nat.zero_le _, Nat.zero_le _⟩ [2, 1] rfl ⟨rfl, rfl⟩ rfl rfl 2 0 rfl rfl rfl rfl (Nat.le_of_ble_eq_true rfl) (ff_cons (wl_fst _ _ _ _) (ff_cons (wl_fst _ _ _ _) (ff_nil))) (ws' := [cl o b w cW q, wl (w 2) cI S2, wl (w 3) cI S2, wl (w 4) cI z9_53.1, wl (w 5) cI z9_53.2.1, wl (w 6) cI z9_53.2.2.1, wl (w 7) cI z9_53.2.2.2]) rfl ?_
    refine G.al X dX1_waysFrom_66 1 rfl ?_
    refine G.pu X dX1_waysFrom_68 ?_
    refine G.cvv X kX5_passDay lX1_44 dX1_waysFrom_69 (tX5_passDay l D cI cW (w 3) S2 hS) ⟨Nat.le_of_ble_eq_true rfl, Nat.le_of_ble_eq_true rfl⟩ ⟨Nat.zero_le _, Nat.zero_le _⟩ [2] rfl ⟨rfl, rfl⟩ rfl rfl 2 0 rfl rfl rfl rfl (Nat.le_of_ble_eq_true rfl) (ff_cons (wl_fst _ _ _ _) (ff_nil)) (ws' := [cl o b w cW q, wl (w 2) cI S2, wl (w 3) cI (w_day true S2), wl (w 4) cI z9_53.1, wl (w 5) cI z9_53.2.1, wl (w 6) cI z9_53.2.2.1, wl (w 7) cI z9_53.2.2.2]) rfl ?_
    refine G.ll X dX1_waysFrom_72 0 rfl ?_
    refine G.il X dX1_waysFrom_74 5 rfl ?_
    refine G.pu X dX1_waysFrom_75 ?_
    refine G.isub X dX1_waysFrom_76 ?_
    refine G.i2l X dX1_waysFrom_77 ?_
    refine G.al X dX1_waysFrom_78 2 rfl ?_
    refine G.il X dX1_waysFrom_79 3 rfl ?_
    refine G.pu X dX1_waysFrom_80 ?_
    refine G.nadd X (a := 2) (b := 1) dX1_waysFrom_81 ?_
    refine G.il X dX1_waysFrom_82 4 rfl ?_
    refine G.il X dX1_waysFrom_83 5 rfl ?_
    refine G.cstje X kX1_waysFrom lX1_36 dX1_waysFrom_84 (tX1_waysFrom_3 l D cI cW o b w q (w_day true S2) z9_53.1 z9_53.2.1 z9_53.2.2.1 z9_53.2.2.2 n t (ok_day hS true) (by omega)) ⟨Nat.le_of_ble_eq_true rfl, Nat.le_of_ble_eq_true rfl⟩ ⟨Nat.zero_le _, Nat.zero_le _⟩ [0, 2, 3, 4, 5, 6] rfl ⟨rfl, rfl⟩ rfl rfl rfl (Nat.le_of_ble_eq_true rfl) (fun _ => (ff_cons (cl_fst _ _ _ _ _ _) (ff_cons (wl_fst _ _ _ _) (ff_cons (wl_fst _ _ _ _) (ff_cons (wl_fst _ _ _ _) (ff_cons (wl_fst _ _ _ _) (ff_cons (wl_fst _ _ _ _) (ff_nil)))))))) (f8 := fun z9_84 : WS × WS × WS × WS => [cl o b w cW q, wl (w 2) cI S2, wl (w 3) cI (w_day true S2), wl (w 4) cI z9_84.1, wl (w 5) cI z9_84.2.1, wl (w 6) cI z9_84.2.2.1, wl (w 7) cI z9_84.2.2.2]) (fun _ => rfl) (fun z9_84 => ?_)
    refine G.lmul X dX1_waysFrom_87 ?_
    refine G.ladd X dX1_waysFrom_88 ?_
    exact G.lret X Rr dX1_waysFrom_89 (pje_mk ((w_day true S2, z9_84.1, z9_84.2.1, z9_84.2.2.1, z9_84.2.2.2)) (by rw [show n - 2 = (n - 3) + 1 by omega]; rfl) (by rfl))

set_option maxRecDepth 20000 in
theorem tX1_waysFrom_1 (l : Launch) (D : va_G) (cI cW : ClassId) (o : Nat → Nat) (b : Nat → Nat) (w : Nat → Nat → Nat) (q : Int32 × Int32 × Int32) (S1 : WS) (S2 : WS) (S3 : WS) (S4 : WS) (S5 : WS) (S6 : WS) (S7 : WS) (n : Nat) (t : Int32) (hS : Ok S1) (hn : n ≤ 7) : CT l D cI cW yX1_waysFrom cX1_waysFrom 7 (some .long) ⟨8, 0, 0, 211⟩ [.ref (o 1), .int (nI 1), .int (nI n), .int t] ([cl o b w cW q, wl (w 1) cI S1, wl (w 2) cI S2, wl (w 3) cI S3, wl (w 4) cI S4, wl (w 5) cI S5, wl (w 6) cI S6, wl (w 7) cI S7]) (PJE (w_ways (Int32.toInt64 (t - 1)) (n - 1) S1) (fun z9 : WS × WS × WS × WS × WS × WS => [cl o b w cW q, wl (w 1) cI S1, wl (w 2) cI z9.1, wl (w 3) cI z9.2.1, wl (w 4) cI z9.2.2.1, wl (w 5) cI z9.2.2.2.1, wl (w 6) cI z9.2.2.2.2.1, wl (w 7) cI z9.2.2.2.2.2])) := by
  refine CT.of RX1 rfl (by decide +kernel) (Nat.le_of_ble_eq_true rfl) [(0, .ref (o 1)), (1, .int (nI 1)), (2, .int (nI n)), (3, .int t)] rfl (fun x X Rr hnm => ?_)
  have hth := hS.th
  refine G.il X dX1_waysFrom_0 1 rfl ?_
  refine G.il X dX1_waysFrom_1 2 rfl ?_
  refine G.n_ge X (a := 1) (b := n) (by omega) (by omega) dX1_waysFrom_2 (fun h2 => ?_) (fun h2 => ?_)
  · refine G.al X dX1_waysFrom_11 0 rfl ?_
    refine G.il X dX1_waysFrom_12 1 rfl ?_
    refine G.rld X (i := 1) (b := w 1 0) dX1_waysFrom_13 0 1 rfl rfl (by omega) (by decide) rfl ?_
    refine G.cvi X kX5_hasWater lX1_40 dX1_waysFrom_14 (tX5_hasWater l D cI cW (w 1) S1 (by omega)) ⟨Nat.le_of_ble_eq_true rfl, Nat.le_of_ble_eq_true rfl⟩ ⟨Nat.zero_le _, Nat.zero_le _⟩ [1] rfl ⟨rfl, rfl⟩ rfl rfl 1 0 rfl rfl rfl rfl (Nat.le_of_ble_eq_true rfl) (ff_cons (wl_fst _ _ _ _) (ff_nil)) (ws' := [cl o b w cW q, wl (w 1) cI S1, wl (w 2) cI S2, wl (w 3) cI S3, wl (w 4) cI S4, wl (w 5) cI S5, wl (w 6) cI S6, wl (w 7) cI S7]) rfl ?_
    refine G.b_eq X dX1_waysFrom_17 (fun h17 => ?_) (fun h17 => ?_)
    · refine G.lc X dX1_waysFrom_24 (v := 0) rfl ?_
      exact G.lret X Rr dX1_waysFrom_25 (pje_mk ((S2, S3, S4, S5, S6, S7)) (by rw [show n - 1 = 0 by omega]; simp [w_ways, h2, h17]) (by rfl))
    · refine G.lc X dX1_waysFrom_20 (v := 1) rfl ?_
      refine G.go X dX1_waysFrom_21 ?_
      exact G.lret X Rr dX1_waysFrom_25 (pje_mk ((S2, S3, S4, S5, S6, S7)) (by rw [show n - 1 = 0 by omega]; simp [w_ways, h2, h17]) (by rfl))
  · refine G.il X dX1_waysFrom_5 1 rfl ?_
    refine G.pu X dX1_waysFrom_6 ?_
    refine G.n_lt X (a := 1) (b := 7) (by omega) (by omega) dX1_waysFrom_8 (fun h8 => ?_) (fun h8 => absurd h8 (by omega))
    refine G.al X dX1_waysFrom_26 0 rfl ?_
    refine G.il X dX1_waysFrom_27 1 rfl ?_
    refine G.pu X dX1_waysFrom_28 ?_
    refine G.nadd X (a := 1) (b := 1) dX1_waysFrom_29 ?_
    refine G.rld X (i := 2) (b := w 2 0) dX1_waysFrom_30 0 1 rfl rfl (by omega) (by decide) rfl ?_
    refine G.as X dX1_waysFrom_31 (by decide) (lv' := [(4, .ref (w 2 0)), (0, .ref (o 1)), (1, .int (nI 1)), (2, .int (nI n)), (3, .int t)]) rfl ?_
    refine G.al X dX1_waysFrom_33 0 rfl ?_
    refine G.al X dX1_waysFrom_35 1 rfl ?_
    refine G.il X dX1_waysFrom_36 2 rfl ?_
    refine G.rld X (i := 1) (b := w 1 0) dX1_waysFrom_37 0 1 rfl rfl (by omega) (by decide) rfl ?_
    refine G.cvv X kX5_becomes lX1_32 dX1_waysFrom_38 (tX5_becomes l D cI cW (w 2) S2 (w 1) S1) ⟨Nat.le_of_ble_eq_true rfl, Nat.le_of_ble_eq_true rfl⟩ ⟨Nat.zero_le _, Nat.zero_le _⟩ [2, 1] rfl ⟨rfl, rfl⟩ rfl rfl 2 0 rfl rfl rfl rfl (Nat.le_of_ble_eq_true rfl) (ff_cons (wl_fst _ _ _ _) (ff_cons (wl_fst _ _ _ _) (ff_nil))) (ws' := [cl o b w cW q, wl (w 1) cI S1, wl (w 2) cI S1, wl (w 3) cI S3, wl (w 4) cI S4, wl (w 5) cI S5, wl (w 6) cI S6, wl (w 7) cI S7]) rfl ?_
    refine G.al X dX1_waysFrom_41 0 rfl ?_
    refine G.pu X dX1_waysFrom_43 ?_
    refine G.cvv X kX5_passDay lX1_44 dX1_waysFrom_44 (tX5_passDay_cold l D cI cW (w 2) S1 hS) ⟨Nat.le_of_ble_eq_true rfl, Nat.le_of_ble_eq_true rfl⟩ ⟨Nat.zero_le _, Nat.zero_le _⟩ [2] rfl ⟨rfl, rfl⟩ rfl rfl 2 0 rfl rfl rfl rfl (Nat.le_of_ble_eq_true rfl) (ff_cons (wl_fst _ _ _ _) (ff_nil)) (ws' := [cl o b w cW q, wl (w 1) cI S1, wl (w 2) cI (w_day false S1), wl (w 3) cI S3, wl (w 4) cI S4, wl (w 5) cI S5, wl (w 6) cI S6, wl (w 7) cI S7]) rfl ?_
    refine G.al X dX1_waysFrom_47 1 rfl ?_
    refine G.il X dX1_waysFrom_48 2 rfl ?_
    refine G.pu X dX1_waysFrom_49 ?_
    refine G.nadd X (a := 1) (b := 1) dX1_waysFrom_50 ?_
    refine G.il X dX1_waysFrom_51 3 rfl ?_
    refine G.il X dX1_waysFrom_52 4 rfl ?_
    refine G.cstje X kX1_waysFrom lX1_36 dX1_waysFrom_53 (tX1_waysFrom_2 l D cI cW o b w q (w_day false S1) S3 S4 S5 S6 S7 n t (ok_day hS false) (by omega)) ⟨Nat.le_of_ble_eq_true rfl, Nat.le_of_ble_eq_true rfl⟩ ⟨Nat.zero_le _, Nat.zero_le _⟩ [0, 2, 3, 4, 5, 6, 7] rfl ⟨rfl, rfl⟩ rfl rfl rfl (Nat.le_of_ble_eq_true rfl) (fun _ => (ff_cons (cl_fst _ _ _ _ _ _) (ff_cons (wl_fst _ _ _ _) (ff_cons (wl_fst _ _ _ _) (ff_cons (wl_fst _ _ _ _) (ff_cons (wl_fst _ _ _ _) (ff_cons (wl_fst _ _ _ _) (ff_cons (wl_fst _ _ _ _) (ff_nil))))))))) (f8 := fun z9_53 : WS × WS × WS × WS × WS => [cl o b w cW q, wl (w 1) cI S1, wl (w 2) cI (w_day false S1), wl (w 3) cI z9_53.1, wl (w 4) cI z9_53.2.1, wl (w 5) cI z9_53.2.2.1, wl (w 6) cI z9_53.2.2.2.1, wl (w 7) cI z9_53.2.2.2.2]) (fun _ => rfl) (fun z9_53 => ?_)
    refine G.ls X dX1_waysFrom_56 (by decide) (lv' := [(5, .long (w_ways (Int32.toInt64 (t - 1)) (n - 2) (w_day false S1))), (4, .ref (w 2 0)), (0, .ref (o 1)), (1, .int (nI 1)), (2, .int (nI n)), (3, .int t)]) rfl ?_
    refine G.al X dX1_waysFrom_58 1 rfl ?_
    refine G.al X dX1_waysFrom_60 2 rfl ?_
    refine G.il X dX1_waysFrom_61 3 rfl ?_
    refine G.rld X (i := 1) (b := w 1 0) dX1_waysFrom_62 0 1 rfl rfl (by omega) (by decide) rfl ?_
    refine G.cvv X kX5_becomes lX1_32 dX1_waysFrom_63 (tX5_becomes l D cI cW (w 2) (w_day false S1) (w 1) S1) ⟨Nat.le_of_ble_eq_true rfl, Nat.le_of_ble_eq_true rfl⟩ ⟨Nat.zero_le _, Nat.zero_le _⟩ [2, 1] rfl ⟨rfl, rfl⟩ rfl rfl 2 0 rfl rfl rfl rfl (Nat.le_of_ble_eq_true rfl) (ff_cons (wl_fst _ _ _ _) (ff_cons (wl_fst _ _ _ _) (ff_nil))) (ws' := [cl o b w cW q, wl (w 1) cI S1, wl (w 2) cI S1, wl (w 3) cI z9_53.1, wl (w 4) cI z9_53.2.1, wl (w 5) cI z9_53.2.2.1, wl (w 6) cI z9_53.2.2.2.1, wl (w 7) cI z9_53.2.2.2.2]) rfl ?_
    refine G.al X dX1_waysFrom_66 1 rfl ?_
    refine G.pu X dX1_waysFrom_68 ?_
    refine G.cvv X kX5_passDay lX1_44 dX1_waysFrom_69 (tX5_passDay l D cI cW (w 2) S1 hS) ⟨Nat.le_of_ble_eq_true rfl, Nat.le_of_ble_eq_true rfl⟩ ⟨Nat.zero_le _, Nat.zero_le _⟩ [2] rfl ⟨rfl, rfl⟩ rfl rfl 2 0 rfl rfl rfl rfl (Nat.le_of_ble_eq_true rfl) (ff_cons (wl_fst _ _ _ _) (ff_nil)) (ws' := [cl o b w cW q, wl (w 1) cI S1, wl (w 2) cI (w_day true S1), wl (w 3) cI z9_53.1, wl (w 4) cI z9_53.2.1, wl (w 5) cI z9_53.2.2.1, wl (w 6) cI z9_53.2.2.2.1, wl (w 7) cI z9_53.2.2.2.2]) rfl ?_
    refine G.ll X dX1_waysFrom_72 0 rfl ?_
    refine G.il X dX1_waysFrom_74 5 rfl ?_
    refine G.pu X dX1_waysFrom_75 ?_
    refine G.isub X dX1_waysFrom_76 ?_
    refine G.i2l X dX1_waysFrom_77 ?_
    refine G.al X dX1_waysFrom_78 2 rfl ?_
    refine G.il X dX1_waysFrom_79 3 rfl ?_
    refine G.pu X dX1_waysFrom_80 ?_
    refine G.nadd X (a := 1) (b := 1) dX1_waysFrom_81 ?_
    refine G.il X dX1_waysFrom_82 4 rfl ?_
    refine G.il X dX1_waysFrom_83 5 rfl ?_
    refine G.cstje X kX1_waysFrom lX1_36 dX1_waysFrom_84 (tX1_waysFrom_2 l D cI cW o b w q (w_day true S1) z9_53.1 z9_53.2.1 z9_53.2.2.1 z9_53.2.2.2.1 z9_53.2.2.2.2 n t (ok_day hS true) (by omega)) ⟨Nat.le_of_ble_eq_true rfl, Nat.le_of_ble_eq_true rfl⟩ ⟨Nat.zero_le _, Nat.zero_le _⟩ [0, 2, 3, 4, 5, 6, 7] rfl ⟨rfl, rfl⟩ rfl rfl rfl (Nat.le_of_ble_eq_true rfl) (fun _ => (ff_cons (cl_fst _ _ _ _ _ _) (ff_cons (wl_fst _ _ _ _) (ff_cons (wl_fst _ _ _ _) (ff_cons (wl_fst _ _ _ _) (ff_cons (wl_fst _ _ _ _) (ff_cons (wl_fst _ _ _ _) (ff_cons (wl_fst _ _ _ _) (ff_nil))))))))) (f8 := fun z9_84 : WS × WS × WS × WS × WS => [cl o b w cW q, wl (w 1) cI S1, wl (w 2) cI (w_day true S1), wl (w 3) cI z9_84.1, wl (w 4) cI z9_84.2.1, wl (w 5) cI z9_84.2.2.1, wl (w 6) cI z9_84.2.2.2.1, wl (w 7) cI z9_84.2.2.2.2]) (fun _ => rfl) (fun z9_84 => ?_)
    refine G.lmul X dX1_waysFrom_87 ?_
    refine G.ladd X dX1_waysFrom_88 ?_
    exact G.lret X Rr dX1_waysFrom_89 (pje_mk ((w_day true S1, z9_84.1, z9_84.2.1, z9_84.2.2.1, z9_84.2.2.2.1, z9_84.2.2.2.2)) (by rw [show n - 1 = (n - 2) + 1 by omega]; rfl) (by rfl))

set_option maxRecDepth 20000 in
theorem tX1_waysFrom_0 (l : Launch) (D : va_G) (cI cW : ClassId) (o : Nat → Nat) (b : Nat → Nat) (w : Nat → Nat → Nat) (q : Int32 × Int32 × Int32) (S0 : WS) (S1 : WS) (S2 : WS) (S3 : WS) (S4 : WS) (S5 : WS) (S6 : WS) (S7 : WS) (n : Nat) (t : Int32) (hS : Ok S0) (hn : n ≤ 7) : CT l D cI cW yX1_waysFrom cX1_waysFrom 7 (some .long) ⟨9, 0, 0, 237⟩ [.ref (o 1), .int (nI 0), .int (nI n), .int t] ([cl o b w cW q, wl (w 0) cI S0, wl (w 1) cI S1, wl (w 2) cI S2, wl (w 3) cI S3, wl (w 4) cI S4, wl (w 5) cI S5, wl (w 6) cI S6, wl (w 7) cI S7]) (PJE (w_ways (Int32.toInt64 (t - 1)) (n - 0) S0) (fun z9 : WS × WS × WS × WS × WS × WS × WS => [cl o b w cW q, wl (w 0) cI S0, wl (w 1) cI z9.1, wl (w 2) cI z9.2.1, wl (w 3) cI z9.2.2.1, wl (w 4) cI z9.2.2.2.1, wl (w 5) cI z9.2.2.2.2.1, wl (w 6) cI z9.2.2.2.2.2.1, wl (w 7) cI z9.2.2.2.2.2.2])) := by
  refine CT.of RX1 rfl (by decide +kernel) (Nat.le_of_ble_eq_true rfl) [(0, .ref (o 1)), (1, .int (nI 0)), (2, .int (nI n)), (3, .int t)] rfl (fun x X Rr hnm => ?_)
  have hth := hS.th
  refine G.il X dX1_waysFrom_0 1 rfl ?_
  refine G.il X dX1_waysFrom_1 2 rfl ?_
  refine G.n_ge X (a := 0) (b := n) (by omega) (by omega) dX1_waysFrom_2 (fun h2 => ?_) (fun h2 => ?_)
  · refine G.al X dX1_waysFrom_11 0 rfl ?_
    refine G.il X dX1_waysFrom_12 1 rfl ?_
    refine G.rld X (i := 0) (b := w 0 0) dX1_waysFrom_13 0 1 rfl rfl (by omega) (by decide) rfl ?_
    refine G.cvi X kX5_hasWater lX1_40 dX1_waysFrom_14 (tX5_hasWater l D cI cW (w 0) S0 (by omega)) ⟨Nat.le_of_ble_eq_true rfl, Nat.le_of_ble_eq_true rfl⟩ ⟨Nat.zero_le _, Nat.zero_le _⟩ [1] rfl ⟨rfl, rfl⟩ rfl rfl 1 0 rfl rfl rfl rfl (Nat.le_of_ble_eq_true rfl) (ff_cons (wl_fst _ _ _ _) (ff_nil)) (ws' := [cl o b w cW q, wl (w 0) cI S0, wl (w 1) cI S1, wl (w 2) cI S2, wl (w 3) cI S3, wl (w 4) cI S4, wl (w 5) cI S5, wl (w 6) cI S6, wl (w 7) cI S7]) rfl ?_
    refine G.b_eq X dX1_waysFrom_17 (fun h17 => ?_) (fun h17 => ?_)
    · refine G.lc X dX1_waysFrom_24 (v := 0) rfl ?_
      exact G.lret X Rr dX1_waysFrom_25 (pje_mk ((S1, S2, S3, S4, S5, S6, S7)) (by rw [show n - 0 = 0 by omega]; simp [w_ways, h2, h17]) (by rfl))
    · refine G.lc X dX1_waysFrom_20 (v := 1) rfl ?_
      refine G.go X dX1_waysFrom_21 ?_
      exact G.lret X Rr dX1_waysFrom_25 (pje_mk ((S1, S2, S3, S4, S5, S6, S7)) (by rw [show n - 0 = 0 by omega]; simp [w_ways, h2, h17]) (by rfl))
  · refine G.il X dX1_waysFrom_5 1 rfl ?_
    refine G.pu X dX1_waysFrom_6 ?_
    refine G.n_lt X (a := 0) (b := 7) (by omega) (by omega) dX1_waysFrom_8 (fun h8 => ?_) (fun h8 => absurd h8 (by omega))
    refine G.al X dX1_waysFrom_26 0 rfl ?_
    refine G.il X dX1_waysFrom_27 1 rfl ?_
    refine G.pu X dX1_waysFrom_28 ?_
    refine G.nadd X (a := 0) (b := 1) dX1_waysFrom_29 ?_
    refine G.rld X (i := 1) (b := w 1 0) dX1_waysFrom_30 0 1 rfl rfl (by omega) (by decide) rfl ?_
    refine G.as X dX1_waysFrom_31 (by decide) (lv' := [(4, .ref (w 1 0)), (0, .ref (o 1)), (1, .int (nI 0)), (2, .int (nI n)), (3, .int t)]) rfl ?_
    refine G.al X dX1_waysFrom_33 0 rfl ?_
    refine G.al X dX1_waysFrom_35 1 rfl ?_
    refine G.il X dX1_waysFrom_36 2 rfl ?_
    refine G.rld X (i := 0) (b := w 0 0) dX1_waysFrom_37 0 1 rfl rfl (by omega) (by decide) rfl ?_
    refine G.cvv X kX5_becomes lX1_32 dX1_waysFrom_38 (tX5_becomes l D cI cW (w 1) S1 (w 0) S0) ⟨Nat.le_of_ble_eq_true rfl, Nat.le_of_ble_eq_true rfl⟩ ⟨Nat.zero_le _, Nat.zero_le _⟩ [2, 1] rfl ⟨rfl, rfl⟩ rfl rfl 2 0 rfl rfl rfl rfl (Nat.le_of_ble_eq_true rfl) (ff_cons (wl_fst _ _ _ _) (ff_cons (wl_fst _ _ _ _) (ff_nil))) (ws' := [cl o b w cW q, wl (w 0) cI S0, wl (w 1) cI S0, wl (w 2) cI S2, wl (w 3) cI S3, wl (w 4) cI S4, wl (w 5) cI S5, wl (w 6) cI S6, wl (w 7) cI S7]) rfl ?_
    refine G.al X dX1_waysFrom_41 0 rfl ?_
    refine G.pu X dX1_waysFrom_43 ?_
    refine G.cvv X kX5_passDay lX1_44 dX1_waysFrom_44 (tX5_passDay_cold l D cI cW (w 1) S0 hS) ⟨Nat.le_of_ble_eq_true rfl, Nat.le_of_ble_eq_true rfl⟩ ⟨Nat.zero_le _, Nat.zero_le _⟩ [2] rfl ⟨rfl, rfl⟩ rfl rfl 2 0 rfl rfl rfl rfl (Nat.le_of_ble_eq_true rfl) (ff_cons (wl_fst _ _ _ _) (ff_nil)) (ws' := [cl o b w cW q, wl (w 0) cI S0, wl (w 1) cI (w_day false S0), wl (w 2) cI S2, wl (w 3) cI S3, wl (w 4) cI S4, wl (w 5) cI S5, wl (w 6) cI S6, wl (w 7) cI S7]) rfl ?_
    refine G.al X dX1_waysFrom_47 1 rfl ?_
    refine G.il X dX1_waysFrom_48 2 rfl ?_
    refine G.pu X dX1_waysFrom_49 ?_
    refine G.nadd X (a := 0) (b := 1) dX1_waysFrom_50 ?_
    refine G.il X dX1_waysFrom_51 3 rfl ?_
    refine G.il X dX1_waysFrom_52 4 rfl ?_
    refine G.cstje X kX1_waysFrom lX1_36 dX1_waysFrom_53 (tX1_waysFrom_1 l D cI cW o b w q (w_day false S0) S2 S3 S4 S5 S6 S7 n t (ok_day hS false) (by omega)) ⟨Nat.le_of_ble_eq_true rfl, Nat.le_of_ble_eq_true rfl⟩ ⟨Nat.zero_le _, Nat.zero_le _⟩ [0, 2, 3, 4, 5, 6, 7, 8] rfl ⟨rfl, rfl⟩ rfl rfl rfl (Nat.le_of_ble_eq_true rfl) (fun _ => (ff_cons (cl_fst _ _ _ _ _ _) (ff_cons (wl_fst _ _ _ _) (ff_cons (wl_fst _ _ _ _) (ff_cons (wl_fst _ _ _ _) (ff_cons (wl_fst _ _ _ _) (ff_cons (wl_fst _ _ _ _) (ff_cons (wl_fst _ _ _ _) (ff_cons (wl_fst _ _ _ _) (ff_nil)))))))))) (f8 := fun z9_53 : WS × WS × WS × WS × WS × WS => [cl o b w cW q, wl (w 0) cI S0, wl (w 1) cI (w_day false S0), wl (w 2) cI z9_53.1, wl (w 3) cI z9_53.2.1, wl (w 4) cI z9_53.2.2.1, wl (w 5) cI z9_53.2.2.2.1, wl (w 6) cI z9_53.2.2.2.2.1, wl (w 7) cI z9_53.2.2.2.2.2]) (fun _ => rfl) (fun z9_53 => ?_)
    refine G.ls X dX1_waysFrom_56 (by decide) (lv' := [(5, .long (w_ways (Int32.toInt64 (t - 1)) (n - 1) (w_day false S0))), (4, .ref (w 1 0)), (0, .ref (o 1)), (1, .int (nI 0)), (2, .int (nI n)), (3, .int t)]) rfl ?_
    refine G.al X dX1_waysFrom_58 1 rfl ?_
    refine G.al X dX1_waysFrom_60 2 rfl ?_
    refine G.il X dX1_waysFrom_61 3 rfl ?_
    refine G.rld X (i := 0) (b := w 0 0) dX1_waysFrom_62 0 1 rfl rfl (by omega) (by decide) rfl ?_
    refine G.cvv X kX5_becomes lX1_32 dX1_waysFrom_63 (tX5_becomes l D cI cW (w 1) (w_day false S0) (w 0) S0) ⟨Nat.le_of_ble_eq_true rfl, Nat.le_of_ble_eq_true rfl⟩ ⟨Nat.zero_le _, Nat.zero_le _⟩ [2, 1] rfl ⟨rfl, rfl⟩ rfl rfl 2 0 rfl rfl rfl rfl (Nat.le_of_ble_eq_true rfl) (ff_cons (wl_fst _ _ _ _) (ff_cons (wl_fst _ _ _ _) (ff_nil))) (ws' := [cl o b w cW q, wl (w 0) cI S0, wl (w 1) cI S0, wl (w 2) cI z9_53.1, wl (w 3) cI z9_53.2.1, wl (w 4) cI z9_53.2.2.1, wl (w 5) cI z9_53.2.2.2.1, wl (w 6) cI z9_53.2.2.2.2.1, wl (w 7) cI z9_53.2.2.2.2.2]) rfl ?_
    refine G.al X dX1_waysFrom_66 1 rfl ?_
    refine G.pu X dX1_waysFrom_68 ?_
    refine G.cvv X kX5_passDay lX1_44 dX1_waysFrom_69 (tX5_passDay l D cI cW (w 1) S0 hS) ⟨Nat.le_of_ble_eq_true rfl, Nat.le_of_ble_eq_true rfl⟩ ⟨Nat.zero_le _, Nat.zero_le _⟩ [2] rfl ⟨rfl, rfl⟩ rfl rfl 2 0 rfl rfl rfl rfl (Nat.le_of_ble_eq_true rfl) (ff_cons (wl_fst _ _ _ _) (ff_nil)) (ws' := [cl o b w cW q, wl (w 0) cI S0, wl (w 1) cI (w_day true S0), wl (w 2) cI z9_53.1, wl (w 3) cI z9_53.2.1, wl (w 4) cI z9_53.2.2.1, wl (w 5) cI z9_53.2.2.2.1, wl (w 6) cI z9_53.2.2.2.2.1, wl (w 7) cI z9_53.2.2.2.2.2]) rfl ?_
    refine G.ll X dX1_waysFrom_72 0 rfl ?_
    refine G.il X dX1_waysFrom_74 5 rfl ?_
    refine G.pu X dX1_waysFrom_75 ?_
    refine G.isub X dX1_waysFrom_76 ?_
    refine G.i2l X dX1_waysFrom_77 ?_
    refine G.al X dX1_waysFrom_78 2 rfl ?_
    refine G.il X dX1_waysFrom_79 3 rfl ?_
    refine G.pu X dX1_waysFrom_80 ?_
    refine G.nadd X (a := 0) (b := 1) dX1_waysFrom_81 ?_
    refine G.il X dX1_waysFrom_82 4 rfl ?_
    refine G.il X dX1_waysFrom_83 5 rfl ?_
    refine G.cstje X kX1_waysFrom lX1_36 dX1_waysFrom_84 (tX1_waysFrom_1 l D cI cW o b w q (w_day true S0) z9_53.1 z9_53.2.1 z9_53.2.2.1 z9_53.2.2.2.1 z9_53.2.2.2.2.1 z9_53.2.2.2.2.2 n t (ok_day hS true) (by omega)) ⟨Nat.le_of_ble_eq_true rfl, Nat.le_of_ble_eq_true rfl⟩ ⟨Nat.zero_le _, Nat.zero_le _⟩ [0, 2, 3, 4, 5, 6, 7, 8] rfl ⟨rfl, rfl⟩ rfl rfl rfl (Nat.le_of_ble_eq_true rfl) (fun _ => (ff_cons (cl_fst _ _ _ _ _ _) (ff_cons (wl_fst _ _ _ _) (ff_cons (wl_fst _ _ _ _) (ff_cons (wl_fst _ _ _ _) (ff_cons (wl_fst _ _ _ _) (ff_cons (wl_fst _ _ _ _) (ff_cons (wl_fst _ _ _ _) (ff_cons (wl_fst _ _ _ _) (ff_nil)))))))))) (f8 := fun z9_84 : WS × WS × WS × WS × WS × WS => [cl o b w cW q, wl (w 0) cI S0, wl (w 1) cI (w_day true S0), wl (w 2) cI z9_84.1, wl (w 3) cI z9_84.2.1, wl (w 4) cI z9_84.2.2.1, wl (w 5) cI z9_84.2.2.2.1, wl (w 6) cI z9_84.2.2.2.2.1, wl (w 7) cI z9_84.2.2.2.2.2]) (fun _ => rfl) (fun z9_84 => ?_)
    refine G.lmul X dX1_waysFrom_87 ?_
    refine G.ladd X dX1_waysFrom_88 ?_
    exact G.lret X Rr dX1_waysFrom_89 (pje_mk ((w_day true S0, z9_84.1, z9_84.2.1, z9_84.2.2.1, z9_84.2.2.2.1, z9_84.2.2.2.2.1, z9_84.2.2.2.2.2)) (by rw [show n - 0 = (n - 1) + 1 by omega]; rfl) (by rfl))

set_option maxRecDepth 20000 in
theorem tX1_waysToWater (l : Launch) (D : va_G) (cI cW : ClassId) (o : Nat → Nat) (b : Nat → Nat) (w : Nat → Nat → Nat) (q : Int32 × Int32 × Int32) (S0 : WS) (S1 : WS) (S2 : WS) (S3 : WS) (S4 : WS) (S5 : WS) (S6 : WS) (S7 : WS) (a : Nat → Nat) (S : WS) (n : Nat) (t : Int32) (hS : Ok S) (hn : n ≤ 7) : CT l D cI cW yX1_waysToWater cX1_waysToWater 4 (some .long) ⟨10, 0, 0, 263⟩ [.ref (o 0), .ref (a 0), .int (nI n), .int t] ([cl o b w cW q, wl (w 0) cI S0, wl (w 1) cI S1, wl (w 2) cI S2, wl (w 3) cI S3, wl (w 4) cI S4, wl (w 5) cI S5, wl (w 6) cI S6, wl (w 7) cI S7, wl a cI S]) (PJE (w_ways (Int32.toInt64 (t - 1)) n S) (fun z9 : WS × WS × WS × WS × WS × WS × WS × WS => [cl o b w cW q, wl (w 0) cI z9.1, wl (w 1) cI z9.2.1, wl (w 2) cI z9.2.2.1, wl (w 3) cI z9.2.2.2.1, wl (w 4) cI z9.2.2.2.2.1, wl (w 5) cI z9.2.2.2.2.2.1, wl (w 6) cI z9.2.2.2.2.2.2.1, wl (w 7) cI z9.2.2.2.2.2.2.2, wl a cI S])) := by
  refine CT.of RX1 rfl (by decide +kernel) (Nat.le_of_ble_eq_true rfl) [(0, .ref (o 0)), (1, .ref (a 0)), (2, .int (nI n)), (3, .int t)] rfl (fun x X Rr hnm => ?_)
  have hth := hS.th
  have hpe := hS.pe
  refine G.al X dX1_waysToWater_0 0 rfl ?_
  refine G.get X fX1_18 dX1_waysToWater_1 0 0 rfl rfl rfl ?_
  refine G.pu X dX1_waysToWater_4 ?_
  refine G.rld X (i := 0) (b := w 0 0) dX1_waysToWater_5 0 1 rfl rfl (by omega) (by decide) rfl ?_
  refine G.al X dX1_waysToWater_6 1 rfl ?_
  refine G.cvv X kX5_becomes lX1_32 dX1_waysToWater_7 (tX5_becomes l D cI cW (w 0) S0 a S) ⟨Nat.le_of_ble_eq_true rfl, Nat.le_of_ble_eq_true rfl⟩ ⟨Nat.zero_le _, Nat.zero_le _⟩ [1, 9] rfl ⟨rfl, rfl⟩ rfl rfl 1 0 rfl rfl rfl rfl (Nat.le_of_ble_eq_true rfl) (ff_cons (wl_fst _ _ _ _) (ff_cons (wl_fst _ _ _ _) (ff_nil))) (ws' := [cl o b w cW q, wl (w 0) cI S, wl (w 1) cI S1, wl (w 2) cI S2, wl (w 3) cI S3, wl (w 4) cI S4, wl (w 5) cI S5, wl (w 6) cI S6, wl (w 7) cI S7, wl a cI S]) rfl ?_
  refine G.al X dX1_waysToWater_10 0 rfl ?_
  refine G.get X fX1_18 dX1_waysToWater_11 0 0 rfl rfl rfl ?_
  refine G.pu X dX1_waysToWater_14 ?_
  refine G.il X dX1_waysToWater_15 2 rfl ?_
  refine G.il X dX1_waysToWater_16 3 rfl ?_
  refine G.cstje X kX1_waysFrom lX1_36 dX1_waysToWater_17 (tX1_waysFrom_0 l D cI cW o b w q S S1 S2 S3 S4 S5 S6 S7 n t hS (by omega)) ⟨Nat.le_of_ble_eq_true rfl, Nat.le_of_ble_eq_true rfl⟩ ⟨Nat.zero_le _, Nat.zero_le _⟩ [0, 1, 2, 3, 4, 5, 6, 7, 8] rfl ⟨rfl, rfl⟩ rfl rfl rfl (Nat.le_of_ble_eq_true rfl) (fun _ => (ff_cons (cl_fst _ _ _ _ _ _) (ff_cons (wl_fst _ _ _ _) (ff_cons (wl_fst _ _ _ _) (ff_cons (wl_fst _ _ _ _) (ff_cons (wl_fst _ _ _ _) (ff_cons (wl_fst _ _ _ _) (ff_cons (wl_fst _ _ _ _) (ff_cons (wl_fst _ _ _ _) (ff_cons (wl_fst _ _ _ _) (ff_nil))))))))))) (f8 := fun z9_17 : WS × WS × WS × WS × WS × WS × WS => [cl o b w cW q, wl (w 0) cI S, wl (w 1) cI z9_17.1, wl (w 2) cI z9_17.2.1, wl (w 3) cI z9_17.2.2.1, wl (w 4) cI z9_17.2.2.2.1, wl (w 5) cI z9_17.2.2.2.2.1, wl (w 6) cI z9_17.2.2.2.2.2.1, wl (w 7) cI z9_17.2.2.2.2.2.2, wl a cI S]) (fun _ => rfl) (fun z9_17 => ?_)
  exact G.lret X Rr dX1_waysToWater_20 (pje_mk ((S, z9_17.1, z9_17.2.1, z9_17.2.2.1, z9_17.2.2.2.1, z9_17.2.2.2.2.1, z9_17.2.2.2.2.2.1, z9_17.2.2.2.2.2.2)) (by rfl) (by rfl))

set_option maxRecDepth 20000 in
theorem tX1_drawLots (l : Launch) (D : va_G) (cI cW : ClassId) (o : Nat → Nat) (b : Nat → Nat) (w : Nat → Nat → Nat) (q : Int32 × Int32 × Int32) (T : WS) (a : Nat → Nat) (S : WS) (n : Nat) (z : Int32) (hS : Ok S) (hpe0 : 0 < s_pe S) (hn : n < 2 ^ 31) : CT l D cI cW yX1_drawLots cX1_drawLots 6 none ⟨4, 0, 0, 90⟩ [.ref (o 0), .ref (a 0), .int (nI n), .int z] ([cl o b w cW q, wl b cI T, wl a cI S]) (PVE (fun T9 : WS => [cl o b w cW (w_lots S z n), wl b cI T9, wl a cI S])) := by
  refine CT.of RX1 rfl (by decide +kernel) (Nat.le_of_ble_eq_true rfl) [(0, .ref (o 0)), (1, .ref (a 0)), (2, .int (nI n)), (3, .int z)] rfl (fun x X Rr hnm => ?_)
  have hth := hS.th
  have hpe := hS.pe
  refine G.al X dX1_drawLots_0 0 rfl ?_
  refine G.il X dX1_drawLots_1 3 rfl ?_
  refine G.puti X fX1_22 fe1 dX1_drawLots_2 rfl rfl 0 0 rfl rfl (Nat.le_of_ble_eq_true rfl) (blk' := cl o b w cW (z, k_w q, k_a q)) rfl (ws' := [cl o b w cW (z, k_w q, k_a q), wl b cI T, wl a cI S]) rfl ?_
  refine G.al X dX1_drawLots_5 0 rfl ?_
  refine G.pu X dX1_drawLots_6 ?_
  refine G.puti X fX1_26 fe1 dX1_drawLots_7 rfl rfl 0 0 rfl rfl (Nat.le_of_ble_eq_true rfl) (blk' := cl o b w cW (z, 0, k_a q)) rfl (ws' := [cl o b w cW (z, 0, k_a q), wl b cI T, wl a cI S]) rfl ?_
  refine G.al X dX1_drawLots_10 0 rfl ?_
  refine G.pu X dX1_drawLots_11 ?_
  refine G.puti X fX1_29 fe1 dX1_drawLots_12 rfl rfl 0 0 rfl rfl (Nat.le_of_ble_eq_true rfl) (blk' := cl o b w cW (z, 0, 0)) rfl (ws' := [cl o b w cW (z, 0, 0), wl b cI T, wl a cI S]) rfl ?_
  refine G.pu X dX1_drawLots_15 ?_
  refine G.is X dX1_drawLots_16 (by decide) (lv' := [(4, .int 0), (0, .ref (o 0)), (1, .ref (a 0)), (2, .int (nI n)), (3, .int z)]) rfl ?_
  have L18 : ∀ j, j ≤ n → ∀ T8 : WS, G x 0 0 ([cl o b w cW (w_lots S z j), wl b cI T8, wl a cI S]) 18 [(4, .int (nI j)), (0, .ref (o 0)), (1, .ref (a 0)), (2, .int (nI n)), (3, .int z)] [] := by
    refine loop_dn n _ ?_ ?_
    · intro T8
      refine G.il X dX1_drawLots_18 0 rfl ?_
      refine G.il X dX1_drawLots_20 3 rfl ?_
      refine G.n_ge X (a := n) (b := n) (by omega) (by omega) dX1_drawLots_21 (fun h21 => ?_) (fun h21 => absurd h21 (by omega))
      exact G.vret X Rr dX1_drawLots_136 (pve_mk (T8) (by rfl))
    · intro j hj ih18 T8
      refine G.il X dX1_drawLots_18 0 rfl ?_
      refine G.il X dX1_drawLots_20 3 rfl ?_
      refine G.n_ge X (a := j) (b := n) (by omega) (by omega) dX1_drawLots_21 (fun h21 => absurd h21 (by omega)) (fun h21 => ?_)
      refine G.al X dX1_drawLots_24 1 rfl ?_
      refine G.get X fX1_12 dX1_drawLots_25 0 0 rfl rfl rfl ?_
      refine G.al X dX1_drawLots_28 2 rfl ?_
      refine G.cvv X kX5_becomes lX1_32 dX1_drawLots_29 (tX5_becomes l D cI cW b T8 a S) ⟨Nat.le_of_ble_eq_true rfl, Nat.le_of_ble_eq_true rfl⟩ ⟨Nat.zero_le _, Nat.zero_le _⟩ [1, 2] rfl ⟨rfl, rfl⟩ rfl rfl 1 0 rfl rfl rfl rfl (Nat.le_of_ble_eq_true rfl) (ff_cons (wl_fst _ _ _ _) (ff_cons (wl_fst _ _ _ _) (ff_nil))) (ws' := [cl o b w cW (w_lots S z j), wl b cI S, wl a cI S]) rfl ?_
      refine G.pu X dX1_drawLots_32 ?_
      refine G.is X dX1_drawLots_33 (by decide) (lv' := [(5, .int 0), (4, .int (nI j)), (0, .ref (o 0)), (1, .ref (a 0)), (2, .int (nI n)), (3, .int z)]) rfl ?_
      have L35 : ∀ i, i ≤ s_th S → G x 0 0 ([cl o b w cW ((w_lot S (k_s (w_lots S z j)) i).2, k_w (w_lots S z j), k_a (w_lots S z j)), wl b cI ((w_lot S (k_s (w_lots S z j)) i).1), wl a cI S]) 35 [(5, .int (nI i)), (4, .int (nI j)), (0, .ref (o 0)), (1, .ref (a 0)), (2, .int (nI n)), (3, .int z)] [] := by
        refine loop_dn (s_th S) _ ?_ ?_
        · have hL : Ok ((w_lot S (k_s (w_lots S z j)) (s_th S)).1) := ok_lot hS hpe0 _ (s_th S) (Nat.le_refl _)
          have ft : s_th ((w_lot S (k_s (w_lots S z j)) (s_th S)).1) = s_th S := th_lot S _ (s_th S)
          have fp : s_pe ((w_lot S (k_s (w_lots S z j)) (s_th S)).1) = s_pe S := pe_lot S _ (s_th S)
          have fq : s_pe (w_dayN ((w_lot S (k_s (w_lots S z j)) (s_th S)).1) 15) = s_pe S := (fr_dayN _ 15).1.trans fp
          refine G.il X dX1_drawLots_35 0 rfl ?_
          refine G.al X dX1_drawLots_37 2 rfl ?_
          refine G.get X fX1_12 dX1_drawLots_38 0 0 rfl rfl rfl ?_
          refine G.get X fX1_48 dX1_drawLots_41 1 0 rfl rfl rfl ?_
          refine G.n_ge X (a := s_th S) (b := s_th ((w_lot S (k_s (w_lots S z j)) (s_th S)).1)) (by omega) (by omega) dX1_drawLots_44 (fun h44 => ?_) (fun h44 => absurd h44 (by omega))
          refine G.al X dX1_drawLots_84 2 rfl ?_
          refine G.get X fX1_12 dX1_drawLots_85 0 0 rfl rfl rfl ?_
          refine G.cvi X kX5_answeredByAll lX1_66 dX1_drawLots_88 (tX5_answeredByAll l D cI cW b ((w_lot S (k_s (w_lots S z j)) (s_th S)).1) (by omega)) ⟨Nat.le_of_ble_eq_true rfl, Nat.le_of_ble_eq_true rfl⟩ ⟨Nat.zero_le _, Nat.zero_le _⟩ [1] rfl ⟨rfl, rfl⟩ rfl rfl 1 0 rfl rfl rfl rfl (Nat.le_of_ble_eq_true rfl) (ff_cons (wl_fst _ _ _ _) (ff_nil)) (ws' := [cl o b w cW ((w_lot S (k_s (w_lots S z j)) (s_th S)).2, k_w (w_lots S z j), k_a (w_lots S z j)), wl b cI ((w_lot S (k_s (w_lots S z j)) (s_th S)).1), wl a cI S]) rfl ?_
          refine G.is X dX1_drawLots_91 (by decide) (lv' := [(5, .int (sumf (s_an ((w_lot S (k_s (w_lots S z j)) (s_th S)).1)) (s_pe ((w_lot S (k_s (w_lots S z j)) (s_th S)).1)))), (4, .int (nI j)), (0, .ref (o 0)), (1, .ref (a 0)), (2, .int (nI n)), (3, .int z)]) rfl ?_
          refine G.al X dX1_drawLots_93 2 rfl ?_
          refine G.dupr X dX1_drawLots_94 ?_
          refine G.get X fX1_26 dX1_drawLots_95 0 0 rfl rfl rfl ?_
          refine G.al X dX1_drawLots_98 2 rfl ?_
          refine G.get X fX1_12 dX1_drawLots_99 0 0 rfl rfl rfl ?_
          refine G.pu X dX1_drawLots_102 ?_
          refine G.cvi X kX5_waterInPassing lX1_70 dX1_drawLots_104 (tX5_waterInPassing l D cI cW b ((w_lot S (k_s (w_lots S z j)) (s_th S)).1) 15 hL (by omega)) ⟨Nat.le_of_ble_eq_true rfl, Nat.le_of_ble_eq_true rfl⟩ ⟨Nat.zero_le _, Nat.zero_le _⟩ [1] rfl ⟨rfl, rfl⟩ rfl rfl 1 0 rfl rfl rfl rfl (Nat.le_of_ble_eq_true rfl) (ff_cons (wl_fst _ _ _ _) (ff_nil)) (ws' := [cl o b w cW ((w_lot S (k_s (w_lots S z j)) (s_th S)).2, k_w (w_lots S z j), k_a (w_lots S z j)), wl b cI (w_dayN ((w_lot S (k_s (w_lots S z j)) (s_th S)).1) 15), wl a cI S]) rfl ?_
          refine G.iadd X dX1_drawLots_107 ?_
          refine G.puti X fX1_26 fe1 dX1_drawLots_108 rfl rfl 0 0 rfl rfl (Nat.le_of_ble_eq_true rfl) (blk' := cl o b w cW ((w_lot S (k_s (w_lots S z j)) (s_th S)).2, (k_w (w_lots S z j)) + (nI (w_wet ((w_lot S (k_s (w_lots S z j)) (s_th S)).1) 15)), k_a (w_lots S z j))) rfl (ws' := [cl o b w cW ((w_lot S (k_s (w_lots S z j)) (s_th S)).2, (k_w (w_lots S z j)) + (nI (w_wet ((w_lot S (k_s (w_lots S z j)) (s_th S)).1) 15)), k_a (w_lots S z j)), wl b cI (w_dayN ((w_lot S (k_s (w_lots S z j)) (s_th S)).1) 15), wl a cI S]) rfl ?_
          refine G.al X dX1_drawLots_111 2 rfl ?_
          refine G.dupr X dX1_drawLots_112 ?_
          refine G.get X fX1_29 dX1_drawLots_113 0 0 rfl rfl rfl ?_
          refine G.al X dX1_drawLots_116 2 rfl ?_
          refine G.get X fX1_12 dX1_drawLots_117 0 0 rfl rfl rfl ?_
          refine G.cvi X kX5_answeredByAll lX1_66 dX1_drawLots_120 (tX5_answeredByAll l D cI cW b (w_dayN ((w_lot S (k_s (w_lots S z j)) (s_th S)).1) 15) (by omega)) ⟨Nat.le_of_ble_eq_true rfl, Nat.le_of_ble_eq_true rfl⟩ ⟨Nat.zero_le _, Nat.zero_le _⟩ [1] rfl ⟨rfl, rfl⟩ rfl rfl 1 0 rfl rfl rfl rfl (Nat.le_of_ble_eq_true rfl) (ff_cons (wl_fst _ _ _ _) (ff_nil)) (ws' := [cl o b w cW ((w_lot S (k_s (w_lots S z j)) (s_th S)).2, (k_w (w_lots S z j)) + (nI (w_wet ((w_lot S (k_s (w_lots S z j)) (s_th S)).1) 15)), k_a (w_lots S z j)), wl b cI (w_dayN ((w_lot S (k_s (w_lots S z j)) (s_th S)).1) 15), wl a cI S]) rfl ?_
          refine G.il X dX1_drawLots_123 0 rfl ?_
          refine G.isub X dX1_drawLots_125 ?_
          refine G.iadd X dX1_drawLots_126 ?_
          refine G.puti X fX1_29 fe1 dX1_drawLots_127 rfl rfl 0 0 rfl rfl (Nat.le_of_ble_eq_true rfl) (blk' := cl o b w cW ((w_lot S (k_s (w_lots S z j)) (s_th S)).2, (k_w (w_lots S z j)) + (nI (w_wet ((w_lot S (k_s (w_lots S z j)) (s_th S)).1) 15)), (k_a (w_lots S z j)) + ((sumf (s_an (w_dayN ((w_lot S (k_s (w_lots S z j)) (s_th S)).1) 15)) (s_pe (w_dayN ((w_lot S (k_s (w_lots S z j)) (s_th S)).1) 15))) - (sumf (s_an ((w_lot S (k_s (w_lots S z j)) (s_th S)).1)) (s_pe ((w_lot S (k_s (w_lots S z j)) (s_th S)).1)))))) rfl (ws' := [cl o b w cW ((w_lot S (k_s (w_lots S z j)) (s_th S)).2, (k_w (w_lots S z j)) + (nI (w_wet ((w_lot S (k_s (w_lots S z j)) (s_th S)).1) 15)), (k_a (w_lots S z j)) + ((sumf (s_an (w_dayN ((w_lot S (k_s (w_lots S z j)) (s_th S)).1) 15)) (s_pe (w_dayN ((w_lot S (k_s (w_lots S z j)) (s_th S)).1) 15))) - (sumf (s_an ((w_lot S (k_s (w_lots S z j)) (s_th S)).1)) (s_pe ((w_lot S (k_s (w_lots S z j)) (s_th S)).1))))), wl b cI (w_dayN ((w_lot S (k_s (w_lots S z j)) (s_th S)).1) 15), wl a cI S]) rfl ?_
          refine G.iinc X dX1_drawLots_130 1 rfl (v' := nI (j + 1)) (nI_inc j) (by decide) (lv' := [(4, .int (nI (j + 1))), (5, .int (sumf (s_an ((w_lot S (k_s (w_lots S z j)) (s_th S)).1)) (s_pe ((w_lot S (k_s (w_lots S z j)) (s_th S)).1)))), (0, .ref (o 0)), (1, .ref (a 0)), (2, .int (nI n)), (3, .int z)]) rfl ?_
          refine G.go X dX1_drawLots_133 ?_
          replace ih18 := ih18 (w_dayN ((w_lot S (k_s (w_lots S z j)) (s_th S)).1) 15)
          rw [show (w_lots S z (j + 1)) = ((w_lot S (k_s (w_lots S z j)) (s_th S)).2, (k_w (w_lots S z j)) + (nI (w_wet ((w_lot S (k_s (w_lots S z j)) (s_th S)).1) 15)), (k_a (w_lots S z j)) + ((sumf (s_an (w_dayN ((w_lot S (k_s (w_lots S z j)) (s_th S)).1) 15)) (s_pe (w_dayN ((w_lot S (k_s (w_lots S z j)) (s_th S)).1) 15))) - (sumf (s_an ((w_lot S (k_s (w_lots S z j)) (s_th S)).1)) (s_pe ((w_lot S (k_s (w_lots S z j)) (s_th S)).1))))) from (by rfl)] at ih18
          refine G.lvsub [0, 2, 3, 4, 5] (lv' := [(4, .int (nI (j + 1))), (0, .ref (o 0)), (1, .ref (a 0)), (2, .int (nI n)), (3, .int z)]) rfl ?_
          exact ih18
        · intro i hi ih35
          have hI : Ok ((w_lot S (k_s (w_lots S z j)) i).1) := ok_lot hS hpe0 _ i (by omega)
          have fp : s_pe ((w_lot S (k_s (w_lots S z j)) i).1) = s_pe S := pe_lot S _ i
          have ft : s_th ((w_lot S (k_s (w_lots S z j)) i).1) = s_th S := th_lot S _ i
          refine G.il X dX1_drawLots_35 0 rfl ?_
          refine G.al X dX1_drawLots_37 2 rfl ?_
          refine G.get X fX1_12 dX1_drawLots_38 0 0 rfl rfl rfl ?_
          refine G.get X fX1_48 dX1_drawLots_41 1 0 rfl rfl rfl ?_
          refine G.n_ge X (a := i) (b := s_th ((w_lot S (k_s (w_lots S z j)) i).1)) (by omega) (by omega) dX1_drawLots_44 (fun h44 => absurd h44 (by omega)) (fun h44 => ?_)
          refine G.al X dX1_drawLots_47 2 rfl ?_
          refine G.get X fX1_12 dX1_drawLots_48 0 0 rfl rfl rfl ?_
          refine G.get X fX1_51 dX1_drawLots_51 1 0 rfl rfl rfl ?_
          refine G.il X dX1_drawLots_54 0 rfl ?_
          refine G.al X dX1_drawLots_56 2 rfl ?_
          refine G.al X dX1_drawLots_57 2 rfl ?_
          refine G.get X fX1_12 dX1_drawLots_58 0 0 rfl rfl rfl ?_
          refine G.get X fX1_55 dX1_drawLots_61 1 0 rfl rfl rfl ?_
          refine G.cvi X kX1_draw lX1_58 dX1_drawLots_64 (tX1_draw l D cI cW o b w ((w_lot S (k_s (w_lots S z j)) i).2, k_w (w_lots S z j), k_a (w_lots S z j)) (s_pe ((w_lot S (k_s (w_lots S z j)) i).1)) (by omega) (by omega)) ⟨Nat.le_of_ble_eq_true rfl, Nat.le_of_ble_eq_true rfl⟩ ⟨Nat.zero_le _, Nat.zero_le _⟩ [0] rfl ⟨rfl, rfl⟩ rfl rfl 0 0 rfl rfl rfl rfl (Nat.le_of_ble_eq_true rfl) (ff_cons (cl_fst _ _ _ _ _ _) (ff_nil)) (ws' := [cl o b w cW (d_nx (k_s ((w_lot S (k_s (w_lots S z j)) i).2, k_w (w_lots S z j), k_a (w_lots S z j))), k_w ((w_lot S (k_s (w_lots S z j)) i).2, k_w (w_lots S z j), k_a (w_lots S z j)), k_a ((w_lot S (k_s (w_lots S z j)) i).2, k_w (w_lots S z j), k_a (w_lots S z j))), wl b cI ((w_lot S (k_s (w_lots S z j)) i).1), wl a cI S]) rfl ?_
          refine G.nst X (i := i) dX1_drawLots_67 1 6 rfl rfl (by omega) (by decide) (blk' := wl b cI (s_pe ((w_lot S (k_s (w_lots S z j)) i).1), s_th ((w_lot S (k_s (w_lots S z j)) i).1), s_da ((w_lot S (k_s (w_lots S z j)) i).1), s_dr ((w_lot S (k_s (w_lots S z j)) i).1), s_kn ((w_lot S (k_s (w_lots S z j)) i).1), s_sh ((w_lot S (k_s (w_lots S z j)) i).1), s_an ((w_lot S (k_s (w_lots S z j)) i).1), s_ki ((w_lot S (k_s (w_lots S z j)) i).1), s_we ((w_lot S (k_s (w_lots S z j)) i).1), upd (s_dp ((w_lot S (k_s (w_lots S z j)) i).1)) i (d_of (k_s ((w_lot S (k_s (w_lots S z j)) i).2, k_w (w_lots S z j), k_a (w_lots S z j))) (s_pe ((w_lot S (k_s (w_lots S z j)) i).1))), s_wa ((w_lot S (k_s (w_lots S z j)) i).1), s_le ((w_lot S (k_s (w_lots S z j)) i).1))) rfl (ws' := [cl o b w cW (d_nx (k_s ((w_lot S (k_s (w_lots S z j)) i).2, k_w (w_lots S z j), k_a (w_lots S z j))), k_w ((w_lot S (k_s (w_lots S z j)) i).2, k_w (w_lots S z j), k_a (w_lots S z j)), k_a ((w_lot S (k_s (w_lots S z j)) i).2, k_w (w_lots S z j), k_a (w_lots S z j))), wl b cI (s_pe ((w_lot S (k_s (w_lots S z j)) i).1), s_th ((w_lot S (k_s (w_lots S z j)) i).1), s_da ((w_lot S (k_s (w_lots S z j)) i).1), s_dr ((w_lot S (k_s (w_lots S z j)) i).1), s_kn ((w_lot S (k_s (w_lots S z j)) i).1), s_sh ((w_lot S (k_s (w_lots S z j)) i).1), s_an ((w_lot S (k_s (w_lots S z j)) i).1), s_ki ((w_lot S (k_s (w_lots S z j)) i).1), s_we ((w_lot S (k_s (w_lots S z j)) i).1), upd (s_dp ((w_lot S (k_s (w_lots S z j)) i).1)) i (d_of (k_s ((w_lot S (k_s (w_lots S z j)) i).2, k_w (w_lots S z j), k_a (w_lots S z j))) (s_pe ((w_lot S (k_s (w_lots S z j)) i).1))), s_wa ((w_lot S (k_s (w_lots S z j)) i).1), s_le ((w_lot S (k_s (w_lots S z j)) i).1)), wl a cI S]) rfl ?_
          have ftw : s_th (w_who (w_lot S (k_s (w_lots S z j)) i).1 i (d_of (w_lot S (k_s (w_lots S z j)) i).2 (s_pe (w_lot S (k_s (w_lots S z j)) i).1))) = s_th S := ft
          refine G.cg (ws' := [cl o b w cW (d_nx (k_s ((w_lot S (k_s (w_lots S z j)) i).2, k_w (w_lots S z j), k_a (w_lots S z j))), k_w ((w_lot S (k_s (w_lots S z j)) i).2, k_w (w_lots S z j), k_a (w_lots S z j)), k_a ((w_lot S (k_s (w_lots S z j)) i).2, k_w (w_lots S z j), k_a (w_lots S z j))), wl b cI (w_who (w_lot S (k_s (w_lots S z j)) i).1 i (d_of (w_lot S (k_s (w_lots S z j)) i).2 (s_pe (w_lot S (k_s (w_lots S z j)) i).1))), wl a cI S]) rfl rfl rfl ?_
          refine G.al X dX1_drawLots_68 2 rfl ?_
          refine G.get X fX1_12 dX1_drawLots_69 0 0 rfl rfl rfl ?_
          refine G.il X dX1_drawLots_72 0 rfl ?_
          refine G.cvi X kX5_fall lX1_62 dX1_drawLots_74 (tX5_fall l D cI cW b (w_who (w_lot S (k_s (w_lots S z j)) i).1 i (d_of (w_lot S (k_s (w_lots S z j)) i).2 (s_pe (w_lot S (k_s (w_lots S z j)) i).1))) i (by omega) (by omega)) ⟨Nat.le_of_ble_eq_true rfl, Nat.le_of_ble_eq_true rfl⟩ ⟨Nat.zero_le _, Nat.zero_le _⟩ [1] rfl ⟨rfl, rfl⟩ rfl rfl 1 0 rfl rfl rfl rfl (Nat.le_of_ble_eq_true rfl) (ff_cons (wl_fst _ _ _ _) (ff_nil)) (ws' := [cl o b w cW (d_nx (k_s ((w_lot S (k_s (w_lots S z j)) i).2, k_w (w_lots S z j), k_a (w_lots S z j))), k_w ((w_lot S (k_s (w_lots S z j)) i).2, k_w (w_lots S z j), k_a (w_lots S z j)), k_a ((w_lot S (k_s (w_lots S z j)) i).2, k_w (w_lots S z j), k_a (w_lots S z j))), wl b cI (w_fall (w_who (w_lot S (k_s (w_lots S z j)) i).1 i (d_of (w_lot S (k_s (w_lots S z j)) i).2 (s_pe (w_lot S (k_s (w_lots S z j)) i).1))) i), wl a cI S]) rfl ?_
          refine G.popi X dX1_drawLots_77 ?_
          refine G.iinc X dX1_drawLots_78 0 rfl (v' := nI (i + 1)) (nI_inc i) (by decide) (lv' := [(5, .int (nI (i + 1))), (4, .int (nI j)), (0, .ref (o 0)), (1, .ref (a 0)), (2, .int (nI n)), (3, .int z)]) rfl ?_
          refine G.go X dX1_drawLots_81 ?_
          rw [show ((w_lot S (k_s (w_lots S z j)) (i + 1)).2, k_w (w_lots S z j), k_a (w_lots S z j)) = (d_nx (k_s ((w_lot S (k_s (w_lots S z j)) i).2, k_w (w_lots S z j), k_a (w_lots S z j))), k_w ((w_lot S (k_s (w_lots S z j)) i).2, k_w (w_lots S z j), k_a (w_lots S z j)), k_a ((w_lot S (k_s (w_lots S z j)) i).2, k_w (w_lots S z j), k_a (w_lots S z j))) from (by rfl)] at ih35
          rw [show ((w_lot S (k_s (w_lots S z j)) (i + 1)).1) = (w_fall (w_who (w_lot S (k_s (w_lots S z j)) i).1 i (d_of (w_lot S (k_s (w_lots S z j)) i).2 (s_pe (w_lot S (k_s (w_lots S z j)) i).1))) i) from (by (rw [fp]; rfl))] at ih35
          exact ih35
      have L35 := L35 0 (Nat.zero_le _)
      exact L35
  have L18 := L18 0 (Nat.zero_le _) T
  exact L18
