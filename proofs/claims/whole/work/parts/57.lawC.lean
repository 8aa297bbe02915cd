set_option maxRecDepth 20000 in
theorem law_18 {l : Launch} {D : va_G} {cI cW : ClassId} {x : GC} (X : GOK x l D cI cW RL cL_law 4 room_1) {b L i : Nat} {sc : Nat → Int32} (hX : GX x b L sc) (hL : L ≤ 2560) (hi : i + 5 ≤ L) {xx xn xt xk xe xo xp xv xq xc xs : Nat → Nat} {xw : Nat → Nat → Nat} {xr xu m : Nat → Nat} (kend : ∀ (S : WS) (M : MS) (T1 : WS) (K1 : WS) (qo : FN) (T2 : WS) (qa : FN × FN) (T3 : WS) (qc : Int32 × Int32 × Int32) (T4 : WS) (V0 : WS) (V1 : WS) (V2 : WS) (V3 : WS) (V4 : WS) (V5 : WS) (V6 : WS) (V7 : WS) (T5 : WS), IV S M K1 → G x 165 1897 (LW cI cW xx xn xt xk xe xo xp xv xq xc xs xw xr xu m S M T1 K1 qo T2 qa T3 qc T4 V0 V1 V2 V3 V4 V5 V6 V7 T5) 1230 [(3, .int (nI i)), (2, .ref (m 0)), (1, .ref (xx 0)), (0, .ref b)] []) (S : WS) (M : MS) (T1 : WS) (K1 : WS) (qo : FN) (T2 : WS) (qa : FN × FN) (T3 : WS) (qc : Int32 × Int32 × Int32) (T4 : WS) (V0 : WS) (V1 : WS) (V2 : WS) (V3 : WS) (V4 : WS) (V5 : WS) (V6 : WS) (V7 : WS) (T5 : WS) (hI : IV S M K1) : G x 165 1897 (LW cI cW xx xn xt xk xe xo xp xv xq xc xs xw xr xu m S M T1 K1 qo T2 qa T3 qc T4 V0 V1 V2 V3 V4 V5 V6 V7 T5) 692 [(3, .int (nI i)), (2, .ref (m 0)), (1, .ref (xx 0)), (0, .ref b)] [] := by
  show G x 165 1897 ([xl xx xn xt xk xe xo xv xc xr cI (m_hi M, m_rf M), wl xn cI S, wl xt cI T1, wl xk cI K1, tl xe cI (m_q M), ol xo xp cI qo, wl xp cI T2, al xv xq cI qa, wl xq cI T3, cl xc xs xw cW qc, wl xs cI T4, wl (xw 0) cI V0, wl (xw 1) cI V1, wl (xw 2) cI V2, wl (xw 3) cI V3, wl (xw 4) cI V4, wl (xw 5) cI V5, wl (xw 6) cI V6, wl (xw 7) cI V7, rl xr xu cI (m_rw M, m_rn M), wl xu cI T5, ml m cI S M]) 692 [(3, .int (nI i)), (2, .ref (m 0)), (1, .ref (xx 0)), (0, .ref b)] []
  by_cases cnl : sc (i + 1) < 1
  · refine G.al X dL_law_692 2 rfl ?_
    refine G.al X dL_law_693 3 rfl ?_
    refine G.il X dL_law_694 0 rfl ?_
    refine G.pu X dL_law_695 ?_
    refine G.nadd X (a := i) (b := 1) dL_law_696 ?_
    refine G.sld X hX (i := i + 1) dL_law_697 (by omega) (by omega) ?_
    refine G.cvi X kX6_teach lL_89 dL_law_698 (tX6_teach_lo l D cI cW xx xn xt xk xe xo xv xc xr (m_hi M, m_rf M) (sc (i + 1)) (by omega)) ⟨Nat.le_of_ble_eq_true rfl, Nat.le_of_ble_eq_true rfl⟩ ⟨Nat.le_of_ble_eq_true rfl, Nat.le_of_ble_eq_true rfl⟩ [0] rfl ⟨rfl, rfl⟩ rfl rfl 0 0 rfl rfl rfl rfl (Nat.le_of_ble_eq_true rfl) (ff_cons (xl_fst _ _ _ _ _ _ _ _ _ _ _ _) (ff_nil)) (ws' := [xl xx xn xt xk xe xo xv xc xr cI (x_rf (m_hi M, m_rf M) 4), wl xn cI S, wl xt cI T1, wl xk cI K1, tl xe cI (m_q M), ol xo xp cI qo, wl xp cI T2, al xv xq cI qa, wl xq cI T3, cl xc xs xw cW qc, wl xs cI T4, wl (xw 0) cI V0, wl (xw 1) cI V1, wl (xw 2) cI V2, wl (xw 3) cI V3, wl (xw 4) cI V4, wl (xw 5) cI V5, wl (xw 6) cI V6, wl (xw 7) cI V7, rl xr xu cI (m_rw M, m_rn M), wl xu cI T5, ml m cI S M]) rfl ?_
    refine G.al X dL_law_701 1 rfl ?_
    refine G.al X dL_law_702 3 rfl ?_
    refine G.il X dL_law_703 0 rfl ?_
    refine G.pu X dL_law_704 ?_
    refine G.nadd X (a := i) (b := 1) dL_law_705 ?_
    refine G.sld X hX (i := i + 1) dL_law_706 (by omega) (by omega) ?_
    refine G.cvi X kX7_teach lL_92 dL_law_707 (tX7_teach_lo l D cI cW m S M (sc (i + 1)) (by omega)) ⟨Nat.le_of_ble_eq_true rfl, Nat.le_of_ble_eq_true rfl⟩ ⟨Nat.le_of_ble_eq_true rfl, Nat.le_of_ble_eq_true rfl⟩ [21] rfl ⟨rfl, rfl⟩ rfl rfl 21 0 rfl rfl rfl rfl (Nat.le_of_ble_eq_true rfl) (ff_cons (ml_fst _ _ _ _ _ _) (ff_nil)) (ws' := [xl xx xn xt xk xe xo xv xc xr cI (x_rf (m_hi M, m_rf M) 4), wl xn cI S, wl xt cI T1, wl xk cI K1, tl xe cI (m_q M), ol xo xp cI qo, wl xp cI T2, al xv xq cI qa, wl xq cI T3, cl xc xs xw cW qc, wl xs cI T4, wl (xw 0) cI V0, wl (xw 1) cI V1, wl (xw 2) cI V2, wl (xw 3) cI V3, wl (xw 4) cI V4, wl (xw 5) cI V5, wl (xw 6) cI V6, wl (xw 7) cI V7, rl xr xu cI (m_rw M, m_rn M), wl xu cI T5, ml m cI S (m_no M 4)]) rfl ?_
    refine G.c_eq X (a := (-4)) (b := (-4)) dL_law_710 (fun h710 => ?_) (fun h710 => absurd (rfl) h710)
    exact kend S (m_no M 4) T1 K1 qo T2 qa T3 qc T4 V0 V1 V2 V3 V4 V5 V6 V7 T5 (hI.no 4)
  · by_cases cnh : 40 < sc (i + 1)
    · refine G.al X dL_law_692 2 rfl ?_
      refine G.al X dL_law_693 3 rfl ?_
      refine G.il X dL_law_694 0 rfl ?_
      refine G.pu X dL_law_695 ?_
      refine G.nadd X (a := i) (b := 1) dL_law_696 ?_
      refine G.sld X hX (i := i + 1) dL_law_697 (by omega) (by omega) ?_
      refine G.cvi X kX6_teach lL_89 dL_law_698 (tX6_teach_hi l D cI cW xx xn xt xk xe xo xv xc xr (m_hi M, m_rf M) (sc (i + 1)) (by omega) (by omega)) ⟨Nat.le_of_ble_eq_true rfl, Nat.le_of_ble_eq_true rfl⟩ ⟨Nat.le_of_ble_eq_true rfl, Nat.le_of_ble_eq_true rfl⟩ [0] rfl ⟨rfl, rfl⟩ rfl rfl 0 0 rfl rfl rfl rfl (Nat.le_of_ble_eq_true rfl) (ff_cons (xl_fst _ _ _ _ _ _ _ _ _ _ _ _) (ff_nil)) (ws' := [xl xx xn xt xk xe xo xv xc xr cI (x_rf (m_hi M, m_rf M) 6), wl xn cI S, wl xt cI T1, wl xk cI K1, tl xe cI (m_q M), ol xo xp cI qo, wl xp cI T2, al xv xq cI qa, wl xq cI T3, cl xc xs xw cW qc, wl xs cI T4, wl (xw 0) cI V0, wl (xw 1) cI V1, wl (xw 2) cI V2, wl (xw 3) cI V3, wl (xw 4) cI V4, wl (xw 5) cI V5, wl (xw 6) cI V6, wl (xw 7) cI V7, rl xr xu cI (m_rw M, m_rn M), wl xu cI T5, ml m cI S M]) rfl ?_
      refine G.al X dL_law_701 1 rfl ?_
      refine G.al X dL_law_702 3 rfl ?_
      refine G.il X dL_law_703 0 rfl ?_
      refine G.pu X dL_law_704 ?_
      refine G.nadd X (a := i) (b := 1) dL_law_705 ?_
      refine G.sld X hX (i := i + 1) dL_law_706 (by omega) (by omega) ?_
      refine G.cvi X kX7_teach lL_92 dL_law_707 (tX7_teach_hi l D cI cW m S M (sc (i + 1)) (by omega) (by omega)) ⟨Nat.le_of_ble_eq_true rfl, Nat.le_of_ble_eq_true rfl⟩ ⟨Nat.le_of_ble_eq_true rfl, Nat.le_of_ble_eq_true rfl⟩ [21] rfl ⟨rfl, rfl⟩ rfl rfl 21 0 rfl rfl rfl rfl (Nat.le_of_ble_eq_true rfl) (ff_cons (ml_fst _ _ _ _ _ _) (ff_nil)) (ws' := [xl xx xn xt xk xe xo xv xc xr cI (x_rf (m_hi M, m_rf M) 6), wl xn cI S, wl xt cI T1, wl xk cI K1, tl xe cI (m_q M), ol xo xp cI qo, wl xp cI T2, al xv xq cI qa, wl xq cI T3, cl xc xs xw cW qc, wl xs cI T4, wl (xw 0) cI V0, wl (xw 1) cI V1, wl (xw 2) cI V2, wl (xw 3) cI V3, wl (xw 4) cI V4, wl (xw 5) cI V5, wl (xw 6) cI V6, wl (xw 7) cI V7, rl xr xu cI (m_rw M, m_rn M), wl xu cI T5, ml m cI S (m_no M 6)]) rfl ?_
      refine G.c_eq X (a := (-6)) (b := (-6)) dL_law_710 (fun h710 => ?_) (fun h710 => absurd (rfl) h710)
      exact kend S (m_no M 6) T1 K1 qo T2 qa T3 qc T4 V0 V1 V2 V3 V4 V5 V6 V7 T5 (hI.no 6)
    · obtain ⟨n, ⟨hn1, hn2⟩, en⟩ := n_rng (lo := 1) (hi := 40) (by decide) (by decide) cnl cnh
      refine G.al X dL_law_692 2 rfl ?_
      refine G.al X dL_law_693 3 rfl ?_
      refine G.il X dL_law_694 0 rfl ?_
      refine G.pu X dL_law_695 ?_
      refine G.nadd X (a := i) (b := 1) dL_law_696 ?_
      refine G.sld X hX (i := i + 1) dL_law_697 (by omega) (by omega) ?_
      refine G.top (b := nI n) en ?_
      refine G.cvie X kX6_teach lL_89 dL_law_698 (tX6_teach_ok l D cI cW xx xn xt xk xe xo xv xc xr (m_hi M, m_rf M) S xq qa T3 n hI.ok hn1 hn2) ⟨Nat.le_of_ble_eq_true rfl, Nat.le_of_ble_eq_true rfl⟩ ⟨Nat.le_of_ble_eq_true rfl, Nat.le_of_ble_eq_true rfl⟩ [0, 1, 7, 8] rfl ⟨rfl, rfl⟩ rfl rfl 0 0 rfl rfl rfl rfl (Nat.le_of_ble_eq_true rfl) (fun _ => (ff_cons (xl_fst _ _ _ _ _ _ _ _ _ _ _ _) (ff_cons (wl_fst _ _ _ _) (ff_cons (al_fst _ _ _ _ _) (ff_cons (wl_fst _ _ _ _) (ff_nil)))))) (f8 := fun T9_698 : WS => [xl xx xn xt xk xe xo xv xc xr cI (m_hi M, m_rf M), wl xn cI S, wl xt cI T1, wl xk cI K1, tl xe cI (m_q M), ol xo xp cI qo, wl xp cI T2, al xv xq cI qa, wl xq cI T9_698, cl xc xs xw cW qc, wl xs cI T4, wl (xw 0) cI V0, wl (xw 1) cI V1, wl (xw 2) cI V2, wl (xw 3) cI V3, wl (xw 4) cI V4, wl (xw 5) cI V5, wl (xw 6) cI V6, wl (xw 7) cI V7, rl xr xu cI (m_rw M, m_rn M), wl xu cI T5, ml m cI S M]) (fun _ => rfl) (fun T9_698 => ?_)
      refine G.al X dL_law_701 1 rfl ?_
      refine G.al X dL_law_702 3 rfl ?_
      refine G.il X dL_law_703 0 rfl ?_
      refine G.pu X dL_law_704 ?_
      refine G.nadd X (a := i) (b := 1) dL_law_705 ?_
      refine G.sld X hX (i := i + 1) dL_law_706 (by omega) (by omega) ?_
      refine G.top (b := nI n) en ?_
      refine G.cvie X kX7_teach lL_92 dL_law_707 (tX7_teach_ok l D cI cW m S M n hI.ok hI.co hn1 hn2) ⟨Nat.le_of_ble_eq_true rfl, Nat.le_of_ble_eq_true rfl⟩ ⟨Nat.le_of_ble_eq_true rfl, Nat.le_of_ble_eq_true rfl⟩ [21] rfl ⟨rfl, rfl⟩ rfl rfl 21 0 rfl rfl rfl rfl (Nat.le_of_ble_eq_true rfl) (fun _ => (ff_cons (ml_fst _ _ _ _ _ _) (ff_nil))) (f8 := fun M9_707 : {M9_707 : MS // Mq 64 M M9_707} => [xl xx xn xt xk xe xo xv xc xr cI (m_hi M, m_rf M), wl xn cI S, wl xt cI T1, wl xk cI K1, tl xe cI (m_q M), ol xo xp cI qo, wl xp cI T2, al xv xq cI qa, wl xq cI T9_698, cl xc xs xw cW qc, wl xs cI T4, wl (xw 0) cI V0, wl (xw 1) cI V1, wl (xw 2) cI V2, wl (xw 3) cI V3, wl (xw 4) cI V4, wl (xw 5) cI V5, wl (xw 6) cI V6, wl (xw 7) cI V7, rl xr xu cI (m_rw M, m_rn M), wl xu cI T5, ml m cI S M9_707.1]) (fun _ => rfl) (fun M9_707 => ?_)
      refine G.c_eq X (a := ((w_bl S n (s_pe S)).1)) (b := ((m_te S n (10 * s_pe S)).1)) dL_law_710 (fun h710 => ?_) (fun h710 => absurd ((q_teach hI.ok hn2)) h710)
      rw [LW_q M9_707.2]
      exact kend S M9_707.1 T1 K1 qo T2 qa T9_698 qc T4 V0 V1 V2 V3 V4 V5 V6 V7 T5 (hI.q M9_707.2)

set_option maxRecDepth 20000 in
theorem law_19 {l : Launch} {D : va_G} {cI cW : ClassId} {x : GC} (X : GOK x l D cI cW RL cL_law 4 room_1) {b L i : Nat} {sc : Nat → Int32} (hX : GX x b L sc) (hL : L ≤ 2560) (hi : i + 5 ≤ L) {xx xn xt xk xe xo xp xv xq xc xs : Nat → Nat} {xw : Nat → Nat → Nat} {xr xu m : Nat → Nat} (kend : ∀ (S : WS) (M : MS) (T1 : WS) (K1 : WS) (qo : FN) (T2 : WS) (qa : FN × FN) (T3 : WS) (qc : Int32 × Int32 × Int32) (T4 : WS) (V0 : WS) (V1 : WS) (V2 : WS) (V3 : WS) (V4 : WS) (V5 : WS) (V6 : WS) (V7 : WS) (T5 : WS), IV S M K1 → G x 165 1897 (LW cI cW xx xn xt xk xe xo xp xv xq xc xs xw xr xu m S M T1 K1 qo T2 qa T3 qc T4 V0 V1 V2 V3 V4 V5 V6 V7 T5) 1230 [(3, .int (nI i)), (2, .ref (m 0)), (1, .ref (xx 0)), (0, .ref b)] []) (S : WS) (M : MS) (T1 : WS) (K1 : WS) (qo : FN) (T2 : WS) (qa : FN × FN) (T3 : WS) (qc : Int32 × Int32 × Int32) (T4 : WS) (V0 : WS) (V1 : WS) (V2 : WS) (V3 : WS) (V4 : WS) (V5 : WS) (V6 : WS) (V7 : WS) (T5 : WS) (hI : IV S M K1) : G x 165 1897 (LW cI cW xx xn xt xk xe xo xp xv xq xc xs xw xr xu m S M T1 K1 qo T2 qa T3 qc T4 V0 V1 V2 V3 V4 V5 V6 V7 T5) 715 [(3, .int (nI i)), (2, .ref (m 0)), (1, .ref (xx 0)), (0, .ref b)] [] := by
  show G x 165 1897 ([xl xx xn xt xk xe xo xv xc xr cI (m_hi M, m_rf M), wl xn cI S, wl xt cI T1, wl xk cI K1, tl xe cI (m_q M), ol xo xp cI qo, wl xp cI T2, al xv xq cI qa, wl xq cI T3, cl xc xs xw cW qc, wl xs cI T4, wl (xw 0) cI V0, wl (xw 1) cI V1, wl (xw 2) cI V2, wl (xw 3) cI V3, wl (xw 4) cI V4, wl (xw 5) cI V5, wl (xw 6) cI V6, wl (xw 7) cI V7, rl xr xu cI (m_rw M, m_rn M), wl xu cI T5, ml m cI S M]) 715 [(3, .int (nI i)), (2, .ref (m 0)), (1, .ref (xx 0)), (0, .ref b)] []
  by_cases cnl : sc (i + 1) < 1
  · refine G.al X dL_law_715 2 rfl ?_
    refine G.al X dL_law_716 3 rfl ?_
    refine G.il X dL_law_717 0 rfl ?_
    refine G.pu X dL_law_718 ?_
    refine G.nadd X (a := i) (b := 1) dL_law_719 ?_
    refine G.sld X hX (i := i + 1) dL_law_720 (by omega) (by omega) ?_
    refine G.cvi X kX6_bold lL_93 dL_law_721 (tX6_bold_lo l D cI cW xx xn xt xk xe xo xv xc xr (m_hi M, m_rf M) (sc (i + 1)) (by omega)) ⟨Nat.le_of_ble_eq_true rfl, Nat.le_of_ble_eq_true rfl⟩ ⟨Nat.le_of_ble_eq_true rfl, Nat.le_of_ble_eq_true rfl⟩ [0] rfl ⟨rfl, rfl⟩ rfl rfl 0 0 rfl rfl rfl rfl (Nat.le_of_ble_eq_true rfl) (ff_cons (xl_fst _ _ _ _ _ _ _ _ _ _ _ _) (ff_nil)) (ws' := [xl xx xn xt xk xe xo xv xc xr cI (x_rf (m_hi M, m_rf M) 4), wl xn cI S, wl xt cI T1, wl xk cI K1, tl xe cI (m_q M), ol xo xp cI qo, wl xp cI T2, al xv xq cI qa, wl xq cI T3, cl xc xs xw cW qc, wl xs cI T4, wl (xw 0) cI V0, wl (xw 1) cI V1, wl (xw 2) cI V2, wl (xw 3) cI V3, wl (xw 4) cI V4, wl (xw 5) cI V5, wl (xw 6) cI V6, wl (xw 7) cI V7, rl xr xu cI (m_rw M, m_rn M), wl xu cI T5, ml m cI S M]) rfl ?_
    refine G.al X dL_law_724 1 rfl ?_
    refine G.al X dL_law_725 3 rfl ?_
    refine G.il X dL_law_726 0 rfl ?_
    refine G.pu X dL_law_727 ?_
    refine G.nadd X (a := i) (b := 1) dL_law_728 ?_
    refine G.sld X hX (i := i + 1) dL_law_729 (by omega) (by omega) ?_
    refine G.cvi X kX7_bold lL_96 dL_law_730 (tX7_bold_lo l D cI cW m S M (sc (i + 1)) (by omega)) ⟨Nat.le_of_ble_eq_true rfl, Nat.le_of_ble_eq_true rfl⟩ ⟨Nat.le_of_ble_eq_true rfl, Nat.le_of_ble_eq_true rfl⟩ [21] rfl ⟨rfl, rfl⟩ rfl rfl 21 0 rfl rfl rfl rfl (Nat.le_of_ble_eq_true rfl) (ff_cons (ml_fst _ _ _ _ _ _) (ff_nil)) (ws' := [xl xx xn xt xk xe xo xv xc xr cI (x_rf (m_hi M, m_rf M) 4), wl xn cI S, wl xt cI T1, wl xk cI K1, tl xe cI (m_q M), ol xo xp cI qo, wl xp cI T2, al xv xq cI qa, wl xq cI T3, cl xc xs xw cW qc, wl xs cI T4, wl (xw 0) cI V0, wl (xw 1) cI V1, wl (xw 2) cI V2, wl (xw 3) cI V3, wl (xw 4) cI V4, wl (xw 5) cI V5, wl (xw 6) cI V6, wl (xw 7) cI V7, rl xr xu cI (m_rw M, m_rn M), wl xu cI T5, ml m cI S (m_no M 4)]) rfl ?_
    refine G.c_eq X (a := (-4)) (b := (-4)) dL_law_733 (fun h733 => ?_) (fun h733 => absurd (rfl) h733)
    exact kend S (m_no M 4) T1 K1 qo T2 qa T3 qc T4 V0 V1 V2 V3 V4 V5 V6 V7 T5 (hI.no 4)
  · by_cases cnh : 40 < sc (i + 1)
    · refine G.al X dL_law_715 2 rfl ?_
      refine G.al X dL_law_716 3 rfl ?_
      refine G.il X dL_law_717 0 rfl ?_
      refine G.pu X dL_law_718 ?_
      refine G.nadd X (a := i) (b := 1) dL_law_719 ?_
      refine G.sld X hX (i := i + 1) dL_law_720 (by omega) (by omega) ?_
      refine G.cvi X kX6_bold lL_93 dL_law_721 (tX6_bold_hi l D cI cW xx xn xt xk xe xo xv xc xr (m_hi M, m_rf M) (sc (i + 1)) (by omega) (by omega)) ⟨Nat.le_of_ble_eq_true rfl, Nat.le_of_ble_eq_true rfl⟩ ⟨Nat.le_of_ble_eq_true rfl, Nat.le_of_ble_eq_true rfl⟩ [0] rfl ⟨rfl, rfl⟩ rfl rfl 0 0 rfl rfl rfl rfl (Nat.le_of_ble_eq_true rfl) (ff_cons (xl_fst _ _ _ _ _ _ _ _ _ _ _ _) (ff_nil)) (ws' := [xl xx xn xt xk xe xo xv xc xr cI (x_rf (m_hi M, m_rf M) 6), wl xn cI S, wl xt cI T1, wl xk cI K1, tl xe cI (m_q M), ol xo xp cI qo, wl xp cI T2, al xv xq cI qa, wl xq cI T3, cl xc xs xw cW qc, wl xs cI T4, wl (xw 0) cI V0, wl (xw 1) cI V1, wl (xw 2) cI V2, wl (xw 3) cI V3, wl (xw 4) cI V4, wl (xw 5) cI V5, wl (xw 6) cI V6, wl (xw 7) cI V7, rl xr xu cI (m_rw M, m_rn M), wl xu cI T5, ml m cI S M]) rfl ?_
      refine G.al X dL_law_724 1 rfl ?_
      refine G.al X dL_law_725 3 rfl ?_
      refine G.il X dL_law_726 0 rfl ?_
      refine G.pu X dL_law_727 ?_
      refine G.nadd X (a := i) (b := 1) dL_law_728 ?_
      refine G.sld X hX (i := i + 1) dL_law_729 (by omega) (by omega) ?_
      refine G.cvi X kX7_bold lL_96 dL_law_730 (tX7_bold_hi l D cI cW m S M (sc (i + 1)) (by omega) (by omega)) ⟨Nat.le_of_ble_eq_true rfl, Nat.le_of_ble_eq_true rfl⟩ ⟨Nat.le_of_ble_eq_true rfl, Nat.le_of_ble_eq_true rfl⟩ [21] rfl ⟨rfl, rfl⟩ rfl rfl 21 0 rfl rfl rfl rfl (Nat.le_of_ble_eq_true rfl) (ff_cons (ml_fst _ _ _ _ _ _) (ff_nil)) (ws' := [xl xx xn xt xk xe xo xv xc xr cI (x_rf (m_hi M, m_rf M) 6), wl xn cI S, wl xt cI T1, wl xk cI K1, tl xe cI (m_q M), ol xo xp cI qo, wl xp cI T2, al xv xq cI qa, wl xq cI T3, cl xc xs xw cW qc, wl xs cI T4, wl (xw 0) cI V0, wl (xw 1) cI V1, wl (xw 2) cI V2, wl (xw 3) cI V3, wl (xw 4) cI V4, wl (xw 5) cI V5, wl (xw 6) cI V6, wl (xw 7) cI V7, rl xr xu cI (m_rw M, m_rn M), wl xu cI T5, ml m cI S (m_no M 6)]) rfl ?_
      refine G.c_eq X (a := (-6)) (b := (-6)) dL_law_733 (fun h733 => ?_) (fun h733 => absurd (rfl) h733)
      exact kend S (m_no M 6) T1 K1 qo T2 qa T3 qc T4 V0 V1 V2 V3 V4 V5 V6 V7 T5 (hI.no 6)
    · obtain ⟨n, ⟨hn1, hn2⟩, en⟩ := n_rng (lo := 1) (hi := 40) (by decide) (by decide) cnl cnh
      refine G.al X dL_law_715 2 rfl ?_
      refine G.al X dL_law_716 3 rfl ?_
      refine G.il X dL_law_717 0 rfl ?_
      refine G.pu X dL_law_718 ?_
      refine G.nadd X (a := i) (b := 1) dL_law_719 ?_
      refine G.sld X hX (i := i + 1) dL_law_720 (by omega) (by omega) ?_
      refine G.top (b := nI n) en ?_
      refine G.cvie X kX6_bold lL_93 dL_law_721 (tX6_bold_ok l D cI cW xx xn xt xk xe xo xv xc xr (m_hi M, m_rf M) S xq qa T3 n hI.ok hn1 hn2) ⟨Nat.le_of_ble_eq_true rfl, Nat.le_of_ble_eq_true rfl⟩ ⟨Nat.le_of_ble_eq_true rfl, Nat.le_of_ble_eq_true rfl⟩ [0, 1, 7, 8] rfl ⟨rfl, rfl⟩ rfl rfl 0 0 rfl rfl rfl rfl (Nat.le_of_ble_eq_true rfl) (fun _ => (ff_cons (xl_fst _ _ _ _ _ _ _ _ _ _ _ _) (ff_cons (wl_fst _ _ _ _) (ff_cons (al_fst _ _ _ _ _) (ff_cons (wl_fst _ _ _ _) (ff_nil)))))) (f8 := fun T9_721 : WS => [xl xx xn xt xk xe xo xv xc xr cI (m_hi M, m_rf M), wl xn cI S, wl xt cI T1, wl xk cI K1, tl xe cI (m_q M), ol xo xp cI qo, wl xp cI T2, al xv xq cI qa, wl xq cI T9_721, cl xc xs xw cW qc, wl xs cI T4, wl (xw 0) cI V0, wl (xw 1) cI V1, wl (xw 2) cI V2, wl (xw 3) cI V3, wl (xw 4) cI V4, wl (xw 5) cI V5, wl (xw 6) cI V6, wl (xw 7) cI V7, rl xr xu cI (m_rw M, m_rn M), wl xu cI T5, ml m cI S M]) (fun _ => rfl) (fun T9_721 => ?_)
      refine G.al X dL_law_724 1 rfl ?_
      refine G.al X dL_law_725 3 rfl ?_
      refine G.il X dL_law_726 0 rfl ?_
      refine G.pu X dL_law_727 ?_
      refine G.nadd X (a := i) (b := 1) dL_law_728 ?_
      refine G.sld X hX (i := i + 1) dL_law_729 (by omega) (by omega) ?_
      refine G.top (b := nI n) en ?_
      refine G.cvie X kX7_bold lL_96 dL_law_730 (tX7_bold_ok l D cI cW m S M n hI.ok hI.co hn1 hn2) ⟨Nat.le_of_ble_eq_true rfl, Nat.le_of_ble_eq_true rfl⟩ ⟨Nat.le_of_ble_eq_true rfl, Nat.le_of_ble_eq_true rfl⟩ [21] rfl ⟨rfl, rfl⟩ rfl rfl 21 0 rfl rfl rfl rfl (Nat.le_of_ble_eq_true rfl) (fun _ => (ff_cons (ml_fst _ _ _ _ _ _) (ff_nil))) (f8 := fun M9_730 : {M9_730 : MS // Mq 64 M M9_730} => [xl xx xn xt xk xe xo xv xc xr cI (m_hi M, m_rf M), wl xn cI S, wl xt cI T1, wl xk cI K1, tl xe cI (m_q M), ol xo xp cI qo, wl xp cI T2, al xv xq cI qa, wl xq cI T9_721, cl xc xs xw cW qc, wl xs cI T4, wl (xw 0) cI V0, wl (xw 1) cI V1, wl (xw 2) cI V2, wl (xw 3) cI V3, wl (xw 4) cI V4, wl (xw 5) cI V5, wl (xw 6) cI V6, wl (xw 7) cI V7, rl xr xu cI (m_rw M, m_rn M), wl xu cI T5, ml m cI S M9_730.1]) (fun _ => rfl) (fun M9_730 => ?_)
      refine G.c_eq X (a := ((bmax yes (fun p => nI (w_wet (w_bld S p) n)) (-9, nI (w_wet S n)) (s_pe S)).1)) (b := ((bmax yes (fun p => nI (w_wet (w_bld S p) n)) (-9, nI (w_wet S n)) (s_pe S)).1)) dL_law_733 (fun h733 => ?_) (fun h733 => absurd (rfl) h733)
      rw [LW_q M9_730.2]
      exact kend S M9_730.1 T1 K1 qo T2 qa T9_721 qc T4 V0 V1 V2 V3 V4 V5 V6 V7 T5 (hI.q M9_730.2)

set_option maxRecDepth 20000 in
theorem law_21 {l : Launch} {D : va_G} {cI cW : ClassId} {x : GC} (X : GOK x l D cI cW RL cL_law 4 room_1) {b L i : Nat} {sc : Nat → Int32} (hX : GX x b L sc) (hL : L ≤ 2560) (hi : i + 5 ≤ L) {xx xn xt xk xe xo xp xv xq xc xs : Nat → Nat} {xw : Nat → Nat → Nat} {xr xu m : Nat → Nat} (kend : ∀ (S : WS) (M : MS) (T1 : WS) (K1 : WS) (qo : FN) (T2 : WS) (qa : FN × FN) (T3 : WS) (qc : Int32 × Int32 × Int32) (T4 : WS) (V0 : WS) (V1 : WS) (V2 : WS) (V3 : WS) (V4 : WS) (V5 : WS) (V6 : WS) (V7 : WS) (T5 : WS), IV S M K1 → G x 165 1897 (LW cI cW xx xn xt xk xe xo xp xv xq xc xs xw xr xu m S M T1 K1 qo T2 qa T3 qc T4 V0 V1 V2 V3 V4 V5 V6 V7 T5) 1230 [(3, .int (nI i)), (2, .ref (m 0)), (1, .ref (xx 0)), (0, .ref b)] []) (S : WS) (M : MS) (T1 : WS) (K1 : WS) (qo : FN) (T2 : WS) (qa : FN × FN) (T3 : WS) (qc : Int32 × Int32 × Int32) (T4 : WS) (V0 : WS) (V1 : WS) (V2 : WS) (V3 : WS) (V4 : WS) (V5 : WS) (V6 : WS) (V7 : WS) (T5 : WS) (hI : IV S M K1) : G x 165 1897 (LW cI cW xx xn xt xk xe xo xp xv xq xc xs xw xr xu m S M T1 K1 qo T2 qa T3 qc T4 V0 V1 V2 V3 V4 V5 V6 V7 T5) 761 [(3, .int (nI i)), (2, .ref (m 0)), (1, .ref (xx 0)), (0, .ref b)] [] := by
  show G x 165 1897 ([xl xx xn xt xk xe xo xv xc xr cI (m_hi M, m_rf M), wl xn cI S, wl xt cI T1, wl xk cI K1, tl xe cI (m_q M), ol xo xp cI qo, wl xp cI T2, al xv xq cI qa, wl xq cI T3, cl xc xs xw cW qc, wl xs cI T4, wl (xw 0) cI V0, wl (xw 1) cI V1, wl (xw 2) cI V2, wl (xw 3) cI V3, wl (xw 4) cI V4, wl (xw 5) cI V5, wl (xw 6) cI V6, wl (xw 7) cI V7, rl xr xu cI (m_rw M, m_rn M), wl xu cI T5, ml m cI S M]) 761 [(3, .int (nI i)), (2, .ref (m 0)), (1, .ref (xx 0)), (0, .ref b)] []
  by_cases cnl : sc (i + 1) < 1
  · refine G.al X dL_law_761 2 rfl ?_
    refine G.al X dL_law_762 3 rfl ?_
    refine G.il X dL_law_763 0 rfl ?_
    refine G.pu X dL_law_764 ?_
    refine G.nadd X (a := i) (b := 1) dL_law_765 ?_
    refine G.sld X hX (i := i + 1) dL_law_766 (by omega) (by omega) ?_
    refine G.cvi X kX6_keepOut lL_101 dL_law_767 (tX6_keepOut_lo l D cI cW xx xn xt xk xe xo xv xc xr (m_hi M, m_rf M) (sc (i + 1)) (by omega)) ⟨Nat.le_of_ble_eq_true rfl, Nat.le_of_ble_eq_true rfl⟩ ⟨Nat.le_of_ble_eq_true rfl, Nat.le_of_ble_eq_true rfl⟩ [0] rfl ⟨rfl, rfl⟩ rfl rfl 0 0 rfl rfl rfl rfl (Nat.le_of_ble_eq_true rfl) (ff_cons (xl_fst _ _ _ _ _ _ _ _ _ _ _ _) (ff_nil)) (ws' := [xl xx xn xt xk xe xo xv xc xr cI (x_rf (m_hi M, m_rf M) 4), wl xn cI S, wl xt cI T1, wl xk cI K1, tl xe cI (m_q M), ol xo xp cI qo, wl xp cI T2, al xv xq cI qa, wl xq cI T3, cl xc xs xw cW qc, wl xs cI T4, wl (xw 0) cI V0, wl (xw 1) cI V1, wl (xw 2) cI V2, wl (xw 3) cI V3, wl (xw 4) cI V4, wl (xw 5) cI V5, wl (xw 6) cI V6, wl (xw 7) cI V7, rl xr xu cI (m_rw M, m_rn M), wl xu cI T5, ml m cI S M]) rfl ?_
    refine G.al X dL_law_770 1 rfl ?_
    refine G.al X dL_law_771 3 rfl ?_
    refine G.il X dL_law_772 0 rfl ?_
    refine G.pu X dL_law_773 ?_
    refine G.nadd X (a := i) (b := 1) dL_law_774 ?_
    refine G.sld X hX (i := i + 1) dL_law_775 (by omega) (by omega) ?_
    refine G.cvi X kX7_keepOut lL_104 dL_law_776 (tX7_keepOut_lo l D cI cW m S M (sc (i + 1)) (by omega)) ⟨Nat.le_of_ble_eq_true rfl, Nat.le_of_ble_eq_true rfl⟩ ⟨Nat.le_of_ble_eq_true rfl, Nat.le_of_ble_eq_true rfl⟩ [21] rfl ⟨rfl, rfl⟩ rfl rfl 21 0 rfl rfl rfl rfl (Nat.le_of_ble_eq_true rfl) (ff_cons (ml_fst _ _ _ _ _ _) (ff_nil)) (ws' := [xl xx xn xt xk xe xo xv xc xr cI (x_rf (m_hi M, m_rf M) 4), wl xn cI S, wl xt cI T1, wl xk cI K1, tl xe cI (m_q M), ol xo xp cI qo, wl xp cI T2, al xv xq cI qa, wl xq cI T3, cl xc xs xw cW qc, wl xs cI T4, wl (xw 0) cI V0, wl (xw 1) cI V1, wl (xw 2) cI V2, wl (xw 3) cI V3, wl (xw 4) cI V4, wl (xw 5) cI V5, wl (xw 6) cI V6, wl (xw 7) cI V7, rl xr xu cI (m_rw M, m_rn M), wl xu cI T5, ml m cI S (m_no M 4)]) rfl ?_
    refine G.c_eq X (a := (-4)) (b := (-4)) dL_law_779 (fun h779 => ?_) (fun h779 => absurd (rfl) h779)
    exact kend S (m_no M 4) T1 K1 qo T2 qa T3 qc T4 V0 V1 V2 V3 V4 V5 V6 V7 T5 (hI.no 4)
  · by_cases cnh : 40 < sc (i + 1)
    · refine G.al X dL_law_761 2 rfl ?_
      refine G.al X dL_law_762 3 rfl ?_
      refine G.il X dL_law_763 0 rfl ?_
      refine G.pu X dL_law_764 ?_
      refine G.nadd X (a := i) (b := 1) dL_law_765 ?_
      refine G.sld X hX (i := i + 1) dL_law_766 (by omega) (by omega) ?_
      refine G.cvi X kX6_keepOut lL_101 dL_law_767 (tX6_keepOut_hi l D cI cW xx xn xt xk xe xo xv xc xr (m_hi M, m_rf M) (sc (i + 1)) (by omega) (by omega)) ⟨Nat.le_of_ble_eq_true rfl, Nat.le_of_ble_eq_true rfl⟩ ⟨Nat.le_of_ble_eq_true rfl, Nat.le_of_ble_eq_true rfl⟩ [0] rfl ⟨rfl, rfl⟩ rfl rfl 0 0 rfl rfl rfl rfl (Nat.le_of_ble_eq_true rfl) (ff_cons (xl_fst _ _ _ _ _ _ _ _ _ _ _ _) (ff_nil)) (ws' := [xl xx xn xt xk xe xo xv xc xr cI (x_rf (m_hi M, m_rf M) 6), wl xn cI S, wl xt cI T1, wl xk cI K1, tl xe cI (m_q M), ol xo xp cI qo, wl xp cI T2, al xv xq cI qa, wl xq cI T3, cl xc xs xw cW qc, wl xs cI T4, wl (xw 0) cI V0, wl (xw 1) cI V1, wl (xw 2) cI V2, wl (xw 3) cI V3, wl (xw 4) cI V4, wl (xw 5) cI V5, wl (xw 6) cI V6, wl (xw 7) cI V7, rl xr xu cI (m_rw M, m_rn M), wl xu cI T5, ml m cI S M]) rfl ?_
      refine G.al X dL_law_770 1 rfl ?_
      refine G.al X dL_law_771 3 rfl ?_
      refine G.il X dL_law_772 0 rfl ?_
      refine G.pu X dL_law_773 ?_
      refine G.nadd X (a := i) (b := 1) dL_law_774 ?_
      refine G.sld X hX (i := i + 1) dL_law_775 (by omega) (by omega) ?_
      refine G.cvi X kX7_keepOut lL_104 dL_law_776 (tX7_keepOut_hi l D cI cW m S M (sc (i + 1)) (by omega) (by omega)) ⟨Nat.le_of_ble_eq_true rfl, Nat.le_of_ble_eq_true rfl⟩ ⟨Nat.le_of_ble_eq_true rfl, Nat.le_of_ble_eq_true rfl⟩ [21] rfl ⟨rfl, rfl⟩ rfl rfl 21 0 rfl rfl rfl rfl (Nat.le_of_ble_eq_true rfl) (ff_cons (ml_fst _ _ _ _ _ _) (ff_nil)) (ws' := [xl xx xn xt xk xe xo xv xc xr cI (x_rf (m_hi M, m_rf M) 6), wl xn cI S, wl xt cI T1, wl xk cI K1, tl xe cI (m_q M), ol xo xp cI qo, wl xp cI T2, al xv xq cI qa, wl xq cI T3, cl xc xs xw cW qc, wl xs cI T4, wl (xw 0) cI V0, wl (xw 1) cI V1, wl (xw 2) cI V2, wl (xw 3) cI V3, wl (xw 4) cI V4, wl (xw 5) cI V5, wl (xw 6) cI V6, wl (xw 7) cI V7, rl xr xu cI (m_rw M, m_rn M), wl xu cI T5, ml m cI S (m_no M 6)]) rfl ?_
      refine G.c_eq X (a := (-6)) (b := (-6)) dL_law_779 (fun h779 => ?_) (fun h779 => absurd (rfl) h779)
      exact kend S (m_no M 6) T1 K1 qo T2 qa T3 qc T4 V0 V1 V2 V3 V4 V5 V6 V7 T5 (hI.no 6)
    · obtain ⟨n, ⟨hn1, hn2⟩, en⟩ := n_rng (lo := 1) (hi := 40) (by decide) (by decide) cnl cnh
      refine G.al X dL_law_761 2 rfl ?_
      refine G.al X dL_law_762 3 rfl ?_
      refine G.il X dL_law_763 0 rfl ?_
      refine G.pu X dL_law_764 ?_
      refine G.nadd X (a := i) (b := 1) dL_law_765 ?_
      refine G.sld X hX (i := i + 1) dL_law_766 (by omega) (by omega) ?_
      refine G.top (b := nI n) en ?_
      refine G.cvie X kX6_keepOut lL_101 dL_law_767 (tX6_keepOut_ok l D cI cW xx xn xt xk xe xo xv xc xr (m_hi M, m_rf M) S xq qa T3 n hI.ok hn1 hn2) ⟨Nat.le_of_ble_eq_true rfl, Nat.le_of_ble_eq_true rfl⟩ ⟨Nat.le_of_ble_eq_true rfl, Nat.le_of_ble_eq_true rfl⟩ [0, 1, 7, 8] rfl ⟨rfl, rfl⟩ rfl rfl 0 0 rfl rfl rfl rfl (Nat.le_of_ble_eq_true rfl) (fun _ => (ff_cons (xl_fst _ _ _ _ _ _ _ _ _ _ _ _) (ff_cons (wl_fst _ _ _ _) (ff_cons (al_fst _ _ _ _ _) (ff_cons (wl_fst _ _ _ _) (ff_nil)))))) (f8 := fun T9_767 : WS => [xl xx xn xt xk xe xo xv xc xr cI (m_hi M, m_rf M), wl xn cI S, wl xt cI T1, wl xk cI K1, tl xe cI (m_q M), ol xo xp cI qo, wl xp cI T2, al xv xq cI qa, wl xq cI T9_767, cl xc xs xw cW qc, wl xs cI T4, wl (xw 0) cI V0, wl (xw 1) cI V1, wl (xw 2) cI V2, wl (xw 3) cI V3, wl (xw 4) cI V4, wl (xw 5) cI V5, wl (xw 6) cI V6, wl (xw 7) cI V7, rl xr xu cI (m_rw M, m_rn M), wl xu cI T5, ml m cI S M]) (fun _ => rfl) (fun T9_767 => ?_)
      refine G.al X dL_law_770 1 rfl ?_
      refine G.al X dL_law_771 3 rfl ?_
      refine G.il X dL_law_772 0 rfl ?_
      refine G.pu X dL_law_773 ?_
      refine G.nadd X (a := i) (b := 1) dL_law_774 ?_
      refine G.sld X hX (i := i + 1) dL_law_775 (by omega) (by omega) ?_
      refine G.top (b := nI n) en ?_
      refine G.cvie X kX7_keepOut lL_104 dL_law_776 (tX7_keepOut_ok l D cI cW m S M n hI.ok hI.co hn1 hn2) ⟨Nat.le_of_ble_eq_true rfl, Nat.le_of_ble_eq_true rfl⟩ ⟨Nat.le_of_ble_eq_true rfl, Nat.le_of_ble_eq_true rfl⟩ [21] rfl ⟨rfl, rfl⟩ rfl rfl 21 0 rfl rfl rfl rfl (Nat.le_of_ble_eq_true rfl) (fun _ => (ff_cons (ml_fst _ _ _ _ _ _) (ff_nil))) (f8 := fun M9_776 : {M9_776 : MS // Mq 64 M M9_776} => [xl xx xn xt xk xe xo xv xc xr cI (m_hi M, m_rf M), wl xn cI S, wl xt cI T1, wl xk cI K1, tl xe cI (m_q M), ol xo xp cI qo, wl xp cI T2, al xv xq cI qa, wl xq cI T9_767, cl xc xs xw cW qc, wl xs cI T4, wl (xw 0) cI V0, wl (xw 1) cI V1, wl (xw 2) cI V2, wl (xw 3) cI V3, wl (xw 4) cI V4, wl (xw 5) cI V5, wl (xw 6) cI V6, wl (xw 7) cI V7, rl xr xu cI (m_rw M, m_rn M), wl xu cI T5, ml m cI S M9_776.1]) (fun _ => rfl) (fun M9_776 => ?_)
      refine G.c_eq X (a := ((bmax yes (fun i => nI (w_wet (w_out S i) n)) (-9, nI (w_wet S n)) (s_th S)).1)) (b := ((bmax yes (fun i => nI (w_wet (w_out S i) n)) (-9, nI (w_wet S n)) (s_th S)).1)) dL_law_779 (fun h779 => ?_) (fun h779 => absurd (rfl) h779)
      rw [LW_q M9_776.2]
      exact kend S M9_776.1 T1 K1 qo T2 qa T9_767 qc T4 V0 V1 V2 V3 V4 V5 V6 V7 T5 (hI.q M9_776.2)

set_option maxRecDepth 20000 in
theorem law_23 {l : Launch} {D : va_G} {cI cW : ClassId} {x : GC} (X : GOK x l D cI cW RL cL_law 4 room_1) {b L i : Nat} {sc : Nat → Int32} (hX : GX x b L sc) (hL : L ≤ 2560) (hi : i + 5 ≤ L) {xx xn xt xk xe xo xp xv xq xc xs : Nat → Nat} {xw : Nat → Nat → Nat} {xr xu m : Nat → Nat} (kend : ∀ (S : WS) (M : MS) (T1 : WS) (K1 : WS) (qo : FN) (T2 : WS) (qa : FN × FN) (T3 : WS) (qc : Int32 × Int32 × Int32) (T4 : WS) (V0 : WS) (V1 : WS) (V2 : WS) (V3 : WS) (V4 : WS) (V5 : WS) (V6 : WS) (V7 : WS) (T5 : WS), IV S M K1 → G x 165 1897 (LW cI cW xx xn xt xk xe xo xp xv xq xc xs xw xr xu m S M T1 K1 qo T2 qa T3 qc T4 V0 V1 V2 V3 V4 V5 V6 V7 T5) 1230 [(3, .int (nI i)), (2, .ref (m 0)), (1, .ref (xx 0)), (0, .ref b)] []) (S : WS) (M : MS) (T1 : WS) (K1 : WS) (qo : FN) (T2 : WS) (qa : FN × FN) (T3 : WS) (qc : Int32 × Int32 × Int32) (T4 : WS) (V0 : WS) (V1 : WS) (V2 : WS) (V3 : WS) (V4 : WS) (V5 : WS) (V6 : WS) (V7 : WS) (T5 : WS) (hI : IV S M K1) : G x 165 1897 (LW cI cW xx xn xt xk xe xo xp xv xq xc xs xw xr xu m S M T1 K1 qo T2 qa T3 qc T4 V0 V1 V2 V3 V4 V5 V6 V7 T5) 837 [(3, .int (nI i)), (2, .ref (m 0)), (1, .ref (xx 0)), (0, .ref b)] [] := by
  show G x 165 1897 ([xl xx xn xt xk xe xo xv xc xr cI (m_hi M, m_rf M), wl xn cI S, wl xt cI T1, wl xk cI K1, tl xe cI (m_q M), ol xo xp cI qo, wl xp cI T2, al xv xq cI qa, wl xq cI T3, cl xc xs xw cW qc, wl xs cI T4, wl (xw 0) cI V0, wl (xw 1) cI V1, wl (xw 2) cI V2, wl (xw 3) cI V3, wl (xw 4) cI V4, wl (xw 5) cI V5, wl (xw 6) cI V6, wl (xw 7) cI V7, rl xr xu cI (m_rw M, m_rn M), wl xu cI T5, ml m cI S M]) 837 [(3, .int (nI i)), (2, .ref (m 0)), (1, .ref (xx 0)), (0, .ref b)] []
  by_cases cnl : sc (i + 1) < 1
  · refine G.al X dL_law_837 2 rfl ?_
    refine G.al X dL_law_838 3 rfl ?_
    refine G.il X dL_law_839 0 rfl ?_
    refine G.pu X dL_law_840 ?_
    refine G.nadd X (a := i) (b := 1) dL_law_841 ?_
    refine G.sld X hX (i := i + 1) dL_law_842 (by omega) (by omega) ?_
    refine G.cvi X kX6_again lL_110 dL_law_843 (tX6_again_lo l D cI cW xx xn xt xk xe xo xv xc xr (m_hi M, m_rf M) (sc (i + 1)) (by omega)) ⟨Nat.le_of_ble_eq_true rfl, Nat.le_of_ble_eq_true rfl⟩ ⟨Nat.le_of_ble_eq_true rfl, Nat.le_of_ble_eq_true rfl⟩ [0] rfl ⟨rfl, rfl⟩ rfl rfl 0 0 rfl rfl rfl rfl (Nat.le_of_ble_eq_true rfl) (ff_cons (xl_fst _ _ _ _ _ _ _ _ _ _ _ _) (ff_nil)) (ws' := [xl xx xn xt xk xe xo xv xc xr cI (x_rf (m_hi M, m_rf M) 4), wl xn cI S, wl xt cI T1, wl xk cI K1, tl xe cI (m_q M), ol xo xp cI qo, wl xp cI T2, al xv xq cI qa, wl xq cI T3, cl xc xs xw cW qc, wl xs cI T4, wl (xw 0) cI V0, wl (xw 1) cI V1, wl (xw 2) cI V2, wl (xw 3) cI V3, wl (xw 4) cI V4, wl (xw 5) cI V5, wl (xw 6) cI V6, wl (xw 7) cI V7, rl xr xu cI (m_rw M, m_rn M), wl xu cI T5, ml m cI S M]) rfl ?_
    refine G.al X dL_law_846 1 rfl ?_
    refine G.al X dL_law_847 3 rfl ?_
    refine G.il X dL_law_848 0 rfl ?_
    refine G.pu X dL_law_849 ?_
    refine G.nadd X (a := i) (b := 1) dL_law_850 ?_
    refine G.sld X hX (i := i + 1) dL_law_851 (by omega) (by omega) ?_
    refine G.cvi X kX7_again lL_113 dL_law_852 (tX7_again_lo l D cI cW m S M (sc (i + 1)) (by omega)) ⟨Nat.le_of_ble_eq_true rfl, Nat.le_of_ble_eq_true rfl⟩ ⟨Nat.le_of_ble_eq_true rfl, Nat.le_of_ble_eq_true rfl⟩ [21] rfl ⟨rfl, rfl⟩ rfl rfl 21 0 rfl rfl rfl rfl (Nat.le_of_ble_eq_true rfl) (ff_cons (ml_fst _ _ _ _ _ _) (ff_nil)) (ws' := [xl xx xn xt xk xe xo xv xc xr cI (x_rf (m_hi M, m_rf M) 4), wl xn cI S, wl xt cI T1, wl xk cI K1, tl xe cI (m_q M), ol xo xp cI qo, wl xp cI T2, al xv xq cI qa, wl xq cI T3, cl xc xs xw cW qc, wl xs cI T4, wl (xw 0) cI V0, wl (xw 1) cI V1, wl (xw 2) cI V2, wl (xw 3) cI V3, wl (xw 4) cI V4, wl (xw 5) cI V5, wl (xw 6) cI V6, wl (xw 7) cI V7, rl xr xu cI (m_rw M, m_rn M), wl xu cI T5, ml m cI S (m_no M 4)]) rfl ?_
    refine G.c_eq X (a := (-4)) (b := (-4)) dL_law_855 (fun h855 => ?_) (fun h855 => absurd (rfl) h855)
    exact kend S (m_no M 4) T1 K1 qo T2 qa T3 qc T4 V0 V1 V2 V3 V4 V5 V6 V7 T5 (hI.no 4)
  · by_cases cnh : 40 < sc (i + 1)
    · refine G.al X dL_law_837 2 rfl ?_
      refine G.al X dL_law_838 3 rfl ?_
      refine G.il X dL_law_839 0 rfl ?_
      refine G.pu X dL_law_840 ?_
      refine G.nadd X (a := i) (b := 1) dL_law_841 ?_
      refine G.sld X hX (i := i + 1) dL_law_842 (by omega) (by omega) ?_
      refine G.cvi X kX6_again lL_110 dL_law_843 (tX6_again_hi l D cI cW xx xn xt xk xe xo xv xc xr (m_hi M, m_rf M) (sc (i + 1)) (by omega) (by omega)) ⟨Nat.le_of_ble_eq_true rfl, Nat.le_of_ble_eq_true rfl⟩ ⟨Nat.le_of_ble_eq_true rfl, Nat.le_of_ble_eq_true rfl⟩ [0] rfl ⟨rfl, rfl⟩ rfl rfl 0 0 rfl rfl rfl rfl (Nat.le_of_ble_eq_true rfl) (ff_cons (xl_fst _ _ _ _ _ _ _ _ _ _ _ _) (ff_nil)) (ws' := [xl xx xn xt xk xe xo xv xc xr cI (x_rf (m_hi M, m_rf M) 6), wl xn cI S, wl xt cI T1, wl xk cI K1, tl xe cI (m_q M), ol xo xp cI qo, wl xp cI T2, al xv xq cI qa, wl xq cI T3, cl xc xs xw cW qc, wl xs cI T4, wl (xw 0) cI V0, wl (xw 1) cI V1, wl (xw 2) cI V2, wl (xw 3) cI V3, wl (xw 4) cI V4, wl (xw 5) cI V5, wl (xw 6) cI V6, wl (xw 7) cI V7, rl xr xu cI (m_rw M, m_rn M), wl xu cI T5, ml m cI S M]) rfl ?_
      refine G.al X dL_law_846 1 rfl ?_
      refine G.al X dL_law_847 3 rfl ?_
      refine G.il X dL_law_848 0 rfl ?_
      refine G.pu X dL_law_849 ?_
      refine G.nadd X (a := i) (b := 1) dL_law_850 ?_
      refine G.sld X hX (i := i + 1) dL_law_851 (by omega) (by omega) ?_
      refine G.cvi X kX7_again lL_113 dL_law_852 (tX7_again_hi l D cI cW m S M (sc (i + 1)) (by omega) (by omega)) ⟨Nat.le_of_ble_eq_true rfl, Nat.le_of_ble_eq_true rfl⟩ ⟨Nat.le_of_ble_eq_true rfl, Nat.le_of_ble_eq_true rfl⟩ [21] rfl ⟨rfl, rfl⟩ rfl rfl 21 0 rfl rfl rfl rfl (Nat.le_of_ble_eq_true rfl) (ff_cons (ml_fst _ _ _ _ _ _) (ff_nil)) (ws' := [xl xx xn xt xk xe xo xv xc xr cI (x_rf (m_hi M, m_rf M) 6), wl xn cI S, wl xt cI T1, wl xk cI K1, tl xe cI (m_q M), ol xo xp cI qo, wl xp cI T2, al xv xq cI qa, wl xq cI T3, cl xc xs xw cW qc, wl xs cI T4, wl (xw 0) cI V0, wl (xw 1) cI V1, wl (xw 2) cI V2, wl (xw 3) cI V3, wl (xw 4) cI V4, wl (xw 5) cI V5, wl (xw 6) cI V6, wl (xw 7) cI V7, rl xr xu cI (m_rw M, m_rn M), wl xu cI T5, ml m cI S (m_no M 6)]) rfl ?_
      refine G.c_eq X (a := (-6)) (b := (-6)) dL_law_855 (fun h855 => ?_) (fun h855 => absurd (rfl) h855)
      exact kend S (m_no M 6) T1 K1 qo T2 qa T3 qc T4 V0 V1 V2 V3 V4 V5 V6 V7 T5 (hI.no 6)
    · obtain ⟨n, ⟨hn1, hn2⟩, en⟩ := n_rng (lo := 1) (hi := 40) (by decide) (by decide) cnl cnh
      refine G.al X dL_law_837 2 rfl ?_
      refine G.al X dL_law_838 3 rfl ?_
      refine G.il X dL_law_839 0 rfl ?_
      refine G.pu X dL_law_840 ?_
      refine G.nadd X (a := i) (b := 1) dL_law_841 ?_
      refine G.sld X hX (i := i + 1) dL_law_842 (by omega) (by omega) ?_
      refine G.top (b := nI n) en ?_
      refine G.cvie X kX6_again lL_110 dL_law_843 (tX6_again_ok l D cI cW xx xn xt xk xe xo xv xc xr (m_hi M, m_rf M) S xq qa T3 n hI.ok hn1 hn2) ⟨Nat.le_of_ble_eq_true rfl, Nat.le_of_ble_eq_true rfl⟩ ⟨Nat.le_of_ble_eq_true rfl, Nat.le_of_ble_eq_true rfl⟩ [0, 1, 7, 8] rfl ⟨rfl, rfl⟩ rfl rfl 0 0 rfl rfl rfl rfl (Nat.le_of_ble_eq_true rfl) (fun _ => (ff_cons (xl_fst _ _ _ _ _ _ _ _ _ _ _ _) (ff_cons (wl_fst _ _ _ _) (ff_cons (al_fst _ _ _ _ _) (ff_cons (wl_fst _ _ _ _) (ff_nil)))))) (f8 := fun T9_843 : WS => [xl xx xn xt xk xe xo xv xc xr cI (m_hi M, m_rf M), wl xn cI S, wl xt cI T1, wl xk cI K1, tl xe cI (m_q M), ol xo xp cI qo, wl xp cI T2, al xv xq cI qa, wl xq cI T9_843, cl xc xs xw cW qc, wl xs cI T4, wl (xw 0) cI V0, wl (xw 1) cI V1, wl (xw 2) cI V2, wl (xw 3) cI V3, wl (xw 4) cI V4, wl (xw 5) cI V5, wl (xw 6) cI V6, wl (xw 7) cI V7, rl xr xu cI (m_rw M, m_rn M), wl xu cI T5, ml m cI S M]) (fun _ => rfl) (fun T9_843 => ?_)
      refine G.al X dL_law_846 1 rfl ?_
      refine G.al X dL_law_847 3 rfl ?_
      refine G.il X dL_law_848 0 rfl ?_
      refine G.pu X dL_law_849 ?_
      refine G.nadd X (a := i) (b := 1) dL_law_850 ?_
      refine G.sld X hX (i := i + 1) dL_law_851 (by omega) (by omega) ?_
      refine G.top (b := nI n) en ?_
      refine G.cvie X kX7_again lL_113 dL_law_852 (tX7_again_ok l D cI cW m S M n hI.ok hI.co hn1 hn2) ⟨Nat.le_of_ble_eq_true rfl, Nat.le_of_ble_eq_true rfl⟩ ⟨Nat.le_of_ble_eq_true rfl, Nat.le_of_ble_eq_true rfl⟩ [21] rfl ⟨rfl, rfl⟩ rfl rfl 21 0 rfl rfl rfl rfl (Nat.le_of_ble_eq_true rfl) (fun _ => (ff_cons (ml_fst _ _ _ _ _ _) (ff_nil))) (f8 := fun M9_852 : {M9_852 : MS // Mq 64 M M9_852} => [xl xx xn xt xk xe xo xv xc xr cI (m_hi M, m_rf M), wl xn cI S, wl xt cI T1, wl xk cI K1, tl xe cI (m_q M), ol xo xp cI qo, wl xp cI T2, al xv xq cI qa, wl xq cI T9_843, cl xc xs xw cW qc, wl xs cI T4, wl (xw 0) cI V0, wl (xw 1) cI V1, wl (xw 2) cI V2, wl (xw 3) cI V3, wl (xw 4) cI V4, wl (xw 5) cI V5, wl (xw 6) cI V6, wl (xw 7) cI V7, rl xr xu cI (m_rw M, m_rn M), wl xu cI T5, ml m cI S M9_852.1]) (fun _ => rfl) (fun M9_852 => ?_)
      refine G.c_eq X (a := ((bmin (fun i => nI (w_wet (w_fall S i) n)) (-9, nI (w_wet S n)) (s_th S)).1)) (b := ((bmin (fun i => nI (w_wet (w_fall S i) n)) (-9, nI (w_wet S n)) (s_th S)).1)) dL_law_855 (fun h855 => ?_) (fun h855 => absurd (rfl) h855)
      rw [LW_q M9_852.2]
      exact kend S M9_852.1 T1 K1 qo T2 qa T9_843 qc T4 V0 V1 V2 V3 V4 V5 V6 V7 T5 (hI.q M9_852.2)

set_option maxRecDepth 20000 in
theorem law_20 {l : Launch} {D : va_G} {cI cW : ClassId} {x : GC} (X : GOK x l D cI cW RL cL_law 4 room_1) {b L i : Nat} {sc : Nat → Int32} (hX : GX x b L sc) (hL : L ≤ 2560) (hi : i + 5 ≤ L) {xx xn xt xk xe xo xp xv xq xc xs : Nat → Nat} {xw : Nat → Nat → Nat} {xr xu m : Nat → Nat} (kend : ∀ (S : WS) (M : MS) (T1 : WS) (K1 : WS) (qo : FN) (T2 : WS) (qa : FN × FN) (T3 : WS) (qc : Int32 × Int32 × Int32) (T4 : WS) (V0 : WS) (V1 : WS) (V2 : WS) (V3 : WS) (V4 : WS) (V5 : WS) (V6 : WS) (V7 : WS) (T5 : WS), IV S M K1 → G x 165 1897 (LW cI cW xx xn xt xk xe xo xp xv xq xc xs xw xr xu m S M T1 K1 qo T2 qa T3 qc T4 V0 V1 V2 V3 V4 V5 V6 V7 T5) 1230 [(3, .int (nI i)), (2, .ref (m 0)), (1, .ref (xx 0)), (0, .ref b)] []) (S : WS) (M : MS) (T1 : WS) (K1 : WS) (qo : FN) (T2 : WS) (qa : FN × FN) (T3 : WS) (qc : Int32 × Int32 × Int32) (T4 : WS) (V0 : WS) (V1 : WS) (V2 : WS) (V3 : WS) (V4 : WS) (V5 : WS) (V6 : WS) (V7 : WS) (T5 : WS) (hI : IV S M K1) : G x 165 1897 (LW cI cW xx xn xt xk xe xo xp xv xq xc xs xw xr xu m S M T1 K1 qo T2 qa T3 qc T4 V0 V1 V2 V3 V4 V5 V6 V7 T5) 738 [(3, .int (nI i)), (2, .ref (m 0)), (1, .ref (xx 0)), (0, .ref b)] [] := by
  show G x 165 1897 ([xl xx xn xt xk xe xo xv xc xr cI (m_hi M, m_rf M), wl xn cI S, wl xt cI T1, wl xk cI K1, tl xe cI (m_q M), ol xo xp cI qo, wl xp cI T2, al xv xq cI qa, wl xq cI T3, cl xc xs xw cW qc, wl xs cI T4, wl (xw 0) cI V0, wl (xw 1) cI V1, wl (xw 2) cI V2, wl (xw 3) cI V3, wl (xw 4) cI V4, wl (xw 5) cI V5, wl (xw 6) cI V6, wl (xw 7) cI V7, rl xr xu cI (m_rw M, m_rn M), wl xu cI T5, ml m cI S M]) 738 [(3, .int (nI i)), (2, .ref (m 0)), (1, .ref (xx 0)), (0, .ref b)] []
  by_cases zw : z_in (sc (i + 1)) 2 = true
  · obtain ⟨w9, hw9, ew9⟩ := z_in_t zw
    rcases (show w9 = 0 ∨ w9 = 1 by omega) with rfl | rfl
    · refine G.al X dL_law_738 2 rfl ?_
      refine G.al X dL_law_739 3 rfl ?_
      refine G.il X dL_law_740 0 rfl ?_
      refine G.pu X dL_law_741 ?_
      refine G.nadd X (a := i) (b := 1) dL_law_742 ?_
      refine G.sld X hX (i := i + 1) dL_law_743 (by omega) (by omega) ?_
      refine G.top (b := 0) ew9 ?_
      refine G.cvi X kX6_fewest lL_97 dL_law_744 (tX6_fewest_0 l D cI cW xx xn xt xk xe xo xv xc xr (m_hi M, m_rf M) S hI.ok) ⟨Nat.le_of_ble_eq_true rfl, Nat.le_of_ble_eq_true rfl⟩ ⟨Nat.le_of_ble_eq_true rfl, Nat.le_of_ble_eq_true rfl⟩ [0, 1] rfl ⟨rfl, rfl⟩ rfl rfl 0 0 rfl rfl rfl rfl (Nat.le_of_ble_eq_true rfl) (ff_cons (xl_fst _ _ _ _ _ _ _ _ _ _ _ _) (ff_cons (wl_fst _ _ _ _) (ff_nil))) (ws' := [xl xx xn xt xk xe xo xv xc xr cI (m_hi M, m_rf M), wl xn cI S, wl xt cI T1, wl xk cI K1, tl xe cI (m_q M), ol xo xp cI qo, wl xp cI T2, al xv xq cI qa, wl xq cI T3, cl xc xs xw cW qc, wl xs cI T4, wl (xw 0) cI V0, wl (xw 1) cI V1, wl (xw 2) cI V2, wl (xw 3) cI V3, wl (xw 4) cI V4, wl (xw 5) cI V5, wl (xw 6) cI V6, wl (xw 7) cI V7, rl xr xu cI (m_rw M, m_rn M), wl xu cI T5, ml m cI S M]) rfl ?_
      refine G.al X dL_law_747 1 rfl ?_
      refine G.al X dL_law_748 3 rfl ?_
      refine G.il X dL_law_749 0 rfl ?_
      refine G.pu X dL_law_750 ?_
      refine G.nadd X (a := i) (b := 1) dL_law_751 ?_
      refine G.sld X hX (i := i + 1) dL_law_752 (by omega) (by omega) ?_
      refine G.top (b := 0) ew9 ?_
      refine G.cvi X kX7_fewest lL_100 dL_law_753 (tX7_fewest_0 l D cI cW m S M hI.ok) ⟨Nat.le_of_ble_eq_true rfl, Nat.le_of_ble_eq_true rfl⟩ ⟨Nat.le_of_ble_eq_true rfl, Nat.le_of_ble_eq_true rfl⟩ [21] rfl ⟨rfl, rfl⟩ rfl rfl 21 0 rfl rfl rfl rfl (Nat.le_of_ble_eq_true rfl) (ff_cons (ml_fst _ _ _ _ _ _) (ff_nil)) (ws' := [xl xx xn xt xk xe xo xv xc xr cI (m_hi M, m_rf M), wl xn cI S, wl xt cI T1, wl xk cI K1, tl xe cI (m_q M), ol xo xp cI qo, wl xp cI T2, al xv xq cI qa, wl xq cI T3, cl xc xs xw cW qc, wl xs cI T4, wl (xw 0) cI V0, wl (xw 1) cI V1, wl (xw 2) cI V2, wl (xw 3) cI V3, wl (xw 4) cI V4, wl (xw 5) cI V5, wl (xw 6) cI V6, wl (xw 7) cI V7, rl xr xu cI (m_rw M, m_rn M), wl xu cI T5, ml m cI S M]) rfl ?_
      refine G.c_eq X (a := (w_lsum S (s_pe S))) (b := (m_lsum S (s_pe S))) dL_law_756 (fun h756 => ?_) (fun h756 => absurd ((q_fewest0 hI.ok _)) h756)
      exact kend S M T1 K1 qo T2 qa T3 qc T4 V0 V1 V2 V3 V4 V5 V6 V7 T5 hI
    · refine G.al X dL_law_738 2 rfl ?_
      refine G.al X dL_law_739 3 rfl ?_
      refine G.il X dL_law_740 0 rfl ?_
      refine G.pu X dL_law_741 ?_
      refine G.nadd X (a := i) (b := 1) dL_law_742 ?_
      refine G.sld X hX (i := i + 1) dL_law_743 (by omega) (by omega) ?_
      refine G.top (b := 1) ew9 ?_
      refine G.cvi X kX6_fewest lL_97 dL_law_744 (tX6_fewest_1 l D cI cW xx xn xt xk xe xo xv xc xr (m_hi M, m_rf M) S hI.ok) ⟨Nat.le_of_ble_eq_true rfl, Nat.le_of_ble_eq_true rfl⟩ ⟨Nat.le_of_ble_eq_true rfl, Nat.le_of_ble_eq_true rfl⟩ [0, 1] rfl ⟨rfl, rfl⟩ rfl rfl 0 0 rfl rfl rfl rfl (Nat.le_of_ble_eq_true rfl) (ff_cons (xl_fst _ _ _ _ _ _ _ _ _ _ _ _) (ff_cons (wl_fst _ _ _ _) (ff_nil))) (ws' := [xl xx xn xt xk xe xo xv xc xr cI (m_hi M, m_rf M), wl xn cI S, wl xt cI T1, wl xk cI K1, tl xe cI (m_q M), ol xo xp cI qo, wl xp cI T2, al xv xq cI qa, wl xq cI T3, cl xc xs xw cW qc, wl xs cI T4, wl (xw 0) cI V0, wl (xw 1) cI V1, wl (xw 2) cI V2, wl (xw 3) cI V3, wl (xw 4) cI V4, wl (xw 5) cI V5, wl (xw 6) cI V6, wl (xw 7) cI V7, rl xr xu cI (m_rw M, m_rn M), wl xu cI T5, ml m cI S M]) rfl ?_
      refine G.al X dL_law_747 1 rfl ?_
      refine G.al X dL_law_748 3 rfl ?_
      refine G.il X dL_law_749 0 rfl ?_
      refine G.pu X dL_law_750 ?_
      refine G.nadd X (a := i) (b := 1) dL_law_751 ?_
      refine G.sld X hX (i := i + 1) dL_law_752 (by omega) (by omega) ?_
      refine G.top (b := 1) ew9 ?_
      refine G.cvi X kX7_fewest lL_100 dL_law_753 (tX7_fewest_1 l D cI cW m S M hI.ok) ⟨Nat.le_of_ble_eq_true rfl, Nat.le_of_ble_eq_true rfl⟩ ⟨Nat.le_of_ble_eq_true rfl, Nat.le_of_ble_eq_true rfl⟩ [21] rfl ⟨rfl, rfl⟩ rfl rfl 21 0 rfl rfl rfl rfl (Nat.le_of_ble_eq_true rfl) (ff_cons (ml_fst _ _ _ _ _ _) (ff_nil)) (ws' := [xl xx xn xt xk xe xo xv xc xr cI (m_hi M, m_rf M), wl xn cI S, wl xt cI T1, wl xk cI K1, tl xe cI (m_q M), ol xo xp cI qo, wl xp cI T2, al xv xq cI qa, wl xq cI T3, cl xc xs xw cW qc, wl xs cI T4, wl (xw 0) cI V0, wl (xw 1) cI V1, wl (xw 2) cI V2, wl (xw 3) cI V3, wl (xw 4) cI V4, wl (xw 5) cI V5, wl (xw 6) cI V6, wl (xw 7) cI V7, rl xr xu cI (m_rw M, m_rn M), wl xu cI T5, ml m cI S M]) rfl ?_
      refine G.c_eq X (a := ((bmax yes (fun p => bc (w_les S (nI p) (s_th S))) (-9, 0) (s_pe S)).1)) (b := ((bmax yes (fun p => m_bits (w_les S (nI p) (s_th S)) 31) (-9, 0) (s_pe S)).1)) dL_law_756 (fun h756 => ?_) (fun h756 => absurd ((q_fewest1 hI.ok)) h756)
      exact kend S M T1 K1 qo T2 qa T3 qc T4 V0 V1 V2 V3 V4 V5 V6 V7 T5 hI
  · replace zw : z_in (sc (i + 1)) 2 = false := by simpa using zw
    refine G.al X dL_law_738 2 rfl ?_
    refine G.al X dL_law_739 3 rfl ?_
    refine G.il X dL_law_740 0 rfl ?_
    refine G.pu X dL_law_741 ?_
    refine G.nadd X (a := i) (b := 1) dL_law_742 ?_
    refine G.sld X hX (i := i + 1) dL_law_743 (by omega) (by omega) ?_
    refine G.cvi X kX6_fewest lL_97 dL_law_744 (tX6_fewest_oth l D cI cW xx xn xt xk xe xo xv xc xr (m_hi M, m_rf M) S (sc (i + 1)) hI.ok zw) ⟨Nat.le_of_ble_eq_true rfl, Nat.le_of_ble_eq_true rfl⟩ ⟨Nat.le_of_ble_eq_true rfl, Nat.le_of_ble_eq_true rfl⟩ [0, 1] rfl ⟨rfl, rfl⟩ rfl rfl 0 0 rfl rfl rfl rfl (Nat.le_of_ble_eq_true rfl) (ff_cons (xl_fst _ _ _ _ _ _ _ _ _ _ _ _) (ff_cons (wl_fst _ _ _ _) (ff_nil))) (ws' := [xl xx xn xt xk xe xo xv xc xr cI (x_rf (m_hi M, m_rf M) 2), wl xn cI S, wl xt cI T1, wl xk cI K1, tl xe cI (m_q M), ol xo xp cI qo, wl xp cI T2, al xv xq cI qa, wl xq cI T3, cl xc xs xw cW qc, wl xs cI T4, wl (xw 0) cI V0, wl (xw 1) cI V1, wl (xw 2) cI V2, wl (xw 3) cI V3, wl (xw 4) cI V4, wl (xw 5) cI V5, wl (xw 6) cI V6, wl (xw 7) cI V7, rl xr xu cI (m_rw M, m_rn M), wl xu cI T5, ml m cI S M]) rfl ?_
    refine G.al X dL_law_747 1 rfl ?_
    refine G.al X dL_law_748 3 rfl ?_
    refine G.il X dL_law_749 0 rfl ?_
    refine G.pu X dL_law_750 ?_
    refine G.nadd X (a := i) (b := 1) dL_law_751 ?_
    refine G.sld X hX (i := i + 1) dL_law_752 (by omega) (by omega) ?_
    refine G.cvi X kX7_fewest lL_100 dL_law_753 (tX7_fewest_oth l D cI cW m S M (sc (i + 1)) hI.ok zw) ⟨Nat.le_of_ble_eq_true rfl, Nat.le_of_ble_eq_true rfl⟩ ⟨Nat.le_of_ble_eq_true rfl, Nat.le_of_ble_eq_true rfl⟩ [21] rfl ⟨rfl, rfl⟩ rfl rfl 21 0 rfl rfl rfl rfl (Nat.le_of_ble_eq_true rfl) (ff_cons (ml_fst _ _ _ _ _ _) (ff_nil)) (ws' := [xl xx xn xt xk xe xo xv xc xr cI (x_rf (m_hi M, m_rf M) 2), wl xn cI S, wl xt cI T1, wl xk cI K1, tl xe cI (m_q M), ol xo xp cI qo, wl xp cI T2, al xv xq cI qa, wl xq cI T3, cl xc xs xw cW qc, wl xs cI T4, wl (xw 0) cI V0, wl (xw 1) cI V1, wl (xw 2) cI V2, wl (xw 3) cI V3, wl (xw 4) cI V4, wl (xw 5) cI V5, wl (xw 6) cI V6, wl (xw 7) cI V7, rl xr xu cI (m_rw M, m_rn M), wl xu cI T5, ml m cI S (m_no M 2)]) rfl ?_
    refine G.c_eq X (a := (-2)) (b := (-2)) dL_law_756 (fun h756 => ?_) (fun h756 => absurd (rfl) h756)
    exact kend S (m_no M 2) T1 K1 qo T2 qa T3 qc T4 V0 V1 V2 V3 V4 V5 V6 V7 T5 (hI.no 2)

set_option maxRecDepth 20000 in
theorem law_24 {l : Launch} {D : va_G} {cI cW : ClassId} {x : GC} (X : GOK x l D cI cW RL cL_law 4 room_1) {b L i : Nat} {sc : Nat → Int32} (hX : GX x b L sc) (hL : L ≤ 2560) (hi : i + 5 ≤ L) {xx xn xt xk xe xo xp xv xq xc xs : Nat → Nat} {xw : Nat → Nat → Nat} {xr xu m : Nat → Nat} (kend : ∀ (S : WS) (M : MS) (T1 : WS) (K1 : WS) (qo : FN) (T2 : WS) (qa : FN × FN) (T3 : WS) (qc : Int32 × Int32 × Int32) (T4 : WS) (V0 : WS) (V1 : WS) (V2 : WS) (V3 : WS) (V4 : WS) (V5 : WS) (V6 : WS) (V7 : WS) (T5 : WS), IV S M K1 → G x 165 1897 (LW cI cW xx xn xt xk xe xo xp xv xq xc xs xw xr xu m S M T1 K1 qo T2 qa T3 qc T4 V0 V1 V2 V3 V4 V5 V6 V7 T5) 1230 [(3, .int (nI i)), (2, .ref (m 0)), (1, .ref (xx 0)), (0, .ref b)] []) (S : WS) (M : MS) (T1 : WS) (K1 : WS) (qo : FN) (T2 : WS) (qa : FN × FN) (T3 : WS) (qc : Int32 × Int32 × Int32) (T4 : WS) (V0 : WS) (V1 : WS) (V2 : WS) (V3 : WS) (V4 : WS) (V5 : WS) (V6 : WS) (V7 : WS) (T5 : WS) (hI : IV S M K1) : G x 165 1897 (LW cI cW xx xn xt xk xe xo xp xv xq xc xs xw xr xu m S M T1 K1 qo T2 qa T3 qc T4 V0 V1 V2 V3 V4 V5 V6 V7 T5) 860 [(3, .int (nI i)), (2, .ref (m 0)), (1, .ref (xx 0)), (0, .ref b)] [] := by
  show G x 165 1897 ([xl xx xn xt xk xe xo xv xc xr cI (m_hi M, m_rf M), wl xn cI S, wl xt cI T1, wl xk cI K1, tl xe cI (m_q M), ol xo xp cI qo, wl xp cI T2, al xv xq cI qa, wl xq cI T3, cl xc xs xw cW qc, wl xs cI T4, wl (xw 0) cI V0, wl (xw 1) cI V1, wl (xw 2) cI V2, wl (xw 3) cI V3, wl (xw 4) cI V4, wl (xw 5) cI V5, wl (xw 6) cI V6, wl (xw 7) cI V7, rl xr xu cI (m_rw M, m_rn M), wl xu cI T5, ml m cI S M]) 860 [(3, .int (nI i)), (2, .ref (m 0)), (1, .ref (xx 0)), (0, .ref b)] []
  refine G.al X dL_law_860 2 rfl ?_
  refine G.cvi X kX6_hardest lL_114 dL_law_861 (tX6_hardest l D cI cW xx xn xt xk xe xo xv xc xr (m_hi M, m_rf M) S hI.ok) ⟨Nat.le_of_ble_eq_true rfl, Nat.le_of_ble_eq_true rfl⟩ ⟨Nat.le_of_ble_eq_true rfl, Nat.le_of_ble_eq_true rfl⟩ [0, 1] rfl ⟨rfl, rfl⟩ rfl rfl 0 0 rfl rfl rfl rfl (Nat.le_of_ble_eq_true rfl) (ff_cons (xl_fst _ _ _ _ _ _ _ _ _ _ _ _) (ff_cons (wl_fst _ _ _ _) (ff_nil))) (ws' := [xl xx xn xt xk xe xo xv xc xr cI (m_hi M, m_rf M), wl xn cI S, wl xt cI T1, wl xk cI K1, tl xe cI (m_q M), ol xo xp cI qo, wl xp cI T2, al xv xq cI qa, wl xq cI T3, cl xc xs xw cW qc, wl xs cI T4, wl (xw 0) cI V0, wl (xw 1) cI V1, wl (xw 2) cI V2, wl (xw 3) cI V3, wl (xw 4) cI V4, wl (xw 5) cI V5, wl (xw 6) cI V6, wl (xw 7) cI V7, rl xr xu cI (m_rw M, m_rn M), wl xu cI T5, ml m cI S M]) rfl ?_
  refine G.al X dL_law_864 1 rfl ?_
  refine G.cvi X kX7_hardest lL_117 dL_law_865 (tX7_hardest l D cI cW m S M hI.ok) ⟨Nat.le_of_ble_eq_true rfl, Nat.le_of_ble_eq_true rfl⟩ ⟨Nat.le_of_ble_eq_true rfl, Nat.le_of_ble_eq_true rfl⟩ [21] rfl ⟨rfl, rfl⟩ rfl rfl 21 0 rfl rfl rfl rfl (Nat.le_of_ble_eq_true rfl) (ff_cons (ml_fst _ _ _ _ _ _) (ff_nil)) (ws' := [xl xx xn xt xk xe xo xv xc xr cI (m_hi M, m_rf M), wl xn cI S, wl xt cI T1, wl xk cI K1, tl xe cI (m_q M), ol xo xp cI qo, wl xp cI T2, al xv xq cI qa, wl xq cI T3, cl xc xs xw cW qc, wl xs cI T4, wl (xw 0) cI V0, wl (xw 1) cI V1, wl (xw 2) cI V2, wl (xw 3) cI V3, wl (xw 4) cI V4, wl (xw 5) cI V5, wl (xw 6) cI V6, wl (xw 7) cI V7, rl xr xu cI (m_rw M, m_rn M), wl xu cI T5, ml m cI S M]) rfl ?_
  refine G.c_eq X (a := ((bmax yes (fun i => n_of (s_ki S i) (s_we S i)) (-9, -1) (s_th S)).1)) (b := (o2i (bix yes (fun i j => decide (n_of (s_ki S i) (s_we S i) < n_of (s_ki S j) (s_we S j))) (s_th S)))) dL_law_868 (fun h868 => ?_) (fun h868 => absurd ((q_hardest hI.ok)) h868)
  exact kend S M T1 K1 qo T2 qa T3 qc T4 V0 V1 V2 V3 V4 V5 V6 V7 T5 hI

set_option maxRecDepth 20000 in
theorem law_25 {l : Launch} {D : va_G} {cI cW : ClassId} {x : GC} (X : GOK x l D cI cW RL cL_law 4 room_1) {b L i : Nat} {sc : Nat → Int32} (hX : GX x b L sc) (hL : L ≤ 2560) (hi : i + 5 ≤ L) {xx xn xt xk xe xo xp xv xq xc xs : Nat → Nat} {xw : Nat → Nat → Nat} {xr xu m : Nat → Nat} (kend : ∀ (S : WS) (M : MS) (T1 : WS) (K1 : WS) (qo : FN) (T2 : WS) (qa : FN × FN) (T3 : WS) (qc : Int32 × Int32 × Int32) (T4 : WS) (V0 : WS) (V1 : WS) (V2 : WS) (V3 : WS) (V4 : WS) (V5 : WS) (V6 : WS) (V7 : WS) (T5 : WS), IV S M K1 → G x 165 1897 (LW cI cW xx xn xt xk xe xo xp xv xq xc xs xw xr xu m S M T1 K1 qo T2 qa T3 qc T4 V0 V1 V2 V3 V4 V5 V6 V7 T5) 1230 [(3, .int (nI i)), (2, .ref (m 0)), (1, .ref (xx 0)), (0, .ref b)] []) (S : WS) (M : MS) (T1 : WS) (K1 : WS) (qo : FN) (T2 : WS) (qa : FN × FN) (T3 : WS) (qc : Int32 × Int32 × Int32) (T4 : WS) (V0 : WS) (V1 : WS) (V2 : WS) (V3 : WS) (V4 : WS) (V5 : WS) (V6 : WS) (V7 : WS) (T5 : WS) (hI : IV S M K1) : G x 165 1897 (LW cI cW xx xn xt xk xe xo xp xv xq xc xs xw xr xu m S M T1 K1 qo T2 qa T3 qc T4 V0 V1 V2 V3 V4 V5 V6 V7 T5) 873 [(3, .int (nI i)), (2, .ref (m 0)), (1, .ref (xx 0)), (0, .ref b)] [] := by
  show G x 165 1897 ([xl xx xn xt xk xe xo xv xc xr cI (m_hi M, m_rf M), wl xn cI S, wl xt cI T1, wl xk cI K1, tl xe cI (m_q M), ol xo xp cI qo, wl xp cI T2, al xv xq cI qa, wl xq cI T3, cl xc xs xw cW qc, wl xs cI T4, wl (xw 0) cI V0, wl (xw 1) cI V1, wl (xw 2) cI V2, wl (xw 3) cI V3, wl (xw 4) cI V4, wl (xw 5) cI V5, wl (xw 6) cI V6, wl (xw 7) cI V7, rl xr xu cI (m_rw M, m_rn M), wl xu cI T5, ml m cI S M]) 873 [(3, .int (nI i)), (2, .ref (m 0)), (1, .ref (xx 0)), (0, .ref b)] []
  refine G.al X dL_law_873 2 rfl ?_
  refine G.cvi X kX6_topics lL_118 dL_law_874 (tX6_topics l D cI cW xx xn xt xk xe xo xv xc xr (m_hi M, m_rf M) S hI.ok) ⟨Nat.le_of_ble_eq_true rfl, Nat.le_of_ble_eq_true rfl⟩ ⟨Nat.le_of_ble_eq_true rfl, Nat.le_of_ble_eq_true rfl⟩ [0, 1] rfl ⟨rfl, rfl⟩ rfl rfl 0 0 rfl rfl rfl rfl (Nat.le_of_ble_eq_true rfl) (ff_cons (xl_fst _ _ _ _ _ _ _ _ _ _ _ _) (ff_cons (wl_fst _ _ _ _) (ff_nil))) (ws' := [xl xx xn xt xk xe xo xv xc xr cI (m_hi M, m_rf M), wl xn cI S, wl xt cI T1, wl xk cI K1, tl xe cI (m_q M), ol xo xp cI qo, wl xp cI T2, al xv xq cI qa, wl xq cI T3, cl xc xs xw cW qc, wl xs cI T4, wl (xw 0) cI V0, wl (xw 1) cI V1, wl (xw 2) cI V2, wl (xw 3) cI V3, wl (xw 4) cI V4, wl (xw 5) cI V5, wl (xw 6) cI V6, wl (xw 7) cI V7, rl xr xu cI (m_rw M, m_rn M), wl xu cI T5, ml m cI S M]) rfl ?_
  refine G.al X dL_law_877 1 rfl ?_
  refine G.cvi X kX7_topics lL_121 dL_law_878 (tX7_topics l D cI cW m S M hI.ok) ⟨Nat.le_of_ble_eq_true rfl, Nat.le_of_ble_eq_true rfl⟩ ⟨Nat.le_of_ble_eq_true rfl, Nat.le_of_ble_eq_true rfl⟩ [21] rfl ⟨rfl, rfl⟩ rfl rfl 21 0 rfl rfl rfl rfl (Nat.le_of_ble_eq_true rfl) (ff_cons (ml_fst _ _ _ _ _ _) (ff_nil)) (ws' := [xl xx xn xt xk xe xo xv xc xr cI (m_hi M, m_rf M), wl xn cI S, wl xt cI T1, wl xk cI K1, tl xe cI (m_q M), ol xo xp cI qo, wl xp cI T2, al xv xq cI qa, wl xq cI T3, cl xc xs xw cW qc, wl xs cI T4, wl (xw 0) cI V0, wl (xw 1) cI V1, wl (xw 2) cI V2, wl (xw 3) cI V3, wl (xw 4) cI V4, wl (xw 5) cI V5, wl (xw 6) cI V6, wl (xw 7) cI V7, rl xr xu cI (m_rw M, m_rn M), wl xu cI T5, ml m cI S M]) rfl ?_
  refine G.c_eq X (a := (w_tb S (s_th S))) (b := (w_tb S (s_th S))) dL_law_881 (fun h881 => ?_) (fun h881 => absurd (rfl) h881)
  exact kend S M T1 K1 qo T2 qa T3 qc T4 V0 V1 V2 V3 V4 V5 V6 V7 T5 hI

set_option maxRecDepth 20000 in
theorem law_26 {l : Launch} {D : va_G} {cI cW : ClassId} {x : GC} (X : GOK x l D cI cW RL cL_law 4 room_1) {b L i : Nat} {sc : Nat → Int32} (hX : GX x b L sc) (hL : L ≤ 2560) (hi : i + 5 ≤ L) {xx xn xt xk xe xo xp xv xq xc xs : Nat → Nat} {xw : Nat → Nat → Nat} {xr xu m : Nat → Nat} (kend : ∀ (S : WS) (M : MS) (T1 : WS) (K1 : WS) (qo : FN) (T2 : WS) (qa : FN × FN) (T3 : WS) (qc : Int32 × Int32 × Int32) (T4 : WS) (V0 : WS) (V1 : WS) (V2 : WS) (V3 : WS) (V4 : WS) (V5 : WS) (V6 : WS) (V7 : WS) (T5 : WS), IV S M K1 → G x 165 1897 (LW cI cW xx xn xt xk xe xo xp xv xq xc xs xw xr xu m S M T1 K1 qo T2 qa T3 qc T4 V0 V1 V2 V3 V4 V5 V6 V7 T5) 1230 [(3, .int (nI i)), (2, .ref (m 0)), (1, .ref (xx 0)), (0, .ref b)] []) (S : WS) (M : MS) (T1 : WS) (K1 : WS) (qo : FN) (T2 : WS) (qa : FN × FN) (T3 : WS) (qc : Int32 × Int32 × Int32) (T4 : WS) (V0 : WS) (V1 : WS) (V2 : WS) (V3 : WS) (V4 : WS) (V5 : WS) (V6 : WS) (V7 : WS) (T5 : WS) (hI : IV S M K1) : G x 165 1897 (LW cI cW xx xn xt xk xe xo xp xv xq xc xs xw xr xu m S M T1 K1 qo T2 qa T3 qc T4 V0 V1 V2 V3 V4 V5 V6 V7 T5) 886 [(3, .int (nI i)), (2, .ref (m 0)), (1, .ref (xx 0)), (0, .ref b)] [] := by
  show G x 165 1897 ([xl xx xn xt xk xe xo xv xc xr cI (m_hi M, m_rf M), wl xn cI S, wl xt cI T1, wl xk cI K1, tl xe cI (m_q M), ol xo xp cI qo, wl xp cI T2, al xv xq cI qa, wl xq cI T3, cl xc xs xw cW qc, wl xs cI T4, wl (xw 0) cI V0, wl (xw 1) cI V1, wl (xw 2) cI V2, wl (xw 3) cI V3, wl (xw 4) cI V4, wl (xw 5) cI V5, wl (xw 6) cI V6, wl (xw 7) cI V7, rl xr xu cI (m_rw M, m_rn M), wl xu cI T5, ml m cI S M]) 886 [(3, .int (nI i)), (2, .ref (m 0)), (1, .ref (xx 0)), (0, .ref b)] []
  by_cases zw : z_in (sc (i + 1)) 2 = true
  · obtain ⟨w9, hw9, ew9⟩ := z_in_t zw
    rcases (show w9 = 0 ∨ w9 = 1 by omega) with rfl | rfl
    · refine G.al X dL_law_886 2 rfl ?_
      refine G.al X dL_law_887 3 rfl ?_
      refine G.il X dL_law_888 0 rfl ?_
      refine G.pu X dL_law_889 ?_
      refine G.nadd X (a := i) (b := 1) dL_law_890 ?_
      refine G.sld X hX (i := i + 1) dL_law_891 (by omega) (by omega) ?_
      refine G.top (b := 0) ew9 ?_
      refine G.cvi X kX6_alike lL_122 dL_law_892 (tX6_alike_0 l D cI cW xx xn xt xk xe xo xv xc xr (m_hi M, m_rf M) S hI.ok) ⟨Nat.le_of_ble_eq_true rfl, Nat.le_of_ble_eq_true rfl⟩ ⟨Nat.le_of_ble_eq_true rfl, Nat.le_of_ble_eq_true rfl⟩ [0, 1] rfl ⟨rfl, rfl⟩ rfl rfl 0 0 rfl rfl rfl rfl (Nat.le_of_ble_eq_true rfl) (ff_cons (xl_fst _ _ _ _ _ _ _ _ _ _ _ _) (ff_cons (wl_fst _ _ _ _) (ff_nil))) (ws' := [xl xx xn xt xk xe xo xv xc xr cI (m_hi M, m_rf M), wl xn cI S, wl xt cI T1, wl xk cI K1, tl xe cI (m_q M), ol xo xp cI qo, wl xp cI T2, al xv xq cI qa, wl xq cI T3, cl xc xs xw cW qc, wl xs cI T4, wl (xw 0) cI V0, wl (xw 1) cI V1, wl (xw 2) cI V2, wl (xw 3) cI V3, wl (xw 4) cI V4, wl (xw 5) cI V5, wl (xw 6) cI V6, wl (xw 7) cI V7, rl xr xu cI (m_rw M, m_rn M), wl xu cI T5, ml m cI S M]) rfl ?_
      refine G.al X dL_law_895 1 rfl ?_
      refine G.al X dL_law_896 3 rfl ?_
      refine G.il X dL_law_897 0 rfl ?_
      refine G.pu X dL_law_898 ?_
      refine G.nadd X (a := i) (b := 1) dL_law_899 ?_
      refine G.sld X hX (i := i + 1) dL_law_900 (by omega) (by omega) ?_
      refine G.top (b := 0) ew9 ?_
      refine G.cvi X kX7_alike lL_125 dL_law_901 (tX7_alike_0 l D cI cW m S M hI.ok) ⟨Nat.le_of_ble_eq_true rfl, Nat.le_of_ble_eq_true rfl⟩ ⟨Nat.le_of_ble_eq_true rfl, Nat.le_of_ble_eq_true rfl⟩ [21] rfl ⟨rfl, rfl⟩ rfl rfl 21 0 rfl rfl rfl rfl (Nat.le_of_ble_eq_true rfl) (ff_cons (ml_fst _ _ _ _ _ _) (ff_nil)) (ws' := [xl xx xn xt xk xe xo xv xc xr cI (m_hi M, m_rf M), wl xn cI S, wl xt cI T1, wl xk cI K1, tl xe cI (m_q M), ol xo xp cI qo, wl xp cI T2, al xv xq cI qa, wl xq cI T3, cl xc xs xw cW qc, wl xs cI T4, wl (xw 0) cI V0, wl (xw 1) cI V1, wl (xw 2) cI V2, wl (xw 3) cI V3, wl (xw 4) cI V4, wl (xw 5) cI V5, wl (xw 6) cI V6, wl (xw 7) cI V7, rl xr xu cI (m_rw M, m_rn M), wl xu cI T5, ml m cI S M]) rfl ?_
      refine G.c_eq X (a := nI (w_al S (s_th S))) (b := (nI (m_al S (s_th S)).1)) dL_law_904 (fun h904 => ?_) (fun h904 => absurd ((congrArg nI (q_alike0 S))) h904)
      exact kend S M T1 K1 qo T2 qa T3 qc T4 V0 V1 V2 V3 V4 V5 V6 V7 T5 hI
    · refine G.al X dL_law_886 2 rfl ?_
      refine G.al X dL_law_887 3 rfl ?_
      refine G.il X dL_law_888 0 rfl ?_
      refine G.pu X dL_law_889 ?_
      refine G.nadd X (a := i) (b := 1) dL_law_890 ?_
      refine G.sld X hX (i := i + 1) dL_law_891 (by omega) (by omega) ?_
      refine G.top (b := 1) ew9 ?_
      refine G.cvi X kX6_alike lL_122 dL_law_892 (tX6_alike_1 l D cI cW xx xn xt xk xe xo xv xc xr (m_hi M, m_rf M) S hI.ok) ⟨Nat.le_of_ble_eq_true rfl, Nat.le_of_ble_eq_true rfl⟩ ⟨Nat.le_of_ble_eq_true rfl, Nat.le_of_ble_eq_true rfl⟩ [0, 1] rfl ⟨rfl, rfl⟩ rfl rfl 0 0 rfl rfl rfl rfl (Nat.le_of_ble_eq_true rfl) (ff_cons (xl_fst _ _ _ _ _ _ _ _ _ _ _ _) (ff_cons (wl_fst _ _ _ _) (ff_nil))) (ws' := [xl xx xn xt xk xe xo xv xc xr cI (m_hi M, m_rf M), wl xn cI S, wl xt cI T1, wl xk cI K1, tl xe cI (m_q M), ol xo xp cI qo, wl xp cI T2, al xv xq cI qa, wl xq cI T3, cl xc xs xw cW qc, wl xs cI T4, wl (xw 0) cI V0, wl (xw 1) cI V1, wl (xw 2) cI V2, wl (xw 3) cI V3, wl (xw 4) cI V4, wl (xw 5) cI V5, wl (xw 6) cI V6, wl (xw 7) cI V7, rl xr xu cI (m_rw M, m_rn M), wl xu cI T5, ml m cI S M]) rfl ?_
      refine G.al X dL_law_895 1 rfl ?_
      refine G.al X dL_law_896 3 rfl ?_
      refine G.il X dL_law_897 0 rfl ?_
      refine G.pu X dL_law_898 ?_
      refine G.nadd X (a := i) (b := 1) dL_law_899 ?_
      refine G.sld X hX (i := i + 1) dL_law_900 (by omega) (by omega) ?_
      refine G.top (b := 1) ew9 ?_
      refine G.cvi X kX7_alike lL_125 dL_law_901 (tX7_alike_1 l D cI cW m S M hI.ok) ⟨Nat.le_of_ble_eq_true rfl, Nat.le_of_ble_eq_true rfl⟩ ⟨Nat.le_of_ble_eq_true rfl, Nat.le_of_ble_eq_true rfl⟩ [21] rfl ⟨rfl, rfl⟩ rfl rfl 21 0 rfl rfl rfl rfl (Nat.le_of_ble_eq_true rfl) (ff_cons (ml_fst _ _ _ _ _ _) (ff_nil)) (ws' := [xl xx xn xt xk xe xo xv xc xr cI (m_hi M, m_rf M), wl xn cI S, wl xt cI T1, wl xk cI K1, tl xe cI (m_q M), ol xo xp cI qo, wl xp cI T2, al xv xq cI qa, wl xq cI T3, cl xc xs xw cW qc, wl xs cI T4, wl (xw 0) cI V0, wl (xw 1) cI V1, wl (xw 2) cI V2, wl (xw 3) cI V3, wl (xw 4) cI V4, wl (xw 5) cI V5, wl (xw 6) cI V6, wl (xw 7) cI V7, rl xr xu cI (m_rw M, m_rn M), wl xu cI T5, ml m cI S M]) rfl ?_
      refine G.c_eq X (a := (w_ft S)) (b := ((m_al S (s_th S)).2)) dL_law_904 (fun h904 => ?_) (fun h904 => absurd ((q_alike1 S)) h904)
      exact kend S M T1 K1 qo T2 qa T3 qc T4 V0 V1 V2 V3 V4 V5 V6 V7 T5 hI
  · replace zw : z_in (sc (i + 1)) 2 = false := by simpa using zw
    refine G.al X dL_law_886 2 rfl ?_
    refine G.al X dL_law_887 3 rfl ?_
    refine G.il X dL_law_888 0 rfl ?_
    refine G.pu X dL_law_889 ?_
    refine G.nadd X (a := i) (b := 1) dL_law_890 ?_
    refine G.sld X hX (i := i + 1) dL_law_891 (by omega) (by omega) ?_
    refine G.cvi X kX6_alike lL_122 dL_law_892 (tX6_alike_oth l D cI cW xx xn xt xk xe xo xv xc xr (m_hi M, m_rf M) S (sc (i + 1)) hI.ok zw) ⟨Nat.le_of_ble_eq_true rfl, Nat.le_of_ble_eq_true rfl⟩ ⟨Nat.le_of_ble_eq_true rfl, Nat.le_of_ble_eq_true rfl⟩ [0, 1] rfl ⟨rfl, rfl⟩ rfl rfl 0 0 rfl rfl rfl rfl (Nat.le_of_ble_eq_true rfl) (ff_cons (xl_fst _ _ _ _ _ _ _ _ _ _ _ _) (ff_cons (wl_fst _ _ _ _) (ff_nil))) (ws' := [xl xx xn xt xk xe xo xv xc xr cI (x_rf (m_hi M, m_rf M) 2), wl xn cI S, wl xt cI T1, wl xk cI K1, tl xe cI (m_q M), ol xo xp cI qo, wl xp cI T2, al xv xq cI qa, wl xq cI T3, cl xc xs xw cW qc, wl xs cI T4, wl (xw 0) cI V0, wl (xw 1) cI V1, wl (xw 2) cI V2, wl (xw 3) cI V3, wl (xw 4) cI V4, wl (xw 5) cI V5, wl (xw 6) cI V6, wl (xw 7) cI V7, rl xr xu cI (m_rw M, m_rn M), wl xu cI T5, ml m cI S M]) rfl ?_
    refine G.al X dL_law_895 1 rfl ?_
    refine G.al X dL_law_896 3 rfl ?_
    refine G.il X dL_law_897 0 rfl ?_
    refine G.pu X dL_law_898 ?_
    refine G.nadd X (a := i) (b := 1) dL_law_899 ?_
    refine G.sld X hX (i := i + 1) dL_law_900 (by omega) (by omega) ?_
    refine G.cvi X kX7_alike lL_125 dL_law_901 (tX7_alike_oth l D cI cW m S M (sc (i + 1)) hI.ok zw) ⟨Nat.le_of_ble_eq_true rfl, Nat.le_of_ble_eq_true rfl⟩ ⟨Nat.le_of_ble_eq_true rfl, Nat.le_of_ble_eq_true rfl⟩ [21] rfl ⟨rfl, rfl⟩ rfl rfl 21 0 rfl rfl rfl rfl (Nat.le_of_ble_eq_true rfl) (ff_cons (ml_fst _ _ _ _ _ _) (ff_nil)) (ws' := [xl xx xn xt xk xe xo xv xc xr cI (x_rf (m_hi M, m_rf M) 2), wl xn cI S, wl xt cI T1, wl xk cI K1, tl xe cI (m_q M), ol xo xp cI qo, wl xp cI T2, al xv xq cI qa, wl xq cI T3, cl xc xs xw cW qc, wl xs cI T4, wl (xw 0) cI V0, wl (xw 1) cI V1, wl (xw 2) cI V2, wl (xw 3) cI V3, wl (xw 4) cI V4, wl (xw 5) cI V5, wl (xw 6) cI V6, wl (xw 7) cI V7, rl xr xu cI (m_rw M, m_rn M), wl xu cI T5, ml m cI S (m_no M 2)]) rfl ?_
    refine G.c_eq X (a := (-2)) (b := (-2)) dL_law_904 (fun h904 => ?_) (fun h904 => absurd (rfl) h904)
    exact kend S (m_no M 2) T1 K1 qo T2 qa T3 qc T4 V0 V1 V2 V3 V4 V5 V6 V7 T5 (hI.no 2)

set_option maxRecDepth 20000 in
theorem law_27 {l : Launch} {D : va_G} {cI cW : ClassId} {x : GC} (X : GOK x l D cI cW RL cL_law 4 room_1) {b L i : Nat} {sc : Nat → Int32} (hX : GX x b L sc) (hL : L ≤ 2560) (hi : i + 5 ≤ L) {xx xn xt xk xe xo xp xv xq xc xs : Nat → Nat} {xw : Nat → Nat → Nat} {xr xu m : Nat → Nat} (kend : ∀ (S : WS) (M : MS) (T1 : WS) (K1 : WS) (qo : FN) (T2 : WS) (qa : FN × FN) (T3 : WS) (qc : Int32 × Int32 × Int32) (T4 : WS) (V0 : WS) (V1 : WS) (V2 : WS) (V3 : WS) (V4 : WS) (V5 : WS) (V6 : WS) (V7 : WS) (T5 : WS), IV S M K1 → G x 165 1897 (LW cI cW xx xn xt xk xe xo xp xv xq xc xs xw xr xu m S M T1 K1 qo T2 qa T3 qc T4 V0 V1 V2 V3 V4 V5 V6 V7 T5) 1230 [(3, .int (nI i)), (2, .ref (m 0)), (1, .ref (xx 0)), (0, .ref b)] []) (S : WS) (M : MS) (T1 : WS) (K1 : WS) (qo : FN) (T2 : WS) (qa : FN × FN) (T3 : WS) (qc : Int32 × Int32 × Int32) (T4 : WS) (V0 : WS) (V1 : WS) (V2 : WS) (V3 : WS) (V4 : WS) (V5 : WS) (V6 : WS) (V7 : WS) (T5 : WS) (hI : IV S M K1) : G x 165 1897 (LW cI cW xx xn xt xk xe xo xp xv xq xc xs xw xr xu m S M T1 K1 qo T2 qa T3 qc T4 V0 V1 V2 V3 V4 V5 V6 V7 T5) 909 [(3, .int (nI i)), (2, .ref (m 0)), (1, .ref (xx 0)), (0, .ref b)] [] := by
  show G x 165 1897 ([xl xx xn xt xk xe xo xv xc xr cI (m_hi M, m_rf M), wl xn cI S, wl xt cI T1, wl xk cI K1, tl xe cI (m_q M), ol xo xp cI qo, wl xp cI T2, al xv xq cI qa, wl xq cI T3, cl xc xs xw cW qc, wl xs cI T4, wl (xw 0) cI V0, wl (xw 1) cI V1, wl (xw 2) cI V2, wl (xw 3) cI V3, wl (xw 4) cI V4, wl (xw 5) cI V5, wl (xw 6) cI V6, wl (xw 7) cI V7, rl xr xu cI (m_rw M, m_rn M), wl xu cI T5, ml m cI S M]) 909 [(3, .int (nI i)), (2, .ref (m 0)), (1, .ref (xx 0)), (0, .ref b)] []
  by_cases zt : z_in (sc (i + 1)) 8 = true
  · obtain ⟨t, ht, et⟩ := z_in_t zt
    refine G.al X dL_law_909 2 rfl ?_
    refine G.al X dL_law_910 3 rfl ?_
    refine G.il X dL_law_911 0 rfl ?_
    refine G.pu X dL_law_912 ?_
    refine G.nadd X (a := i) (b := 1) dL_law_913 ?_
    refine G.sld X hX (i := i + 1) dL_law_914 (by omega) (by omega) ?_
    refine G.top (b := nI t) et ?_
    refine G.cvi X kX6_knower lL_126 dL_law_915 (tX6_knower_ok l D cI cW xx xn xt xk xe xo xv xc xr (m_hi M, m_rf M) S t hI.ok ht) ⟨Nat.le_of_ble_eq_true rfl, Nat.le_of_ble_eq_true rfl⟩ ⟨Nat.le_of_ble_eq_true rfl, Nat.le_of_ble_eq_true rfl⟩ [0, 1] rfl ⟨rfl, rfl⟩ rfl rfl 0 0 rfl rfl rfl rfl (Nat.le_of_ble_eq_true rfl) (ff_cons (xl_fst _ _ _ _ _ _ _ _ _ _ _ _) (ff_cons (wl_fst _ _ _ _) (ff_nil))) (ws' := [xl xx xn xt xk xe xo xv xc xr cI (m_hi M, m_rf M), wl xn cI S, wl xt cI T1, wl xk cI K1, tl xe cI (m_q M), ol xo xp cI qo, wl xp cI T2, al xv xq cI qa, wl xq cI T3, cl xc xs xw cW qc, wl xs cI T4, wl (xw 0) cI V0, wl (xw 1) cI V1, wl (xw 2) cI V2, wl (xw 3) cI V3, wl (xw 4) cI V4, wl (xw 5) cI V5, wl (xw 6) cI V6, wl (xw 7) cI V7, rl xr xu cI (m_rw M, m_rn M), wl xu cI T5, ml m cI S M]) rfl ?_
    refine G.al X dL_law_918 1 rfl ?_
    refine G.al X dL_law_919 3 rfl ?_
    refine G.il X dL_law_920 0 rfl ?_
    refine G.pu X dL_law_921 ?_
    refine G.nadd X (a := i) (b := 1) dL_law_922 ?_
    refine G.sld X hX (i := i + 1) dL_law_923 (by omega) (by omega) ?_
    refine G.top (b := nI t) et ?_
    refine G.cvi X kX7_knower lL_129 dL_law_924 (tX7_knower_ok l D cI cW m S M t hI.ok ht) ⟨Nat.le_of_ble_eq_true rfl, Nat.le_of_ble_eq_true rfl⟩ ⟨Nat.le_of_ble_eq_true rfl, Nat.le_of_ble_eq_true rfl⟩ [21] rfl ⟨rfl, rfl⟩ rfl rfl 21 0 rfl rfl rfl rfl (Nat.le_of_ble_eq_true rfl) (ff_cons (ml_fst _ _ _ _ _ _) (ff_nil)) (ws' := [xl xx xn xt xk xe xo xv xc xr cI (m_hi M, m_rf M), wl xn cI S, wl xt cI T1, wl xk cI K1, tl xe cI (m_q M), ol xo xp cI qo, wl xp cI T2, al xv xq cI qa, wl xq cI T3, cl xc xs xw cW qc, wl xs cI T4, wl (xw 0) cI V0, wl (xw 1) cI V1, wl (xw 2) cI V2, wl (xw 3) cI V3, wl (xw 4) cI V4, wl (xw 5) cI V5, wl (xw 6) cI V6, wl (xw 7) cI V7, rl xr xu cI (m_rw M, m_rn M), wl xu cI T5, ml m cI S M]) rfl ?_
    refine G.c_eq X (a := ((bmax (fun p => hasb (s_kn S p) (nI t)) (s_an S) (-9, -1) (s_pe S)).1)) (b := (o2i (bix (fun p => hasb (s_kn S p) (nI t)) (fun i j => decide (s_an S i < s_an S j)) (s_pe S)))) dL_law_927 (fun h927 => ?_) (fun h927 => absurd ((q_knower hI.ok t)) h927)
    exact kend S M T1 K1 qo T2 qa T3 qc T4 V0 V1 V2 V3 V4 V5 V6 V7 T5 hI
  · replace zt : z_in (sc (i + 1)) 8 = false := by simpa using zt
    refine G.al X dL_law_909 2 rfl ?_
    refine G.al X dL_law_910 3 rfl ?_
    refine G.il X dL_law_911 0 rfl ?_
    refine G.pu X dL_law_912 ?_
    refine G.nadd X (a := i) (b := 1) dL_law_913 ?_
    refine G.sld X hX (i := i + 1) dL_law_914 (by omega) (by omega) ?_
    refine G.cvi X kX6_knower lL_126 dL_law_915 (tX6_knower_bad l D cI cW xx xn xt xk xe xo xv xc xr (m_hi M, m_rf M) S (sc (i + 1)) hI.ok zt) ⟨Nat.le_of_ble_eq_true rfl, Nat.le_of_ble_eq_true rfl⟩ ⟨Nat.le_of_ble_eq_true rfl, Nat.le_of_ble_eq_true rfl⟩ [0, 1] rfl ⟨rfl, rfl⟩ rfl rfl 0 0 rfl rfl rfl rfl (Nat.le_of_ble_eq_true rfl) (ff_cons (xl_fst _ _ _ _ _ _ _ _ _ _ _ _) (ff_cons (wl_fst _ _ _ _) (ff_nil))) (ws' := [xl xx xn xt xk xe xo xv xc xr cI (x_rf (m_hi M, m_rf M) 1), wl xn cI S, wl xt cI T1, wl xk cI K1, tl xe cI (m_q M), ol xo xp cI qo, wl xp cI T2, al xv xq cI qa, wl xq cI T3, cl xc xs xw cW qc, wl xs cI T4, wl (xw 0) cI V0, wl (xw 1) cI V1, wl (xw 2) cI V2, wl (xw 3) cI V3, wl (xw 4) cI V4, wl (xw 5) cI V5, wl (xw 6) cI V6, wl (xw 7) cI V7, rl xr xu cI (m_rw M, m_rn M), wl xu cI T5, ml m cI S M]) rfl ?_
    refine G.al X dL_law_918 1 rfl ?_
    refine G.al X dL_law_919 3 rfl ?_
    refine G.il X dL_law_920 0 rfl ?_
    refine G.pu X dL_law_921 ?_
    refine G.nadd X (a := i) (b := 1) dL_law_922 ?_
    refine G.sld X hX (i := i + 1) dL_law_923 (by omega) (by omega) ?_
    refine G.cvi X kX7_knower lL_129 dL_law_924 (tX7_knower_bad l D cI cW m S M (sc (i + 1)) hI.ok zt) ⟨Nat.le_of_ble_eq_true rfl, Nat.le_of_ble_eq_true rfl⟩ ⟨Nat.le_of_ble_eq_true rfl, Nat.le_of_ble_eq_true rfl⟩ [21] rfl ⟨rfl, rfl⟩ rfl rfl 21 0 rfl rfl rfl rfl (Nat.le_of_ble_eq_true rfl) (ff_cons (ml_fst _ _ _ _ _ _) (ff_nil)) (ws' := [xl xx xn xt xk xe xo xv xc xr cI (x_rf (m_hi M, m_rf M) 1), wl xn cI S, wl xt cI T1, wl xk cI K1, tl xe cI (m_q M), ol xo xp cI qo, wl xp cI T2, al xv xq cI qa, wl xq cI T3, cl xc xs xw cW qc, wl xs cI T4, wl (xw 0) cI V0, wl (xw 1) cI V1, wl (xw 2) cI V2, wl (xw 3) cI V3, wl (xw 4) cI V4, wl (xw 5) cI V5, wl (xw 6) cI V6, wl (xw 7) cI V7, rl xr xu cI (m_rw M, m_rn M), wl xu cI T5, ml m cI S (m_no M 1)]) rfl ?_
    refine G.c_eq X (a := (-1)) (b := (-1)) dL_law_927 (fun h927 => ?_) (fun h927 => absurd (rfl) h927)
    exact kend S (m_no M 1) T1 K1 qo T2 qa T3 qc T4 V0 V1 V2 V3 V4 V5 V6 V7 T5 (hI.no 1)

set_option maxRecDepth 20000 in
theorem law_28 {l : Launch} {D : va_G} {cI cW : ClassId} {x : GC} (X : GOK x l D cI cW RL cL_law 4 room_1) {b L i : Nat} {sc : Nat → Int32} (hX : GX x b L sc) (hL : L ≤ 2560) (hi : i + 5 ≤ L) {xx xn xt xk xe xo xp xv xq xc xs : Nat → Nat} {xw : Nat → Nat → Nat} {xr xu m : Nat → Nat} (kend : ∀ (S : WS) (M : MS) (T1 : WS) (K1 : WS) (qo : FN) (T2 : WS) (qa : FN × FN) (T3 : WS) (qc : Int32 × Int32 × Int32) (T4 : WS) (V0 : WS) (V1 : WS) (V2 : WS) (V3 : WS) (V4 : WS) (V5 : WS) (V6 : WS) (V7 : WS) (T5 : WS), IV S M K1 → G x 165 1897 (LW cI cW xx xn xt xk xe xo xp xv xq xc xs xw xr xu m S M T1 K1 qo T2 qa T3 qc T4 V0 V1 V2 V3 V4 V5 V6 V7 T5) 1230 [(3, .int (nI i)), (2, .ref (m 0)), (1, .ref (xx 0)), (0, .ref b)] []) (S : WS) (M : MS) (T1 : WS) (K1 : WS) (qo : FN) (T2 : WS) (qa : FN × FN) (T3 : WS) (qc : Int32 × Int32 × Int32) (T4 : WS) (V0 : WS) (V1 : WS) (V2 : WS) (V3 : WS) (V4 : WS) (V5 : WS) (V6 : WS) (V7 : WS) (T5 : WS) (hI : IV S M K1) : G x 165 1897 (LW cI cW xx xn xt xk xe xo xp xv xq xc xs xw xr xu m S M T1 K1 qo T2 qa T3 qc T4 V0 V1 V2 V3 V4 V5 V6 V7 T5) 932 [(3, .int (nI i)), (2, .ref (m 0)), (1, .ref (xx 0)), (0, .ref b)] [] := by
  show G x 165 1897 ([xl xx xn xt xk xe xo xv xc xr cI (m_hi M, m_rf M), wl xn cI S, wl xt cI T1, wl xk cI K1, tl xe cI (m_q M), ol xo xp cI qo, wl xp cI T2, al xv xq cI qa, wl xq cI T3, cl xc xs xw cW qc, wl xs cI T4, wl (xw 0) cI V0, wl (xw 1) cI V1, wl (xw 2) cI V2, wl (xw 3) cI V3, wl (xw 4) cI V4, wl (xw 5) cI V5, wl (xw 6) cI V6, wl (xw 7) cI V7, rl xr xu cI (m_rw M, m_rn M), wl xu cI T5, ml m cI S M]) 932 [(3, .int (nI i)), (2, .ref (m 0)), (1, .ref (xx 0)), (0, .ref b)] []
  refine G.al X dL_law_932 2 rfl ?_
  refine G.cvi X kX6_truth lL_130 dL_law_933 (tX6_truth l D cI cW xx xn xt xk xe xo xv xc xr (m_hi M, m_rf M) S hI.ok) ⟨Nat.le_of_ble_eq_true rfl, Nat.le_of_ble_eq_true rfl⟩ ⟨Nat.le_of_ble_eq_true rfl, Nat.le_of_ble_eq_true rfl⟩ [0, 1] rfl ⟨rfl, rfl⟩ rfl rfl 0 0 rfl rfl rfl rfl (Nat.le_of_ble_eq_true rfl) (ff_cons (xl_fst _ _ _ _ _ _ _ _ _ _ _ _) (ff_cons (wl_fst _ _ _ _) (ff_nil))) (ws' := [xl xx xn xt xk xe xo xv xc xr cI (m_hi M, m_rf M), wl xn cI S, wl xt cI T1, wl xk cI K1, tl xe cI (m_q M), ol xo xp cI qo, wl xp cI T2, al xv xq cI qa, wl xq cI T3, cl xc xs xw cW qc, wl xs cI T4, wl (xw 0) cI V0, wl (xw 1) cI V1, wl (xw 2) cI V2, wl (xw 3) cI V3, wl (xw 4) cI V4, wl (xw 5) cI V5, wl (xw 6) cI V6, wl (xw 7) cI V7, rl xr xu cI (m_rw M, m_rn M), wl xu cI T5, ml m cI S M]) rfl ?_
  refine G.al X dL_law_936 1 rfl ?_
  refine G.cvi X kX7_truth lL_133 dL_law_937 (tX7_truth l D cI cW m S M hI.ok) ⟨Nat.le_of_ble_eq_true rfl, Nat.le_of_ble_eq_true rfl⟩ ⟨Nat.le_of_ble_eq_true rfl, Nat.le_of_ble_eq_true rfl⟩ [21] rfl ⟨rfl, rfl⟩ rfl rfl 21 0 rfl rfl rfl rfl (Nat.le_of_ble_eq_true rfl) (ff_cons (ml_fst _ _ _ _ _ _) (ff_nil)) (ws' := [xl xx xn xt xk xe xo xv xc xr cI (m_hi M, m_rf M), wl xn cI S, wl xt cI T1, wl xk cI K1, tl xe cI (m_q M), ol xo xp cI qo, wl xp cI T2, al xv xq cI qa, wl xq cI T3, cl xc xs xw cW qc, wl xs cI T4, wl (xw 0) cI V0, wl (xw 1) cI V1, wl (xw 2) cI V2, wl (xw 3) cI V3, wl (xw 4) cI V4, wl (xw 5) cI V5, wl (xw 6) cI V6, wl (xw 7) cI V7, rl xr xu cI (m_rw M, m_rn M), wl xu cI T5, ml m cI S M]) rfl ?_
  refine G.n_eq X (a := w_tr S (s_th S)) (b := w_tr S (s_th S)) (by have := w_tr_le S (s_th S); have := hI.ok.th; omega) (by have := w_tr_le S (s_th S); have := hI.ok.th; omega) dL_law_940 (fun h940 => ?_) (fun h940 => absurd (rfl) h940)
  exact kend S M T1 K1 qo T2 qa T3 qc T4 V0 V1 V2 V3 V4 V5 V6 V7 T5 hI
