set_option maxRecDepth 20000 in
theorem law_11 {l : Launch} {D : va_G} {cI cW : ClassId} {x : GC} (X : GOK x l D cI cW RL cL_law 4 room_1) {b L i : Nat} {sc : Nat → Int32} (hX : GX x b L sc) (hL : L ≤ 2560) (hi : i + 5 ≤ L) {xx xn xt xk xe xo xp xv xq xc xs : Nat → Nat} {xw : Nat → Nat → Nat} {xr xu m : Nat → Nat} (kend : ∀ (S : WS) (M : MS) (T1 : WS) (K1 : WS) (qo : FN) (T2 : WS) (qa : FN × FN) (T3 : WS) (qc : Int32 × Int32 × Int32) (T4 : WS) (V0 : WS) (V1 : WS) (V2 : WS) (V3 : WS) (V4 : WS) (V5 : WS) (V6 : WS) (V7 : WS) (T5 : WS), IV S M K1 → G x 165 1897 (LW cI cW xx xn xt xk xe xo xp xv xq xc xs xw xr xu m S M T1 K1 qo T2 qa T3 qc T4 V0 V1 V2 V3 V4 V5 V6 V7 T5) 1230 [(3, .int (nI i)), (2, .ref (m 0)), (1, .ref (xx 0)), (0, .ref b)] []) (S : WS) (M : MS) (T1 : WS) (K1 : WS) (qo : FN) (T2 : WS) (qa : FN × FN) (T3 : WS) (qc : Int32 × Int32 × Int32) (T4 : WS) (V0 : WS) (V1 : WS) (V2 : WS) (V3 : WS) (V4 : WS) (V5 : WS) (V6 : WS) (V7 : WS) (T5 : WS) (hI : IV S M K1) : G x 165 1897 (LW cI cW xx xn xt xk xe xo xp xv xq xc xs xw xr xu m S M T1 K1 qo T2 qa T3 qc T4 V0 V1 V2 V3 V4 V5 V6 V7 T5) 511 [(3, .int (nI i)), (2, .ref (m 0)), (1, .ref (xx 0)), (0, .ref b)] [] := by
  show G x 165 1897 ([xl xx xn xt xk xe xo xv xc xr cI (m_hi M, m_rf M), wl xn cI S, wl xt cI T1, wl xk cI K1, tl xe cI (m_q M), ol xo xp cI qo, wl xp cI T2, al xv xq cI qa, wl xq cI T3, cl xc xs xw cW qc, wl xs cI T4, wl (xw 0) cI V0, wl (xw 1) cI V1, wl (xw 2) cI V2, wl (xw 3) cI V3, wl (xw 4) cI V4, wl (xw 5) cI V5, wl (xw 6) cI V6, wl (xw 7) cI V7, rl xr xu cI (m_rw M, m_rn M), wl xu cI T5, ml m cI S M]) 511 [(3, .int (nI i)), (2, .ref (m 0)), (1, .ref (xx 0)), (0, .ref b)] []
  by_cases zp : z_in (sc (i + 1)) (s_th S) = true
  · obtain ⟨p, hp, ep⟩ := z_in_t zp
    by_cases cnl : sc (i + 2) < 0
    · refine G.al X dL_law_511 2 rfl ?_
      refine G.al X dL_law_512 3 rfl ?_
      refine G.il X dL_law_513 0 rfl ?_
      refine G.pu X dL_law_514 ?_
      refine G.nadd X (a := i) (b := 1) dL_law_515 ?_
      refine G.sld X hX (i := i + 1) dL_law_516 (by omega) (by omega) ?_
      refine G.top (b := nI p) ep ?_
      refine G.al X dL_law_517 3 rfl ?_
      refine G.il X dL_law_518 0 rfl ?_
      refine G.pu X dL_law_519 ?_
      refine G.nadd X (a := i) (b := 2) dL_law_520 ?_
      refine G.sld X hX (i := i + 2) dL_law_521 (by omega) (by omega) ?_
      refine G.al X dL_law_522 3 rfl ?_
      refine G.il X dL_law_523 0 rfl ?_
      refine G.pu X dL_law_524 ?_
      refine G.nadd X (a := i) (b := 3) dL_law_525 ?_
      refine G.sld X hX (i := i + 3) dL_law_526 (by omega) (by omega) ?_
      refine G.cvi X kX6_thingThen lL_61 dL_law_527 (tX6_thingThen_lo l D cI cW xx xn xt xk xe xo xv xc xr (m_hi M, m_rf M) S p (sc (i + 2)) (sc (i + 3)) hI.ok hp (by omega)) ⟨Nat.le_of_ble_eq_true rfl, Nat.le_of_ble_eq_true rfl⟩ ⟨Nat.le_of_ble_eq_true rfl, Nat.le_of_ble_eq_true rfl⟩ [0, 1] rfl ⟨rfl, rfl⟩ rfl rfl 0 0 rfl rfl rfl rfl (Nat.le_of_ble_eq_true rfl) (ff_cons (xl_fst _ _ _ _ _ _ _ _ _ _ _ _) (ff_cons (wl_fst _ _ _ _) (ff_nil))) (ws' := [xl xx xn xt xk xe xo xv xc xr cI (x_rf (m_hi M, m_rf M) 4), wl xn cI S, wl xt cI T1, wl xk cI K1, tl xe cI (m_q M), ol xo xp cI qo, wl xp cI T2, al xv xq cI qa, wl xq cI T3, cl xc xs xw cW qc, wl xs cI T4, wl (xw 0) cI V0, wl (xw 1) cI V1, wl (xw 2) cI V2, wl (xw 3) cI V3, wl (xw 4) cI V4, wl (xw 5) cI V5, wl (xw 6) cI V6, wl (xw 7) cI V7, rl xr xu cI (m_rw M, m_rn M), wl xu cI T5, ml m cI S M]) rfl ?_
      refine G.al X dL_law_530 1 rfl ?_
      refine G.al X dL_law_531 3 rfl ?_
      refine G.il X dL_law_532 0 rfl ?_
      refine G.pu X dL_law_533 ?_
      refine G.nadd X (a := i) (b := 1) dL_law_534 ?_
      refine G.sld X hX (i := i + 1) dL_law_535 (by omega) (by omega) ?_
      refine G.top (b := nI p) ep ?_
      refine G.al X dL_law_536 3 rfl ?_
      refine G.il X dL_law_537 0 rfl ?_
      refine G.pu X dL_law_538 ?_
      refine G.nadd X (a := i) (b := 2) dL_law_539 ?_
      refine G.sld X hX (i := i + 2) dL_law_540 (by omega) (by omega) ?_
      refine G.al X dL_law_541 3 rfl ?_
      refine G.il X dL_law_542 0 rfl ?_
      refine G.pu X dL_law_543 ?_
      refine G.nadd X (a := i) (b := 3) dL_law_544 ?_
      refine G.sld X hX (i := i + 3) dL_law_545 (by omega) (by omega) ?_
      refine G.cvi X kX7_thingThen lL_64 dL_law_546 (tX7_thingThen_lo l D cI cW m S M p (sc (i + 2)) (sc (i + 3)) hI.ok hp (by omega)) ⟨Nat.le_of_ble_eq_true rfl, Nat.le_of_ble_eq_true rfl⟩ ⟨Nat.le_of_ble_eq_true rfl, Nat.le_of_ble_eq_true rfl⟩ [21] rfl ⟨rfl, rfl⟩ rfl rfl 21 0 rfl rfl rfl rfl (Nat.le_of_ble_eq_true rfl) (ff_cons (ml_fst _ _ _ _ _ _) (ff_nil)) (ws' := [xl xx xn xt xk xe xo xv xc xr cI (x_rf (m_hi M, m_rf M) 4), wl xn cI S, wl xt cI T1, wl xk cI K1, tl xe cI (m_q M), ol xo xp cI qo, wl xp cI T2, al xv xq cI qa, wl xq cI T3, cl xc xs xw cW qc, wl xs cI T4, wl (xw 0) cI V0, wl (xw 1) cI V1, wl (xw 2) cI V2, wl (xw 3) cI V3, wl (xw 4) cI V4, wl (xw 5) cI V5, wl (xw 6) cI V6, wl (xw 7) cI V7, rl xr xu cI (m_rw M, m_rn M), wl xu cI T5, ml m cI S (m_no M 4)]) rfl ?_
      refine G.c_eq X (a := (-4)) (b := (-4)) dL_law_549 (fun h549 => ?_) (fun h549 => absurd (rfl) h549)
      exact kend S (m_no M 4) T1 K1 qo T2 qa T3 qc T4 V0 V1 V2 V3 V4 V5 V6 V7 T5 (hI.no 4)
    · by_cases cnh : 99 < sc (i + 2)
      · refine G.al X dL_law_511 2 rfl ?_
        refine G.al X dL_law_512 3 rfl ?_
        refine G.il X dL_law_513 0 rfl ?_
        refine G.pu X dL_law_514 ?_
        refine G.nadd X (a := i) (b := 1) dL_law_515 ?_
        refine G.sld X hX (i := i + 1) dL_law_516 (by omega) (by omega) ?_
        refine G.top (b := nI p) ep ?_
        refine G.al X dL_law_517 3 rfl ?_
        refine G.il X dL_law_518 0 rfl ?_
        refine G.pu X dL_law_519 ?_
        refine G.nadd X (a := i) (b := 2) dL_law_520 ?_
        refine G.sld X hX (i := i + 2) dL_law_521 (by omega) (by omega) ?_
        refine G.al X dL_law_522 3 rfl ?_
        refine G.il X dL_law_523 0 rfl ?_
        refine G.pu X dL_law_524 ?_
        refine G.nadd X (a := i) (b := 3) dL_law_525 ?_
        refine G.sld X hX (i := i + 3) dL_law_526 (by omega) (by omega) ?_
        refine G.cvi X kX6_thingThen lL_61 dL_law_527 (tX6_thingThen_hi l D cI cW xx xn xt xk xe xo xv xc xr (m_hi M, m_rf M) S p (sc (i + 2)) (sc (i + 3)) hI.ok hp (by omega) (by omega)) ⟨Nat.le_of_ble_eq_true rfl, Nat.le_of_ble_eq_true rfl⟩ ⟨Nat.le_of_ble_eq_true rfl, Nat.le_of_ble_eq_true rfl⟩ [0, 1] rfl ⟨rfl, rfl⟩ rfl rfl 0 0 rfl rfl rfl rfl (Nat.le_of_ble_eq_true rfl) (ff_cons (xl_fst _ _ _ _ _ _ _ _ _ _ _ _) (ff_cons (wl_fst _ _ _ _) (ff_nil))) (ws' := [xl xx xn xt xk xe xo xv xc xr cI (x_rf (m_hi M, m_rf M) 6), wl xn cI S, wl xt cI T1, wl xk cI K1, tl xe cI (m_q M), ol xo xp cI qo, wl xp cI T2, al xv xq cI qa, wl xq cI T3, cl xc xs xw cW qc, wl xs cI T4, wl (xw 0) cI V0, wl (xw 1) cI V1, wl (xw 2) cI V2, wl (xw 3) cI V3, wl (xw 4) cI V4, wl (xw 5) cI V5, wl (xw 6) cI V6, wl (xw 7) cI V7, rl xr xu cI (m_rw M, m_rn M), wl xu cI T5, ml m cI S M]) rfl ?_
        refine G.al X dL_law_530 1 rfl ?_
        refine G.al X dL_law_531 3 rfl ?_
        refine G.il X dL_law_532 0 rfl ?_
        refine G.pu X dL_law_533 ?_
        refine G.nadd X (a := i) (b := 1) dL_law_534 ?_
        refine G.sld X hX (i := i + 1) dL_law_535 (by omega) (by omega) ?_
        refine G.top (b := nI p) ep ?_
        refine G.al X dL_law_536 3 rfl ?_
        refine G.il X dL_law_537 0 rfl ?_
        refine G.pu X dL_law_538 ?_
        refine G.nadd X (a := i) (b := 2) dL_law_539 ?_
        refine G.sld X hX (i := i + 2) dL_law_540 (by omega) (by omega) ?_
        refine G.al X dL_law_541 3 rfl ?_
        refine G.il X dL_law_542 0 rfl ?_
        refine G.pu X dL_law_543 ?_
        refine G.nadd X (a := i) (b := 3) dL_law_544 ?_
        refine G.sld X hX (i := i + 3) dL_law_545 (by omega) (by omega) ?_
        refine G.cvi X kX7_thingThen lL_64 dL_law_546 (tX7_thingThen_hi l D cI cW m S M p (sc (i + 2)) (sc (i + 3)) hI.ok hp (by omega) (by omega)) ⟨Nat.le_of_ble_eq_true rfl, Nat.le_of_ble_eq_true rfl⟩ ⟨Nat.le_of_ble_eq_true rfl, Nat.le_of_ble_eq_true rfl⟩ [21] rfl ⟨rfl, rfl⟩ rfl rfl 21 0 rfl rfl rfl rfl (Nat.le_of_ble_eq_true rfl) (ff_cons (ml_fst _ _ _ _ _ _) (ff_nil)) (ws' := [xl xx xn xt xk xe xo xv xc xr cI (x_rf (m_hi M, m_rf M) 6), wl xn cI S, wl xt cI T1, wl xk cI K1, tl xe cI (m_q M), ol xo xp cI qo, wl xp cI T2, al xv xq cI qa, wl xq cI T3, cl xc xs xw cW qc, wl xs cI T4, wl (xw 0) cI V0, wl (xw 1) cI V1, wl (xw 2) cI V2, wl (xw 3) cI V3, wl (xw 4) cI V4, wl (xw 5) cI V5, wl (xw 6) cI V6, wl (xw 7) cI V7, rl xr xu cI (m_rw M, m_rn M), wl xu cI T5, ml m cI S (m_no M 6)]) rfl ?_
        refine G.c_eq X (a := (-6)) (b := (-6)) dL_law_549 (fun h549 => ?_) (fun h549 => absurd (rfl) h549)
        exact kend S (m_no M 6) T1 K1 qo T2 qa T3 qc T4 V0 V1 V2 V3 V4 V5 V6 V7 T5 (hI.no 6)
      · obtain ⟨n, ⟨hn1, hn2⟩, en⟩ := n_rng (lo := 0) (hi := 99) (by decide) (by decide) cnl cnh
        by_cases zw : z_in (sc (i + 3)) 2 = true
        · obtain ⟨w9, hw9, ew9⟩ := z_in_t zw
          rcases (show w9 = 0 ∨ w9 = 1 by omega) with rfl | rfl
          · refine G.al X dL_law_511 2 rfl ?_
            refine G.al X dL_law_512 3 rfl ?_
            refine G.il X dL_law_513 0 rfl ?_
            refine G.pu X dL_law_514 ?_
            refine G.nadd X (a := i) (b := 1) dL_law_515 ?_
            refine G.sld X hX (i := i + 1) dL_law_516 (by omega) (by omega) ?_
            refine G.top (b := nI p) ep ?_
            refine G.al X dL_law_517 3 rfl ?_
            refine G.il X dL_law_518 0 rfl ?_
            refine G.pu X dL_law_519 ?_
            refine G.nadd X (a := i) (b := 2) dL_law_520 ?_
            refine G.sld X hX (i := i + 2) dL_law_521 (by omega) (by omega) ?_
            refine G.top (b := nI n) en ?_
            refine G.al X dL_law_522 3 rfl ?_
            refine G.il X dL_law_523 0 rfl ?_
            refine G.pu X dL_law_524 ?_
            refine G.nadd X (a := i) (b := 3) dL_law_525 ?_
            refine G.sld X hX (i := i + 3) dL_law_526 (by omega) (by omega) ?_
            refine G.top (b := 0) ew9 ?_
            refine G.cvi X kX6_thingThen lL_61 dL_law_527 (tX6_thingThen_0 l D cI cW xx xn xt xk xe xo xv xc xr (m_hi M, m_rf M) S xp qo T2 p n hI.ok hp hn2) ⟨Nat.le_of_ble_eq_true rfl, Nat.le_of_ble_eq_true rfl⟩ ⟨Nat.le_of_ble_eq_true rfl, Nat.le_of_ble_eq_true rfl⟩ [0, 1, 5, 6] rfl ⟨rfl, rfl⟩ rfl rfl 0 0 rfl rfl rfl rfl (Nat.le_of_ble_eq_true rfl) (ff_cons (xl_fst _ _ _ _ _ _ _ _ _ _ _ _) (ff_cons (wl_fst _ _ _ _) (ff_cons (ol_fst _ _ _ _ _) (ff_cons (wl_fst _ _ _ _) (ff_nil))))) (ws' := [xl xx xn xt xk xe xo xv xc xr cI (m_hi M, m_rf M), wl xn cI S, wl xt cI T1, wl xk cI K1, tl xe cI (m_q M), ol xo xp cI qo, wl xp cI (w_dayN S n), al xv xq cI qa, wl xq cI T3, cl xc xs xw cW qc, wl xs cI T4, wl (xw 0) cI V0, wl (xw 1) cI V1, wl (xw 2) cI V2, wl (xw 3) cI V3, wl (xw 4) cI V4, wl (xw 5) cI V5, wl (xw 6) cI V6, wl (xw 7) cI V7, rl xr xu cI (m_rw M, m_rn M), wl xu cI T5, ml m cI S M]) rfl ?_
            refine G.al X dL_law_530 1 rfl ?_
            refine G.al X dL_law_531 3 rfl ?_
            refine G.il X dL_law_532 0 rfl ?_
            refine G.pu X dL_law_533 ?_
            refine G.nadd X (a := i) (b := 1) dL_law_534 ?_
            refine G.sld X hX (i := i + 1) dL_law_535 (by omega) (by omega) ?_
            refine G.top (b := nI p) ep ?_
            refine G.al X dL_law_536 3 rfl ?_
            refine G.il X dL_law_537 0 rfl ?_
            refine G.pu X dL_law_538 ?_
            refine G.nadd X (a := i) (b := 2) dL_law_539 ?_
            refine G.sld X hX (i := i + 2) dL_law_540 (by omega) (by omega) ?_
            refine G.top (b := nI n) en ?_
            refine G.al X dL_law_541 3 rfl ?_
            refine G.il X dL_law_542 0 rfl ?_
            refine G.pu X dL_law_543 ?_
            refine G.nadd X (a := i) (b := 3) dL_law_544 ?_
            refine G.sld X hX (i := i + 3) dL_law_545 (by omega) (by omega) ?_
            refine G.top (b := 0) ew9 ?_
            refine G.cvie X kX7_thingThen lL_64 dL_law_546 (tX7_thingThen_0 l D cI cW m S M p n hI.ok hI.co hp hn2) ⟨Nat.le_of_ble_eq_true rfl, Nat.le_of_ble_eq_true rfl⟩ ⟨Nat.le_of_ble_eq_true rfl, Nat.le_of_ble_eq_true rfl⟩ [21] rfl ⟨rfl, rfl⟩ rfl rfl 21 0 rfl rfl rfl rfl (Nat.le_of_ble_eq_true rfl) (fun _ => (ff_cons (ml_fst _ _ _ _ _ _) (ff_nil))) (f8 := fun M9_546 : {M9_546 : MS // Mq 64 M M9_546} => [xl xx xn xt xk xe xo xv xc xr cI (m_hi M, m_rf M), wl xn cI S, wl xt cI T1, wl xk cI K1, tl xe cI (m_q M), ol xo xp cI qo, wl xp cI (w_dayN S n), al xv xq cI qa, wl xq cI T3, cl xc xs xw cW qc, wl xs cI T4, wl (xw 0) cI V0, wl (xw 1) cI V1, wl (xw 2) cI V2, wl (xw 3) cI V3, wl (xw 4) cI V4, wl (xw 5) cI V5, wl (xw 6) cI V6, wl (xw 7) cI V7, rl xr xu cI (m_rw M, m_rn M), wl xu cI T5, ml m cI S M9_546.1]) (fun _ => rfl) (fun M9_546 => ?_)
            refine G.c_eq X (a := (s_wa (w_dayN S n) p)) (b := (s_wa (w_dayN S n) p)) dL_law_549 (fun h549 => ?_) (fun h549 => absurd (rfl) h549)
            rw [LW_q M9_546.2]
            exact kend S M9_546.1 T1 K1 qo (w_dayN S n) qa T3 qc T4 V0 V1 V2 V3 V4 V5 V6 V7 T5 (hI.q M9_546.2)
          · refine G.al X dL_law_511 2 rfl ?_
            refine G.al X dL_law_512 3 rfl ?_
            refine G.il X dL_law_513 0 rfl ?_
            refine G.pu X dL_law_514 ?_
            refine G.nadd X (a := i) (b := 1) dL_law_515 ?_
            refine G.sld X hX (i := i + 1) dL_law_516 (by omega) (by omega) ?_
            refine G.top (b := nI p) ep ?_
            refine G.al X dL_law_517 3 rfl ?_
            refine G.il X dL_law_518 0 rfl ?_
            refine G.pu X dL_law_519 ?_
            refine G.nadd X (a := i) (b := 2) dL_law_520 ?_
            refine G.sld X hX (i := i + 2) dL_law_521 (by omega) (by omega) ?_
            refine G.top (b := nI n) en ?_
            refine G.al X dL_law_522 3 rfl ?_
            refine G.il X dL_law_523 0 rfl ?_
            refine G.pu X dL_law_524 ?_
            refine G.nadd X (a := i) (b := 3) dL_law_525 ?_
            refine G.sld X hX (i := i + 3) dL_law_526 (by omega) (by omega) ?_
            refine G.top (b := 1) ew9 ?_
            refine G.cvi X kX6_thingThen lL_61 dL_law_527 (tX6_thingThen_1 l D cI cW xx xn xt xk xe xo xv xc xr (m_hi M, m_rf M) S xp qo T2 p n hI.ok hp hn2) ⟨Nat.le_of_ble_eq_true rfl, Nat.le_of_ble_eq_true rfl⟩ ⟨Nat.le_of_ble_eq_true rfl, Nat.le_of_ble_eq_true rfl⟩ [0, 1, 5, 6] rfl ⟨rfl, rfl⟩ rfl rfl 0 0 rfl rfl rfl rfl (Nat.le_of_ble_eq_true rfl) (ff_cons (xl_fst _ _ _ _ _ _ _ _ _ _ _ _) (ff_cons (wl_fst _ _ _ _) (ff_cons (ol_fst _ _ _ _ _) (ff_cons (wl_fst _ _ _ _) (ff_nil))))) (ws' := [xl xx xn xt xk xe xo xv xc xr cI (m_hi M, m_rf M), wl xn cI S, wl xt cI T1, wl xk cI K1, tl xe cI (m_q M), ol xo xp cI qo, wl xp cI (w_dayN S n), al xv xq cI qa, wl xq cI T3, cl xc xs xw cW qc, wl xs cI T4, wl (xw 0) cI V0, wl (xw 1) cI V1, wl (xw 2) cI V2, wl (xw 3) cI V3, wl (xw 4) cI V4, wl (xw 5) cI V5, wl (xw 6) cI V6, wl (xw 7) cI V7, rl xr xu cI (m_rw M, m_rn M), wl xu cI T5, ml m cI S M]) rfl ?_
            refine G.al X dL_law_530 1 rfl ?_
            refine G.al X dL_law_531 3 rfl ?_
            refine G.il X dL_law_532 0 rfl ?_
            refine G.pu X dL_law_533 ?_
            refine G.nadd X (a := i) (b := 1) dL_law_534 ?_
            refine G.sld X hX (i := i + 1) dL_law_535 (by omega) (by omega) ?_
            refine G.top (b := nI p) ep ?_
            refine G.al X dL_law_536 3 rfl ?_
            refine G.il X dL_law_537 0 rfl ?_
            refine G.pu X dL_law_538 ?_
            refine G.nadd X (a := i) (b := 2) dL_law_539 ?_
            refine G.sld X hX (i := i + 2) dL_law_540 (by omega) (by omega) ?_
            refine G.top (b := nI n) en ?_
            refine G.al X dL_law_541 3 rfl ?_
            refine G.il X dL_law_542 0 rfl ?_
            refine G.pu X dL_law_543 ?_
            refine G.nadd X (a := i) (b := 3) dL_law_544 ?_
            refine G.sld X hX (i := i + 3) dL_law_545 (by omega) (by omega) ?_
            refine G.top (b := 1) ew9 ?_
            refine G.cvie X kX7_thingThen lL_64 dL_law_546 (tX7_thingThen_1 l D cI cW m S M p n hI.ok hI.co hp hn2) ⟨Nat.le_of_ble_eq_true rfl, Nat.le_of_ble_eq_true rfl⟩ ⟨Nat.le_of_ble_eq_true rfl, Nat.le_of_ble_eq_true rfl⟩ [21] rfl ⟨rfl, rfl⟩ rfl rfl 21 0 rfl rfl rfl rfl (Nat.le_of_ble_eq_true rfl) (fun _ => (ff_cons (ml_fst _ _ _ _ _ _) (ff_nil))) (f8 := fun M9_546 : {M9_546 : MS // Mq 64 M M9_546} => [xl xx xn xt xk xe xo xv xc xr cI (m_hi M, m_rf M), wl xn cI S, wl xt cI T1, wl xk cI K1, tl xe cI (m_q M), ol xo xp cI qo, wl xp cI (w_dayN S n), al xv xq cI qa, wl xq cI T3, cl xc xs xw cW qc, wl xs cI T4, wl (xw 0) cI V0, wl (xw 1) cI V1, wl (xw 2) cI V2, wl (xw 3) cI V3, wl (xw 4) cI V4, wl (xw 5) cI V5, wl (xw 6) cI V6, wl (xw 7) cI V7, rl xr xu cI (m_rw M, m_rn M), wl xu cI T5, ml m cI S M9_546.1]) (fun _ => rfl) (fun M9_546 => ?_)
            refine G.c_eq X (a := (s_le (w_dayN S n) p)) (b := (s_le (w_dayN S n) p)) dL_law_549 (fun h549 => ?_) (fun h549 => absurd (rfl) h549)
            rw [LW_q M9_546.2]
            exact kend S M9_546.1 T1 K1 qo (w_dayN S n) qa T3 qc T4 V0 V1 V2 V3 V4 V5 V6 V7 T5 (hI.q M9_546.2)
        · replace zw : z_in (sc (i + 3)) 2 = false := by simpa using zw
          refine G.al X dL_law_511 2 rfl ?_
          refine G.al X dL_law_512 3 rfl ?_
          refine G.il X dL_law_513 0 rfl ?_
          refine G.pu X dL_law_514 ?_
          refine G.nadd X (a := i) (b := 1) dL_law_515 ?_
          refine G.sld X hX (i := i + 1) dL_law_516 (by omega) (by omega) ?_
          refine G.top (b := nI p) ep ?_
          refine G.al X dL_law_517 3 rfl ?_
          refine G.il X dL_law_518 0 rfl ?_
          refine G.pu X dL_law_519 ?_
          refine G.nadd X (a := i) (b := 2) dL_law_520 ?_
          refine G.sld X hX (i := i + 2) dL_law_521 (by omega) (by omega) ?_
          refine G.top (b := nI n) en ?_
          refine G.al X dL_law_522 3 rfl ?_
          refine G.il X dL_law_523 0 rfl ?_
          refine G.pu X dL_law_524 ?_
          refine G.nadd X (a := i) (b := 3) dL_law_525 ?_
          refine G.sld X hX (i := i + 3) dL_law_526 (by omega) (by omega) ?_
          refine G.cvi X kX6_thingThen lL_61 dL_law_527 (tX6_thingThen_oth l D cI cW xx xn xt xk xe xo xv xc xr (m_hi M, m_rf M) S p n (sc (i + 3)) hI.ok hp hn2 zw) ⟨Nat.le_of_ble_eq_true rfl, Nat.le_of_ble_eq_true rfl⟩ ⟨Nat.le_of_ble_eq_true rfl, Nat.le_of_ble_eq_true rfl⟩ [0, 1] rfl ⟨rfl, rfl⟩ rfl rfl 0 0 rfl rfl rfl rfl (Nat.le_of_ble_eq_true rfl) (ff_cons (xl_fst _ _ _ _ _ _ _ _ _ _ _ _) (ff_cons (wl_fst _ _ _ _) (ff_nil))) (ws' := [xl xx xn xt xk xe xo xv xc xr cI (x_rf (m_hi M, m_rf M) 2), wl xn cI S, wl xt cI T1, wl xk cI K1, tl xe cI (m_q M), ol xo xp cI qo, wl xp cI T2, al xv xq cI qa, wl xq cI T3, cl xc xs xw cW qc, wl xs cI T4, wl (xw 0) cI V0, wl (xw 1) cI V1, wl (xw 2) cI V2, wl (xw 3) cI V3, wl (xw 4) cI V4, wl (xw 5) cI V5, wl (xw 6) cI V6, wl (xw 7) cI V7, rl xr xu cI (m_rw M, m_rn M), wl xu cI T5, ml m cI S M]) rfl ?_
          refine G.al X dL_law_530 1 rfl ?_
          refine G.al X dL_law_531 3 rfl ?_
          refine G.il X dL_law_532 0 rfl ?_
          refine G.pu X dL_law_533 ?_
          refine G.nadd X (a := i) (b := 1) dL_law_534 ?_
          refine G.sld X hX (i := i + 1) dL_law_535 (by omega) (by omega) ?_
          refine G.top (b := nI p) ep ?_
          refine G.al X dL_law_536 3 rfl ?_
          refine G.il X dL_law_537 0 rfl ?_
          refine G.pu X dL_law_538 ?_
          refine G.nadd X (a := i) (b := 2) dL_law_539 ?_
          refine G.sld X hX (i := i + 2) dL_law_540 (by omega) (by omega) ?_
          refine G.top (b := nI n) en ?_
          refine G.al X dL_law_541 3 rfl ?_
          refine G.il X dL_law_542 0 rfl ?_
          refine G.pu X dL_law_543 ?_
          refine G.nadd X (a := i) (b := 3) dL_law_544 ?_
          refine G.sld X hX (i := i + 3) dL_law_545 (by omega) (by omega) ?_
          refine G.cvi X kX7_thingThen lL_64 dL_law_546 (tX7_thingThen_oth l D cI cW m S M p n (sc (i + 3)) hI.ok hp hn2 zw) ⟨Nat.le_of_ble_eq_true rfl, Nat.le_of_ble_eq_true rfl⟩ ⟨Nat.le_of_ble_eq_true rfl, Nat.le_of_ble_eq_true rfl⟩ [21] rfl ⟨rfl, rfl⟩ rfl rfl 21 0 rfl rfl rfl rfl (Nat.le_of_ble_eq_true rfl) (ff_cons (ml_fst _ _ _ _ _ _) (ff_nil)) (ws' := [xl xx xn xt xk xe xo xv xc xr cI (x_rf (m_hi M, m_rf M) 2), wl xn cI S, wl xt cI T1, wl xk cI K1, tl xe cI (m_q M), ol xo xp cI qo, wl xp cI T2, al xv xq cI qa, wl xq cI T3, cl xc xs xw cW qc, wl xs cI T4, wl (xw 0) cI V0, wl (xw 1) cI V1, wl (xw 2) cI V2, wl (xw 3) cI V3, wl (xw 4) cI V4, wl (xw 5) cI V5, wl (xw 6) cI V6, wl (xw 7) cI V7, rl xr xu cI (m_rw M, m_rn M), wl xu cI T5, ml m cI S (m_no M 2)]) rfl ?_
          refine G.c_eq X (a := (-2)) (b := (-2)) dL_law_549 (fun h549 => ?_) (fun h549 => absurd (rfl) h549)
          exact kend S (m_no M 2) T1 K1 qo T2 qa T3 qc T4 V0 V1 V2 V3 V4 V5 V6 V7 T5 (hI.no 2)
  · replace zp : z_in (sc (i + 1)) (s_th S) = false := by simpa using zp
    refine G.al X dL_law_511 2 rfl ?_
    refine G.al X dL_law_512 3 rfl ?_
    refine G.il X dL_law_513 0 rfl ?_
    refine G.pu X dL_law_514 ?_
    refine G.nadd X (a := i) (b := 1) dL_law_515 ?_
    refine G.sld X hX (i := i + 1) dL_law_516 (by omega) (by omega) ?_
    refine G.al X dL_law_517 3 rfl ?_
    refine G.il X dL_law_518 0 rfl ?_
    refine G.pu X dL_law_519 ?_
    refine G.nadd X (a := i) (b := 2) dL_law_520 ?_
    refine G.sld X hX (i := i + 2) dL_law_521 (by omega) (by omega) ?_
    refine G.al X dL_law_522 3 rfl ?_
    refine G.il X dL_law_523 0 rfl ?_
    refine G.pu X dL_law_524 ?_
    refine G.nadd X (a := i) (b := 3) dL_law_525 ?_
    refine G.sld X hX (i := i + 3) dL_law_526 (by omega) (by omega) ?_
    refine G.cvi X kX6_thingThen lL_61 dL_law_527 (tX6_thingThen_bad l D cI cW xx xn xt xk xe xo xv xc xr (m_hi M, m_rf M) S (sc (i + 1)) (sc (i + 2)) (sc (i + 3)) hI.ok zp) ⟨Nat.le_of_ble_eq_true rfl, Nat.le_of_ble_eq_true rfl⟩ ⟨Nat.le_of_ble_eq_true rfl, Nat.le_of_ble_eq_true rfl⟩ [0, 1] rfl ⟨rfl, rfl⟩ rfl rfl 0 0 rfl rfl rfl rfl (Nat.le_of_ble_eq_true rfl) (ff_cons (xl_fst _ _ _ _ _ _ _ _ _ _ _ _) (ff_cons (wl_fst _ _ _ _) (ff_nil))) (ws' := [xl xx xn xt xk xe xo xv xc xr cI (x_rf (m_hi M, m_rf M) 1), wl xn cI S, wl xt cI T1, wl xk cI K1, tl xe cI (m_q M), ol xo xp cI qo, wl xp cI T2, al xv xq cI qa, wl xq cI T3, cl xc xs xw cW qc, wl xs cI T4, wl (xw 0) cI V0, wl (xw 1) cI V1, wl (xw 2) cI V2, wl (xw 3) cI V3, wl (xw 4) cI V4, wl (xw 5) cI V5, wl (xw 6) cI V6, wl (xw 7) cI V7, rl xr xu cI (m_rw M, m_rn M), wl xu cI T5, ml m cI S M]) rfl ?_
    refine G.al X dL_law_530 1 rfl ?_
    refine G.al X dL_law_531 3 rfl ?_
    refine G.il X dL_law_532 0 rfl ?_
    refine G.pu X dL_law_533 ?_
    refine G.nadd X (a := i) (b := 1) dL_law_534 ?_
    refine G.sld X hX (i := i + 1) dL_law_535 (by omega) (by omega) ?_
    refine G.al X dL_law_536 3 rfl ?_
    refine G.il X dL_law_537 0 rfl ?_
    refine G.pu X dL_law_538 ?_
    refine G.nadd X (a := i) (b := 2) dL_law_539 ?_
    refine G.sld X hX (i := i + 2) dL_law_540 (by omega) (by omega) ?_
    refine G.al X dL_law_541 3 rfl ?_
    refine G.il X dL_law_542 0 rfl ?_
    refine G.pu X dL_law_543 ?_
    refine G.nadd X (a := i) (b := 3) dL_law_544 ?_
    refine G.sld X hX (i := i + 3) dL_law_545 (by omega) (by omega) ?_
    refine G.cvi X kX7_thingThen lL_64 dL_law_546 (tX7_thingThen_bad l D cI cW m S M (sc (i + 1)) (sc (i + 2)) (sc (i + 3)) hI.ok zp) ⟨Nat.le_of_ble_eq_true rfl, Nat.le_of_ble_eq_true rfl⟩ ⟨Nat.le_of_ble_eq_true rfl, Nat.le_of_ble_eq_true rfl⟩ [21] rfl ⟨rfl, rfl⟩ rfl rfl 21 0 rfl rfl rfl rfl (Nat.le_of_ble_eq_true rfl) (ff_cons (ml_fst _ _ _ _ _ _) (ff_nil)) (ws' := [xl xx xn xt xk xe xo xv xc xr cI (x_rf (m_hi M, m_rf M) 1), wl xn cI S, wl xt cI T1, wl xk cI K1, tl xe cI (m_q M), ol xo xp cI qo, wl xp cI T2, al xv xq cI qa, wl xq cI T3, cl xc xs xw cW qc, wl xs cI T4, wl (xw 0) cI V0, wl (xw 1) cI V1, wl (xw 2) cI V2, wl (xw 3) cI V3, wl (xw 4) cI V4, wl (xw 5) cI V5, wl (xw 6) cI V6, wl (xw 7) cI V7, rl xr xu cI (m_rw M, m_rn M), wl xu cI T5, ml m cI S (m_no M 1)]) rfl ?_
    refine G.c_eq X (a := (-1)) (b := (-1)) dL_law_549 (fun h549 => ?_) (fun h549 => absurd (rfl) h549)
    exact kend S (m_no M 1) T1 K1 qo T2 qa T3 qc T4 V0 V1 V2 V3 V4 V5 V6 V7 T5 (hI.no 1)

set_option maxRecDepth 20000 in
theorem law_12 {l : Launch} {D : va_G} {cI cW : ClassId} {x : GC} (X : GOK x l D cI cW RL cL_law 4 room_1) {b L i : Nat} {sc : Nat → Int32} (hX : GX x b L sc) (hL : L ≤ 2560) (hi : i + 5 ≤ L) {xx xn xt xk xe xo xp xv xq xc xs : Nat → Nat} {xw : Nat → Nat → Nat} {xr xu m : Nat → Nat} (kend : ∀ (S : WS) (M : MS) (T1 : WS) (K1 : WS) (qo : FN) (T2 : WS) (qa : FN × FN) (T3 : WS) (qc : Int32 × Int32 × Int32) (T4 : WS) (V0 : WS) (V1 : WS) (V2 : WS) (V3 : WS) (V4 : WS) (V5 : WS) (V6 : WS) (V7 : WS) (T5 : WS), IV S M K1 → G x 165 1897 (LW cI cW xx xn xt xk xe xo xp xv xq xc xs xw xr xu m S M T1 K1 qo T2 qa T3 qc T4 V0 V1 V2 V3 V4 V5 V6 V7 T5) 1230 [(3, .int (nI i)), (2, .ref (m 0)), (1, .ref (xx 0)), (0, .ref b)] []) (S : WS) (M : MS) (T1 : WS) (K1 : WS) (qo : FN) (T2 : WS) (qa : FN × FN) (T3 : WS) (qc : Int32 × Int32 × Int32) (T4 : WS) (V0 : WS) (V1 : WS) (V2 : WS) (V3 : WS) (V4 : WS) (V5 : WS) (V6 : WS) (V7 : WS) (T5 : WS) (hI : IV S M K1) : G x 165 1897 (LW cI cW xx xn xt xk xe xo xp xv xq xc xs xw xr xu m S M T1 K1 qo T2 qa T3 qc T4 V0 V1 V2 V3 V4 V5 V6 V7 T5) 554 [(3, .int (nI i)), (2, .ref (m 0)), (1, .ref (xx 0)), (0, .ref b)] [] := by
  show G x 165 1897 ([xl xx xn xt xk xe xo xv xc xr cI (m_hi M, m_rf M), wl xn cI S, wl xt cI T1, wl xk cI K1, tl xe cI (m_q M), ol xo xp cI qo, wl xp cI T2, al xv xq cI qa, wl xq cI T3, cl xc xs xw cW qc, wl xs cI T4, wl (xw 0) cI V0, wl (xw 1) cI V1, wl (xw 2) cI V2, wl (xw 3) cI V3, wl (xw 4) cI V4, wl (xw 5) cI V5, wl (xw 6) cI V6, wl (xw 7) cI V7, rl xr xu cI (m_rw M, m_rn M), wl xu cI T5, ml m cI S M]) 554 [(3, .int (nI i)), (2, .ref (m 0)), (1, .ref (xx 0)), (0, .ref b)] []
  by_cases cnl : sc (i + 1) < 0
  · refine G.al X dL_law_554 2 rfl ?_
    refine G.al X dL_law_555 3 rfl ?_
    refine G.il X dL_law_556 0 rfl ?_
    refine G.pu X dL_law_557 ?_
    refine G.nadd X (a := i) (b := 1) dL_law_558 ?_
    refine G.sld X hX (i := i + 1) dL_law_559 (by omega) (by omega) ?_
    refine G.al X dL_law_560 3 rfl ?_
    refine G.il X dL_law_561 0 rfl ?_
    refine G.pu X dL_law_562 ?_
    refine G.nadd X (a := i) (b := 2) dL_law_563 ?_
    refine G.sld X hX (i := i + 2) dL_law_564 (by omega) (by omega) ?_
    refine G.cvi X kX6_askThen lL_65 dL_law_565 (tX6_askThen_lo l D cI cW xx xn xt xk xe xo xv xc xr (m_hi M, m_rf M) S (sc (i + 1)) (sc (i + 2)) hI.ok (by omega)) ⟨Nat.le_of_ble_eq_true rfl, Nat.le_of_ble_eq_true rfl⟩ ⟨Nat.le_of_ble_eq_true rfl, Nat.le_of_ble_eq_true rfl⟩ [0, 1] rfl ⟨rfl, rfl⟩ rfl rfl 0 0 rfl rfl rfl rfl (Nat.le_of_ble_eq_true rfl) (ff_cons (xl_fst _ _ _ _ _ _ _ _ _ _ _ _) (ff_cons (wl_fst _ _ _ _) (ff_nil))) (ws' := [xl xx xn xt xk xe xo xv xc xr cI (x_rf (m_hi M, m_rf M) 4), wl xn cI S, wl xt cI T1, wl xk cI K1, tl xe cI (m_q M), ol xo xp cI qo, wl xp cI T2, al xv xq cI qa, wl xq cI T3, cl xc xs xw cW qc, wl xs cI T4, wl (xw 0) cI V0, wl (xw 1) cI V1, wl (xw 2) cI V2, wl (xw 3) cI V3, wl (xw 4) cI V4, wl (xw 5) cI V5, wl (xw 6) cI V6, wl (xw 7) cI V7, rl xr xu cI (m_rw M, m_rn M), wl xu cI T5, ml m cI S M]) rfl ?_
    refine G.al X dL_law_568 1 rfl ?_
    refine G.al X dL_law_569 3 rfl ?_
    refine G.il X dL_law_570 0 rfl ?_
    refine G.pu X dL_law_571 ?_
    refine G.nadd X (a := i) (b := 1) dL_law_572 ?_
    refine G.sld X hX (i := i + 1) dL_law_573 (by omega) (by omega) ?_
    refine G.al X dL_law_574 3 rfl ?_
    refine G.il X dL_law_575 0 rfl ?_
    refine G.pu X dL_law_576 ?_
    refine G.nadd X (a := i) (b := 2) dL_law_577 ?_
    refine G.sld X hX (i := i + 2) dL_law_578 (by omega) (by omega) ?_
    refine G.cvi X kX7_askThen lL_68 dL_law_579 (tX7_askThen_lo l D cI cW m S M (sc (i + 1)) (sc (i + 2)) hI.ok (by omega)) ⟨Nat.le_of_ble_eq_true rfl, Nat.le_of_ble_eq_true rfl⟩ ⟨Nat.le_of_ble_eq_true rfl, Nat.le_of_ble_eq_true rfl⟩ [21] rfl ⟨rfl, rfl⟩ rfl rfl 21 0 rfl rfl rfl rfl (Nat.le_of_ble_eq_true rfl) (ff_cons (ml_fst _ _ _ _ _ _) (ff_nil)) (ws' := [xl xx xn xt xk xe xo xv xc xr cI (x_rf (m_hi M, m_rf M) 4), wl xn cI S, wl xt cI T1, wl xk cI K1, tl xe cI (m_q M), ol xo xp cI qo, wl xp cI T2, al xv xq cI qa, wl xq cI T3, cl xc xs xw cW qc, wl xs cI T4, wl (xw 0) cI V0, wl (xw 1) cI V1, wl (xw 2) cI V2, wl (xw 3) cI V3, wl (xw 4) cI V4, wl (xw 5) cI V5, wl (xw 6) cI V6, wl (xw 7) cI V7, rl xr xu cI (m_rw M, m_rn M), wl xu cI T5, ml m cI S (m_no M 4)]) rfl ?_
    refine G.c_eq X (a := (-4)) (b := (-4)) dL_law_582 (fun h582 => ?_) (fun h582 => absurd (rfl) h582)
    exact kend S (m_no M 4) T1 K1 qo T2 qa T3 qc T4 V0 V1 V2 V3 V4 V5 V6 V7 T5 (hI.no 4)
  · by_cases cnh : 99 < sc (i + 1)
    · refine G.al X dL_law_554 2 rfl ?_
      refine G.al X dL_law_555 3 rfl ?_
      refine G.il X dL_law_556 0 rfl ?_
      refine G.pu X dL_law_557 ?_
      refine G.nadd X (a := i) (b := 1) dL_law_558 ?_
      refine G.sld X hX (i := i + 1) dL_law_559 (by omega) (by omega) ?_
      refine G.al X dL_law_560 3 rfl ?_
      refine G.il X dL_law_561 0 rfl ?_
      refine G.pu X dL_law_562 ?_
      refine G.nadd X (a := i) (b := 2) dL_law_563 ?_
      refine G.sld X hX (i := i + 2) dL_law_564 (by omega) (by omega) ?_
      refine G.cvi X kX6_askThen lL_65 dL_law_565 (tX6_askThen_hi l D cI cW xx xn xt xk xe xo xv xc xr (m_hi M, m_rf M) S (sc (i + 1)) (sc (i + 2)) hI.ok (by omega) (by omega)) ⟨Nat.le_of_ble_eq_true rfl, Nat.le_of_ble_eq_true rfl⟩ ⟨Nat.le_of_ble_eq_true rfl, Nat.le_of_ble_eq_true rfl⟩ [0, 1] rfl ⟨rfl, rfl⟩ rfl rfl 0 0 rfl rfl rfl rfl (Nat.le_of_ble_eq_true rfl) (ff_cons (xl_fst _ _ _ _ _ _ _ _ _ _ _ _) (ff_cons (wl_fst _ _ _ _) (ff_nil))) (ws' := [xl xx xn xt xk xe xo xv xc xr cI (x_rf (m_hi M, m_rf M) 6), wl xn cI S, wl xt cI T1, wl xk cI K1, tl xe cI (m_q M), ol xo xp cI qo, wl xp cI T2, al xv xq cI qa, wl xq cI T3, cl xc xs xw cW qc, wl xs cI T4, wl (xw 0) cI V0, wl (xw 1) cI V1, wl (xw 2) cI V2, wl (xw 3) cI V3, wl (xw 4) cI V4, wl (xw 5) cI V5, wl (xw 6) cI V6, wl (xw 7) cI V7, rl xr xu cI (m_rw M, m_rn M), wl xu cI T5, ml m cI S M]) rfl ?_
      refine G.al X dL_law_568 1 rfl ?_
      refine G.al X dL_law_569 3 rfl ?_
      refine G.il X dL_law_570 0 rfl ?_
      refine G.pu X dL_law_571 ?_
      refine G.nadd X (a := i) (b := 1) dL_law_572 ?_
      refine G.sld X hX (i := i + 1) dL_law_573 (by omega) (by omega) ?_
      refine G.al X dL_law_574 3 rfl ?_
      refine G.il X dL_law_575 0 rfl ?_
      refine G.pu X dL_law_576 ?_
      refine G.nadd X (a := i) (b := 2) dL_law_577 ?_
      refine G.sld X hX (i := i + 2) dL_law_578 (by omega) (by omega) ?_
      refine G.cvi X kX7_askThen lL_68 dL_law_579 (tX7_askThen_hi l D cI cW m S M (sc (i + 1)) (sc (i + 2)) hI.ok (by omega) (by omega)) ⟨Nat.le_of_ble_eq_true rfl, Nat.le_of_ble_eq_true rfl⟩ ⟨Nat.le_of_ble_eq_true rfl, Nat.le_of_ble_eq_true rfl⟩ [21] rfl ⟨rfl, rfl⟩ rfl rfl 21 0 rfl rfl rfl rfl (Nat.le_of_ble_eq_true rfl) (ff_cons (ml_fst _ _ _ _ _ _) (ff_nil)) (ws' := [xl xx xn xt xk xe xo xv xc xr cI (x_rf (m_hi M, m_rf M) 6), wl xn cI S, wl xt cI T1, wl xk cI K1, tl xe cI (m_q M), ol xo xp cI qo, wl xp cI T2, al xv xq cI qa, wl xq cI T3, cl xc xs xw cW qc, wl xs cI T4, wl (xw 0) cI V0, wl (xw 1) cI V1, wl (xw 2) cI V2, wl (xw 3) cI V3, wl (xw 4) cI V4, wl (xw 5) cI V5, wl (xw 6) cI V6, wl (xw 7) cI V7, rl xr xu cI (m_rw M, m_rn M), wl xu cI T5, ml m cI S (m_no M 6)]) rfl ?_
      refine G.c_eq X (a := (-6)) (b := (-6)) dL_law_582 (fun h582 => ?_) (fun h582 => absurd (rfl) h582)
      exact kend S (m_no M 6) T1 K1 qo T2 qa T3 qc T4 V0 V1 V2 V3 V4 V5 V6 V7 T5 (hI.no 6)
    · obtain ⟨n, ⟨hn1, hn2⟩, en⟩ := n_rng (lo := 0) (hi := 99) (by decide) (by decide) cnl cnh
      by_cases zw : z_in (sc (i + 2)) 2 = true
      · obtain ⟨w9, hw9, ew9⟩ := z_in_t zw
        rcases (show w9 = 0 ∨ w9 = 1 by omega) with rfl | rfl
        · refine G.al X dL_law_554 2 rfl ?_
          refine G.al X dL_law_555 3 rfl ?_
          refine G.il X dL_law_556 0 rfl ?_
          refine G.pu X dL_law_557 ?_
          refine G.nadd X (a := i) (b := 1) dL_law_558 ?_
          refine G.sld X hX (i := i + 1) dL_law_559 (by omega) (by omega) ?_
          refine G.top (b := nI n) en ?_
          refine G.al X dL_law_560 3 rfl ?_
          refine G.il X dL_law_561 0 rfl ?_
          refine G.pu X dL_law_562 ?_
          refine G.nadd X (a := i) (b := 2) dL_law_563 ?_
          refine G.sld X hX (i := i + 2) dL_law_564 (by omega) (by omega) ?_
          refine G.top (b := 0) ew9 ?_
          refine G.cvi X kX6_askThen lL_65 dL_law_565 (tX6_askThen_0 l D cI cW xx xn xt xk xe xo xv xc xr (m_hi M, m_rf M) S xp qo T2 n hI.ok hn2) ⟨Nat.le_of_ble_eq_true rfl, Nat.le_of_ble_eq_true rfl⟩ ⟨Nat.le_of_ble_eq_true rfl, Nat.le_of_ble_eq_true rfl⟩ [0, 1, 5, 6] rfl ⟨rfl, rfl⟩ rfl rfl 0 0 rfl rfl rfl rfl (Nat.le_of_ble_eq_true rfl) (ff_cons (xl_fst _ _ _ _ _ _ _ _ _ _ _ _) (ff_cons (wl_fst _ _ _ _) (ff_cons (ol_fst _ _ _ _ _) (ff_cons (wl_fst _ _ _ _) (ff_nil))))) (ws' := [xl xx xn xt xk xe xo xv xc xr cI (m_hi M, m_rf M), wl xn cI S, wl xt cI T1, wl xk cI K1, tl xe cI (m_q M), ol xo xp cI qo, wl xp cI (w_dayN S n), al xv xq cI qa, wl xq cI T3, cl xc xs xw cW qc, wl xs cI T4, wl (xw 0) cI V0, wl (xw 1) cI V1, wl (xw 2) cI V2, wl (xw 3) cI V3, wl (xw 4) cI V4, wl (xw 5) cI V5, wl (xw 6) cI V6, wl (xw 7) cI V7, rl xr xu cI (m_rw M, m_rn M), wl xu cI T5, ml m cI S M]) rfl ?_
          refine G.al X dL_law_568 1 rfl ?_
          refine G.al X dL_law_569 3 rfl ?_
          refine G.il X dL_law_570 0 rfl ?_
          refine G.pu X dL_law_571 ?_
          refine G.nadd X (a := i) (b := 1) dL_law_572 ?_
          refine G.sld X hX (i := i + 1) dL_law_573 (by omega) (by omega) ?_
          refine G.top (b := nI n) en ?_
          refine G.al X dL_law_574 3 rfl ?_
          refine G.il X dL_law_575 0 rfl ?_
          refine G.pu X dL_law_576 ?_
          refine G.nadd X (a := i) (b := 2) dL_law_577 ?_
          refine G.sld X hX (i := i + 2) dL_law_578 (by omega) (by omega) ?_
          refine G.top (b := 0) ew9 ?_
          refine G.cvie X kX7_askThen lL_68 dL_law_579 (tX7_askThen_0 l D cI cW m S M n hI.ok hI.co hn2) ⟨Nat.le_of_ble_eq_true rfl, Nat.le_of_ble_eq_true rfl⟩ ⟨Nat.le_of_ble_eq_true rfl, Nat.le_of_ble_eq_true rfl⟩ [21] rfl ⟨rfl, rfl⟩ rfl rfl 21 0 rfl rfl rfl rfl (Nat.le_of_ble_eq_true rfl) (fun _ => (ff_cons (ml_fst _ _ _ _ _ _) (ff_nil))) (f8 := fun M9_579 : {M9_579 : MS // Mq 64 M M9_579} => [xl xx xn xt xk xe xo xv xc xr cI (m_hi M, m_rf M), wl xn cI S, wl xt cI T1, wl xk cI K1, tl xe cI (m_q M), ol xo xp cI qo, wl xp cI (w_dayN S n), al xv xq cI qa, wl xq cI T3, cl xc xs xw cW qc, wl xs cI T4, wl (xw 0) cI V0, wl (xw 1) cI V1, wl (xw 2) cI V2, wl (xw 3) cI V3, wl (xw 4) cI V4, wl (xw 5) cI V5, wl (xw 6) cI V6, wl (xw 7) cI V7, rl xr xu cI (m_rw M, m_rn M), wl xu cI T5, ml m cI S M9_579.1]) (fun _ => rfl) (fun M9_579 => ?_)
          refine G.c_eq X (a := (askb (w_dayN S n) (s_th (w_dayN S n)))) (b := (askb (w_dayN S n) (s_th (w_dayN S n)))) dL_law_582 (fun h582 => ?_) (fun h582 => absurd (rfl) h582)
          rw [LW_q M9_579.2]
          exact kend S M9_579.1 T1 K1 qo (w_dayN S n) qa T3 qc T4 V0 V1 V2 V3 V4 V5 V6 V7 T5 (hI.q M9_579.2)
        · refine G.al X dL_law_554 2 rfl ?_
          refine G.al X dL_law_555 3 rfl ?_
          refine G.il X dL_law_556 0 rfl ?_
          refine G.pu X dL_law_557 ?_
          refine G.nadd X (a := i) (b := 1) dL_law_558 ?_
          refine G.sld X hX (i := i + 1) dL_law_559 (by omega) (by omega) ?_
          refine G.top (b := nI n) en ?_
          refine G.al X dL_law_560 3 rfl ?_
          refine G.il X dL_law_561 0 rfl ?_
          refine G.pu X dL_law_562 ?_
          refine G.nadd X (a := i) (b := 2) dL_law_563 ?_
          refine G.sld X hX (i := i + 2) dL_law_564 (by omega) (by omega) ?_
          refine G.top (b := 1) ew9 ?_
          refine G.cvi X kX6_askThen lL_65 dL_law_565 (tX6_askThen_1 l D cI cW xx xn xt xk xe xo xv xc xr (m_hi M, m_rf M) S xp qo T2 n hI.ok hn2) ⟨Nat.le_of_ble_eq_true rfl, Nat.le_of_ble_eq_true rfl⟩ ⟨Nat.le_of_ble_eq_true rfl, Nat.le_of_ble_eq_true rfl⟩ [0, 1, 5, 6] rfl ⟨rfl, rfl⟩ rfl rfl 0 0 rfl rfl rfl rfl (Nat.le_of_ble_eq_true rfl) (ff_cons (xl_fst _ _ _ _ _ _ _ _ _ _ _ _) (ff_cons (wl_fst _ _ _ _) (ff_cons (ol_fst _ _ _ _ _) (ff_cons (wl_fst _ _ _ _) (ff_nil))))) (ws' := [xl xx xn xt xk xe xo xv xc xr cI (m_hi M, m_rf M), wl xn cI S, wl xt cI T1, wl xk cI K1, tl xe cI (m_q M), ol xo xp cI qo, wl xp cI (w_dayN S n), al xv xq cI qa, wl xq cI T3, cl xc xs xw cW qc, wl xs cI T4, wl (xw 0) cI V0, wl (xw 1) cI V1, wl (xw 2) cI V2, wl (xw 3) cI V3, wl (xw 4) cI V4, wl (xw 5) cI V5, wl (xw 6) cI V6, wl (xw 7) cI V7, rl xr xu cI (m_rw M, m_rn M), wl xu cI T5, ml m cI S M]) rfl ?_
          refine G.al X dL_law_568 1 rfl ?_
          refine G.al X dL_law_569 3 rfl ?_
          refine G.il X dL_law_570 0 rfl ?_
          refine G.pu X dL_law_571 ?_
          refine G.nadd X (a := i) (b := 1) dL_law_572 ?_
          refine G.sld X hX (i := i + 1) dL_law_573 (by omega) (by omega) ?_
          refine G.top (b := nI n) en ?_
          refine G.al X dL_law_574 3 rfl ?_
          refine G.il X dL_law_575 0 rfl ?_
          refine G.pu X dL_law_576 ?_
          refine G.nadd X (a := i) (b := 2) dL_law_577 ?_
          refine G.sld X hX (i := i + 2) dL_law_578 (by omega) (by omega) ?_
          refine G.top (b := 1) ew9 ?_
          refine G.cvie X kX7_askThen lL_68 dL_law_579 (tX7_askThen_1 l D cI cW m S M n hI.ok hI.co hn2) ⟨Nat.le_of_ble_eq_true rfl, Nat.le_of_ble_eq_true rfl⟩ ⟨Nat.le_of_ble_eq_true rfl, Nat.le_of_ble_eq_true rfl⟩ [21] rfl ⟨rfl, rfl⟩ rfl rfl 21 0 rfl rfl rfl rfl (Nat.le_of_ble_eq_true rfl) (fun _ => (ff_cons (ml_fst _ _ _ _ _ _) (ff_nil))) (f8 := fun M9_579 : {M9_579 : MS // Mq 64 M M9_579} => [xl xx xn xt xk xe xo xv xc xr cI (m_hi M, m_rf M), wl xn cI S, wl xt cI T1, wl xk cI K1, tl xe cI (m_q M), ol xo xp cI qo, wl xp cI (w_dayN S n), al xv xq cI qa, wl xq cI T3, cl xc xs xw cW qc, wl xs cI T4, wl (xw 0) cI V0, wl (xw 1) cI V1, wl (xw 2) cI V2, wl (xw 3) cI V3, wl (xw 4) cI V4, wl (xw 5) cI V5, wl (xw 6) cI V6, wl (xw 7) cI V7, rl xr xu cI (m_rw M, m_rn M), wl xu cI T5, ml m cI S M9_579.1]) (fun _ => rfl) (fun M9_579 => ?_)
          refine G.c_eq X (a := (b2i (w_wat (w_dayN S n)))) (b := (b2i (w_wat (w_dayN S n)))) dL_law_582 (fun h582 => ?_) (fun h582 => absurd (rfl) h582)
          rw [LW_q M9_579.2]
          exact kend S M9_579.1 T1 K1 qo (w_dayN S n) qa T3 qc T4 V0 V1 V2 V3 V4 V5 V6 V7 T5 (hI.q M9_579.2)
      · replace zw : z_in (sc (i + 2)) 2 = false := by simpa using zw
        refine G.al X dL_law_554 2 rfl ?_
        refine G.al X dL_law_555 3 rfl ?_
        refine G.il X dL_law_556 0 rfl ?_
        refine G.pu X dL_law_557 ?_
        refine G.nadd X (a := i) (b := 1) dL_law_558 ?_
        refine G.sld X hX (i := i + 1) dL_law_559 (by omega) (by omega) ?_
        refine G.top (b := nI n) en ?_
        refine G.al X dL_law_560 3 rfl ?_
        refine G.il X dL_law_561 0 rfl ?_
        refine G.pu X dL_law_562 ?_
        refine G.nadd X (a := i) (b := 2) dL_law_563 ?_
        refine G.sld X hX (i := i + 2) dL_law_564 (by omega) (by omega) ?_
        refine G.cvi X kX6_askThen lL_65 dL_law_565 (tX6_askThen_oth l D cI cW xx xn xt xk xe xo xv xc xr (m_hi M, m_rf M) S n (sc (i + 2)) hI.ok hn2 zw) ⟨Nat.le_of_ble_eq_true rfl, Nat.le_of_ble_eq_true rfl⟩ ⟨Nat.le_of_ble_eq_true rfl, Nat.le_of_ble_eq_true rfl⟩ [0, 1] rfl ⟨rfl, rfl⟩ rfl rfl 0 0 rfl rfl rfl rfl (Nat.le_of_ble_eq_true rfl) (ff_cons (xl_fst _ _ _ _ _ _ _ _ _ _ _ _) (ff_cons (wl_fst _ _ _ _) (ff_nil))) (ws' := [xl xx xn xt xk xe xo xv xc xr cI (x_rf (m_hi M, m_rf M) 2), wl xn cI S, wl xt cI T1, wl xk cI K1, tl xe cI (m_q M), ol xo xp cI qo, wl xp cI T2, al xv xq cI qa, wl xq cI T3, cl xc xs xw cW qc, wl xs cI T4, wl (xw 0) cI V0, wl (xw 1) cI V1, wl (xw 2) cI V2, wl (xw 3) cI V3, wl (xw 4) cI V4, wl (xw 5) cI V5, wl (xw 6) cI V6, wl (xw 7) cI V7, rl xr xu cI (m_rw M, m_rn M), wl xu cI T5, ml m cI S M]) rfl ?_
        refine G.al X dL_law_568 1 rfl ?_
        refine G.al X dL_law_569 3 rfl ?_
        refine G.il X dL_law_570 0 rfl ?_
        refine G.pu X dL_law_571 ?_
        refine G.nadd X (a := i) (b := 1) dL_law_572 ?_
        refine G.sld X hX (i := i + 1) dL_law_573 (by omega) (by omega) ?_
        refine G.top (b := nI n) en ?_
        refine G.al X dL_law_574 3 rfl ?_
        refine G.il X dL_law_575 0 rfl ?_
        refine G.pu X dL_law_576 ?_
        refine G.nadd X (a := i) (b := 2) dL_law_577 ?_
        refine G.sld X hX (i := i + 2) dL_law_578 (by omega) (by omega) ?_
        refine G.cvi X kX7_askThen lL_68 dL_law_579 (tX7_askThen_oth l D cI cW m S M n (sc (i + 2)) hI.ok hn2 zw) ⟨Nat.le_of_ble_eq_true rfl, Nat.le_of_ble_eq_true rfl⟩ ⟨Nat.le_of_ble_eq_true rfl, Nat.le_of_ble_eq_true rfl⟩ [21] rfl ⟨rfl, rfl⟩ rfl rfl 21 0 rfl rfl rfl rfl (Nat.le_of_ble_eq_true rfl) (ff_cons (ml_fst _ _ _ _ _ _) (ff_nil)) (ws' := [xl xx xn xt xk xe xo xv xc xr cI (x_rf (m_hi M, m_rf M) 2), wl xn cI S, wl xt cI T1, wl xk cI K1, tl xe cI (m_q M), ol xo xp cI qo, wl xp cI T2, al xv xq cI qa, wl xq cI T3, cl xc xs xw cW qc, wl xs cI T4, wl (xw 0) cI V0, wl (xw 1) cI V1, wl (xw 2) cI V2, wl (xw 3) cI V3, wl (xw 4) cI V4, wl (xw 5) cI V5, wl (xw 6) cI V6, wl (xw 7) cI V7, rl xr xu cI (m_rw M, m_rn M), wl xu cI T5, ml m cI S (m_no M 2)]) rfl ?_
        refine G.c_eq X (a := (-2)) (b := (-2)) dL_law_582 (fun h582 => ?_) (fun h582 => absurd (rfl) h582)
        exact kend S (m_no M 2) T1 K1 qo T2 qa T3 qc T4 V0 V1 V2 V3 V4 V5 V6 V7 T5 (hI.no 2)

set_option maxRecDepth 20000 in
theorem law_13 {l : Launch} {D : va_G} {cI cW : ClassId} {x : GC} (X : GOK x l D cI cW RL cL_law 4 room_1) {b L i : Nat} {sc : Nat → Int32} (hX : GX x b L sc) (hL : L ≤ 2560) (hi : i + 5 ≤ L) {xx xn xt xk xe xo xp xv xq xc xs : Nat → Nat} {xw : Nat → Nat → Nat} {xr xu m : Nat → Nat} (kend : ∀ (S : WS) (M : MS) (T1 : WS) (K1 : WS) (qo : FN) (T2 : WS) (qa : FN × FN) (T3 : WS) (qc : Int32 × Int32 × Int32) (T4 : WS) (V0 : WS) (V1 : WS) (V2 : WS) (V3 : WS) (V4 : WS) (V5 : WS) (V6 : WS) (V7 : WS) (T5 : WS), IV S M K1 → G x 165 1897 (LW cI cW xx xn xt xk xe xo xp xv xq xc xs xw xr xu m S M T1 K1 qo T2 qa T3 qc T4 V0 V1 V2 V3 V4 V5 V6 V7 T5) 1230 [(3, .int (nI i)), (2, .ref (m 0)), (1, .ref (xx 0)), (0, .ref b)] []) (S : WS) (M : MS) (T1 : WS) (K1 : WS) (qo : FN) (T2 : WS) (qa : FN × FN) (T3 : WS) (qc : Int32 × Int32 × Int32) (T4 : WS) (V0 : WS) (V1 : WS) (V2 : WS) (V3 : WS) (V4 : WS) (V5 : WS) (V6 : WS) (V7 : WS) (T5 : WS) (hI : IV S M K1) : G x 165 1897 (LW cI cW xx xn xt xk xe xo xp xv xq xc xs xw xr xu m S M T1 K1 qo T2 qa T3 qc T4 V0 V1 V2 V3 V4 V5 V6 V7 T5) 587 [(3, .int (nI i)), (2, .ref (m 0)), (1, .ref (xx 0)), (0, .ref b)] [] := by
  show G x 165 1897 ([xl xx xn xt xk xe xo xv xc xr cI (m_hi M, m_rf M), wl xn cI S, wl xt cI T1, wl xk cI K1, tl xe cI (m_q M), ol xo xp cI qo, wl xp cI T2, al xv xq cI qa, wl xq cI T3, cl xc xs xw cW qc, wl xs cI T4, wl (xw 0) cI V0, wl (xw 1) cI V1, wl (xw 2) cI V2, wl (xw 3) cI V3, wl (xw 4) cI V4, wl (xw 5) cI V5, wl (xw 6) cI V6, wl (xw 7) cI V7, rl xr xu cI (m_rw M, m_rn M), wl xu cI T5, ml m cI S M]) 587 [(3, .int (nI i)), (2, .ref (m 0)), (1, .ref (xx 0)), (0, .ref b)] []
  by_cases zp : z_in (sc (i + 1)) (s_th S) = true
  · obtain ⟨p, hp, ep⟩ := z_in_t zp
    refine G.al X dL_law_587 2 rfl ?_
    refine G.al X dL_law_588 3 rfl ?_
    refine G.il X dL_law_589 0 rfl ?_
    refine G.pu X dL_law_590 ?_
    refine G.nadd X (a := i) (b := 1) dL_law_591 ?_
    refine G.sld X hX (i := i + 1) dL_law_592 (by omega) (by omega) ?_
    refine G.top (b := nI p) ep ?_
    refine G.cvie X kX6_quiet lL_69 dL_law_593 (tX6_quiet_ok l D cI cW xx xn xt xk xe xo xv xc xr (m_hi M, m_rf M) S xp qo T2 p hI.ok hp) ⟨Nat.le_of_ble_eq_true rfl, Nat.le_of_ble_eq_true rfl⟩ ⟨Nat.le_of_ble_eq_true rfl, Nat.le_of_ble_eq_true rfl⟩ [0, 1, 5, 6] rfl ⟨rfl, rfl⟩ rfl rfl 0 0 rfl rfl rfl rfl (Nat.le_of_ble_eq_true rfl) (fun _ => (ff_cons (xl_fst _ _ _ _ _ _ _ _ _ _ _ _) (ff_cons (wl_fst _ _ _ _) (ff_cons (ol_fst _ _ _ _ _) (ff_cons (wl_fst _ _ _ _) (ff_nil)))))) (f8 := fun T9_593 : WS => [xl xx xn xt xk xe xo xv xc xr cI (m_hi M, m_rf M), wl xn cI S, wl xt cI T1, wl xk cI K1, tl xe cI (m_q M), ol xo xp cI qo, wl xp cI T9_593, al xv xq cI qa, wl xq cI T3, cl xc xs xw cW qc, wl xs cI T4, wl (xw 0) cI V0, wl (xw 1) cI V1, wl (xw 2) cI V2, wl (xw 3) cI V3, wl (xw 4) cI V4, wl (xw 5) cI V5, wl (xw 6) cI V6, wl (xw 7) cI V7, rl xr xu cI (m_rw M, m_rn M), wl xu cI T5, ml m cI S M]) (fun _ => rfl) (fun T9_593 => ?_)
    refine G.al X dL_law_596 1 rfl ?_
    refine G.al X dL_law_597 3 rfl ?_
    refine G.il X dL_law_598 0 rfl ?_
    refine G.pu X dL_law_599 ?_
    refine G.nadd X (a := i) (b := 1) dL_law_600 ?_
    refine G.sld X hX (i := i + 1) dL_law_601 (by omega) (by omega) ?_
    refine G.top (b := nI p) ep ?_
    refine G.cvie X kX7_quiet lL_72 dL_law_602 (tX7_quiet_ok l D cI cW m S M p hI.ok hI.co hp) ⟨Nat.le_of_ble_eq_true rfl, Nat.le_of_ble_eq_true rfl⟩ ⟨Nat.le_of_ble_eq_true rfl, Nat.le_of_ble_eq_true rfl⟩ [21] rfl ⟨rfl, rfl⟩ rfl rfl 21 0 rfl rfl rfl rfl (Nat.le_of_ble_eq_true rfl) (fun _ => (ff_cons (ml_fst _ _ _ _ _ _) (ff_nil))) (f8 := fun M9_602 : {M9_602 : MS // Mq 64 M M9_602} => [xl xx xn xt xk xe xo xv xc xr cI (m_hi M, m_rf M), wl xn cI S, wl xt cI T1, wl xk cI K1, tl xe cI (m_q M), ol xo xp cI qo, wl xp cI T9_593, al xv xq cI qa, wl xq cI T3, cl xc xs xw cW qc, wl xs cI T4, wl (xw 0) cI V0, wl (xw 1) cI V1, wl (xw 2) cI V2, wl (xw 3) cI V3, wl (xw 4) cI V4, wl (xw 5) cI V5, wl (xw 6) cI V6, wl (xw 7) cI V7, rl xr xu cI (m_rw M, m_rn M), wl xu cI T5, ml m cI S M9_602.1]) (fun _ => rfl) (fun M9_602 => ?_)
    refine G.c_eq X (a := (o2i (fi (w_qz S p) 100))) (b := (o2i (fi (w_qz S p) 100))) dL_law_605 (fun h605 => ?_) (fun h605 => absurd (rfl) h605)
    rw [LW_q M9_602.2]
    exact kend S M9_602.1 T1 K1 qo T9_593 qa T3 qc T4 V0 V1 V2 V3 V4 V5 V6 V7 T5 (hI.q M9_602.2)
  · replace zp : z_in (sc (i + 1)) (s_th S) = false := by simpa using zp
    refine G.al X dL_law_587 2 rfl ?_
    refine G.al X dL_law_588 3 rfl ?_
    refine G.il X dL_law_589 0 rfl ?_
    refine G.pu X dL_law_590 ?_
    refine G.nadd X (a := i) (b := 1) dL_law_591 ?_
    refine G.sld X hX (i := i + 1) dL_law_592 (by omega) (by omega) ?_
    refine G.cvi X kX6_quiet lL_69 dL_law_593 (tX6_quiet_bad l D cI cW xx xn xt xk xe xo xv xc xr (m_hi M, m_rf M) S (sc (i + 1)) hI.ok zp) ⟨Nat.le_of_ble_eq_true rfl, Nat.le_of_ble_eq_true rfl⟩ ⟨Nat.le_of_ble_eq_true rfl, Nat.le_of_ble_eq_true rfl⟩ [0, 1] rfl ⟨rfl, rfl⟩ rfl rfl 0 0 rfl rfl rfl rfl (Nat.le_of_ble_eq_true rfl) (ff_cons (xl_fst _ _ _ _ _ _ _ _ _ _ _ _) (ff_cons (wl_fst _ _ _ _) (ff_nil))) (ws' := [xl xx xn xt xk xe xo xv xc xr cI (x_rf (m_hi M, m_rf M) 1), wl xn cI S, wl xt cI T1, wl xk cI K1, tl xe cI (m_q M), ol xo xp cI qo, wl xp cI T2, al xv xq cI qa, wl xq cI T3, cl xc xs xw cW qc, wl xs cI T4, wl (xw 0) cI V0, wl (xw 1) cI V1, wl (xw 2) cI V2, wl (xw 3) cI V3, wl (xw 4) cI V4, wl (xw 5) cI V5, wl (xw 6) cI V6, wl (xw 7) cI V7, rl xr xu cI (m_rw M, m_rn M), wl xu cI T5, ml m cI S M]) rfl ?_
    refine G.al X dL_law_596 1 rfl ?_
    refine G.al X dL_law_597 3 rfl ?_
    refine G.il X dL_law_598 0 rfl ?_
    refine G.pu X dL_law_599 ?_
    refine G.nadd X (a := i) (b := 1) dL_law_600 ?_
    refine G.sld X hX (i := i + 1) dL_law_601 (by omega) (by omega) ?_
    refine G.cvi X kX7_quiet lL_72 dL_law_602 (tX7_quiet_bad l D cI cW m S M (sc (i + 1)) hI.ok zp) ⟨Nat.le_of_ble_eq_true rfl, Nat.le_of_ble_eq_true rfl⟩ ⟨Nat.le_of_ble_eq_true rfl, Nat.le_of_ble_eq_true rfl⟩ [21] rfl ⟨rfl, rfl⟩ rfl rfl 21 0 rfl rfl rfl rfl (Nat.le_of_ble_eq_true rfl) (ff_cons (ml_fst _ _ _ _ _ _) (ff_nil)) (ws' := [xl xx xn xt xk xe xo xv xc xr cI (x_rf (m_hi M, m_rf M) 1), wl xn cI S, wl xt cI T1, wl xk cI K1, tl xe cI (m_q M), ol xo xp cI qo, wl xp cI T2, al xv xq cI qa, wl xq cI T3, cl xc xs xw cW qc, wl xs cI T4, wl (xw 0) cI V0, wl (xw 1) cI V1, wl (xw 2) cI V2, wl (xw 3) cI V3, wl (xw 4) cI V4, wl (xw 5) cI V5, wl (xw 6) cI V6, wl (xw 7) cI V7, rl xr xu cI (m_rw M, m_rn M), wl xu cI T5, ml m cI S (m_no M 1)]) rfl ?_
    refine G.c_eq X (a := (-1)) (b := (-1)) dL_law_605 (fun h605 => ?_) (fun h605 => absurd (rfl) h605)
    exact kend S (m_no M 1) T1 K1 qo T2 qa T3 qc T4 V0 V1 V2 V3 V4 V5 V6 V7 T5 (hI.no 1)

set_option maxRecDepth 20000 in
theorem law_14 {l : Launch} {D : va_G} {cI cW : ClassId} {x : GC} (X : GOK x l D cI cW RL cL_law 4 room_1) {b L i : Nat} {sc : Nat → Int32} (hX : GX x b L sc) (hL : L ≤ 2560) (hi : i + 5 ≤ L) {xx xn xt xk xe xo xp xv xq xc xs : Nat → Nat} {xw : Nat → Nat → Nat} {xr xu m : Nat → Nat} (kend : ∀ (S : WS) (M : MS) (T1 : WS) (K1 : WS) (qo : FN) (T2 : WS) (qa : FN × FN) (T3 : WS) (qc : Int32 × Int32 × Int32) (T4 : WS) (V0 : WS) (V1 : WS) (V2 : WS) (V3 : WS) (V4 : WS) (V5 : WS) (V6 : WS) (V7 : WS) (T5 : WS), IV S M K1 → G x 165 1897 (LW cI cW xx xn xt xk xe xo xp xv xq xc xs xw xr xu m S M T1 K1 qo T2 qa T3 qc T4 V0 V1 V2 V3 V4 V5 V6 V7 T5) 1230 [(3, .int (nI i)), (2, .ref (m 0)), (1, .ref (xx 0)), (0, .ref b)] []) (S : WS) (M : MS) (T1 : WS) (K1 : WS) (qo : FN) (T2 : WS) (qa : FN × FN) (T3 : WS) (qc : Int32 × Int32 × Int32) (T4 : WS) (V0 : WS) (V1 : WS) (V2 : WS) (V3 : WS) (V4 : WS) (V5 : WS) (V6 : WS) (V7 : WS) (T5 : WS) (hI : IV S M K1) : G x 165 1897 (LW cI cW xx xn xt xk xe xo xp xv xq xc xs xw xr xu m S M T1 K1 qo T2 qa T3 qc T4 V0 V1 V2 V3 V4 V5 V6 V7 T5) 610 [(3, .int (nI i)), (2, .ref (m 0)), (1, .ref (xx 0)), (0, .ref b)] [] := by
  show G x 165 1897 ([xl xx xn xt xk xe xo xv xc xr cI (m_hi M, m_rf M), wl xn cI S, wl xt cI T1, wl xk cI K1, tl xe cI (m_q M), ol xo xp cI qo, wl xp cI T2, al xv xq cI qa, wl xq cI T3, cl xc xs xw cW qc, wl xs cI T4, wl (xw 0) cI V0, wl (xw 1) cI V1, wl (xw 2) cI V2, wl (xw 3) cI V3, wl (xw 4) cI V4, wl (xw 5) cI V5, wl (xw 6) cI V6, wl (xw 7) cI V7, rl xr xu cI (m_rw M, m_rn M), wl xu cI T5, ml m cI S M]) 610 [(3, .int (nI i)), (2, .ref (m 0)), (1, .ref (xx 0)), (0, .ref b)] []
  by_cases zw : z_in (sc (i + 1)) 4 = true
  · obtain ⟨w9, hw9, ew9⟩ := z_in_t zw
    rcases (show w9 = 0 ∨ w9 = 1 ∨ w9 = 2 ∨ w9 = 3 by omega) with rfl | rfl | rfl | rfl
    · refine G.al X dL_law_610 2 rfl ?_
      refine G.al X dL_law_611 3 rfl ?_
      refine G.il X dL_law_612 0 rfl ?_
      refine G.pu X dL_law_613 ?_
      refine G.nadd X (a := i) (b := 1) dL_law_614 ?_
      refine G.sld X hX (i := i + 1) dL_law_615 (by omega) (by omega) ?_
      refine G.top (b := 0) ew9 ?_
      refine G.cvie X kX6_first lL_73 dL_law_616 (tX6_first_0 l D cI cW xx xn xt xk xe xo xv xc xr (m_hi M, m_rf M) S xp qo T2 hI.ok) ⟨Nat.le_of_ble_eq_true rfl, Nat.le_of_ble_eq_true rfl⟩ ⟨Nat.le_of_ble_eq_true rfl, Nat.le_of_ble_eq_true rfl⟩ [0, 1, 5, 6] rfl ⟨rfl, rfl⟩ rfl rfl 0 0 rfl rfl rfl rfl (Nat.le_of_ble_eq_true rfl) (fun _ => (ff_cons (xl_fst _ _ _ _ _ _ _ _ _ _ _ _) (ff_cons (wl_fst _ _ _ _) (ff_cons (ol_fst _ _ _ _ _) (ff_cons (wl_fst _ _ _ _) (ff_nil)))))) (f8 := fun T9_616 : WS => [xl xx xn xt xk xe xo xv xc xr cI (m_hi M, m_rf M), wl xn cI S, wl xt cI T1, wl xk cI K1, tl xe cI (m_q M), ol xo xp cI qo, wl xp cI T9_616, al xv xq cI qa, wl xq cI T3, cl xc xs xw cW qc, wl xs cI T4, wl (xw 0) cI V0, wl (xw 1) cI V1, wl (xw 2) cI V2, wl (xw 3) cI V3, wl (xw 4) cI V4, wl (xw 5) cI V5, wl (xw 6) cI V6, wl (xw 7) cI V7, rl xr xu cI (m_rw M, m_rn M), wl xu cI T5, ml m cI S M]) (fun _ => rfl) (fun T9_616 => ?_)
      refine G.al X dL_law_619 1 rfl ?_
      refine G.al X dL_law_620 3 rfl ?_
      refine G.il X dL_law_621 0 rfl ?_
      refine G.pu X dL_law_622 ?_
      refine G.nadd X (a := i) (b := 1) dL_law_623 ?_
      refine G.sld X hX (i := i + 1) dL_law_624 (by omega) (by omega) ?_
      refine G.top (b := 0) ew9 ?_
      refine G.cvie X kX7_first lL_76 dL_law_625 (tX7_first_0 l D cI cW m S M hI.ok hI.co) ⟨Nat.le_of_ble_eq_true rfl, Nat.le_of_ble_eq_true rfl⟩ ⟨Nat.le_of_ble_eq_true rfl, Nat.le_of_ble_eq_true rfl⟩ [21] rfl ⟨rfl, rfl⟩ rfl rfl 21 0 rfl rfl rfl rfl (Nat.le_of_ble_eq_true rfl) (fun _ => (ff_cons (ml_fst _ _ _ _ _ _) (ff_nil))) (f8 := fun M9_625 : {M9_625 : MS // Mq 64 M M9_625} => [xl xx xn xt xk xe xo xv xc xr cI (m_hi M, m_rf M), wl xn cI S, wl xt cI T1, wl xk cI K1, tl xe cI (m_q M), ol xo xp cI qo, wl xp cI T9_616, al xv xq cI qa, wl xq cI T3, cl xc xs xw cW qc, wl xs cI T4, wl (xw 0) cI V0, wl (xw 1) cI V1, wl (xw 2) cI V2, wl (xw 3) cI V3, wl (xw 4) cI V4, wl (xw 5) cI V5, wl (xw 6) cI V6, wl (xw 7) cI V7, rl xr xu cI (m_rw M, m_rn M), wl xu cI T5, ml m cI S M9_625.1]) (fun _ => rfl) (fun M9_625 => ?_)
      refine G.c_eq X (a := (o2i (fi (fun d => w_wat (w_dayN S d) == false) 100))) (b := (o2i (fi (fun d => w_isf (w_dayN S d) 0) 100))) dL_law_628 (fun h628 => ?_) (fun h628 => absurd ((congrArg o2i (q_first0 S))) h628)
      rw [LW_q M9_625.2]
      exact kend S M9_625.1 T1 K1 qo T9_616 qa T3 qc T4 V0 V1 V2 V3 V4 V5 V6 V7 T5 (hI.q M9_625.2)
    · refine G.al X dL_law_610 2 rfl ?_
      refine G.al X dL_law_611 3 rfl ?_
      refine G.il X dL_law_612 0 rfl ?_
      refine G.pu X dL_law_613 ?_
      refine G.nadd X (a := i) (b := 1) dL_law_614 ?_
      refine G.sld X hX (i := i + 1) dL_law_615 (by omega) (by omega) ?_
      refine G.top (b := 1) ew9 ?_
      refine G.cvie X kX6_first lL_73 dL_law_616 (tX6_first_1 l D cI cW xx xn xt xk xe xo xv xc xr (m_hi M, m_rf M) S xp qo T2 hI.ok) ⟨Nat.le_of_ble_eq_true rfl, Nat.le_of_ble_eq_true rfl⟩ ⟨Nat.le_of_ble_eq_true rfl, Nat.le_of_ble_eq_true rfl⟩ [0, 1, 5, 6] rfl ⟨rfl, rfl⟩ rfl rfl 0 0 rfl rfl rfl rfl (Nat.le_of_ble_eq_true rfl) (fun _ => (ff_cons (xl_fst _ _ _ _ _ _ _ _ _ _ _ _) (ff_cons (wl_fst _ _ _ _) (ff_cons (ol_fst _ _ _ _ _) (ff_cons (wl_fst _ _ _ _) (ff_nil)))))) (f8 := fun T9_616 : WS => [xl xx xn xt xk xe xo xv xc xr cI (m_hi M, m_rf M), wl xn cI S, wl xt cI T1, wl xk cI K1, tl xe cI (m_q M), ol xo xp cI qo, wl xp cI T9_616, al xv xq cI qa, wl xq cI T3, cl xc xs xw cW qc, wl xs cI T4, wl (xw 0) cI V0, wl (xw 1) cI V1, wl (xw 2) cI V2, wl (xw 3) cI V3, wl (xw 4) cI V4, wl (xw 5) cI V5, wl (xw 6) cI V6, wl (xw 7) cI V7, rl xr xu cI (m_rw M, m_rn M), wl xu cI T5, ml m cI S M]) (fun _ => rfl) (fun T9_616 => ?_)
      refine G.al X dL_law_619 1 rfl ?_
      refine G.al X dL_law_620 3 rfl ?_
      refine G.il X dL_law_621 0 rfl ?_
      refine G.pu X dL_law_622 ?_
      refine G.nadd X (a := i) (b := 1) dL_law_623 ?_
      refine G.sld X hX (i := i + 1) dL_law_624 (by omega) (by omega) ?_
      refine G.top (b := 1) ew9 ?_
      refine G.cvie X kX7_first lL_76 dL_law_625 (tX7_first_1 l D cI cW m S M hI.ok hI.co) ⟨Nat.le_of_ble_eq_true rfl, Nat.le_of_ble_eq_true rfl⟩ ⟨Nat.le_of_ble_eq_true rfl, Nat.le_of_ble_eq_true rfl⟩ [21] rfl ⟨rfl, rfl⟩ rfl rfl 21 0 rfl rfl rfl rfl (Nat.le_of_ble_eq_true rfl) (fun _ => (ff_cons (ml_fst _ _ _ _ _ _) (ff_nil))) (f8 := fun M9_625 : {M9_625 : MS // Mq 64 M M9_625} => [xl xx xn xt xk xe xo xv xc xr cI (m_hi M, m_rf M), wl xn cI S, wl xt cI T1, wl xk cI K1, tl xe cI (m_q M), ol xo xp cI qo, wl xp cI T9_616, al xv xq cI qa, wl xq cI T3, cl xc xs xw cW qc, wl xs cI T4, wl (xw 0) cI V0, wl (xw 1) cI V1, wl (xw 2) cI V2, wl (xw 3) cI V3, wl (xw 4) cI V4, wl (xw 5) cI V5, wl (xw 6) cI V6, wl (xw 7) cI V7, rl xr xu cI (m_rw M, m_rn M), wl xu cI T5, ml m cI S M9_625.1]) (fun _ => rfl) (fun M9_625 => ?_)
      refine G.c_eq X (a := (o2i (fi (fun d => w_wat (w_dayN S d) == true) 100))) (b := (o2i (fi (fun d => w_isf (w_dayN S d) 1) 100))) dL_law_628 (fun h628 => ?_) (fun h628 => absurd ((congrArg o2i (q_first1 S))) h628)
      rw [LW_q M9_625.2]
      exact kend S M9_625.1 T1 K1 qo T9_616 qa T3 qc T4 V0 V1 V2 V3 V4 V5 V6 V7 T5 (hI.q M9_625.2)
    · refine G.al X dL_law_610 2 rfl ?_
      refine G.al X dL_law_611 3 rfl ?_
      refine G.il X dL_law_612 0 rfl ?_
      refine G.pu X dL_law_613 ?_
      refine G.nadd X (a := i) (b := 1) dL_law_614 ?_
      refine G.sld X hX (i := i + 1) dL_law_615 (by omega) (by omega) ?_
      refine G.top (b := 2) ew9 ?_
      refine G.cvie X kX6_first lL_73 dL_law_616 (tX6_first_2 l D cI cW xx xn xt xk xe xo xv xc xr (m_hi M, m_rf M) S xp qo T2 hI.ok) ⟨Nat.le_of_ble_eq_true rfl, Nat.le_of_ble_eq_true rfl⟩ ⟨Nat.le_of_ble_eq_true rfl, Nat.le_of_ble_eq_true rfl⟩ [0, 1, 5, 6] rfl ⟨rfl, rfl⟩ rfl rfl 0 0 rfl rfl rfl rfl (Nat.le_of_ble_eq_true rfl) (fun _ => (ff_cons (xl_fst _ _ _ _ _ _ _ _ _ _ _ _) (ff_cons (wl_fst _ _ _ _) (ff_cons (ol_fst _ _ _ _ _) (ff_cons (wl_fst _ _ _ _) (ff_nil)))))) (f8 := fun T9_616 : WS => [xl xx xn xt xk xe xo xv xc xr cI (m_hi M, m_rf M), wl xn cI S, wl xt cI T1, wl xk cI K1, tl xe cI (m_q M), ol xo xp cI qo, wl xp cI T9_616, al xv xq cI qa, wl xq cI T3, cl xc xs xw cW qc, wl xs cI T4, wl (xw 0) cI V0, wl (xw 1) cI V1, wl (xw 2) cI V2, wl (xw 3) cI V3, wl (xw 4) cI V4, wl (xw 5) cI V5, wl (xw 6) cI V6, wl (xw 7) cI V7, rl xr xu cI (m_rw M, m_rn M), wl xu cI T5, ml m cI S M]) (fun _ => rfl) (fun T9_616 => ?_)
      refine G.al X dL_law_619 1 rfl ?_
      refine G.al X dL_law_620 3 rfl ?_
      refine G.il X dL_law_621 0 rfl ?_
      refine G.pu X dL_law_622 ?_
      refine G.nadd X (a := i) (b := 1) dL_law_623 ?_
      refine G.sld X hX (i := i + 1) dL_law_624 (by omega) (by omega) ?_
      refine G.top (b := 2) ew9 ?_
      refine G.cvie X kX7_first lL_76 dL_law_625 (tX7_first_2 l D cI cW m S M hI.ok hI.co) ⟨Nat.le_of_ble_eq_true rfl, Nat.le_of_ble_eq_true rfl⟩ ⟨Nat.le_of_ble_eq_true rfl, Nat.le_of_ble_eq_true rfl⟩ [21] rfl ⟨rfl, rfl⟩ rfl rfl 21 0 rfl rfl rfl rfl (Nat.le_of_ble_eq_true rfl) (fun _ => (ff_cons (ml_fst _ _ _ _ _ _) (ff_nil))) (f8 := fun M9_625 : {M9_625 : MS // Mq 64 M M9_625} => [xl xx xn xt xk xe xo xv xc xr cI (m_hi M, m_rf M), wl xn cI S, wl xt cI T1, wl xk cI K1, tl xe cI (m_q M), ol xo xp cI qo, wl xp cI T9_616, al xv xq cI qa, wl xq cI T3, cl xc xs xw cW qc, wl xs cI T4, wl (xw 0) cI V0, wl (xw 1) cI V1, wl (xw 2) cI V2, wl (xw 3) cI V3, wl (xw 4) cI V4, wl (xw 5) cI V5, wl (xw 6) cI V6, wl (xw 7) cI V7, rl xr xu cI (m_rw M, m_rn M), wl xu cI T5, ml m cI S M9_625.1]) (fun _ => rfl) (fun M9_625 => ?_)
      refine G.c_eq X (a := (o2i (fi (fun d => decide (sumf (s_le (w_dayN S d)) (s_th (w_dayN S d)) = 0)) 100))) (b := (o2i (fi (fun d => w_isf (w_dayN S d) 2) 100))) dL_law_628 (fun h628 => ?_) (fun h628 => absurd ((congrArg o2i (q_first2 S))) h628)
      rw [LW_q M9_625.2]
      exact kend S M9_625.1 T1 K1 qo T9_616 qa T3 qc T4 V0 V1 V2 V3 V4 V5 V6 V7 T5 (hI.q M9_625.2)
    · refine G.al X dL_law_610 2 rfl ?_
      refine G.al X dL_law_611 3 rfl ?_
      refine G.il X dL_law_612 0 rfl ?_
      refine G.pu X dL_law_613 ?_
      refine G.nadd X (a := i) (b := 1) dL_law_614 ?_
      refine G.sld X hX (i := i + 1) dL_law_615 (by omega) (by omega) ?_
      refine G.top (b := 3) ew9 ?_
      refine G.cvie X kX6_first lL_73 dL_law_616 (tX6_first_3 l D cI cW xx xn xt xk xe xo xv xc xr (m_hi M, m_rf M) S xp qo T2 hI.ok) ⟨Nat.le_of_ble_eq_true rfl, Nat.le_of_ble_eq_true rfl⟩ ⟨Nat.le_of_ble_eq_true rfl, Nat.le_of_ble_eq_true rfl⟩ [0, 1, 5, 6] rfl ⟨rfl, rfl⟩ rfl rfl 0 0 rfl rfl rfl rfl (Nat.le_of_ble_eq_true rfl) (fun _ => (ff_cons (xl_fst _ _ _ _ _ _ _ _ _ _ _ _) (ff_cons (wl_fst _ _ _ _) (ff_cons (ol_fst _ _ _ _ _) (ff_cons (wl_fst _ _ _ _) (ff_nil)))))) (f8 := fun T9_616 : WS => [xl xx xn xt xk xe xo xv xc xr cI (m_hi M, m_rf M), wl xn cI S, wl xt cI T1, wl xk cI K1, tl xe cI (m_q M), ol xo xp cI (w_q0 S 100), wl xp cI T9_616, al xv xq cI qa, wl xq cI T3, cl xc xs xw cW qc, wl xs cI T4, wl (xw 0) cI V0, wl (xw 1) cI V1, wl (xw 2) cI V2, wl (xw 3) cI V3, wl (xw 4) cI V4, wl (xw 5) cI V5, wl (xw 6) cI V6, wl (xw 7) cI V7, rl xr xu cI (m_rw M, m_rn M), wl xu cI T5, ml m cI S M]) (fun _ => rfl) (fun T9_616 => ?_)
      refine G.al X dL_law_619 1 rfl ?_
      refine G.al X dL_law_620 3 rfl ?_
      refine G.il X dL_law_621 0 rfl ?_
      refine G.pu X dL_law_622 ?_
      refine G.nadd X (a := i) (b := 1) dL_law_623 ?_
      refine G.sld X hX (i := i + 1) dL_law_624 (by omega) (by omega) ?_
      refine G.top (b := 3) ew9 ?_
      refine G.cvie X kX7_first lL_76 dL_law_625 (tX7_first_3 l D cI cW m S M hI.ok hI.co) ⟨Nat.le_of_ble_eq_true rfl, Nat.le_of_ble_eq_true rfl⟩ ⟨Nat.le_of_ble_eq_true rfl, Nat.le_of_ble_eq_true rfl⟩ [21] rfl ⟨rfl, rfl⟩ rfl rfl 21 0 rfl rfl rfl rfl (Nat.le_of_ble_eq_true rfl) (fun _ => (ff_cons (ml_fst _ _ _ _ _ _) (ff_nil))) (f8 := fun M9_625 : {M9_625 : MS // Mq 64 M M9_625} => [xl xx xn xt xk xe xo xv xc xr cI (m_hi M, m_rf M), wl xn cI S, wl xt cI T1, wl xk cI K1, tl xe cI (m_q M), ol xo xp cI (w_q0 S 100), wl xp cI T9_616, al xv xq cI qa, wl xq cI T3, cl xc xs xw cW qc, wl xs cI T4, wl (xw 0) cI V0, wl (xw 1) cI V1, wl (xw 2) cI V2, wl (xw 3) cI V3, wl (xw 4) cI V4, wl (xw 5) cI V5, wl (xw 6) cI V6, wl (xw 7) cI V7, rl xr xu cI (m_rw M, m_rn M), wl xu cI T5, ml m cI S M9_625.1]) (fun _ => rfl) (fun M9_625 => ?_)
      refine G.c_eq X (a := ((bmax (ask S) (w_q0 S 100) (-9, -1) (s_th S)).1)) (b := (o2i (bix (ask S) (fun i j => decide (w_late S i < w_late S j)) (s_th S)))) dL_law_628 (fun h628 => ?_) (fun h628 => absurd ((q_first3 S)) h628)
      rw [LW_q M9_625.2]
      exact kend S M9_625.1 T1 K1 (w_q0 S 100) T9_616 qa T3 qc T4 V0 V1 V2 V3 V4 V5 V6 V7 T5 (hI.q M9_625.2)
  · replace zw : z_in (sc (i + 1)) 4 = false := by simpa using zw
    refine G.al X dL_law_610 2 rfl ?_
    refine G.al X dL_law_611 3 rfl ?_
    refine G.il X dL_law_612 0 rfl ?_
    refine G.pu X dL_law_613 ?_
    refine G.nadd X (a := i) (b := 1) dL_law_614 ?_
    refine G.sld X hX (i := i + 1) dL_law_615 (by omega) (by omega) ?_
    refine G.cvi X kX6_first lL_73 dL_law_616 (tX6_first_oth l D cI cW xx xn xt xk xe xo xv xc xr (m_hi M, m_rf M) (sc (i + 1)) zw) ⟨Nat.le_of_ble_eq_true rfl, Nat.le_of_ble_eq_true rfl⟩ ⟨Nat.le_of_ble_eq_true rfl, Nat.le_of_ble_eq_true rfl⟩ [0] rfl ⟨rfl, rfl⟩ rfl rfl 0 0 rfl rfl rfl rfl (Nat.le_of_ble_eq_true rfl) (ff_cons (xl_fst _ _ _ _ _ _ _ _ _ _ _ _) (ff_nil)) (ws' := [xl xx xn xt xk xe xo xv xc xr cI (x_rf (m_hi M, m_rf M) 2), wl xn cI S, wl xt cI T1, wl xk cI K1, tl xe cI (m_q M), ol xo xp cI qo, wl xp cI T2, al xv xq cI qa, wl xq cI T3, cl xc xs xw cW qc, wl xs cI T4, wl (xw 0) cI V0, wl (xw 1) cI V1, wl (xw 2) cI V2, wl (xw 3) cI V3, wl (xw 4) cI V4, wl (xw 5) cI V5, wl (xw 6) cI V6, wl (xw 7) cI V7, rl xr xu cI (m_rw M, m_rn M), wl xu cI T5, ml m cI S M]) rfl ?_
    refine G.al X dL_law_619 1 rfl ?_
    refine G.al X dL_law_620 3 rfl ?_
    refine G.il X dL_law_621 0 rfl ?_
    refine G.pu X dL_law_622 ?_
    refine G.nadd X (a := i) (b := 1) dL_law_623 ?_
    refine G.sld X hX (i := i + 1) dL_law_624 (by omega) (by omega) ?_
    refine G.cvi X kX7_first lL_76 dL_law_625 (tX7_first_oth l D cI cW m S M (sc (i + 1)) zw) ⟨Nat.le_of_ble_eq_true rfl, Nat.le_of_ble_eq_true rfl⟩ ⟨Nat.le_of_ble_eq_true rfl, Nat.le_of_ble_eq_true rfl⟩ [21] rfl ⟨rfl, rfl⟩ rfl rfl 21 0 rfl rfl rfl rfl (Nat.le_of_ble_eq_true rfl) (ff_cons (ml_fst _ _ _ _ _ _) (ff_nil)) (ws' := [xl xx xn xt xk xe xo xv xc xr cI (x_rf (m_hi M, m_rf M) 2), wl xn cI S, wl xt cI T1, wl xk cI K1, tl xe cI (m_q M), ol xo xp cI qo, wl xp cI T2, al xv xq cI qa, wl xq cI T3, cl xc xs xw cW qc, wl xs cI T4, wl (xw 0) cI V0, wl (xw 1) cI V1, wl (xw 2) cI V2, wl (xw 3) cI V3, wl (xw 4) cI V4, wl (xw 5) cI V5, wl (xw 6) cI V6, wl (xw 7) cI V7, rl xr xu cI (m_rw M, m_rn M), wl xu cI T5, ml m cI S (m_no M 2)]) rfl ?_
    refine G.c_eq X (a := (-2)) (b := (-2)) dL_law_628 (fun h628 => ?_) (fun h628 => absurd (rfl) h628)
    exact kend S (m_no M 2) T1 K1 qo T2 qa T3 qc T4 V0 V1 V2 V3 V4 V5 V6 V7 T5 (hI.no 2)

set_option maxRecDepth 20000 in
theorem law_15 {l : Launch} {D : va_G} {cI cW : ClassId} {x : GC} (X : GOK x l D cI cW RL cL_law 4 room_1) {b L i : Nat} {sc : Nat → Int32} (hX : GX x b L sc) (hL : L ≤ 2560) (hi : i + 5 ≤ L) {xx xn xt xk xe xo xp xv xq xc xs : Nat → Nat} {xw : Nat → Nat → Nat} {xr xu m : Nat → Nat} (kend : ∀ (S : WS) (M : MS) (T1 : WS) (K1 : WS) (qo : FN) (T2 : WS) (qa : FN × FN) (T3 : WS) (qc : Int32 × Int32 × Int32) (T4 : WS) (V0 : WS) (V1 : WS) (V2 : WS) (V3 : WS) (V4 : WS) (V5 : WS) (V6 : WS) (V7 : WS) (T5 : WS), IV S M K1 → G x 165 1897 (LW cI cW xx xn xt xk xe xo xp xv xq xc xs xw xr xu m S M T1 K1 qo T2 qa T3 qc T4 V0 V1 V2 V3 V4 V5 V6 V7 T5) 1230 [(3, .int (nI i)), (2, .ref (m 0)), (1, .ref (xx 0)), (0, .ref b)] []) (S : WS) (M : MS) (T1 : WS) (K1 : WS) (qo : FN) (T2 : WS) (qa : FN × FN) (T3 : WS) (qc : Int32 × Int32 × Int32) (T4 : WS) (V0 : WS) (V1 : WS) (V2 : WS) (V3 : WS) (V4 : WS) (V5 : WS) (V6 : WS) (V7 : WS) (T5 : WS) (hI : IV S M K1) : G x 165 1897 (LW cI cW xx xn xt xk xe xo xp xv xq xc xs xw xr xu m S M T1 K1 qo T2 qa T3 qc T4 V0 V1 V2 V3 V4 V5 V6 V7 T5) 633 [(3, .int (nI i)), (2, .ref (m 0)), (1, .ref (xx 0)), (0, .ref b)] [] := by
  show G x 165 1897 ([xl xx xn xt xk xe xo xv xc xr cI (m_hi M, m_rf M), wl xn cI S, wl xt cI T1, wl xk cI K1, tl xe cI (m_q M), ol xo xp cI qo, wl xp cI T2, al xv xq cI qa, wl xq cI T3, cl xc xs xw cW qc, wl xs cI T4, wl (xw 0) cI V0, wl (xw 1) cI V1, wl (xw 2) cI V2, wl (xw 3) cI V3, wl (xw 4) cI V4, wl (xw 5) cI V5, wl (xw 6) cI V6, wl (xw 7) cI V7, rl xr xu cI (m_rw M, m_rn M), wl xu cI T5, ml m cI S M]) 633 [(3, .int (nI i)), (2, .ref (m 0)), (1, .ref (xx 0)), (0, .ref b)] []
  by_cases cnl : sc (i + 1) < 1
  · refine G.al X dL_law_633 2 rfl ?_
    refine G.al X dL_law_634 3 rfl ?_
    refine G.il X dL_law_635 0 rfl ?_
    refine G.pu X dL_law_636 ?_
    refine G.nadd X (a := i) (b := 1) dL_law_637 ?_
    refine G.sld X hX (i := i + 1) dL_law_638 (by omega) (by omega) ?_
    refine G.al X dL_law_639 3 rfl ?_
    refine G.il X dL_law_640 0 rfl ?_
    refine G.pu X dL_law_641 ?_
    refine G.nadd X (a := i) (b := 2) dL_law_642 ?_
    refine G.sld X hX (i := i + 2) dL_law_643 (by omega) (by omega) ?_
    refine G.cvi X kX6_runs lL_77 dL_law_644 (tX6_runs_lo l D cI cW xx xn xt xk xe xo xv xc xr (m_hi M, m_rf M) (sc (i + 1)) (sc (i + 2)) (by omega)) ⟨Nat.le_of_ble_eq_true rfl, Nat.le_of_ble_eq_true rfl⟩ ⟨Nat.le_of_ble_eq_true rfl, Nat.le_of_ble_eq_true rfl⟩ [0] rfl ⟨rfl, rfl⟩ rfl rfl 0 0 rfl rfl rfl rfl (Nat.le_of_ble_eq_true rfl) (ff_cons (xl_fst _ _ _ _ _ _ _ _ _ _ _ _) (ff_nil)) (ws' := [xl xx xn xt xk xe xo xv xc xr cI (x_rf (m_hi M, m_rf M) 4), wl xn cI S, wl xt cI T1, wl xk cI K1, tl xe cI (m_q M), ol xo xp cI qo, wl xp cI T2, al xv xq cI qa, wl xq cI T3, cl xc xs xw cW qc, wl xs cI T4, wl (xw 0) cI V0, wl (xw 1) cI V1, wl (xw 2) cI V2, wl (xw 3) cI V3, wl (xw 4) cI V4, wl (xw 5) cI V5, wl (xw 6) cI V6, wl (xw 7) cI V7, rl xr xu cI (m_rw M, m_rn M), wl xu cI T5, ml m cI S M]) rfl ?_
    refine G.al X dL_law_647 1 rfl ?_
    refine G.al X dL_law_648 3 rfl ?_
    refine G.il X dL_law_649 0 rfl ?_
    refine G.pu X dL_law_650 ?_
    refine G.nadd X (a := i) (b := 1) dL_law_651 ?_
    refine G.sld X hX (i := i + 1) dL_law_652 (by omega) (by omega) ?_
    refine G.al X dL_law_653 3 rfl ?_
    refine G.il X dL_law_654 0 rfl ?_
    refine G.pu X dL_law_655 ?_
    refine G.nadd X (a := i) (b := 2) dL_law_656 ?_
    refine G.sld X hX (i := i + 2) dL_law_657 (by omega) (by omega) ?_
    refine G.cvi X kX7_runs lL_80 dL_law_658 (tX7_runs_lo l D cI cW m S M (sc (i + 1)) (sc (i + 2)) (by omega)) ⟨Nat.le_of_ble_eq_true rfl, Nat.le_of_ble_eq_true rfl⟩ ⟨Nat.le_of_ble_eq_true rfl, Nat.le_of_ble_eq_true rfl⟩ [21] rfl ⟨rfl, rfl⟩ rfl rfl 21 0 rfl rfl rfl rfl (Nat.le_of_ble_eq_true rfl) (ff_cons (ml_fst _ _ _ _ _ _) (ff_nil)) (ws' := [xl xx xn xt xk xe xo xv xc xr cI (x_rf (m_hi M, m_rf M) 4), wl xn cI S, wl xt cI T1, wl xk cI K1, tl xe cI (m_q M), ol xo xp cI qo, wl xp cI T2, al xv xq cI qa, wl xq cI T3, cl xc xs xw cW qc, wl xs cI T4, wl (xw 0) cI V0, wl (xw 1) cI V1, wl (xw 2) cI V2, wl (xw 3) cI V3, wl (xw 4) cI V4, wl (xw 5) cI V5, wl (xw 6) cI V6, wl (xw 7) cI V7, rl xr xu cI (m_rw M, m_rn M), wl xu cI T5, ml m cI S (m_no M 4)]) rfl ?_
    refine G.c_eq X (a := (-4)) (b := (-4)) dL_law_661 (fun h661 => ?_) (fun h661 => absurd (rfl) h661)
    exact kend S (m_no M 4) T1 K1 qo T2 qa T3 qc T4 V0 V1 V2 V3 V4 V5 V6 V7 T5 (hI.no 4)
  · by_cases cnh : 99 < sc (i + 1)
    · refine G.al X dL_law_633 2 rfl ?_
      refine G.al X dL_law_634 3 rfl ?_
      refine G.il X dL_law_635 0 rfl ?_
      refine G.pu X dL_law_636 ?_
      refine G.nadd X (a := i) (b := 1) dL_law_637 ?_
      refine G.sld X hX (i := i + 1) dL_law_638 (by omega) (by omega) ?_
      refine G.al X dL_law_639 3 rfl ?_
      refine G.il X dL_law_640 0 rfl ?_
      refine G.pu X dL_law_641 ?_
      refine G.nadd X (a := i) (b := 2) dL_law_642 ?_
      refine G.sld X hX (i := i + 2) dL_law_643 (by omega) (by omega) ?_
      refine G.cvi X kX6_runs lL_77 dL_law_644 (tX6_runs_hi l D cI cW xx xn xt xk xe xo xv xc xr (m_hi M, m_rf M) (sc (i + 1)) (sc (i + 2)) (by omega) (by omega)) ⟨Nat.le_of_ble_eq_true rfl, Nat.le_of_ble_eq_true rfl⟩ ⟨Nat.le_of_ble_eq_true rfl, Nat.le_of_ble_eq_true rfl⟩ [0] rfl ⟨rfl, rfl⟩ rfl rfl 0 0 rfl rfl rfl rfl (Nat.le_of_ble_eq_true rfl) (ff_cons (xl_fst _ _ _ _ _ _ _ _ _ _ _ _) (ff_nil)) (ws' := [xl xx xn xt xk xe xo xv xc xr cI (x_rf (m_hi M, m_rf M) 6), wl xn cI S, wl xt cI T1, wl xk cI K1, tl xe cI (m_q M), ol xo xp cI qo, wl xp cI T2, al xv xq cI qa, wl xq cI T3, cl xc xs xw cW qc, wl xs cI T4, wl (xw 0) cI V0, wl (xw 1) cI V1, wl (xw 2) cI V2, wl (xw 3) cI V3, wl (xw 4) cI V4, wl (xw 5) cI V5, wl (xw 6) cI V6, wl (xw 7) cI V7, rl xr xu cI (m_rw M, m_rn M), wl xu cI T5, ml m cI S M]) rfl ?_
      refine G.al X dL_law_647 1 rfl ?_
      refine G.al X dL_law_648 3 rfl ?_
      refine G.il X dL_law_649 0 rfl ?_
      refine G.pu X dL_law_650 ?_
      refine G.nadd X (a := i) (b := 1) dL_law_651 ?_
      refine G.sld X hX (i := i + 1) dL_law_652 (by omega) (by omega) ?_
      refine G.al X dL_law_653 3 rfl ?_
      refine G.il X dL_law_654 0 rfl ?_
      refine G.pu X dL_law_655 ?_
      refine G.nadd X (a := i) (b := 2) dL_law_656 ?_
      refine G.sld X hX (i := i + 2) dL_law_657 (by omega) (by omega) ?_
      refine G.cvi X kX7_runs lL_80 dL_law_658 (tX7_runs_hi l D cI cW m S M (sc (i + 1)) (sc (i + 2)) (by omega) (by omega)) ⟨Nat.le_of_ble_eq_true rfl, Nat.le_of_ble_eq_true rfl⟩ ⟨Nat.le_of_ble_eq_true rfl, Nat.le_of_ble_eq_true rfl⟩ [21] rfl ⟨rfl, rfl⟩ rfl rfl 21 0 rfl rfl rfl rfl (Nat.le_of_ble_eq_true rfl) (ff_cons (ml_fst _ _ _ _ _ _) (ff_nil)) (ws' := [xl xx xn xt xk xe xo xv xc xr cI (x_rf (m_hi M, m_rf M) 6), wl xn cI S, wl xt cI T1, wl xk cI K1, tl xe cI (m_q M), ol xo xp cI qo, wl xp cI T2, al xv xq cI qa, wl xq cI T3, cl xc xs xw cW qc, wl xs cI T4, wl (xw 0) cI V0, wl (xw 1) cI V1, wl (xw 2) cI V2, wl (xw 3) cI V3, wl (xw 4) cI V4, wl (xw 5) cI V5, wl (xw 6) cI V6, wl (xw 7) cI V7, rl xr xu cI (m_rw M, m_rn M), wl xu cI T5, ml m cI S (m_no M 6)]) rfl ?_
      refine G.c_eq X (a := (-6)) (b := (-6)) dL_law_661 (fun h661 => ?_) (fun h661 => absurd (rfl) h661)
      exact kend S (m_no M 6) T1 K1 qo T2 qa T3 qc T4 V0 V1 V2 V3 V4 V5 V6 V7 T5 (hI.no 6)
    · obtain ⟨n, ⟨hn1, hn2⟩, en⟩ := n_rng (lo := 1) (hi := 99) (by decide) (by decide) cnl cnh
      by_cases zw : z_in (sc (i + 2)) 2 = true
      · obtain ⟨w9, hw9, ew9⟩ := z_in_t zw
        rcases (show w9 = 0 ∨ w9 = 1 by omega) with rfl | rfl
        · refine G.al X dL_law_633 2 rfl ?_
          refine G.al X dL_law_634 3 rfl ?_
          refine G.il X dL_law_635 0 rfl ?_
          refine G.pu X dL_law_636 ?_
          refine G.nadd X (a := i) (b := 1) dL_law_637 ?_
          refine G.sld X hX (i := i + 1) dL_law_638 (by omega) (by omega) ?_
          refine G.top (b := nI n) en ?_
          refine G.al X dL_law_639 3 rfl ?_
          refine G.il X dL_law_640 0 rfl ?_
          refine G.pu X dL_law_641 ?_
          refine G.nadd X (a := i) (b := 2) dL_law_642 ?_
          refine G.sld X hX (i := i + 2) dL_law_643 (by omega) (by omega) ?_
          refine G.top (b := 0) ew9 ?_
          refine G.cvi X kX6_runs lL_77 dL_law_644 (tX6_runs_0 l D cI cW xx xn xt xk xe xo xv xc xr (m_hi M, m_rf M) S xp qo T2 n hI.ok hn1 hn2) ⟨Nat.le_of_ble_eq_true rfl, Nat.le_of_ble_eq_true rfl⟩ ⟨Nat.le_of_ble_eq_true rfl, Nat.le_of_ble_eq_true rfl⟩ [0, 1, 5, 6] rfl ⟨rfl, rfl⟩ rfl rfl 0 0 rfl rfl rfl rfl (Nat.le_of_ble_eq_true rfl) (ff_cons (xl_fst _ _ _ _ _ _ _ _ _ _ _ _) (ff_cons (wl_fst _ _ _ _) (ff_cons (ol_fst _ _ _ _ _) (ff_cons (wl_fst _ _ _ _) (ff_nil))))) (ws' := [xl xx xn xt xk xe xo xv xc xr cI (m_hi M, m_rf M), wl xn cI S, wl xt cI T1, wl xk cI K1, tl xe cI (m_q M), ol xo xp cI qo, wl xp cI (w_dayN S n), al xv xq cI qa, wl xq cI T3, cl xc xs xw cW qc, wl xs cI T4, wl (xw 0) cI V0, wl (xw 1) cI V1, wl (xw 2) cI V2, wl (xw 3) cI V3, wl (xw 4) cI V4, wl (xw 5) cI V5, wl (xw 6) cI V6, wl (xw 7) cI V7, rl xr xu cI (m_rw M, m_rn M), wl xu cI T5, ml m cI S M]) rfl ?_
          refine G.al X dL_law_647 1 rfl ?_
          refine G.al X dL_law_648 3 rfl ?_
          refine G.il X dL_law_649 0 rfl ?_
          refine G.pu X dL_law_650 ?_
          refine G.nadd X (a := i) (b := 1) dL_law_651 ?_
          refine G.sld X hX (i := i + 1) dL_law_652 (by omega) (by omega) ?_
          refine G.top (b := nI n) en ?_
          refine G.al X dL_law_653 3 rfl ?_
          refine G.il X dL_law_654 0 rfl ?_
          refine G.pu X dL_law_655 ?_
          refine G.nadd X (a := i) (b := 2) dL_law_656 ?_
          refine G.sld X hX (i := i + 2) dL_law_657 (by omega) (by omega) ?_
          refine G.top (b := 0) ew9 ?_
          refine G.cvie X kX7_runs lL_80 dL_law_658 (tX7_runs_0 l D cI cW m S M n hI.ok hI.co hn1 hn2) ⟨Nat.le_of_ble_eq_true rfl, Nat.le_of_ble_eq_true rfl⟩ ⟨Nat.le_of_ble_eq_true rfl, Nat.le_of_ble_eq_true rfl⟩ [21] rfl ⟨rfl, rfl⟩ rfl rfl 21 0 rfl rfl rfl rfl (Nat.le_of_ble_eq_true rfl) (fun _ => (ff_cons (ml_fst _ _ _ _ _ _) (ff_nil))) (f8 := fun M9_658 : {M9_658 : MS // Mq 64 M M9_658} => [xl xx xn xt xk xe xo xv xc xr cI (m_hi M, m_rf M), wl xn cI S, wl xt cI T1, wl xk cI K1, tl xe cI (m_q M), ol xo xp cI qo, wl xp cI (w_dayN S n), al xv xq cI qa, wl xq cI T3, cl xc xs xw cW qc, wl xs cI T4, wl (xw 0) cI V0, wl (xw 1) cI V1, wl (xw 2) cI V2, wl (xw 3) cI V3, wl (xw 4) cI V4, wl (xw 5) cI V5, wl (xw 6) cI V6, wl (xw 7) cI V7, rl xr xu cI (m_rw M, m_rn M), wl xu cI T5, ml m cI S M9_658.1]) (fun _ => rfl) (fun M9_658 => ?_)
          refine G.c_eq X (a := (nI (w_wet S n))) (b := (nI (w_wet S n))) dL_law_661 (fun h661 => ?_) (fun h661 => absurd (rfl) h661)
          rw [LW_q M9_658.2]
          exact kend S M9_658.1 T1 K1 qo (w_dayN S n) qa T3 qc T4 V0 V1 V2 V3 V4 V5 V6 V7 T5 (hI.q M9_658.2)
        · refine G.al X dL_law_633 2 rfl ?_
          refine G.al X dL_law_634 3 rfl ?_
          refine G.il X dL_law_635 0 rfl ?_
          refine G.pu X dL_law_636 ?_
          refine G.nadd X (a := i) (b := 1) dL_law_637 ?_
          refine G.sld X hX (i := i + 1) dL_law_638 (by omega) (by omega) ?_
          refine G.top (b := nI n) en ?_
          refine G.al X dL_law_639 3 rfl ?_
          refine G.il X dL_law_640 0 rfl ?_
          refine G.pu X dL_law_641 ?_
          refine G.nadd X (a := i) (b := 2) dL_law_642 ?_
          refine G.sld X hX (i := i + 2) dL_law_643 (by omega) (by omega) ?_
          refine G.top (b := 1) ew9 ?_
          refine G.cvi X kX6_runs lL_77 dL_law_644 (tX6_runs_1 l D cI cW xx xn xt xk xe xo xv xc xr (m_hi M, m_rf M) S xp qo T2 n hI.ok hn1 hn2) ⟨Nat.le_of_ble_eq_true rfl, Nat.le_of_ble_eq_true rfl⟩ ⟨Nat.le_of_ble_eq_true rfl, Nat.le_of_ble_eq_true rfl⟩ [0, 1, 5, 6] rfl ⟨rfl, rfl⟩ rfl rfl 0 0 rfl rfl rfl rfl (Nat.le_of_ble_eq_true rfl) (ff_cons (xl_fst _ _ _ _ _ _ _ _ _ _ _ _) (ff_cons (wl_fst _ _ _ _) (ff_cons (ol_fst _ _ _ _ _) (ff_cons (wl_fst _ _ _ _) (ff_nil))))) (ws' := [xl xx xn xt xk xe xo xv xc xr cI (m_hi M, m_rf M), wl xn cI S, wl xt cI T1, wl xk cI K1, tl xe cI (m_q M), ol xo xp cI qo, wl xp cI (w_dayN S n), al xv xq cI qa, wl xq cI T3, cl xc xs xw cW qc, wl xs cI T4, wl (xw 0) cI V0, wl (xw 1) cI V1, wl (xw 2) cI V2, wl (xw 3) cI V3, wl (xw 4) cI V4, wl (xw 5) cI V5, wl (xw 6) cI V6, wl (xw 7) cI V7, rl xr xu cI (m_rw M, m_rn M), wl xu cI T5, ml m cI S M]) rfl ?_
          refine G.al X dL_law_647 1 rfl ?_
          refine G.al X dL_law_648 3 rfl ?_
          refine G.il X dL_law_649 0 rfl ?_
          refine G.pu X dL_law_650 ?_
          refine G.nadd X (a := i) (b := 1) dL_law_651 ?_
          refine G.sld X hX (i := i + 1) dL_law_652 (by omega) (by omega) ?_
          refine G.top (b := nI n) en ?_
          refine G.al X dL_law_653 3 rfl ?_
          refine G.il X dL_law_654 0 rfl ?_
          refine G.pu X dL_law_655 ?_
          refine G.nadd X (a := i) (b := 2) dL_law_656 ?_
          refine G.sld X hX (i := i + 2) dL_law_657 (by omega) (by omega) ?_
          refine G.top (b := 1) ew9 ?_
          refine G.cvie X kX7_runs lL_80 dL_law_658 (tX7_runs_1 l D cI cW m S M n hI.ok hI.co hn1 hn2) ⟨Nat.le_of_ble_eq_true rfl, Nat.le_of_ble_eq_true rfl⟩ ⟨Nat.le_of_ble_eq_true rfl, Nat.le_of_ble_eq_true rfl⟩ [21] rfl ⟨rfl, rfl⟩ rfl rfl 21 0 rfl rfl rfl rfl (Nat.le_of_ble_eq_true rfl) (fun _ => (ff_cons (ml_fst _ _ _ _ _ _) (ff_nil))) (f8 := fun M9_658 : {M9_658 : MS // Mq 64 M M9_658} => [xl xx xn xt xk xe xo xv xc xr cI (m_hi M, m_rf M), wl xn cI S, wl xt cI T1, wl xk cI K1, tl xe cI (m_q M), ol xo xp cI qo, wl xp cI (w_dayN S n), al xv xq cI qa, wl xq cI T3, cl xc xs xw cW qc, wl xs cI T4, wl (xw 0) cI V0, wl (xw 1) cI V1, wl (xw 2) cI V2, wl (xw 3) cI V3, wl (xw 4) cI V4, wl (xw 5) cI V5, wl (xw 6) cI V6, wl (xw 7) cI V7, rl xr xu cI (m_rw M, m_rn M), wl xu cI T5, ml m cI S M9_658.1]) (fun _ => rfl) (fun M9_658 => ?_)
          refine G.c_eq X (a := (w_lng S n)) (b := (w_lng S n)) dL_law_661 (fun h661 => ?_) (fun h661 => absurd (rfl) h661)
          rw [LW_q M9_658.2]
          exact kend S M9_658.1 T1 K1 qo (w_dayN S n) qa T3 qc T4 V0 V1 V2 V3 V4 V5 V6 V7 T5 (hI.q M9_658.2)
      · replace zw : z_in (sc (i + 2)) 2 = false := by simpa using zw
        refine G.al X dL_law_633 2 rfl ?_
        refine G.al X dL_law_634 3 rfl ?_
        refine G.il X dL_law_635 0 rfl ?_
        refine G.pu X dL_law_636 ?_
        refine G.nadd X (a := i) (b := 1) dL_law_637 ?_
        refine G.sld X hX (i := i + 1) dL_law_638 (by omega) (by omega) ?_
        refine G.top (b := nI n) en ?_
        refine G.al X dL_law_639 3 rfl ?_
        refine G.il X dL_law_640 0 rfl ?_
        refine G.pu X dL_law_641 ?_
        refine G.nadd X (a := i) (b := 2) dL_law_642 ?_
        refine G.sld X hX (i := i + 2) dL_law_643 (by omega) (by omega) ?_
        refine G.cvi X kX6_runs lL_77 dL_law_644 (tX6_runs_oth l D cI cW xx xn xt xk xe xo xv xc xr (m_hi M, m_rf M) n (sc (i + 2)) hn1 hn2 zw) ⟨Nat.le_of_ble_eq_true rfl, Nat.le_of_ble_eq_true rfl⟩ ⟨Nat.le_of_ble_eq_true rfl, Nat.le_of_ble_eq_true rfl⟩ [0] rfl ⟨rfl, rfl⟩ rfl rfl 0 0 rfl rfl rfl rfl (Nat.le_of_ble_eq_true rfl) (ff_cons (xl_fst _ _ _ _ _ _ _ _ _ _ _ _) (ff_nil)) (ws' := [xl xx xn xt xk xe xo xv xc xr cI (x_rf (m_hi M, m_rf M) 2), wl xn cI S, wl xt cI T1, wl xk cI K1, tl xe cI (m_q M), ol xo xp cI qo, wl xp cI T2, al xv xq cI qa, wl xq cI T3, cl xc xs xw cW qc, wl xs cI T4, wl (xw 0) cI V0, wl (xw 1) cI V1, wl (xw 2) cI V2, wl (xw 3) cI V3, wl (xw 4) cI V4, wl (xw 5) cI V5, wl (xw 6) cI V6, wl (xw 7) cI V7, rl xr xu cI (m_rw M, m_rn M), wl xu cI T5, ml m cI S M]) rfl ?_
        refine G.al X dL_law_647 1 rfl ?_
        refine G.al X dL_law_648 3 rfl ?_
        refine G.il X dL_law_649 0 rfl ?_
        refine G.pu X dL_law_650 ?_
        refine G.nadd X (a := i) (b := 1) dL_law_651 ?_
        refine G.sld X hX (i := i + 1) dL_law_652 (by omega) (by omega) ?_
        refine G.top (b := nI n) en ?_
        refine G.al X dL_law_653 3 rfl ?_
        refine G.il X dL_law_654 0 rfl ?_
        refine G.pu X dL_law_655 ?_
        refine G.nadd X (a := i) (b := 2) dL_law_656 ?_
        refine G.sld X hX (i := i + 2) dL_law_657 (by omega) (by omega) ?_
        refine G.cvi X kX7_runs lL_80 dL_law_658 (tX7_runs_oth l D cI cW m S M n (sc (i + 2)) hn1 hn2 zw) ⟨Nat.le_of_ble_eq_true rfl, Nat.le_of_ble_eq_true rfl⟩ ⟨Nat.le_of_ble_eq_true rfl, Nat.le_of_ble_eq_true rfl⟩ [21] rfl ⟨rfl, rfl⟩ rfl rfl 21 0 rfl rfl rfl rfl (Nat.le_of_ble_eq_true rfl) (ff_cons (ml_fst _ _ _ _ _ _) (ff_nil)) (ws' := [xl xx xn xt xk xe xo xv xc xr cI (x_rf (m_hi M, m_rf M) 2), wl xn cI S, wl xt cI T1, wl xk cI K1, tl xe cI (m_q M), ol xo xp cI qo, wl xp cI T2, al xv xq cI qa, wl xq cI T3, cl xc xs xw cW qc, wl xs cI T4, wl (xw 0) cI V0, wl (xw 1) cI V1, wl (xw 2) cI V2, wl (xw 3) cI V3, wl (xw 4) cI V4, wl (xw 5) cI V5, wl (xw 6) cI V6, wl (xw 7) cI V7, rl xr xu cI (m_rw M, m_rn M), wl xu cI T5, ml m cI S (m_no M 2)]) rfl ?_
        refine G.c_eq X (a := (-2)) (b := (-2)) dL_law_661 (fun h661 => ?_) (fun h661 => absurd (rfl) h661)
        exact kend S (m_no M 2) T1 K1 qo T2 qa T3 qc T4 V0 V1 V2 V3 V4 V5 V6 V7 T5 (hI.no 2)

set_option maxRecDepth 20000 in
theorem law_16 {l : Launch} {D : va_G} {cI cW : ClassId} {x : GC} (X : GOK x l D cI cW RL cL_law 4 room_1) {b L i : Nat} {sc : Nat → Int32} (hX : GX x b L sc) (hL : L ≤ 2560) (hi : i + 5 ≤ L) {xx xn xt xk xe xo xp xv xq xc xs : Nat → Nat} {xw : Nat → Nat → Nat} {xr xu m : Nat → Nat} (kend : ∀ (S : WS) (M : MS) (T1 : WS) (K1 : WS) (qo : FN) (T2 : WS) (qa : FN × FN) (T3 : WS) (qc : Int32 × Int32 × Int32) (T4 : WS) (V0 : WS) (V1 : WS) (V2 : WS) (V3 : WS) (V4 : WS) (V5 : WS) (V6 : WS) (V7 : WS) (T5 : WS), IV S M K1 → G x 165 1897 (LW cI cW xx xn xt xk xe xo xp xv xq xc xs xw xr xu m S M T1 K1 qo T2 qa T3 qc T4 V0 V1 V2 V3 V4 V5 V6 V7 T5) 1230 [(3, .int (nI i)), (2, .ref (m 0)), (1, .ref (xx 0)), (0, .ref b)] []) (S : WS) (M : MS) (T1 : WS) (K1 : WS) (qo : FN) (T2 : WS) (qa : FN × FN) (T3 : WS) (qc : Int32 × Int32 × Int32) (T4 : WS) (V0 : WS) (V1 : WS) (V2 : WS) (V3 : WS) (V4 : WS) (V5 : WS) (V6 : WS) (V7 : WS) (T5 : WS) (hI : IV S M K1) : G x 165 1897 (LW cI cW xx xn xt xk xe xo xp xv xq xc xs xw xr xu m S M T1 K1 qo T2 qa T3 qc T4 V0 V1 V2 V3 V4 V5 V6 V7 T5) 666 [(3, .int (nI i)), (2, .ref (m 0)), (1, .ref (xx 0)), (0, .ref b)] [] := by
  show G x 165 1897 ([xl xx xn xt xk xe xo xv xc xr cI (m_hi M, m_rf M), wl xn cI S, wl xt cI T1, wl xk cI K1, tl xe cI (m_q M), ol xo xp cI qo, wl xp cI T2, al xv xq cI qa, wl xq cI T3, cl xc xs xw cW qc, wl xs cI T4, wl (xw 0) cI V0, wl (xw 1) cI V1, wl (xw 2) cI V2, wl (xw 3) cI V3, wl (xw 4) cI V4, wl (xw 5) cI V5, wl (xw 6) cI V6, wl (xw 7) cI V7, rl xr xu cI (m_rw M, m_rn M), wl xu cI T5, ml m cI S M]) 666 [(3, .int (nI i)), (2, .ref (m 0)), (1, .ref (xx 0)), (0, .ref b)] []
  refine G.al X dL_law_666 2 rfl ?_
  refine G.cvi X kX6_never lL_81 dL_law_667 (tX6_never l D cI cW xx xn xt xk xe xo xv xc xr (m_hi M, m_rf M) S hI.ok) ⟨Nat.le_of_ble_eq_true rfl, Nat.le_of_ble_eq_true rfl⟩ ⟨Nat.le_of_ble_eq_true rfl, Nat.le_of_ble_eq_true rfl⟩ [0, 1] rfl ⟨rfl, rfl⟩ rfl rfl 0 0 rfl rfl rfl rfl (Nat.le_of_ble_eq_true rfl) (ff_cons (xl_fst _ _ _ _ _ _ _ _ _ _ _ _) (ff_cons (wl_fst _ _ _ _) (ff_nil))) (ws' := [xl xx xn xt xk xe xo xv xc xr cI (m_hi M, m_rf M), wl xn cI S, wl xt cI T1, wl xk cI K1, tl xe cI (m_q M), ol xo xp cI qo, wl xp cI T2, al xv xq cI qa, wl xq cI T3, cl xc xs xw cW qc, wl xs cI T4, wl (xw 0) cI V0, wl (xw 1) cI V1, wl (xw 2) cI V2, wl (xw 3) cI V3, wl (xw 4) cI V4, wl (xw 5) cI V5, wl (xw 6) cI V6, wl (xw 7) cI V7, rl xr xu cI (m_rw M, m_rn M), wl xu cI T5, ml m cI S M]) rfl ?_
  refine G.al X dL_law_670 1 rfl ?_
  refine G.cvi X kX7_never lL_84 dL_law_671 (tX7_never l D cI cW m S M hI.ok) ⟨Nat.le_of_ble_eq_true rfl, Nat.le_of_ble_eq_true rfl⟩ ⟨Nat.le_of_ble_eq_true rfl, Nat.le_of_ble_eq_true rfl⟩ [21] rfl ⟨rfl, rfl⟩ rfl rfl 21 0 rfl rfl rfl rfl (Nat.le_of_ble_eq_true rfl) (ff_cons (ml_fst _ _ _ _ _ _) (ff_nil)) (ws' := [xl xx xn xt xk xe xo xv xc xr cI (m_hi M, m_rf M), wl xn cI S, wl xt cI T1, wl xk cI K1, tl xe cI (m_q M), ol xo xp cI qo, wl xp cI T2, al xv xq cI qa, wl xq cI T3, cl xc xs xw cW qc, wl xs cI T4, wl (xw 0) cI V0, wl (xw 1) cI V1, wl (xw 2) cI V2, wl (xw 3) cI V3, wl (xw 4) cI V4, wl (xw 5) cI V5, wl (xw 6) cI V6, wl (xw 7) cI V7, rl xr xu cI (m_rw M, m_rn M), wl xu cI T5, ml m cI S M]) rfl ?_
  refine G.c_eq X (a := (w_nevb S (s_th S))) (b := (w_nevb S (s_th S))) dL_law_674 (fun h674 => ?_) (fun h674 => absurd (rfl) h674)
  exact kend S M T1 K1 qo T2 qa T3 qc T4 V0 V1 V2 V3 V4 V5 V6 V7 T5 hI

set_option maxRecDepth 20000 in
theorem law_17 {l : Launch} {D : va_G} {cI cW : ClassId} {x : GC} (X : GOK x l D cI cW RL cL_law 4 room_1) {b L i : Nat} {sc : Nat → Int32} (hX : GX x b L sc) (hL : L ≤ 2560) (hi : i + 5 ≤ L) {xx xn xt xk xe xo xp xv xq xc xs : Nat → Nat} {xw : Nat → Nat → Nat} {xr xu m : Nat → Nat} (kend : ∀ (S : WS) (M : MS) (T1 : WS) (K1 : WS) (qo : FN) (T2 : WS) (qa : FN × FN) (T3 : WS) (qc : Int32 × Int32 × Int32) (T4 : WS) (V0 : WS) (V1 : WS) (V2 : WS) (V3 : WS) (V4 : WS) (V5 : WS) (V6 : WS) (V7 : WS) (T5 : WS), IV S M K1 → G x 165 1897 (LW cI cW xx xn xt xk xe xo xp xv xq xc xs xw xr xu m S M T1 K1 qo T2 qa T3 qc T4 V0 V1 V2 V3 V4 V5 V6 V7 T5) 1230 [(3, .int (nI i)), (2, .ref (m 0)), (1, .ref (xx 0)), (0, .ref b)] []) (S : WS) (M : MS) (T1 : WS) (K1 : WS) (qo : FN) (T2 : WS) (qa : FN × FN) (T3 : WS) (qc : Int32 × Int32 × Int32) (T4 : WS) (V0 : WS) (V1 : WS) (V2 : WS) (V3 : WS) (V4 : WS) (V5 : WS) (V6 : WS) (V7 : WS) (T5 : WS) (hI : IV S M K1) : G x 165 1897 (LW cI cW xx xn xt xk xe xo xp xv xq xc xs xw xr xu m S M T1 K1 qo T2 qa T3 qc T4 V0 V1 V2 V3 V4 V5 V6 V7 T5) 679 [(3, .int (nI i)), (2, .ref (m 0)), (1, .ref (xx 0)), (0, .ref b)] [] := by
  show G x 165 1897 ([xl xx xn xt xk xe xo xv xc xr cI (m_hi M, m_rf M), wl xn cI S, wl xt cI T1, wl xk cI K1, tl xe cI (m_q M), ol xo xp cI qo, wl xp cI T2, al xv xq cI qa, wl xq cI T3, cl xc xs xw cW qc, wl xs cI T4, wl (xw 0) cI V0, wl (xw 1) cI V1, wl (xw 2) cI V2, wl (xw 3) cI V3, wl (xw 4) cI V4, wl (xw 5) cI V5, wl (xw 6) cI V6, wl (xw 7) cI V7, rl xr xu cI (m_rw M, m_rn M), wl xu cI T5, ml m cI S M]) 679 [(3, .int (nI i)), (2, .ref (m 0)), (1, .ref (xx 0)), (0, .ref b)] []
  refine G.al X dL_law_679 2 rfl ?_
  refine G.cvi X kX6_busiest lL_85 dL_law_680 (tX6_busiest l D cI cW xx xn xt xk xe xo xv xc xr (m_hi M, m_rf M) S hI.ok) ⟨Nat.le_of_ble_eq_true rfl, Nat.le_of_ble_eq_true rfl⟩ ⟨Nat.le_of_ble_eq_true rfl, Nat.le_of_ble_eq_true rfl⟩ [0, 1] rfl ⟨rfl, rfl⟩ rfl rfl 0 0 rfl rfl rfl rfl (Nat.le_of_ble_eq_true rfl) (ff_cons (xl_fst _ _ _ _ _ _ _ _ _ _ _ _) (ff_cons (wl_fst _ _ _ _) (ff_nil))) (ws' := [xl xx xn xt xk xe xo xv xc xr cI (m_hi M, m_rf M), wl xn cI S, wl xt cI T1, wl xk cI K1, tl xe cI (m_q M), ol xo xp cI qo, wl xp cI T2, al xv xq cI qa, wl xq cI T3, cl xc xs xw cW qc, wl xs cI T4, wl (xw 0) cI V0, wl (xw 1) cI V1, wl (xw 2) cI V2, wl (xw 3) cI V3, wl (xw 4) cI V4, wl (xw 5) cI V5, wl (xw 6) cI V6, wl (xw 7) cI V7, rl xr xu cI (m_rw M, m_rn M), wl xu cI T5, ml m cI S M]) rfl ?_
  refine G.al X dL_law_683 1 rfl ?_
  refine G.cvi X kX7_busiest lL_88 dL_law_684 (tX7_busiest l D cI cW m S M hI.ok) ⟨Nat.le_of_ble_eq_true rfl, Nat.le_of_ble_eq_true rfl⟩ ⟨Nat.le_of_ble_eq_true rfl, Nat.le_of_ble_eq_true rfl⟩ [21] rfl ⟨rfl, rfl⟩ rfl rfl 21 0 rfl rfl rfl rfl (Nat.le_of_ble_eq_true rfl) (ff_cons (ml_fst _ _ _ _ _ _) (ff_nil)) (ws' := [xl xx xn xt xk xe xo xv xc xr cI (m_hi M, m_rf M), wl xn cI S, wl xt cI T1, wl xk cI K1, tl xe cI (m_q M), ol xo xp cI qo, wl xp cI T2, al xv xq cI qa, wl xq cI T3, cl xc xs xw cW qc, wl xs cI T4, wl (xw 0) cI V0, wl (xw 1) cI V1, wl (xw 2) cI V2, wl (xw 3) cI V3, wl (xw 4) cI V4, wl (xw 5) cI V5, wl (xw 6) cI V6, wl (xw 7) cI V7, rl xr xu cI (m_rw M, m_rn M), wl xu cI T5, ml m cI S M]) rfl ?_
  refine G.c_eq X (a := ((bmax yes (fun p => w_qs S (nI p) (s_th S)) (-9, -1) (s_pe S)).1)) (b := (o2i (bix yes (fun i j => decide (w_qs S (nI i) (s_th S) < w_qs S (nI j) (s_th S))) (s_pe S)))) dL_law_687 (fun h687 => ?_) (fun h687 => absurd ((q_busiest hI.ok)) h687)
  exact kend S M T1 K1 qo T2 qa T3 qc T4 V0 V1 V2 V3 V4 V5 V6 V7 T5 hI
