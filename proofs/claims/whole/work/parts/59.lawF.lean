set_option maxRecDepth 20000 in
theorem law_30 {l : Launch} {D : va_G} {cI cW : ClassId} {x : GC} (X : GOK x l D cI cW RL cL_law 4 room_1) {b L i : Nat} {sc : Nat → Int32} (hX : GX x b L sc) (hL : L ≤ 2560) (hi : i + 5 ≤ L) {xx xn xt xk xe xo xp xv xq xc xs : Nat → Nat} {xw : Nat → Nat → Nat} {xr xu m : Nat → Nat} (kend : ∀ (S : WS) (M : MS) (T1 : WS) (K1 : WS) (qo : FN) (T2 : WS) (qa : FN × FN) (T3 : WS) (qc : Int32 × Int32 × Int32) (T4 : WS) (V0 : WS) (V1 : WS) (V2 : WS) (V3 : WS) (V4 : WS) (V5 : WS) (V6 : WS) (V7 : WS) (T5 : WS), IV S M K1 → G x 165 1897 (LW cI cW xx xn xt xk xe xo xp xv xq xc xs xw xr xu m S M T1 K1 qo T2 qa T3 qc T4 V0 V1 V2 V3 V4 V5 V6 V7 T5) 1230 [(3, .int (nI i)), (2, .ref (m 0)), (1, .ref (xx 0)), (0, .ref b)] []) (S : WS) (M : MS) (T1 : WS) (K1 : WS) (qo : FN) (T2 : WS) (qa : FN × FN) (T3 : WS) (qc : Int32 × Int32 × Int32) (T4 : WS) (V0 : WS) (V1 : WS) (V2 : WS) (V3 : WS) (V4 : WS) (V5 : WS) (V6 : WS) (V7 : WS) (T5 : WS) (hI : IV S M K1) : G x 165 1897 (LW cI cW xx xn xt xk xe xo xp xv xq xc xs xw xr xu m S M T1 K1 qo T2 qa T3 qc T4 V0 V1 V2 V3 V4 V5 V6 V7 T5) 988 [(3, .int (nI i)), (2, .ref (m 0)), (1, .ref (xx 0)), (0, .ref b)] [] := by
  show G x 165 1897 ([xl xx xn xt xk xe xo xv xc xr cI (m_hi M, m_rf M), wl xn cI S, wl xt cI T1, wl xk cI K1, tl xe cI (m_q M), ol xo xp cI qo, wl xp cI T2, al xv xq cI qa, wl xq cI T3, cl xc xs xw cW qc, wl xs cI T4, wl (xw 0) cI V0, wl (xw 1) cI V1, wl (xw 2) cI V2, wl (xw 3) cI V3, wl (xw 4) cI V4, wl (xw 5) cI V5, wl (xw 6) cI V6, wl (xw 7) cI V7, rl xr xu cI (m_rw M, m_rn M), wl xu cI T5, ml m cI S M]) 988 [(3, .int (nI i)), (2, .ref (m 0)), (1, .ref (xx 0)), (0, .ref b)] []
  by_cases c1 : sc (i + 1) < 0
  · refine G.al X dL_law_988 2 rfl ?_
    refine G.al X dL_law_989 3 rfl ?_
    refine G.il X dL_law_990 0 rfl ?_
    refine G.pu X dL_law_991 ?_
    refine G.nadd X (a := i) (b := 1) dL_law_992 ?_
    refine G.sld X hX (i := i + 1) dL_law_993 (by omega) (by omega) ?_
    refine G.al X dL_law_994 3 rfl ?_
    refine G.il X dL_law_995 0 rfl ?_
    refine G.pu X dL_law_996 ?_
    refine G.nadd X (a := i) (b := 2) dL_law_997 ?_
    refine G.sld X hX (i := i + 2) dL_law_998 (by omega) (by omega) ?_
    refine G.al X dL_law_999 3 rfl ?_
    refine G.il X dL_law_1000 0 rfl ?_
    refine G.pu X dL_law_1001 ?_
    refine G.nadd X (a := i) (b := 3) dL_law_1002 ?_
    refine G.sld X hX (i := i + 3) dL_law_1003 (by omega) (by omega) ?_
    refine G.cvj X kX6_cold lL_138 dL_law_1004 (tX6_cold_lo l D cI cW xx xn xt xk xe xo xv xc xr (m_hi M, m_rf M) (sc (i + 1)) (sc (i + 2)) (sc (i + 3)) (Or.inl c1)) ⟨Nat.le_of_ble_eq_true rfl, Nat.le_of_ble_eq_true rfl⟩ ⟨Nat.le_of_ble_eq_true rfl, Nat.le_of_ble_eq_true rfl⟩ [0] rfl ⟨rfl, rfl⟩ rfl rfl 0 0 rfl rfl rfl rfl (Nat.le_of_ble_eq_true rfl) (ff_cons (xl_fst _ _ _ _ _ _ _ _ _ _ _ _) (ff_nil)) (ws' := [xl xx xn xt xk xe xo xv xc xr cI (x_rf (m_hi M, m_rf M) 4), wl xn cI S, wl xt cI T1, wl xk cI K1, tl xe cI (m_q M), ol xo xp cI qo, wl xp cI T2, al xv xq cI qa, wl xq cI T3, cl xc xs xw cW qc, wl xs cI T4, wl (xw 0) cI V0, wl (xw 1) cI V1, wl (xw 2) cI V2, wl (xw 3) cI V3, wl (xw 4) cI V4, wl (xw 5) cI V5, wl (xw 6) cI V6, wl (xw 7) cI V7, rl xr xu cI (m_rw M, m_rn M), wl xu cI T5, ml m cI S M]) rfl ?_
    refine G.al X dL_law_1007 1 rfl ?_
    refine G.al X dL_law_1008 3 rfl ?_
    refine G.il X dL_law_1009 0 rfl ?_
    refine G.pu X dL_law_1010 ?_
    refine G.nadd X (a := i) (b := 1) dL_law_1011 ?_
    refine G.sld X hX (i := i + 1) dL_law_1012 (by omega) (by omega) ?_
    refine G.al X dL_law_1013 3 rfl ?_
    refine G.il X dL_law_1014 0 rfl ?_
    refine G.pu X dL_law_1015 ?_
    refine G.nadd X (a := i) (b := 2) dL_law_1016 ?_
    refine G.sld X hX (i := i + 2) dL_law_1017 (by omega) (by omega) ?_
    refine G.al X dL_law_1018 3 rfl ?_
    refine G.il X dL_law_1019 0 rfl ?_
    refine G.pu X dL_law_1020 ?_
    refine G.nadd X (a := i) (b := 3) dL_law_1021 ?_
    refine G.sld X hX (i := i + 3) dL_law_1022 (by omega) (by omega) ?_
    refine G.cvj X kX7_cold lL_142 dL_law_1023 (tX7_cold_lo1 l D cI cW m S M (sc (i + 1)) (sc (i + 2)) (sc (i + 3)) (by omega)) ⟨Nat.le_of_ble_eq_true rfl, Nat.le_of_ble_eq_true rfl⟩ ⟨Nat.le_of_ble_eq_true rfl, Nat.le_of_ble_eq_true rfl⟩ [21] rfl ⟨rfl, rfl⟩ rfl rfl 21 0 rfl rfl rfl rfl (Nat.le_of_ble_eq_true rfl) (ff_cons (ml_fst _ _ _ _ _ _) (ff_nil)) (ws' := [xl xx xn xt xk xe xo xv xc xr cI (x_rf (m_hi M, m_rf M) 4), wl xn cI S, wl xt cI T1, wl xk cI K1, tl xe cI (m_q M), ol xo xp cI qo, wl xp cI T2, al xv xq cI qa, wl xq cI T3, cl xc xs xw cW qc, wl xs cI T4, wl (xw 0) cI V0, wl (xw 1) cI V1, wl (xw 2) cI V2, wl (xw 3) cI V3, wl (xw 4) cI V4, wl (xw 5) cI V5, wl (xw 6) cI V6, wl (xw 7) cI V7, rl xr xu cI (m_rw M, m_rn M), wl xu cI T5, ml m cI S (m_no M 4)]) rfl ?_
    refine G.lcmp X dL_law_1026 ?_
    refine G.l_eq X dL_law_1027 (fun h1027 => ?_) (fun h1027 => absurd (rfl) h1027)
    exact kend S (m_no M 4) T1 K1 qo T2 qa T3 qc T4 V0 V1 V2 V3 V4 V5 V6 V7 T5 (hI.no 4)
  · by_cases c2 : sc (i + 2) < 2
    · refine G.al X dL_law_988 2 rfl ?_
      refine G.al X dL_law_989 3 rfl ?_
      refine G.il X dL_law_990 0 rfl ?_
      refine G.pu X dL_law_991 ?_
      refine G.nadd X (a := i) (b := 1) dL_law_992 ?_
      refine G.sld X hX (i := i + 1) dL_law_993 (by omega) (by omega) ?_
      refine G.al X dL_law_994 3 rfl ?_
      refine G.il X dL_law_995 0 rfl ?_
      refine G.pu X dL_law_996 ?_
      refine G.nadd X (a := i) (b := 2) dL_law_997 ?_
      refine G.sld X hX (i := i + 2) dL_law_998 (by omega) (by omega) ?_
      refine G.al X dL_law_999 3 rfl ?_
      refine G.il X dL_law_1000 0 rfl ?_
      refine G.pu X dL_law_1001 ?_
      refine G.nadd X (a := i) (b := 3) dL_law_1002 ?_
      refine G.sld X hX (i := i + 3) dL_law_1003 (by omega) (by omega) ?_
      refine G.cvj X kX6_cold lL_138 dL_law_1004 (tX6_cold_lo l D cI cW xx xn xt xk xe xo xv xc xr (m_hi M, m_rf M) (sc (i + 1)) (sc (i + 2)) (sc (i + 3)) (Or.inr c2)) ⟨Nat.le_of_ble_eq_true rfl, Nat.le_of_ble_eq_true rfl⟩ ⟨Nat.le_of_ble_eq_true rfl, Nat.le_of_ble_eq_true rfl⟩ [0] rfl ⟨rfl, rfl⟩ rfl rfl 0 0 rfl rfl rfl rfl (Nat.le_of_ble_eq_true rfl) (ff_cons (xl_fst _ _ _ _ _ _ _ _ _ _ _ _) (ff_nil)) (ws' := [xl xx xn xt xk xe xo xv xc xr cI (x_rf (m_hi M, m_rf M) 4), wl xn cI S, wl xt cI T1, wl xk cI K1, tl xe cI (m_q M), ol xo xp cI qo, wl xp cI T2, al xv xq cI qa, wl xq cI T3, cl xc xs xw cW qc, wl xs cI T4, wl (xw 0) cI V0, wl (xw 1) cI V1, wl (xw 2) cI V2, wl (xw 3) cI V3, wl (xw 4) cI V4, wl (xw 5) cI V5, wl (xw 6) cI V6, wl (xw 7) cI V7, rl xr xu cI (m_rw M, m_rn M), wl xu cI T5, ml m cI S M]) rfl ?_
      refine G.al X dL_law_1007 1 rfl ?_
      refine G.al X dL_law_1008 3 rfl ?_
      refine G.il X dL_law_1009 0 rfl ?_
      refine G.pu X dL_law_1010 ?_
      refine G.nadd X (a := i) (b := 1) dL_law_1011 ?_
      refine G.sld X hX (i := i + 1) dL_law_1012 (by omega) (by omega) ?_
      refine G.al X dL_law_1013 3 rfl ?_
      refine G.il X dL_law_1014 0 rfl ?_
      refine G.pu X dL_law_1015 ?_
      refine G.nadd X (a := i) (b := 2) dL_law_1016 ?_
      refine G.sld X hX (i := i + 2) dL_law_1017 (by omega) (by omega) ?_
      refine G.al X dL_law_1018 3 rfl ?_
      refine G.il X dL_law_1019 0 rfl ?_
      refine G.pu X dL_law_1020 ?_
      refine G.nadd X (a := i) (b := 3) dL_law_1021 ?_
      refine G.sld X hX (i := i + 3) dL_law_1022 (by omega) (by omega) ?_
      refine G.cvj X kX7_cold lL_142 dL_law_1023 (tX7_cold_lo2 l D cI cW m S M (sc (i + 1)) (sc (i + 2)) (sc (i + 3)) (by omega) (by omega)) ⟨Nat.le_of_ble_eq_true rfl, Nat.le_of_ble_eq_true rfl⟩ ⟨Nat.le_of_ble_eq_true rfl, Nat.le_of_ble_eq_true rfl⟩ [21] rfl ⟨rfl, rfl⟩ rfl rfl 21 0 rfl rfl rfl rfl (Nat.le_of_ble_eq_true rfl) (ff_cons (ml_fst _ _ _ _ _ _) (ff_nil)) (ws' := [xl xx xn xt xk xe xo xv xc xr cI (x_rf (m_hi M, m_rf M) 4), wl xn cI S, wl xt cI T1, wl xk cI K1, tl xe cI (m_q M), ol xo xp cI qo, wl xp cI T2, al xv xq cI qa, wl xq cI T3, cl xc xs xw cW qc, wl xs cI T4, wl (xw 0) cI V0, wl (xw 1) cI V1, wl (xw 2) cI V2, wl (xw 3) cI V3, wl (xw 4) cI V4, wl (xw 5) cI V5, wl (xw 6) cI V6, wl (xw 7) cI V7, rl xr xu cI (m_rw M, m_rn M), wl xu cI T5, ml m cI S (m_no M 4)]) rfl ?_
      refine G.lcmp X dL_law_1026 ?_
      refine G.l_eq X dL_law_1027 (fun h1027 => ?_) (fun h1027 => absurd (rfl) h1027)
      exact kend S (m_no M 4) T1 K1 qo T2 qa T3 qc T4 V0 V1 V2 V3 V4 V5 V6 V7 T5 (hI.no 4)
    · by_cases c3 : 7 < sc (i + 1)
      · refine G.al X dL_law_988 2 rfl ?_
        refine G.al X dL_law_989 3 rfl ?_
        refine G.il X dL_law_990 0 rfl ?_
        refine G.pu X dL_law_991 ?_
        refine G.nadd X (a := i) (b := 1) dL_law_992 ?_
        refine G.sld X hX (i := i + 1) dL_law_993 (by omega) (by omega) ?_
        refine G.al X dL_law_994 3 rfl ?_
        refine G.il X dL_law_995 0 rfl ?_
        refine G.pu X dL_law_996 ?_
        refine G.nadd X (a := i) (b := 2) dL_law_997 ?_
        refine G.sld X hX (i := i + 2) dL_law_998 (by omega) (by omega) ?_
        refine G.al X dL_law_999 3 rfl ?_
        refine G.il X dL_law_1000 0 rfl ?_
        refine G.pu X dL_law_1001 ?_
        refine G.nadd X (a := i) (b := 3) dL_law_1002 ?_
        refine G.sld X hX (i := i + 3) dL_law_1003 (by omega) (by omega) ?_
        refine G.cvj X kX6_cold lL_138 dL_law_1004 (tX6_cold_hi l D cI cW xx xn xt xk xe xo xv xc xr (m_hi M, m_rf M) (sc (i + 1)) (sc (i + 2)) (sc (i + 3)) (by omega) (by omega) (Or.inl c3)) ⟨Nat.le_of_ble_eq_true rfl, Nat.le_of_ble_eq_true rfl⟩ ⟨Nat.le_of_ble_eq_true rfl, Nat.le_of_ble_eq_true rfl⟩ [0] rfl ⟨rfl, rfl⟩ rfl rfl 0 0 rfl rfl rfl rfl (Nat.le_of_ble_eq_true rfl) (ff_cons (xl_fst _ _ _ _ _ _ _ _ _ _ _ _) (ff_nil)) (ws' := [xl xx xn xt xk xe xo xv xc xr cI (x_rf (m_hi M, m_rf M) 6), wl xn cI S, wl xt cI T1, wl xk cI K1, tl xe cI (m_q M), ol xo xp cI qo, wl xp cI T2, al xv xq cI qa, wl xq cI T3, cl xc xs xw cW qc, wl xs cI T4, wl (xw 0) cI V0, wl (xw 1) cI V1, wl (xw 2) cI V2, wl (xw 3) cI V3, wl (xw 4) cI V4, wl (xw 5) cI V5, wl (xw 6) cI V6, wl (xw 7) cI V7, rl xr xu cI (m_rw M, m_rn M), wl xu cI T5, ml m cI S M]) rfl ?_
        refine G.al X dL_law_1007 1 rfl ?_
        refine G.al X dL_law_1008 3 rfl ?_
        refine G.il X dL_law_1009 0 rfl ?_
        refine G.pu X dL_law_1010 ?_
        refine G.nadd X (a := i) (b := 1) dL_law_1011 ?_
        refine G.sld X hX (i := i + 1) dL_law_1012 (by omega) (by omega) ?_
        refine G.al X dL_law_1013 3 rfl ?_
        refine G.il X dL_law_1014 0 rfl ?_
        refine G.pu X dL_law_1015 ?_
        refine G.nadd X (a := i) (b := 2) dL_law_1016 ?_
        refine G.sld X hX (i := i + 2) dL_law_1017 (by omega) (by omega) ?_
        refine G.al X dL_law_1018 3 rfl ?_
        refine G.il X dL_law_1019 0 rfl ?_
        refine G.pu X dL_law_1020 ?_
        refine G.nadd X (a := i) (b := 3) dL_law_1021 ?_
        refine G.sld X hX (i := i + 3) dL_law_1022 (by omega) (by omega) ?_
        refine G.cvj X kX7_cold lL_142 dL_law_1023 (tX7_cold_hi1 l D cI cW m S M (sc (i + 1)) (sc (i + 2)) (sc (i + 3)) (by omega) (by omega) (by omega)) ⟨Nat.le_of_ble_eq_true rfl, Nat.le_of_ble_eq_true rfl⟩ ⟨Nat.le_of_ble_eq_true rfl, Nat.le_of_ble_eq_true rfl⟩ [21] rfl ⟨rfl, rfl⟩ rfl rfl 21 0 rfl rfl rfl rfl (Nat.le_of_ble_eq_true rfl) (ff_cons (ml_fst _ _ _ _ _ _) (ff_nil)) (ws' := [xl xx xn xt xk xe xo xv xc xr cI (x_rf (m_hi M, m_rf M) 6), wl xn cI S, wl xt cI T1, wl xk cI K1, tl xe cI (m_q M), ol xo xp cI qo, wl xp cI T2, al xv xq cI qa, wl xq cI T3, cl xc xs xw cW qc, wl xs cI T4, wl (xw 0) cI V0, wl (xw 1) cI V1, wl (xw 2) cI V2, wl (xw 3) cI V3, wl (xw 4) cI V4, wl (xw 5) cI V5, wl (xw 6) cI V6, wl (xw 7) cI V7, rl xr xu cI (m_rw M, m_rn M), wl xu cI T5, ml m cI S (m_no M 6)]) rfl ?_
        refine G.lcmp X dL_law_1026 ?_
        refine G.l_eq X dL_law_1027 (fun h1027 => ?_) (fun h1027 => absurd (rfl) h1027)
        exact kend S (m_no M 6) T1 K1 qo T2 qa T3 qc T4 V0 V1 V2 V3 V4 V5 V6 V7 T5 (hI.no 6)
      · by_cases c4 : 20 < sc (i + 2)
        · refine G.al X dL_law_988 2 rfl ?_
          refine G.al X dL_law_989 3 rfl ?_
          refine G.il X dL_law_990 0 rfl ?_
          refine G.pu X dL_law_991 ?_
          refine G.nadd X (a := i) (b := 1) dL_law_992 ?_
          refine G.sld X hX (i := i + 1) dL_law_993 (by omega) (by omega) ?_
          refine G.al X dL_law_994 3 rfl ?_
          refine G.il X dL_law_995 0 rfl ?_
          refine G.pu X dL_law_996 ?_
          refine G.nadd X (a := i) (b := 2) dL_law_997 ?_
          refine G.sld X hX (i := i + 2) dL_law_998 (by omega) (by omega) ?_
          refine G.al X dL_law_999 3 rfl ?_
          refine G.il X dL_law_1000 0 rfl ?_
          refine G.pu X dL_law_1001 ?_
          refine G.nadd X (a := i) (b := 3) dL_law_1002 ?_
          refine G.sld X hX (i := i + 3) dL_law_1003 (by omega) (by omega) ?_
          refine G.cvj X kX6_cold lL_138 dL_law_1004 (tX6_cold_hi l D cI cW xx xn xt xk xe xo xv xc xr (m_hi M, m_rf M) (sc (i + 1)) (sc (i + 2)) (sc (i + 3)) (by omega) (by omega) (Or.inr c4)) ⟨Nat.le_of_ble_eq_true rfl, Nat.le_of_ble_eq_true rfl⟩ ⟨Nat.le_of_ble_eq_true rfl, Nat.le_of_ble_eq_true rfl⟩ [0] rfl ⟨rfl, rfl⟩ rfl rfl 0 0 rfl rfl rfl rfl (Nat.le_of_ble_eq_true rfl) (ff_cons (xl_fst _ _ _ _ _ _ _ _ _ _ _ _) (ff_nil)) (ws' := [xl xx xn xt xk xe xo xv xc xr cI (x_rf (m_hi M, m_rf M) 6), wl xn cI S, wl xt cI T1, wl xk cI K1, tl xe cI (m_q M), ol xo xp cI qo, wl xp cI T2, al xv xq cI qa, wl xq cI T3, cl xc xs xw cW qc, wl xs cI T4, wl (xw 0) cI V0, wl (xw 1) cI V1, wl (xw 2) cI V2, wl (xw 3) cI V3, wl (xw 4) cI V4, wl (xw 5) cI V5, wl (xw 6) cI V6, wl (xw 7) cI V7, rl xr xu cI (m_rw M, m_rn M), wl xu cI T5, ml m cI S M]) rfl ?_
          refine G.al X dL_law_1007 1 rfl ?_
          refine G.al X dL_law_1008 3 rfl ?_
          refine G.il X dL_law_1009 0 rfl ?_
          refine G.pu X dL_law_1010 ?_
          refine G.nadd X (a := i) (b := 1) dL_law_1011 ?_
          refine G.sld X hX (i := i + 1) dL_law_1012 (by omega) (by omega) ?_
          refine G.al X dL_law_1013 3 rfl ?_
          refine G.il X dL_law_1014 0 rfl ?_
          refine G.pu X dL_law_1015 ?_
          refine G.nadd X (a := i) (b := 2) dL_law_1016 ?_
          refine G.sld X hX (i := i + 2) dL_law_1017 (by omega) (by omega) ?_
          refine G.al X dL_law_1018 3 rfl ?_
          refine G.il X dL_law_1019 0 rfl ?_
          refine G.pu X dL_law_1020 ?_
          refine G.nadd X (a := i) (b := 3) dL_law_1021 ?_
          refine G.sld X hX (i := i + 3) dL_law_1022 (by omega) (by omega) ?_
          refine G.cvj X kX7_cold lL_142 dL_law_1023 (tX7_cold_hi2 l D cI cW m S M (sc (i + 1)) (sc (i + 2)) (sc (i + 3)) (by omega) (by omega) (by omega) (by omega)) ⟨Nat.le_of_ble_eq_true rfl, Nat.le_of_ble_eq_true rfl⟩ ⟨Nat.le_of_ble_eq_true rfl, Nat.le_of_ble_eq_true rfl⟩ [21] rfl ⟨rfl, rfl⟩ rfl rfl 21 0 rfl rfl rfl rfl (Nat.le_of_ble_eq_true rfl) (ff_cons (ml_fst _ _ _ _ _ _) (ff_nil)) (ws' := [xl xx xn xt xk xe xo xv xc xr cI (x_rf (m_hi M, m_rf M) 6), wl xn cI S, wl xt cI T1, wl xk cI K1, tl xe cI (m_q M), ol xo xp cI qo, wl xp cI T2, al xv xq cI qa, wl xq cI T3, cl xc xs xw cW qc, wl xs cI T4, wl (xw 0) cI V0, wl (xw 1) cI V1, wl (xw 2) cI V2, wl (xw 3) cI V3, wl (xw 4) cI V4, wl (xw 5) cI V5, wl (xw 6) cI V6, wl (xw 7) cI V7, rl xr xu cI (m_rw M, m_rn M), wl xu cI T5, ml m cI S (m_no M 6)]) rfl ?_
          refine G.lcmp X dL_law_1026 ?_
          refine G.l_eq X dL_law_1027 (fun h1027 => ?_) (fun h1027 => absurd (rfl) h1027)
          exact kend S (m_no M 6) T1 K1 qo T2 qa T3 qc T4 V0 V1 V2 V3 V4 V5 V6 V7 T5 (hI.no 6)
        · obtain ⟨n, ⟨hn1, hn2⟩, en⟩ := n_rng (lo := 0) (hi := 7) (by decide) (by decide) c1 c3
          obtain ⟨t, ⟨ht1, ht2⟩, et⟩ := n_rng (lo := 2) (hi := 20) (by decide) (by decide) c2 c4
          by_cases zw : z_in (sc (i + 3)) 2 = true
          · obtain ⟨w9, hw9, ew9⟩ := z_in_t zw
            rcases (show w9 = 0 ∨ w9 = 1 by omega) with rfl | rfl
            · obtain ⟨r, hz, hnz, hg, e0, e1⟩ := q_cold S hn2 ht1 ht2
              refine G.al X dL_law_988 2 rfl ?_
              refine G.al X dL_law_989 3 rfl ?_
              refine G.il X dL_law_990 0 rfl ?_
              refine G.pu X dL_law_991 ?_
              refine G.nadd X (a := i) (b := 1) dL_law_992 ?_
              refine G.sld X hX (i := i + 1) dL_law_993 (by omega) (by omega) ?_
              refine G.top (b := nI n) en ?_
              refine G.al X dL_law_994 3 rfl ?_
              refine G.il X dL_law_995 0 rfl ?_
              refine G.pu X dL_law_996 ?_
              refine G.nadd X (a := i) (b := 2) dL_law_997 ?_
              refine G.sld X hX (i := i + 2) dL_law_998 (by omega) (by omega) ?_
              refine G.top (b := nI t) et ?_
              refine G.al X dL_law_999 3 rfl ?_
              refine G.il X dL_law_1000 0 rfl ?_
              refine G.pu X dL_law_1001 ?_
              refine G.nadd X (a := i) (b := 3) dL_law_1002 ?_
              refine G.sld X hX (i := i + 3) dL_law_1003 (by omega) (by omega) ?_
              refine G.top (b := 0) ew9 ?_
              refine G.cvje X kX6_cold lL_138 dL_law_1004 (tX6_cold_0 l D cI cW xx xn xt xk xe xo xv xc xr (m_hi M, m_rf M) S xs xw qc V0 V1 V2 V3 V4 V5 V6 V7 n t hI.ok hn2 ht1 ht2) ⟨Nat.le_of_ble_eq_true rfl, Nat.le_of_ble_eq_true rfl⟩ ⟨Nat.le_of_ble_eq_true rfl, Nat.le_of_ble_eq_true rfl⟩ [0, 1, 9, 11, 12, 13, 14, 15, 16, 17, 18] rfl ⟨rfl, rfl⟩ rfl rfl 0 0 rfl rfl rfl rfl (Nat.le_of_ble_eq_true rfl) (fun _ => (ff_cons (xl_fst _ _ _ _ _ _ _ _ _ _ _ _) (ff_cons (wl_fst _ _ _ _) (ff_cons (cl_fst _ _ _ _ _ _) (ff_cons (wl_fst _ _ _ _) (ff_cons (wl_fst _ _ _ _) (ff_cons (wl_fst _ _ _ _) (ff_cons (wl_fst _ _ _ _) (ff_cons (wl_fst _ _ _ _) (ff_cons (wl_fst _ _ _ _) (ff_cons (wl_fst _ _ _ _) (ff_cons (wl_fst _ _ _ _) (ff_nil))))))))))))) (f8 := fun z9_1004 : WS × WS × WS × WS × WS × WS × WS × WS => [xl xx xn xt xk xe xo xv xc xr cI (m_hi M, m_rf M), wl xn cI S, wl xt cI T1, wl xk cI K1, tl xe cI (m_q M), ol xo xp cI qo, wl xp cI T2, al xv xq cI qa, wl xq cI T3, cl xc xs xw cW qc, wl xs cI T4, wl (xw 0) cI z9_1004.1, wl (xw 1) cI z9_1004.2.1, wl (xw 2) cI z9_1004.2.2.1, wl (xw 3) cI z9_1004.2.2.2.1, wl (xw 4) cI z9_1004.2.2.2.2.1, wl (xw 5) cI z9_1004.2.2.2.2.2.1, wl (xw 6) cI z9_1004.2.2.2.2.2.2.1, wl (xw 7) cI z9_1004.2.2.2.2.2.2.2, rl xr xu cI (m_rw M, m_rn M), wl xu cI T5, ml m cI S M]) (fun _ => rfl) (fun z9_1004 => ?_)
              refine G.al X dL_law_1007 1 rfl ?_
              refine G.al X dL_law_1008 3 rfl ?_
              refine G.il X dL_law_1009 0 rfl ?_
              refine G.pu X dL_law_1010 ?_
              refine G.nadd X (a := i) (b := 1) dL_law_1011 ?_
              refine G.sld X hX (i := i + 1) dL_law_1012 (by omega) (by omega) ?_
              refine G.top (b := nI n) en ?_
              refine G.al X dL_law_1013 3 rfl ?_
              refine G.il X dL_law_1014 0 rfl ?_
              refine G.pu X dL_law_1015 ?_
              refine G.nadd X (a := i) (b := 2) dL_law_1016 ?_
              refine G.sld X hX (i := i + 2) dL_law_1017 (by omega) (by omega) ?_
              refine G.top (b := nI t) et ?_
              refine G.al X dL_law_1018 3 rfl ?_
              refine G.il X dL_law_1019 0 rfl ?_
              refine G.pu X dL_law_1020 ?_
              refine G.nadd X (a := i) (b := 3) dL_law_1021 ?_
              refine G.sld X hX (i := i + 3) dL_law_1022 (by omega) (by omega) ?_
              refine G.top (b := 0) ew9 ?_
              refine G.cvje X kX7_cold lL_142 dL_law_1023 (tX7_cold_0 l D cI cW m S M n t r hI.ok hI.co hn2 ht1 ht2 hz hnz hg) ⟨Nat.le_of_ble_eq_true rfl, Nat.le_of_ble_eq_true rfl⟩ ⟨Nat.le_of_ble_eq_true rfl, Nat.le_of_ble_eq_true rfl⟩ [21] rfl ⟨rfl, rfl⟩ rfl rfl 21 0 rfl rfl rfl rfl (Nat.le_of_ble_eq_true rfl) (fun _ => (ff_cons (ml_fst _ _ _ _ _ _) (ff_nil))) (f8 := fun M9_1023 : {M9_1023 : MS // Mq 64 M M9_1023} => [xl xx xn xt xk xe xo xv xc xr cI (m_hi M, m_rf M), wl xn cI S, wl xt cI T1, wl xk cI K1, tl xe cI (m_q M), ol xo xp cI qo, wl xp cI T2, al xv xq cI qa, wl xq cI T3, cl xc xs xw cW qc, wl xs cI T4, wl (xw 0) cI z9_1004.1, wl (xw 1) cI z9_1004.2.1, wl (xw 2) cI z9_1004.2.2.1, wl (xw 3) cI z9_1004.2.2.2.1, wl (xw 4) cI z9_1004.2.2.2.2.1, wl (xw 5) cI z9_1004.2.2.2.2.2.1, wl (xw 6) cI z9_1004.2.2.2.2.2.2.1, wl (xw 7) cI z9_1004.2.2.2.2.2.2.2, rl xr xu cI (m_rw M, m_rn M), wl xu cI T5, ml m cI S M9_1023.1]) (fun _ => rfl) (fun M9_1023 => ?_)
              refine G.lcmp X dL_law_1026 ?_
              refine G.l_eq X dL_law_1027 (fun h1027 => ?_) (fun h1027 => absurd (e0) h1027)
              rw [LW_q M9_1023.2]
              exact kend S M9_1023.1 T1 K1 qo T2 qa T3 qc T4 z9_1004.1 z9_1004.2.1 z9_1004.2.2.1 z9_1004.2.2.2.1 z9_1004.2.2.2.2.1 z9_1004.2.2.2.2.2.1 z9_1004.2.2.2.2.2.2.1 z9_1004.2.2.2.2.2.2.2 T5 (hI.q M9_1023.2)
            · obtain ⟨r, hz, hnz, hg, e0, e1⟩ := q_cold S hn2 ht1 ht2
              refine G.al X dL_law_988 2 rfl ?_
              refine G.al X dL_law_989 3 rfl ?_
              refine G.il X dL_law_990 0 rfl ?_
              refine G.pu X dL_law_991 ?_
              refine G.nadd X (a := i) (b := 1) dL_law_992 ?_
              refine G.sld X hX (i := i + 1) dL_law_993 (by omega) (by omega) ?_
              refine G.top (b := nI n) en ?_
              refine G.al X dL_law_994 3 rfl ?_
              refine G.il X dL_law_995 0 rfl ?_
              refine G.pu X dL_law_996 ?_
              refine G.nadd X (a := i) (b := 2) dL_law_997 ?_
              refine G.sld X hX (i := i + 2) dL_law_998 (by omega) (by omega) ?_
              refine G.top (b := nI t) et ?_
              refine G.al X dL_law_999 3 rfl ?_
              refine G.il X dL_law_1000 0 rfl ?_
              refine G.pu X dL_law_1001 ?_
              refine G.nadd X (a := i) (b := 3) dL_law_1002 ?_
              refine G.sld X hX (i := i + 3) dL_law_1003 (by omega) (by omega) ?_
              refine G.top (b := 1) ew9 ?_
              refine G.cvje X kX6_cold lL_138 dL_law_1004 (tX6_cold_1 l D cI cW xx xn xt xk xe xo xv xc xr (m_hi M, m_rf M) S xs xw qc V0 V1 V2 V3 V4 V5 V6 V7 n t hI.ok hn2 ht1 ht2) ⟨Nat.le_of_ble_eq_true rfl, Nat.le_of_ble_eq_true rfl⟩ ⟨Nat.le_of_ble_eq_true rfl, Nat.le_of_ble_eq_true rfl⟩ [0, 1, 9, 11, 12, 13, 14, 15, 16, 17, 18] rfl ⟨rfl, rfl⟩ rfl rfl 0 0 rfl rfl rfl rfl (Nat.le_of_ble_eq_true rfl) (fun _ => (ff_cons (xl_fst _ _ _ _ _ _ _ _ _ _ _ _) (ff_cons (wl_fst _ _ _ _) (ff_cons (cl_fst _ _ _ _ _ _) (ff_cons (wl_fst _ _ _ _) (ff_cons (wl_fst _ _ _ _) (ff_cons (wl_fst _ _ _ _) (ff_cons (wl_fst _ _ _ _) (ff_cons (wl_fst _ _ _ _) (ff_cons (wl_fst _ _ _ _) (ff_cons (wl_fst _ _ _ _) (ff_cons (wl_fst _ _ _ _) (ff_nil))))))))))))) (f8 := fun z9_1004 : WS × WS × WS × WS × WS × WS × WS × WS => [xl xx xn xt xk xe xo xv xc xr cI (m_hi M, m_rf M), wl xn cI S, wl xt cI T1, wl xk cI K1, tl xe cI (m_q M), ol xo xp cI qo, wl xp cI T2, al xv xq cI qa, wl xq cI T3, cl xc xs xw cW qc, wl xs cI T4, wl (xw 0) cI z9_1004.1, wl (xw 1) cI z9_1004.2.1, wl (xw 2) cI z9_1004.2.2.1, wl (xw 3) cI z9_1004.2.2.2.1, wl (xw 4) cI z9_1004.2.2.2.2.1, wl (xw 5) cI z9_1004.2.2.2.2.2.1, wl (xw 6) cI z9_1004.2.2.2.2.2.2.1, wl (xw 7) cI z9_1004.2.2.2.2.2.2.2, rl xr xu cI (m_rw M, m_rn M), wl xu cI T5, ml m cI S M]) (fun _ => rfl) (fun z9_1004 => ?_)
              refine G.al X dL_law_1007 1 rfl ?_
              refine G.al X dL_law_1008 3 rfl ?_
              refine G.il X dL_law_1009 0 rfl ?_
              refine G.pu X dL_law_1010 ?_
              refine G.nadd X (a := i) (b := 1) dL_law_1011 ?_
              refine G.sld X hX (i := i + 1) dL_law_1012 (by omega) (by omega) ?_
              refine G.top (b := nI n) en ?_
              refine G.al X dL_law_1013 3 rfl ?_
              refine G.il X dL_law_1014 0 rfl ?_
              refine G.pu X dL_law_1015 ?_
              refine G.nadd X (a := i) (b := 2) dL_law_1016 ?_
              refine G.sld X hX (i := i + 2) dL_law_1017 (by omega) (by omega) ?_
              refine G.top (b := nI t) et ?_
              refine G.al X dL_law_1018 3 rfl ?_
              refine G.il X dL_law_1019 0 rfl ?_
              refine G.pu X dL_law_1020 ?_
              refine G.nadd X (a := i) (b := 3) dL_law_1021 ?_
              refine G.sld X hX (i := i + 3) dL_law_1022 (by omega) (by omega) ?_
              refine G.top (b := 1) ew9 ?_
              refine G.cvje X kX7_cold lL_142 dL_law_1023 (tX7_cold_1 l D cI cW m S M n t r hI.ok hI.co hn2 ht1 ht2 hz hnz hg) ⟨Nat.le_of_ble_eq_true rfl, Nat.le_of_ble_eq_true rfl⟩ ⟨Nat.le_of_ble_eq_true rfl, Nat.le_of_ble_eq_true rfl⟩ [21] rfl ⟨rfl, rfl⟩ rfl rfl 21 0 rfl rfl rfl rfl (Nat.le_of_ble_eq_true rfl) (fun _ => (ff_cons (ml_fst _ _ _ _ _ _) (ff_nil))) (f8 := fun M9_1023 : {M9_1023 : MS // Mq 64 M M9_1023} => [xl xx xn xt xk xe xo xv xc xr cI (m_hi M, m_rf M), wl xn cI S, wl xt cI T1, wl xk cI K1, tl xe cI (m_q M), ol xo xp cI qo, wl xp cI T2, al xv xq cI qa, wl xq cI T3, cl xc xs xw cW qc, wl xs cI T4, wl (xw 0) cI z9_1004.1, wl (xw 1) cI z9_1004.2.1, wl (xw 2) cI z9_1004.2.2.1, wl (xw 3) cI z9_1004.2.2.2.1, wl (xw 4) cI z9_1004.2.2.2.2.1, wl (xw 5) cI z9_1004.2.2.2.2.2.1, wl (xw 6) cI z9_1004.2.2.2.2.2.2.1, wl (xw 7) cI z9_1004.2.2.2.2.2.2.2, rl xr xu cI (m_rw M, m_rn M), wl xu cI T5, ml m cI S M9_1023.1]) (fun _ => rfl) (fun M9_1023 => ?_)
              refine G.lcmp X dL_law_1026 ?_
              refine G.l_eq X dL_law_1027 (fun h1027 => ?_) (fun h1027 => absurd (e1) h1027)
              rw [LW_q M9_1023.2]
              exact kend S M9_1023.1 T1 K1 qo T2 qa T3 qc T4 z9_1004.1 z9_1004.2.1 z9_1004.2.2.1 z9_1004.2.2.2.1 z9_1004.2.2.2.2.1 z9_1004.2.2.2.2.2.1 z9_1004.2.2.2.2.2.2.1 z9_1004.2.2.2.2.2.2.2 T5 (hI.q M9_1023.2)
          · replace zw : z_in (sc (i + 3)) 2 = false := by simpa using zw
            refine G.al X dL_law_988 2 rfl ?_
            refine G.al X dL_law_989 3 rfl ?_
            refine G.il X dL_law_990 0 rfl ?_
            refine G.pu X dL_law_991 ?_
            refine G.nadd X (a := i) (b := 1) dL_law_992 ?_
            refine G.sld X hX (i := i + 1) dL_law_993 (by omega) (by omega) ?_
            refine G.top (b := nI n) en ?_
            refine G.al X dL_law_994 3 rfl ?_
            refine G.il X dL_law_995 0 rfl ?_
            refine G.pu X dL_law_996 ?_
            refine G.nadd X (a := i) (b := 2) dL_law_997 ?_
            refine G.sld X hX (i := i + 2) dL_law_998 (by omega) (by omega) ?_
            refine G.top (b := nI t) et ?_
            refine G.al X dL_law_999 3 rfl ?_
            refine G.il X dL_law_1000 0 rfl ?_
            refine G.pu X dL_law_1001 ?_
            refine G.nadd X (a := i) (b := 3) dL_law_1002 ?_
            refine G.sld X hX (i := i + 3) dL_law_1003 (by omega) (by omega) ?_
            refine G.cvj X kX6_cold lL_138 dL_law_1004 (tX6_cold_oth l D cI cW xx xn xt xk xe xo xv xc xr (m_hi M, m_rf M) n t (sc (i + 3)) hn2 ht1 ht2 zw) ⟨Nat.le_of_ble_eq_true rfl, Nat.le_of_ble_eq_true rfl⟩ ⟨Nat.le_of_ble_eq_true rfl, Nat.le_of_ble_eq_true rfl⟩ [0] rfl ⟨rfl, rfl⟩ rfl rfl 0 0 rfl rfl rfl rfl (Nat.le_of_ble_eq_true rfl) (ff_cons (xl_fst _ _ _ _ _ _ _ _ _ _ _ _) (ff_nil)) (ws' := [xl xx xn xt xk xe xo xv xc xr cI (x_rf (m_hi M, m_rf M) 2), wl xn cI S, wl xt cI T1, wl xk cI K1, tl xe cI (m_q M), ol xo xp cI qo, wl xp cI T2, al xv xq cI qa, wl xq cI T3, cl xc xs xw cW qc, wl xs cI T4, wl (xw 0) cI V0, wl (xw 1) cI V1, wl (xw 2) cI V2, wl (xw 3) cI V3, wl (xw 4) cI V4, wl (xw 5) cI V5, wl (xw 6) cI V6, wl (xw 7) cI V7, rl xr xu cI (m_rw M, m_rn M), wl xu cI T5, ml m cI S M]) rfl ?_
            refine G.al X dL_law_1007 1 rfl ?_
            refine G.al X dL_law_1008 3 rfl ?_
            refine G.il X dL_law_1009 0 rfl ?_
            refine G.pu X dL_law_1010 ?_
            refine G.nadd X (a := i) (b := 1) dL_law_1011 ?_
            refine G.sld X hX (i := i + 1) dL_law_1012 (by omega) (by omega) ?_
            refine G.top (b := nI n) en ?_
            refine G.al X dL_law_1013 3 rfl ?_
            refine G.il X dL_law_1014 0 rfl ?_
            refine G.pu X dL_law_1015 ?_
            refine G.nadd X (a := i) (b := 2) dL_law_1016 ?_
            refine G.sld X hX (i := i + 2) dL_law_1017 (by omega) (by omega) ?_
            refine G.top (b := nI t) et ?_
            refine G.al X dL_law_1018 3 rfl ?_
            refine G.il X dL_law_1019 0 rfl ?_
            refine G.pu X dL_law_1020 ?_
            refine G.nadd X (a := i) (b := 3) dL_law_1021 ?_
            refine G.sld X hX (i := i + 3) dL_law_1022 (by omega) (by omega) ?_
            refine G.cvj X kX7_cold lL_142 dL_law_1023 (tX7_cold_oth l D cI cW m S M n t (sc (i + 3)) hn2 ht1 ht2 zw) ⟨Nat.le_of_ble_eq_true rfl, Nat.le_of_ble_eq_true rfl⟩ ⟨Nat.le_of_ble_eq_true rfl, Nat.le_of_ble_eq_true rfl⟩ [21] rfl ⟨rfl, rfl⟩ rfl rfl 21 0 rfl rfl rfl rfl (Nat.le_of_ble_eq_true rfl) (ff_cons (ml_fst _ _ _ _ _ _) (ff_nil)) (ws' := [xl xx xn xt xk xe xo xv xc xr cI (x_rf (m_hi M, m_rf M) 2), wl xn cI S, wl xt cI T1, wl xk cI K1, tl xe cI (m_q M), ol xo xp cI qo, wl xp cI T2, al xv xq cI qa, wl xq cI T3, cl xc xs xw cW qc, wl xs cI T4, wl (xw 0) cI V0, wl (xw 1) cI V1, wl (xw 2) cI V2, wl (xw 3) cI V3, wl (xw 4) cI V4, wl (xw 5) cI V5, wl (xw 6) cI V6, wl (xw 7) cI V7, rl xr xu cI (m_rw M, m_rn M), wl xu cI T5, ml m cI S (m_no M 2)]) rfl ?_
            refine G.lcmp X dL_law_1026 ?_
            refine G.l_eq X dL_law_1027 (fun h1027 => ?_) (fun h1027 => absurd (rfl) h1027)
            exact kend S (m_no M 2) T1 K1 qo T2 qa T3 qc T4 V0 V1 V2 V3 V4 V5 V6 V7 T5 (hI.no 2)

set_option maxRecDepth 20000 in
theorem law_31 {l : Launch} {D : va_G} {cI cW : ClassId} {x : GC} (X : GOK x l D cI cW RL cL_law 4 room_1) {b L i : Nat} {sc : Nat → Int32} (hX : GX x b L sc) (hL : L ≤ 2560) (hi : i + 5 ≤ L) {xx xn xt xk xe xo xp xv xq xc xs : Nat → Nat} {xw : Nat → Nat → Nat} {xr xu m : Nat → Nat} (kend : ∀ (S : WS) (M : MS) (T1 : WS) (K1 : WS) (qo : FN) (T2 : WS) (qa : FN × FN) (T3 : WS) (qc : Int32 × Int32 × Int32) (T4 : WS) (V0 : WS) (V1 : WS) (V2 : WS) (V3 : WS) (V4 : WS) (V5 : WS) (V6 : WS) (V7 : WS) (T5 : WS), IV S M K1 → G x 165 1897 (LW cI cW xx xn xt xk xe xo xp xv xq xc xs xw xr xu m S M T1 K1 qo T2 qa T3 qc T4 V0 V1 V2 V3 V4 V5 V6 V7 T5) 1230 [(3, .int (nI i)), (2, .ref (m 0)), (1, .ref (xx 0)), (0, .ref b)] []) (S : WS) (M : MS) (T1 : WS) (K1 : WS) (qo : FN) (T2 : WS) (qa : FN × FN) (T3 : WS) (qc : Int32 × Int32 × Int32) (T4 : WS) (V0 : WS) (V1 : WS) (V2 : WS) (V3 : WS) (V4 : WS) (V5 : WS) (V6 : WS) (V7 : WS) (T5 : WS) (hI : IV S M K1) : G x 165 1897 (LW cI cW xx xn xt xk xe xo xp xv xq xc xs xw xr xu m S M T1 K1 qo T2 qa T3 qc T4 V0 V1 V2 V3 V4 V5 V6 V7 T5) 1032 [(3, .int (nI i)), (2, .ref (m 0)), (1, .ref (xx 0)), (0, .ref b)] [] := by
  show G x 165 1897 ([xl xx xn xt xk xe xo xv xc xr cI (m_hi M, m_rf M), wl xn cI S, wl xt cI T1, wl xk cI K1, tl xe cI (m_q M), ol xo xp cI qo, wl xp cI T2, al xv xq cI qa, wl xq cI T3, cl xc xs xw cW qc, wl xs cI T4, wl (xw 0) cI V0, wl (xw 1) cI V1, wl (xw 2) cI V2, wl (xw 3) cI V3, wl (xw 4) cI V4, wl (xw 5) cI V5, wl (xw 6) cI V6, wl (xw 7) cI V7, rl xr xu cI (m_rw M, m_rn M), wl xu cI T5, ml m cI S M]) 1032 [(3, .int (nI i)), (2, .ref (m 0)), (1, .ref (xx 0)), (0, .ref b)] []
  by_cases zw : z_in (sc (i + 1)) 2 = true
  · obtain ⟨w9, hw9, ew9⟩ := z_in_t zw
    rcases (show w9 = 0 ∨ w9 = 1 by omega) with rfl | rfl
    · by_cases h0 : 0 < s_th S
      · obtain ⟨r, hz, hnz, hg, e0, e1⟩ := q_mean hI.ok h0
        refine G.al X dL_law_1032 2 rfl ?_
        refine G.al X dL_law_1033 3 rfl ?_
        refine G.il X dL_law_1034 0 rfl ?_
        refine G.pu X dL_law_1035 ?_
        refine G.nadd X (a := i) (b := 1) dL_law_1036 ?_
        refine G.sld X hX (i := i + 1) dL_law_1037 (by omega) (by omega) ?_
        refine G.top (b := 0) ew9 ?_
        refine G.cvj X kX6_mean lL_143 dL_law_1038 (tX6_mean_0 l D cI cW xx xn xt xk xe xo xv xc xr (m_hi M, m_rf M) S hI.ok) ⟨Nat.le_of_ble_eq_true rfl, Nat.le_of_ble_eq_true rfl⟩ ⟨Nat.le_of_ble_eq_true rfl, Nat.le_of_ble_eq_true rfl⟩ [0, 1] rfl ⟨rfl, rfl⟩ rfl rfl 0 0 rfl rfl rfl rfl (Nat.le_of_ble_eq_true rfl) (ff_cons (xl_fst _ _ _ _ _ _ _ _ _ _ _ _) (ff_cons (wl_fst _ _ _ _) (ff_nil))) (ws' := [xl xx xn xt xk xe xo xv xc xr cI (m_hi M, m_rf M), wl xn cI S, wl xt cI T1, wl xk cI K1, tl xe cI (m_q M), ol xo xp cI qo, wl xp cI T2, al xv xq cI qa, wl xq cI T3, cl xc xs xw cW qc, wl xs cI T4, wl (xw 0) cI V0, wl (xw 1) cI V1, wl (xw 2) cI V2, wl (xw 3) cI V3, wl (xw 4) cI V4, wl (xw 5) cI V5, wl (xw 6) cI V6, wl (xw 7) cI V7, rl xr xu cI (m_rw M, m_rn M), wl xu cI T5, ml m cI S M]) rfl ?_
        refine G.al X dL_law_1041 1 rfl ?_
        refine G.al X dL_law_1042 3 rfl ?_
        refine G.il X dL_law_1043 0 rfl ?_
        refine G.pu X dL_law_1044 ?_
        refine G.nadd X (a := i) (b := 1) dL_law_1045 ?_
        refine G.sld X hX (i := i + 1) dL_law_1046 (by omega) (by omega) ?_
        refine G.top (b := 0) ew9 ?_
        refine G.cvj X kX7_mean lL_147 dL_law_1047 (tX7_mean_0 l D cI cW m S M r hI.ok h0 hz hnz hg) ⟨Nat.le_of_ble_eq_true rfl, Nat.le_of_ble_eq_true rfl⟩ ⟨Nat.le_of_ble_eq_true rfl, Nat.le_of_ble_eq_true rfl⟩ [21] rfl ⟨rfl, rfl⟩ rfl rfl 21 0 rfl rfl rfl rfl (Nat.le_of_ble_eq_true rfl) (ff_cons (ml_fst _ _ _ _ _ _) (ff_nil)) (ws' := [xl xx xn xt xk xe xo xv xc xr cI (m_hi M, m_rf M), wl xn cI S, wl xt cI T1, wl xk cI K1, tl xe cI (m_q M), ol xo xp cI qo, wl xp cI T2, al xv xq cI qa, wl xq cI T3, cl xc xs xw cW qc, wl xs cI T4, wl (xw 0) cI V0, wl (xw 1) cI V1, wl (xw 2) cI V2, wl (xw 3) cI V3, wl (xw 4) cI V4, wl (xw 5) cI V5, wl (xw 6) cI V6, wl (xw 7) cI V7, rl xr xu cI (m_rw M, m_rn M), wl xu cI T5, ml m cI S M]) rfl ?_
        refine G.lcmp X dL_law_1050 ?_
        refine G.l_eq X dL_law_1051 (fun h1051 => ?_) (fun h1051 => absurd (e0) h1051)
        exact kend S M T1 K1 qo T2 qa T3 qc T4 V0 V1 V2 V3 V4 V5 V6 V7 T5 hI
      · refine G.al X dL_law_1032 2 rfl ?_
        refine G.al X dL_law_1033 3 rfl ?_
        refine G.il X dL_law_1034 0 rfl ?_
        refine G.pu X dL_law_1035 ?_
        refine G.nadd X (a := i) (b := 1) dL_law_1036 ?_
        refine G.sld X hX (i := i + 1) dL_law_1037 (by omega) (by omega) ?_
        refine G.top (b := 0) ew9 ?_
        refine G.cvj X kX6_mean lL_143 dL_law_1038 (tX6_mean_0 l D cI cW xx xn xt xk xe xo xv xc xr (m_hi M, m_rf M) S hI.ok) ⟨Nat.le_of_ble_eq_true rfl, Nat.le_of_ble_eq_true rfl⟩ ⟨Nat.le_of_ble_eq_true rfl, Nat.le_of_ble_eq_true rfl⟩ [0, 1] rfl ⟨rfl, rfl⟩ rfl rfl 0 0 rfl rfl rfl rfl (Nat.le_of_ble_eq_true rfl) (ff_cons (xl_fst _ _ _ _ _ _ _ _ _ _ _ _) (ff_cons (wl_fst _ _ _ _) (ff_nil))) (ws' := [xl xx xn xt xk xe xo xv xc xr cI (m_hi M, m_rf M), wl xn cI S, wl xt cI T1, wl xk cI K1, tl xe cI (m_q M), ol xo xp cI qo, wl xp cI T2, al xv xq cI qa, wl xq cI T3, cl xc xs xw cW qc, wl xs cI T4, wl (xw 0) cI V0, wl (xw 1) cI V1, wl (xw 2) cI V2, wl (xw 3) cI V3, wl (xw 4) cI V4, wl (xw 5) cI V5, wl (xw 6) cI V6, wl (xw 7) cI V7, rl xr xu cI (m_rw M, m_rn M), wl xu cI T5, ml m cI S M]) rfl ?_
        refine G.al X dL_law_1041 1 rfl ?_
        refine G.al X dL_law_1042 3 rfl ?_
        refine G.il X dL_law_1043 0 rfl ?_
        refine G.pu X dL_law_1044 ?_
        refine G.nadd X (a := i) (b := 1) dL_law_1045 ?_
        refine G.sld X hX (i := i + 1) dL_law_1046 (by omega) (by omega) ?_
        refine G.top (b := 0) ew9 ?_
        refine G.cvj X kX7_mean lL_147 dL_law_1047 (tX7_mean_e0 l D cI cW m S M hI.ok (by omega)) ⟨Nat.le_of_ble_eq_true rfl, Nat.le_of_ble_eq_true rfl⟩ ⟨Nat.le_of_ble_eq_true rfl, Nat.le_of_ble_eq_true rfl⟩ [21] rfl ⟨rfl, rfl⟩ rfl rfl 21 0 rfl rfl rfl rfl (Nat.le_of_ble_eq_true rfl) (ff_cons (ml_fst _ _ _ _ _ _) (ff_nil)) (ws' := [xl xx xn xt xk xe xo xv xc xr cI (m_hi M, m_rf M), wl xn cI S, wl xt cI T1, wl xk cI K1, tl xe cI (m_q M), ol xo xp cI qo, wl xp cI T2, al xv xq cI qa, wl xq cI T3, cl xc xs xw cW qc, wl xs cI T4, wl (xw 0) cI V0, wl (xw 1) cI V1, wl (xw 2) cI V2, wl (xw 3) cI V3, wl (xw 4) cI V4, wl (xw 5) cI V5, wl (xw 6) cI V6, wl (xw 7) cI V7, rl xr xu cI (m_rw M, m_rn M), wl xu cI T5, ml m cI S M]) rfl ?_
        refine G.lcmp X dL_law_1050 ?_
        refine G.l_eq X dL_law_1051 (fun h1051 => ?_) (fun h1051 => absurd ((q_mean0 (show s_th S = 0 by omega)).1) h1051)
        exact kend S M T1 K1 qo T2 qa T3 qc T4 V0 V1 V2 V3 V4 V5 V6 V7 T5 hI
    · by_cases h0 : 0 < s_th S
      · obtain ⟨r, hz, hnz, hg, e0, e1⟩ := q_mean hI.ok h0
        refine G.al X dL_law_1032 2 rfl ?_
        refine G.al X dL_law_1033 3 rfl ?_
        refine G.il X dL_law_1034 0 rfl ?_
        refine G.pu X dL_law_1035 ?_
        refine G.nadd X (a := i) (b := 1) dL_law_1036 ?_
        refine G.sld X hX (i := i + 1) dL_law_1037 (by omega) (by omega) ?_
        refine G.top (b := 1) ew9 ?_
        refine G.cvj X kX6_mean lL_143 dL_law_1038 (tX6_mean_1 l D cI cW xx xn xt xk xe xo xv xc xr (m_hi M, m_rf M) S hI.ok) ⟨Nat.le_of_ble_eq_true rfl, Nat.le_of_ble_eq_true rfl⟩ ⟨Nat.le_of_ble_eq_true rfl, Nat.le_of_ble_eq_true rfl⟩ [0, 1] rfl ⟨rfl, rfl⟩ rfl rfl 0 0 rfl rfl rfl rfl (Nat.le_of_ble_eq_true rfl) (ff_cons (xl_fst _ _ _ _ _ _ _ _ _ _ _ _) (ff_cons (wl_fst _ _ _ _) (ff_nil))) (ws' := [xl xx xn xt xk xe xo xv xc xr cI (m_hi M, m_rf M), wl xn cI S, wl xt cI T1, wl xk cI K1, tl xe cI (m_q M), ol xo xp cI qo, wl xp cI T2, al xv xq cI qa, wl xq cI T3, cl xc xs xw cW qc, wl xs cI T4, wl (xw 0) cI V0, wl (xw 1) cI V1, wl (xw 2) cI V2, wl (xw 3) cI V3, wl (xw 4) cI V4, wl (xw 5) cI V5, wl (xw 6) cI V6, wl (xw 7) cI V7, rl xr xu cI (m_rw M, m_rn M), wl xu cI T5, ml m cI S M]) rfl ?_
        refine G.al X dL_law_1041 1 rfl ?_
        refine G.al X dL_law_1042 3 rfl ?_
        refine G.il X dL_law_1043 0 rfl ?_
        refine G.pu X dL_law_1044 ?_
        refine G.nadd X (a := i) (b := 1) dL_law_1045 ?_
        refine G.sld X hX (i := i + 1) dL_law_1046 (by omega) (by omega) ?_
        refine G.top (b := 1) ew9 ?_
        refine G.cvj X kX7_mean lL_147 dL_law_1047 (tX7_mean_1 l D cI cW m S M r hI.ok h0 hz hnz hg) ⟨Nat.le_of_ble_eq_true rfl, Nat.le_of_ble_eq_true rfl⟩ ⟨Nat.le_of_ble_eq_true rfl, Nat.le_of_ble_eq_true rfl⟩ [21] rfl ⟨rfl, rfl⟩ rfl rfl 21 0 rfl rfl rfl rfl (Nat.le_of_ble_eq_true rfl) (ff_cons (ml_fst _ _ _ _ _ _) (ff_nil)) (ws' := [xl xx xn xt xk xe xo xv xc xr cI (m_hi M, m_rf M), wl xn cI S, wl xt cI T1, wl xk cI K1, tl xe cI (m_q M), ol xo xp cI qo, wl xp cI T2, al xv xq cI qa, wl xq cI T3, cl xc xs xw cW qc, wl xs cI T4, wl (xw 0) cI V0, wl (xw 1) cI V1, wl (xw 2) cI V2, wl (xw 3) cI V3, wl (xw 4) cI V4, wl (xw 5) cI V5, wl (xw 6) cI V6, wl (xw 7) cI V7, rl xr xu cI (m_rw M, m_rn M), wl xu cI T5, ml m cI S M]) rfl ?_
        refine G.lcmp X dL_law_1050 ?_
        refine G.l_eq X dL_law_1051 (fun h1051 => ?_) (fun h1051 => absurd (e1) h1051)
        exact kend S M T1 K1 qo T2 qa T3 qc T4 V0 V1 V2 V3 V4 V5 V6 V7 T5 hI
      · refine G.al X dL_law_1032 2 rfl ?_
        refine G.al X dL_law_1033 3 rfl ?_
        refine G.il X dL_law_1034 0 rfl ?_
        refine G.pu X dL_law_1035 ?_
        refine G.nadd X (a := i) (b := 1) dL_law_1036 ?_
        refine G.sld X hX (i := i + 1) dL_law_1037 (by omega) (by omega) ?_
        refine G.top (b := 1) ew9 ?_
        refine G.cvj X kX6_mean lL_143 dL_law_1038 (tX6_mean_1 l D cI cW xx xn xt xk xe xo xv xc xr (m_hi M, m_rf M) S hI.ok) ⟨Nat.le_of_ble_eq_true rfl, Nat.le_of_ble_eq_true rfl⟩ ⟨Nat.le_of_ble_eq_true rfl, Nat.le_of_ble_eq_true rfl⟩ [0, 1] rfl ⟨rfl, rfl⟩ rfl rfl 0 0 rfl rfl rfl rfl (Nat.le_of_ble_eq_true rfl) (ff_cons (xl_fst _ _ _ _ _ _ _ _ _ _ _ _) (ff_cons (wl_fst _ _ _ _) (ff_nil))) (ws' := [xl xx xn xt xk xe xo xv xc xr cI (m_hi M, m_rf M), wl xn cI S, wl xt cI T1, wl xk cI K1, tl xe cI (m_q M), ol xo xp cI qo, wl xp cI T2, al xv xq cI qa, wl xq cI T3, cl xc xs xw cW qc, wl xs cI T4, wl (xw 0) cI V0, wl (xw 1) cI V1, wl (xw 2) cI V2, wl (xw 3) cI V3, wl (xw 4) cI V4, wl (xw 5) cI V5, wl (xw 6) cI V6, wl (xw 7) cI V7, rl xr xu cI (m_rw M, m_rn M), wl xu cI T5, ml m cI S M]) rfl ?_
        refine G.al X dL_law_1041 1 rfl ?_
        refine G.al X dL_law_1042 3 rfl ?_
        refine G.il X dL_law_1043 0 rfl ?_
        refine G.pu X dL_law_1044 ?_
        refine G.nadd X (a := i) (b := 1) dL_law_1045 ?_
        refine G.sld X hX (i := i + 1) dL_law_1046 (by omega) (by omega) ?_
        refine G.top (b := 1) ew9 ?_
        refine G.cvj X kX7_mean lL_147 dL_law_1047 (tX7_mean_e1 l D cI cW m S M hI.ok (by omega)) ⟨Nat.le_of_ble_eq_true rfl, Nat.le_of_ble_eq_true rfl⟩ ⟨Nat.le_of_ble_eq_true rfl, Nat.le_of_ble_eq_true rfl⟩ [21] rfl ⟨rfl, rfl⟩ rfl rfl 21 0 rfl rfl rfl rfl (Nat.le_of_ble_eq_true rfl) (ff_cons (ml_fst _ _ _ _ _ _) (ff_nil)) (ws' := [xl xx xn xt xk xe xo xv xc xr cI (m_hi M, m_rf M), wl xn cI S, wl xt cI T1, wl xk cI K1, tl xe cI (m_q M), ol xo xp cI qo, wl xp cI T2, al xv xq cI qa, wl xq cI T3, cl xc xs xw cW qc, wl xs cI T4, wl (xw 0) cI V0, wl (xw 1) cI V1, wl (xw 2) cI V2, wl (xw 3) cI V3, wl (xw 4) cI V4, wl (xw 5) cI V5, wl (xw 6) cI V6, wl (xw 7) cI V7, rl xr xu cI (m_rw M, m_rn M), wl xu cI T5, ml m cI S M]) rfl ?_
        refine G.lcmp X dL_law_1050 ?_
        refine G.l_eq X dL_law_1051 (fun h1051 => ?_) (fun h1051 => absurd ((q_mean0 (show s_th S = 0 by omega)).2) h1051)
        exact kend S M T1 K1 qo T2 qa T3 qc T4 V0 V1 V2 V3 V4 V5 V6 V7 T5 hI
  · replace zw : z_in (sc (i + 1)) 2 = false := by simpa using zw
    refine G.al X dL_law_1032 2 rfl ?_
    refine G.al X dL_law_1033 3 rfl ?_
    refine G.il X dL_law_1034 0 rfl ?_
    refine G.pu X dL_law_1035 ?_
    refine G.nadd X (a := i) (b := 1) dL_law_1036 ?_
    refine G.sld X hX (i := i + 1) dL_law_1037 (by omega) (by omega) ?_
    refine G.cvj X kX6_mean lL_143 dL_law_1038 (tX6_mean_oth l D cI cW xx xn xt xk xe xo xv xc xr (m_hi M, m_rf M) S (sc (i + 1)) hI.ok zw) ⟨Nat.le_of_ble_eq_true rfl, Nat.le_of_ble_eq_true rfl⟩ ⟨Nat.le_of_ble_eq_true rfl, Nat.le_of_ble_eq_true rfl⟩ [0, 1] rfl ⟨rfl, rfl⟩ rfl rfl 0 0 rfl rfl rfl rfl (Nat.le_of_ble_eq_true rfl) (ff_cons (xl_fst _ _ _ _ _ _ _ _ _ _ _ _) (ff_cons (wl_fst _ _ _ _) (ff_nil))) (ws' := [xl xx xn xt xk xe xo xv xc xr cI (x_rf (m_hi M, m_rf M) 2), wl xn cI S, wl xt cI T1, wl xk cI K1, tl xe cI (m_q M), ol xo xp cI qo, wl xp cI T2, al xv xq cI qa, wl xq cI T3, cl xc xs xw cW qc, wl xs cI T4, wl (xw 0) cI V0, wl (xw 1) cI V1, wl (xw 2) cI V2, wl (xw 3) cI V3, wl (xw 4) cI V4, wl (xw 5) cI V5, wl (xw 6) cI V6, wl (xw 7) cI V7, rl xr xu cI (m_rw M, m_rn M), wl xu cI T5, ml m cI S M]) rfl ?_
    refine G.al X dL_law_1041 1 rfl ?_
    refine G.al X dL_law_1042 3 rfl ?_
    refine G.il X dL_law_1043 0 rfl ?_
    refine G.pu X dL_law_1044 ?_
    refine G.nadd X (a := i) (b := 1) dL_law_1045 ?_
    refine G.sld X hX (i := i + 1) dL_law_1046 (by omega) (by omega) ?_
    refine G.cvj X kX7_mean lL_147 dL_law_1047 (tX7_mean_oth l D cI cW m S M (sc (i + 1)) hI.ok zw) ⟨Nat.le_of_ble_eq_true rfl, Nat.le_of_ble_eq_true rfl⟩ ⟨Nat.le_of_ble_eq_true rfl, Nat.le_of_ble_eq_true rfl⟩ [21] rfl ⟨rfl, rfl⟩ rfl rfl 21 0 rfl rfl rfl rfl (Nat.le_of_ble_eq_true rfl) (ff_cons (ml_fst _ _ _ _ _ _) (ff_nil)) (ws' := [xl xx xn xt xk xe xo xv xc xr cI (x_rf (m_hi M, m_rf M) 2), wl xn cI S, wl xt cI T1, wl xk cI K1, tl xe cI (m_q M), ol xo xp cI qo, wl xp cI T2, al xv xq cI qa, wl xq cI T3, cl xc xs xw cW qc, wl xs cI T4, wl (xw 0) cI V0, wl (xw 1) cI V1, wl (xw 2) cI V2, wl (xw 3) cI V3, wl (xw 4) cI V4, wl (xw 5) cI V5, wl (xw 6) cI V6, wl (xw 7) cI V7, rl xr xu cI (m_rw M, m_rn M), wl xu cI T5, ml m cI S (m_no M 2)]) rfl ?_
    refine G.lcmp X dL_law_1050 ?_
    refine G.l_eq X dL_law_1051 (fun h1051 => ?_) (fun h1051 => absurd (rfl) h1051)
    exact kend S (m_no M 2) T1 K1 qo T2 qa T3 qc T4 V0 V1 V2 V3 V4 V5 V6 V7 T5 (hI.no 2)
