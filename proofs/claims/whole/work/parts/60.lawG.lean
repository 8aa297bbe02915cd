set_option maxRecDepth 20000 in
theorem law_32 {l : Launch} {D : va_G} {cI cW : ClassId} {x : GC} (X : GOK x l D cI cW RL cL_law 4 room_1) {b L i : Nat} {sc : Nat → Int32} (hX : GX x b L sc) (hL : L ≤ 2560) (hi : i + 5 ≤ L) {xx xn xt xk xe xo xp xv xq xc xs : Nat → Nat} {xw : Nat → Nat → Nat} {xr xu m : Nat → Nat} (kend : ∀ (S : WS) (M : MS) (T1 : WS) (K1 : WS) (qo : FN) (T2 : WS) (qa : FN × FN) (T3 : WS) (qc : Int32 × Int32 × Int32) (T4 : WS) (V0 : WS) (V1 : WS) (V2 : WS) (V3 : WS) (V4 : WS) (V5 : WS) (V6 : WS) (V7 : WS) (T5 : WS), IV S M K1 → G x 165 1897 (LW cI cW xx xn xt xk xe xo xp xv xq xc xs xw xr xu m S M T1 K1 qo T2 qa T3 qc T4 V0 V1 V2 V3 V4 V5 V6 V7 T5) 1230 [(3, .int (nI i)), (2, .ref (m 0)), (1, .ref (xx 0)), (0, .ref b)] []) (S : WS) (M : MS) (T1 : WS) (K1 : WS) (qo : FN) (T2 : WS) (qa : FN × FN) (T3 : WS) (qc : Int32 × Int32 × Int32) (T4 : WS) (V0 : WS) (V1 : WS) (V2 : WS) (V3 : WS) (V4 : WS) (V5 : WS) (V6 : WS) (V7 : WS) (T5 : WS) (hI : IV S M K1) : G x 165 1897 (LW cI cW xx xn xt xk xe xo xp xv xq xc xs xw xr xu m S M T1 K1 qo T2 qa T3 qc T4 V0 V1 V2 V3 V4 V5 V6 V7 T5) 1056 [(3, .int (nI i)), (2, .ref (m 0)), (1, .ref (xx 0)), (0, .ref b)] [] := by
  show G x 165 1897 ([xl xx xn xt xk xe xo xv xc xr cI (m_hi M, m_rf M), wl xn cI S, wl xt cI T1, wl xk cI K1, tl xe cI (m_q M), ol xo xp cI qo, wl xp cI T2, al xv xq cI qa, wl xq cI T3, cl xc xs xw cW qc, wl xs cI T4, wl (xw 0) cI V0, wl (xw 1) cI V1, wl (xw 2) cI V2, wl (xw 3) cI V3, wl (xw 4) cI V4, wl (xw 5) cI V5, wl (xw 6) cI V6, wl (xw 7) cI V7, rl xr xu cI (m_rw M, m_rn M), wl xu cI T5, ml m cI S M]) 1056 [(3, .int (nI i)), (2, .ref (m 0)), (1, .ref (xx 0)), (0, .ref b)] []
  by_cases zp : z_in (sc (i + 1)) (s_th S) = true
  · obtain ⟨p, hp, ep⟩ := z_in_t zp
    by_cases zw : z_in (sc (i + 2)) 2 = true
    · obtain ⟨w9, hw9, ew9⟩ := z_in_t zw
      rcases (show w9 = 0 ∨ w9 = 1 by omega) with rfl | rfl
      · refine G.al X dL_law_1056 2 rfl ?_
        refine G.al X dL_law_1057 3 rfl ?_
        refine G.il X dL_law_1058 0 rfl ?_
        refine G.pu X dL_law_1059 ?_
        refine G.nadd X (a := i) (b := 1) dL_law_1060 ?_
        refine G.sld X hX (i := i + 1) dL_law_1061 (by omega) (by omega) ?_
        refine G.top (b := nI p) ep ?_
        refine G.al X dL_law_1062 3 rfl ?_
        refine G.il X dL_law_1063 0 rfl ?_
        refine G.pu X dL_law_1064 ?_
        refine G.nadd X (a := i) (b := 2) dL_law_1065 ?_
        refine G.sld X hX (i := i + 2) dL_law_1066 (by omega) (by omega) ?_
        refine G.top (b := 0) ew9 ?_
        refine G.cvie X kX6_whatWas lL_148 dL_law_1067 (tX6_whatWas_0 l D cI cW xx xn xt xk xe xo xv xc xr (m_hi M, m_rf M) S xu (m_rw M, m_rn M) T5 p hI.ok hI.rn hp) ⟨Nat.le_of_ble_eq_true rfl, Nat.le_of_ble_eq_true rfl⟩ ⟨Nat.le_of_ble_eq_true rfl, Nat.le_of_ble_eq_true rfl⟩ [0, 1, 19, 20] rfl ⟨rfl, rfl⟩ rfl rfl 0 0 rfl rfl rfl rfl (Nat.le_of_ble_eq_true rfl) (fun _ => (ff_cons (xl_fst _ _ _ _ _ _ _ _ _ _ _ _) (ff_cons (wl_fst _ _ _ _) (ff_cons (rl_fst _ _ _ _ _) (ff_cons (wl_fst _ _ _ _) (ff_nil)))))) (f8 := fun T9_1067 : WS => [xl xx xn xt xk xe xo xv xc xr cI (m_hi M, m_rf M), wl xn cI S, wl xt cI T1, wl xk cI K1, tl xe cI (m_q M), ol xo xp cI qo, wl xp cI T2, al xv xq cI qa, wl xq cI T3, cl xc xs xw cW qc, wl xs cI T4, wl (xw 0) cI V0, wl (xw 1) cI V1, wl (xw 2) cI V2, wl (xw 3) cI V3, wl (xw 4) cI V4, wl (xw 5) cI V5, wl (xw 6) cI V6, wl (xw 7) cI V7, rl xr xu cI (m_rw M, m_rn M), wl xu cI T9_1067, ml m cI S M]) (fun _ => rfl) (fun T9_1067 => ?_)
        refine G.al X dL_law_1070 1 rfl ?_
        refine G.al X dL_law_1071 3 rfl ?_
        refine G.il X dL_law_1072 0 rfl ?_
        refine G.pu X dL_law_1073 ?_
        refine G.nadd X (a := i) (b := 1) dL_law_1074 ?_
        refine G.sld X hX (i := i + 1) dL_law_1075 (by omega) (by omega) ?_
        refine G.top (b := nI p) ep ?_
        refine G.al X dL_law_1076 3 rfl ?_
        refine G.il X dL_law_1077 0 rfl ?_
        refine G.pu X dL_law_1078 ?_
        refine G.nadd X (a := i) (b := 2) dL_law_1079 ?_
        refine G.sld X hX (i := i + 2) dL_law_1080 (by omega) (by omega) ?_
        refine G.top (b := 0) ew9 ?_
        refine G.cvie X kX7_whatWas lL_151 dL_law_1081 (tX7_whatWas_0 l D cI cW m S M p hI.ok hI.co hI.rn hp) ⟨Nat.le_of_ble_eq_true rfl, Nat.le_of_ble_eq_true rfl⟩ ⟨Nat.le_of_ble_eq_true rfl, Nat.le_of_ble_eq_true rfl⟩ [21] rfl ⟨rfl, rfl⟩ rfl rfl 21 0 rfl rfl rfl rfl (Nat.le_of_ble_eq_true rfl) (fun _ => (ff_cons (ml_fst _ _ _ _ _ _) (ff_nil))) (f8 := fun M9_1081 : {M9_1081 : MS // Mq 64 M M9_1081} => [xl xx xn xt xk xe xo xv xc xr cI (m_hi M, m_rf M), wl xn cI S, wl xt cI T1, wl xk cI K1, tl xe cI (m_q M), ol xo xp cI qo, wl xp cI T2, al xv xq cI qa, wl xq cI T3, cl xc xs xw cW qc, wl xs cI T4, wl (xw 0) cI V0, wl (xw 1) cI V1, wl (xw 2) cI V2, wl (xw 3) cI V3, wl (xw 4) cI V4, wl (xw 5) cI V5, wl (xw 6) cI V6, wl (xw 7) cI V7, rl xr xu cI (m_rw M, m_rn M), wl xu cI T9_1067, ml m cI S M9_1081.1]) (fun _ => rfl) (fun M9_1081 => ?_)
        refine G.c_eq X (a := (w_fb (fun k => w_fit S p (nI k) (s_we S p) (m_rw M, m_rn M)) 6)) (b := (w_fb (fun k => w_fit S p (nI k) (s_we S p) (m_rw M, m_rn M)) 6)) dL_law_1084 (fun h1084 => ?_) (fun h1084 => absurd (rfl) h1084)
        rw [LW_q M9_1081.2]
        exact kend S M9_1081.1 T1 K1 qo T2 qa T3 qc T4 V0 V1 V2 V3 V4 V5 V6 V7 T9_1067 (hI.q M9_1081.2)
      · refine G.al X dL_law_1056 2 rfl ?_
        refine G.al X dL_law_1057 3 rfl ?_
        refine G.il X dL_law_1058 0 rfl ?_
        refine G.pu X dL_law_1059 ?_
        refine G.nadd X (a := i) (b := 1) dL_law_1060 ?_
        refine G.sld X hX (i := i + 1) dL_law_1061 (by omega) (by omega) ?_
        refine G.top (b := nI p) ep ?_
        refine G.al X dL_law_1062 3 rfl ?_
        refine G.il X dL_law_1063 0 rfl ?_
        refine G.pu X dL_law_1064 ?_
        refine G.nadd X (a := i) (b := 2) dL_law_1065 ?_
        refine G.sld X hX (i := i + 2) dL_law_1066 (by omega) (by omega) ?_
        refine G.top (b := 1) ew9 ?_
        refine G.cvie X kX6_whatWas lL_148 dL_law_1067 (tX6_whatWas_1 l D cI cW xx xn xt xk xe xo xv xc xr (m_hi M, m_rf M) S xu (m_rw M, m_rn M) T5 p hI.ok hI.rn hp) ⟨Nat.le_of_ble_eq_true rfl, Nat.le_of_ble_eq_true rfl⟩ ⟨Nat.le_of_ble_eq_true rfl, Nat.le_of_ble_eq_true rfl⟩ [0, 1, 19, 20] rfl ⟨rfl, rfl⟩ rfl rfl 0 0 rfl rfl rfl rfl (Nat.le_of_ble_eq_true rfl) (fun _ => (ff_cons (xl_fst _ _ _ _ _ _ _ _ _ _ _ _) (ff_cons (wl_fst _ _ _ _) (ff_cons (rl_fst _ _ _ _ _) (ff_cons (wl_fst _ _ _ _) (ff_nil)))))) (f8 := fun T9_1067 : WS => [xl xx xn xt xk xe xo xv xc xr cI (m_hi M, m_rf M), wl xn cI S, wl xt cI T1, wl xk cI K1, tl xe cI (m_q M), ol xo xp cI qo, wl xp cI T2, al xv xq cI qa, wl xq cI T3, cl xc xs xw cW qc, wl xs cI T4, wl (xw 0) cI V0, wl (xw 1) cI V1, wl (xw 2) cI V2, wl (xw 3) cI V3, wl (xw 4) cI V4, wl (xw 5) cI V5, wl (xw 6) cI V6, wl (xw 7) cI V7, rl xr xu cI (m_rw M, m_rn M), wl xu cI T9_1067, ml m cI S M]) (fun _ => rfl) (fun T9_1067 => ?_)
        refine G.al X dL_law_1070 1 rfl ?_
        refine G.al X dL_law_1071 3 rfl ?_
        refine G.il X dL_law_1072 0 rfl ?_
        refine G.pu X dL_law_1073 ?_
        refine G.nadd X (a := i) (b := 1) dL_law_1074 ?_
        refine G.sld X hX (i := i + 1) dL_law_1075 (by omega) (by omega) ?_
        refine G.top (b := nI p) ep ?_
        refine G.al X dL_law_1076 3 rfl ?_
        refine G.il X dL_law_1077 0 rfl ?_
        refine G.pu X dL_law_1078 ?_
        refine G.nadd X (a := i) (b := 2) dL_law_1079 ?_
        refine G.sld X hX (i := i + 2) dL_law_1080 (by omega) (by omega) ?_
        refine G.top (b := 1) ew9 ?_
        refine G.cvie X kX7_whatWas lL_151 dL_law_1081 (tX7_whatWas_1 l D cI cW m S M p hI.ok hI.co hI.rn hp) ⟨Nat.le_of_ble_eq_true rfl, Nat.le_of_ble_eq_true rfl⟩ ⟨Nat.le_of_ble_eq_true rfl, Nat.le_of_ble_eq_true rfl⟩ [21] rfl ⟨rfl, rfl⟩ rfl rfl 21 0 rfl rfl rfl rfl (Nat.le_of_ble_eq_true rfl) (fun _ => (ff_cons (ml_fst _ _ _ _ _ _) (ff_nil))) (f8 := fun M9_1081 : {M9_1081 : MS // Mq 64 M M9_1081} => [xl xx xn xt xk xe xo xv xc xr cI (m_hi M, m_rf M), wl xn cI S, wl xt cI T1, wl xk cI K1, tl xe cI (m_q M), ol xo xp cI qo, wl xp cI T2, al xv xq cI qa, wl xq cI T3, cl xc xs xw cW qc, wl xs cI T4, wl (xw 0) cI V0, wl (xw 1) cI V1, wl (xw 2) cI V2, wl (xw 3) cI V3, wl (xw 4) cI V4, wl (xw 5) cI V5, wl (xw 6) cI V6, wl (xw 7) cI V7, rl xr xu cI (m_rw M, m_rn M), wl xu cI T9_1067, ml m cI S M9_1081.1]) (fun _ => rfl) (fun M9_1081 => ?_)
        refine G.c_eq X (a := (w_fb (fun k => w_fit S p (s_ki S p) (nI k) (m_rw M, m_rn M)) 10)) (b := (w_fb (fun k => w_fit S p (s_ki S p) (nI k) (m_rw M, m_rn M)) 10)) dL_law_1084 (fun h1084 => ?_) (fun h1084 => absurd (rfl) h1084)
        rw [LW_q M9_1081.2]
        exact kend S M9_1081.1 T1 K1 qo T2 qa T3 qc T4 V0 V1 V2 V3 V4 V5 V6 V7 T9_1067 (hI.q M9_1081.2)
    · replace zw : z_in (sc (i + 2)) 2 = false := by simpa using zw
      refine G.al X dL_law_1056 2 rfl ?_
      refine G.al X dL_law_1057 3 rfl ?_
      refine G.il X dL_law_1058 0 rfl ?_
      refine G.pu X dL_law_1059 ?_
      refine G.nadd X (a := i) (b := 1) dL_law_1060 ?_
      refine G.sld X hX (i := i + 1) dL_law_1061 (by omega) (by omega) ?_
      refine G.top (b := nI p) ep ?_
      refine G.al X dL_law_1062 3 rfl ?_
      refine G.il X dL_law_1063 0 rfl ?_
      refine G.pu X dL_law_1064 ?_
      refine G.nadd X (a := i) (b := 2) dL_law_1065 ?_
      refine G.sld X hX (i := i + 2) dL_law_1066 (by omega) (by omega) ?_
      refine G.cvi X kX6_whatWas lL_148 dL_law_1067 (tX6_whatWas_oth l D cI cW xx xn xt xk xe xo xv xc xr (m_hi M, m_rf M) S p (sc (i + 2)) hI.ok hp zw) ⟨Nat.le_of_ble_eq_true rfl, Nat.le_of_ble_eq_true rfl⟩ ⟨Nat.le_of_ble_eq_true rfl, Nat.le_of_ble_eq_true rfl⟩ [0, 1] rfl ⟨rfl, rfl⟩ rfl rfl 0 0 rfl rfl rfl rfl (Nat.le_of_ble_eq_true rfl) (ff_cons (xl_fst _ _ _ _ _ _ _ _ _ _ _ _) (ff_cons (wl_fst _ _ _ _) (ff_nil))) (ws' := [xl xx xn xt xk xe xo xv xc xr cI (x_rf (m_hi M, m_rf M) 2), wl xn cI S, wl xt cI T1, wl xk cI K1, tl xe cI (m_q M), ol xo xp cI qo, wl xp cI T2, al xv xq cI qa, wl xq cI T3, cl xc xs xw cW qc, wl xs cI T4, wl (xw 0) cI V0, wl (xw 1) cI V1, wl (xw 2) cI V2, wl (xw 3) cI V3, wl (xw 4) cI V4, wl (xw 5) cI V5, wl (xw 6) cI V6, wl (xw 7) cI V7, rl xr xu cI (m_rw M, m_rn M), wl xu cI T5, ml m cI S M]) rfl ?_
      refine G.al X dL_law_1070 1 rfl ?_
      refine G.al X dL_law_1071 3 rfl ?_
      refine G.il X dL_law_1072 0 rfl ?_
      refine G.pu X dL_law_1073 ?_
      refine G.nadd X (a := i) (b := 1) dL_law_1074 ?_
      refine G.sld X hX (i := i + 1) dL_law_1075 (by omega) (by omega) ?_
      refine G.top (b := nI p) ep ?_
      refine G.al X dL_law_1076 3 rfl ?_
      refine G.il X dL_law_1077 0 rfl ?_
      refine G.pu X dL_law_1078 ?_
      refine G.nadd X (a := i) (b := 2) dL_law_1079 ?_
      refine G.sld X hX (i := i + 2) dL_law_1080 (by omega) (by omega) ?_
      refine G.cvi X kX7_whatWas lL_151 dL_law_1081 (tX7_whatWas_oth l D cI cW m S M p (sc (i + 2)) hI.ok hp zw) ⟨Nat.le_of_ble_eq_true rfl, Nat.le_of_ble_eq_true rfl⟩ ⟨Nat.le_of_ble_eq_true rfl, Nat.le_of_ble_eq_true rfl⟩ [21] rfl ⟨rfl, rfl⟩ rfl rfl 21 0 rfl rfl rfl rfl (Nat.le_of_ble_eq_true rfl) (ff_cons (ml_fst _ _ _ _ _ _) (ff_nil)) (ws' := [xl xx xn xt xk xe xo xv xc xr cI (x_rf (m_hi M, m_rf M) 2), wl xn cI S, wl xt cI T1, wl xk cI K1, tl xe cI (m_q M), ol xo xp cI qo, wl xp cI T2, al xv xq cI qa, wl xq cI T3, cl xc xs xw cW qc, wl xs cI T4, wl (xw 0) cI V0, wl (xw 1) cI V1, wl (xw 2) cI V2, wl (xw 3) cI V3, wl (xw 4) cI V4, wl (xw 5) cI V5, wl (xw 6) cI V6, wl (xw 7) cI V7, rl xr xu cI (m_rw M, m_rn M), wl xu cI T5, ml m cI S (m_no M 2)]) rfl ?_
      refine G.c_eq X (a := (-2)) (b := (-2)) dL_law_1084 (fun h1084 => ?_) (fun h1084 => absurd (rfl) h1084)
      exact kend S (m_no M 2) T1 K1 qo T2 qa T3 qc T4 V0 V1 V2 V3 V4 V5 V6 V7 T5 (hI.no 2)
  · replace zp : z_in (sc (i + 1)) (s_th S) = false := by simpa using zp
    refine G.al X dL_law_1056 2 rfl ?_
    refine G.al X dL_law_1057 3 rfl ?_
    refine G.il X dL_law_1058 0 rfl ?_
    refine G.pu X dL_law_1059 ?_
    refine G.nadd X (a := i) (b := 1) dL_law_1060 ?_
    refine G.sld X hX (i := i + 1) dL_law_1061 (by omega) (by omega) ?_
    refine G.al X dL_law_1062 3 rfl ?_
    refine G.il X dL_law_1063 0 rfl ?_
    refine G.pu X dL_law_1064 ?_
    refine G.nadd X (a := i) (b := 2) dL_law_1065 ?_
    refine G.sld X hX (i := i + 2) dL_law_1066 (by omega) (by omega) ?_
    refine G.cvi X kX6_whatWas lL_148 dL_law_1067 (tX6_whatWas_bad l D cI cW xx xn xt xk xe xo xv xc xr (m_hi M, m_rf M) S (sc (i + 1)) (sc (i + 2)) hI.ok zp) ⟨Nat.le_of_ble_eq_true rfl, Nat.le_of_ble_eq_true rfl⟩ ⟨Nat.le_of_ble_eq_true rfl, Nat.le_of_ble_eq_true rfl⟩ [0, 1] rfl ⟨rfl, rfl⟩ rfl rfl 0 0 rfl rfl rfl rfl (Nat.le_of_ble_eq_true rfl) (ff_cons (xl_fst _ _ _ _ _ _ _ _ _ _ _ _) (ff_cons (wl_fst _ _ _ _) (ff_nil))) (ws' := [xl xx xn xt xk xe xo xv xc xr cI (x_rf (m_hi M, m_rf M) 1), wl xn cI S, wl xt cI T1, wl xk cI K1, tl xe cI (m_q M), ol xo xp cI qo, wl xp cI T2, al xv xq cI qa, wl xq cI T3, cl xc xs xw cW qc, wl xs cI T4, wl (xw 0) cI V0, wl (xw 1) cI V1, wl (xw 2) cI V2, wl (xw 3) cI V3, wl (xw 4) cI V4, wl (xw 5) cI V5, wl (xw 6) cI V6, wl (xw 7) cI V7, rl xr xu cI (m_rw M, m_rn M), wl xu cI T5, ml m cI S M]) rfl ?_
    refine G.al X dL_law_1070 1 rfl ?_
    refine G.al X dL_law_1071 3 rfl ?_
    refine G.il X dL_law_1072 0 rfl ?_
    refine G.pu X dL_law_1073 ?_
    refine G.nadd X (a := i) (b := 1) dL_law_1074 ?_
    refine G.sld X hX (i := i + 1) dL_law_1075 (by omega) (by omega) ?_
    refine G.al X dL_law_1076 3 rfl ?_
    refine G.il X dL_law_1077 0 rfl ?_
    refine G.pu X dL_law_1078 ?_
    refine G.nadd X (a := i) (b := 2) dL_law_1079 ?_
    refine G.sld X hX (i := i + 2) dL_law_1080 (by omega) (by omega) ?_
    refine G.cvi X kX7_whatWas lL_151 dL_law_1081 (tX7_whatWas_bad l D cI cW m S M (sc (i + 1)) (sc (i + 2)) hI.ok zp) ⟨Nat.le_of_ble_eq_true rfl, Nat.le_of_ble_eq_true rfl⟩ ⟨Nat.le_of_ble_eq_true rfl, Nat.le_of_ble_eq_true rfl⟩ [21] rfl ⟨rfl, rfl⟩ rfl rfl 21 0 rfl rfl rfl rfl (Nat.le_of_ble_eq_true rfl) (ff_cons (ml_fst _ _ _ _ _ _) (ff_nil)) (ws' := [xl xx xn xt xk xe xo xv xc xr cI (x_rf (m_hi M, m_rf M) 1), wl xn cI S, wl xt cI T1, wl xk cI K1, tl xe cI (m_q M), ol xo xp cI qo, wl xp cI T2, al xv xq cI qa, wl xq cI T3, cl xc xs xw cW qc, wl xs cI T4, wl (xw 0) cI V0, wl (xw 1) cI V1, wl (xw 2) cI V2, wl (xw 3) cI V3, wl (xw 4) cI V4, wl (xw 5) cI V5, wl (xw 6) cI V6, wl (xw 7) cI V7, rl xr xu cI (m_rw M, m_rn M), wl xu cI T5, ml m cI S (m_no M 1)]) rfl ?_
    refine G.c_eq X (a := (-1)) (b := (-1)) dL_law_1084 (fun h1084 => ?_) (fun h1084 => absurd (rfl) h1084)
    exact kend S (m_no M 1) T1 K1 qo T2 qa T3 qc T4 V0 V1 V2 V3 V4 V5 V6 V7 T5 (hI.no 1)

set_option maxRecDepth 20000 in
theorem law_33 {l : Launch} {D : va_G} {cI cW : ClassId} {x : GC} (X : GOK x l D cI cW RL cL_law 4 room_1) {b L i : Nat} {sc : Nat → Int32} (hX : GX x b L sc) (hL : L ≤ 2560) (hi : i + 5 ≤ L) {xx xn xt xk xe xo xp xv xq xc xs : Nat → Nat} {xw : Nat → Nat → Nat} {xr xu m : Nat → Nat} (kend : ∀ (S : WS) (M : MS) (T1 : WS) (K1 : WS) (qo : FN) (T2 : WS) (qa : FN × FN) (T3 : WS) (qc : Int32 × Int32 × Int32) (T4 : WS) (V0 : WS) (V1 : WS) (V2 : WS) (V3 : WS) (V4 : WS) (V5 : WS) (V6 : WS) (V7 : WS) (T5 : WS), IV S M K1 → G x 165 1897 (LW cI cW xx xn xt xk xe xo xp xv xq xc xs xw xr xu m S M T1 K1 qo T2 qa T3 qc T4 V0 V1 V2 V3 V4 V5 V6 V7 T5) 1230 [(3, .int (nI i)), (2, .ref (m 0)), (1, .ref (xx 0)), (0, .ref b)] []) (S : WS) (M : MS) (T1 : WS) (K1 : WS) (qo : FN) (T2 : WS) (qa : FN × FN) (T3 : WS) (qc : Int32 × Int32 × Int32) (T4 : WS) (V0 : WS) (V1 : WS) (V2 : WS) (V3 : WS) (V4 : WS) (V5 : WS) (V6 : WS) (V7 : WS) (T5 : WS) (hI : IV S M K1) : G x 165 1897 (LW cI cW xx xn xt xk xe xo xp xv xq xc xs xw xr xu m S M T1 K1 qo T2 qa T3 qc T4 V0 V1 V2 V3 V4 V5 V6 V7 T5) 1089 [(3, .int (nI i)), (2, .ref (m 0)), (1, .ref (xx 0)), (0, .ref b)] [] := by
  show G x 165 1897 ([xl xx xn xt xk xe xo xv xc xr cI (m_hi M, m_rf M), wl xn cI S, wl xt cI T1, wl xk cI K1, tl xe cI (m_q M), ol xo xp cI qo, wl xp cI T2, al xv xq cI qa, wl xq cI T3, cl xc xs xw cW qc, wl xs cI T4, wl (xw 0) cI V0, wl (xw 1) cI V1, wl (xw 2) cI V2, wl (xw 3) cI V3, wl (xw 4) cI V4, wl (xw 5) cI V5, wl (xw 6) cI V6, wl (xw 7) cI V7, rl xr xu cI (m_rw M, m_rn M), wl xu cI T5, ml m cI S M]) 1089 [(3, .int (nI i)), (2, .ref (m 0)), (1, .ref (xx 0)), (0, .ref b)] []
  by_cases c1 : sc (i + 1) < 0
  · refine G.al X dL_law_1089 2 rfl ?_
    refine G.al X dL_law_1090 3 rfl ?_
    refine G.il X dL_law_1091 0 rfl ?_
    refine G.pu X dL_law_1092 ?_
    refine G.nadd X (a := i) (b := 1) dL_law_1093 ?_
    refine G.sld X hX (i := i + 1) dL_law_1094 (by omega) (by omega) ?_
    refine G.cvi X kX6_row lL_152 dL_law_1095 (tX6_row_lo l D cI cW xx xn xt xk xe xo xv xc xr (m_hi M, m_rf M) (sc (i + 1)) (by omega)) ⟨Nat.le_of_ble_eq_true rfl, Nat.le_of_ble_eq_true rfl⟩ ⟨Nat.le_of_ble_eq_true rfl, Nat.le_of_ble_eq_true rfl⟩ [0] rfl ⟨rfl, rfl⟩ rfl rfl 0 0 rfl rfl rfl rfl (Nat.le_of_ble_eq_true rfl) (ff_cons (xl_fst _ _ _ _ _ _ _ _ _ _ _ _) (ff_nil)) (ws' := [xl xx xn xt xk xe xo xv xc xr cI (x_rf (m_hi M, m_rf M) 4), wl xn cI S, wl xt cI T1, wl xk cI K1, tl xe cI (m_q M), ol xo xp cI qo, wl xp cI T2, al xv xq cI qa, wl xq cI T3, cl xc xs xw cW qc, wl xs cI T4, wl (xw 0) cI V0, wl (xw 1) cI V1, wl (xw 2) cI V2, wl (xw 3) cI V3, wl (xw 4) cI V4, wl (xw 5) cI V5, wl (xw 6) cI V6, wl (xw 7) cI V7, rl xr xu cI (m_rw M, m_rn M), wl xu cI T5, ml m cI S M]) rfl ?_
    refine G.al X dL_law_1098 1 rfl ?_
    refine G.al X dL_law_1099 3 rfl ?_
    refine G.il X dL_law_1100 0 rfl ?_
    refine G.pu X dL_law_1101 ?_
    refine G.nadd X (a := i) (b := 1) dL_law_1102 ?_
    refine G.sld X hX (i := i + 1) dL_law_1103 (by omega) (by omega) ?_
    refine G.cvi X kX7_row lL_155 dL_law_1104 (tX7_row_lo l D cI cW m S M (sc (i + 1)) (by omega)) ⟨Nat.le_of_ble_eq_true rfl, Nat.le_of_ble_eq_true rfl⟩ ⟨Nat.le_of_ble_eq_true rfl, Nat.le_of_ble_eq_true rfl⟩ [21] rfl ⟨rfl, rfl⟩ rfl rfl 21 0 rfl rfl rfl rfl (Nat.le_of_ble_eq_true rfl) (ff_cons (ml_fst _ _ _ _ _ _) (ff_nil)) (ws' := [xl xx xn xt xk xe xo xv xc xr cI (x_rf (m_hi M, m_rf M) 4), wl xn cI S, wl xt cI T1, wl xk cI K1, tl xe cI (m_q M), ol xo xp cI qo, wl xp cI T2, al xv xq cI qa, wl xq cI T3, cl xc xs xw cW qc, wl xs cI T4, wl (xw 0) cI V0, wl (xw 1) cI V1, wl (xw 2) cI V2, wl (xw 3) cI V3, wl (xw 4) cI V4, wl (xw 5) cI V5, wl (xw 6) cI V6, wl (xw 7) cI V7, rl xr xu cI (m_rw M, m_rn M), wl xu cI T5, ml m cI S (m_no M 4)]) rfl ?_
    refine G.c_eq X (a := (-4)) (b := (-4)) dL_law_1107 (fun h1107 => ?_) (fun h1107 => absurd (rfl) h1107)
    exact kend S (m_no M 4) T1 K1 qo T2 qa T3 qc T4 V0 V1 V2 V3 V4 V5 V6 V7 T5 (hI.no 4)
  · by_cases c2 : 99 < sc (i + 1)
    · refine G.al X dL_law_1089 2 rfl ?_
      refine G.al X dL_law_1090 3 rfl ?_
      refine G.il X dL_law_1091 0 rfl ?_
      refine G.pu X dL_law_1092 ?_
      refine G.nadd X (a := i) (b := 1) dL_law_1093 ?_
      refine G.sld X hX (i := i + 1) dL_law_1094 (by omega) (by omega) ?_
      refine G.cvi X kX6_row lL_152 dL_law_1095 (tX6_row_hi l D cI cW xx xn xt xk xe xo xv xc xr (m_hi M, m_rf M) (sc (i + 1)) (by omega) (by omega)) ⟨Nat.le_of_ble_eq_true rfl, Nat.le_of_ble_eq_true rfl⟩ ⟨Nat.le_of_ble_eq_true rfl, Nat.le_of_ble_eq_true rfl⟩ [0] rfl ⟨rfl, rfl⟩ rfl rfl 0 0 rfl rfl rfl rfl (Nat.le_of_ble_eq_true rfl) (ff_cons (xl_fst _ _ _ _ _ _ _ _ _ _ _ _) (ff_nil)) (ws' := [xl xx xn xt xk xe xo xv xc xr cI (x_rf (m_hi M, m_rf M) 6), wl xn cI S, wl xt cI T1, wl xk cI K1, tl xe cI (m_q M), ol xo xp cI qo, wl xp cI T2, al xv xq cI qa, wl xq cI T3, cl xc xs xw cW qc, wl xs cI T4, wl (xw 0) cI V0, wl (xw 1) cI V1, wl (xw 2) cI V2, wl (xw 3) cI V3, wl (xw 4) cI V4, wl (xw 5) cI V5, wl (xw 6) cI V6, wl (xw 7) cI V7, rl xr xu cI (m_rw M, m_rn M), wl xu cI T5, ml m cI S M]) rfl ?_
      refine G.al X dL_law_1098 1 rfl ?_
      refine G.al X dL_law_1099 3 rfl ?_
      refine G.il X dL_law_1100 0 rfl ?_
      refine G.pu X dL_law_1101 ?_
      refine G.nadd X (a := i) (b := 1) dL_law_1102 ?_
      refine G.sld X hX (i := i + 1) dL_law_1103 (by omega) (by omega) ?_
      refine G.cvi X kX7_row lL_155 dL_law_1104 (tX7_row_hi l D cI cW m S M (sc (i + 1)) (by omega) (by omega)) ⟨Nat.le_of_ble_eq_true rfl, Nat.le_of_ble_eq_true rfl⟩ ⟨Nat.le_of_ble_eq_true rfl, Nat.le_of_ble_eq_true rfl⟩ [21] rfl ⟨rfl, rfl⟩ rfl rfl 21 0 rfl rfl rfl rfl (Nat.le_of_ble_eq_true rfl) (ff_cons (ml_fst _ _ _ _ _ _) (ff_nil)) (ws' := [xl xx xn xt xk xe xo xv xc xr cI (x_rf (m_hi M, m_rf M) 6), wl xn cI S, wl xt cI T1, wl xk cI K1, tl xe cI (m_q M), ol xo xp cI qo, wl xp cI T2, al xv xq cI qa, wl xq cI T3, cl xc xs xw cW qc, wl xs cI T4, wl (xw 0) cI V0, wl (xw 1) cI V1, wl (xw 2) cI V2, wl (xw 3) cI V3, wl (xw 4) cI V4, wl (xw 5) cI V5, wl (xw 6) cI V6, wl (xw 7) cI V7, rl xr xu cI (m_rw M, m_rn M), wl xu cI T5, ml m cI S (m_no M 6)]) rfl ?_
      refine G.c_eq X (a := (-6)) (b := (-6)) dL_law_1107 (fun h1107 => ?_) (fun h1107 => absurd (rfl) h1107)
      exact kend S (m_no M 6) T1 K1 qo T2 qa T3 qc T4 V0 V1 V2 V3 V4 V5 V6 V7 T5 (hI.no 6)
    · by_cases c3 : m_rn M < 16
      · refine G.al X dL_law_1089 2 rfl ?_
        refine G.al X dL_law_1090 3 rfl ?_
        refine G.il X dL_law_1091 0 rfl ?_
        refine G.pu X dL_law_1092 ?_
        refine G.nadd X (a := i) (b := 1) dL_law_1093 ?_
        refine G.sld X hX (i := i + 1) dL_law_1094 (by omega) (by omega) ?_
        refine G.cvi X kX6_row lL_152 dL_law_1095 (tX6_row_ok l D cI cW xx xn xt xk xe xo xv xc xr (m_hi M, m_rf M) xu (m_rw M, m_rn M) (sc (i + 1)) (by omega) (by omega) c3) ⟨Nat.le_of_ble_eq_true rfl, Nat.le_of_ble_eq_true rfl⟩ ⟨Nat.le_of_ble_eq_true rfl, Nat.le_of_ble_eq_true rfl⟩ [0, 19] rfl ⟨rfl, rfl⟩ rfl rfl 0 0 rfl rfl rfl rfl (Nat.le_of_ble_eq_true rfl) (ff_cons (xl_fst _ _ _ _ _ _ _ _ _ _ _ _) (ff_cons (rl_fst _ _ _ _ _) (ff_nil))) (ws' := [xl xx xn xt xk xe xo xv xc xr cI (m_hi M, m_rf M), wl xn cI S, wl xt cI T1, wl xk cI K1, tl xe cI (m_q M), ol xo xp cI qo, wl xp cI T2, al xv xq cI qa, wl xq cI T3, cl xc xs xw cW qc, wl xs cI T4, wl (xw 0) cI V0, wl (xw 1) cI V1, wl (xw 2) cI V2, wl (xw 3) cI V3, wl (xw 4) cI V4, wl (xw 5) cI V5, wl (xw 6) cI V6, wl (xw 7) cI V7, rl xr xu cI (upd (q_f (m_rw M, m_rn M)) (q_n (m_rw M, m_rn M)) (sc (i + 1)), q_n (m_rw M, m_rn M) + 1), wl xu cI T5, ml m cI S M]) rfl ?_
        refine G.al X dL_law_1098 1 rfl ?_
        refine G.al X dL_law_1099 3 rfl ?_
        refine G.il X dL_law_1100 0 rfl ?_
        refine G.pu X dL_law_1101 ?_
        refine G.nadd X (a := i) (b := 1) dL_law_1102 ?_
        refine G.sld X hX (i := i + 1) dL_law_1103 (by omega) (by omega) ?_
        refine G.cvi X kX7_row lL_155 dL_law_1104 (tX7_row_ok l D cI cW m S M (sc (i + 1)) (by omega) (by omega) c3) ⟨Nat.le_of_ble_eq_true rfl, Nat.le_of_ble_eq_true rfl⟩ ⟨Nat.le_of_ble_eq_true rfl, Nat.le_of_ble_eq_true rfl⟩ [21] rfl ⟨rfl, rfl⟩ rfl rfl 21 0 rfl rfl rfl rfl (Nat.le_of_ble_eq_true rfl) (ff_cons (ml_fst _ _ _ _ _ _) (ff_nil)) (ws' := [xl xx xn xt xk xe xo xv xc xr cI (m_hi M, m_rf M), wl xn cI S, wl xt cI T1, wl xk cI K1, tl xe cI (m_q M), ol xo xp cI qo, wl xp cI T2, al xv xq cI qa, wl xq cI T3, cl xc xs xw cW qc, wl xs cI T4, wl (xw 0) cI V0, wl (xw 1) cI V1, wl (xw 2) cI V2, wl (xw 3) cI V3, wl (xw 4) cI V4, wl (xw 5) cI V5, wl (xw 6) cI V6, wl (xw 7) cI V7, rl xr xu cI (upd (q_f (m_rw M, m_rn M)) (q_n (m_rw M, m_rn M)) (sc (i + 1)), q_n (m_rw M, m_rn M) + 1), wl xu cI T5, ml m cI S (m_rwa M (sc (i + 1)))]) rfl ?_
        refine G.n_eq X (a := q_n (m_rw M, m_rn M) + 1) (b := m_rn M + 1) (show m_rn M + 1 < 2 ^ 31 by omega) (show m_rn M + 1 < 2 ^ 31 by omega) dL_law_1107 (fun h1107 => ?_) (fun h1107 => absurd (rfl) h1107)
        exact kend S (m_rwa M (sc (i + 1))) T1 K1 qo T2 qa T3 qc T4 V0 V1 V2 V3 V4 V5 V6 V7 T5 (hI.rw _ c3)
      · refine G.al X dL_law_1089 2 rfl ?_
        refine G.al X dL_law_1090 3 rfl ?_
        refine G.il X dL_law_1091 0 rfl ?_
        refine G.pu X dL_law_1092 ?_
        refine G.nadd X (a := i) (b := 1) dL_law_1093 ?_
        refine G.sld X hX (i := i + 1) dL_law_1094 (by omega) (by omega) ?_
        refine G.cvi X kX6_row lL_152 dL_law_1095 (tX6_row_full l D cI cW xx xn xt xk xe xo xv xc xr (m_hi M, m_rf M) xu (m_rw M, m_rn M) (sc (i + 1)) (by omega) (by omega) (show m_rn M = 16 by have := hI.rn; omega)) ⟨Nat.le_of_ble_eq_true rfl, Nat.le_of_ble_eq_true rfl⟩ ⟨Nat.le_of_ble_eq_true rfl, Nat.le_of_ble_eq_true rfl⟩ [0, 19] rfl ⟨rfl, rfl⟩ rfl rfl 0 0 rfl rfl rfl rfl (Nat.le_of_ble_eq_true rfl) (ff_cons (xl_fst _ _ _ _ _ _ _ _ _ _ _ _) (ff_cons (rl_fst _ _ _ _ _) (ff_nil))) (ws' := [xl xx xn xt xk xe xo xv xc xr cI (x_rf (m_hi M, m_rf M) 6), wl xn cI S, wl xt cI T1, wl xk cI K1, tl xe cI (m_q M), ol xo xp cI qo, wl xp cI T2, al xv xq cI qa, wl xq cI T3, cl xc xs xw cW qc, wl xs cI T4, wl (xw 0) cI V0, wl (xw 1) cI V1, wl (xw 2) cI V2, wl (xw 3) cI V3, wl (xw 4) cI V4, wl (xw 5) cI V5, wl (xw 6) cI V6, wl (xw 7) cI V7, rl xr xu cI (m_rw M, m_rn M), wl xu cI T5, ml m cI S M]) rfl ?_
        refine G.al X dL_law_1098 1 rfl ?_
        refine G.al X dL_law_1099 3 rfl ?_
        refine G.il X dL_law_1100 0 rfl ?_
        refine G.pu X dL_law_1101 ?_
        refine G.nadd X (a := i) (b := 1) dL_law_1102 ?_
        refine G.sld X hX (i := i + 1) dL_law_1103 (by omega) (by omega) ?_
        refine G.cvi X kX7_row lL_155 dL_law_1104 (tX7_row_full l D cI cW m S M (sc (i + 1)) (by omega) (by omega) (show m_rn M = 16 by have := hI.rn; omega)) ⟨Nat.le_of_ble_eq_true rfl, Nat.le_of_ble_eq_true rfl⟩ ⟨Nat.le_of_ble_eq_true rfl, Nat.le_of_ble_eq_true rfl⟩ [21] rfl ⟨rfl, rfl⟩ rfl rfl 21 0 rfl rfl rfl rfl (Nat.le_of_ble_eq_true rfl) (ff_cons (ml_fst _ _ _ _ _ _) (ff_nil)) (ws' := [xl xx xn xt xk xe xo xv xc xr cI (x_rf (m_hi M, m_rf M) 6), wl xn cI S, wl xt cI T1, wl xk cI K1, tl xe cI (m_q M), ol xo xp cI qo, wl xp cI T2, al xv xq cI qa, wl xq cI T3, cl xc xs xw cW qc, wl xs cI T4, wl (xw 0) cI V0, wl (xw 1) cI V1, wl (xw 2) cI V2, wl (xw 3) cI V3, wl (xw 4) cI V4, wl (xw 5) cI V5, wl (xw 6) cI V6, wl (xw 7) cI V7, rl xr xu cI (m_rw M, m_rn M), wl xu cI T5, ml m cI S (m_no M 6)]) rfl ?_
        refine G.c_eq X (a := (-6)) (b := (-6)) dL_law_1107 (fun h1107 => ?_) (fun h1107 => absurd (rfl) h1107)
        exact kend S (m_no M 6) T1 K1 qo T2 qa T3 qc T4 V0 V1 V2 V3 V4 V5 V6 V7 T5 (hI.no 6)

set_option maxRecDepth 20000 in
theorem law_35 {l : Launch} {D : va_G} {cI cW : ClassId} {x : GC} (X : GOK x l D cI cW RL cL_law 4 room_1) {b L i : Nat} {sc : Nat → Int32} (hX : GX x b L sc) (hL : L ≤ 2560) (hi : i + 5 ≤ L) {xx xn xt xk xe xo xp xv xq xc xs : Nat → Nat} {xw : Nat → Nat → Nat} {xr xu m : Nat → Nat} (kend : ∀ (S : WS) (M : MS) (T1 : WS) (K1 : WS) (qo : FN) (T2 : WS) (qa : FN × FN) (T3 : WS) (qc : Int32 × Int32 × Int32) (T4 : WS) (V0 : WS) (V1 : WS) (V2 : WS) (V3 : WS) (V4 : WS) (V5 : WS) (V6 : WS) (V7 : WS) (T5 : WS), IV S M K1 → G x 165 1897 (LW cI cW xx xn xt xk xe xo xp xv xq xc xs xw xr xu m S M T1 K1 qo T2 qa T3 qc T4 V0 V1 V2 V3 V4 V5 V6 V7 T5) 1230 [(3, .int (nI i)), (2, .ref (m 0)), (1, .ref (xx 0)), (0, .ref b)] []) (S : WS) (M : MS) (T1 : WS) (K1 : WS) (qo : FN) (T2 : WS) (qa : FN × FN) (T3 : WS) (qc : Int32 × Int32 × Int32) (T4 : WS) (V0 : WS) (V1 : WS) (V2 : WS) (V3 : WS) (V4 : WS) (V5 : WS) (V6 : WS) (V7 : WS) (T5 : WS) (hI : IV S M K1) : G x 165 1897 (LW cI cW xx xn xt xk xe xo xp xv xq xc xs xw xr xu m S M T1 K1 qo T2 qa T3 qc T4 V0 V1 V2 V3 V4 V5 V6 V7 T5) 1125 [(3, .int (nI i)), (2, .ref (m 0)), (1, .ref (xx 0)), (0, .ref b)] [] := by
  show G x 165 1897 ([xl xx xn xt xk xe xo xv xc xr cI (m_hi M, m_rf M), wl xn cI S, wl xt cI T1, wl xk cI K1, tl xe cI (m_q M), ol xo xp cI qo, wl xp cI T2, al xv xq cI qa, wl xq cI T3, cl xc xs xw cW qc, wl xs cI T4, wl (xw 0) cI V0, wl (xw 1) cI V1, wl (xw 2) cI V2, wl (xw 3) cI V3, wl (xw 4) cI V4, wl (xw 5) cI V5, wl (xw 6) cI V6, wl (xw 7) cI V7, rl xr xu cI (m_rw M, m_rn M), wl xu cI T5, ml m cI S M]) 1125 [(3, .int (nI i)), (2, .ref (m 0)), (1, .ref (xx 0)), (0, .ref b)] []
  refine G.al X dL_law_1125 2 rfl ?_
  refine G.cvi X kX6_clear lL_160 dL_law_1126 (tX6_clear l D cI cW xx xn xt xk xe xo xv xc xr (m_hi M, m_rf M) xu (m_rw M, m_rn M)) ⟨Nat.le_of_ble_eq_true rfl, Nat.le_of_ble_eq_true rfl⟩ ⟨Nat.le_of_ble_eq_true rfl, Nat.le_of_ble_eq_true rfl⟩ [0, 19] rfl ⟨rfl, rfl⟩ rfl rfl 0 0 rfl rfl rfl rfl (Nat.le_of_ble_eq_true rfl) (ff_cons (xl_fst _ _ _ _ _ _ _ _ _ _ _ _) (ff_cons (rl_fst _ _ _ _ _) (ff_nil))) (ws' := [xl xx xn xt xk xe xo xv xc xr cI (m_hi M, m_rf M), wl xn cI S, wl xt cI T1, wl xk cI K1, tl xe cI (m_q M), ol xo xp cI qo, wl xp cI T2, al xv xq cI qa, wl xq cI T3, cl xc xs xw cW qc, wl xs cI T4, wl (xw 0) cI V0, wl (xw 1) cI V1, wl (xw 2) cI V2, wl (xw 3) cI V3, wl (xw 4) cI V4, wl (xw 5) cI V5, wl (xw 6) cI V6, wl (xw 7) cI V7, rl xr xu cI (q_f (m_rw M, m_rn M), 0), wl xu cI T5, ml m cI S M]) rfl ?_
  refine G.al X dL_law_1129 1 rfl ?_
  refine G.cvi X kX7_clear lL_163 dL_law_1130 (tX7_clear l D cI cW m S M) ⟨Nat.le_of_ble_eq_true rfl, Nat.le_of_ble_eq_true rfl⟩ ⟨Nat.le_of_ble_eq_true rfl, Nat.le_of_ble_eq_true rfl⟩ [21] rfl ⟨rfl, rfl⟩ rfl rfl 21 0 rfl rfl rfl rfl (Nat.le_of_ble_eq_true rfl) (ff_cons (ml_fst _ _ _ _ _ _) (ff_nil)) (ws' := [xl xx xn xt xk xe xo xv xc xr cI (m_hi M, m_rf M), wl xn cI S, wl xt cI T1, wl xk cI K1, tl xe cI (m_q M), ol xo xp cI qo, wl xp cI T2, al xv xq cI qa, wl xq cI T3, cl xc xs xw cW qc, wl xs cI T4, wl (xw 0) cI V0, wl (xw 1) cI V1, wl (xw 2) cI V2, wl (xw 3) cI V3, wl (xw 4) cI V4, wl (xw 5) cI V5, wl (xw 6) cI V6, wl (xw 7) cI V7, rl xr xu cI (q_f (m_rw M, m_rn M), 0), wl xu cI T5, ml m cI S (m_rns M 0)]) rfl ?_
  refine G.n_eq X (a := q_n (m_rw M, m_rn M)) (b := m_rn M) (show m_rn M < 2 ^ 31 by have := hI.rn; omega) (show m_rn M < 2 ^ 31 by have := hI.rn; omega) dL_law_1133 (fun h1133 => ?_) (fun h1133 => absurd (rfl) h1133)
  exact kend S (m_rns M 0) T1 K1 qo T2 qa T3 qc T4 V0 V1 V2 V3 V4 V5 V6 V7 T5 hI.rns

set_option maxRecDepth 20000 in
theorem law_34 {l : Launch} {D : va_G} {cI cW : ClassId} {x : GC} (X : GOK x l D cI cW RL cL_law 4 room_1) {b L i : Nat} {sc : Nat → Int32} (hX : GX x b L sc) (hL : L ≤ 2560) (hi : i + 5 ≤ L) {xx xn xt xk xe xo xp xv xq xc xs : Nat → Nat} {xw : Nat → Nat → Nat} {xr xu m : Nat → Nat} (kend : ∀ (S : WS) (M : MS) (T1 : WS) (K1 : WS) (qo : FN) (T2 : WS) (qa : FN × FN) (T3 : WS) (qc : Int32 × Int32 × Int32) (T4 : WS) (V0 : WS) (V1 : WS) (V2 : WS) (V3 : WS) (V4 : WS) (V5 : WS) (V6 : WS) (V7 : WS) (T5 : WS), IV S M K1 → G x 165 1897 (LW cI cW xx xn xt xk xe xo xp xv xq xc xs xw xr xu m S M T1 K1 qo T2 qa T3 qc T4 V0 V1 V2 V3 V4 V5 V6 V7 T5) 1230 [(3, .int (nI i)), (2, .ref (m 0)), (1, .ref (xx 0)), (0, .ref b)] []) (S : WS) (M : MS) (T1 : WS) (K1 : WS) (qo : FN) (T2 : WS) (qa : FN × FN) (T3 : WS) (qc : Int32 × Int32 × Int32) (T4 : WS) (V0 : WS) (V1 : WS) (V2 : WS) (V3 : WS) (V4 : WS) (V5 : WS) (V6 : WS) (V7 : WS) (T5 : WS) (hI : IV S M K1) : G x 165 1897 (LW cI cW xx xn xt xk xe xo xp xv xq xc xs xw xr xu m S M T1 K1 qo T2 qa T3 qc T4 V0 V1 V2 V3 V4 V5 V6 V7 T5) 1112 [(3, .int (nI i)), (2, .ref (m 0)), (1, .ref (xx 0)), (0, .ref b)] [] := by
  show G x 165 1897 ([xl xx xn xt xk xe xo xv xc xr cI (m_hi M, m_rf M), wl xn cI S, wl xt cI T1, wl xk cI K1, tl xe cI (m_q M), ol xo xp cI qo, wl xp cI T2, al xv xq cI qa, wl xq cI T3, cl xc xs xw cW qc, wl xs cI T4, wl (xw 0) cI V0, wl (xw 1) cI V1, wl (xw 2) cI V2, wl (xw 3) cI V3, wl (xw 4) cI V4, wl (xw 5) cI V5, wl (xw 6) cI V6, wl (xw 7) cI V7, rl xr xu cI (m_rw M, m_rn M), wl xu cI T5, ml m cI S M]) 1112 [(3, .int (nI i)), (2, .ref (m 0)), (1, .ref (xx 0)), (0, .ref b)] []
  refine G.al X dL_law_1112 2 rfl ?_
  refine G.cvie X kX6_judge lL_156 dL_law_1113 (tX6_judge l D cI cW xx xn xt xk xe xo xv xc xr (m_hi M, m_rf M) S xu (m_rw M, m_rn M) T5 hI.ok hI.rn) ⟨Nat.le_of_ble_eq_true rfl, Nat.le_of_ble_eq_true rfl⟩ ⟨Nat.le_of_ble_eq_true rfl, Nat.le_of_ble_eq_true rfl⟩ [0, 1, 19, 20] rfl ⟨rfl, rfl⟩ rfl rfl 0 0 rfl rfl rfl rfl (Nat.le_of_ble_eq_true rfl) (fun _ => (ff_cons (xl_fst _ _ _ _ _ _ _ _ _ _ _ _) (ff_cons (wl_fst _ _ _ _) (ff_cons (rl_fst _ _ _ _ _) (ff_cons (wl_fst _ _ _ _) (ff_nil)))))) (f8 := fun T9_1113 : WS => [xl xx xn xt xk xe xo xv xc xr cI (m_hi M, m_rf M), wl xn cI S, wl xt cI T1, wl xk cI K1, tl xe cI (m_q M), ol xo xp cI qo, wl xp cI T2, al xv xq cI qa, wl xq cI T3, cl xc xs xw cW qc, wl xs cI T4, wl (xw 0) cI V0, wl (xw 1) cI V1, wl (xw 2) cI V2, wl (xw 3) cI V3, wl (xw 4) cI V4, wl (xw 5) cI V5, wl (xw 6) cI V6, wl (xw 7) cI V7, rl xr xu cI (q_f (m_rw M, m_rn M), 0), wl xu cI T9_1113, ml m cI S M]) (fun _ => rfl) (fun T9_1113 => ?_)
  refine G.al X dL_law_1116 1 rfl ?_
  refine G.cvie X kX7_judge lL_159 dL_law_1117 (tX7_judge l D cI cW m S M hI.ok hI.co hI.rn) ⟨Nat.le_of_ble_eq_true rfl, Nat.le_of_ble_eq_true rfl⟩ ⟨Nat.le_of_ble_eq_true rfl, Nat.le_of_ble_eq_true rfl⟩ [21] rfl ⟨rfl, rfl⟩ rfl rfl 21 0 rfl rfl rfl rfl (Nat.le_of_ble_eq_true rfl) (fun _ => (ff_cons (ml_fst _ _ _ _ _ _) (ff_nil))) (f8 := fun M9_1117 : {M9_1117 : MS // Mq 64 (m_rns M 0) M9_1117} => [xl xx xn xt xk xe xo xv xc xr cI (m_hi M, m_rf M), wl xn cI S, wl xt cI T1, wl xk cI K1, tl xe cI (m_q M), ol xo xp cI qo, wl xp cI T2, al xv xq cI qa, wl xq cI T3, cl xc xs xw cW qc, wl xs cI T4, wl (xw 0) cI V0, wl (xw 1) cI V1, wl (xw 2) cI V2, wl (xw 3) cI V3, wl (xw 4) cI V4, wl (xw 5) cI V5, wl (xw 6) cI V6, wl (xw 7) cI V7, rl xr xu cI (q_f (m_rw M, m_rn M), 0), wl xu cI T9_1113, ml m cI S M9_1117.1]) (fun _ => rfl) (fun M9_1117 => ?_)
  refine G.c_eq X (a := (o2i (fi (fun d => !decide (bc (askb (w_dayN S d) (s_th (w_dayN S d))) = q_f (m_rw M, m_rn M) d)) (q_n (m_rw M, m_rn M))))) (b := (o2i (fi (fun d => !decide (m_bits (askb (w_dayN S d) (s_th (w_dayN S d))) 31 = m_rw M d)) (m_rn M)))) dL_law_1120 (fun h1120 => ?_) (fun h1120 => absurd ((congrArg o2i (q_judge hI.ok (m_rw M) (m_rn M)))) h1120)
  refine G.cg (LW_q (M := m_rns M 0) M9_1117.2) rfl rfl ?_
  exact kend S M9_1117.1 T1 K1 qo T2 qa T3 qc T4 V0 V1 V2 V3 V4 V5 V6 V7 T9_1113 (hI.rns.q M9_1117.2)

set_option maxRecDepth 20000 in
theorem law_36 {l : Launch} {D : va_G} {cI cW : ClassId} {x : GC} (X : GOK x l D cI cW RL cL_law 4 room_1) {b L i : Nat} {sc : Nat → Int32} (hX : GX x b L sc) (hL : L ≤ 2560) (hi : i + 5 ≤ L) {xx xn xt xk xe xo xp xv xq xc xs : Nat → Nat} {xw : Nat → Nat → Nat} {xr xu m : Nat → Nat} (kend : ∀ (S : WS) (M : MS) (T1 : WS) (K1 : WS) (qo : FN) (T2 : WS) (qa : FN × FN) (T3 : WS) (qc : Int32 × Int32 × Int32) (T4 : WS) (V0 : WS) (V1 : WS) (V2 : WS) (V3 : WS) (V4 : WS) (V5 : WS) (V6 : WS) (V7 : WS) (T5 : WS), IV S M K1 → G x 165 1897 (LW cI cW xx xn xt xk xe xo xp xv xq xc xs xw xr xu m S M T1 K1 qo T2 qa T3 qc T4 V0 V1 V2 V3 V4 V5 V6 V7 T5) 1230 [(3, .int (nI i)), (2, .ref (m 0)), (1, .ref (xx 0)), (0, .ref b)] []) (S : WS) (M : MS) (T1 : WS) (K1 : WS) (qo : FN) (T2 : WS) (qa : FN × FN) (T3 : WS) (qc : Int32 × Int32 × Int32) (T4 : WS) (V0 : WS) (V1 : WS) (V2 : WS) (V3 : WS) (V4 : WS) (V5 : WS) (V6 : WS) (V7 : WS) (T5 : WS) (hI : IV S M K1) : G x 165 1897 (LW cI cW xx xn xt xk xe xo xp xv xq xc xs xw xr xu m S M T1 K1 qo T2 qa T3 qc T4 V0 V1 V2 V3 V4 V5 V6 V7 T5) 1138 [(3, .int (nI i)), (2, .ref (m 0)), (1, .ref (xx 0)), (0, .ref b)] [] := by
  show G x 165 1897 ([xl xx xn xt xk xe xo xv xc xr cI (m_hi M, m_rf M), wl xn cI S, wl xt cI T1, wl xk cI K1, tl xe cI (m_q M), ol xo xp cI qo, wl xp cI T2, al xv xq cI qa, wl xq cI T3, cl xc xs xw cW qc, wl xs cI T4, wl (xw 0) cI V0, wl (xw 1) cI V1, wl (xw 2) cI V2, wl (xw 3) cI V3, wl (xw 4) cI V4, wl (xw 5) cI V5, wl (xw 6) cI V6, wl (xw 7) cI V7, rl xr xu cI (m_rw M, m_rn M), wl xu cI T5, ml m cI S M]) 1138 [(3, .int (nI i)), (2, .ref (m 0)), (1, .ref (xx 0)), (0, .ref b)] []
  by_cases cnl : sc (i + 1) < 1
  · refine G.al X dL_law_1138 2 rfl ?_
    refine G.al X dL_law_1139 3 rfl ?_
    refine G.il X dL_law_1140 0 rfl ?_
    refine G.pu X dL_law_1141 ?_
    refine G.nadd X (a := i) (b := 1) dL_law_1142 ?_
    refine G.sld X hX (i := i + 1) dL_law_1143 (by omega) (by omega) ?_
    refine G.al X dL_law_1144 3 rfl ?_
    refine G.il X dL_law_1145 0 rfl ?_
    refine G.pu X dL_law_1146 ?_
    refine G.nadd X (a := i) (b := 2) dL_law_1147 ?_
    refine G.sld X hX (i := i + 2) dL_law_1148 (by omega) (by omega) ?_
    refine G.al X dL_law_1149 3 rfl ?_
    refine G.il X dL_law_1150 0 rfl ?_
    refine G.pu X dL_law_1151 ?_
    refine G.nadd X (a := i) (b := 3) dL_law_1152 ?_
    refine G.sld X hX (i := i + 3) dL_law_1153 (by omega) (by omega) ?_
    refine G.cvi X kX6_lots lL_164 dL_law_1154 (tX6_lots_lo l D cI cW xx xn xt xk xe xo xv xc xr (m_hi M, m_rf M) S (sc (i + 1)) (sc (i + 2)) (sc (i + 3)) (by omega)) ⟨Nat.le_of_ble_eq_true rfl, Nat.le_of_ble_eq_true rfl⟩ ⟨Nat.le_of_ble_eq_true rfl, Nat.le_of_ble_eq_true rfl⟩ [0, 1] rfl ⟨rfl, rfl⟩ rfl rfl 0 0 rfl rfl rfl rfl (Nat.le_of_ble_eq_true rfl) (ff_cons (xl_fst _ _ _ _ _ _ _ _ _ _ _ _) (ff_cons (wl_fst _ _ _ _) (ff_nil))) (ws' := [xl xx xn xt xk xe xo xv xc xr cI (x_rf (m_hi M, m_rf M) 4), wl xn cI S, wl xt cI T1, wl xk cI K1, tl xe cI (m_q M), ol xo xp cI qo, wl xp cI T2, al xv xq cI qa, wl xq cI T3, cl xc xs xw cW qc, wl xs cI T4, wl (xw 0) cI V0, wl (xw 1) cI V1, wl (xw 2) cI V2, wl (xw 3) cI V3, wl (xw 4) cI V4, wl (xw 5) cI V5, wl (xw 6) cI V6, wl (xw 7) cI V7, rl xr xu cI (m_rw M, m_rn M), wl xu cI T5, ml m cI S M]) rfl ?_
    refine G.al X dL_law_1157 1 rfl ?_
    refine G.al X dL_law_1158 3 rfl ?_
    refine G.il X dL_law_1159 0 rfl ?_
    refine G.pu X dL_law_1160 ?_
    refine G.nadd X (a := i) (b := 1) dL_law_1161 ?_
    refine G.sld X hX (i := i + 1) dL_law_1162 (by omega) (by omega) ?_
    refine G.al X dL_law_1163 3 rfl ?_
    refine G.il X dL_law_1164 0 rfl ?_
    refine G.pu X dL_law_1165 ?_
    refine G.nadd X (a := i) (b := 2) dL_law_1166 ?_
    refine G.sld X hX (i := i + 2) dL_law_1167 (by omega) (by omega) ?_
    refine G.al X dL_law_1168 3 rfl ?_
    refine G.il X dL_law_1169 0 rfl ?_
    refine G.pu X dL_law_1170 ?_
    refine G.nadd X (a := i) (b := 3) dL_law_1171 ?_
    refine G.sld X hX (i := i + 3) dL_law_1172 (by omega) (by omega) ?_
    refine G.cvi X kX7_lots lL_167 dL_law_1173 (tX7_lots_lo l D cI cW m S M (sc (i + 1)) (sc (i + 2)) (sc (i + 3)) (by omega)) ⟨Nat.le_of_ble_eq_true rfl, Nat.le_of_ble_eq_true rfl⟩ ⟨Nat.le_of_ble_eq_true rfl, Nat.le_of_ble_eq_true rfl⟩ [21] rfl ⟨rfl, rfl⟩ rfl rfl 21 0 rfl rfl rfl rfl (Nat.le_of_ble_eq_true rfl) (ff_cons (ml_fst _ _ _ _ _ _) (ff_nil)) (ws' := [xl xx xn xt xk xe xo xv xc xr cI (x_rf (m_hi M, m_rf M) 4), wl xn cI S, wl xt cI T1, wl xk cI K1, tl xe cI (m_q M), ol xo xp cI qo, wl xp cI T2, al xv xq cI qa, wl xq cI T3, cl xc xs xw cW qc, wl xs cI T4, wl (xw 0) cI V0, wl (xw 1) cI V1, wl (xw 2) cI V2, wl (xw 3) cI V3, wl (xw 4) cI V4, wl (xw 5) cI V5, wl (xw 6) cI V6, wl (xw 7) cI V7, rl xr xu cI (m_rw M, m_rn M), wl xu cI T5, ml m cI S (m_no M 4)]) rfl ?_
    refine G.c_eq X (a := (-4)) (b := (-4)) dL_law_1176 (fun h1176 => ?_) (fun h1176 => absurd (rfl) h1176)
    exact kend S (m_no M 4) T1 K1 qo T2 qa T3 qc T4 V0 V1 V2 V3 V4 V5 V6 V7 T5 (hI.no 4)
  · by_cases cnh : 20 < sc (i + 1)
    · refine G.al X dL_law_1138 2 rfl ?_
      refine G.al X dL_law_1139 3 rfl ?_
      refine G.il X dL_law_1140 0 rfl ?_
      refine G.pu X dL_law_1141 ?_
      refine G.nadd X (a := i) (b := 1) dL_law_1142 ?_
      refine G.sld X hX (i := i + 1) dL_law_1143 (by omega) (by omega) ?_
      refine G.al X dL_law_1144 3 rfl ?_
      refine G.il X dL_law_1145 0 rfl ?_
      refine G.pu X dL_law_1146 ?_
      refine G.nadd X (a := i) (b := 2) dL_law_1147 ?_
      refine G.sld X hX (i := i + 2) dL_law_1148 (by omega) (by omega) ?_
      refine G.al X dL_law_1149 3 rfl ?_
      refine G.il X dL_law_1150 0 rfl ?_
      refine G.pu X dL_law_1151 ?_
      refine G.nadd X (a := i) (b := 3) dL_law_1152 ?_
      refine G.sld X hX (i := i + 3) dL_law_1153 (by omega) (by omega) ?_
      refine G.cvi X kX6_lots lL_164 dL_law_1154 (tX6_lots_hi l D cI cW xx xn xt xk xe xo xv xc xr (m_hi M, m_rf M) S (sc (i + 1)) (sc (i + 2)) (sc (i + 3)) (by omega) (by omega)) ⟨Nat.le_of_ble_eq_true rfl, Nat.le_of_ble_eq_true rfl⟩ ⟨Nat.le_of_ble_eq_true rfl, Nat.le_of_ble_eq_true rfl⟩ [0, 1] rfl ⟨rfl, rfl⟩ rfl rfl 0 0 rfl rfl rfl rfl (Nat.le_of_ble_eq_true rfl) (ff_cons (xl_fst _ _ _ _ _ _ _ _ _ _ _ _) (ff_cons (wl_fst _ _ _ _) (ff_nil))) (ws' := [xl xx xn xt xk xe xo xv xc xr cI (x_rf (m_hi M, m_rf M) 6), wl xn cI S, wl xt cI T1, wl xk cI K1, tl xe cI (m_q M), ol xo xp cI qo, wl xp cI T2, al xv xq cI qa, wl xq cI T3, cl xc xs xw cW qc, wl xs cI T4, wl (xw 0) cI V0, wl (xw 1) cI V1, wl (xw 2) cI V2, wl (xw 3) cI V3, wl (xw 4) cI V4, wl (xw 5) cI V5, wl (xw 6) cI V6, wl (xw 7) cI V7, rl xr xu cI (m_rw M, m_rn M), wl xu cI T5, ml m cI S M]) rfl ?_
      refine G.al X dL_law_1157 1 rfl ?_
      refine G.al X dL_law_1158 3 rfl ?_
      refine G.il X dL_law_1159 0 rfl ?_
      refine G.pu X dL_law_1160 ?_
      refine G.nadd X (a := i) (b := 1) dL_law_1161 ?_
      refine G.sld X hX (i := i + 1) dL_law_1162 (by omega) (by omega) ?_
      refine G.al X dL_law_1163 3 rfl ?_
      refine G.il X dL_law_1164 0 rfl ?_
      refine G.pu X dL_law_1165 ?_
      refine G.nadd X (a := i) (b := 2) dL_law_1166 ?_
      refine G.sld X hX (i := i + 2) dL_law_1167 (by omega) (by omega) ?_
      refine G.al X dL_law_1168 3 rfl ?_
      refine G.il X dL_law_1169 0 rfl ?_
      refine G.pu X dL_law_1170 ?_
      refine G.nadd X (a := i) (b := 3) dL_law_1171 ?_
      refine G.sld X hX (i := i + 3) dL_law_1172 (by omega) (by omega) ?_
      refine G.cvi X kX7_lots lL_167 dL_law_1173 (tX7_lots_hi l D cI cW m S M (sc (i + 1)) (sc (i + 2)) (sc (i + 3)) (by omega) (by omega)) ⟨Nat.le_of_ble_eq_true rfl, Nat.le_of_ble_eq_true rfl⟩ ⟨Nat.le_of_ble_eq_true rfl, Nat.le_of_ble_eq_true rfl⟩ [21] rfl ⟨rfl, rfl⟩ rfl rfl 21 0 rfl rfl rfl rfl (Nat.le_of_ble_eq_true rfl) (ff_cons (ml_fst _ _ _ _ _ _) (ff_nil)) (ws' := [xl xx xn xt xk xe xo xv xc xr cI (x_rf (m_hi M, m_rf M) 6), wl xn cI S, wl xt cI T1, wl xk cI K1, tl xe cI (m_q M), ol xo xp cI qo, wl xp cI T2, al xv xq cI qa, wl xq cI T3, cl xc xs xw cW qc, wl xs cI T4, wl (xw 0) cI V0, wl (xw 1) cI V1, wl (xw 2) cI V2, wl (xw 3) cI V3, wl (xw 4) cI V4, wl (xw 5) cI V5, wl (xw 6) cI V6, wl (xw 7) cI V7, rl xr xu cI (m_rw M, m_rn M), wl xu cI T5, ml m cI S (m_no M 6)]) rfl ?_
      refine G.c_eq X (a := (-6)) (b := (-6)) dL_law_1176 (fun h1176 => ?_) (fun h1176 => absurd (rfl) h1176)
      exact kend S (m_no M 6) T1 K1 qo T2 qa T3 qc T4 V0 V1 V2 V3 V4 V5 V6 V7 T5 (hI.no 6)
    · obtain ⟨n, ⟨hn1, hn2⟩, en⟩ := n_rng (lo := 1) (hi := 20) (by decide) (by decide) cnl cnh
      by_cases zw : z_in (sc (i + 3)) 2 = true
      · obtain ⟨w9, hw9, ew9⟩ := z_in_t zw
        rcases (show w9 = 0 ∨ w9 = 1 by omega) with rfl | rfl
        · by_cases hp0 : 0 < s_pe S
          · refine G.al X dL_law_1138 2 rfl ?_
            refine G.al X dL_law_1139 3 rfl ?_
            refine G.il X dL_law_1140 0 rfl ?_
            refine G.pu X dL_law_1141 ?_
            refine G.nadd X (a := i) (b := 1) dL_law_1142 ?_
            refine G.sld X hX (i := i + 1) dL_law_1143 (by omega) (by omega) ?_
            refine G.top (b := nI n) en ?_
            refine G.al X dL_law_1144 3 rfl ?_
            refine G.il X dL_law_1145 0 rfl ?_
            refine G.pu X dL_law_1146 ?_
            refine G.nadd X (a := i) (b := 2) dL_law_1147 ?_
            refine G.sld X hX (i := i + 2) dL_law_1148 (by omega) (by omega) ?_
            refine G.al X dL_law_1149 3 rfl ?_
            refine G.il X dL_law_1150 0 rfl ?_
            refine G.pu X dL_law_1151 ?_
            refine G.nadd X (a := i) (b := 3) dL_law_1152 ?_
            refine G.sld X hX (i := i + 3) dL_law_1153 (by omega) (by omega) ?_
            refine G.top (b := 0) ew9 ?_
            refine G.cvie X kX6_lots lL_164 dL_law_1154 (tX6_lots_0 l D cI cW xx xn xt xk xe xo xv xc xr (m_hi M, m_rf M) S xs xw qc T4 n (sc (i + 2)) hI.ok hn1 hn2 hp0) ⟨Nat.le_of_ble_eq_true rfl, Nat.le_of_ble_eq_true rfl⟩ ⟨Nat.le_of_ble_eq_true rfl, Nat.le_of_ble_eq_true rfl⟩ [0, 1, 9, 10] rfl ⟨rfl, rfl⟩ rfl rfl 0 0 rfl rfl rfl rfl (Nat.le_of_ble_eq_true rfl) (fun _ => (ff_cons (xl_fst _ _ _ _ _ _ _ _ _ _ _ _) (ff_cons (wl_fst _ _ _ _) (ff_cons (cl_fst _ _ _ _ _ _) (ff_cons (wl_fst _ _ _ _) (ff_nil)))))) (f8 := fun T9_1154 : WS => [xl xx xn xt xk xe xo xv xc xr cI (m_hi M, m_rf M), wl xn cI S, wl xt cI T1, wl xk cI K1, tl xe cI (m_q M), ol xo xp cI qo, wl xp cI T2, al xv xq cI qa, wl xq cI T3, cl xc xs xw cW (w_lots S (sc (i + 2)) n), wl xs cI T9_1154, wl (xw 0) cI V0, wl (xw 1) cI V1, wl (xw 2) cI V2, wl (xw 3) cI V3, wl (xw 4) cI V4, wl (xw 5) cI V5, wl (xw 6) cI V6, wl (xw 7) cI V7, rl xr xu cI (m_rw M, m_rn M), wl xu cI T5, ml m cI S M]) (fun _ => rfl) (fun T9_1154 => ?_)
            refine G.al X dL_law_1157 1 rfl ?_
            refine G.al X dL_law_1158 3 rfl ?_
            refine G.il X dL_law_1159 0 rfl ?_
            refine G.pu X dL_law_1160 ?_
            refine G.nadd X (a := i) (b := 1) dL_law_1161 ?_
            refine G.sld X hX (i := i + 1) dL_law_1162 (by omega) (by omega) ?_
            refine G.top (b := nI n) en ?_
            refine G.al X dL_law_1163 3 rfl ?_
            refine G.il X dL_law_1164 0 rfl ?_
            refine G.pu X dL_law_1165 ?_
            refine G.nadd X (a := i) (b := 2) dL_law_1166 ?_
            refine G.sld X hX (i := i + 2) dL_law_1167 (by omega) (by omega) ?_
            refine G.al X dL_law_1168 3 rfl ?_
            refine G.il X dL_law_1169 0 rfl ?_
            refine G.pu X dL_law_1170 ?_
            refine G.nadd X (a := i) (b := 3) dL_law_1171 ?_
            refine G.sld X hX (i := i + 3) dL_law_1172 (by omega) (by omega) ?_
            refine G.top (b := 0) ew9 ?_
            refine G.cvie X kX7_lots lL_167 dL_law_1173 (tX7_lots_0 l D cI cW m S M n (sc (i + 2)) hI.ok hI.co hn1 hn2 hp0) ⟨Nat.le_of_ble_eq_true rfl, Nat.le_of_ble_eq_true rfl⟩ ⟨Nat.le_of_ble_eq_true rfl, Nat.le_of_ble_eq_true rfl⟩ [21] rfl ⟨rfl, rfl⟩ rfl rfl 21 0 rfl rfl rfl rfl (Nat.le_of_ble_eq_true rfl) (fun _ => (ff_cons (ml_fst _ _ _ _ _ _) (ff_nil))) (f8 := fun M9_1173 : {M9_1173 : MS // Mq 64 M M9_1173} => [xl xx xn xt xk xe xo xv xc xr cI (m_hi M, m_rf M), wl xn cI S, wl xt cI T1, wl xk cI K1, tl xe cI (m_q M), ol xo xp cI qo, wl xp cI T2, al xv xq cI qa, wl xq cI T3, cl xc xs xw cW (w_lots S (sc (i + 2)) n), wl xs cI T9_1154, wl (xw 0) cI V0, wl (xw 1) cI V1, wl (xw 2) cI V2, wl (xw 3) cI V3, wl (xw 4) cI V4, wl (xw 5) cI V5, wl (xw 6) cI V6, wl (xw 7) cI V7, rl xr xu cI (m_rw M, m_rn M), wl xu cI T5, ml m cI S M9_1173.1]) (fun _ => rfl) (fun M9_1173 => ?_)
            refine G.c_eq X (a := (k_w (w_lots S (sc (i + 2)) n))) (b := (k_w (m_lots S (sc (i + 2)) (-nI n * sumf (s_an S) (s_pe S)) n))) dL_law_1176 (fun h1176 => ?_) (fun h1176 => absurd ((q_lots S (sc (i + 2)) _ n).2.1.symm) h1176)
            rw [LW_q M9_1173.2]
            exact kend S M9_1173.1 T1 K1 qo T2 qa T3 (w_lots S (sc (i + 2)) n) T9_1154 V0 V1 V2 V3 V4 V5 V6 V7 T5 (hI.q M9_1173.2)
          · refine G.al X dL_law_1138 2 rfl ?_
            refine G.al X dL_law_1139 3 rfl ?_
            refine G.il X dL_law_1140 0 rfl ?_
            refine G.pu X dL_law_1141 ?_
            refine G.nadd X (a := i) (b := 1) dL_law_1142 ?_
            refine G.sld X hX (i := i + 1) dL_law_1143 (by omega) (by omega) ?_
            refine G.top (b := nI n) en ?_
            refine G.al X dL_law_1144 3 rfl ?_
            refine G.il X dL_law_1145 0 rfl ?_
            refine G.pu X dL_law_1146 ?_
            refine G.nadd X (a := i) (b := 2) dL_law_1147 ?_
            refine G.sld X hX (i := i + 2) dL_law_1148 (by omega) (by omega) ?_
            refine G.al X dL_law_1149 3 rfl ?_
            refine G.il X dL_law_1150 0 rfl ?_
            refine G.pu X dL_law_1151 ?_
            refine G.nadd X (a := i) (b := 3) dL_law_1152 ?_
            refine G.sld X hX (i := i + 3) dL_law_1153 (by omega) (by omega) ?_
            refine G.top (b := 0) ew9 ?_
            refine G.cvi X kX6_lots lL_164 dL_law_1154 (tX6_lots_no0 l D cI cW xx xn xt xk xe xo xv xc xr (m_hi M, m_rf M) S n (sc (i + 2)) hI.ok hn1 hn2 (by omega)) ⟨Nat.le_of_ble_eq_true rfl, Nat.le_of_ble_eq_true rfl⟩ ⟨Nat.le_of_ble_eq_true rfl, Nat.le_of_ble_eq_true rfl⟩ [0, 1] rfl ⟨rfl, rfl⟩ rfl rfl 0 0 rfl rfl rfl rfl (Nat.le_of_ble_eq_true rfl) (ff_cons (xl_fst _ _ _ _ _ _ _ _ _ _ _ _) (ff_cons (wl_fst _ _ _ _) (ff_nil))) (ws' := [xl xx xn xt xk xe xo xv xc xr cI (x_rf (m_hi M, m_rf M) 3), wl xn cI S, wl xt cI T1, wl xk cI K1, tl xe cI (m_q M), ol xo xp cI qo, wl xp cI T2, al xv xq cI qa, wl xq cI T3, cl xc xs xw cW qc, wl xs cI T4, wl (xw 0) cI V0, wl (xw 1) cI V1, wl (xw 2) cI V2, wl (xw 3) cI V3, wl (xw 4) cI V4, wl (xw 5) cI V5, wl (xw 6) cI V6, wl (xw 7) cI V7, rl xr xu cI (m_rw M, m_rn M), wl xu cI T5, ml m cI S M]) rfl ?_
            refine G.al X dL_law_1157 1 rfl ?_
            refine G.al X dL_law_1158 3 rfl ?_
            refine G.il X dL_law_1159 0 rfl ?_
            refine G.pu X dL_law_1160 ?_
            refine G.nadd X (a := i) (b := 1) dL_law_1161 ?_
            refine G.sld X hX (i := i + 1) dL_law_1162 (by omega) (by omega) ?_
            refine G.top (b := nI n) en ?_
            refine G.al X dL_law_1163 3 rfl ?_
            refine G.il X dL_law_1164 0 rfl ?_
            refine G.pu X dL_law_1165 ?_
            refine G.nadd X (a := i) (b := 2) dL_law_1166 ?_
            refine G.sld X hX (i := i + 2) dL_law_1167 (by omega) (by omega) ?_
            refine G.al X dL_law_1168 3 rfl ?_
            refine G.il X dL_law_1169 0 rfl ?_
            refine G.pu X dL_law_1170 ?_
            refine G.nadd X (a := i) (b := 3) dL_law_1171 ?_
            refine G.sld X hX (i := i + 3) dL_law_1172 (by omega) (by omega) ?_
            refine G.top (b := 0) ew9 ?_
            refine G.cvi X kX7_lots lL_167 dL_law_1173 (tX7_lots_no0 l D cI cW m S M n (sc (i + 2)) hI.ok hn1 hn2 (by omega)) ⟨Nat.le_of_ble_eq_true rfl, Nat.le_of_ble_eq_true rfl⟩ ⟨Nat.le_of_ble_eq_true rfl, Nat.le_of_ble_eq_true rfl⟩ [21] rfl ⟨rfl, rfl⟩ rfl rfl 21 0 rfl rfl rfl rfl (Nat.le_of_ble_eq_true rfl) (ff_cons (ml_fst _ _ _ _ _ _) (ff_nil)) (ws' := [xl xx xn xt xk xe xo xv xc xr cI (x_rf (m_hi M, m_rf M) 3), wl xn cI S, wl xt cI T1, wl xk cI K1, tl xe cI (m_q M), ol xo xp cI qo, wl xp cI T2, al xv xq cI qa, wl xq cI T3, cl xc xs xw cW qc, wl xs cI T4, wl (xw 0) cI V0, wl (xw 1) cI V1, wl (xw 2) cI V2, wl (xw 3) cI V3, wl (xw 4) cI V4, wl (xw 5) cI V5, wl (xw 6) cI V6, wl (xw 7) cI V7, rl xr xu cI (m_rw M, m_rn M), wl xu cI T5, ml m cI S (m_no M 3)]) rfl ?_
            refine G.c_eq X (a := (-3)) (b := (-3)) dL_law_1176 (fun h1176 => ?_) (fun h1176 => absurd (rfl) h1176)
            exact kend S (m_no M 3) T1 K1 qo T2 qa T3 qc T4 V0 V1 V2 V3 V4 V5 V6 V7 T5 (hI.no 3)
        · by_cases hp0 : 0 < s_pe S
          · refine G.al X dL_law_1138 2 rfl ?_
            refine G.al X dL_law_1139 3 rfl ?_
            refine G.il X dL_law_1140 0 rfl ?_
            refine G.pu X dL_law_1141 ?_
            refine G.nadd X (a := i) (b := 1) dL_law_1142 ?_
            refine G.sld X hX (i := i + 1) dL_law_1143 (by omega) (by omega) ?_
            refine G.top (b := nI n) en ?_
            refine G.al X dL_law_1144 3 rfl ?_
            refine G.il X dL_law_1145 0 rfl ?_
            refine G.pu X dL_law_1146 ?_
            refine G.nadd X (a := i) (b := 2) dL_law_1147 ?_
            refine G.sld X hX (i := i + 2) dL_law_1148 (by omega) (by omega) ?_
            refine G.al X dL_law_1149 3 rfl ?_
            refine G.il X dL_law_1150 0 rfl ?_
            refine G.pu X dL_law_1151 ?_
            refine G.nadd X (a := i) (b := 3) dL_law_1152 ?_
            refine G.sld X hX (i := i + 3) dL_law_1153 (by omega) (by omega) ?_
            refine G.top (b := 1) ew9 ?_
            refine G.cvie X kX6_lots lL_164 dL_law_1154 (tX6_lots_1 l D cI cW xx xn xt xk xe xo xv xc xr (m_hi M, m_rf M) S xs xw qc T4 n (sc (i + 2)) hI.ok hn1 hn2 hp0) ⟨Nat.le_of_ble_eq_true rfl, Nat.le_of_ble_eq_true rfl⟩ ⟨Nat.le_of_ble_eq_true rfl, Nat.le_of_ble_eq_true rfl⟩ [0, 1, 9, 10] rfl ⟨rfl, rfl⟩ rfl rfl 0 0 rfl rfl rfl rfl (Nat.le_of_ble_eq_true rfl) (fun _ => (ff_cons (xl_fst _ _ _ _ _ _ _ _ _ _ _ _) (ff_cons (wl_fst _ _ _ _) (ff_cons (cl_fst _ _ _ _ _ _) (ff_cons (wl_fst _ _ _ _) (ff_nil)))))) (f8 := fun T9_1154 : WS => [xl xx xn xt xk xe xo xv xc xr cI (m_hi M, m_rf M), wl xn cI S, wl xt cI T1, wl xk cI K1, tl xe cI (m_q M), ol xo xp cI qo, wl xp cI T2, al xv xq cI qa, wl xq cI T3, cl xc xs xw cW (w_lots S (sc (i + 2)) n), wl xs cI T9_1154, wl (xw 0) cI V0, wl (xw 1) cI V1, wl (xw 2) cI V2, wl (xw 3) cI V3, wl (xw 4) cI V4, wl (xw 5) cI V5, wl (xw 6) cI V6, wl (xw 7) cI V7, rl xr xu cI (m_rw M, m_rn M), wl xu cI T5, ml m cI S M]) (fun _ => rfl) (fun T9_1154 => ?_)
            refine G.al X dL_law_1157 1 rfl ?_
            refine G.al X dL_law_1158 3 rfl ?_
            refine G.il X dL_law_1159 0 rfl ?_
            refine G.pu X dL_law_1160 ?_
            refine G.nadd X (a := i) (b := 1) dL_law_1161 ?_
            refine G.sld X hX (i := i + 1) dL_law_1162 (by omega) (by omega) ?_
            refine G.top (b := nI n) en ?_
            refine G.al X dL_law_1163 3 rfl ?_
            refine G.il X dL_law_1164 0 rfl ?_
            refine G.pu X dL_law_1165 ?_
            refine G.nadd X (a := i) (b := 2) dL_law_1166 ?_
            refine G.sld X hX (i := i + 2) dL_law_1167 (by omega) (by omega) ?_
            refine G.al X dL_law_1168 3 rfl ?_
            refine G.il X dL_law_1169 0 rfl ?_
            refine G.pu X dL_law_1170 ?_
            refine G.nadd X (a := i) (b := 3) dL_law_1171 ?_
            refine G.sld X hX (i := i + 3) dL_law_1172 (by omega) (by omega) ?_
            refine G.top (b := 1) ew9 ?_
            refine G.cvie X kX7_lots lL_167 dL_law_1173 (tX7_lots_1 l D cI cW m S M n (sc (i + 2)) hI.ok hI.co hn1 hn2 hp0) ⟨Nat.le_of_ble_eq_true rfl, Nat.le_of_ble_eq_true rfl⟩ ⟨Nat.le_of_ble_eq_true rfl, Nat.le_of_ble_eq_true rfl⟩ [21] rfl ⟨rfl, rfl⟩ rfl rfl 21 0 rfl rfl rfl rfl (Nat.le_of_ble_eq_true rfl) (fun _ => (ff_cons (ml_fst _ _ _ _ _ _) (ff_nil))) (f8 := fun M9_1173 : {M9_1173 : MS // Mq 64 M M9_1173} => [xl xx xn xt xk xe xo xv xc xr cI (m_hi M, m_rf M), wl xn cI S, wl xt cI T1, wl xk cI K1, tl xe cI (m_q M), ol xo xp cI qo, wl xp cI T2, al xv xq cI qa, wl xq cI T3, cl xc xs xw cW (w_lots S (sc (i + 2)) n), wl xs cI T9_1154, wl (xw 0) cI V0, wl (xw 1) cI V1, wl (xw 2) cI V2, wl (xw 3) cI V3, wl (xw 4) cI V4, wl (xw 5) cI V5, wl (xw 6) cI V6, wl (xw 7) cI V7, rl xr xu cI (m_rw M, m_rn M), wl xu cI T5, ml m cI S M9_1173.1]) (fun _ => rfl) (fun M9_1173 => ?_)
            refine G.c_eq X (a := (k_a (w_lots S (sc (i + 2)) n))) (b := (k_a (m_lots S (sc (i + 2)) (-nI n * sumf (s_an S) (s_pe S)) n))) dL_law_1176 (fun h1176 => ?_) (fun h1176 => absurd ((q_lotsA S (sc (i + 2)) n).symm) h1176)
            rw [LW_q M9_1173.2]
            exact kend S M9_1173.1 T1 K1 qo T2 qa T3 (w_lots S (sc (i + 2)) n) T9_1154 V0 V1 V2 V3 V4 V5 V6 V7 T5 (hI.q M9_1173.2)
          · refine G.al X dL_law_1138 2 rfl ?_
            refine G.al X dL_law_1139 3 rfl ?_
            refine G.il X dL_law_1140 0 rfl ?_
            refine G.pu X dL_law_1141 ?_
            refine G.nadd X (a := i) (b := 1) dL_law_1142 ?_
            refine G.sld X hX (i := i + 1) dL_law_1143 (by omega) (by omega) ?_
            refine G.top (b := nI n) en ?_
            refine G.al X dL_law_1144 3 rfl ?_
            refine G.il X dL_law_1145 0 rfl ?_
            refine G.pu X dL_law_1146 ?_
            refine G.nadd X (a := i) (b := 2) dL_law_1147 ?_
            refine G.sld X hX (i := i + 2) dL_law_1148 (by omega) (by omega) ?_
            refine G.al X dL_law_1149 3 rfl ?_
            refine G.il X dL_law_1150 0 rfl ?_
            refine G.pu X dL_law_1151 ?_
            refine G.nadd X (a := i) (b := 3) dL_law_1152 ?_
            refine G.sld X hX (i := i + 3) dL_law_1153 (by omega) (by omega) ?_
            refine G.top (b := 1) ew9 ?_
            refine G.cvi X kX6_lots lL_164 dL_law_1154 (tX6_lots_no1 l D cI cW xx xn xt xk xe xo xv xc xr (m_hi M, m_rf M) S n (sc (i + 2)) hI.ok hn1 hn2 (by omega)) ⟨Nat.le_of_ble_eq_true rfl, Nat.le_of_ble_eq_true rfl⟩ ⟨Nat.le_of_ble_eq_true rfl, Nat.le_of_ble_eq_true rfl⟩ [0, 1] rfl ⟨rfl, rfl⟩ rfl rfl 0 0 rfl rfl rfl rfl (Nat.le_of_ble_eq_true rfl) (ff_cons (xl_fst _ _ _ _ _ _ _ _ _ _ _ _) (ff_cons (wl_fst _ _ _ _) (ff_nil))) (ws' := [xl xx xn xt xk xe xo xv xc xr cI (x_rf (m_hi M, m_rf M) 3), wl xn cI S, wl xt cI T1, wl xk cI K1, tl xe cI (m_q M), ol xo xp cI qo, wl xp cI T2, al xv xq cI qa, wl xq cI T3, cl xc xs xw cW qc, wl xs cI T4, wl (xw 0) cI V0, wl (xw 1) cI V1, wl (xw 2) cI V2, wl (xw 3) cI V3, wl (xw 4) cI V4, wl (xw 5) cI V5, wl (xw 6) cI V6, wl (xw 7) cI V7, rl xr xu cI (m_rw M, m_rn M), wl xu cI T5, ml m cI S M]) rfl ?_
            refine G.al X dL_law_1157 1 rfl ?_
            refine G.al X dL_law_1158 3 rfl ?_
            refine G.il X dL_law_1159 0 rfl ?_
            refine G.pu X dL_law_1160 ?_
            refine G.nadd X (a := i) (b := 1) dL_law_1161 ?_
            refine G.sld X hX (i := i + 1) dL_law_1162 (by omega) (by omega) ?_
            refine G.top (b := nI n) en ?_
            refine G.al X dL_law_1163 3 rfl ?_
            refine G.il X dL_law_1164 0 rfl ?_
            refine G.pu X dL_law_1165 ?_
            refine G.nadd X (a := i) (b := 2) dL_law_1166 ?_
            refine G.sld X hX (i := i + 2) dL_law_1167 (by omega) (by omega) ?_
            refine G.al X dL_law_1168 3 rfl ?_
            refine G.il X dL_law_1169 0 rfl ?_
            refine G.pu X dL_law_1170 ?_
            refine G.nadd X (a := i) (b := 3) dL_law_1171 ?_
            refine G.sld X hX (i := i + 3) dL_law_1172 (by omega) (by omega) ?_
            refine G.top (b := 1) ew9 ?_
            refine G.cvi X kX7_lots lL_167 dL_law_1173 (tX7_lots_no1 l D cI cW m S M n (sc (i + 2)) hI.ok hn1 hn2 (by omega)) ⟨Nat.le_of_ble_eq_true rfl, Nat.le_of_ble_eq_true rfl⟩ ⟨Nat.le_of_ble_eq_true rfl, Nat.le_of_ble_eq_true rfl⟩ [21] rfl ⟨rfl, rfl⟩ rfl rfl 21 0 rfl rfl rfl rfl (Nat.le_of_ble_eq_true rfl) (ff_cons (ml_fst _ _ _ _ _ _) (ff_nil)) (ws' := [xl xx xn xt xk xe xo xv xc xr cI (x_rf (m_hi M, m_rf M) 3), wl xn cI S, wl xt cI T1, wl xk cI K1, tl xe cI (m_q M), ol xo xp cI qo, wl xp cI T2, al xv xq cI qa, wl xq cI T3, cl xc xs xw cW qc, wl xs cI T4, wl (xw 0) cI V0, wl (xw 1) cI V1, wl (xw 2) cI V2, wl (xw 3) cI V3, wl (xw 4) cI V4, wl (xw 5) cI V5, wl (xw 6) cI V6, wl (xw 7) cI V7, rl xr xu cI (m_rw M, m_rn M), wl xu cI T5, ml m cI S (m_no M 3)]) rfl ?_
            refine G.c_eq X (a := (-3)) (b := (-3)) dL_law_1176 (fun h1176 => ?_) (fun h1176 => absurd (rfl) h1176)
            exact kend S (m_no M 3) T1 K1 qo T2 qa T3 qc T4 V0 V1 V2 V3 V4 V5 V6 V7 T5 (hI.no 3)
      · replace zw : z_in (sc (i + 3)) 2 = false := by simpa using zw
        refine G.al X dL_law_1138 2 rfl ?_
        refine G.al X dL_law_1139 3 rfl ?_
        refine G.il X dL_law_1140 0 rfl ?_
        refine G.pu X dL_law_1141 ?_
        refine G.nadd X (a := i) (b := 1) dL_law_1142 ?_
        refine G.sld X hX (i := i + 1) dL_law_1143 (by omega) (by omega) ?_
        refine G.top (b := nI n) en ?_
        refine G.al X dL_law_1144 3 rfl ?_
        refine G.il X dL_law_1145 0 rfl ?_
        refine G.pu X dL_law_1146 ?_
        refine G.nadd X (a := i) (b := 2) dL_law_1147 ?_
        refine G.sld X hX (i := i + 2) dL_law_1148 (by omega) (by omega) ?_
        refine G.al X dL_law_1149 3 rfl ?_
        refine G.il X dL_law_1150 0 rfl ?_
        refine G.pu X dL_law_1151 ?_
        refine G.nadd X (a := i) (b := 3) dL_law_1152 ?_
        refine G.sld X hX (i := i + 3) dL_law_1153 (by omega) (by omega) ?_
        refine G.cvi X kX6_lots lL_164 dL_law_1154 (tX6_lots_oth l D cI cW xx xn xt xk xe xo xv xc xr (m_hi M, m_rf M) S n (sc (i + 2)) (sc (i + 3)) hn1 hn2 zw) ⟨Nat.le_of_ble_eq_true rfl, Nat.le_of_ble_eq_true rfl⟩ ⟨Nat.le_of_ble_eq_true rfl, Nat.le_of_ble_eq_true rfl⟩ [0, 1] rfl ⟨rfl, rfl⟩ rfl rfl 0 0 rfl rfl rfl rfl (Nat.le_of_ble_eq_true rfl) (ff_cons (xl_fst _ _ _ _ _ _ _ _ _ _ _ _) (ff_cons (wl_fst _ _ _ _) (ff_nil))) (ws' := [xl xx xn xt xk xe xo xv xc xr cI (x_rf (m_hi M, m_rf M) 2), wl xn cI S, wl xt cI T1, wl xk cI K1, tl xe cI (m_q M), ol xo xp cI qo, wl xp cI T2, al xv xq cI qa, wl xq cI T3, cl xc xs xw cW qc, wl xs cI T4, wl (xw 0) cI V0, wl (xw 1) cI V1, wl (xw 2) cI V2, wl (xw 3) cI V3, wl (xw 4) cI V4, wl (xw 5) cI V5, wl (xw 6) cI V6, wl (xw 7) cI V7, rl xr xu cI (m_rw M, m_rn M), wl xu cI T5, ml m cI S M]) rfl ?_
        refine G.al X dL_law_1157 1 rfl ?_
        refine G.al X dL_law_1158 3 rfl ?_
        refine G.il X dL_law_1159 0 rfl ?_
        refine G.pu X dL_law_1160 ?_
        refine G.nadd X (a := i) (b := 1) dL_law_1161 ?_
        refine G.sld X hX (i := i + 1) dL_law_1162 (by omega) (by omega) ?_
        refine G.top (b := nI n) en ?_
        refine G.al X dL_law_1163 3 rfl ?_
        refine G.il X dL_law_1164 0 rfl ?_
        refine G.pu X dL_law_1165 ?_
        refine G.nadd X (a := i) (b := 2) dL_law_1166 ?_
        refine G.sld X hX (i := i + 2) dL_law_1167 (by omega) (by omega) ?_
        refine G.al X dL_law_1168 3 rfl ?_
        refine G.il X dL_law_1169 0 rfl ?_
        refine G.pu X dL_law_1170 ?_
        refine G.nadd X (a := i) (b := 3) dL_law_1171 ?_
        refine G.sld X hX (i := i + 3) dL_law_1172 (by omega) (by omega) ?_
        refine G.cvi X kX7_lots lL_167 dL_law_1173 (tX7_lots_oth l D cI cW m S M n (sc (i + 2)) (sc (i + 3)) hn1 hn2 zw) ⟨Nat.le_of_ble_eq_true rfl, Nat.le_of_ble_eq_true rfl⟩ ⟨Nat.le_of_ble_eq_true rfl, Nat.le_of_ble_eq_true rfl⟩ [21] rfl ⟨rfl, rfl⟩ rfl rfl 21 0 rfl rfl rfl rfl (Nat.le_of_ble_eq_true rfl) (ff_cons (ml_fst _ _ _ _ _ _) (ff_nil)) (ws' := [xl xx xn xt xk xe xo xv xc xr cI (x_rf (m_hi M, m_rf M) 2), wl xn cI S, wl xt cI T1, wl xk cI K1, tl xe cI (m_q M), ol xo xp cI qo, wl xp cI T2, al xv xq cI qa, wl xq cI T3, cl xc xs xw cW qc, wl xs cI T4, wl (xw 0) cI V0, wl (xw 1) cI V1, wl (xw 2) cI V2, wl (xw 3) cI V3, wl (xw 4) cI V4, wl (xw 5) cI V5, wl (xw 6) cI V6, wl (xw 7) cI V7, rl xr xu cI (m_rw M, m_rn M), wl xu cI T5, ml m cI S (m_no M 2)]) rfl ?_
        refine G.c_eq X (a := (-2)) (b := (-2)) dL_law_1176 (fun h1176 => ?_) (fun h1176 => absurd (rfl) h1176)
        exact kend S (m_no M 2) T1 K1 qo T2 qa T3 qc T4 V0 V1 V2 V3 V4 V5 V6 V7 T5 (hI.no 2)

set_option maxRecDepth 20000 in
theorem law_37 {l : Launch} {D : va_G} {cI cW : ClassId} {x : GC} (X : GOK x l D cI cW RL cL_law 4 room_1) {b L i : Nat} {sc : Nat → Int32} (hX : GX x b L sc) (hL : L ≤ 2560) (hi : i + 5 ≤ L) {xx xn xt xk xe xo xp xv xq xc xs : Nat → Nat} {xw : Nat → Nat → Nat} {xr xu m : Nat → Nat} (kend : ∀ (S : WS) (M : MS) (T1 : WS) (K1 : WS) (qo : FN) (T2 : WS) (qa : FN × FN) (T3 : WS) (qc : Int32 × Int32 × Int32) (T4 : WS) (V0 : WS) (V1 : WS) (V2 : WS) (V3 : WS) (V4 : WS) (V5 : WS) (V6 : WS) (V7 : WS) (T5 : WS), IV S M K1 → G x 165 1897 (LW cI cW xx xn xt xk xe xo xp xv xq xc xs xw xr xu m S M T1 K1 qo T2 qa T3 qc T4 V0 V1 V2 V3 V4 V5 V6 V7 T5) 1230 [(3, .int (nI i)), (2, .ref (m 0)), (1, .ref (xx 0)), (0, .ref b)] []) (S : WS) (M : MS) (T1 : WS) (K1 : WS) (qo : FN) (T2 : WS) (qa : FN × FN) (T3 : WS) (qc : Int32 × Int32 × Int32) (T4 : WS) (V0 : WS) (V1 : WS) (V2 : WS) (V3 : WS) (V4 : WS) (V5 : WS) (V6 : WS) (V7 : WS) (T5 : WS) (hI : IV S M K1) : G x 165 1897 (LW cI cW xx xn xt xk xe xo xp xv xq xc xs xw xr xu m S M T1 K1 qo T2 qa T3 qc T4 V0 V1 V2 V3 V4 V5 V6 V7 T5) 1181 [(3, .int (nI i)), (2, .ref (m 0)), (1, .ref (xx 0)), (0, .ref b)] [] := by
  show G x 165 1897 ([xl xx xn xt xk xe xo xv xc xr cI (m_hi M, m_rf M), wl xn cI S, wl xt cI T1, wl xk cI K1, tl xe cI (m_q M), ol xo xp cI qo, wl xp cI T2, al xv xq cI qa, wl xq cI T3, cl xc xs xw cW qc, wl xs cI T4, wl (xw 0) cI V0, wl (xw 1) cI V1, wl (xw 2) cI V2, wl (xw 3) cI V3, wl (xw 4) cI V4, wl (xw 5) cI V5, wl (xw 6) cI V6, wl (xw 7) cI V7, rl xr xu cI (m_rw M, m_rn M), wl xu cI T5, ml m cI S M]) 1181 [(3, .int (nI i)), (2, .ref (m 0)), (1, .ref (xx 0)), (0, .ref b)] []
  refine G.al X dL_law_1181 2 rfl ?_
  refine G.cvi X kX6_image lL_168 dL_law_1182 (tX6_image l D cI cW xx xn xt xk xe xo xv xc xr (m_hi M, m_rf M) S K1) ⟨Nat.le_of_ble_eq_true rfl, Nat.le_of_ble_eq_true rfl⟩ ⟨Nat.le_of_ble_eq_true rfl, Nat.le_of_ble_eq_true rfl⟩ [0, 1, 3] rfl ⟨rfl, rfl⟩ rfl rfl 0 0 rfl rfl rfl rfl (Nat.le_of_ble_eq_true rfl) (ff_cons (xl_fst _ _ _ _ _ _ _ _ _ _ _ _) (ff_cons (wl_fst _ _ _ _) (ff_cons (wl_fst _ _ _ _) (ff_nil)))) (ws' := [xl xx xn xt xk xe xo xv xc xr cI (true, x_f (m_hi M, m_rf M)), wl xn cI S, wl xt cI T1, wl xk cI S, tl xe cI (m_q M), ol xo xp cI qo, wl xp cI T2, al xv xq cI qa, wl xq cI T3, cl xc xs xw cW qc, wl xs cI T4, wl (xw 0) cI V0, wl (xw 1) cI V1, wl (xw 2) cI V2, wl (xw 3) cI V3, wl (xw 4) cI V4, wl (xw 5) cI V5, wl (xw 6) cI V6, wl (xw 7) cI V7, rl xr xu cI (m_rw M, m_rn M), wl xu cI T5, ml m cI S M]) rfl ?_
  refine G.al X dL_law_1185 1 rfl ?_
  refine G.cvi X kX7_image lL_171 dL_law_1186 (tX7_image l D cI cW m S M) ⟨Nat.le_of_ble_eq_true rfl, Nat.le_of_ble_eq_true rfl⟩ ⟨Nat.le_of_ble_eq_true rfl, Nat.le_of_ble_eq_true rfl⟩ [21] rfl ⟨rfl, rfl⟩ rfl rfl 21 0 rfl rfl rfl rfl (Nat.le_of_ble_eq_true rfl) (ff_cons (ml_fst _ _ _ _ _ _) (ff_nil)) (ws' := [xl xx xn xt xk xe xo xv xc xr cI (true, x_f (m_hi M, m_rf M)), wl xn cI S, wl xt cI T1, wl xk cI S, tl xe cI (m_q M), ol xo xp cI qo, wl xp cI T2, al xv xq cI qa, wl xq cI T3, cl xc xs xw cW qc, wl xs cI T4, wl (xw 0) cI V0, wl (xw 1) cI V1, wl (xw 2) cI V2, wl (xw 3) cI V3, wl (xw 4) cI V4, wl (xw 5) cI V5, wl (xw 6) cI V6, wl (xw 7) cI V7, rl xr xu cI (m_rw M, m_rn M), wl xu cI T5, ml m cI S (m_kpa (m_img M) 0 S)]) rfl ?_
  refine G.c_eq X (a := (s_da S)) (b := (s_da S)) dL_law_1189 (fun h1189 => ?_) (fun h1189 => absurd (rfl) h1189)
  exact kend S (m_kpa (m_img M) 0 S) T1 S qo T2 qa T3 qc T4 V0 V1 V2 V3 V4 V5 V6 V7 T5 hI.img

set_option maxRecDepth 20000 in
theorem law_38 {l : Launch} {D : va_G} {cI cW : ClassId} {x : GC} (X : GOK x l D cI cW RL cL_law 4 room_1) {b L i : Nat} {sc : Nat → Int32} (hX : GX x b L sc) (hL : L ≤ 2560) (hi : i + 5 ≤ L) {xx xn xt xk xe xo xp xv xq xc xs : Nat → Nat} {xw : Nat → Nat → Nat} {xr xu m : Nat → Nat} (kend : ∀ (S : WS) (M : MS) (T1 : WS) (K1 : WS) (qo : FN) (T2 : WS) (qa : FN × FN) (T3 : WS) (qc : Int32 × Int32 × Int32) (T4 : WS) (V0 : WS) (V1 : WS) (V2 : WS) (V3 : WS) (V4 : WS) (V5 : WS) (V6 : WS) (V7 : WS) (T5 : WS), IV S M K1 → G x 165 1897 (LW cI cW xx xn xt xk xe xo xp xv xq xc xs xw xr xu m S M T1 K1 qo T2 qa T3 qc T4 V0 V1 V2 V3 V4 V5 V6 V7 T5) 1230 [(3, .int (nI i)), (2, .ref (m 0)), (1, .ref (xx 0)), (0, .ref b)] []) (S : WS) (M : MS) (T1 : WS) (K1 : WS) (qo : FN) (T2 : WS) (qa : FN × FN) (T3 : WS) (qc : Int32 × Int32 × Int32) (T4 : WS) (V0 : WS) (V1 : WS) (V2 : WS) (V3 : WS) (V4 : WS) (V5 : WS) (V6 : WS) (V7 : WS) (T5 : WS) (hI : IV S M K1) : G x 165 1897 (LW cI cW xx xn xt xk xe xo xp xv xq xc xs xw xr xu m S M T1 K1 qo T2 qa T3 qc T4 V0 V1 V2 V3 V4 V5 V6 V7 T5) 1194 [(3, .int (nI i)), (2, .ref (m 0)), (1, .ref (xx 0)), (0, .ref b)] [] := by
  show G x 165 1897 ([xl xx xn xt xk xe xo xv xc xr cI (m_hi M, m_rf M), wl xn cI S, wl xt cI T1, wl xk cI K1, tl xe cI (m_q M), ol xo xp cI qo, wl xp cI T2, al xv xq cI qa, wl xq cI T3, cl xc xs xw cW qc, wl xs cI T4, wl (xw 0) cI V0, wl (xw 1) cI V1, wl (xw 2) cI V2, wl (xw 3) cI V3, wl (xw 4) cI V4, wl (xw 5) cI V5, wl (xw 6) cI V6, wl (xw 7) cI V7, rl xr xu cI (m_rw M, m_rn M), wl xu cI T5, ml m cI S M]) 1194 [(3, .int (nI i)), (2, .ref (m 0)), (1, .ref (xx 0)), (0, .ref b)] []
  by_cases c1 : m_hi M = true
  · refine G.al X dL_law_1194 2 rfl ?_
    refine G.cvi X kX6_on lL_172 dL_law_1195 (tX6_on_ok l D cI cW xx xn xt xk xe xo xv xc xr (m_hi M, m_rf M) S K1 c1) ⟨Nat.le_of_ble_eq_true rfl, Nat.le_of_ble_eq_true rfl⟩ ⟨Nat.le_of_ble_eq_true rfl, Nat.le_of_ble_eq_true rfl⟩ [0, 1, 3] rfl ⟨rfl, rfl⟩ rfl rfl 0 0 rfl rfl rfl rfl (Nat.le_of_ble_eq_true rfl) (ff_cons (xl_fst _ _ _ _ _ _ _ _ _ _ _ _) (ff_cons (wl_fst _ _ _ _) (ff_cons (wl_fst _ _ _ _) (ff_nil)))) (ws' := [xl xx xn xt xk xe xo xv xc xr cI (m_hi M, m_rf M), wl xn cI K1, wl xt cI T1, wl xk cI K1, tl xe cI (m_q M), ol xo xp cI qo, wl xp cI T2, al xv xq cI qa, wl xq cI T3, cl xc xs xw cW qc, wl xs cI T4, wl (xw 0) cI V0, wl (xw 1) cI V1, wl (xw 2) cI V2, wl (xw 3) cI V3, wl (xw 4) cI V4, wl (xw 5) cI V5, wl (xw 6) cI V6, wl (xw 7) cI V7, rl xr xu cI (m_rw M, m_rn M), wl xu cI T5, ml m cI S M]) rfl ?_
    refine G.al X dL_law_1198 1 rfl ?_
    refine G.cvi X kX7_on lL_175 dL_law_1199 (tX7_on_ok l D cI cW m S M K1 c1 (hI.im c1).1) ⟨Nat.le_of_ble_eq_true rfl, Nat.le_of_ble_eq_true rfl⟩ ⟨Nat.le_of_ble_eq_true rfl, Nat.le_of_ble_eq_true rfl⟩ [21] rfl ⟨rfl, rfl⟩ rfl rfl 21 0 rfl rfl rfl rfl (Nat.le_of_ble_eq_true rfl) (ff_cons (ml_fst _ _ _ _ _ _) (ff_nil)) (ws' := [xl xx xn xt xk xe xo xv xc xr cI (m_hi M, m_rf M), wl xn cI K1, wl xt cI T1, wl xk cI K1, tl xe cI (m_q M), ol xo xp cI qo, wl xp cI T2, al xv xq cI qa, wl xq cI T3, cl xc xs xw cW qc, wl xs cI T4, wl (xw 0) cI V0, wl (xw 1) cI V1, wl (xw 2) cI V2, wl (xw 3) cI V3, wl (xw 4) cI V4, wl (xw 5) cI V5, wl (xw 6) cI V6, wl (xw 7) cI V7, rl xr xu cI (m_rw M, m_rn M), wl xu cI T5, ml m cI K1 (m_set M 64 false)]) rfl ?_
    refine G.c_eq X (a := (s_da K1)) (b := (s_da K1)) dL_law_1202 (fun h1202 => ?_) (fun h1202 => absurd (rfl) h1202)
    exact kend K1 (m_set M 64 false) T1 K1 qo T2 qa T3 qc T4 V0 V1 V2 V3 V4 V5 V6 V7 T5 (hI.on c1)
  · refine G.al X dL_law_1194 2 rfl ?_
    refine G.cvi X kX6_on lL_172 dL_law_1195 (tX6_on_no l D cI cW xx xn xt xk xe xo xv xc xr (m_hi M, m_rf M) (by simpa using c1)) ⟨Nat.le_of_ble_eq_true rfl, Nat.le_of_ble_eq_true rfl⟩ ⟨Nat.le_of_ble_eq_true rfl, Nat.le_of_ble_eq_true rfl⟩ [0] rfl ⟨rfl, rfl⟩ rfl rfl 0 0 rfl rfl rfl rfl (Nat.le_of_ble_eq_true rfl) (ff_cons (xl_fst _ _ _ _ _ _ _ _ _ _ _ _) (ff_nil)) (ws' := [xl xx xn xt xk xe xo xv xc xr cI (x_rf (m_hi M, m_rf M) 3), wl xn cI S, wl xt cI T1, wl xk cI K1, tl xe cI (m_q M), ol xo xp cI qo, wl xp cI T2, al xv xq cI qa, wl xq cI T3, cl xc xs xw cW qc, wl xs cI T4, wl (xw 0) cI V0, wl (xw 1) cI V1, wl (xw 2) cI V2, wl (xw 3) cI V3, wl (xw 4) cI V4, wl (xw 5) cI V5, wl (xw 6) cI V6, wl (xw 7) cI V7, rl xr xu cI (m_rw M, m_rn M), wl xu cI T5, ml m cI S M]) rfl ?_
    refine G.al X dL_law_1198 1 rfl ?_
    refine G.cvi X kX7_on lL_175 dL_law_1199 (tX7_on_no l D cI cW m S M (by simpa using c1)) ⟨Nat.le_of_ble_eq_true rfl, Nat.le_of_ble_eq_true rfl⟩ ⟨Nat.le_of_ble_eq_true rfl, Nat.le_of_ble_eq_true rfl⟩ [21] rfl ⟨rfl, rfl⟩ rfl rfl 21 0 rfl rfl rfl rfl (Nat.le_of_ble_eq_true rfl) (ff_cons (ml_fst _ _ _ _ _ _) (ff_nil)) (ws' := [xl xx xn xt xk xe xo xv xc xr cI (x_rf (m_hi M, m_rf M) 3), wl xn cI S, wl xt cI T1, wl xk cI K1, tl xe cI (m_q M), ol xo xp cI qo, wl xp cI T2, al xv xq cI qa, wl xq cI T3, cl xc xs xw cW qc, wl xs cI T4, wl (xw 0) cI V0, wl (xw 1) cI V1, wl (xw 2) cI V2, wl (xw 3) cI V3, wl (xw 4) cI V4, wl (xw 5) cI V5, wl (xw 6) cI V6, wl (xw 7) cI V7, rl xr xu cI (m_rw M, m_rn M), wl xu cI T5, ml m cI S (m_no M 3)]) rfl ?_
    refine G.c_eq X (a := (-3)) (b := (-3)) dL_law_1202 (fun h1202 => ?_) (fun h1202 => absurd (rfl) h1202)
    exact kend S (m_no M 3) T1 K1 qo T2 qa T3 qc T4 V0 V1 V2 V3 V4 V5 V6 V7 T5 (hI.no 3)

set_option maxRecDepth 20000 in
theorem law_39 {l : Launch} {D : va_G} {cI cW : ClassId} {x : GC} (X : GOK x l D cI cW RL cL_law 4 room_1) {b L i : Nat} {sc : Nat → Int32} (hX : GX x b L sc) (hL : L ≤ 2560) (hi : i + 5 ≤ L) {xx xn xt xk xe xo xp xv xq xc xs : Nat → Nat} {xw : Nat → Nat → Nat} {xr xu m : Nat → Nat} (kend : ∀ (S : WS) (M : MS) (T1 : WS) (K1 : WS) (qo : FN) (T2 : WS) (qa : FN × FN) (T3 : WS) (qc : Int32 × Int32 × Int32) (T4 : WS) (V0 : WS) (V1 : WS) (V2 : WS) (V3 : WS) (V4 : WS) (V5 : WS) (V6 : WS) (V7 : WS) (T5 : WS), IV S M K1 → G x 165 1897 (LW cI cW xx xn xt xk xe xo xp xv xq xc xs xw xr xu m S M T1 K1 qo T2 qa T3 qc T4 V0 V1 V2 V3 V4 V5 V6 V7 T5) 1230 [(3, .int (nI i)), (2, .ref (m 0)), (1, .ref (xx 0)), (0, .ref b)] []) (S : WS) (M : MS) (T1 : WS) (K1 : WS) (qo : FN) (T2 : WS) (qa : FN × FN) (T3 : WS) (qc : Int32 × Int32 × Int32) (T4 : WS) (V0 : WS) (V1 : WS) (V2 : WS) (V3 : WS) (V4 : WS) (V5 : WS) (V6 : WS) (V7 : WS) (T5 : WS) (hI : IV S M K1) : G x 165 1897 (LW cI cW xx xn xt xk xe xo xp xv xq xc xs xw xr xu m S M T1 K1 qo T2 qa T3 qc T4 V0 V1 V2 V3 V4 V5 V6 V7 T5) 1207 [(3, .int (nI i)), (2, .ref (m 0)), (1, .ref (xx 0)), (0, .ref b)] [] := by
  show G x 165 1897 ([xl xx xn xt xk xe xo xv xc xr cI (m_hi M, m_rf M), wl xn cI S, wl xt cI T1, wl xk cI K1, tl xe cI (m_q M), ol xo xp cI qo, wl xp cI T2, al xv xq cI qa, wl xq cI T3, cl xc xs xw cW qc, wl xs cI T4, wl (xw 0) cI V0, wl (xw 1) cI V1, wl (xw 2) cI V2, wl (xw 3) cI V3, wl (xw 4) cI V4, wl (xw 5) cI V5, wl (xw 6) cI V6, wl (xw 7) cI V7, rl xr xu cI (m_rw M, m_rn M), wl xu cI T5, ml m cI S M]) 1207 [(3, .int (nI i)), (2, .ref (m 0)), (1, .ref (xx 0)), (0, .ref b)] []
  by_cases zw : z_in (sc (i + 1)) 8 = true
  · obtain ⟨w9, hw9, ew9⟩ := z_in_t zw
    rcases (show w9 = 0 ∨ w9 = 1 ∨ w9 = 2 ∨ w9 = 3 ∨ w9 = 4 ∨ w9 = 5 ∨ w9 = 6 ∨ w9 = 7 by omega) with rfl | rfl | rfl | rfl | rfl | rfl | rfl | rfl
    · refine G.al X dL_law_1207 2 rfl ?_
      refine G.al X dL_law_1208 3 rfl ?_
      refine G.il X dL_law_1209 0 rfl ?_
      refine G.pu X dL_law_1210 ?_
      refine G.nadd X (a := i) (b := 1) dL_law_1211 ?_
      refine G.sld X hX (i := i + 1) dL_law_1212 (by omega) (by omega) ?_
      refine G.top (b := 0) ew9 ?_
      refine G.cvi X kX6_count lL_176 dL_law_1213 (tX6_count_0 l D cI cW xx xn xt xk xe xo xv xc xr (m_hi M, m_rf M) S (m_q M) xu (m_rw M, m_rn M) hI.ok) ⟨Nat.le_of_ble_eq_true rfl, Nat.le_of_ble_eq_true rfl⟩ ⟨Nat.le_of_ble_eq_true rfl, Nat.le_of_ble_eq_true rfl⟩ [0, 1, 4, 19] rfl ⟨rfl, rfl⟩ rfl rfl 0 0 rfl rfl rfl rfl (Nat.le_of_ble_eq_true rfl) (ff_cons (xl_fst _ _ _ _ _ _ _ _ _ _ _ _) (ff_cons (wl_fst _ _ _ _) (ff_cons (tl_fst _ _ _ _) (ff_cons (rl_fst _ _ _ _ _) (ff_nil))))) (ws' := [xl xx xn xt xk xe xo xv xc xr cI (m_hi M, m_rf M), wl xn cI S, wl xt cI T1, wl xk cI K1, tl xe cI (m_q M), ol xo xp cI qo, wl xp cI T2, al xv xq cI qa, wl xq cI T3, cl xc xs xw cW qc, wl xs cI T4, wl (xw 0) cI V0, wl (xw 1) cI V1, wl (xw 2) cI V2, wl (xw 3) cI V3, wl (xw 4) cI V4, wl (xw 5) cI V5, wl (xw 6) cI V6, wl (xw 7) cI V7, rl xr xu cI (m_rw M, m_rn M), wl xu cI T5, ml m cI S M]) rfl ?_
      refine G.al X dL_law_1216 1 rfl ?_
      refine G.al X dL_law_1217 3 rfl ?_
      refine G.il X dL_law_1218 0 rfl ?_
      refine G.pu X dL_law_1219 ?_
      refine G.nadd X (a := i) (b := 1) dL_law_1220 ?_
      refine G.sld X hX (i := i + 1) dL_law_1221 (by omega) (by omega) ?_
      refine G.top (b := 0) ew9 ?_
      refine G.cvi X kX7_count lL_179 dL_law_1222 (tX7_count_0 l D cI cW m S M hI.ok) ⟨Nat.le_of_ble_eq_true rfl, Nat.le_of_ble_eq_true rfl⟩ ⟨Nat.le_of_ble_eq_true rfl, Nat.le_of_ble_eq_true rfl⟩ [21] rfl ⟨rfl, rfl⟩ rfl rfl 21 0 rfl rfl rfl rfl (Nat.le_of_ble_eq_true rfl) (ff_cons (ml_fst _ _ _ _ _ _) (ff_nil)) (ws' := [xl xx xn xt xk xe xo xv xc xr cI (m_hi M, m_rf M), wl xn cI S, wl xt cI T1, wl xk cI K1, tl xe cI (m_q M), ol xo xp cI qo, wl xp cI T2, al xv xq cI qa, wl xq cI T3, cl xc xs xw cW qc, wl xs cI T4, wl (xw 0) cI V0, wl (xw 1) cI V1, wl (xw 2) cI V2, wl (xw 3) cI V3, wl (xw 4) cI V4, wl (xw 5) cI V5, wl (xw 6) cI V6, wl (xw 7) cI V7, rl xr xu cI (m_rw M, m_rn M), wl xu cI T5, ml m cI S M]) rfl ?_
      refine G.c_eq X (a := (nI (s_pe S))) (b := (nI (s_pe S))) dL_law_1225 (fun h1225 => ?_) (fun h1225 => absurd (rfl) h1225)
      exact kend S M T1 K1 qo T2 qa T3 qc T4 V0 V1 V2 V3 V4 V5 V6 V7 T5 hI
    · refine G.al X dL_law_1207 2 rfl ?_
      refine G.al X dL_law_1208 3 rfl ?_
      refine G.il X dL_law_1209 0 rfl ?_
      refine G.pu X dL_law_1210 ?_
      refine G.nadd X (a := i) (b := 1) dL_law_1211 ?_
      refine G.sld X hX (i := i + 1) dL_law_1212 (by omega) (by omega) ?_
      refine G.top (b := 1) ew9 ?_
      refine G.cvi X kX6_count lL_176 dL_law_1213 (tX6_count_1 l D cI cW xx xn xt xk xe xo xv xc xr (m_hi M, m_rf M) S (m_q M) xu (m_rw M, m_rn M) hI.ok) ⟨Nat.le_of_ble_eq_true rfl, Nat.le_of_ble_eq_true rfl⟩ ⟨Nat.le_of_ble_eq_true rfl, Nat.le_of_ble_eq_true rfl⟩ [0, 1, 4, 19] rfl ⟨rfl, rfl⟩ rfl rfl 0 0 rfl rfl rfl rfl (Nat.le_of_ble_eq_true rfl) (ff_cons (xl_fst _ _ _ _ _ _ _ _ _ _ _ _) (ff_cons (wl_fst _ _ _ _) (ff_cons (tl_fst _ _ _ _) (ff_cons (rl_fst _ _ _ _ _) (ff_nil))))) (ws' := [xl xx xn xt xk xe xo xv xc xr cI (m_hi M, m_rf M), wl xn cI S, wl xt cI T1, wl xk cI K1, tl xe cI (m_q M), ol xo xp cI qo, wl xp cI T2, al xv xq cI qa, wl xq cI T3, cl xc xs xw cW qc, wl xs cI T4, wl (xw 0) cI V0, wl (xw 1) cI V1, wl (xw 2) cI V2, wl (xw 3) cI V3, wl (xw 4) cI V4, wl (xw 5) cI V5, wl (xw 6) cI V6, wl (xw 7) cI V7, rl xr xu cI (m_rw M, m_rn M), wl xu cI T5, ml m cI S M]) rfl ?_
      refine G.al X dL_law_1216 1 rfl ?_
      refine G.al X dL_law_1217 3 rfl ?_
      refine G.il X dL_law_1218 0 rfl ?_
      refine G.pu X dL_law_1219 ?_
      refine G.nadd X (a := i) (b := 1) dL_law_1220 ?_
      refine G.sld X hX (i := i + 1) dL_law_1221 (by omega) (by omega) ?_
      refine G.top (b := 1) ew9 ?_
      refine G.cvi X kX7_count lL_179 dL_law_1222 (tX7_count_1 l D cI cW m S M hI.ok) ⟨Nat.le_of_ble_eq_true rfl, Nat.le_of_ble_eq_true rfl⟩ ⟨Nat.le_of_ble_eq_true rfl, Nat.le_of_ble_eq_true rfl⟩ [21] rfl ⟨rfl, rfl⟩ rfl rfl 21 0 rfl rfl rfl rfl (Nat.le_of_ble_eq_true rfl) (ff_cons (ml_fst _ _ _ _ _ _) (ff_nil)) (ws' := [xl xx xn xt xk xe xo xv xc xr cI (m_hi M, m_rf M), wl xn cI S, wl xt cI T1, wl xk cI K1, tl xe cI (m_q M), ol xo xp cI qo, wl xp cI T2, al xv xq cI qa, wl xq cI T3, cl xc xs xw cW qc, wl xs cI T4, wl (xw 0) cI V0, wl (xw 1) cI V1, wl (xw 2) cI V2, wl (xw 3) cI V3, wl (xw 4) cI V4, wl (xw 5) cI V5, wl (xw 6) cI V6, wl (xw 7) cI V7, rl xr xu cI (m_rw M, m_rn M), wl xu cI T5, ml m cI S M]) rfl ?_
      refine G.c_eq X (a := (nI (s_th S))) (b := (nI (s_th S))) dL_law_1225 (fun h1225 => ?_) (fun h1225 => absurd (rfl) h1225)
      exact kend S M T1 K1 qo T2 qa T3 qc T4 V0 V1 V2 V3 V4 V5 V6 V7 T5 hI
    · refine G.al X dL_law_1207 2 rfl ?_
      refine G.al X dL_law_1208 3 rfl ?_
      refine G.il X dL_law_1209 0 rfl ?_
      refine G.pu X dL_law_1210 ?_
      refine G.nadd X (a := i) (b := 1) dL_law_1211 ?_
      refine G.sld X hX (i := i + 1) dL_law_1212 (by omega) (by omega) ?_
      refine G.top (b := 2) ew9 ?_
      refine G.cvi X kX6_count lL_176 dL_law_1213 (tX6_count_2 l D cI cW xx xn xt xk xe xo xv xc xr (m_hi M, m_rf M) S (m_q M) xu (m_rw M, m_rn M) hI.ok) ⟨Nat.le_of_ble_eq_true rfl, Nat.le_of_ble_eq_true rfl⟩ ⟨Nat.le_of_ble_eq_true rfl, Nat.le_of_ble_eq_true rfl⟩ [0, 1, 4, 19] rfl ⟨rfl, rfl⟩ rfl rfl 0 0 rfl rfl rfl rfl (Nat.le_of_ble_eq_true rfl) (ff_cons (xl_fst _ _ _ _ _ _ _ _ _ _ _ _) (ff_cons (wl_fst _ _ _ _) (ff_cons (tl_fst _ _ _ _) (ff_cons (rl_fst _ _ _ _ _) (ff_nil))))) (ws' := [xl xx xn xt xk xe xo xv xc xr cI (m_hi M, m_rf M), wl xn cI S, wl xt cI T1, wl xk cI K1, tl xe cI (m_q M), ol xo xp cI qo, wl xp cI T2, al xv xq cI qa, wl xq cI T3, cl xc xs xw cW qc, wl xs cI T4, wl (xw 0) cI V0, wl (xw 1) cI V1, wl (xw 2) cI V2, wl (xw 3) cI V3, wl (xw 4) cI V4, wl (xw 5) cI V5, wl (xw 6) cI V6, wl (xw 7) cI V7, rl xr xu cI (m_rw M, m_rn M), wl xu cI T5, ml m cI S M]) rfl ?_
      refine G.al X dL_law_1216 1 rfl ?_
      refine G.al X dL_law_1217 3 rfl ?_
      refine G.il X dL_law_1218 0 rfl ?_
      refine G.pu X dL_law_1219 ?_
      refine G.nadd X (a := i) (b := 1) dL_law_1220 ?_
      refine G.sld X hX (i := i + 1) dL_law_1221 (by omega) (by omega) ?_
      refine G.top (b := 2) ew9 ?_
      refine G.cvi X kX7_count lL_179 dL_law_1222 (tX7_count_2 l D cI cW m S M hI.ok) ⟨Nat.le_of_ble_eq_true rfl, Nat.le_of_ble_eq_true rfl⟩ ⟨Nat.le_of_ble_eq_true rfl, Nat.le_of_ble_eq_true rfl⟩ [21] rfl ⟨rfl, rfl⟩ rfl rfl 21 0 rfl rfl rfl rfl (Nat.le_of_ble_eq_true rfl) (ff_cons (ml_fst _ _ _ _ _ _) (ff_nil)) (ws' := [xl xx xn xt xk xe xo xv xc xr cI (m_hi M, m_rf M), wl xn cI S, wl xt cI T1, wl xk cI K1, tl xe cI (m_q M), ol xo xp cI qo, wl xp cI T2, al xv xq cI qa, wl xq cI T3, cl xc xs xw cW qc, wl xs cI T4, wl (xw 0) cI V0, wl (xw 1) cI V1, wl (xw 2) cI V2, wl (xw 3) cI V3, wl (xw 4) cI V4, wl (xw 5) cI V5, wl (xw 6) cI V6, wl (xw 7) cI V7, rl xr xu cI (m_rw M, m_rn M), wl xu cI T5, ml m cI S M]) rfl ?_
      refine G.c_eq X (a := (s_da S)) (b := (s_da S)) dL_law_1225 (fun h1225 => ?_) (fun h1225 => absurd (rfl) h1225)
      exact kend S M T1 K1 qo T2 qa T3 qc T4 V0 V1 V2 V3 V4 V5 V6 V7 T5 hI
    · refine G.al X dL_law_1207 2 rfl ?_
      refine G.al X dL_law_1208 3 rfl ?_
      refine G.il X dL_law_1209 0 rfl ?_
      refine G.pu X dL_law_1210 ?_
      refine G.nadd X (a := i) (b := 1) dL_law_1211 ?_
      refine G.sld X hX (i := i + 1) dL_law_1212 (by omega) (by omega) ?_
      refine G.top (b := 3) ew9 ?_
      refine G.cvi X kX6_count lL_176 dL_law_1213 (tX6_count_3 l D cI cW xx xn xt xk xe xo xv xc xr (m_hi M, m_rf M) S (m_q M) xu (m_rw M, m_rn M) hI.ok) ⟨Nat.le_of_ble_eq_true rfl, Nat.le_of_ble_eq_true rfl⟩ ⟨Nat.le_of_ble_eq_true rfl, Nat.le_of_ble_eq_true rfl⟩ [0, 1, 4, 19] rfl ⟨rfl, rfl⟩ rfl rfl 0 0 rfl rfl rfl rfl (Nat.le_of_ble_eq_true rfl) (ff_cons (xl_fst _ _ _ _ _ _ _ _ _ _ _ _) (ff_cons (wl_fst _ _ _ _) (ff_cons (tl_fst _ _ _ _) (ff_cons (rl_fst _ _ _ _ _) (ff_nil))))) (ws' := [xl xx xn xt xk xe xo xv xc xr cI (m_hi M, m_rf M), wl xn cI S, wl xt cI T1, wl xk cI K1, tl xe cI (m_q M), ol xo xp cI qo, wl xp cI T2, al xv xq cI qa, wl xq cI T3, cl xc xs xw cW qc, wl xs cI T4, wl (xw 0) cI V0, wl (xw 1) cI V1, wl (xw 2) cI V2, wl (xw 3) cI V3, wl (xw 4) cI V4, wl (xw 5) cI V5, wl (xw 6) cI V6, wl (xw 7) cI V7, rl xr xu cI (m_rw M, m_rn M), wl xu cI T5, ml m cI S M]) rfl ?_
      refine G.al X dL_law_1216 1 rfl ?_
      refine G.al X dL_law_1217 3 rfl ?_
      refine G.il X dL_law_1218 0 rfl ?_
      refine G.pu X dL_law_1219 ?_
      refine G.nadd X (a := i) (b := 1) dL_law_1220 ?_
      refine G.sld X hX (i := i + 1) dL_law_1221 (by omega) (by omega) ?_
      refine G.top (b := 3) ew9 ?_
      refine G.cvi X kX7_count lL_179 dL_law_1222 (tX7_count_3 l D cI cW m S M hI.ok) ⟨Nat.le_of_ble_eq_true rfl, Nat.le_of_ble_eq_true rfl⟩ ⟨Nat.le_of_ble_eq_true rfl, Nat.le_of_ble_eq_true rfl⟩ [21] rfl ⟨rfl, rfl⟩ rfl rfl 21 0 rfl rfl rfl rfl (Nat.le_of_ble_eq_true rfl) (ff_cons (ml_fst _ _ _ _ _ _) (ff_nil)) (ws' := [xl xx xn xt xk xe xo xv xc xr cI (m_hi M, m_rf M), wl xn cI S, wl xt cI T1, wl xk cI K1, tl xe cI (m_q M), ol xo xp cI qo, wl xp cI T2, al xv xq cI qa, wl xq cI T3, cl xc xs xw cW qc, wl xs cI T4, wl (xw 0) cI V0, wl (xw 1) cI V1, wl (xw 2) cI V2, wl (xw 3) cI V3, wl (xw 4) cI V4, wl (xw 5) cI V5, wl (xw 6) cI V6, wl (xw 7) cI V7, rl xr xu cI (m_rw M, m_rn M), wl xu cI T5, ml m cI S M]) rfl ?_
      refine G.c_eq X (a := (askb S (s_th S))) (b := (askb S (s_th S))) dL_law_1225 (fun h1225 => ?_) (fun h1225 => absurd (rfl) h1225)
      exact kend S M T1 K1 qo T2 qa T3 qc T4 V0 V1 V2 V3 V4 V5 V6 V7 T5 hI
    · refine G.al X dL_law_1207 2 rfl ?_
      refine G.al X dL_law_1208 3 rfl ?_
      refine G.il X dL_law_1209 0 rfl ?_
      refine G.pu X dL_law_1210 ?_
      refine G.nadd X (a := i) (b := 1) dL_law_1211 ?_
      refine G.sld X hX (i := i + 1) dL_law_1212 (by omega) (by omega) ?_
      refine G.top (b := 4) ew9 ?_
      refine G.cvi X kX6_count lL_176 dL_law_1213 (tX6_count_4 l D cI cW xx xn xt xk xe xo xv xc xr (m_hi M, m_rf M) S (m_q M) xu (m_rw M, m_rn M) hI.ok) ⟨Nat.le_of_ble_eq_true rfl, Nat.le_of_ble_eq_true rfl⟩ ⟨Nat.le_of_ble_eq_true rfl, Nat.le_of_ble_eq_true rfl⟩ [0, 1, 4, 19] rfl ⟨rfl, rfl⟩ rfl rfl 0 0 rfl rfl rfl rfl (Nat.le_of_ble_eq_true rfl) (ff_cons (xl_fst _ _ _ _ _ _ _ _ _ _ _ _) (ff_cons (wl_fst _ _ _ _) (ff_cons (tl_fst _ _ _ _) (ff_cons (rl_fst _ _ _ _ _) (ff_nil))))) (ws' := [xl xx xn xt xk xe xo xv xc xr cI (m_hi M, m_rf M), wl xn cI S, wl xt cI T1, wl xk cI K1, tl xe cI (m_q M), ol xo xp cI qo, wl xp cI T2, al xv xq cI qa, wl xq cI T3, cl xc xs xw cW qc, wl xs cI T4, wl (xw 0) cI V0, wl (xw 1) cI V1, wl (xw 2) cI V2, wl (xw 3) cI V3, wl (xw 4) cI V4, wl (xw 5) cI V5, wl (xw 6) cI V6, wl (xw 7) cI V7, rl xr xu cI (m_rw M, m_rn M), wl xu cI T5, ml m cI S M]) rfl ?_
      refine G.al X dL_law_1216 1 rfl ?_
      refine G.al X dL_law_1217 3 rfl ?_
      refine G.il X dL_law_1218 0 rfl ?_
      refine G.pu X dL_law_1219 ?_
      refine G.nadd X (a := i) (b := 1) dL_law_1220 ?_
      refine G.sld X hX (i := i + 1) dL_law_1221 (by omega) (by omega) ?_
      refine G.top (b := 4) ew9 ?_
      refine G.cvi X kX7_count lL_179 dL_law_1222 (tX7_count_4 l D cI cW m S M hI.ok) ⟨Nat.le_of_ble_eq_true rfl, Nat.le_of_ble_eq_true rfl⟩ ⟨Nat.le_of_ble_eq_true rfl, Nat.le_of_ble_eq_true rfl⟩ [21] rfl ⟨rfl, rfl⟩ rfl rfl 21 0 rfl rfl rfl rfl (Nat.le_of_ble_eq_true rfl) (ff_cons (ml_fst _ _ _ _ _ _) (ff_nil)) (ws' := [xl xx xn xt xk xe xo xv xc xr cI (m_hi M, m_rf M), wl xn cI S, wl xt cI T1, wl xk cI K1, tl xe cI (m_q M), ol xo xp cI qo, wl xp cI T2, al xv xq cI qa, wl xq cI T3, cl xc xs xw cW qc, wl xs cI T4, wl (xw 0) cI V0, wl (xw 1) cI V1, wl (xw 2) cI V2, wl (xw 3) cI V3, wl (xw 4) cI V4, wl (xw 5) cI V5, wl (xw 6) cI V6, wl (xw 7) cI V7, rl xr xu cI (m_rw M, m_rn M), wl xu cI T5, ml m cI S M]) rfl ?_
      refine G.c_eq X (a := (sumf (s_le S) (s_th S))) (b := (sumf (s_le S) (s_th S))) dL_law_1225 (fun h1225 => ?_) (fun h1225 => absurd (rfl) h1225)
      exact kend S M T1 K1 qo T2 qa T3 qc T4 V0 V1 V2 V3 V4 V5 V6 V7 T5 hI
    · refine G.al X dL_law_1207 2 rfl ?_
      refine G.al X dL_law_1208 3 rfl ?_
      refine G.il X dL_law_1209 0 rfl ?_
      refine G.pu X dL_law_1210 ?_
      refine G.nadd X (a := i) (b := 1) dL_law_1211 ?_
      refine G.sld X hX (i := i + 1) dL_law_1212 (by omega) (by omega) ?_
      refine G.top (b := 5) ew9 ?_
      refine G.cvi X kX6_count lL_176 dL_law_1213 (tX6_count_5 l D cI cW xx xn xt xk xe xo xv xc xr (m_hi M, m_rf M) S (m_q M) xu (m_rw M, m_rn M) hI.ok) ⟨Nat.le_of_ble_eq_true rfl, Nat.le_of_ble_eq_true rfl⟩ ⟨Nat.le_of_ble_eq_true rfl, Nat.le_of_ble_eq_true rfl⟩ [0, 1, 4, 19] rfl ⟨rfl, rfl⟩ rfl rfl 0 0 rfl rfl rfl rfl (Nat.le_of_ble_eq_true rfl) (ff_cons (xl_fst _ _ _ _ _ _ _ _ _ _ _ _) (ff_cons (wl_fst _ _ _ _) (ff_cons (tl_fst _ _ _ _) (ff_cons (rl_fst _ _ _ _ _) (ff_nil))))) (ws' := [xl xx xn xt xk xe xo xv xc xr cI (m_hi M, m_rf M), wl xn cI S, wl xt cI T1, wl xk cI K1, tl xe cI (m_q M), ol xo xp cI qo, wl xp cI T2, al xv xq cI qa, wl xq cI T3, cl xc xs xw cW qc, wl xs cI T4, wl (xw 0) cI V0, wl (xw 1) cI V1, wl (xw 2) cI V2, wl (xw 3) cI V3, wl (xw 4) cI V4, wl (xw 5) cI V5, wl (xw 6) cI V6, wl (xw 7) cI V7, rl xr xu cI (m_rw M, m_rn M), wl xu cI T5, ml m cI S M]) rfl ?_
      refine G.al X dL_law_1216 1 rfl ?_
      refine G.al X dL_law_1217 3 rfl ?_
      refine G.il X dL_law_1218 0 rfl ?_
      refine G.pu X dL_law_1219 ?_
      refine G.nadd X (a := i) (b := 1) dL_law_1220 ?_
      refine G.sld X hX (i := i + 1) dL_law_1221 (by omega) (by omega) ?_
      refine G.top (b := 5) ew9 ?_
      refine G.cvi X kX7_count lL_179 dL_law_1222 (tX7_count_5 l D cI cW m S M hI.ok) ⟨Nat.le_of_ble_eq_true rfl, Nat.le_of_ble_eq_true rfl⟩ ⟨Nat.le_of_ble_eq_true rfl, Nat.le_of_ble_eq_true rfl⟩ [21] rfl ⟨rfl, rfl⟩ rfl rfl 21 0 rfl rfl rfl rfl (Nat.le_of_ble_eq_true rfl) (ff_cons (ml_fst _ _ _ _ _ _) (ff_nil)) (ws' := [xl xx xn xt xk xe xo xv xc xr cI (m_hi M, m_rf M), wl xn cI S, wl xt cI T1, wl xk cI K1, tl xe cI (m_q M), ol xo xp cI qo, wl xp cI T2, al xv xq cI qa, wl xq cI T3, cl xc xs xw cW qc, wl xs cI T4, wl (xw 0) cI V0, wl (xw 1) cI V1, wl (xw 2) cI V2, wl (xw 3) cI V3, wl (xw 4) cI V4, wl (xw 5) cI V5, wl (xw 6) cI V6, wl (xw 7) cI V7, rl xr xu cI (m_rw M, m_rn M), wl xu cI T5, ml m cI S M]) rfl ?_
      refine G.c_eq X (a := (s_dr S)) (b := (s_dr S)) dL_law_1225 (fun h1225 => ?_) (fun h1225 => absurd (rfl) h1225)
      exact kend S M T1 K1 qo T2 qa T3 qc T4 V0 V1 V2 V3 V4 V5 V6 V7 T5 hI
    · refine G.al X dL_law_1207 2 rfl ?_
      refine G.al X dL_law_1208 3 rfl ?_
      refine G.il X dL_law_1209 0 rfl ?_
      refine G.pu X dL_law_1210 ?_
      refine G.nadd X (a := i) (b := 1) dL_law_1211 ?_
      refine G.sld X hX (i := i + 1) dL_law_1212 (by omega) (by omega) ?_
      refine G.top (b := 6) ew9 ?_
      refine G.cvi X kX6_count lL_176 dL_law_1213 (tX6_count_6 l D cI cW xx xn xt xk xe xo xv xc xr (m_hi M, m_rf M) S (m_q M) xu (m_rw M, m_rn M) hI.ok) ⟨Nat.le_of_ble_eq_true rfl, Nat.le_of_ble_eq_true rfl⟩ ⟨Nat.le_of_ble_eq_true rfl, Nat.le_of_ble_eq_true rfl⟩ [0, 1, 4, 19] rfl ⟨rfl, rfl⟩ rfl rfl 0 0 rfl rfl rfl rfl (Nat.le_of_ble_eq_true rfl) (ff_cons (xl_fst _ _ _ _ _ _ _ _ _ _ _ _) (ff_cons (wl_fst _ _ _ _) (ff_cons (tl_fst _ _ _ _) (ff_cons (rl_fst _ _ _ _ _) (ff_nil))))) (ws' := [xl xx xn xt xk xe xo xv xc xr cI (m_hi M, m_rf M), wl xn cI S, wl xt cI T1, wl xk cI K1, tl xe cI (m_q M), ol xo xp cI qo, wl xp cI T2, al xv xq cI qa, wl xq cI T3, cl xc xs xw cW qc, wl xs cI T4, wl (xw 0) cI V0, wl (xw 1) cI V1, wl (xw 2) cI V2, wl (xw 3) cI V3, wl (xw 4) cI V4, wl (xw 5) cI V5, wl (xw 6) cI V6, wl (xw 7) cI V7, rl xr xu cI (m_rw M, m_rn M), wl xu cI T5, ml m cI S M]) rfl ?_
      refine G.al X dL_law_1216 1 rfl ?_
      refine G.al X dL_law_1217 3 rfl ?_
      refine G.il X dL_law_1218 0 rfl ?_
      refine G.pu X dL_law_1219 ?_
      refine G.nadd X (a := i) (b := 1) dL_law_1220 ?_
      refine G.sld X hX (i := i + 1) dL_law_1221 (by omega) (by omega) ?_
      refine G.top (b := 6) ew9 ?_
      refine G.cvi X kX7_count lL_179 dL_law_1222 (tX7_count_6 l D cI cW m S M hI.ok) ⟨Nat.le_of_ble_eq_true rfl, Nat.le_of_ble_eq_true rfl⟩ ⟨Nat.le_of_ble_eq_true rfl, Nat.le_of_ble_eq_true rfl⟩ [21] rfl ⟨rfl, rfl⟩ rfl rfl 21 0 rfl rfl rfl rfl (Nat.le_of_ble_eq_true rfl) (ff_cons (ml_fst _ _ _ _ _ _) (ff_nil)) (ws' := [xl xx xn xt xk xe xo xv xc xr cI (m_hi M, m_rf M), wl xn cI S, wl xt cI T1, wl xk cI K1, tl xe cI (m_q M), ol xo xp cI qo, wl xp cI T2, al xv xq cI qa, wl xq cI T3, cl xc xs xw cW qc, wl xs cI T4, wl (xw 0) cI V0, wl (xw 1) cI V1, wl (xw 2) cI V2, wl (xw 3) cI V3, wl (xw 4) cI V4, wl (xw 5) cI V5, wl (xw 6) cI V6, wl (xw 7) cI V7, rl xr xu cI (m_rw M, m_rn M), wl xu cI T5, ml m cI S M]) rfl ?_
      refine G.c_eq X (a := (nI (q_n (m_rw M, m_rn M)))) (b := (nI (m_rn M))) dL_law_1225 (fun h1225 => ?_) (fun h1225 => absurd (rfl) h1225)
      exact kend S M T1 K1 qo T2 qa T3 qc T4 V0 V1 V2 V3 V4 V5 V6 V7 T5 hI
    · refine G.al X dL_law_1207 2 rfl ?_
      refine G.al X dL_law_1208 3 rfl ?_
      refine G.il X dL_law_1209 0 rfl ?_
      refine G.pu X dL_law_1210 ?_
      refine G.nadd X (a := i) (b := 1) dL_law_1211 ?_
      refine G.sld X hX (i := i + 1) dL_law_1212 (by omega) (by omega) ?_
      refine G.top (b := 7) ew9 ?_
      refine G.cvi X kX6_count lL_176 dL_law_1213 (tX6_count_7 l D cI cW xx xn xt xk xe xo xv xc xr (m_hi M, m_rf M) S (m_q M) xu (m_rw M, m_rn M) hI.ok) ⟨Nat.le_of_ble_eq_true rfl, Nat.le_of_ble_eq_true rfl⟩ ⟨Nat.le_of_ble_eq_true rfl, Nat.le_of_ble_eq_true rfl⟩ [0, 1, 4, 19] rfl ⟨rfl, rfl⟩ rfl rfl 0 0 rfl rfl rfl rfl (Nat.le_of_ble_eq_true rfl) (ff_cons (xl_fst _ _ _ _ _ _ _ _ _ _ _ _) (ff_cons (wl_fst _ _ _ _) (ff_cons (tl_fst _ _ _ _) (ff_cons (rl_fst _ _ _ _ _) (ff_nil))))) (ws' := [xl xx xn xt xk xe xo xv xc xr cI (m_hi M, m_rf M), wl xn cI S, wl xt cI T1, wl xk cI K1, tl xe cI (m_q M), ol xo xp cI qo, wl xp cI T2, al xv xq cI qa, wl xq cI T3, cl xc xs xw cW qc, wl xs cI T4, wl (xw 0) cI V0, wl (xw 1) cI V1, wl (xw 2) cI V2, wl (xw 3) cI V3, wl (xw 4) cI V4, wl (xw 5) cI V5, wl (xw 6) cI V6, wl (xw 7) cI V7, rl xr xu cI (m_rw M, m_rn M), wl xu cI T5, ml m cI S M]) rfl ?_
      refine G.al X dL_law_1216 1 rfl ?_
      refine G.al X dL_law_1217 3 rfl ?_
      refine G.il X dL_law_1218 0 rfl ?_
      refine G.pu X dL_law_1219 ?_
      refine G.nadd X (a := i) (b := 1) dL_law_1220 ?_
      refine G.sld X hX (i := i + 1) dL_law_1221 (by omega) (by omega) ?_
      refine G.top (b := 7) ew9 ?_
      refine G.cvi X kX7_count lL_179 dL_law_1222 (tX7_count_7 l D cI cW m S M hI.ok) ⟨Nat.le_of_ble_eq_true rfl, Nat.le_of_ble_eq_true rfl⟩ ⟨Nat.le_of_ble_eq_true rfl, Nat.le_of_ble_eq_true rfl⟩ [21] rfl ⟨rfl, rfl⟩ rfl rfl 21 0 rfl rfl rfl rfl (Nat.le_of_ble_eq_true rfl) (ff_cons (ml_fst _ _ _ _ _ _) (ff_nil)) (ws' := [xl xx xn xt xk xe xo xv xc xr cI (m_hi M, m_rf M), wl xn cI S, wl xt cI T1, wl xk cI K1, tl xe cI (m_q M), ol xo xp cI qo, wl xp cI T2, al xv xq cI qa, wl xq cI T3, cl xc xs xw cW qc, wl xs cI T4, wl (xw 0) cI V0, wl (xw 1) cI V1, wl (xw 2) cI V2, wl (xw 3) cI V3, wl (xw 4) cI V4, wl (xw 5) cI V5, wl (xw 6) cI V6, wl (xw 7) cI V7, rl xr xu cI (m_rw M, m_rn M), wl xu cI T5, ml m cI S M]) rfl ?_
      refine G.c_eq X (a := (nI (q_n (m_q M)))) (b := (nI (m_tn M))) dL_law_1225 (fun h1225 => ?_) (fun h1225 => absurd (rfl) h1225)
      exact kend S M T1 K1 qo T2 qa T3 qc T4 V0 V1 V2 V3 V4 V5 V6 V7 T5 hI
  · replace zw : z_in (sc (i + 1)) 8 = false := by simpa using zw
    by_cases cwl : sc (i + 1) < 11
    · refine G.al X dL_law_1207 2 rfl ?_
      refine G.al X dL_law_1208 3 rfl ?_
      refine G.il X dL_law_1209 0 rfl ?_
      refine G.pu X dL_law_1210 ?_
      refine G.nadd X (a := i) (b := 1) dL_law_1211 ?_
      refine G.sld X hX (i := i + 1) dL_law_1212 (by omega) (by omega) ?_
      refine G.cvi X kX6_count lL_176 dL_law_1213 (tX6_count_no l D cI cW xx xn xt xk xe xo xv xc xr (m_hi M, m_rf M) (sc (i + 1)) zw (Or.inl cwl)) ⟨Nat.le_of_ble_eq_true rfl, Nat.le_of_ble_eq_true rfl⟩ ⟨Nat.le_of_ble_eq_true rfl, Nat.le_of_ble_eq_true rfl⟩ [0] rfl ⟨rfl, rfl⟩ rfl rfl 0 0 rfl rfl rfl rfl (Nat.le_of_ble_eq_true rfl) (ff_cons (xl_fst _ _ _ _ _ _ _ _ _ _ _ _) (ff_nil)) (ws' := [xl xx xn xt xk xe xo xv xc xr cI (m_hi M, m_rf M), wl xn cI S, wl xt cI T1, wl xk cI K1, tl xe cI (m_q M), ol xo xp cI qo, wl xp cI T2, al xv xq cI qa, wl xq cI T3, cl xc xs xw cW qc, wl xs cI T4, wl (xw 0) cI V0, wl (xw 1) cI V1, wl (xw 2) cI V2, wl (xw 3) cI V3, wl (xw 4) cI V4, wl (xw 5) cI V5, wl (xw 6) cI V6, wl (xw 7) cI V7, rl xr xu cI (m_rw M, m_rn M), wl xu cI T5, ml m cI S M]) rfl ?_
      refine G.al X dL_law_1216 1 rfl ?_
      refine G.al X dL_law_1217 3 rfl ?_
      refine G.il X dL_law_1218 0 rfl ?_
      refine G.pu X dL_law_1219 ?_
      refine G.nadd X (a := i) (b := 1) dL_law_1220 ?_
      refine G.sld X hX (i := i + 1) dL_law_1221 (by omega) (by omega) ?_
      refine G.cvi X kX7_count lL_179 dL_law_1222 (tX7_count_no l D cI cW m S M (sc (i + 1)) zw (Or.inl cwl)) ⟨Nat.le_of_ble_eq_true rfl, Nat.le_of_ble_eq_true rfl⟩ ⟨Nat.le_of_ble_eq_true rfl, Nat.le_of_ble_eq_true rfl⟩ [21] rfl ⟨rfl, rfl⟩ rfl rfl 21 0 rfl rfl rfl rfl (Nat.le_of_ble_eq_true rfl) (ff_cons (ml_fst _ _ _ _ _ _) (ff_nil)) (ws' := [xl xx xn xt xk xe xo xv xc xr cI (m_hi M, m_rf M), wl xn cI S, wl xt cI T1, wl xk cI K1, tl xe cI (m_q M), ol xo xp cI qo, wl xp cI T2, al xv xq cI qa, wl xq cI T3, cl xc xs xw cW qc, wl xs cI T4, wl (xw 0) cI V0, wl (xw 1) cI V1, wl (xw 2) cI V2, wl (xw 3) cI V3, wl (xw 4) cI V4, wl (xw 5) cI V5, wl (xw 6) cI V6, wl (xw 7) cI V7, rl xr xu cI (m_rw M, m_rn M), wl xu cI T5, ml m cI S M]) rfl ?_
      refine G.c_eq X (a := (-9)) (b := (-9)) dL_law_1225 (fun h1225 => ?_) (fun h1225 => absurd (rfl) h1225)
      exact kend S M T1 K1 qo T2 qa T3 qc T4 V0 V1 V2 V3 V4 V5 V6 V7 T5 hI
    · by_cases cwh : 16 < sc (i + 1)
      · refine G.al X dL_law_1207 2 rfl ?_
        refine G.al X dL_law_1208 3 rfl ?_
        refine G.il X dL_law_1209 0 rfl ?_
        refine G.pu X dL_law_1210 ?_
        refine G.nadd X (a := i) (b := 1) dL_law_1211 ?_
        refine G.sld X hX (i := i + 1) dL_law_1212 (by omega) (by omega) ?_
        refine G.cvi X kX6_count lL_176 dL_law_1213 (tX6_count_no l D cI cW xx xn xt xk xe xo xv xc xr (m_hi M, m_rf M) (sc (i + 1)) zw (Or.inr cwh)) ⟨Nat.le_of_ble_eq_true rfl, Nat.le_of_ble_eq_true rfl⟩ ⟨Nat.le_of_ble_eq_true rfl, Nat.le_of_ble_eq_true rfl⟩ [0] rfl ⟨rfl, rfl⟩ rfl rfl 0 0 rfl rfl rfl rfl (Nat.le_of_ble_eq_true rfl) (ff_cons (xl_fst _ _ _ _ _ _ _ _ _ _ _ _) (ff_nil)) (ws' := [xl xx xn xt xk xe xo xv xc xr cI (m_hi M, m_rf M), wl xn cI S, wl xt cI T1, wl xk cI K1, tl xe cI (m_q M), ol xo xp cI qo, wl xp cI T2, al xv xq cI qa, wl xq cI T3, cl xc xs xw cW qc, wl xs cI T4, wl (xw 0) cI V0, wl (xw 1) cI V1, wl (xw 2) cI V2, wl (xw 3) cI V3, wl (xw 4) cI V4, wl (xw 5) cI V5, wl (xw 6) cI V6, wl (xw 7) cI V7, rl xr xu cI (m_rw M, m_rn M), wl xu cI T5, ml m cI S M]) rfl ?_
        refine G.al X dL_law_1216 1 rfl ?_
        refine G.al X dL_law_1217 3 rfl ?_
        refine G.il X dL_law_1218 0 rfl ?_
        refine G.pu X dL_law_1219 ?_
        refine G.nadd X (a := i) (b := 1) dL_law_1220 ?_
        refine G.sld X hX (i := i + 1) dL_law_1221 (by omega) (by omega) ?_
        refine G.cvi X kX7_count lL_179 dL_law_1222 (tX7_count_no l D cI cW m S M (sc (i + 1)) zw (Or.inr cwh)) ⟨Nat.le_of_ble_eq_true rfl, Nat.le_of_ble_eq_true rfl⟩ ⟨Nat.le_of_ble_eq_true rfl, Nat.le_of_ble_eq_true rfl⟩ [21] rfl ⟨rfl, rfl⟩ rfl rfl 21 0 rfl rfl rfl rfl (Nat.le_of_ble_eq_true rfl) (ff_cons (ml_fst _ _ _ _ _ _) (ff_nil)) (ws' := [xl xx xn xt xk xe xo xv xc xr cI (m_hi M, m_rf M), wl xn cI S, wl xt cI T1, wl xk cI K1, tl xe cI (m_q M), ol xo xp cI qo, wl xp cI T2, al xv xq cI qa, wl xq cI T3, cl xc xs xw cW qc, wl xs cI T4, wl (xw 0) cI V0, wl (xw 1) cI V1, wl (xw 2) cI V2, wl (xw 3) cI V3, wl (xw 4) cI V4, wl (xw 5) cI V5, wl (xw 6) cI V6, wl (xw 7) cI V7, rl xr xu cI (m_rw M, m_rn M), wl xu cI T5, ml m cI S M]) rfl ?_
        refine G.c_eq X (a := (-9)) (b := (-9)) dL_law_1225 (fun h1225 => ?_) (fun h1225 => absurd (rfl) h1225)
        exact kend S M T1 K1 qo T2 qa T3 qc T4 V0 V1 V2 V3 V4 V5 V6 V7 T5 hI
      · obtain ⟨w, ⟨hw1, hw2⟩, ew⟩ := n_rng (lo := 11) (hi := 16) (by decide) (by decide) cwl cwh
        refine G.al X dL_law_1207 2 rfl ?_
        refine G.al X dL_law_1208 3 rfl ?_
        refine G.il X dL_law_1209 0 rfl ?_
        refine G.pu X dL_law_1210 ?_
        refine G.nadd X (a := i) (b := 1) dL_law_1211 ?_
        refine G.sld X hX (i := i + 1) dL_law_1212 (by omega) (by omega) ?_
        refine G.top (b := nI w) ew ?_
        refine G.cvi X kX6_count lL_176 dL_law_1213 (tX6_count_ref l D cI cW xx xn xt xk xe xo xv xc xr (m_hi M, m_rf M) w hw1 hw2) ⟨Nat.le_of_ble_eq_true rfl, Nat.le_of_ble_eq_true rfl⟩ ⟨Nat.le_of_ble_eq_true rfl, Nat.le_of_ble_eq_true rfl⟩ [0] rfl ⟨rfl, rfl⟩ rfl rfl 0 0 rfl rfl rfl rfl (Nat.le_of_ble_eq_true rfl) (ff_cons (xl_fst _ _ _ _ _ _ _ _ _ _ _ _) (ff_nil)) (ws' := [xl xx xn xt xk xe xo xv xc xr cI (m_hi M, m_rf M), wl xn cI S, wl xt cI T1, wl xk cI K1, tl xe cI (m_q M), ol xo xp cI qo, wl xp cI T2, al xv xq cI qa, wl xq cI T3, cl xc xs xw cW qc, wl xs cI T4, wl (xw 0) cI V0, wl (xw 1) cI V1, wl (xw 2) cI V2, wl (xw 3) cI V3, wl (xw 4) cI V4, wl (xw 5) cI V5, wl (xw 6) cI V6, wl (xw 7) cI V7, rl xr xu cI (m_rw M, m_rn M), wl xu cI T5, ml m cI S M]) rfl ?_
        refine G.al X dL_law_1216 1 rfl ?_
        refine G.al X dL_law_1217 3 rfl ?_
        refine G.il X dL_law_1218 0 rfl ?_
        refine G.pu X dL_law_1219 ?_
        refine G.nadd X (a := i) (b := 1) dL_law_1220 ?_
        refine G.sld X hX (i := i + 1) dL_law_1221 (by omega) (by omega) ?_
        refine G.top (b := nI w) ew ?_
        refine G.cvi X kX7_count lL_179 dL_law_1222 (tX7_count_ref l D cI cW m S M w hw1 hw2) ⟨Nat.le_of_ble_eq_true rfl, Nat.le_of_ble_eq_true rfl⟩ ⟨Nat.le_of_ble_eq_true rfl, Nat.le_of_ble_eq_true rfl⟩ [21] rfl ⟨rfl, rfl⟩ rfl rfl 21 0 rfl rfl rfl rfl (Nat.le_of_ble_eq_true rfl) (ff_cons (ml_fst _ _ _ _ _ _) (ff_nil)) (ws' := [xl xx xn xt xk xe xo xv xc xr cI (m_hi M, m_rf M), wl xn cI S, wl xt cI T1, wl xk cI K1, tl xe cI (m_q M), ol xo xp cI qo, wl xp cI T2, al xv xq cI qa, wl xq cI T3, cl xc xs xw cW qc, wl xs cI T4, wl (xw 0) cI V0, wl (xw 1) cI V1, wl (xw 2) cI V2, wl (xw 3) cI V3, wl (xw 4) cI V4, wl (xw 5) cI V5, wl (xw 6) cI V6, wl (xw 7) cI V7, rl xr xu cI (m_rw M, m_rn M), wl xu cI T5, ml m cI S M]) rfl ?_
        refine G.c_eq X (a := (x_f (m_hi M, m_rf M) (w - 10))) (b := (m_rf M (w - 10))) dL_law_1225 (fun h1225 => ?_) (fun h1225 => absurd (rfl) h1225)
        exact kend S M T1 K1 qo T2 qa T3 qc T4 V0 V1 V2 V3 V4 V5 V6 V7 T5 hI
