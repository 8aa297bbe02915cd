theorem n_rng {v : Int32} {lo hi : Nat} (hlo : lo < 2 ^ 31) (hhi : hi < 2 ^ 31) (h1 : ¬ v < nI lo) (h2 : ¬ nI hi < v) : ∃ j, (lo ≤ j ∧ j ≤ hi) ∧ v = nI j := by
  have a1 : ¬ v.toInt < lo := fun q => h1 (Int32.lt_iff_toInt_lt.mpr (by rw [nI_toInt hlo]; exact q))
  have a2 : ¬ (hi : Int) < v.toInt := fun q => h2 (Int32.lt_iff_toInt_lt.mpr (by rw [nI_toInt hhi]; exact q))
  refine ⟨v.toInt.toNat, by omega, Int32.toInt_inj.mp ?_⟩
  rw [nI_toInt (by omega)]
  omega
set_option maxRecDepth 20000 in
theorem law_0 {l : Launch} {D : va_G} {cI cW : ClassId} {x : GC} (X : GOK x l D cI cW RL cL_law 4 room_1) {b L i : Nat} {sc : Nat → Int32} (hX : GX x b L sc) (hL : L ≤ 2560) (hi : i + 5 ≤ L) {xx xn xt xk xe xo xp xv xq xc xs : Nat → Nat} {xw : Nat → Nat → Nat} {xr xu m : Nat → Nat} (kend : ∀ (S : WS) (M : MS) (T1 : WS) (K1 : WS) (qo : FN) (T2 : WS) (qa : FN × FN) (T3 : WS) (qc : Int32 × Int32 × Int32) (T4 : WS) (V0 : WS) (V1 : WS) (V2 : WS) (V3 : WS) (V4 : WS) (V5 : WS) (V6 : WS) (V7 : WS) (T5 : WS), IV S M K1 → G x 165 1897 (LW cI cW xx xn xt xk xe xo xp xv xq xc xs xw xr xu m S M T1 K1 qo T2 qa T3 qc T4 V0 V1 V2 V3 V4 V5 V6 V7 T5) 1230 [(3, .int (nI i)), (2, .ref (m 0)), (1, .ref (xx 0)), (0, .ref b)] []) (S : WS) (M : MS) (T1 : WS) (K1 : WS) (qo : FN) (T2 : WS) (qa : FN × FN) (T3 : WS) (qc : Int32 × Int32 × Int32) (T4 : WS) (V0 : WS) (V1 : WS) (V2 : WS) (V3 : WS) (V4 : WS) (V5 : WS) (V6 : WS) (V7 : WS) (T5 : WS) (hI : IV S M K1) : G x 165 1897 (LW cI cW xx xn xt xk xe xo xp xv xq xc xs xw xr xu m S M T1 K1 qo T2 qa T3 qc T4 V0 V1 V2 V3 V4 V5 V6 V7 T5) 208 [(3, .int (nI i)), (2, .ref (m 0)), (1, .ref (xx 0)), (0, .ref b)] [] := by
  show G x 165 1897 ([xl xx xn xt xk xe xo xv xc xr cI (m_hi M, m_rf M), wl xn cI S, wl xt cI T1, wl xk cI K1, tl xe cI (m_q M), ol xo xp cI qo, wl xp cI T2, al xv xq cI qa, wl xq cI T3, cl xc xs xw cW qc, wl xs cI T4, wl (xw 0) cI V0, wl (xw 1) cI V1, wl (xw 2) cI V2, wl (xw 3) cI V3, wl (xw 4) cI V4, wl (xw 5) cI V5, wl (xw 6) cI V6, wl (xw 7) cI V7, rl xr xu cI (m_rw M, m_rn M), wl xu cI T5, ml m cI S M]) 208 [(3, .int (nI i)), (2, .ref (m 0)), (1, .ref (xx 0)), (0, .ref b)] []
  by_cases c1 : sc (i + 1) < 0
  · refine G.al X dL_law_208 2 rfl ?_
    refine G.al X dL_law_209 3 rfl ?_
    refine G.il X dL_law_210 0 rfl ?_
    refine G.pu X dL_law_211 ?_
    refine G.nadd X (a := i) (b := 1) dL_law_212 ?_
    refine G.sld X hX (i := i + 1) dL_law_213 (by omega) (by omega) ?_
    refine G.cvi X kX6_letter lL_13 dL_law_214 (tX6_letter_lo l D cI cW xx xn xt xk xe xo xv xc xr (m_hi M, m_rf M) (sc (i + 1)) (by omega)) ⟨Nat.le_of_ble_eq_true rfl, Nat.le_of_ble_eq_true rfl⟩ ⟨Nat.le_of_ble_eq_true rfl, Nat.le_of_ble_eq_true rfl⟩ [0] rfl ⟨rfl, rfl⟩ rfl rfl 0 0 rfl rfl rfl rfl (Nat.le_of_ble_eq_true rfl) (ff_cons (xl_fst _ _ _ _ _ _ _ _ _ _ _ _) (ff_nil)) (ws' := [xl xx xn xt xk xe xo xv xc xr cI (x_rf (m_hi M, m_rf M) 4), wl xn cI S, wl xt cI T1, wl xk cI K1, tl xe cI (m_q M), ol xo xp cI qo, wl xp cI T2, al xv xq cI qa, wl xq cI T3, cl xc xs xw cW qc, wl xs cI T4, wl (xw 0) cI V0, wl (xw 1) cI V1, wl (xw 2) cI V2, wl (xw 3) cI V3, wl (xw 4) cI V4, wl (xw 5) cI V5, wl (xw 6) cI V6, wl (xw 7) cI V7, rl xr xu cI (m_rw M, m_rn M), wl xu cI T5, ml m cI S M]) rfl ?_
    refine G.al X dL_law_217 1 rfl ?_
    refine G.al X dL_law_218 3 rfl ?_
    refine G.il X dL_law_219 0 rfl ?_
    refine G.pu X dL_law_220 ?_
    refine G.nadd X (a := i) (b := 1) dL_law_221 ?_
    refine G.sld X hX (i := i + 1) dL_law_222 (by omega) (by omega) ?_
    refine G.cvi X kX7_letter lL_17 dL_law_223 (tX7_letter_lo l D cI cW m S M (sc (i + 1)) (by omega)) ⟨Nat.le_of_ble_eq_true rfl, Nat.le_of_ble_eq_true rfl⟩ ⟨Nat.le_of_ble_eq_true rfl, Nat.le_of_ble_eq_true rfl⟩ [21] rfl ⟨rfl, rfl⟩ rfl rfl 21 0 rfl rfl rfl rfl (Nat.le_of_ble_eq_true rfl) (ff_cons (ml_fst _ _ _ _ _ _) (ff_nil)) (ws' := [xl xx xn xt xk xe xo xv xc xr cI (x_rf (m_hi M, m_rf M) 4), wl xn cI S, wl xt cI T1, wl xk cI K1, tl xe cI (m_q M), ol xo xp cI qo, wl xp cI T2, al xv xq cI qa, wl xq cI T3, cl xc xs xw cW qc, wl xs cI T4, wl (xw 0) cI V0, wl (xw 1) cI V1, wl (xw 2) cI V2, wl (xw 3) cI V3, wl (xw 4) cI V4, wl (xw 5) cI V5, wl (xw 6) cI V6, wl (xw 7) cI V7, rl xr xu cI (m_rw M, m_rn M), wl xu cI T5, ml m cI S (m_no M 4)]) rfl ?_
    refine G.c_eq X (a := (-4)) (b := (-4)) dL_law_226 (fun h226 => ?_) (fun h226 => absurd (rfl) h226)
    exact kend S (m_no M 4) T1 K1 qo T2 qa T3 qc T4 V0 V1 V2 V3 V4 V5 V6 V7 T5 (hI.no 4)
  · by_cases c2 : 255 < sc (i + 1)
    · refine G.al X dL_law_208 2 rfl ?_
      refine G.al X dL_law_209 3 rfl ?_
      refine G.il X dL_law_210 0 rfl ?_
      refine G.pu X dL_law_211 ?_
      refine G.nadd X (a := i) (b := 1) dL_law_212 ?_
      refine G.sld X hX (i := i + 1) dL_law_213 (by omega) (by omega) ?_
      refine G.cvi X kX6_letter lL_13 dL_law_214 (tX6_letter_hi l D cI cW xx xn xt xk xe xo xv xc xr (m_hi M, m_rf M) (sc (i + 1)) (by omega) (by omega)) ⟨Nat.le_of_ble_eq_true rfl, Nat.le_of_ble_eq_true rfl⟩ ⟨Nat.le_of_ble_eq_true rfl, Nat.le_of_ble_eq_true rfl⟩ [0] rfl ⟨rfl, rfl⟩ rfl rfl 0 0 rfl rfl rfl rfl (Nat.le_of_ble_eq_true rfl) (ff_cons (xl_fst _ _ _ _ _ _ _ _ _ _ _ _) (ff_nil)) (ws' := [xl xx xn xt xk xe xo xv xc xr cI (x_rf (m_hi M, m_rf M) 6), wl xn cI S, wl xt cI T1, wl xk cI K1, tl xe cI (m_q M), ol xo xp cI qo, wl xp cI T2, al xv xq cI qa, wl xq cI T3, cl xc xs xw cW qc, wl xs cI T4, wl (xw 0) cI V0, wl (xw 1) cI V1, wl (xw 2) cI V2, wl (xw 3) cI V3, wl (xw 4) cI V4, wl (xw 5) cI V5, wl (xw 6) cI V6, wl (xw 7) cI V7, rl xr xu cI (m_rw M, m_rn M), wl xu cI T5, ml m cI S M]) rfl ?_
      refine G.al X dL_law_217 1 rfl ?_
      refine G.al X dL_law_218 3 rfl ?_
      refine G.il X dL_law_219 0 rfl ?_
      refine G.pu X dL_law_220 ?_
      refine G.nadd X (a := i) (b := 1) dL_law_221 ?_
      refine G.sld X hX (i := i + 1) dL_law_222 (by omega) (by omega) ?_
      refine G.cvi X kX7_letter lL_17 dL_law_223 (tX7_letter_hi l D cI cW m S M (sc (i + 1)) (by omega) (by omega)) ⟨Nat.le_of_ble_eq_true rfl, Nat.le_of_ble_eq_true rfl⟩ ⟨Nat.le_of_ble_eq_true rfl, Nat.le_of_ble_eq_true rfl⟩ [21] rfl ⟨rfl, rfl⟩ rfl rfl 21 0 rfl rfl rfl rfl (Nat.le_of_ble_eq_true rfl) (ff_cons (ml_fst _ _ _ _ _ _) (ff_nil)) (ws' := [xl xx xn xt xk xe xo xv xc xr cI (x_rf (m_hi M, m_rf M) 6), wl xn cI S, wl xt cI T1, wl xk cI K1, tl xe cI (m_q M), ol xo xp cI qo, wl xp cI T2, al xv xq cI qa, wl xq cI T3, cl xc xs xw cW qc, wl xs cI T4, wl (xw 0) cI V0, wl (xw 1) cI V1, wl (xw 2) cI V2, wl (xw 3) cI V3, wl (xw 4) cI V4, wl (xw 5) cI V5, wl (xw 6) cI V6, wl (xw 7) cI V7, rl xr xu cI (m_rw M, m_rn M), wl xu cI T5, ml m cI S (m_no M 6)]) rfl ?_
      refine G.c_eq X (a := (-6)) (b := (-6)) dL_law_226 (fun h226 => ?_) (fun h226 => absurd (rfl) h226)
      exact kend S (m_no M 6) T1 K1 qo T2 qa T3 qc T4 V0 V1 V2 V3 V4 V5 V6 V7 T5 (hI.no 6)
    · by_cases c3 : m_tn M < 96
      · refine G.al X dL_law_208 2 rfl ?_
        refine G.al X dL_law_209 3 rfl ?_
        refine G.il X dL_law_210 0 rfl ?_
        refine G.pu X dL_law_211 ?_
        refine G.nadd X (a := i) (b := 1) dL_law_212 ?_
        refine G.sld X hX (i := i + 1) dL_law_213 (by omega) (by omega) ?_
        refine G.cvi X kX6_letter lL_13 dL_law_214 (tX6_letter_ok l D cI cW xx xn xt xk xe xo xv xc xr (m_hi M, m_rf M) (m_q M) (sc (i + 1)) (by omega) (by omega) c3) ⟨Nat.le_of_ble_eq_true rfl, Nat.le_of_ble_eq_true rfl⟩ ⟨Nat.le_of_ble_eq_true rfl, Nat.le_of_ble_eq_true rfl⟩ [0, 4] rfl ⟨rfl, rfl⟩ rfl rfl 0 0 rfl rfl rfl rfl (Nat.le_of_ble_eq_true rfl) (ff_cons (xl_fst _ _ _ _ _ _ _ _ _ _ _ _) (ff_cons (tl_fst _ _ _ _) (ff_nil))) (ws' := [xl xx xn xt xk xe xo xv xc xr cI (m_hi M, m_rf M), wl xn cI S, wl xt cI T1, wl xk cI K1, tl xe cI (upd (q_f (m_q M)) (q_n (m_q M)) (sc (i + 1)), q_n (m_q M) + 1), ol xo xp cI qo, wl xp cI T2, al xv xq cI qa, wl xq cI T3, cl xc xs xw cW qc, wl xs cI T4, wl (xw 0) cI V0, wl (xw 1) cI V1, wl (xw 2) cI V2, wl (xw 3) cI V3, wl (xw 4) cI V4, wl (xw 5) cI V5, wl (xw 6) cI V6, wl (xw 7) cI V7, rl xr xu cI (m_rw M, m_rn M), wl xu cI T5, ml m cI S M]) rfl ?_
        refine G.al X dL_law_217 1 rfl ?_
        refine G.al X dL_law_218 3 rfl ?_
        refine G.il X dL_law_219 0 rfl ?_
        refine G.pu X dL_law_220 ?_
        refine G.nadd X (a := i) (b := 1) dL_law_221 ?_
        refine G.sld X hX (i := i + 1) dL_law_222 (by omega) (by omega) ?_
        refine G.cvi X kX7_letter lL_17 dL_law_223 (tX7_letter_ok l D cI cW m S M (sc (i + 1)) (by omega) (by omega) c3) ⟨Nat.le_of_ble_eq_true rfl, Nat.le_of_ble_eq_true rfl⟩ ⟨Nat.le_of_ble_eq_true rfl, Nat.le_of_ble_eq_true rfl⟩ [21] rfl ⟨rfl, rfl⟩ rfl rfl 21 0 rfl rfl rfl rfl (Nat.le_of_ble_eq_true rfl) (ff_cons (ml_fst _ _ _ _ _ _) (ff_nil)) (ws' := [xl xx xn xt xk xe xo xv xc xr cI (m_hi M, m_rf M), wl xn cI S, wl xt cI T1, wl xk cI K1, tl xe cI (upd (q_f (m_q M)) (q_n (m_q M)) (sc (i + 1)), q_n (m_q M) + 1), ol xo xp cI qo, wl xp cI T2, al xv xq cI qa, wl xq cI T3, cl xc xs xw cW qc, wl xs cI T4, wl (xw 0) cI V0, wl (xw 1) cI V1, wl (xw 2) cI V2, wl (xw 3) cI V3, wl (xw 4) cI V4, wl (xw 5) cI V5, wl (xw 6) cI V6, wl (xw 7) cI V7, rl xr xu cI (m_rw M, m_rn M), wl xu cI T5, ml m cI S (m_txa M (sc (i + 1)))]) rfl ?_
        refine G.n_eq X (a := q_n (m_q M) + 1) (b := m_tn M + 1) (show m_tn M + 1 < 2 ^ 31 by omega) (show m_tn M + 1 < 2 ^ 31 by omega) dL_law_226 (fun h226 => ?_) (fun h226 => absurd (rfl) h226)
        exact kend S (m_txa M (sc (i + 1))) T1 K1 qo T2 qa T3 qc T4 V0 V1 V2 V3 V4 V5 V6 V7 T5 (hI.tx _ c3)
      · refine G.al X dL_law_208 2 rfl ?_
        refine G.al X dL_law_209 3 rfl ?_
        refine G.il X dL_law_210 0 rfl ?_
        refine G.pu X dL_law_211 ?_
        refine G.nadd X (a := i) (b := 1) dL_law_212 ?_
        refine G.sld X hX (i := i + 1) dL_law_213 (by omega) (by omega) ?_
        refine G.cvi X kX6_letter lL_13 dL_law_214 (tX6_letter_full l D cI cW xx xn xt xk xe xo xv xc xr (m_hi M, m_rf M) (m_q M) (sc (i + 1)) (by omega) (by omega) (show m_tn M = 96 by have := hI.tn; omega)) ⟨Nat.le_of_ble_eq_true rfl, Nat.le_of_ble_eq_true rfl⟩ ⟨Nat.le_of_ble_eq_true rfl, Nat.le_of_ble_eq_true rfl⟩ [0, 4] rfl ⟨rfl, rfl⟩ rfl rfl 0 0 rfl rfl rfl rfl (Nat.le_of_ble_eq_true rfl) (ff_cons (xl_fst _ _ _ _ _ _ _ _ _ _ _ _) (ff_cons (tl_fst _ _ _ _) (ff_nil))) (ws' := [xl xx xn xt xk xe xo xv xc xr cI (x_rf (m_hi M, m_rf M) 6), wl xn cI S, wl xt cI T1, wl xk cI K1, tl xe cI (m_q M), ol xo xp cI qo, wl xp cI T2, al xv xq cI qa, wl xq cI T3, cl xc xs xw cW qc, wl xs cI T4, wl (xw 0) cI V0, wl (xw 1) cI V1, wl (xw 2) cI V2, wl (xw 3) cI V3, wl (xw 4) cI V4, wl (xw 5) cI V5, wl (xw 6) cI V6, wl (xw 7) cI V7, rl xr xu cI (m_rw M, m_rn M), wl xu cI T5, ml m cI S M]) rfl ?_
        refine G.al X dL_law_217 1 rfl ?_
        refine G.al X dL_law_218 3 rfl ?_
        refine G.il X dL_law_219 0 rfl ?_
        refine G.pu X dL_law_220 ?_
        refine G.nadd X (a := i) (b := 1) dL_law_221 ?_
        refine G.sld X hX (i := i + 1) dL_law_222 (by omega) (by omega) ?_
        refine G.cvi X kX7_letter lL_17 dL_law_223 (tX7_letter_full l D cI cW m S M (sc (i + 1)) (by omega) (by omega) (show m_tn M = 96 by have := hI.tn; omega)) ⟨Nat.le_of_ble_eq_true rfl, Nat.le_of_ble_eq_true rfl⟩ ⟨Nat.le_of_ble_eq_true rfl, Nat.le_of_ble_eq_true rfl⟩ [21] rfl ⟨rfl, rfl⟩ rfl rfl 21 0 rfl rfl rfl rfl (Nat.le_of_ble_eq_true rfl) (ff_cons (ml_fst _ _ _ _ _ _) (ff_nil)) (ws' := [xl xx xn xt xk xe xo xv xc xr cI (x_rf (m_hi M, m_rf M) 6), wl xn cI S, wl xt cI T1, wl xk cI K1, tl xe cI (m_q M), ol xo xp cI qo, wl xp cI T2, al xv xq cI qa, wl xq cI T3, cl xc xs xw cW qc, wl xs cI T4, wl (xw 0) cI V0, wl (xw 1) cI V1, wl (xw 2) cI V2, wl (xw 3) cI V3, wl (xw 4) cI V4, wl (xw 5) cI V5, wl (xw 6) cI V6, wl (xw 7) cI V7, rl xr xu cI (m_rw M, m_rn M), wl xu cI T5, ml m cI S (m_no M 6)]) rfl ?_
        refine G.c_eq X (a := (-6)) (b := (-6)) dL_law_226 (fun h226 => ?_) (fun h226 => absurd (rfl) h226)
        exact kend S (m_no M 6) T1 K1 qo T2 qa T3 qc T4 V0 V1 V2 V3 V4 V5 V6 V7 T5 (hI.no 6)

set_option maxRecDepth 20000 in
theorem law_2 {l : Launch} {D : va_G} {cI cW : ClassId} {x : GC} (X : GOK x l D cI cW RL cL_law 4 room_1) {b L i : Nat} {sc : Nat → Int32} (hX : GX x b L sc) (hL : L ≤ 2560) (hi : i + 5 ≤ L) {xx xn xt xk xe xo xp xv xq xc xs : Nat → Nat} {xw : Nat → Nat → Nat} {xr xu m : Nat → Nat} (kend : ∀ (S : WS) (M : MS) (T1 : WS) (K1 : WS) (qo : FN) (T2 : WS) (qa : FN × FN) (T3 : WS) (qc : Int32 × Int32 × Int32) (T4 : WS) (V0 : WS) (V1 : WS) (V2 : WS) (V3 : WS) (V4 : WS) (V5 : WS) (V6 : WS) (V7 : WS) (T5 : WS), IV S M K1 → G x 165 1897 (LW cI cW xx xn xt xk xe xo xp xv xq xc xs xw xr xu m S M T1 K1 qo T2 qa T3 qc T4 V0 V1 V2 V3 V4 V5 V6 V7 T5) 1230 [(3, .int (nI i)), (2, .ref (m 0)), (1, .ref (xx 0)), (0, .ref b)] []) (S : WS) (M : MS) (T1 : WS) (K1 : WS) (qo : FN) (T2 : WS) (qa : FN × FN) (T3 : WS) (qc : Int32 × Int32 × Int32) (T4 : WS) (V0 : WS) (V1 : WS) (V2 : WS) (V3 : WS) (V4 : WS) (V5 : WS) (V6 : WS) (V7 : WS) (T5 : WS) (hI : IV S M K1) : G x 165 1897 (LW cI cW xx xn xt xk xe xo xp xv xq xc xs xw xr xu m S M T1 K1 qo T2 qa T3 qc T4 V0 V1 V2 V3 V4 V5 V6 V7 T5) 244 [(3, .int (nI i)), (2, .ref (m 0)), (1, .ref (xx 0)), (0, .ref b)] [] := by
  show G x 165 1897 ([xl xx xn xt xk xe xo xv xc xr cI (m_hi M, m_rf M), wl xn cI S, wl xt cI T1, wl xk cI K1, tl xe cI (m_q M), ol xo xp cI qo, wl xp cI T2, al xv xq cI qa, wl xq cI T3, cl xc xs xw cW qc, wl xs cI T4, wl (xw 0) cI V0, wl (xw 1) cI V1, wl (xw 2) cI V2, wl (xw 3) cI V3, wl (xw 4) cI V4, wl (xw 5) cI V5, wl (xw 6) cI V6, wl (xw 7) cI V7, rl xr xu cI (m_rw M, m_rn M), wl xu cI T5, ml m cI S M]) 244 [(3, .int (nI i)), (2, .ref (m 0)), (1, .ref (xx 0)), (0, .ref b)] []
  by_cases zp : z_in (sc (i + 1)) (s_pe S) = true
  · obtain ⟨p, hp, ep⟩ := z_in_t zp
    by_cases zw : z_in (sc (i + 2)) 4 = true
    · obtain ⟨w9, hw9, ew9⟩ := z_in_t zw
      rcases (show w9 = 0 ∨ w9 = 1 ∨ w9 = 2 ∨ w9 = 3 by omega) with rfl | rfl | rfl | rfl
      · refine G.al X dL_law_244 2 rfl ?_
        refine G.al X dL_law_245 3 rfl ?_
        refine G.il X dL_law_246 0 rfl ?_
        refine G.pu X dL_law_247 ?_
        refine G.nadd X (a := i) (b := 1) dL_law_248 ?_
        refine G.sld X hX (i := i + 1) dL_law_249 (by omega) (by omega) ?_
        refine G.top (b := nI p) ep ?_
        refine G.al X dL_law_250 3 rfl ?_
        refine G.il X dL_law_251 0 rfl ?_
        refine G.pu X dL_law_252 ?_
        refine G.nadd X (a := i) (b := 2) dL_law_253 ?_
        refine G.sld X hX (i := i + 2) dL_law_254 (by omega) (by omega) ?_
        refine G.top (b := 0) ew9 ?_
        refine G.cvi X kX6_person lL_23 dL_law_255 (tX6_person_0 l D cI cW xx xn xt xk xe xo xv xc xr (m_hi M, m_rf M) S p hI.ok hp) ⟨Nat.le_of_ble_eq_true rfl, Nat.le_of_ble_eq_true rfl⟩ ⟨Nat.le_of_ble_eq_true rfl, Nat.le_of_ble_eq_true rfl⟩ [0, 1] rfl ⟨rfl, rfl⟩ rfl rfl 0 0 rfl rfl rfl rfl (Nat.le_of_ble_eq_true rfl) (ff_cons (xl_fst _ _ _ _ _ _ _ _ _ _ _ _) (ff_cons (wl_fst _ _ _ _) (ff_nil))) (ws' := [xl xx xn xt xk xe xo xv xc xr cI (m_hi M, m_rf M), wl xn cI S, wl xt cI T1, wl xk cI K1, tl xe cI (m_q M), ol xo xp cI qo, wl xp cI T2, al xv xq cI qa, wl xq cI T3, cl xc xs xw cW qc, wl xs cI T4, wl (xw 0) cI V0, wl (xw 1) cI V1, wl (xw 2) cI V2, wl (xw 3) cI V3, wl (xw 4) cI V4, wl (xw 5) cI V5, wl (xw 6) cI V6, wl (xw 7) cI V7, rl xr xu cI (m_rw M, m_rn M), wl xu cI T5, ml m cI S M]) rfl ?_
        refine G.al X dL_law_258 1 rfl ?_
        refine G.al X dL_law_259 3 rfl ?_
        refine G.il X dL_law_260 0 rfl ?_
        refine G.pu X dL_law_261 ?_
        refine G.nadd X (a := i) (b := 1) dL_law_262 ?_
        refine G.sld X hX (i := i + 1) dL_law_263 (by omega) (by omega) ?_
        refine G.top (b := nI p) ep ?_
        refine G.al X dL_law_264 3 rfl ?_
        refine G.il X dL_law_265 0 rfl ?_
        refine G.pu X dL_law_266 ?_
        refine G.nadd X (a := i) (b := 2) dL_law_267 ?_
        refine G.sld X hX (i := i + 2) dL_law_268 (by omega) (by omega) ?_
        refine G.top (b := 0) ew9 ?_
        refine G.cvi X kX7_person lL_27 dL_law_269 (tX7_person_0 l D cI cW m S M p hI.ok hp) ⟨Nat.le_of_ble_eq_true rfl, Nat.le_of_ble_eq_true rfl⟩ ⟨Nat.le_of_ble_eq_true rfl, Nat.le_of_ble_eq_true rfl⟩ [21] rfl ⟨rfl, rfl⟩ rfl rfl 21 0 rfl rfl rfl rfl (Nat.le_of_ble_eq_true rfl) (ff_cons (ml_fst _ _ _ _ _ _) (ff_nil)) (ws' := [xl xx xn xt xk xe xo xv xc xr cI (m_hi M, m_rf M), wl xn cI S, wl xt cI T1, wl xk cI K1, tl xe cI (m_q M), ol xo xp cI qo, wl xp cI T2, al xv xq cI qa, wl xq cI T3, cl xc xs xw cW qc, wl xs cI T4, wl (xw 0) cI V0, wl (xw 1) cI V1, wl (xw 2) cI V2, wl (xw 3) cI V3, wl (xw 4) cI V4, wl (xw 5) cI V5, wl (xw 6) cI V6, wl (xw 7) cI V7, rl xr xu cI (m_rw M, m_rn M), wl xu cI T5, ml m cI S M]) rfl ?_
        refine G.c_eq X (a := (s_kn S p)) (b := (s_kn S p)) dL_law_272 (fun h272 => ?_) (fun h272 => absurd (rfl) h272)
        exact kend S M T1 K1 qo T2 qa T3 qc T4 V0 V1 V2 V3 V4 V5 V6 V7 T5 hI
      · refine G.al X dL_law_244 2 rfl ?_
        refine G.al X dL_law_245 3 rfl ?_
        refine G.il X dL_law_246 0 rfl ?_
        refine G.pu X dL_law_247 ?_
        refine G.nadd X (a := i) (b := 1) dL_law_248 ?_
        refine G.sld X hX (i := i + 1) dL_law_249 (by omega) (by omega) ?_
        refine G.top (b := nI p) ep ?_
        refine G.al X dL_law_250 3 rfl ?_
        refine G.il X dL_law_251 0 rfl ?_
        refine G.pu X dL_law_252 ?_
        refine G.nadd X (a := i) (b := 2) dL_law_253 ?_
        refine G.sld X hX (i := i + 2) dL_law_254 (by omega) (by omega) ?_
        refine G.top (b := 1) ew9 ?_
        refine G.cvi X kX6_person lL_23 dL_law_255 (tX6_person_1 l D cI cW xx xn xt xk xe xo xv xc xr (m_hi M, m_rf M) S p hI.ok hp) ⟨Nat.le_of_ble_eq_true rfl, Nat.le_of_ble_eq_true rfl⟩ ⟨Nat.le_of_ble_eq_true rfl, Nat.le_of_ble_eq_true rfl⟩ [0, 1] rfl ⟨rfl, rfl⟩ rfl rfl 0 0 rfl rfl rfl rfl (Nat.le_of_ble_eq_true rfl) (ff_cons (xl_fst _ _ _ _ _ _ _ _ _ _ _ _) (ff_cons (wl_fst _ _ _ _) (ff_nil))) (ws' := [xl xx xn xt xk xe xo xv xc xr cI (m_hi M, m_rf M), wl xn cI S, wl xt cI T1, wl xk cI K1, tl xe cI (m_q M), ol xo xp cI qo, wl xp cI T2, al xv xq cI qa, wl xq cI T3, cl xc xs xw cW qc, wl xs cI T4, wl (xw 0) cI V0, wl (xw 1) cI V1, wl (xw 2) cI V2, wl (xw 3) cI V3, wl (xw 4) cI V4, wl (xw 5) cI V5, wl (xw 6) cI V6, wl (xw 7) cI V7, rl xr xu cI (m_rw M, m_rn M), wl xu cI T5, ml m cI S M]) rfl ?_
        refine G.al X dL_law_258 1 rfl ?_
        refine G.al X dL_law_259 3 rfl ?_
        refine G.il X dL_law_260 0 rfl ?_
        refine G.pu X dL_law_261 ?_
        refine G.nadd X (a := i) (b := 1) dL_law_262 ?_
        refine G.sld X hX (i := i + 1) dL_law_263 (by omega) (by omega) ?_
        refine G.top (b := nI p) ep ?_
        refine G.al X dL_law_264 3 rfl ?_
        refine G.il X dL_law_265 0 rfl ?_
        refine G.pu X dL_law_266 ?_
        refine G.nadd X (a := i) (b := 2) dL_law_267 ?_
        refine G.sld X hX (i := i + 2) dL_law_268 (by omega) (by omega) ?_
        refine G.top (b := 1) ew9 ?_
        refine G.cvi X kX7_person lL_27 dL_law_269 (tX7_person_1 l D cI cW m S M p hI.ok hp) ⟨Nat.le_of_ble_eq_true rfl, Nat.le_of_ble_eq_true rfl⟩ ⟨Nat.le_of_ble_eq_true rfl, Nat.le_of_ble_eq_true rfl⟩ [21] rfl ⟨rfl, rfl⟩ rfl rfl 21 0 rfl rfl rfl rfl (Nat.le_of_ble_eq_true rfl) (ff_cons (ml_fst _ _ _ _ _ _) (ff_nil)) (ws' := [xl xx xn xt xk xe xo xv xc xr cI (m_hi M, m_rf M), wl xn cI S, wl xt cI T1, wl xk cI K1, tl xe cI (m_q M), ol xo xp cI qo, wl xp cI T2, al xv xq cI qa, wl xq cI T3, cl xc xs xw cW qc, wl xs cI T4, wl (xw 0) cI V0, wl (xw 1) cI V1, wl (xw 2) cI V2, wl (xw 3) cI V3, wl (xw 4) cI V4, wl (xw 5) cI V5, wl (xw 6) cI V6, wl (xw 7) cI V7, rl xr xu cI (m_rw M, m_rn M), wl xu cI T5, ml m cI S M]) rfl ?_
        refine G.c_eq X (a := (s_sh S p)) (b := (s_sh S p)) dL_law_272 (fun h272 => ?_) (fun h272 => absurd (rfl) h272)
        exact kend S M T1 K1 qo T2 qa T3 qc T4 V0 V1 V2 V3 V4 V5 V6 V7 T5 hI
      · refine G.al X dL_law_244 2 rfl ?_
        refine G.al X dL_law_245 3 rfl ?_
        refine G.il X dL_law_246 0 rfl ?_
        refine G.pu X dL_law_247 ?_
        refine G.nadd X (a := i) (b := 1) dL_law_248 ?_
        refine G.sld X hX (i := i + 1) dL_law_249 (by omega) (by omega) ?_
        refine G.top (b := nI p) ep ?_
        refine G.al X dL_law_250 3 rfl ?_
        refine G.il X dL_law_251 0 rfl ?_
        refine G.pu X dL_law_252 ?_
        refine G.nadd X (a := i) (b := 2) dL_law_253 ?_
        refine G.sld X hX (i := i + 2) dL_law_254 (by omega) (by omega) ?_
        refine G.top (b := 2) ew9 ?_
        refine G.cvi X kX6_person lL_23 dL_law_255 (tX6_person_2 l D cI cW xx xn xt xk xe xo xv xc xr (m_hi M, m_rf M) S p hI.ok hp) ⟨Nat.le_of_ble_eq_true rfl, Nat.le_of_ble_eq_true rfl⟩ ⟨Nat.le_of_ble_eq_true rfl, Nat.le_of_ble_eq_true rfl⟩ [0, 1] rfl ⟨rfl, rfl⟩ rfl rfl 0 0 rfl rfl rfl rfl (Nat.le_of_ble_eq_true rfl) (ff_cons (xl_fst _ _ _ _ _ _ _ _ _ _ _ _) (ff_cons (wl_fst _ _ _ _) (ff_nil))) (ws' := [xl xx xn xt xk xe xo xv xc xr cI (m_hi M, m_rf M), wl xn cI S, wl xt cI T1, wl xk cI K1, tl xe cI (m_q M), ol xo xp cI qo, wl xp cI T2, al xv xq cI qa, wl xq cI T3, cl xc xs xw cW qc, wl xs cI T4, wl (xw 0) cI V0, wl (xw 1) cI V1, wl (xw 2) cI V2, wl (xw 3) cI V3, wl (xw 4) cI V4, wl (xw 5) cI V5, wl (xw 6) cI V6, wl (xw 7) cI V7, rl xr xu cI (m_rw M, m_rn M), wl xu cI T5, ml m cI S M]) rfl ?_
        refine G.al X dL_law_258 1 rfl ?_
        refine G.al X dL_law_259 3 rfl ?_
        refine G.il X dL_law_260 0 rfl ?_
        refine G.pu X dL_law_261 ?_
        refine G.nadd X (a := i) (b := 1) dL_law_262 ?_
        refine G.sld X hX (i := i + 1) dL_law_263 (by omega) (by omega) ?_
        refine G.top (b := nI p) ep ?_
        refine G.al X dL_law_264 3 rfl ?_
        refine G.il X dL_law_265 0 rfl ?_
        refine G.pu X dL_law_266 ?_
        refine G.nadd X (a := i) (b := 2) dL_law_267 ?_
        refine G.sld X hX (i := i + 2) dL_law_268 (by omega) (by omega) ?_
        refine G.top (b := 2) ew9 ?_
        refine G.cvi X kX7_person lL_27 dL_law_269 (tX7_person_2 l D cI cW m S M p hI.ok hp) ⟨Nat.le_of_ble_eq_true rfl, Nat.le_of_ble_eq_true rfl⟩ ⟨Nat.le_of_ble_eq_true rfl, Nat.le_of_ble_eq_true rfl⟩ [21] rfl ⟨rfl, rfl⟩ rfl rfl 21 0 rfl rfl rfl rfl (Nat.le_of_ble_eq_true rfl) (ff_cons (ml_fst _ _ _ _ _ _) (ff_nil)) (ws' := [xl xx xn xt xk xe xo xv xc xr cI (m_hi M, m_rf M), wl xn cI S, wl xt cI T1, wl xk cI K1, tl xe cI (m_q M), ol xo xp cI qo, wl xp cI T2, al xv xq cI qa, wl xq cI T3, cl xc xs xw cW qc, wl xs cI T4, wl (xw 0) cI V0, wl (xw 1) cI V1, wl (xw 2) cI V2, wl (xw 3) cI V3, wl (xw 4) cI V4, wl (xw 5) cI V5, wl (xw 6) cI V6, wl (xw 7) cI V7, rl xr xu cI (m_rw M, m_rn M), wl xu cI T5, ml m cI S M]) rfl ?_
        refine G.c_eq X (a := (s_an S p)) (b := (s_an S p)) dL_law_272 (fun h272 => ?_) (fun h272 => absurd (rfl) h272)
        exact kend S M T1 K1 qo T2 qa T3 qc T4 V0 V1 V2 V3 V4 V5 V6 V7 T5 hI
      · refine G.al X dL_law_244 2 rfl ?_
        refine G.al X dL_law_245 3 rfl ?_
        refine G.il X dL_law_246 0 rfl ?_
        refine G.pu X dL_law_247 ?_
        refine G.nadd X (a := i) (b := 1) dL_law_248 ?_
        refine G.sld X hX (i := i + 1) dL_law_249 (by omega) (by omega) ?_
        refine G.top (b := nI p) ep ?_
        refine G.al X dL_law_250 3 rfl ?_
        refine G.il X dL_law_251 0 rfl ?_
        refine G.pu X dL_law_252 ?_
        refine G.nadd X (a := i) (b := 2) dL_law_253 ?_
        refine G.sld X hX (i := i + 2) dL_law_254 (by omega) (by omega) ?_
        refine G.top (b := 3) ew9 ?_
        refine G.cvi X kX6_person lL_23 dL_law_255 (tX6_person_3 l D cI cW xx xn xt xk xe xo xv xc xr (m_hi M, m_rf M) S p hI.ok hp) ⟨Nat.le_of_ble_eq_true rfl, Nat.le_of_ble_eq_true rfl⟩ ⟨Nat.le_of_ble_eq_true rfl, Nat.le_of_ble_eq_true rfl⟩ [0, 1] rfl ⟨rfl, rfl⟩ rfl rfl 0 0 rfl rfl rfl rfl (Nat.le_of_ble_eq_true rfl) (ff_cons (xl_fst _ _ _ _ _ _ _ _ _ _ _ _) (ff_cons (wl_fst _ _ _ _) (ff_nil))) (ws' := [xl xx xn xt xk xe xo xv xc xr cI (m_hi M, m_rf M), wl xn cI S, wl xt cI T1, wl xk cI K1, tl xe cI (m_q M), ol xo xp cI qo, wl xp cI T2, al xv xq cI qa, wl xq cI T3, cl xc xs xw cW qc, wl xs cI T4, wl (xw 0) cI V0, wl (xw 1) cI V1, wl (xw 2) cI V2, wl (xw 3) cI V3, wl (xw 4) cI V4, wl (xw 5) cI V5, wl (xw 6) cI V6, wl (xw 7) cI V7, rl xr xu cI (m_rw M, m_rn M), wl xu cI T5, ml m cI S M]) rfl ?_
        refine G.al X dL_law_258 1 rfl ?_
        refine G.al X dL_law_259 3 rfl ?_
        refine G.il X dL_law_260 0 rfl ?_
        refine G.pu X dL_law_261 ?_
        refine G.nadd X (a := i) (b := 1) dL_law_262 ?_
        refine G.sld X hX (i := i + 1) dL_law_263 (by omega) (by omega) ?_
        refine G.top (b := nI p) ep ?_
        refine G.al X dL_law_264 3 rfl ?_
        refine G.il X dL_law_265 0 rfl ?_
        refine G.pu X dL_law_266 ?_
        refine G.nadd X (a := i) (b := 2) dL_law_267 ?_
        refine G.sld X hX (i := i + 2) dL_law_268 (by omega) (by omega) ?_
        refine G.top (b := 3) ew9 ?_
        refine G.cvi X kX7_person lL_27 dL_law_269 (tX7_person_3 l D cI cW m S M p hI.ok hp) ⟨Nat.le_of_ble_eq_true rfl, Nat.le_of_ble_eq_true rfl⟩ ⟨Nat.le_of_ble_eq_true rfl, Nat.le_of_ble_eq_true rfl⟩ [21] rfl ⟨rfl, rfl⟩ rfl rfl 21 0 rfl rfl rfl rfl (Nat.le_of_ble_eq_true rfl) (ff_cons (ml_fst _ _ _ _ _ _) (ff_nil)) (ws' := [xl xx xn xt xk xe xo xv xc xr cI (m_hi M, m_rf M), wl xn cI S, wl xt cI T1, wl xk cI K1, tl xe cI (m_q M), ol xo xp cI qo, wl xp cI T2, al xv xq cI qa, wl xq cI T3, cl xc xs xw cW qc, wl xs cI T4, wl (xw 0) cI V0, wl (xw 1) cI V1, wl (xw 2) cI V2, wl (xw 3) cI V3, wl (xw 4) cI V4, wl (xw 5) cI V5, wl (xw 6) cI V6, wl (xw 7) cI V7, rl xr xu cI (m_rw M, m_rn M), wl xu cI T5, ml m cI S M]) rfl ?_
        refine G.c_eq X (a := (w_qs S (nI p) (s_th S))) (b := (w_qs S (nI p) (s_th S))) dL_law_272 (fun h272 => ?_) (fun h272 => absurd (rfl) h272)
        exact kend S M T1 K1 qo T2 qa T3 qc T4 V0 V1 V2 V3 V4 V5 V6 V7 T5 hI
    · replace zw : z_in (sc (i + 2)) 4 = false := by simpa using zw
      refine G.al X dL_law_244 2 rfl ?_
      refine G.al X dL_law_245 3 rfl ?_
      refine G.il X dL_law_246 0 rfl ?_
      refine G.pu X dL_law_247 ?_
      refine G.nadd X (a := i) (b := 1) dL_law_248 ?_
      refine G.sld X hX (i := i + 1) dL_law_249 (by omega) (by omega) ?_
      refine G.top (b := nI p) ep ?_
      refine G.al X dL_law_250 3 rfl ?_
      refine G.il X dL_law_251 0 rfl ?_
      refine G.pu X dL_law_252 ?_
      refine G.nadd X (a := i) (b := 2) dL_law_253 ?_
      refine G.sld X hX (i := i + 2) dL_law_254 (by omega) (by omega) ?_
      refine G.cvi X kX6_person lL_23 dL_law_255 (tX6_person_oth l D cI cW xx xn xt xk xe xo xv xc xr (m_hi M, m_rf M) S p (sc (i + 2)) hI.ok hp zw) ⟨Nat.le_of_ble_eq_true rfl, Nat.le_of_ble_eq_true rfl⟩ ⟨Nat.le_of_ble_eq_true rfl, Nat.le_of_ble_eq_true rfl⟩ [0, 1] rfl ⟨rfl, rfl⟩ rfl rfl 0 0 rfl rfl rfl rfl (Nat.le_of_ble_eq_true rfl) (ff_cons (xl_fst _ _ _ _ _ _ _ _ _ _ _ _) (ff_cons (wl_fst _ _ _ _) (ff_nil))) (ws' := [xl xx xn xt xk xe xo xv xc xr cI (x_rf (m_hi M, m_rf M) 2), wl xn cI S, wl xt cI T1, wl xk cI K1, tl xe cI (m_q M), ol xo xp cI qo, wl xp cI T2, al xv xq cI qa, wl xq cI T3, cl xc xs xw cW qc, wl xs cI T4, wl (xw 0) cI V0, wl (xw 1) cI V1, wl (xw 2) cI V2, wl (xw 3) cI V3, wl (xw 4) cI V4, wl (xw 5) cI V5, wl (xw 6) cI V6, wl (xw 7) cI V7, rl xr xu cI (m_rw M, m_rn M), wl xu cI T5, ml m cI S M]) rfl ?_
      refine G.al X dL_law_258 1 rfl ?_
      refine G.al X dL_law_259 3 rfl ?_
      refine G.il X dL_law_260 0 rfl ?_
      refine G.pu X dL_law_261 ?_
      refine G.nadd X (a := i) (b := 1) dL_law_262 ?_
      refine G.sld X hX (i := i + 1) dL_law_263 (by omega) (by omega) ?_
      refine G.top (b := nI p) ep ?_
      refine G.al X dL_law_264 3 rfl ?_
      refine G.il X dL_law_265 0 rfl ?_
      refine G.pu X dL_law_266 ?_
      refine G.nadd X (a := i) (b := 2) dL_law_267 ?_
      refine G.sld X hX (i := i + 2) dL_law_268 (by omega) (by omega) ?_
      refine G.cvi X kX7_person lL_27 dL_law_269 (tX7_person_oth l D cI cW m S M p (sc (i + 2)) hI.ok hp zw) ⟨Nat.le_of_ble_eq_true rfl, Nat.le_of_ble_eq_true rfl⟩ ⟨Nat.le_of_ble_eq_true rfl, Nat.le_of_ble_eq_true rfl⟩ [21] rfl ⟨rfl, rfl⟩ rfl rfl 21 0 rfl rfl rfl rfl (Nat.le_of_ble_eq_true rfl) (ff_cons (ml_fst _ _ _ _ _ _) (ff_nil)) (ws' := [xl xx xn xt xk xe xo xv xc xr cI (x_rf (m_hi M, m_rf M) 2), wl xn cI S, wl xt cI T1, wl xk cI K1, tl xe cI (m_q M), ol xo xp cI qo, wl xp cI T2, al xv xq cI qa, wl xq cI T3, cl xc xs xw cW qc, wl xs cI T4, wl (xw 0) cI V0, wl (xw 1) cI V1, wl (xw 2) cI V2, wl (xw 3) cI V3, wl (xw 4) cI V4, wl (xw 5) cI V5, wl (xw 6) cI V6, wl (xw 7) cI V7, rl xr xu cI (m_rw M, m_rn M), wl xu cI T5, ml m cI S (m_no M 2)]) rfl ?_
      refine G.c_eq X (a := (-2)) (b := (-2)) dL_law_272 (fun h272 => ?_) (fun h272 => absurd (rfl) h272)
      exact kend S (m_no M 2) T1 K1 qo T2 qa T3 qc T4 V0 V1 V2 V3 V4 V5 V6 V7 T5 (hI.no 2)
  · replace zp : z_in (sc (i + 1)) (s_pe S) = false := by simpa using zp
    refine G.al X dL_law_244 2 rfl ?_
    refine G.al X dL_law_245 3 rfl ?_
    refine G.il X dL_law_246 0 rfl ?_
    refine G.pu X dL_law_247 ?_
    refine G.nadd X (a := i) (b := 1) dL_law_248 ?_
    refine G.sld X hX (i := i + 1) dL_law_249 (by omega) (by omega) ?_
    refine G.al X dL_law_250 3 rfl ?_
    refine G.il X dL_law_251 0 rfl ?_
    refine G.pu X dL_law_252 ?_
    refine G.nadd X (a := i) (b := 2) dL_law_253 ?_
    refine G.sld X hX (i := i + 2) dL_law_254 (by omega) (by omega) ?_
    refine G.cvi X kX6_person lL_23 dL_law_255 (tX6_person_bad l D cI cW xx xn xt xk xe xo xv xc xr (m_hi M, m_rf M) S (sc (i + 1)) (sc (i + 2)) hI.ok zp) ⟨Nat.le_of_ble_eq_true rfl, Nat.le_of_ble_eq_true rfl⟩ ⟨Nat.le_of_ble_eq_true rfl, Nat.le_of_ble_eq_true rfl⟩ [0, 1] rfl ⟨rfl, rfl⟩ rfl rfl 0 0 rfl rfl rfl rfl (Nat.le_of_ble_eq_true rfl) (ff_cons (xl_fst _ _ _ _ _ _ _ _ _ _ _ _) (ff_cons (wl_fst _ _ _ _) (ff_nil))) (ws' := [xl xx xn xt xk xe xo xv xc xr cI (x_rf (m_hi M, m_rf M) 1), wl xn cI S, wl xt cI T1, wl xk cI K1, tl xe cI (m_q M), ol xo xp cI qo, wl xp cI T2, al xv xq cI qa, wl xq cI T3, cl xc xs xw cW qc, wl xs cI T4, wl (xw 0) cI V0, wl (xw 1) cI V1, wl (xw 2) cI V2, wl (xw 3) cI V3, wl (xw 4) cI V4, wl (xw 5) cI V5, wl (xw 6) cI V6, wl (xw 7) cI V7, rl xr xu cI (m_rw M, m_rn M), wl xu cI T5, ml m cI S M]) rfl ?_
    refine G.al X dL_law_258 1 rfl ?_
    refine G.al X dL_law_259 3 rfl ?_
    refine G.il X dL_law_260 0 rfl ?_
    refine G.pu X dL_law_261 ?_
    refine G.nadd X (a := i) (b := 1) dL_law_262 ?_
    refine G.sld X hX (i := i + 1) dL_law_263 (by omega) (by omega) ?_
    refine G.al X dL_law_264 3 rfl ?_
    refine G.il X dL_law_265 0 rfl ?_
    refine G.pu X dL_law_266 ?_
    refine G.nadd X (a := i) (b := 2) dL_law_267 ?_
    refine G.sld X hX (i := i + 2) dL_law_268 (by omega) (by omega) ?_
    refine G.cvi X kX7_person lL_27 dL_law_269 (tX7_person_bad l D cI cW m S M (sc (i + 1)) (sc (i + 2)) hI.ok zp) ⟨Nat.le_of_ble_eq_true rfl, Nat.le_of_ble_eq_true rfl⟩ ⟨Nat.le_of_ble_eq_true rfl, Nat.le_of_ble_eq_true rfl⟩ [21] rfl ⟨rfl, rfl⟩ rfl rfl 21 0 rfl rfl rfl rfl (Nat.le_of_ble_eq_true rfl) (ff_cons (ml_fst _ _ _ _ _ _) (ff_nil)) (ws' := [xl xx xn xt xk xe xo xv xc xr cI (x_rf (m_hi M, m_rf M) 1), wl xn cI S, wl xt cI T1, wl xk cI K1, tl xe cI (m_q M), ol xo xp cI qo, wl xp cI T2, al xv xq cI qa, wl xq cI T3, cl xc xs xw cW qc, wl xs cI T4, wl (xw 0) cI V0, wl (xw 1) cI V1, wl (xw 2) cI V2, wl (xw 3) cI V3, wl (xw 4) cI V4, wl (xw 5) cI V5, wl (xw 6) cI V6, wl (xw 7) cI V7, rl xr xu cI (m_rw M, m_rn M), wl xu cI T5, ml m cI S (m_no M 1)]) rfl ?_
    refine G.c_eq X (a := (-1)) (b := (-1)) dL_law_272 (fun h272 => ?_) (fun h272 => absurd (rfl) h272)
    exact kend S (m_no M 1) T1 K1 qo T2 qa T3 qc T4 V0 V1 V2 V3 V4 V5 V6 V7 T5 (hI.no 1)

set_option maxRecDepth 20000 in
theorem law_3 {l : Launch} {D : va_G} {cI cW : ClassId} {x : GC} (X : GOK x l D cI cW RL cL_law 4 room_1) {b L i : Nat} {sc : Nat → Int32} (hX : GX x b L sc) (hL : L ≤ 2560) (hi : i + 5 ≤ L) {xx xn xt xk xe xo xp xv xq xc xs : Nat → Nat} {xw : Nat → Nat → Nat} {xr xu m : Nat → Nat} (kend : ∀ (S : WS) (M : MS) (T1 : WS) (K1 : WS) (qo : FN) (T2 : WS) (qa : FN × FN) (T3 : WS) (qc : Int32 × Int32 × Int32) (T4 : WS) (V0 : WS) (V1 : WS) (V2 : WS) (V3 : WS) (V4 : WS) (V5 : WS) (V6 : WS) (V7 : WS) (T5 : WS), IV S M K1 → G x 165 1897 (LW cI cW xx xn xt xk xe xo xp xv xq xc xs xw xr xu m S M T1 K1 qo T2 qa T3 qc T4 V0 V1 V2 V3 V4 V5 V6 V7 T5) 1230 [(3, .int (nI i)), (2, .ref (m 0)), (1, .ref (xx 0)), (0, .ref b)] []) (S : WS) (M : MS) (T1 : WS) (K1 : WS) (qo : FN) (T2 : WS) (qa : FN × FN) (T3 : WS) (qc : Int32 × Int32 × Int32) (T4 : WS) (V0 : WS) (V1 : WS) (V2 : WS) (V3 : WS) (V4 : WS) (V5 : WS) (V6 : WS) (V7 : WS) (T5 : WS) (hI : IV S M K1) : G x 165 1897 (LW cI cW xx xn xt xk xe xo xp xv xq xc xs xw xr xu m S M T1 K1 qo T2 qa T3 qc T4 V0 V1 V2 V3 V4 V5 V6 V7 T5) 277 [(3, .int (nI i)), (2, .ref (m 0)), (1, .ref (xx 0)), (0, .ref b)] [] := by
  show G x 165 1897 ([xl xx xn xt xk xe xo xv xc xr cI (m_hi M, m_rf M), wl xn cI S, wl xt cI T1, wl xk cI K1, tl xe cI (m_q M), ol xo xp cI qo, wl xp cI T2, al xv xq cI qa, wl xq cI T3, cl xc xs xw cW qc, wl xs cI T4, wl (xw 0) cI V0, wl (xw 1) cI V1, wl (xw 2) cI V2, wl (xw 3) cI V3, wl (xw 4) cI V4, wl (xw 5) cI V5, wl (xw 6) cI V6, wl (xw 7) cI V7, rl xr xu cI (m_rw M, m_rn M), wl xu cI T5, ml m cI S M]) 277 [(3, .int (nI i)), (2, .ref (m 0)), (1, .ref (xx 0)), (0, .ref b)] []
  by_cases zp : z_in (sc (i + 1)) (s_th S) = true
  · obtain ⟨p, hp, ep⟩ := z_in_t zp
    by_cases zw : z_in (sc (i + 2)) 7 = true
    · obtain ⟨w9, hw9, ew9⟩ := z_in_t zw
      rcases (show w9 = 0 ∨ w9 = 1 ∨ w9 = 2 ∨ w9 = 3 ∨ w9 = 4 ∨ w9 = 5 ∨ w9 = 6 by omega) with rfl | rfl | rfl | rfl | rfl | rfl | rfl
      · refine G.al X dL_law_277 2 rfl ?_
        refine G.al X dL_law_278 3 rfl ?_
        refine G.il X dL_law_279 0 rfl ?_
        refine G.pu X dL_law_280 ?_
        refine G.nadd X (a := i) (b := 1) dL_law_281 ?_
        refine G.sld X hX (i := i + 1) dL_law_282 (by omega) (by omega) ?_
        refine G.top (b := nI p) ep ?_
        refine G.al X dL_law_283 3 rfl ?_
        refine G.il X dL_law_284 0 rfl ?_
        refine G.pu X dL_law_285 ?_
        refine G.nadd X (a := i) (b := 2) dL_law_286 ?_
        refine G.sld X hX (i := i + 2) dL_law_287 (by omega) (by omega) ?_
        refine G.top (b := 0) ew9 ?_
        refine G.cvi X kX6_thing lL_28 dL_law_288 (tX6_thing_0 l D cI cW xx xn xt xk xe xo xv xc xr (m_hi M, m_rf M) S p hI.ok hp) ⟨Nat.le_of_ble_eq_true rfl, Nat.le_of_ble_eq_true rfl⟩ ⟨Nat.le_of_ble_eq_true rfl, Nat.le_of_ble_eq_true rfl⟩ [0, 1] rfl ⟨rfl, rfl⟩ rfl rfl 0 0 rfl rfl rfl rfl (Nat.le_of_ble_eq_true rfl) (ff_cons (xl_fst _ _ _ _ _ _ _ _ _ _ _ _) (ff_cons (wl_fst _ _ _ _) (ff_nil))) (ws' := [xl xx xn xt xk xe xo xv xc xr cI (m_hi M, m_rf M), wl xn cI S, wl xt cI T1, wl xk cI K1, tl xe cI (m_q M), ol xo xp cI qo, wl xp cI T2, al xv xq cI qa, wl xq cI T3, cl xc xs xw cW qc, wl xs cI T4, wl (xw 0) cI V0, wl (xw 1) cI V1, wl (xw 2) cI V2, wl (xw 3) cI V3, wl (xw 4) cI V4, wl (xw 5) cI V5, wl (xw 6) cI V6, wl (xw 7) cI V7, rl xr xu cI (m_rw M, m_rn M), wl xu cI T5, ml m cI S M]) rfl ?_
        refine G.al X dL_law_291 1 rfl ?_
        refine G.al X dL_law_292 3 rfl ?_
        refine G.il X dL_law_293 0 rfl ?_
        refine G.pu X dL_law_294 ?_
        refine G.nadd X (a := i) (b := 1) dL_law_295 ?_
        refine G.sld X hX (i := i + 1) dL_law_296 (by omega) (by omega) ?_
        refine G.top (b := nI p) ep ?_
        refine G.al X dL_law_297 3 rfl ?_
        refine G.il X dL_law_298 0 rfl ?_
        refine G.pu X dL_law_299 ?_
        refine G.nadd X (a := i) (b := 2) dL_law_300 ?_
        refine G.sld X hX (i := i + 2) dL_law_301 (by omega) (by omega) ?_
        refine G.top (b := 0) ew9 ?_
        refine G.cvi X kX7_thing lL_31 dL_law_302 (tX7_thing_0 l D cI cW m S M p hI.ok hp) ⟨Nat.le_of_ble_eq_true rfl, Nat.le_of_ble_eq_true rfl⟩ ⟨Nat.le_of_ble_eq_true rfl, Nat.le_of_ble_eq_true rfl⟩ [21] rfl ⟨rfl, rfl⟩ rfl rfl 21 0 rfl rfl rfl rfl (Nat.le_of_ble_eq_true rfl) (ff_cons (ml_fst _ _ _ _ _ _) (ff_nil)) (ws' := [xl xx xn xt xk xe xo xv xc xr cI (m_hi M, m_rf M), wl xn cI S, wl xt cI T1, wl xk cI K1, tl xe cI (m_q M), ol xo xp cI qo, wl xp cI T2, al xv xq cI qa, wl xq cI T3, cl xc xs xw cW qc, wl xs cI T4, wl (xw 0) cI V0, wl (xw 1) cI V1, wl (xw 2) cI V2, wl (xw 3) cI V3, wl (xw 4) cI V4, wl (xw 5) cI V5, wl (xw 6) cI V6, wl (xw 7) cI V7, rl xr xu cI (m_rw M, m_rn M), wl xu cI T5, ml m cI S M]) rfl ?_
        refine G.c_eq X (a := (s_ki S p)) (b := (s_ki S p)) dL_law_305 (fun h305 => ?_) (fun h305 => absurd (rfl) h305)
        exact kend S M T1 K1 qo T2 qa T3 qc T4 V0 V1 V2 V3 V4 V5 V6 V7 T5 hI
      · refine G.al X dL_law_277 2 rfl ?_
        refine G.al X dL_law_278 3 rfl ?_
        refine G.il X dL_law_279 0 rfl ?_
        refine G.pu X dL_law_280 ?_
        refine G.nadd X (a := i) (b := 1) dL_law_281 ?_
        refine G.sld X hX (i := i + 1) dL_law_282 (by omega) (by omega) ?_
        refine G.top (b := nI p) ep ?_
        refine G.al X dL_law_283 3 rfl ?_
        refine G.il X dL_law_284 0 rfl ?_
        refine G.pu X dL_law_285 ?_
        refine G.nadd X (a := i) (b := 2) dL_law_286 ?_
        refine G.sld X hX (i := i + 2) dL_law_287 (by omega) (by omega) ?_
        refine G.top (b := 1) ew9 ?_
        refine G.cvi X kX6_thing lL_28 dL_law_288 (tX6_thing_1 l D cI cW xx xn xt xk xe xo xv xc xr (m_hi M, m_rf M) S p hI.ok hp) ⟨Nat.le_of_ble_eq_true rfl, Nat.le_of_ble_eq_true rfl⟩ ⟨Nat.le_of_ble_eq_true rfl, Nat.le_of_ble_eq_true rfl⟩ [0, 1] rfl ⟨rfl, rfl⟩ rfl rfl 0 0 rfl rfl rfl rfl (Nat.le_of_ble_eq_true rfl) (ff_cons (xl_fst _ _ _ _ _ _ _ _ _ _ _ _) (ff_cons (wl_fst _ _ _ _) (ff_nil))) (ws' := [xl xx xn xt xk xe xo xv xc xr cI (m_hi M, m_rf M), wl xn cI S, wl xt cI T1, wl xk cI K1, tl xe cI (m_q M), ol xo xp cI qo, wl xp cI T2, al xv xq cI qa, wl xq cI T3, cl xc xs xw cW qc, wl xs cI T4, wl (xw 0) cI V0, wl (xw 1) cI V1, wl (xw 2) cI V2, wl (xw 3) cI V3, wl (xw 4) cI V4, wl (xw 5) cI V5, wl (xw 6) cI V6, wl (xw 7) cI V7, rl xr xu cI (m_rw M, m_rn M), wl xu cI T5, ml m cI S M]) rfl ?_
        refine G.al X dL_law_291 1 rfl ?_
        refine G.al X dL_law_292 3 rfl ?_
        refine G.il X dL_law_293 0 rfl ?_
        refine G.pu X dL_law_294 ?_
        refine G.nadd X (a := i) (b := 1) dL_law_295 ?_
        refine G.sld X hX (i := i + 1) dL_law_296 (by omega) (by omega) ?_
        refine G.top (b := nI p) ep ?_
        refine G.al X dL_law_297 3 rfl ?_
        refine G.il X dL_law_298 0 rfl ?_
        refine G.pu X dL_law_299 ?_
        refine G.nadd X (a := i) (b := 2) dL_law_300 ?_
        refine G.sld X hX (i := i + 2) dL_law_301 (by omega) (by omega) ?_
        refine G.top (b := 1) ew9 ?_
        refine G.cvi X kX7_thing lL_31 dL_law_302 (tX7_thing_1 l D cI cW m S M p hI.ok hp) ⟨Nat.le_of_ble_eq_true rfl, Nat.le_of_ble_eq_true rfl⟩ ⟨Nat.le_of_ble_eq_true rfl, Nat.le_of_ble_eq_true rfl⟩ [21] rfl ⟨rfl, rfl⟩ rfl rfl 21 0 rfl rfl rfl rfl (Nat.le_of_ble_eq_true rfl) (ff_cons (ml_fst _ _ _ _ _ _) (ff_nil)) (ws' := [xl xx xn xt xk xe xo xv xc xr cI (m_hi M, m_rf M), wl xn cI S, wl xt cI T1, wl xk cI K1, tl xe cI (m_q M), ol xo xp cI qo, wl xp cI T2, al xv xq cI qa, wl xq cI T3, cl xc xs xw cW qc, wl xs cI T4, wl (xw 0) cI V0, wl (xw 1) cI V1, wl (xw 2) cI V2, wl (xw 3) cI V3, wl (xw 4) cI V4, wl (xw 5) cI V5, wl (xw 6) cI V6, wl (xw 7) cI V7, rl xr xu cI (m_rw M, m_rn M), wl xu cI T5, ml m cI S M]) rfl ?_
        refine G.c_eq X (a := (s_we S p)) (b := (s_we S p)) dL_law_305 (fun h305 => ?_) (fun h305 => absurd (rfl) h305)
        exact kend S M T1 K1 qo T2 qa T3 qc T4 V0 V1 V2 V3 V4 V5 V6 V7 T5 hI
      · refine G.al X dL_law_277 2 rfl ?_
        refine G.al X dL_law_278 3 rfl ?_
        refine G.il X dL_law_279 0 rfl ?_
        refine G.pu X dL_law_280 ?_
        refine G.nadd X (a := i) (b := 1) dL_law_281 ?_
        refine G.sld X hX (i := i + 1) dL_law_282 (by omega) (by omega) ?_
        refine G.top (b := nI p) ep ?_
        refine G.al X dL_law_283 3 rfl ?_
        refine G.il X dL_law_284 0 rfl ?_
        refine G.pu X dL_law_285 ?_
        refine G.nadd X (a := i) (b := 2) dL_law_286 ?_
        refine G.sld X hX (i := i + 2) dL_law_287 (by omega) (by omega) ?_
        refine G.top (b := 2) ew9 ?_
        refine G.cvi X kX6_thing lL_28 dL_law_288 (tX6_thing_2 l D cI cW xx xn xt xk xe xo xv xc xr (m_hi M, m_rf M) S p hI.ok hp) ⟨Nat.le_of_ble_eq_true rfl, Nat.le_of_ble_eq_true rfl⟩ ⟨Nat.le_of_ble_eq_true rfl, Nat.le_of_ble_eq_true rfl⟩ [0, 1] rfl ⟨rfl, rfl⟩ rfl rfl 0 0 rfl rfl rfl rfl (Nat.le_of_ble_eq_true rfl) (ff_cons (xl_fst _ _ _ _ _ _ _ _ _ _ _ _) (ff_cons (wl_fst _ _ _ _) (ff_nil))) (ws' := [xl xx xn xt xk xe xo xv xc xr cI (m_hi M, m_rf M), wl xn cI S, wl xt cI T1, wl xk cI K1, tl xe cI (m_q M), ol xo xp cI qo, wl xp cI T2, al xv xq cI qa, wl xq cI T3, cl xc xs xw cW qc, wl xs cI T4, wl (xw 0) cI V0, wl (xw 1) cI V1, wl (xw 2) cI V2, wl (xw 3) cI V3, wl (xw 4) cI V4, wl (xw 5) cI V5, wl (xw 6) cI V6, wl (xw 7) cI V7, rl xr xu cI (m_rw M, m_rn M), wl xu cI T5, ml m cI S M]) rfl ?_
        refine G.al X dL_law_291 1 rfl ?_
        refine G.al X dL_law_292 3 rfl ?_
        refine G.il X dL_law_293 0 rfl ?_
        refine G.pu X dL_law_294 ?_
        refine G.nadd X (a := i) (b := 1) dL_law_295 ?_
        refine G.sld X hX (i := i + 1) dL_law_296 (by omega) (by omega) ?_
        refine G.top (b := nI p) ep ?_
        refine G.al X dL_law_297 3 rfl ?_
        refine G.il X dL_law_298 0 rfl ?_
        refine G.pu X dL_law_299 ?_
        refine G.nadd X (a := i) (b := 2) dL_law_300 ?_
        refine G.sld X hX (i := i + 2) dL_law_301 (by omega) (by omega) ?_
        refine G.top (b := 2) ew9 ?_
        refine G.cvi X kX7_thing lL_31 dL_law_302 (tX7_thing_2 l D cI cW m S M p hI.ok hp) ⟨Nat.le_of_ble_eq_true rfl, Nat.le_of_ble_eq_true rfl⟩ ⟨Nat.le_of_ble_eq_true rfl, Nat.le_of_ble_eq_true rfl⟩ [21] rfl ⟨rfl, rfl⟩ rfl rfl 21 0 rfl rfl rfl rfl (Nat.le_of_ble_eq_true rfl) (ff_cons (ml_fst _ _ _ _ _ _) (ff_nil)) (ws' := [xl xx xn xt xk xe xo xv xc xr cI (m_hi M, m_rf M), wl xn cI S, wl xt cI T1, wl xk cI K1, tl xe cI (m_q M), ol xo xp cI qo, wl xp cI T2, al xv xq cI qa, wl xq cI T3, cl xc xs xw cW qc, wl xs cI T4, wl (xw 0) cI V0, wl (xw 1) cI V1, wl (xw 2) cI V2, wl (xw 3) cI V3, wl (xw 4) cI V4, wl (xw 5) cI V5, wl (xw 6) cI V6, wl (xw 7) cI V7, rl xr xu cI (m_rw M, m_rn M), wl xu cI T5, ml m cI S M]) rfl ?_
        refine G.c_eq X (a := (s_dp S p)) (b := (s_dp S p)) dL_law_305 (fun h305 => ?_) (fun h305 => absurd (rfl) h305)
        exact kend S M T1 K1 qo T2 qa T3 qc T4 V0 V1 V2 V3 V4 V5 V6 V7 T5 hI
      · refine G.al X dL_law_277 2 rfl ?_
        refine G.al X dL_law_278 3 rfl ?_
        refine G.il X dL_law_279 0 rfl ?_
        refine G.pu X dL_law_280 ?_
        refine G.nadd X (a := i) (b := 1) dL_law_281 ?_
        refine G.sld X hX (i := i + 1) dL_law_282 (by omega) (by omega) ?_
        refine G.top (b := nI p) ep ?_
        refine G.al X dL_law_283 3 rfl ?_
        refine G.il X dL_law_284 0 rfl ?_
        refine G.pu X dL_law_285 ?_
        refine G.nadd X (a := i) (b := 2) dL_law_286 ?_
        refine G.sld X hX (i := i + 2) dL_law_287 (by omega) (by omega) ?_
        refine G.top (b := 3) ew9 ?_
        refine G.cvi X kX6_thing lL_28 dL_law_288 (tX6_thing_3 l D cI cW xx xn xt xk xe xo xv xc xr (m_hi M, m_rf M) S p hI.ok hp) ⟨Nat.le_of_ble_eq_true rfl, Nat.le_of_ble_eq_true rfl⟩ ⟨Nat.le_of_ble_eq_true rfl, Nat.le_of_ble_eq_true rfl⟩ [0, 1] rfl ⟨rfl, rfl⟩ rfl rfl 0 0 rfl rfl rfl rfl (Nat.le_of_ble_eq_true rfl) (ff_cons (xl_fst _ _ _ _ _ _ _ _ _ _ _ _) (ff_cons (wl_fst _ _ _ _) (ff_nil))) (ws' := [xl xx xn xt xk xe xo xv xc xr cI (m_hi M, m_rf M), wl xn cI S, wl xt cI T1, wl xk cI K1, tl xe cI (m_q M), ol xo xp cI qo, wl xp cI T2, al xv xq cI qa, wl xq cI T3, cl xc xs xw cW qc, wl xs cI T4, wl (xw 0) cI V0, wl (xw 1) cI V1, wl (xw 2) cI V2, wl (xw 3) cI V3, wl (xw 4) cI V4, wl (xw 5) cI V5, wl (xw 6) cI V6, wl (xw 7) cI V7, rl xr xu cI (m_rw M, m_rn M), wl xu cI T5, ml m cI S M]) rfl ?_
        refine G.al X dL_law_291 1 rfl ?_
        refine G.al X dL_law_292 3 rfl ?_
        refine G.il X dL_law_293 0 rfl ?_
        refine G.pu X dL_law_294 ?_
        refine G.nadd X (a := i) (b := 1) dL_law_295 ?_
        refine G.sld X hX (i := i + 1) dL_law_296 (by omega) (by omega) ?_
        refine G.top (b := nI p) ep ?_
        refine G.al X dL_law_297 3 rfl ?_
        refine G.il X dL_law_298 0 rfl ?_
        refine G.pu X dL_law_299 ?_
        refine G.nadd X (a := i) (b := 2) dL_law_300 ?_
        refine G.sld X hX (i := i + 2) dL_law_301 (by omega) (by omega) ?_
        refine G.top (b := 3) ew9 ?_
        refine G.cvi X kX7_thing lL_31 dL_law_302 (tX7_thing_3 l D cI cW m S M p hI.ok hp) ⟨Nat.le_of_ble_eq_true rfl, Nat.le_of_ble_eq_true rfl⟩ ⟨Nat.le_of_ble_eq_true rfl, Nat.le_of_ble_eq_true rfl⟩ [21] rfl ⟨rfl, rfl⟩ rfl rfl 21 0 rfl rfl rfl rfl (Nat.le_of_ble_eq_true rfl) (ff_cons (ml_fst _ _ _ _ _ _) (ff_nil)) (ws' := [xl xx xn xt xk xe xo xv xc xr cI (m_hi M, m_rf M), wl xn cI S, wl xt cI T1, wl xk cI K1, tl xe cI (m_q M), ol xo xp cI qo, wl xp cI T2, al xv xq cI qa, wl xq cI T3, cl xc xs xw cW qc, wl xs cI T4, wl (xw 0) cI V0, wl (xw 1) cI V1, wl (xw 2) cI V2, wl (xw 3) cI V3, wl (xw 4) cI V4, wl (xw 5) cI V5, wl (xw 6) cI V6, wl (xw 7) cI V7, rl xr xu cI (m_rw M, m_rn M), wl xu cI T5, ml m cI S M]) rfl ?_
        refine G.c_eq X (a := (s_wa S p)) (b := (s_wa S p)) dL_law_305 (fun h305 => ?_) (fun h305 => absurd (rfl) h305)
        exact kend S M T1 K1 qo T2 qa T3 qc T4 V0 V1 V2 V3 V4 V5 V6 V7 T5 hI
      · refine G.al X dL_law_277 2 rfl ?_
        refine G.al X dL_law_278 3 rfl ?_
        refine G.il X dL_law_279 0 rfl ?_
        refine G.pu X dL_law_280 ?_
        refine G.nadd X (a := i) (b := 1) dL_law_281 ?_
        refine G.sld X hX (i := i + 1) dL_law_282 (by omega) (by omega) ?_
        refine G.top (b := nI p) ep ?_
        refine G.al X dL_law_283 3 rfl ?_
        refine G.il X dL_law_284 0 rfl ?_
        refine G.pu X dL_law_285 ?_
        refine G.nadd X (a := i) (b := 2) dL_law_286 ?_
        refine G.sld X hX (i := i + 2) dL_law_287 (by omega) (by omega) ?_
        refine G.top (b := 4) ew9 ?_
        refine G.cvi X kX6_thing lL_28 dL_law_288 (tX6_thing_4 l D cI cW xx xn xt xk xe xo xv xc xr (m_hi M, m_rf M) S p hI.ok hp) ⟨Nat.le_of_ble_eq_true rfl, Nat.le_of_ble_eq_true rfl⟩ ⟨Nat.le_of_ble_eq_true rfl, Nat.le_of_ble_eq_true rfl⟩ [0, 1] rfl ⟨rfl, rfl⟩ rfl rfl 0 0 rfl rfl rfl rfl (Nat.le_of_ble_eq_true rfl) (ff_cons (xl_fst _ _ _ _ _ _ _ _ _ _ _ _) (ff_cons (wl_fst _ _ _ _) (ff_nil))) (ws' := [xl xx xn xt xk xe xo xv xc xr cI (m_hi M, m_rf M), wl xn cI S, wl xt cI T1, wl xk cI K1, tl xe cI (m_q M), ol xo xp cI qo, wl xp cI T2, al xv xq cI qa, wl xq cI T3, cl xc xs xw cW qc, wl xs cI T4, wl (xw 0) cI V0, wl (xw 1) cI V1, wl (xw 2) cI V2, wl (xw 3) cI V3, wl (xw 4) cI V4, wl (xw 5) cI V5, wl (xw 6) cI V6, wl (xw 7) cI V7, rl xr xu cI (m_rw M, m_rn M), wl xu cI T5, ml m cI S M]) rfl ?_
        refine G.al X dL_law_291 1 rfl ?_
        refine G.al X dL_law_292 3 rfl ?_
        refine G.il X dL_law_293 0 rfl ?_
        refine G.pu X dL_law_294 ?_
        refine G.nadd X (a := i) (b := 1) dL_law_295 ?_
        refine G.sld X hX (i := i + 1) dL_law_296 (by omega) (by omega) ?_
        refine G.top (b := nI p) ep ?_
        refine G.al X dL_law_297 3 rfl ?_
        refine G.il X dL_law_298 0 rfl ?_
        refine G.pu X dL_law_299 ?_
        refine G.nadd X (a := i) (b := 2) dL_law_300 ?_
        refine G.sld X hX (i := i + 2) dL_law_301 (by omega) (by omega) ?_
        refine G.top (b := 4) ew9 ?_
        refine G.cvi X kX7_thing lL_31 dL_law_302 (tX7_thing_4 l D cI cW m S M p hI.ok hp) ⟨Nat.le_of_ble_eq_true rfl, Nat.le_of_ble_eq_true rfl⟩ ⟨Nat.le_of_ble_eq_true rfl, Nat.le_of_ble_eq_true rfl⟩ [21] rfl ⟨rfl, rfl⟩ rfl rfl 21 0 rfl rfl rfl rfl (Nat.le_of_ble_eq_true rfl) (ff_cons (ml_fst _ _ _ _ _ _) (ff_nil)) (ws' := [xl xx xn xt xk xe xo xv xc xr cI (m_hi M, m_rf M), wl xn cI S, wl xt cI T1, wl xk cI K1, tl xe cI (m_q M), ol xo xp cI qo, wl xp cI T2, al xv xq cI qa, wl xq cI T3, cl xc xs xw cW qc, wl xs cI T4, wl (xw 0) cI V0, wl (xw 1) cI V1, wl (xw 2) cI V2, wl (xw 3) cI V3, wl (xw 4) cI V4, wl (xw 5) cI V5, wl (xw 6) cI V6, wl (xw 7) cI V7, rl xr xu cI (m_rw M, m_rn M), wl xu cI T5, ml m cI S M]) rfl ?_
        refine G.c_eq X (a := (s_le S p)) (b := (s_le S p)) dL_law_305 (fun h305 => ?_) (fun h305 => absurd (rfl) h305)
        exact kend S M T1 K1 qo T2 qa T3 qc T4 V0 V1 V2 V3 V4 V5 V6 V7 T5 hI
      · refine G.al X dL_law_277 2 rfl ?_
        refine G.al X dL_law_278 3 rfl ?_
        refine G.il X dL_law_279 0 rfl ?_
        refine G.pu X dL_law_280 ?_
        refine G.nadd X (a := i) (b := 1) dL_law_281 ?_
        refine G.sld X hX (i := i + 1) dL_law_282 (by omega) (by omega) ?_
        refine G.top (b := nI p) ep ?_
        refine G.al X dL_law_283 3 rfl ?_
        refine G.il X dL_law_284 0 rfl ?_
        refine G.pu X dL_law_285 ?_
        refine G.nadd X (a := i) (b := 2) dL_law_286 ?_
        refine G.sld X hX (i := i + 2) dL_law_287 (by omega) (by omega) ?_
        refine G.top (b := 5) ew9 ?_
        refine G.cvi X kX6_thing lL_28 dL_law_288 (tX6_thing_5 l D cI cW xx xn xt xk xe xo xv xc xr (m_hi M, m_rf M) S p hI.ok hp) ⟨Nat.le_of_ble_eq_true rfl, Nat.le_of_ble_eq_true rfl⟩ ⟨Nat.le_of_ble_eq_true rfl, Nat.le_of_ble_eq_true rfl⟩ [0, 1] rfl ⟨rfl, rfl⟩ rfl rfl 0 0 rfl rfl rfl rfl (Nat.le_of_ble_eq_true rfl) (ff_cons (xl_fst _ _ _ _ _ _ _ _ _ _ _ _) (ff_cons (wl_fst _ _ _ _) (ff_nil))) (ws' := [xl xx xn xt xk xe xo xv xc xr cI (m_hi M, m_rf M), wl xn cI S, wl xt cI T1, wl xk cI K1, tl xe cI (m_q M), ol xo xp cI qo, wl xp cI T2, al xv xq cI qa, wl xq cI T3, cl xc xs xw cW qc, wl xs cI T4, wl (xw 0) cI V0, wl (xw 1) cI V1, wl (xw 2) cI V2, wl (xw 3) cI V3, wl (xw 4) cI V4, wl (xw 5) cI V5, wl (xw 6) cI V6, wl (xw 7) cI V7, rl xr xu cI (m_rw M, m_rn M), wl xu cI T5, ml m cI S M]) rfl ?_
        refine G.al X dL_law_291 1 rfl ?_
        refine G.al X dL_law_292 3 rfl ?_
        refine G.il X dL_law_293 0 rfl ?_
        refine G.pu X dL_law_294 ?_
        refine G.nadd X (a := i) (b := 1) dL_law_295 ?_
        refine G.sld X hX (i := i + 1) dL_law_296 (by omega) (by omega) ?_
        refine G.top (b := nI p) ep ?_
        refine G.al X dL_law_297 3 rfl ?_
        refine G.il X dL_law_298 0 rfl ?_
        refine G.pu X dL_law_299 ?_
        refine G.nadd X (a := i) (b := 2) dL_law_300 ?_
        refine G.sld X hX (i := i + 2) dL_law_301 (by omega) (by omega) ?_
        refine G.top (b := 5) ew9 ?_
        refine G.cvi X kX7_thing lL_31 dL_law_302 (tX7_thing_5 l D cI cW m S M p hI.ok hp) ⟨Nat.le_of_ble_eq_true rfl, Nat.le_of_ble_eq_true rfl⟩ ⟨Nat.le_of_ble_eq_true rfl, Nat.le_of_ble_eq_true rfl⟩ [21] rfl ⟨rfl, rfl⟩ rfl rfl 21 0 rfl rfl rfl rfl (Nat.le_of_ble_eq_true rfl) (ff_cons (ml_fst _ _ _ _ _ _) (ff_nil)) (ws' := [xl xx xn xt xk xe xo xv xc xr cI (m_hi M, m_rf M), wl xn cI S, wl xt cI T1, wl xk cI K1, tl xe cI (m_q M), ol xo xp cI qo, wl xp cI T2, al xv xq cI qa, wl xq cI T3, cl xc xs xw cW qc, wl xs cI T4, wl (xw 0) cI V0, wl (xw 1) cI V1, wl (xw 2) cI V2, wl (xw 3) cI V3, wl (xw 4) cI V4, wl (xw 5) cI V5, wl (xw 6) cI V6, wl (xw 7) cI V7, rl xr xu cI (m_rw M, m_rn M), wl xu cI T5, ml m cI S M]) rfl ?_
        refine G.c_eq X (a := (top S p)) (b := (top S p)) dL_law_305 (fun h305 => ?_) (fun h305 => absurd (rfl) h305)
        exact kend S M T1 K1 qo T2 qa T3 qc T4 V0 V1 V2 V3 V4 V5 V6 V7 T5 hI
      · refine G.al X dL_law_277 2 rfl ?_
        refine G.al X dL_law_278 3 rfl ?_
        refine G.il X dL_law_279 0 rfl ?_
        refine G.pu X dL_law_280 ?_
        refine G.nadd X (a := i) (b := 1) dL_law_281 ?_
        refine G.sld X hX (i := i + 1) dL_law_282 (by omega) (by omega) ?_
        refine G.top (b := nI p) ep ?_
        refine G.al X dL_law_283 3 rfl ?_
        refine G.il X dL_law_284 0 rfl ?_
        refine G.pu X dL_law_285 ?_
        refine G.nadd X (a := i) (b := 2) dL_law_286 ?_
        refine G.sld X hX (i := i + 2) dL_law_287 (by omega) (by omega) ?_
        refine G.top (b := 6) ew9 ?_
        refine G.cvi X kX6_thing lL_28 dL_law_288 (tX6_thing_6 l D cI cW xx xn xt xk xe xo xv xc xr (m_hi M, m_rf M) S p hI.ok hp) ⟨Nat.le_of_ble_eq_true rfl, Nat.le_of_ble_eq_true rfl⟩ ⟨Nat.le_of_ble_eq_true rfl, Nat.le_of_ble_eq_true rfl⟩ [0, 1] rfl ⟨rfl, rfl⟩ rfl rfl 0 0 rfl rfl rfl rfl (Nat.le_of_ble_eq_true rfl) (ff_cons (xl_fst _ _ _ _ _ _ _ _ _ _ _ _) (ff_cons (wl_fst _ _ _ _) (ff_nil))) (ws' := [xl xx xn xt xk xe xo xv xc xr cI (m_hi M, m_rf M), wl xn cI S, wl xt cI T1, wl xk cI K1, tl xe cI (m_q M), ol xo xp cI qo, wl xp cI T2, al xv xq cI qa, wl xq cI T3, cl xc xs xw cW qc, wl xs cI T4, wl (xw 0) cI V0, wl (xw 1) cI V1, wl (xw 2) cI V2, wl (xw 3) cI V3, wl (xw 4) cI V4, wl (xw 5) cI V5, wl (xw 6) cI V6, wl (xw 7) cI V7, rl xr xu cI (m_rw M, m_rn M), wl xu cI T5, ml m cI S M]) rfl ?_
        refine G.al X dL_law_291 1 rfl ?_
        refine G.al X dL_law_292 3 rfl ?_
        refine G.il X dL_law_293 0 rfl ?_
        refine G.pu X dL_law_294 ?_
        refine G.nadd X (a := i) (b := 1) dL_law_295 ?_
        refine G.sld X hX (i := i + 1) dL_law_296 (by omega) (by omega) ?_
        refine G.top (b := nI p) ep ?_
        refine G.al X dL_law_297 3 rfl ?_
        refine G.il X dL_law_298 0 rfl ?_
        refine G.pu X dL_law_299 ?_
        refine G.nadd X (a := i) (b := 2) dL_law_300 ?_
        refine G.sld X hX (i := i + 2) dL_law_301 (by omega) (by omega) ?_
        refine G.top (b := 6) ew9 ?_
        refine G.cvi X kX7_thing lL_31 dL_law_302 (tX7_thing_6 l D cI cW m S M p hI.ok hp) ⟨Nat.le_of_ble_eq_true rfl, Nat.le_of_ble_eq_true rfl⟩ ⟨Nat.le_of_ble_eq_true rfl, Nat.le_of_ble_eq_true rfl⟩ [21] rfl ⟨rfl, rfl⟩ rfl rfl 21 0 rfl rfl rfl rfl (Nat.le_of_ble_eq_true rfl) (ff_cons (ml_fst _ _ _ _ _ _) (ff_nil)) (ws' := [xl xx xn xt xk xe xo xv xc xr cI (m_hi M, m_rf M), wl xn cI S, wl xt cI T1, wl xk cI K1, tl xe cI (m_q M), ol xo xp cI qo, wl xp cI T2, al xv xq cI qa, wl xq cI T3, cl xc xs xw cW qc, wl xs cI T4, wl (xw 0) cI V0, wl (xw 1) cI V1, wl (xw 2) cI V2, wl (xw 3) cI V3, wl (xw 4) cI V4, wl (xw 5) cI V5, wl (xw 6) cI V6, wl (xw 7) cI V7, rl xr xu cI (m_rw M, m_rn M), wl xu cI T5, ml m cI S M]) rfl ?_
        refine G.c_eq X (a := (b2i (ask S p))) (b := (b2i (ask S p))) dL_law_305 (fun h305 => ?_) (fun h305 => absurd (rfl) h305)
        exact kend S M T1 K1 qo T2 qa T3 qc T4 V0 V1 V2 V3 V4 V5 V6 V7 T5 hI
    · replace zw : z_in (sc (i + 2)) 7 = false := by simpa using zw
      refine G.al X dL_law_277 2 rfl ?_
      refine G.al X dL_law_278 3 rfl ?_
      refine G.il X dL_law_279 0 rfl ?_
      refine G.pu X dL_law_280 ?_
      refine G.nadd X (a := i) (b := 1) dL_law_281 ?_
      refine G.sld X hX (i := i + 1) dL_law_282 (by omega) (by omega) ?_
      refine G.top (b := nI p) ep ?_
      refine G.al X dL_law_283 3 rfl ?_
      refine G.il X dL_law_284 0 rfl ?_
      refine G.pu X dL_law_285 ?_
      refine G.nadd X (a := i) (b := 2) dL_law_286 ?_
      refine G.sld X hX (i := i + 2) dL_law_287 (by omega) (by omega) ?_
      refine G.cvi X kX6_thing lL_28 dL_law_288 (tX6_thing_oth l D cI cW xx xn xt xk xe xo xv xc xr (m_hi M, m_rf M) S p (sc (i + 2)) hI.ok hp zw) ⟨Nat.le_of_ble_eq_true rfl, Nat.le_of_ble_eq_true rfl⟩ ⟨Nat.le_of_ble_eq_true rfl, Nat.le_of_ble_eq_true rfl⟩ [0, 1] rfl ⟨rfl, rfl⟩ rfl rfl 0 0 rfl rfl rfl rfl (Nat.le_of_ble_eq_true rfl) (ff_cons (xl_fst _ _ _ _ _ _ _ _ _ _ _ _) (ff_cons (wl_fst _ _ _ _) (ff_nil))) (ws' := [xl xx xn xt xk xe xo xv xc xr cI (x_rf (m_hi M, m_rf M) 2), wl xn cI S, wl xt cI T1, wl xk cI K1, tl xe cI (m_q M), ol xo xp cI qo, wl xp cI T2, al xv xq cI qa, wl xq cI T3, cl xc xs xw cW qc, wl xs cI T4, wl (xw 0) cI V0, wl (xw 1) cI V1, wl (xw 2) cI V2, wl (xw 3) cI V3, wl (xw 4) cI V4, wl (xw 5) cI V5, wl (xw 6) cI V6, wl (xw 7) cI V7, rl xr xu cI (m_rw M, m_rn M), wl xu cI T5, ml m cI S M]) rfl ?_
      refine G.al X dL_law_291 1 rfl ?_
      refine G.al X dL_law_292 3 rfl ?_
      refine G.il X dL_law_293 0 rfl ?_
      refine G.pu X dL_law_294 ?_
      refine G.nadd X (a := i) (b := 1) dL_law_295 ?_
      refine G.sld X hX (i := i + 1) dL_law_296 (by omega) (by omega) ?_
      refine G.top (b := nI p) ep ?_
      refine G.al X dL_law_297 3 rfl ?_
      refine G.il X dL_law_298 0 rfl ?_
      refine G.pu X dL_law_299 ?_
      refine G.nadd X (a := i) (b := 2) dL_law_300 ?_
      refine G.sld X hX (i := i + 2) dL_law_301 (by omega) (by omega) ?_
      refine G.cvi X kX7_thing lL_31 dL_law_302 (tX7_thing_oth l D cI cW m S M p (sc (i + 2)) hI.ok hp zw) ⟨Nat.le_of_ble_eq_true rfl, Nat.le_of_ble_eq_true rfl⟩ ⟨Nat.le_of_ble_eq_true rfl, Nat.le_of_ble_eq_true rfl⟩ [21] rfl ⟨rfl, rfl⟩ rfl rfl 21 0 rfl rfl rfl rfl (Nat.le_of_ble_eq_true rfl) (ff_cons (ml_fst _ _ _ _ _ _) (ff_nil)) (ws' := [xl xx xn xt xk xe xo xv xc xr cI (x_rf (m_hi M, m_rf M) 2), wl xn cI S, wl xt cI T1, wl xk cI K1, tl xe cI (m_q M), ol xo xp cI qo, wl xp cI T2, al xv xq cI qa, wl xq cI T3, cl xc xs xw cW qc, wl xs cI T4, wl (xw 0) cI V0, wl (xw 1) cI V1, wl (xw 2) cI V2, wl (xw 3) cI V3, wl (xw 4) cI V4, wl (xw 5) cI V5, wl (xw 6) cI V6, wl (xw 7) cI V7, rl xr xu cI (m_rw M, m_rn M), wl xu cI T5, ml m cI S (m_no M 2)]) rfl ?_
      refine G.c_eq X (a := (-2)) (b := (-2)) dL_law_305 (fun h305 => ?_) (fun h305 => absurd (rfl) h305)
      exact kend S (m_no M 2) T1 K1 qo T2 qa T3 qc T4 V0 V1 V2 V3 V4 V5 V6 V7 T5 (hI.no 2)
  · replace zp : z_in (sc (i + 1)) (s_th S) = false := by simpa using zp
    refine G.al X dL_law_277 2 rfl ?_
    refine G.al X dL_law_278 3 rfl ?_
    refine G.il X dL_law_279 0 rfl ?_
    refine G.pu X dL_law_280 ?_
    refine G.nadd X (a := i) (b := 1) dL_law_281 ?_
    refine G.sld X hX (i := i + 1) dL_law_282 (by omega) (by omega) ?_
    refine G.al X dL_law_283 3 rfl ?_
    refine G.il X dL_law_284 0 rfl ?_
    refine G.pu X dL_law_285 ?_
    refine G.nadd X (a := i) (b := 2) dL_law_286 ?_
    refine G.sld X hX (i := i + 2) dL_law_287 (by omega) (by omega) ?_
    refine G.cvi X kX6_thing lL_28 dL_law_288 (tX6_thing_bad l D cI cW xx xn xt xk xe xo xv xc xr (m_hi M, m_rf M) S (sc (i + 1)) (sc (i + 2)) hI.ok zp) ⟨Nat.le_of_ble_eq_true rfl, Nat.le_of_ble_eq_true rfl⟩ ⟨Nat.le_of_ble_eq_true rfl, Nat.le_of_ble_eq_true rfl⟩ [0, 1] rfl ⟨rfl, rfl⟩ rfl rfl 0 0 rfl rfl rfl rfl (Nat.le_of_ble_eq_true rfl) (ff_cons (xl_fst _ _ _ _ _ _ _ _ _ _ _ _) (ff_cons (wl_fst _ _ _ _) (ff_nil))) (ws' := [xl xx xn xt xk xe xo xv xc xr cI (x_rf (m_hi M, m_rf M) 1), wl xn cI S, wl xt cI T1, wl xk cI K1, tl xe cI (m_q M), ol xo xp cI qo, wl xp cI T2, al xv xq cI qa, wl xq cI T3, cl xc xs xw cW qc, wl xs cI T4, wl (xw 0) cI V0, wl (xw 1) cI V1, wl (xw 2) cI V2, wl (xw 3) cI V3, wl (xw 4) cI V4, wl (xw 5) cI V5, wl (xw 6) cI V6, wl (xw 7) cI V7, rl xr xu cI (m_rw M, m_rn M), wl xu cI T5, ml m cI S M]) rfl ?_
    refine G.al X dL_law_291 1 rfl ?_
    refine G.al X dL_law_292 3 rfl ?_
    refine G.il X dL_law_293 0 rfl ?_
    refine G.pu X dL_law_294 ?_
    refine G.nadd X (a := i) (b := 1) dL_law_295 ?_
    refine G.sld X hX (i := i + 1) dL_law_296 (by omega) (by omega) ?_
    refine G.al X dL_law_297 3 rfl ?_
    refine G.il X dL_law_298 0 rfl ?_
    refine G.pu X dL_law_299 ?_
    refine G.nadd X (a := i) (b := 2) dL_law_300 ?_
    refine G.sld X hX (i := i + 2) dL_law_301 (by omega) (by omega) ?_
    refine G.cvi X kX7_thing lL_31 dL_law_302 (tX7_thing_bad l D cI cW m S M (sc (i + 1)) (sc (i + 2)) hI.ok zp) ⟨Nat.le_of_ble_eq_true rfl, Nat.le_of_ble_eq_true rfl⟩ ⟨Nat.le_of_ble_eq_true rfl, Nat.le_of_ble_eq_true rfl⟩ [21] rfl ⟨rfl, rfl⟩ rfl rfl 21 0 rfl rfl rfl rfl (Nat.le_of_ble_eq_true rfl) (ff_cons (ml_fst _ _ _ _ _ _) (ff_nil)) (ws' := [xl xx xn xt xk xe xo xv xc xr cI (x_rf (m_hi M, m_rf M) 1), wl xn cI S, wl xt cI T1, wl xk cI K1, tl xe cI (m_q M), ol xo xp cI qo, wl xp cI T2, al xv xq cI qa, wl xq cI T3, cl xc xs xw cW qc, wl xs cI T4, wl (xw 0) cI V0, wl (xw 1) cI V1, wl (xw 2) cI V2, wl (xw 3) cI V3, wl (xw 4) cI V4, wl (xw 5) cI V5, wl (xw 6) cI V6, wl (xw 7) cI V7, rl xr xu cI (m_rw M, m_rn M), wl xu cI T5, ml m cI S (m_no M 1)]) rfl ?_
    refine G.c_eq X (a := (-1)) (b := (-1)) dL_law_305 (fun h305 => ?_) (fun h305 => absurd (rfl) h305)
    exact kend S (m_no M 1) T1 K1 qo T2 qa T3 qc T4 V0 V1 V2 V3 V4 V5 V6 V7 T5 (hI.no 1)

set_option maxRecDepth 20000 in
theorem law_4 {l : Launch} {D : va_G} {cI cW : ClassId} {x : GC} (X : GOK x l D cI cW RL cL_law 4 room_1) {b L i : Nat} {sc : Nat → Int32} (hX : GX x b L sc) (hL : L ≤ 2560) (hi : i + 5 ≤ L) {xx xn xt xk xe xo xp xv xq xc xs : Nat → Nat} {xw : Nat → Nat → Nat} {xr xu m : Nat → Nat} (kend : ∀ (S : WS) (M : MS) (T1 : WS) (K1 : WS) (qo : FN) (T2 : WS) (qa : FN × FN) (T3 : WS) (qc : Int32 × Int32 × Int32) (T4 : WS) (V0 : WS) (V1 : WS) (V2 : WS) (V3 : WS) (V4 : WS) (V5 : WS) (V6 : WS) (V7 : WS) (T5 : WS), IV S M K1 → G x 165 1897 (LW cI cW xx xn xt xk xe xo xp xv xq xc xs xw xr xu m S M T1 K1 qo T2 qa T3 qc T4 V0 V1 V2 V3 V4 V5 V6 V7 T5) 1230 [(3, .int (nI i)), (2, .ref (m 0)), (1, .ref (xx 0)), (0, .ref b)] []) (S : WS) (M : MS) (T1 : WS) (K1 : WS) (qo : FN) (T2 : WS) (qa : FN × FN) (T3 : WS) (qc : Int32 × Int32 × Int32) (T4 : WS) (V0 : WS) (V1 : WS) (V2 : WS) (V3 : WS) (V4 : WS) (V5 : WS) (V6 : WS) (V7 : WS) (T5 : WS) (hI : IV S M K1) : G x 165 1897 (LW cI cW xx xn xt xk xe xo xp xv xq xc xs xw xr xu m S M T1 K1 qo T2 qa T3 qc T4 V0 V1 V2 V3 V4 V5 V6 V7 T5) 310 [(3, .int (nI i)), (2, .ref (m 0)), (1, .ref (xx 0)), (0, .ref b)] [] := by
  show G x 165 1897 ([xl xx xn xt xk xe xo xv xc xr cI (m_hi M, m_rf M), wl xn cI S, wl xt cI T1, wl xk cI K1, tl xe cI (m_q M), ol xo xp cI qo, wl xp cI T2, al xv xq cI qa, wl xq cI T3, cl xc xs xw cW qc, wl xs cI T4, wl (xw 0) cI V0, wl (xw 1) cI V1, wl (xw 2) cI V2, wl (xw 3) cI V3, wl (xw 4) cI V4, wl (xw 5) cI V5, wl (xw 6) cI V6, wl (xw 7) cI V7, rl xr xu cI (m_rw M, m_rn M), wl xu cI T5, ml m cI S M]) 310 [(3, .int (nI i)), (2, .ref (m 0)), (1, .ref (xx 0)), (0, .ref b)] []
  by_cases zp : z_in (sc (i + 1)) (s_th S) = true
  · obtain ⟨p, hp, ep⟩ := z_in_t zp
    refine G.al X dL_law_310 2 rfl ?_
    refine G.al X dL_law_311 3 rfl ?_
    refine G.il X dL_law_312 0 rfl ?_
    refine G.pu X dL_law_313 ?_
    refine G.nadd X (a := i) (b := 1) dL_law_314 ?_
    refine G.sld X hX (i := i + 1) dL_law_315 (by omega) (by omega) ?_
    refine G.top (b := nI p) ep ?_
    refine G.cvi X kX6_drops lL_32 dL_law_316 (tX6_drops_ok l D cI cW xx xn xt xk xe xo xv xc xr (m_hi M, m_rf M) S p hI.ok hp) ⟨Nat.le_of_ble_eq_true rfl, Nat.le_of_ble_eq_true rfl⟩ ⟨Nat.le_of_ble_eq_true rfl, Nat.le_of_ble_eq_true rfl⟩ [0, 1] rfl ⟨rfl, rfl⟩ rfl rfl 0 0 rfl rfl rfl rfl (Nat.le_of_ble_eq_true rfl) (ff_cons (xl_fst _ _ _ _ _ _ _ _ _ _ _ _) (ff_cons (wl_fst _ _ _ _) (ff_nil))) (ws' := [xl xx xn xt xk xe xo xv xc xr cI (m_hi M, m_rf M), wl xn cI (w_fall S p), wl xt cI T1, wl xk cI K1, tl xe cI (m_q M), ol xo xp cI qo, wl xp cI T2, al xv xq cI qa, wl xq cI T3, cl xc xs xw cW qc, wl xs cI T4, wl (xw 0) cI V0, wl (xw 1) cI V1, wl (xw 2) cI V2, wl (xw 3) cI V3, wl (xw 4) cI V4, wl (xw 5) cI V5, wl (xw 6) cI V6, wl (xw 7) cI V7, rl xr xu cI (m_rw M, m_rn M), wl xu cI T5, ml m cI S M]) rfl ?_
    refine G.al X dL_law_319 1 rfl ?_
    refine G.al X dL_law_320 3 rfl ?_
    refine G.il X dL_law_321 0 rfl ?_
    refine G.pu X dL_law_322 ?_
    refine G.nadd X (a := i) (b := 1) dL_law_323 ?_
    refine G.sld X hX (i := i + 1) dL_law_324 (by omega) (by omega) ?_
    refine G.top (b := nI p) ep ?_
    refine G.cvi X kX7_drops lL_35 dL_law_325 (tX7_drops_ok l D cI cW m S M p hI.ok hp) ⟨Nat.le_of_ble_eq_true rfl, Nat.le_of_ble_eq_true rfl⟩ ⟨Nat.le_of_ble_eq_true rfl, Nat.le_of_ble_eq_true rfl⟩ [21] rfl ⟨rfl, rfl⟩ rfl rfl 21 0 rfl rfl rfl rfl (Nat.le_of_ble_eq_true rfl) (ff_cons (ml_fst _ _ _ _ _ _) (ff_nil)) (ws' := [xl xx xn xt xk xe xo xv xc xr cI (m_hi M, m_rf M), wl xn cI (w_fall S p), wl xt cI T1, wl xk cI K1, tl xe cI (m_q M), ol xo xp cI qo, wl xp cI T2, al xv xq cI qa, wl xq cI T3, cl xc xs xw cW qc, wl xs cI T4, wl (xw 0) cI V0, wl (xw 1) cI V1, wl (xw 2) cI V2, wl (xw 3) cI V3, wl (xw 4) cI V4, wl (xw 5) cI V5, wl (xw 6) cI V6, wl (xw 7) cI V7, rl xr xu cI (m_rw M, m_rn M), wl xu cI T5, ml m cI (w_fall S p) M]) rfl ?_
    refine G.c_eq X (a := (s_wa (w_fall S p) p)) (b := (s_wa (w_fall S p) p)) dL_law_328 (fun h328 => ?_) (fun h328 => absurd (rfl) h328)
    exact kend (w_fall S p) M T1 K1 qo T2 qa T3 qc T4 V0 V1 V2 V3 V4 V5 V6 V7 T5 (hI.S (ok_fall hI.ok hp))
  · replace zp : z_in (sc (i + 1)) (s_th S) = false := by simpa using zp
    refine G.al X dL_law_310 2 rfl ?_
    refine G.al X dL_law_311 3 rfl ?_
    refine G.il X dL_law_312 0 rfl ?_
    refine G.pu X dL_law_313 ?_
    refine G.nadd X (a := i) (b := 1) dL_law_314 ?_
    refine G.sld X hX (i := i + 1) dL_law_315 (by omega) (by omega) ?_
    refine G.cvi X kX6_drops lL_32 dL_law_316 (tX6_drops_bad l D cI cW xx xn xt xk xe xo xv xc xr (m_hi M, m_rf M) S (sc (i + 1)) hI.ok zp) ⟨Nat.le_of_ble_eq_true rfl, Nat.le_of_ble_eq_true rfl⟩ ⟨Nat.le_of_ble_eq_true rfl, Nat.le_of_ble_eq_true rfl⟩ [0, 1] rfl ⟨rfl, rfl⟩ rfl rfl 0 0 rfl rfl rfl rfl (Nat.le_of_ble_eq_true rfl) (ff_cons (xl_fst _ _ _ _ _ _ _ _ _ _ _ _) (ff_cons (wl_fst _ _ _ _) (ff_nil))) (ws' := [xl xx xn xt xk xe xo xv xc xr cI (x_rf (m_hi M, m_rf M) 1), wl xn cI S, wl xt cI T1, wl xk cI K1, tl xe cI (m_q M), ol xo xp cI qo, wl xp cI T2, al xv xq cI qa, wl xq cI T3, cl xc xs xw cW qc, wl xs cI T4, wl (xw 0) cI V0, wl (xw 1) cI V1, wl (xw 2) cI V2, wl (xw 3) cI V3, wl (xw 4) cI V4, wl (xw 5) cI V5, wl (xw 6) cI V6, wl (xw 7) cI V7, rl xr xu cI (m_rw M, m_rn M), wl xu cI T5, ml m cI S M]) rfl ?_
    refine G.al X dL_law_319 1 rfl ?_
    refine G.al X dL_law_320 3 rfl ?_
    refine G.il X dL_law_321 0 rfl ?_
    refine G.pu X dL_law_322 ?_
    refine G.nadd X (a := i) (b := 1) dL_law_323 ?_
    refine G.sld X hX (i := i + 1) dL_law_324 (by omega) (by omega) ?_
    refine G.cvi X kX7_drops lL_35 dL_law_325 (tX7_drops_bad l D cI cW m S M (sc (i + 1)) hI.ok zp) ⟨Nat.le_of_ble_eq_true rfl, Nat.le_of_ble_eq_true rfl⟩ ⟨Nat.le_of_ble_eq_true rfl, Nat.le_of_ble_eq_true rfl⟩ [21] rfl ⟨rfl, rfl⟩ rfl rfl 21 0 rfl rfl rfl rfl (Nat.le_of_ble_eq_true rfl) (ff_cons (ml_fst _ _ _ _ _ _) (ff_nil)) (ws' := [xl xx xn xt xk xe xo xv xc xr cI (x_rf (m_hi M, m_rf M) 1), wl xn cI S, wl xt cI T1, wl xk cI K1, tl xe cI (m_q M), ol xo xp cI qo, wl xp cI T2, al xv xq cI qa, wl xq cI T3, cl xc xs xw cW qc, wl xs cI T4, wl (xw 0) cI V0, wl (xw 1) cI V1, wl (xw 2) cI V2, wl (xw 3) cI V3, wl (xw 4) cI V4, wl (xw 5) cI V5, wl (xw 6) cI V6, wl (xw 7) cI V7, rl xr xu cI (m_rw M, m_rn M), wl xu cI T5, ml m cI S (m_no M 1)]) rfl ?_
    refine G.c_eq X (a := (-1)) (b := (-1)) dL_law_328 (fun h328 => ?_) (fun h328 => absurd (rfl) h328)
    exact kend S (m_no M 1) T1 K1 qo T2 qa T3 qc T4 V0 V1 V2 V3 V4 V5 V6 V7 T5 (hI.no 1)

set_option maxRecDepth 20000 in
theorem law_5 {l : Launch} {D : va_G} {cI cW : ClassId} {x : GC} (X : GOK x l D cI cW RL cL_law 4 room_1) {b L i : Nat} {sc : Nat → Int32} (hX : GX x b L sc) (hL : L ≤ 2560) (hi : i + 5 ≤ L) {xx xn xt xk xe xo xp xv xq xc xs : Nat → Nat} {xw : Nat → Nat → Nat} {xr xu m : Nat → Nat} (kend : ∀ (S : WS) (M : MS) (T1 : WS) (K1 : WS) (qo : FN) (T2 : WS) (qa : FN × FN) (T3 : WS) (qc : Int32 × Int32 × Int32) (T4 : WS) (V0 : WS) (V1 : WS) (V2 : WS) (V3 : WS) (V4 : WS) (V5 : WS) (V6 : WS) (V7 : WS) (T5 : WS), IV S M K1 → G x 165 1897 (LW cI cW xx xn xt xk xe xo xp xv xq xc xs xw xr xu m S M T1 K1 qo T2 qa T3 qc T4 V0 V1 V2 V3 V4 V5 V6 V7 T5) 1230 [(3, .int (nI i)), (2, .ref (m 0)), (1, .ref (xx 0)), (0, .ref b)] []) (S : WS) (M : MS) (T1 : WS) (K1 : WS) (qo : FN) (T2 : WS) (qa : FN × FN) (T3 : WS) (qc : Int32 × Int32 × Int32) (T4 : WS) (V0 : WS) (V1 : WS) (V2 : WS) (V3 : WS) (V4 : WS) (V5 : WS) (V6 : WS) (V7 : WS) (T5 : WS) (hI : IV S M K1) : G x 165 1897 (LW cI cW xx xn xt xk xe xo xp xv xq xc xs xw xr xu m S M T1 K1 qo T2 qa T3 qc T4 V0 V1 V2 V3 V4 V5 V6 V7 T5) 333 [(3, .int (nI i)), (2, .ref (m 0)), (1, .ref (xx 0)), (0, .ref b)] [] := by
  show G x 165 1897 ([xl xx xn xt xk xe xo xv xc xr cI (m_hi M, m_rf M), wl xn cI S, wl xt cI T1, wl xk cI K1, tl xe cI (m_q M), ol xo xp cI qo, wl xp cI T2, al xv xq cI qa, wl xq cI T3, cl xc xs xw cW qc, wl xs cI T4, wl (xw 0) cI V0, wl (xw 1) cI V1, wl (xw 2) cI V2, wl (xw 3) cI V3, wl (xw 4) cI V4, wl (xw 5) cI V5, wl (xw 6) cI V6, wl (xw 7) cI V7, rl xr xu cI (m_rw M, m_rn M), wl xu cI T5, ml m cI S M]) 333 [(3, .int (nI i)), (2, .ref (m 0)), (1, .ref (xx 0)), (0, .ref b)] []
  by_cases zp : z_in (sc (i + 1)) (s_pe S) = true
  · obtain ⟨p, hp, ep⟩ := z_in_t zp
    by_cases zt : z_in (sc (i + 2)) 8 = true
    · obtain ⟨t, ht, et⟩ := z_in_t zt
      refine G.al X dL_law_333 2 rfl ?_
      refine G.al X dL_law_334 3 rfl ?_
      refine G.il X dL_law_335 0 rfl ?_
      refine G.pu X dL_law_336 ?_
      refine G.nadd X (a := i) (b := 1) dL_law_337 ?_
      refine G.sld X hX (i := i + 1) dL_law_338 (by omega) (by omega) ?_
      refine G.top (b := nI p) ep ?_
      refine G.al X dL_law_339 3 rfl ?_
      refine G.il X dL_law_340 0 rfl ?_
      refine G.pu X dL_law_341 ?_
      refine G.nadd X (a := i) (b := 2) dL_law_342 ?_
      refine G.sld X hX (i := i + 2) dL_law_343 (by omega) (by omega) ?_
      refine G.top (b := nI t) et ?_
      refine G.cvi X kX6_learns lL_36 dL_law_344 (tX6_learns_ok l D cI cW xx xn xt xk xe xo xv xc xr (m_hi M, m_rf M) S p t hI.ok hp ht) ⟨Nat.le_of_ble_eq_true rfl, Nat.le_of_ble_eq_true rfl⟩ ⟨Nat.le_of_ble_eq_true rfl, Nat.le_of_ble_eq_true rfl⟩ [0, 1] rfl ⟨rfl, rfl⟩ rfl rfl 0 0 rfl rfl rfl rfl (Nat.le_of_ble_eq_true rfl) (ff_cons (xl_fst _ _ _ _ _ _ _ _ _ _ _ _) (ff_cons (wl_fst _ _ _ _) (ff_nil))) (ws' := [xl xx xn xt xk xe xo xv xc xr cI (m_hi M, m_rf M), wl xn cI (w_lrn S p (nI t)), wl xt cI T1, wl xk cI K1, tl xe cI (m_q M), ol xo xp cI qo, wl xp cI T2, al xv xq cI qa, wl xq cI T3, cl xc xs xw cW qc, wl xs cI T4, wl (xw 0) cI V0, wl (xw 1) cI V1, wl (xw 2) cI V2, wl (xw 3) cI V3, wl (xw 4) cI V4, wl (xw 5) cI V5, wl (xw 6) cI V6, wl (xw 7) cI V7, rl xr xu cI (m_rw M, m_rn M), wl xu cI T5, ml m cI S M]) rfl ?_
      refine G.al X dL_law_347 1 rfl ?_
      refine G.al X dL_law_348 3 rfl ?_
      refine G.il X dL_law_349 0 rfl ?_
      refine G.pu X dL_law_350 ?_
      refine G.nadd X (a := i) (b := 1) dL_law_351 ?_
      refine G.sld X hX (i := i + 1) dL_law_352 (by omega) (by omega) ?_
      refine G.top (b := nI p) ep ?_
      refine G.al X dL_law_353 3 rfl ?_
      refine G.il X dL_law_354 0 rfl ?_
      refine G.pu X dL_law_355 ?_
      refine G.nadd X (a := i) (b := 2) dL_law_356 ?_
      refine G.sld X hX (i := i + 2) dL_law_357 (by omega) (by omega) ?_
      refine G.top (b := nI t) et ?_
      refine G.cvi X kX7_learns lL_39 dL_law_358 (tX7_learns_ok l D cI cW m S M p t hI.ok hp ht) ⟨Nat.le_of_ble_eq_true rfl, Nat.le_of_ble_eq_true rfl⟩ ⟨Nat.le_of_ble_eq_true rfl, Nat.le_of_ble_eq_true rfl⟩ [21] rfl ⟨rfl, rfl⟩ rfl rfl 21 0 rfl rfl rfl rfl (Nat.le_of_ble_eq_true rfl) (ff_cons (ml_fst _ _ _ _ _ _) (ff_nil)) (ws' := [xl xx xn xt xk xe xo xv xc xr cI (m_hi M, m_rf M), wl xn cI (w_lrn S p (nI t)), wl xt cI T1, wl xk cI K1, tl xe cI (m_q M), ol xo xp cI qo, wl xp cI T2, al xv xq cI qa, wl xq cI T3, cl xc xs xw cW qc, wl xs cI T4, wl (xw 0) cI V0, wl (xw 1) cI V1, wl (xw 2) cI V2, wl (xw 3) cI V3, wl (xw 4) cI V4, wl (xw 5) cI V5, wl (xw 6) cI V6, wl (xw 7) cI V7, rl xr xu cI (m_rw M, m_rn M), wl xu cI T5, ml m cI (w_lrn S p (nI t)) M]) rfl ?_
      refine G.c_eq X (a := ((s_kn (w_lrn S p (nI t)) p >>> (nI t &&& 31)) &&& 1)) (b := ((s_kn (w_lrn S p (nI t)) p >>> (nI t &&& 31)) &&& 1)) dL_law_361 (fun h361 => ?_) (fun h361 => absurd (rfl) h361)
      exact kend (w_lrn S p (nI t)) M T1 K1 qo T2 qa T3 qc T4 V0 V1 V2 V3 V4 V5 V6 V7 T5 (hI.S (zi_lrn hI.ok _ _))
    · replace zt : z_in (sc (i + 2)) 8 = false := by simpa using zt
      refine G.al X dL_law_333 2 rfl ?_
      refine G.al X dL_law_334 3 rfl ?_
      refine G.il X dL_law_335 0 rfl ?_
      refine G.pu X dL_law_336 ?_
      refine G.nadd X (a := i) (b := 1) dL_law_337 ?_
      refine G.sld X hX (i := i + 1) dL_law_338 (by omega) (by omega) ?_
      refine G.top (b := nI p) ep ?_
      refine G.al X dL_law_339 3 rfl ?_
      refine G.il X dL_law_340 0 rfl ?_
      refine G.pu X dL_law_341 ?_
      refine G.nadd X (a := i) (b := 2) dL_law_342 ?_
      refine G.sld X hX (i := i + 2) dL_law_343 (by omega) (by omega) ?_
      refine G.cvi X kX6_learns lL_36 dL_law_344 (tX6_learns_bad l D cI cW xx xn xt xk xe xo xv xc xr (m_hi M, m_rf M) S (nI p) (sc (i + 2)) hI.ok (Or.inr zt)) ⟨Nat.le_of_ble_eq_true rfl, Nat.le_of_ble_eq_true rfl⟩ ⟨Nat.le_of_ble_eq_true rfl, Nat.le_of_ble_eq_true rfl⟩ [0, 1] rfl ⟨rfl, rfl⟩ rfl rfl 0 0 rfl rfl rfl rfl (Nat.le_of_ble_eq_true rfl) (ff_cons (xl_fst _ _ _ _ _ _ _ _ _ _ _ _) (ff_cons (wl_fst _ _ _ _) (ff_nil))) (ws' := [xl xx xn xt xk xe xo xv xc xr cI (x_rf (m_hi M, m_rf M) 1), wl xn cI S, wl xt cI T1, wl xk cI K1, tl xe cI (m_q M), ol xo xp cI qo, wl xp cI T2, al xv xq cI qa, wl xq cI T3, cl xc xs xw cW qc, wl xs cI T4, wl (xw 0) cI V0, wl (xw 1) cI V1, wl (xw 2) cI V2, wl (xw 3) cI V3, wl (xw 4) cI V4, wl (xw 5) cI V5, wl (xw 6) cI V6, wl (xw 7) cI V7, rl xr xu cI (m_rw M, m_rn M), wl xu cI T5, ml m cI S M]) rfl ?_
      refine G.al X dL_law_347 1 rfl ?_
      refine G.al X dL_law_348 3 rfl ?_
      refine G.il X dL_law_349 0 rfl ?_
      refine G.pu X dL_law_350 ?_
      refine G.nadd X (a := i) (b := 1) dL_law_351 ?_
      refine G.sld X hX (i := i + 1) dL_law_352 (by omega) (by omega) ?_
      refine G.top (b := nI p) ep ?_
      refine G.al X dL_law_353 3 rfl ?_
      refine G.il X dL_law_354 0 rfl ?_
      refine G.pu X dL_law_355 ?_
      refine G.nadd X (a := i) (b := 2) dL_law_356 ?_
      refine G.sld X hX (i := i + 2) dL_law_357 (by omega) (by omega) ?_
      refine G.cvi X kX7_learns lL_39 dL_law_358 (tX7_learns_bad2 l D cI cW m S M p (sc (i + 2)) hI.ok hp zt) ⟨Nat.le_of_ble_eq_true rfl, Nat.le_of_ble_eq_true rfl⟩ ⟨Nat.le_of_ble_eq_true rfl, Nat.le_of_ble_eq_true rfl⟩ [21] rfl ⟨rfl, rfl⟩ rfl rfl 21 0 rfl rfl rfl rfl (Nat.le_of_ble_eq_true rfl) (ff_cons (ml_fst _ _ _ _ _ _) (ff_nil)) (ws' := [xl xx xn xt xk xe xo xv xc xr cI (x_rf (m_hi M, m_rf M) 1), wl xn cI S, wl xt cI T1, wl xk cI K1, tl xe cI (m_q M), ol xo xp cI qo, wl xp cI T2, al xv xq cI qa, wl xq cI T3, cl xc xs xw cW qc, wl xs cI T4, wl (xw 0) cI V0, wl (xw 1) cI V1, wl (xw 2) cI V2, wl (xw 3) cI V3, wl (xw 4) cI V4, wl (xw 5) cI V5, wl (xw 6) cI V6, wl (xw 7) cI V7, rl xr xu cI (m_rw M, m_rn M), wl xu cI T5, ml m cI S (m_no M 1)]) rfl ?_
      refine G.c_eq X (a := (-1)) (b := (-1)) dL_law_361 (fun h361 => ?_) (fun h361 => absurd (rfl) h361)
      exact kend S (m_no M 1) T1 K1 qo T2 qa T3 qc T4 V0 V1 V2 V3 V4 V5 V6 V7 T5 (hI.no 1)
  · replace zp : z_in (sc (i + 1)) (s_pe S) = false := by simpa using zp
    refine G.al X dL_law_333 2 rfl ?_
    refine G.al X dL_law_334 3 rfl ?_
    refine G.il X dL_law_335 0 rfl ?_
    refine G.pu X dL_law_336 ?_
    refine G.nadd X (a := i) (b := 1) dL_law_337 ?_
    refine G.sld X hX (i := i + 1) dL_law_338 (by omega) (by omega) ?_
    refine G.al X dL_law_339 3 rfl ?_
    refine G.il X dL_law_340 0 rfl ?_
    refine G.pu X dL_law_341 ?_
    refine G.nadd X (a := i) (b := 2) dL_law_342 ?_
    refine G.sld X hX (i := i + 2) dL_law_343 (by omega) (by omega) ?_
    refine G.cvi X kX6_learns lL_36 dL_law_344 (tX6_learns_bad l D cI cW xx xn xt xk xe xo xv xc xr (m_hi M, m_rf M) S (sc (i + 1)) (sc (i + 2)) hI.ok (Or.inl zp)) ⟨Nat.le_of_ble_eq_true rfl, Nat.le_of_ble_eq_true rfl⟩ ⟨Nat.le_of_ble_eq_true rfl, Nat.le_of_ble_eq_true rfl⟩ [0, 1] rfl ⟨rfl, rfl⟩ rfl rfl 0 0 rfl rfl rfl rfl (Nat.le_of_ble_eq_true rfl) (ff_cons (xl_fst _ _ _ _ _ _ _ _ _ _ _ _) (ff_cons (wl_fst _ _ _ _) (ff_nil))) (ws' := [xl xx xn xt xk xe xo xv xc xr cI (x_rf (m_hi M, m_rf M) 1), wl xn cI S, wl xt cI T1, wl xk cI K1, tl xe cI (m_q M), ol xo xp cI qo, wl xp cI T2, al xv xq cI qa, wl xq cI T3, cl xc xs xw cW qc, wl xs cI T4, wl (xw 0) cI V0, wl (xw 1) cI V1, wl (xw 2) cI V2, wl (xw 3) cI V3, wl (xw 4) cI V4, wl (xw 5) cI V5, wl (xw 6) cI V6, wl (xw 7) cI V7, rl xr xu cI (m_rw M, m_rn M), wl xu cI T5, ml m cI S M]) rfl ?_
    refine G.al X dL_law_347 1 rfl ?_
    refine G.al X dL_law_348 3 rfl ?_
    refine G.il X dL_law_349 0 rfl ?_
    refine G.pu X dL_law_350 ?_
    refine G.nadd X (a := i) (b := 1) dL_law_351 ?_
    refine G.sld X hX (i := i + 1) dL_law_352 (by omega) (by omega) ?_
    refine G.al X dL_law_353 3 rfl ?_
    refine G.il X dL_law_354 0 rfl ?_
    refine G.pu X dL_law_355 ?_
    refine G.nadd X (a := i) (b := 2) dL_law_356 ?_
    refine G.sld X hX (i := i + 2) dL_law_357 (by omega) (by omega) ?_
    refine G.cvi X kX7_learns lL_39 dL_law_358 (tX7_learns_bad1 l D cI cW m S M (sc (i + 1)) (sc (i + 2)) hI.ok zp) ⟨Nat.le_of_ble_eq_true rfl, Nat.le_of_ble_eq_true rfl⟩ ⟨Nat.le_of_ble_eq_true rfl, Nat.le_of_ble_eq_true rfl⟩ [21] rfl ⟨rfl, rfl⟩ rfl rfl 21 0 rfl rfl rfl rfl (Nat.le_of_ble_eq_true rfl) (ff_cons (ml_fst _ _ _ _ _ _) (ff_nil)) (ws' := [xl xx xn xt xk xe xo xv xc xr cI (x_rf (m_hi M, m_rf M) 1), wl xn cI S, wl xt cI T1, wl xk cI K1, tl xe cI (m_q M), ol xo xp cI qo, wl xp cI T2, al xv xq cI qa, wl xq cI T3, cl xc xs xw cW qc, wl xs cI T4, wl (xw 0) cI V0, wl (xw 1) cI V1, wl (xw 2) cI V2, wl (xw 3) cI V3, wl (xw 4) cI V4, wl (xw 5) cI V5, wl (xw 6) cI V6, wl (xw 7) cI V7, rl xr xu cI (m_rw M, m_rn M), wl xu cI T5, ml m cI S (m_no M 1)]) rfl ?_
    refine G.c_eq X (a := (-1)) (b := (-1)) dL_law_361 (fun h361 => ?_) (fun h361 => absurd (rfl) h361)
    exact kend S (m_no M 1) T1 K1 qo T2 qa T3 qc T4 V0 V1 V2 V3 V4 V5 V6 V7 T5 (hI.no 1)

set_option maxRecDepth 20000 in
theorem law_6 {l : Launch} {D : va_G} {cI cW : ClassId} {x : GC} (X : GOK x l D cI cW RL cL_law 4 room_1) {b L i : Nat} {sc : Nat → Int32} (hX : GX x b L sc) (hL : L ≤ 2560) (hi : i + 5 ≤ L) {xx xn xt xk xe xo xp xv xq xc xs : Nat → Nat} {xw : Nat → Nat → Nat} {xr xu m : Nat → Nat} (kend : ∀ (S : WS) (M : MS) (T1 : WS) (K1 : WS) (qo : FN) (T2 : WS) (qa : FN × FN) (T3 : WS) (qc : Int32 × Int32 × Int32) (T4 : WS) (V0 : WS) (V1 : WS) (V2 : WS) (V3 : WS) (V4 : WS) (V5 : WS) (V6 : WS) (V7 : WS) (T5 : WS), IV S M K1 → G x 165 1897 (LW cI cW xx xn xt xk xe xo xp xv xq xc xs xw xr xu m S M T1 K1 qo T2 qa T3 qc T4 V0 V1 V2 V3 V4 V5 V6 V7 T5) 1230 [(3, .int (nI i)), (2, .ref (m 0)), (1, .ref (xx 0)), (0, .ref b)] []) (S : WS) (M : MS) (T1 : WS) (K1 : WS) (qo : FN) (T2 : WS) (qa : FN × FN) (T3 : WS) (qc : Int32 × Int32 × Int32) (T4 : WS) (V0 : WS) (V1 : WS) (V2 : WS) (V3 : WS) (V4 : WS) (V5 : WS) (V6 : WS) (V7 : WS) (T5 : WS) (hI : IV S M K1) : G x 165 1897 (LW cI cW xx xn xt xk xe xo xp xv xq xc xs xw xr xu m S M T1 K1 qo T2 qa T3 qc T4 V0 V1 V2 V3 V4 V5 V6 V7 T5) 366 [(3, .int (nI i)), (2, .ref (m 0)), (1, .ref (xx 0)), (0, .ref b)] [] := by
  show G x 165 1897 ([xl xx xn xt xk xe xo xv xc xr cI (m_hi M, m_rf M), wl xn cI S, wl xt cI T1, wl xk cI K1, tl xe cI (m_q M), ol xo xp cI qo, wl xp cI T2, al xv xq cI qa, wl xq cI T3, cl xc xs xw cW qc, wl xs cI T4, wl (xw 0) cI V0, wl (xw 1) cI V1, wl (xw 2) cI V2, wl (xw 3) cI V3, wl (xw 4) cI V4, wl (xw 5) cI V5, wl (xw 6) cI V6, wl (xw 7) cI V7, rl xr xu cI (m_rw M, m_rn M), wl xu cI T5, ml m cI S M]) 366 [(3, .int (nI i)), (2, .ref (m 0)), (1, .ref (xx 0)), (0, .ref b)] []
  by_cases zp : z_in (sc (i + 1)) (s_pe S) = true
  · obtain ⟨p, hp, ep⟩ := z_in_t zp
    by_cases cvl : sc (i + 2) < 0
    · refine G.al X dL_law_366 2 rfl ?_
      refine G.al X dL_law_367 3 rfl ?_
      refine G.il X dL_law_368 0 rfl ?_
      refine G.pu X dL_law_369 ?_
      refine G.nadd X (a := i) (b := 1) dL_law_370 ?_
      refine G.sld X hX (i := i + 1) dL_law_371 (by omega) (by omega) ?_
      refine G.top (b := nI p) ep ?_
      refine G.al X dL_law_372 3 rfl ?_
      refine G.il X dL_law_373 0 rfl ?_
      refine G.pu X dL_law_374 ?_
      refine G.nadd X (a := i) (b := 2) dL_law_375 ?_
      refine G.sld X hX (i := i + 2) dL_law_376 (by omega) (by omega) ?_
      refine G.cvi X kX6_shy lL_40 dL_law_377 (tX6_shy_lo l D cI cW xx xn xt xk xe xo xv xc xr (m_hi M, m_rf M) S p (sc (i + 2)) hI.ok hp (by omega)) ⟨Nat.le_of_ble_eq_true rfl, Nat.le_of_ble_eq_true rfl⟩ ⟨Nat.le_of_ble_eq_true rfl, Nat.le_of_ble_eq_true rfl⟩ [0, 1] rfl ⟨rfl, rfl⟩ rfl rfl 0 0 rfl rfl rfl rfl (Nat.le_of_ble_eq_true rfl) (ff_cons (xl_fst _ _ _ _ _ _ _ _ _ _ _ _) (ff_cons (wl_fst _ _ _ _) (ff_nil))) (ws' := [xl xx xn xt xk xe xo xv xc xr cI (x_rf (m_hi M, m_rf M) 4), wl xn cI S, wl xt cI T1, wl xk cI K1, tl xe cI (m_q M), ol xo xp cI qo, wl xp cI T2, al xv xq cI qa, wl xq cI T3, cl xc xs xw cW qc, wl xs cI T4, wl (xw 0) cI V0, wl (xw 1) cI V1, wl (xw 2) cI V2, wl (xw 3) cI V3, wl (xw 4) cI V4, wl (xw 5) cI V5, wl (xw 6) cI V6, wl (xw 7) cI V7, rl xr xu cI (m_rw M, m_rn M), wl xu cI T5, ml m cI S M]) rfl ?_
      refine G.al X dL_law_380 1 rfl ?_
      refine G.al X dL_law_381 3 rfl ?_
      refine G.il X dL_law_382 0 rfl ?_
      refine G.pu X dL_law_383 ?_
      refine G.nadd X (a := i) (b := 1) dL_law_384 ?_
      refine G.sld X hX (i := i + 1) dL_law_385 (by omega) (by omega) ?_
      refine G.top (b := nI p) ep ?_
      refine G.al X dL_law_386 3 rfl ?_
      refine G.il X dL_law_387 0 rfl ?_
      refine G.pu X dL_law_388 ?_
      refine G.nadd X (a := i) (b := 2) dL_law_389 ?_
      refine G.sld X hX (i := i + 2) dL_law_390 (by omega) (by omega) ?_
      refine G.cvi X kX7_shy lL_43 dL_law_391 (tX7_shy_lo l D cI cW m S M p (sc (i + 2)) hI.ok hp (by omega)) ⟨Nat.le_of_ble_eq_true rfl, Nat.le_of_ble_eq_true rfl⟩ ⟨Nat.le_of_ble_eq_true rfl, Nat.le_of_ble_eq_true rfl⟩ [21] rfl ⟨rfl, rfl⟩ rfl rfl 21 0 rfl rfl rfl rfl (Nat.le_of_ble_eq_true rfl) (ff_cons (ml_fst _ _ _ _ _ _) (ff_nil)) (ws' := [xl xx xn xt xk xe xo xv xc xr cI (x_rf (m_hi M, m_rf M) 4), wl xn cI S, wl xt cI T1, wl xk cI K1, tl xe cI (m_q M), ol xo xp cI qo, wl xp cI T2, al xv xq cI qa, wl xq cI T3, cl xc xs xw cW qc, wl xs cI T4, wl (xw 0) cI V0, wl (xw 1) cI V1, wl (xw 2) cI V2, wl (xw 3) cI V3, wl (xw 4) cI V4, wl (xw 5) cI V5, wl (xw 6) cI V6, wl (xw 7) cI V7, rl xr xu cI (m_rw M, m_rn M), wl xu cI T5, ml m cI S (m_no M 4)]) rfl ?_
      refine G.c_eq X (a := (-4)) (b := (-4)) dL_law_394 (fun h394 => ?_) (fun h394 => absurd (rfl) h394)
      exact kend S (m_no M 4) T1 K1 qo T2 qa T3 qc T4 V0 V1 V2 V3 V4 V5 V6 V7 T5 (hI.no 4)
    · by_cases cvh : 9 < sc (i + 2)
      · refine G.al X dL_law_366 2 rfl ?_
        refine G.al X dL_law_367 3 rfl ?_
        refine G.il X dL_law_368 0 rfl ?_
        refine G.pu X dL_law_369 ?_
        refine G.nadd X (a := i) (b := 1) dL_law_370 ?_
        refine G.sld X hX (i := i + 1) dL_law_371 (by omega) (by omega) ?_
        refine G.top (b := nI p) ep ?_
        refine G.al X dL_law_372 3 rfl ?_
        refine G.il X dL_law_373 0 rfl ?_
        refine G.pu X dL_law_374 ?_
        refine G.nadd X (a := i) (b := 2) dL_law_375 ?_
        refine G.sld X hX (i := i + 2) dL_law_376 (by omega) (by omega) ?_
        refine G.cvi X kX6_shy lL_40 dL_law_377 (tX6_shy_hi l D cI cW xx xn xt xk xe xo xv xc xr (m_hi M, m_rf M) S p (sc (i + 2)) hI.ok hp (by omega) (by omega)) ⟨Nat.le_of_ble_eq_true rfl, Nat.le_of_ble_eq_true rfl⟩ ⟨Nat.le_of_ble_eq_true rfl, Nat.le_of_ble_eq_true rfl⟩ [0, 1] rfl ⟨rfl, rfl⟩ rfl rfl 0 0 rfl rfl rfl rfl (Nat.le_of_ble_eq_true rfl) (ff_cons (xl_fst _ _ _ _ _ _ _ _ _ _ _ _) (ff_cons (wl_fst _ _ _ _) (ff_nil))) (ws' := [xl xx xn xt xk xe xo xv xc xr cI (x_rf (m_hi M, m_rf M) 6), wl xn cI S, wl xt cI T1, wl xk cI K1, tl xe cI (m_q M), ol xo xp cI qo, wl xp cI T2, al xv xq cI qa, wl xq cI T3, cl xc xs xw cW qc, wl xs cI T4, wl (xw 0) cI V0, wl (xw 1) cI V1, wl (xw 2) cI V2, wl (xw 3) cI V3, wl (xw 4) cI V4, wl (xw 5) cI V5, wl (xw 6) cI V6, wl (xw 7) cI V7, rl xr xu cI (m_rw M, m_rn M), wl xu cI T5, ml m cI S M]) rfl ?_
        refine G.al X dL_law_380 1 rfl ?_
        refine G.al X dL_law_381 3 rfl ?_
        refine G.il X dL_law_382 0 rfl ?_
        refine G.pu X dL_law_383 ?_
        refine G.nadd X (a := i) (b := 1) dL_law_384 ?_
        refine G.sld X hX (i := i + 1) dL_law_385 (by omega) (by omega) ?_
        refine G.top (b := nI p) ep ?_
        refine G.al X dL_law_386 3 rfl ?_
        refine G.il X dL_law_387 0 rfl ?_
        refine G.pu X dL_law_388 ?_
        refine G.nadd X (a := i) (b := 2) dL_law_389 ?_
        refine G.sld X hX (i := i + 2) dL_law_390 (by omega) (by omega) ?_
        refine G.cvi X kX7_shy lL_43 dL_law_391 (tX7_shy_hi l D cI cW m S M p (sc (i + 2)) hI.ok hp (by omega) (by omega)) ⟨Nat.le_of_ble_eq_true rfl, Nat.le_of_ble_eq_true rfl⟩ ⟨Nat.le_of_ble_eq_true rfl, Nat.le_of_ble_eq_true rfl⟩ [21] rfl ⟨rfl, rfl⟩ rfl rfl 21 0 rfl rfl rfl rfl (Nat.le_of_ble_eq_true rfl) (ff_cons (ml_fst _ _ _ _ _ _) (ff_nil)) (ws' := [xl xx xn xt xk xe xo xv xc xr cI (x_rf (m_hi M, m_rf M) 6), wl xn cI S, wl xt cI T1, wl xk cI K1, tl xe cI (m_q M), ol xo xp cI qo, wl xp cI T2, al xv xq cI qa, wl xq cI T3, cl xc xs xw cW qc, wl xs cI T4, wl (xw 0) cI V0, wl (xw 1) cI V1, wl (xw 2) cI V2, wl (xw 3) cI V3, wl (xw 4) cI V4, wl (xw 5) cI V5, wl (xw 6) cI V6, wl (xw 7) cI V7, rl xr xu cI (m_rw M, m_rn M), wl xu cI T5, ml m cI S (m_no M 6)]) rfl ?_
        refine G.c_eq X (a := (-6)) (b := (-6)) dL_law_394 (fun h394 => ?_) (fun h394 => absurd (rfl) h394)
        exact kend S (m_no M 6) T1 K1 qo T2 qa T3 qc T4 V0 V1 V2 V3 V4 V5 V6 V7 T5 (hI.no 6)
      · obtain ⟨v, ⟨hv1, hv2⟩, ev⟩ := n_rng (lo := 0) (hi := 9) (by decide) (by decide) cvl cvh
        refine G.al X dL_law_366 2 rfl ?_
        refine G.al X dL_law_367 3 rfl ?_
        refine G.il X dL_law_368 0 rfl ?_
        refine G.pu X dL_law_369 ?_
        refine G.nadd X (a := i) (b := 1) dL_law_370 ?_
        refine G.sld X hX (i := i + 1) dL_law_371 (by omega) (by omega) ?_
        refine G.top (b := nI p) ep ?_
        refine G.al X dL_law_372 3 rfl ?_
        refine G.il X dL_law_373 0 rfl ?_
        refine G.pu X dL_law_374 ?_
        refine G.nadd X (a := i) (b := 2) dL_law_375 ?_
        refine G.sld X hX (i := i + 2) dL_law_376 (by omega) (by omega) ?_
        refine G.top (b := nI v) ev ?_
        refine G.cvi X kX6_shy lL_40 dL_law_377 (tX6_shy_ok l D cI cW xx xn xt xk xe xo xv xc xr (m_hi M, m_rf M) S p v hI.ok hp hv2) ⟨Nat.le_of_ble_eq_true rfl, Nat.le_of_ble_eq_true rfl⟩ ⟨Nat.le_of_ble_eq_true rfl, Nat.le_of_ble_eq_true rfl⟩ [0, 1] rfl ⟨rfl, rfl⟩ rfl rfl 0 0 rfl rfl rfl rfl (Nat.le_of_ble_eq_true rfl) (ff_cons (xl_fst _ _ _ _ _ _ _ _ _ _ _ _) (ff_cons (wl_fst _ _ _ _) (ff_nil))) (ws' := [xl xx xn xt xk xe xo xv xc xr cI (m_hi M, m_rf M), wl xn cI (w_shy S p (nI v)), wl xt cI T1, wl xk cI K1, tl xe cI (m_q M), ol xo xp cI qo, wl xp cI T2, al xv xq cI qa, wl xq cI T3, cl xc xs xw cW qc, wl xs cI T4, wl (xw 0) cI V0, wl (xw 1) cI V1, wl (xw 2) cI V2, wl (xw 3) cI V3, wl (xw 4) cI V4, wl (xw 5) cI V5, wl (xw 6) cI V6, wl (xw 7) cI V7, rl xr xu cI (m_rw M, m_rn M), wl xu cI T5, ml m cI S M]) rfl ?_
        refine G.al X dL_law_380 1 rfl ?_
        refine G.al X dL_law_381 3 rfl ?_
        refine G.il X dL_law_382 0 rfl ?_
        refine G.pu X dL_law_383 ?_
        refine G.nadd X (a := i) (b := 1) dL_law_384 ?_
        refine G.sld X hX (i := i + 1) dL_law_385 (by omega) (by omega) ?_
        refine G.top (b := nI p) ep ?_
        refine G.al X dL_law_386 3 rfl ?_
        refine G.il X dL_law_387 0 rfl ?_
        refine G.pu X dL_law_388 ?_
        refine G.nadd X (a := i) (b := 2) dL_law_389 ?_
        refine G.sld X hX (i := i + 2) dL_law_390 (by omega) (by omega) ?_
        refine G.top (b := nI v) ev ?_
        refine G.cvi X kX7_shy lL_43 dL_law_391 (tX7_shy_ok l D cI cW m S M p v hI.ok hp hv2) ⟨Nat.le_of_ble_eq_true rfl, Nat.le_of_ble_eq_true rfl⟩ ⟨Nat.le_of_ble_eq_true rfl, Nat.le_of_ble_eq_true rfl⟩ [21] rfl ⟨rfl, rfl⟩ rfl rfl 21 0 rfl rfl rfl rfl (Nat.le_of_ble_eq_true rfl) (ff_cons (ml_fst _ _ _ _ _ _) (ff_nil)) (ws' := [xl xx xn xt xk xe xo xv xc xr cI (m_hi M, m_rf M), wl xn cI (w_shy S p (nI v)), wl xt cI T1, wl xk cI K1, tl xe cI (m_q M), ol xo xp cI qo, wl xp cI T2, al xv xq cI qa, wl xq cI T3, cl xc xs xw cW qc, wl xs cI T4, wl (xw 0) cI V0, wl (xw 1) cI V1, wl (xw 2) cI V2, wl (xw 3) cI V3, wl (xw 4) cI V4, wl (xw 5) cI V5, wl (xw 6) cI V6, wl (xw 7) cI V7, rl xr xu cI (m_rw M, m_rn M), wl xu cI T5, ml m cI (w_shy S p (nI v)) M]) rfl ?_
        refine G.c_eq X (a := (s_sh S p)) (b := (s_sh S p)) dL_law_394 (fun h394 => ?_) (fun h394 => absurd (rfl) h394)
        exact kend (w_shy S p (nI v)) M T1 K1 qo T2 qa T3 qc T4 V0 V1 V2 V3 V4 V5 V6 V7 T5 (hI.S (zi_shy hI.ok (by omega)))
  · replace zp : z_in (sc (i + 1)) (s_pe S) = false := by simpa using zp
    refine G.al X dL_law_366 2 rfl ?_
    refine G.al X dL_law_367 3 rfl ?_
    refine G.il X dL_law_368 0 rfl ?_
    refine G.pu X dL_law_369 ?_
    refine G.nadd X (a := i) (b := 1) dL_law_370 ?_
    refine G.sld X hX (i := i + 1) dL_law_371 (by omega) (by omega) ?_
    refine G.al X dL_law_372 3 rfl ?_
    refine G.il X dL_law_373 0 rfl ?_
    refine G.pu X dL_law_374 ?_
    refine G.nadd X (a := i) (b := 2) dL_law_375 ?_
    refine G.sld X hX (i := i + 2) dL_law_376 (by omega) (by omega) ?_
    refine G.cvi X kX6_shy lL_40 dL_law_377 (tX6_shy_bad l D cI cW xx xn xt xk xe xo xv xc xr (m_hi M, m_rf M) S (sc (i + 1)) (sc (i + 2)) hI.ok zp) ⟨Nat.le_of_ble_eq_true rfl, Nat.le_of_ble_eq_true rfl⟩ ⟨Nat.le_of_ble_eq_true rfl, Nat.le_of_ble_eq_true rfl⟩ [0, 1] rfl ⟨rfl, rfl⟩ rfl rfl 0 0 rfl rfl rfl rfl (Nat.le_of_ble_eq_true rfl) (ff_cons (xl_fst _ _ _ _ _ _ _ _ _ _ _ _) (ff_cons (wl_fst _ _ _ _) (ff_nil))) (ws' := [xl xx xn xt xk xe xo xv xc xr cI (x_rf (m_hi M, m_rf M) 1), wl xn cI S, wl xt cI T1, wl xk cI K1, tl xe cI (m_q M), ol xo xp cI qo, wl xp cI T2, al xv xq cI qa, wl xq cI T3, cl xc xs xw cW qc, wl xs cI T4, wl (xw 0) cI V0, wl (xw 1) cI V1, wl (xw 2) cI V2, wl (xw 3) cI V3, wl (xw 4) cI V4, wl (xw 5) cI V5, wl (xw 6) cI V6, wl (xw 7) cI V7, rl xr xu cI (m_rw M, m_rn M), wl xu cI T5, ml m cI S M]) rfl ?_
    refine G.al X dL_law_380 1 rfl ?_
    refine G.al X dL_law_381 3 rfl ?_
    refine G.il X dL_law_382 0 rfl ?_
    refine G.pu X dL_law_383 ?_
    refine G.nadd X (a := i) (b := 1) dL_law_384 ?_
    refine G.sld X hX (i := i + 1) dL_law_385 (by omega) (by omega) ?_
    refine G.al X dL_law_386 3 rfl ?_
    refine G.il X dL_law_387 0 rfl ?_
    refine G.pu X dL_law_388 ?_
    refine G.nadd X (a := i) (b := 2) dL_law_389 ?_
    refine G.sld X hX (i := i + 2) dL_law_390 (by omega) (by omega) ?_
    refine G.cvi X kX7_shy lL_43 dL_law_391 (tX7_shy_bad l D cI cW m S M (sc (i + 1)) (sc (i + 2)) hI.ok zp) ⟨Nat.le_of_ble_eq_true rfl, Nat.le_of_ble_eq_true rfl⟩ ⟨Nat.le_of_ble_eq_true rfl, Nat.le_of_ble_eq_true rfl⟩ [21] rfl ⟨rfl, rfl⟩ rfl rfl 21 0 rfl rfl rfl rfl (Nat.le_of_ble_eq_true rfl) (ff_cons (ml_fst _ _ _ _ _ _) (ff_nil)) (ws' := [xl xx xn xt xk xe xo xv xc xr cI (x_rf (m_hi M, m_rf M) 1), wl xn cI S, wl xt cI T1, wl xk cI K1, tl xe cI (m_q M), ol xo xp cI qo, wl xp cI T2, al xv xq cI qa, wl xq cI T3, cl xc xs xw cW qc, wl xs cI T4, wl (xw 0) cI V0, wl (xw 1) cI V1, wl (xw 2) cI V2, wl (xw 3) cI V3, wl (xw 4) cI V4, wl (xw 5) cI V5, wl (xw 6) cI V6, wl (xw 7) cI V7, rl xr xu cI (m_rw M, m_rn M), wl xu cI T5, ml m cI S (m_no M 1)]) rfl ?_
    refine G.c_eq X (a := (-1)) (b := (-1)) dL_law_394 (fun h394 => ?_) (fun h394 => absurd (rfl) h394)
    exact kend S (m_no M 1) T1 K1 qo T2 qa T3 qc T4 V0 V1 V2 V3 V4 V5 V6 V7 T5 (hI.no 1)

set_option maxRecDepth 20000 in
theorem law_7 {l : Launch} {D : va_G} {cI cW : ClassId} {x : GC} (X : GOK x l D cI cW RL cL_law 4 room_1) {b L i : Nat} {sc : Nat → Int32} (hX : GX x b L sc) (hL : L ≤ 2560) (hi : i + 5 ≤ L) {xx xn xt xk xe xo xp xv xq xc xs : Nat → Nat} {xw : Nat → Nat → Nat} {xr xu m : Nat → Nat} (kend : ∀ (S : WS) (M : MS) (T1 : WS) (K1 : WS) (qo : FN) (T2 : WS) (qa : FN × FN) (T3 : WS) (qc : Int32 × Int32 × Int32) (T4 : WS) (V0 : WS) (V1 : WS) (V2 : WS) (V3 : WS) (V4 : WS) (V5 : WS) (V6 : WS) (V7 : WS) (T5 : WS), IV S M K1 → G x 165 1897 (LW cI cW xx xn xt xk xe xo xp xv xq xc xs xw xr xu m S M T1 K1 qo T2 qa T3 qc T4 V0 V1 V2 V3 V4 V5 V6 V7 T5) 1230 [(3, .int (nI i)), (2, .ref (m 0)), (1, .ref (xx 0)), (0, .ref b)] []) (S : WS) (M : MS) (T1 : WS) (K1 : WS) (qo : FN) (T2 : WS) (qa : FN × FN) (T3 : WS) (qc : Int32 × Int32 × Int32) (T4 : WS) (V0 : WS) (V1 : WS) (V2 : WS) (V3 : WS) (V4 : WS) (V5 : WS) (V6 : WS) (V7 : WS) (T5 : WS) (hI : IV S M K1) : G x 165 1897 (LW cI cW xx xn xt xk xe xo xp xv xq xc xs xw xr xu m S M T1 K1 qo T2 qa T3 qc T4 V0 V1 V2 V3 V4 V5 V6 V7 T5) 399 [(3, .int (nI i)), (2, .ref (m 0)), (1, .ref (xx 0)), (0, .ref b)] [] := by
  show G x 165 1897 ([xl xx xn xt xk xe xo xv xc xr cI (m_hi M, m_rf M), wl xn cI S, wl xt cI T1, wl xk cI K1, tl xe cI (m_q M), ol xo xp cI qo, wl xp cI T2, al xv xq cI qa, wl xq cI T3, cl xc xs xw cW qc, wl xs cI T4, wl (xw 0) cI V0, wl (xw 1) cI V1, wl (xw 2) cI V2, wl (xw 3) cI V3, wl (xw 4) cI V4, wl (xw 5) cI V5, wl (xw 6) cI V6, wl (xw 7) cI V7, rl xr xu cI (m_rw M, m_rn M), wl xu cI T5, ml m cI S M]) 399 [(3, .int (nI i)), (2, .ref (m 0)), (1, .ref (xx 0)), (0, .ref b)] []
  by_cases cvl : sc (i + 1) < 0
  · refine G.al X dL_law_399 2 rfl ?_
    refine G.al X dL_law_400 3 rfl ?_
    refine G.il X dL_law_401 0 rfl ?_
    refine G.pu X dL_law_402 ?_
    refine G.nadd X (a := i) (b := 1) dL_law_403 ?_
    refine G.sld X hX (i := i + 1) dL_law_404 (by omega) (by omega) ?_
    refine G.cvi X kX6_drought lL_44 dL_law_405 (tX6_drought_lo l D cI cW xx xn xt xk xe xo xv xc xr (m_hi M, m_rf M) S (sc (i + 1)) (by omega)) ⟨Nat.le_of_ble_eq_true rfl, Nat.le_of_ble_eq_true rfl⟩ ⟨Nat.le_of_ble_eq_true rfl, Nat.le_of_ble_eq_true rfl⟩ [0, 1] rfl ⟨rfl, rfl⟩ rfl rfl 0 0 rfl rfl rfl rfl (Nat.le_of_ble_eq_true rfl) (ff_cons (xl_fst _ _ _ _ _ _ _ _ _ _ _ _) (ff_cons (wl_fst _ _ _ _) (ff_nil))) (ws' := [xl xx xn xt xk xe xo xv xc xr cI (x_rf (m_hi M, m_rf M) 4), wl xn cI S, wl xt cI T1, wl xk cI K1, tl xe cI (m_q M), ol xo xp cI qo, wl xp cI T2, al xv xq cI qa, wl xq cI T3, cl xc xs xw cW qc, wl xs cI T4, wl (xw 0) cI V0, wl (xw 1) cI V1, wl (xw 2) cI V2, wl (xw 3) cI V3, wl (xw 4) cI V4, wl (xw 5) cI V5, wl (xw 6) cI V6, wl (xw 7) cI V7, rl xr xu cI (m_rw M, m_rn M), wl xu cI T5, ml m cI S M]) rfl ?_
    refine G.al X dL_law_408 1 rfl ?_
    refine G.al X dL_law_409 3 rfl ?_
    refine G.il X dL_law_410 0 rfl ?_
    refine G.pu X dL_law_411 ?_
    refine G.nadd X (a := i) (b := 1) dL_law_412 ?_
    refine G.sld X hX (i := i + 1) dL_law_413 (by omega) (by omega) ?_
    refine G.cvi X kX7_drought lL_47 dL_law_414 (tX7_drought_lo l D cI cW m S M (sc (i + 1)) (by omega)) ⟨Nat.le_of_ble_eq_true rfl, Nat.le_of_ble_eq_true rfl⟩ ⟨Nat.le_of_ble_eq_true rfl, Nat.le_of_ble_eq_true rfl⟩ [21] rfl ⟨rfl, rfl⟩ rfl rfl 21 0 rfl rfl rfl rfl (Nat.le_of_ble_eq_true rfl) (ff_cons (ml_fst _ _ _ _ _ _) (ff_nil)) (ws' := [xl xx xn xt xk xe xo xv xc xr cI (x_rf (m_hi M, m_rf M) 4), wl xn cI S, wl xt cI T1, wl xk cI K1, tl xe cI (m_q M), ol xo xp cI qo, wl xp cI T2, al xv xq cI qa, wl xq cI T3, cl xc xs xw cW qc, wl xs cI T4, wl (xw 0) cI V0, wl (xw 1) cI V1, wl (xw 2) cI V2, wl (xw 3) cI V3, wl (xw 4) cI V4, wl (xw 5) cI V5, wl (xw 6) cI V6, wl (xw 7) cI V7, rl xr xu cI (m_rw M, m_rn M), wl xu cI T5, ml m cI S (m_no M 4)]) rfl ?_
    refine G.c_eq X (a := (-4)) (b := (-4)) dL_law_417 (fun h417 => ?_) (fun h417 => absurd (rfl) h417)
    exact kend S (m_no M 4) T1 K1 qo T2 qa T3 qc T4 V0 V1 V2 V3 V4 V5 V6 V7 T5 (hI.no 4)
  · by_cases cvh : 9 < sc (i + 1)
    · refine G.al X dL_law_399 2 rfl ?_
      refine G.al X dL_law_400 3 rfl ?_
      refine G.il X dL_law_401 0 rfl ?_
      refine G.pu X dL_law_402 ?_
      refine G.nadd X (a := i) (b := 1) dL_law_403 ?_
      refine G.sld X hX (i := i + 1) dL_law_404 (by omega) (by omega) ?_
      refine G.cvi X kX6_drought lL_44 dL_law_405 (tX6_drought_hi l D cI cW xx xn xt xk xe xo xv xc xr (m_hi M, m_rf M) S (sc (i + 1)) (by omega) (by omega)) ⟨Nat.le_of_ble_eq_true rfl, Nat.le_of_ble_eq_true rfl⟩ ⟨Nat.le_of_ble_eq_true rfl, Nat.le_of_ble_eq_true rfl⟩ [0, 1] rfl ⟨rfl, rfl⟩ rfl rfl 0 0 rfl rfl rfl rfl (Nat.le_of_ble_eq_true rfl) (ff_cons (xl_fst _ _ _ _ _ _ _ _ _ _ _ _) (ff_cons (wl_fst _ _ _ _) (ff_nil))) (ws' := [xl xx xn xt xk xe xo xv xc xr cI (x_rf (m_hi M, m_rf M) 6), wl xn cI S, wl xt cI T1, wl xk cI K1, tl xe cI (m_q M), ol xo xp cI qo, wl xp cI T2, al xv xq cI qa, wl xq cI T3, cl xc xs xw cW qc, wl xs cI T4, wl (xw 0) cI V0, wl (xw 1) cI V1, wl (xw 2) cI V2, wl (xw 3) cI V3, wl (xw 4) cI V4, wl (xw 5) cI V5, wl (xw 6) cI V6, wl (xw 7) cI V7, rl xr xu cI (m_rw M, m_rn M), wl xu cI T5, ml m cI S M]) rfl ?_
      refine G.al X dL_law_408 1 rfl ?_
      refine G.al X dL_law_409 3 rfl ?_
      refine G.il X dL_law_410 0 rfl ?_
      refine G.pu X dL_law_411 ?_
      refine G.nadd X (a := i) (b := 1) dL_law_412 ?_
      refine G.sld X hX (i := i + 1) dL_law_413 (by omega) (by omega) ?_
      refine G.cvi X kX7_drought lL_47 dL_law_414 (tX7_drought_hi l D cI cW m S M (sc (i + 1)) (by omega) (by omega)) ⟨Nat.le_of_ble_eq_true rfl, Nat.le_of_ble_eq_true rfl⟩ ⟨Nat.le_of_ble_eq_true rfl, Nat.le_of_ble_eq_true rfl⟩ [21] rfl ⟨rfl, rfl⟩ rfl rfl 21 0 rfl rfl rfl rfl (Nat.le_of_ble_eq_true rfl) (ff_cons (ml_fst _ _ _ _ _ _) (ff_nil)) (ws' := [xl xx xn xt xk xe xo xv xc xr cI (x_rf (m_hi M, m_rf M) 6), wl xn cI S, wl xt cI T1, wl xk cI K1, tl xe cI (m_q M), ol xo xp cI qo, wl xp cI T2, al xv xq cI qa, wl xq cI T3, cl xc xs xw cW qc, wl xs cI T4, wl (xw 0) cI V0, wl (xw 1) cI V1, wl (xw 2) cI V2, wl (xw 3) cI V3, wl (xw 4) cI V4, wl (xw 5) cI V5, wl (xw 6) cI V6, wl (xw 7) cI V7, rl xr xu cI (m_rw M, m_rn M), wl xu cI T5, ml m cI S (m_no M 6)]) rfl ?_
      refine G.c_eq X (a := (-6)) (b := (-6)) dL_law_417 (fun h417 => ?_) (fun h417 => absurd (rfl) h417)
      exact kend S (m_no M 6) T1 K1 qo T2 qa T3 qc T4 V0 V1 V2 V3 V4 V5 V6 V7 T5 (hI.no 6)
    · obtain ⟨v, ⟨hv1, hv2⟩, ev⟩ := n_rng (lo := 0) (hi := 9) (by decide) (by decide) cvl cvh
      refine G.al X dL_law_399 2 rfl ?_
      refine G.al X dL_law_400 3 rfl ?_
      refine G.il X dL_law_401 0 rfl ?_
      refine G.pu X dL_law_402 ?_
      refine G.nadd X (a := i) (b := 1) dL_law_403 ?_
      refine G.sld X hX (i := i + 1) dL_law_404 (by omega) (by omega) ?_
      refine G.top (b := nI v) ev ?_
      refine G.cvi X kX6_drought lL_44 dL_law_405 (tX6_drought_ok l D cI cW xx xn xt xk xe xo xv xc xr (m_hi M, m_rf M) S v hv2) ⟨Nat.le_of_ble_eq_true rfl, Nat.le_of_ble_eq_true rfl⟩ ⟨Nat.le_of_ble_eq_true rfl, Nat.le_of_ble_eq_true rfl⟩ [0, 1] rfl ⟨rfl, rfl⟩ rfl rfl 0 0 rfl rfl rfl rfl (Nat.le_of_ble_eq_true rfl) (ff_cons (xl_fst _ _ _ _ _ _ _ _ _ _ _ _) (ff_cons (wl_fst _ _ _ _) (ff_nil))) (ws' := [xl xx xn xt xk xe xo xv xc xr cI (m_hi M, m_rf M), wl xn cI (w_dr S (nI v)), wl xt cI T1, wl xk cI K1, tl xe cI (m_q M), ol xo xp cI qo, wl xp cI T2, al xv xq cI qa, wl xq cI T3, cl xc xs xw cW qc, wl xs cI T4, wl (xw 0) cI V0, wl (xw 1) cI V1, wl (xw 2) cI V2, wl (xw 3) cI V3, wl (xw 4) cI V4, wl (xw 5) cI V5, wl (xw 6) cI V6, wl (xw 7) cI V7, rl xr xu cI (m_rw M, m_rn M), wl xu cI T5, ml m cI S M]) rfl ?_
      refine G.al X dL_law_408 1 rfl ?_
      refine G.al X dL_law_409 3 rfl ?_
      refine G.il X dL_law_410 0 rfl ?_
      refine G.pu X dL_law_411 ?_
      refine G.nadd X (a := i) (b := 1) dL_law_412 ?_
      refine G.sld X hX (i := i + 1) dL_law_413 (by omega) (by omega) ?_
      refine G.top (b := nI v) ev ?_
      refine G.cvi X kX7_drought lL_47 dL_law_414 (tX7_drought_ok l D cI cW m S M v hv2) ⟨Nat.le_of_ble_eq_true rfl, Nat.le_of_ble_eq_true rfl⟩ ⟨Nat.le_of_ble_eq_true rfl, Nat.le_of_ble_eq_true rfl⟩ [21] rfl ⟨rfl, rfl⟩ rfl rfl 21 0 rfl rfl rfl rfl (Nat.le_of_ble_eq_true rfl) (ff_cons (ml_fst _ _ _ _ _ _) (ff_nil)) (ws' := [xl xx xn xt xk xe xo xv xc xr cI (m_hi M, m_rf M), wl xn cI (w_dr S (nI v)), wl xt cI T1, wl xk cI K1, tl xe cI (m_q M), ol xo xp cI qo, wl xp cI T2, al xv xq cI qa, wl xq cI T3, cl xc xs xw cW qc, wl xs cI T4, wl (xw 0) cI V0, wl (xw 1) cI V1, wl (xw 2) cI V2, wl (xw 3) cI V3, wl (xw 4) cI V4, wl (xw 5) cI V5, wl (xw 6) cI V6, wl (xw 7) cI V7, rl xr xu cI (m_rw M, m_rn M), wl xu cI T5, ml m cI (w_dr S (nI v)) M]) rfl ?_
      refine G.c_eq X (a := (s_dr S)) (b := (s_dr S)) dL_law_417 (fun h417 => ?_) (fun h417 => absurd (rfl) h417)
      exact kend (w_dr S (nI v)) M T1 K1 qo T2 qa T3 qc T4 V0 V1 V2 V3 V4 V5 V6 V7 T5 (hI.S (zi_dr hI.ok _))

set_option maxRecDepth 20000 in
theorem law_8 {l : Launch} {D : va_G} {cI cW : ClassId} {x : GC} (X : GOK x l D cI cW RL cL_law 4 room_1) {b L i : Nat} {sc : Nat → Int32} (hX : GX x b L sc) (hL : L ≤ 2560) (hi : i + 5 ≤ L) {xx xn xt xk xe xo xp xv xq xc xs : Nat → Nat} {xw : Nat → Nat → Nat} {xr xu m : Nat → Nat} (kend : ∀ (S : WS) (M : MS) (T1 : WS) (K1 : WS) (qo : FN) (T2 : WS) (qa : FN × FN) (T3 : WS) (qc : Int32 × Int32 × Int32) (T4 : WS) (V0 : WS) (V1 : WS) (V2 : WS) (V3 : WS) (V4 : WS) (V5 : WS) (V6 : WS) (V7 : WS) (T5 : WS), IV S M K1 → G x 165 1897 (LW cI cW xx xn xt xk xe xo xp xv xq xc xs xw xr xu m S M T1 K1 qo T2 qa T3 qc T4 V0 V1 V2 V3 V4 V5 V6 V7 T5) 1230 [(3, .int (nI i)), (2, .ref (m 0)), (1, .ref (xx 0)), (0, .ref b)] []) (S : WS) (M : MS) (T1 : WS) (K1 : WS) (qo : FN) (T2 : WS) (qa : FN × FN) (T3 : WS) (qc : Int32 × Int32 × Int32) (T4 : WS) (V0 : WS) (V1 : WS) (V2 : WS) (V3 : WS) (V4 : WS) (V5 : WS) (V6 : WS) (V7 : WS) (T5 : WS) (hI : IV S M K1) : G x 165 1897 (LW cI cW xx xn xt xk xe xo xp xv xq xc xs xw xr xu m S M T1 K1 qo T2 qa T3 qc T4 V0 V1 V2 V3 V4 V5 V6 V7 T5) 422 [(3, .int (nI i)), (2, .ref (m 0)), (1, .ref (xx 0)), (0, .ref b)] [] := by
  show G x 165 1897 ([xl xx xn xt xk xe xo xv xc xr cI (m_hi M, m_rf M), wl xn cI S, wl xt cI T1, wl xk cI K1, tl xe cI (m_q M), ol xo xp cI qo, wl xp cI T2, al xv xq cI qa, wl xq cI T3, cl xc xs xw cW qc, wl xs cI T4, wl (xw 0) cI V0, wl (xw 1) cI V1, wl (xw 2) cI V2, wl (xw 3) cI V3, wl (xw 4) cI V4, wl (xw 5) cI V5, wl (xw 6) cI V6, wl (xw 7) cI V7, rl xr xu cI (m_rw M, m_rn M), wl xu cI T5, ml m cI S M]) 422 [(3, .int (nI i)), (2, .ref (m 0)), (1, .ref (xx 0)), (0, .ref b)] []
  by_cases zp : z_in (sc (i + 1)) (s_th S) = true
  · obtain ⟨p, hp, ep⟩ := z_in_t zp
    by_cases zkd : z_in (sc (i + 2)) 6 = true
    · obtain ⟨kd, hkd, ekd⟩ := z_in_t zkd
      by_cases cvl : sc (i + 3) < 0
      · refine G.al X dL_law_422 2 rfl ?_
        refine G.al X dL_law_423 3 rfl ?_
        refine G.il X dL_law_424 0 rfl ?_
        refine G.pu X dL_law_425 ?_
        refine G.nadd X (a := i) (b := 1) dL_law_426 ?_
        refine G.sld X hX (i := i + 1) dL_law_427 (by omega) (by omega) ?_
        refine G.top (b := nI p) ep ?_
        refine G.al X dL_law_428 3 rfl ?_
        refine G.il X dL_law_429 0 rfl ?_
        refine G.pu X dL_law_430 ?_
        refine G.nadd X (a := i) (b := 2) dL_law_431 ?_
        refine G.sld X hX (i := i + 2) dL_law_432 (by omega) (by omega) ?_
        refine G.top (b := nI kd) ekd ?_
        refine G.al X dL_law_433 3 rfl ?_
        refine G.il X dL_law_434 0 rfl ?_
        refine G.pu X dL_law_435 ?_
        refine G.nadd X (a := i) (b := 3) dL_law_436 ?_
        refine G.sld X hX (i := i + 3) dL_law_437 (by omega) (by omega) ?_
        refine G.cvi X kX6_turn lL_48 dL_law_438 (tX6_turn_lo l D cI cW xx xn xt xk xe xo xv xc xr (m_hi M, m_rf M) S p kd (sc (i + 3)) hI.ok hp hkd (by omega)) ⟨Nat.le_of_ble_eq_true rfl, Nat.le_of_ble_eq_true rfl⟩ ⟨Nat.le_of_ble_eq_true rfl, Nat.le_of_ble_eq_true rfl⟩ [0, 1] rfl ⟨rfl, rfl⟩ rfl rfl 0 0 rfl rfl rfl rfl (Nat.le_of_ble_eq_true rfl) (ff_cons (xl_fst _ _ _ _ _ _ _ _ _ _ _ _) (ff_cons (wl_fst _ _ _ _) (ff_nil))) (ws' := [xl xx xn xt xk xe xo xv xc xr cI (x_rf (m_hi M, m_rf M) 4), wl xn cI S, wl xt cI T1, wl xk cI K1, tl xe cI (m_q M), ol xo xp cI qo, wl xp cI T2, al xv xq cI qa, wl xq cI T3, cl xc xs xw cW qc, wl xs cI T4, wl (xw 0) cI V0, wl (xw 1) cI V1, wl (xw 2) cI V2, wl (xw 3) cI V3, wl (xw 4) cI V4, wl (xw 5) cI V5, wl (xw 6) cI V6, wl (xw 7) cI V7, rl xr xu cI (m_rw M, m_rn M), wl xu cI T5, ml m cI S M]) rfl ?_
        refine G.al X dL_law_441 1 rfl ?_
        refine G.al X dL_law_442 3 rfl ?_
        refine G.il X dL_law_443 0 rfl ?_
        refine G.pu X dL_law_444 ?_
        refine G.nadd X (a := i) (b := 1) dL_law_445 ?_
        refine G.sld X hX (i := i + 1) dL_law_446 (by omega) (by omega) ?_
        refine G.top (b := nI p) ep ?_
        refine G.al X dL_law_447 3 rfl ?_
        refine G.il X dL_law_448 0 rfl ?_
        refine G.pu X dL_law_449 ?_
        refine G.nadd X (a := i) (b := 2) dL_law_450 ?_
        refine G.sld X hX (i := i + 2) dL_law_451 (by omega) (by omega) ?_
        refine G.top (b := nI kd) ekd ?_
        refine G.al X dL_law_452 3 rfl ?_
        refine G.il X dL_law_453 0 rfl ?_
        refine G.pu X dL_law_454 ?_
        refine G.nadd X (a := i) (b := 3) dL_law_455 ?_
        refine G.sld X hX (i := i + 3) dL_law_456 (by omega) (by omega) ?_
        refine G.cvi X kX7_turn lL_52 dL_law_457 (tX7_turn_lo l D cI cW m S M p kd (sc (i + 3)) hI.ok hp hkd (by omega)) ⟨Nat.le_of_ble_eq_true rfl, Nat.le_of_ble_eq_true rfl⟩ ⟨Nat.le_of_ble_eq_true rfl, Nat.le_of_ble_eq_true rfl⟩ [21] rfl ⟨rfl, rfl⟩ rfl rfl 21 0 rfl rfl rfl rfl (Nat.le_of_ble_eq_true rfl) (ff_cons (ml_fst _ _ _ _ _ _) (ff_nil)) (ws' := [xl xx xn xt xk xe xo xv xc xr cI (x_rf (m_hi M, m_rf M) 4), wl xn cI S, wl xt cI T1, wl xk cI K1, tl xe cI (m_q M), ol xo xp cI qo, wl xp cI T2, al xv xq cI qa, wl xq cI T3, cl xc xs xw cW qc, wl xs cI T4, wl (xw 0) cI V0, wl (xw 1) cI V1, wl (xw 2) cI V2, wl (xw 3) cI V3, wl (xw 4) cI V4, wl (xw 5) cI V5, wl (xw 6) cI V6, wl (xw 7) cI V7, rl xr xu cI (m_rw M, m_rn M), wl xu cI T5, ml m cI S (m_no M 4)]) rfl ?_
        refine G.c_eq X (a := (-4)) (b := (-4)) dL_law_460 (fun h460 => ?_) (fun h460 => absurd (rfl) h460)
        exact kend S (m_no M 4) T1 K1 qo T2 qa T3 qc T4 V0 V1 V2 V3 V4 V5 V6 V7 T5 (hI.no 4)
      · by_cases cvh : 9 < sc (i + 3)
        · refine G.al X dL_law_422 2 rfl ?_
          refine G.al X dL_law_423 3 rfl ?_
          refine G.il X dL_law_424 0 rfl ?_
          refine G.pu X dL_law_425 ?_
          refine G.nadd X (a := i) (b := 1) dL_law_426 ?_
          refine G.sld X hX (i := i + 1) dL_law_427 (by omega) (by omega) ?_
          refine G.top (b := nI p) ep ?_
          refine G.al X dL_law_428 3 rfl ?_
          refine G.il X dL_law_429 0 rfl ?_
          refine G.pu X dL_law_430 ?_
          refine G.nadd X (a := i) (b := 2) dL_law_431 ?_
          refine G.sld X hX (i := i + 2) dL_law_432 (by omega) (by omega) ?_
          refine G.top (b := nI kd) ekd ?_
          refine G.al X dL_law_433 3 rfl ?_
          refine G.il X dL_law_434 0 rfl ?_
          refine G.pu X dL_law_435 ?_
          refine G.nadd X (a := i) (b := 3) dL_law_436 ?_
          refine G.sld X hX (i := i + 3) dL_law_437 (by omega) (by omega) ?_
          refine G.cvi X kX6_turn lL_48 dL_law_438 (tX6_turn_hi l D cI cW xx xn xt xk xe xo xv xc xr (m_hi M, m_rf M) S p kd (sc (i + 3)) hI.ok hp hkd (by omega) (by omega)) ⟨Nat.le_of_ble_eq_true rfl, Nat.le_of_ble_eq_true rfl⟩ ⟨Nat.le_of_ble_eq_true rfl, Nat.le_of_ble_eq_true rfl⟩ [0, 1] rfl ⟨rfl, rfl⟩ rfl rfl 0 0 rfl rfl rfl rfl (Nat.le_of_ble_eq_true rfl) (ff_cons (xl_fst _ _ _ _ _ _ _ _ _ _ _ _) (ff_cons (wl_fst _ _ _ _) (ff_nil))) (ws' := [xl xx xn xt xk xe xo xv xc xr cI (x_rf (m_hi M, m_rf M) 6), wl xn cI S, wl xt cI T1, wl xk cI K1, tl xe cI (m_q M), ol xo xp cI qo, wl xp cI T2, al xv xq cI qa, wl xq cI T3, cl xc xs xw cW qc, wl xs cI T4, wl (xw 0) cI V0, wl (xw 1) cI V1, wl (xw 2) cI V2, wl (xw 3) cI V3, wl (xw 4) cI V4, wl (xw 5) cI V5, wl (xw 6) cI V6, wl (xw 7) cI V7, rl xr xu cI (m_rw M, m_rn M), wl xu cI T5, ml m cI S M]) rfl ?_
          refine G.al X dL_law_441 1 rfl ?_
          refine G.al X dL_law_442 3 rfl ?_
          refine G.il X dL_law_443 0 rfl ?_
          refine G.pu X dL_law_444 ?_
          refine G.nadd X (a := i) (b := 1) dL_law_445 ?_
          refine G.sld X hX (i := i + 1) dL_law_446 (by omega) (by omega) ?_
          refine G.top (b := nI p) ep ?_
          refine G.al X dL_law_447 3 rfl ?_
          refine G.il X dL_law_448 0 rfl ?_
          refine G.pu X dL_law_449 ?_
          refine G.nadd X (a := i) (b := 2) dL_law_450 ?_
          refine G.sld X hX (i := i + 2) dL_law_451 (by omega) (by omega) ?_
          refine G.top (b := nI kd) ekd ?_
          refine G.al X dL_law_452 3 rfl ?_
          refine G.il X dL_law_453 0 rfl ?_
          refine G.pu X dL_law_454 ?_
          refine G.nadd X (a := i) (b := 3) dL_law_455 ?_
          refine G.sld X hX (i := i + 3) dL_law_456 (by omega) (by omega) ?_
          refine G.cvi X kX7_turn lL_52 dL_law_457 (tX7_turn_hi l D cI cW m S M p kd (sc (i + 3)) hI.ok hp hkd (by omega) (by omega)) ⟨Nat.le_of_ble_eq_true rfl, Nat.le_of_ble_eq_true rfl⟩ ⟨Nat.le_of_ble_eq_true rfl, Nat.le_of_ble_eq_true rfl⟩ [21] rfl ⟨rfl, rfl⟩ rfl rfl 21 0 rfl rfl rfl rfl (Nat.le_of_ble_eq_true rfl) (ff_cons (ml_fst _ _ _ _ _ _) (ff_nil)) (ws' := [xl xx xn xt xk xe xo xv xc xr cI (x_rf (m_hi M, m_rf M) 6), wl xn cI S, wl xt cI T1, wl xk cI K1, tl xe cI (m_q M), ol xo xp cI qo, wl xp cI T2, al xv xq cI qa, wl xq cI T3, cl xc xs xw cW qc, wl xs cI T4, wl (xw 0) cI V0, wl (xw 1) cI V1, wl (xw 2) cI V2, wl (xw 3) cI V3, wl (xw 4) cI V4, wl (xw 5) cI V5, wl (xw 6) cI V6, wl (xw 7) cI V7, rl xr xu cI (m_rw M, m_rn M), wl xu cI T5, ml m cI S (m_no M 6)]) rfl ?_
          refine G.c_eq X (a := (-6)) (b := (-6)) dL_law_460 (fun h460 => ?_) (fun h460 => absurd (rfl) h460)
          exact kend S (m_no M 6) T1 K1 qo T2 qa T3 qc T4 V0 V1 V2 V3 V4 V5 V6 V7 T5 (hI.no 6)
        · obtain ⟨v, ⟨hv1, hv2⟩, ev⟩ := n_rng (lo := 0) (hi := 9) (by decide) (by decide) cvl cvh
          refine G.al X dL_law_422 2 rfl ?_
          refine G.al X dL_law_423 3 rfl ?_
          refine G.il X dL_law_424 0 rfl ?_
          refine G.pu X dL_law_425 ?_
          refine G.nadd X (a := i) (b := 1) dL_law_426 ?_
          refine G.sld X hX (i := i + 1) dL_law_427 (by omega) (by omega) ?_
          refine G.top (b := nI p) ep ?_
          refine G.al X dL_law_428 3 rfl ?_
          refine G.il X dL_law_429 0 rfl ?_
          refine G.pu X dL_law_430 ?_
          refine G.nadd X (a := i) (b := 2) dL_law_431 ?_
          refine G.sld X hX (i := i + 2) dL_law_432 (by omega) (by omega) ?_
          refine G.top (b := nI kd) ekd ?_
          refine G.al X dL_law_433 3 rfl ?_
          refine G.il X dL_law_434 0 rfl ?_
          refine G.pu X dL_law_435 ?_
          refine G.nadd X (a := i) (b := 3) dL_law_436 ?_
          refine G.sld X hX (i := i + 3) dL_law_437 (by omega) (by omega) ?_
          refine G.top (b := nI v) ev ?_
          refine G.cvi X kX6_turn lL_48 dL_law_438 (tX6_turn_ok l D cI cW xx xn xt xk xe xo xv xc xr (m_hi M, m_rf M) S p kd v hI.ok hp hkd hv2) ⟨Nat.le_of_ble_eq_true rfl, Nat.le_of_ble_eq_true rfl⟩ ⟨Nat.le_of_ble_eq_true rfl, Nat.le_of_ble_eq_true rfl⟩ [0, 1] rfl ⟨rfl, rfl⟩ rfl rfl 0 0 rfl rfl rfl rfl (Nat.le_of_ble_eq_true rfl) (ff_cons (xl_fst _ _ _ _ _ _ _ _ _ _ _ _) (ff_cons (wl_fst _ _ _ _) (ff_nil))) (ws' := [xl xx xn xt xk xe xo xv xc xr cI (m_hi M, m_rf M), wl xn cI (w_kw S p (nI kd) (nI v)), wl xt cI T1, wl xk cI K1, tl xe cI (m_q M), ol xo xp cI qo, wl xp cI T2, al xv xq cI qa, wl xq cI T3, cl xc xs xw cW qc, wl xs cI T4, wl (xw 0) cI V0, wl (xw 1) cI V1, wl (xw 2) cI V2, wl (xw 3) cI V3, wl (xw 4) cI V4, wl (xw 5) cI V5, wl (xw 6) cI V6, wl (xw 7) cI V7, rl xr xu cI (m_rw M, m_rn M), wl xu cI T5, ml m cI S M]) rfl ?_
          refine G.al X dL_law_441 1 rfl ?_
          refine G.al X dL_law_442 3 rfl ?_
          refine G.il X dL_law_443 0 rfl ?_
          refine G.pu X dL_law_444 ?_
          refine G.nadd X (a := i) (b := 1) dL_law_445 ?_
          refine G.sld X hX (i := i + 1) dL_law_446 (by omega) (by omega) ?_
          refine G.top (b := nI p) ep ?_
          refine G.al X dL_law_447 3 rfl ?_
          refine G.il X dL_law_448 0 rfl ?_
          refine G.pu X dL_law_449 ?_
          refine G.nadd X (a := i) (b := 2) dL_law_450 ?_
          refine G.sld X hX (i := i + 2) dL_law_451 (by omega) (by omega) ?_
          refine G.top (b := nI kd) ekd ?_
          refine G.al X dL_law_452 3 rfl ?_
          refine G.il X dL_law_453 0 rfl ?_
          refine G.pu X dL_law_454 ?_
          refine G.nadd X (a := i) (b := 3) dL_law_455 ?_
          refine G.sld X hX (i := i + 3) dL_law_456 (by omega) (by omega) ?_
          refine G.top (b := nI v) ev ?_
          refine G.cvi X kX7_turn lL_52 dL_law_457 (tX7_turn_ok l D cI cW m S M p kd v hI.ok hp hkd hv2) ⟨Nat.le_of_ble_eq_true rfl, Nat.le_of_ble_eq_true rfl⟩ ⟨Nat.le_of_ble_eq_true rfl, Nat.le_of_ble_eq_true rfl⟩ [21] rfl ⟨rfl, rfl⟩ rfl rfl 21 0 rfl rfl rfl rfl (Nat.le_of_ble_eq_true rfl) (ff_cons (ml_fst _ _ _ _ _ _) (ff_nil)) (ws' := [xl xx xn xt xk xe xo xv xc xr cI (m_hi M, m_rf M), wl xn cI (w_kw S p (nI kd) (nI v)), wl xt cI T1, wl xk cI K1, tl xe cI (m_q M), ol xo xp cI qo, wl xp cI T2, al xv xq cI qa, wl xq cI T3, cl xc xs xw cW qc, wl xs cI T4, wl (xw 0) cI V0, wl (xw 1) cI V1, wl (xw 2) cI V2, wl (xw 3) cI V3, wl (xw 4) cI V4, wl (xw 5) cI V5, wl (xw 6) cI V6, wl (xw 7) cI V7, rl xr xu cI (m_rw M, m_rn M), wl xu cI T5, ml m cI (w_kw S p (nI kd) (nI v)) M]) rfl ?_
          refine G.c_eq X (a := (10 * s_ki S p + s_we S p)) (b := (10 * s_ki S p + s_we S p)) dL_law_460 (fun h460 => ?_) (fun h460 => absurd (rfl) h460)
          exact kend (w_kw S p (nI kd) (nI v)) M T1 K1 qo T2 qa T3 qc T4 V0 V1 V2 V3 V4 V5 V6 V7 T5 (hI.S (ok_kw hI.ok p ⟨kd, by omega, rfl⟩ ⟨v, by omega, rfl⟩))
    · replace zkd : z_in (sc (i + 2)) 6 = false := by simpa using zkd
      refine G.al X dL_law_422 2 rfl ?_
      refine G.al X dL_law_423 3 rfl ?_
      refine G.il X dL_law_424 0 rfl ?_
      refine G.pu X dL_law_425 ?_
      refine G.nadd X (a := i) (b := 1) dL_law_426 ?_
      refine G.sld X hX (i := i + 1) dL_law_427 (by omega) (by omega) ?_
      refine G.top (b := nI p) ep ?_
      refine G.al X dL_law_428 3 rfl ?_
      refine G.il X dL_law_429 0 rfl ?_
      refine G.pu X dL_law_430 ?_
      refine G.nadd X (a := i) (b := 2) dL_law_431 ?_
      refine G.sld X hX (i := i + 2) dL_law_432 (by omega) (by omega) ?_
      refine G.al X dL_law_433 3 rfl ?_
      refine G.il X dL_law_434 0 rfl ?_
      refine G.pu X dL_law_435 ?_
      refine G.nadd X (a := i) (b := 3) dL_law_436 ?_
      refine G.sld X hX (i := i + 3) dL_law_437 (by omega) (by omega) ?_
      refine G.cvi X kX6_turn lL_48 dL_law_438 (tX6_turn_oth l D cI cW xx xn xt xk xe xo xv xc xr (m_hi M, m_rf M) S p (sc (i + 2)) (sc (i + 3)) hI.ok hp zkd) ⟨Nat.le_of_ble_eq_true rfl, Nat.le_of_ble_eq_true rfl⟩ ⟨Nat.le_of_ble_eq_true rfl, Nat.le_of_ble_eq_true rfl⟩ [0, 1] rfl ⟨rfl, rfl⟩ rfl rfl 0 0 rfl rfl rfl rfl (Nat.le_of_ble_eq_true rfl) (ff_cons (xl_fst _ _ _ _ _ _ _ _ _ _ _ _) (ff_cons (wl_fst _ _ _ _) (ff_nil))) (ws' := [xl xx xn xt xk xe xo xv xc xr cI (x_rf (m_hi M, m_rf M) 2), wl xn cI S, wl xt cI T1, wl xk cI K1, tl xe cI (m_q M), ol xo xp cI qo, wl xp cI T2, al xv xq cI qa, wl xq cI T3, cl xc xs xw cW qc, wl xs cI T4, wl (xw 0) cI V0, wl (xw 1) cI V1, wl (xw 2) cI V2, wl (xw 3) cI V3, wl (xw 4) cI V4, wl (xw 5) cI V5, wl (xw 6) cI V6, wl (xw 7) cI V7, rl xr xu cI (m_rw M, m_rn M), wl xu cI T5, ml m cI S M]) rfl ?_
      refine G.al X dL_law_441 1 rfl ?_
      refine G.al X dL_law_442 3 rfl ?_
      refine G.il X dL_law_443 0 rfl ?_
      refine G.pu X dL_law_444 ?_
      refine G.nadd X (a := i) (b := 1) dL_law_445 ?_
      refine G.sld X hX (i := i + 1) dL_law_446 (by omega) (by omega) ?_
      refine G.top (b := nI p) ep ?_
      refine G.al X dL_law_447 3 rfl ?_
      refine G.il X dL_law_448 0 rfl ?_
      refine G.pu X dL_law_449 ?_
      refine G.nadd X (a := i) (b := 2) dL_law_450 ?_
      refine G.sld X hX (i := i + 2) dL_law_451 (by omega) (by omega) ?_
      refine G.al X dL_law_452 3 rfl ?_
      refine G.il X dL_law_453 0 rfl ?_
      refine G.pu X dL_law_454 ?_
      refine G.nadd X (a := i) (b := 3) dL_law_455 ?_
      refine G.sld X hX (i := i + 3) dL_law_456 (by omega) (by omega) ?_
      refine G.cvi X kX7_turn lL_52 dL_law_457 (tX7_turn_oth l D cI cW m S M p (sc (i + 2)) (sc (i + 3)) hI.ok hp zkd) ⟨Nat.le_of_ble_eq_true rfl, Nat.le_of_ble_eq_true rfl⟩ ⟨Nat.le_of_ble_eq_true rfl, Nat.le_of_ble_eq_true rfl⟩ [21] rfl ⟨rfl, rfl⟩ rfl rfl 21 0 rfl rfl rfl rfl (Nat.le_of_ble_eq_true rfl) (ff_cons (ml_fst _ _ _ _ _ _) (ff_nil)) (ws' := [xl xx xn xt xk xe xo xv xc xr cI (x_rf (m_hi M, m_rf M) 2), wl xn cI S, wl xt cI T1, wl xk cI K1, tl xe cI (m_q M), ol xo xp cI qo, wl xp cI T2, al xv xq cI qa, wl xq cI T3, cl xc xs xw cW qc, wl xs cI T4, wl (xw 0) cI V0, wl (xw 1) cI V1, wl (xw 2) cI V2, wl (xw 3) cI V3, wl (xw 4) cI V4, wl (xw 5) cI V5, wl (xw 6) cI V6, wl (xw 7) cI V7, rl xr xu cI (m_rw M, m_rn M), wl xu cI T5, ml m cI S (m_no M 2)]) rfl ?_
      refine G.c_eq X (a := (-2)) (b := (-2)) dL_law_460 (fun h460 => ?_) (fun h460 => absurd (rfl) h460)
      exact kend S (m_no M 2) T1 K1 qo T2 qa T3 qc T4 V0 V1 V2 V3 V4 V5 V6 V7 T5 (hI.no 2)
  · replace zp : z_in (sc (i + 1)) (s_th S) = false := by simpa using zp
    refine G.al X dL_law_422 2 rfl ?_
    refine G.al X dL_law_423 3 rfl ?_
    refine G.il X dL_law_424 0 rfl ?_
    refine G.pu X dL_law_425 ?_
    refine G.nadd X (a := i) (b := 1) dL_law_426 ?_
    refine G.sld X hX (i := i + 1) dL_law_427 (by omega) (by omega) ?_
    refine G.al X dL_law_428 3 rfl ?_
    refine G.il X dL_law_429 0 rfl ?_
    refine G.pu X dL_law_430 ?_
    refine G.nadd X (a := i) (b := 2) dL_law_431 ?_
    refine G.sld X hX (i := i + 2) dL_law_432 (by omega) (by omega) ?_
    refine G.al X dL_law_433 3 rfl ?_
    refine G.il X dL_law_434 0 rfl ?_
    refine G.pu X dL_law_435 ?_
    refine G.nadd X (a := i) (b := 3) dL_law_436 ?_
    refine G.sld X hX (i := i + 3) dL_law_437 (by omega) (by omega) ?_
    refine G.cvi X kX6_turn lL_48 dL_law_438 (tX6_turn_bad l D cI cW xx xn xt xk xe xo xv xc xr (m_hi M, m_rf M) S (sc (i + 1)) (sc (i + 2)) (sc (i + 3)) hI.ok zp) ⟨Nat.le_of_ble_eq_true rfl, Nat.le_of_ble_eq_true rfl⟩ ⟨Nat.le_of_ble_eq_true rfl, Nat.le_of_ble_eq_true rfl⟩ [0, 1] rfl ⟨rfl, rfl⟩ rfl rfl 0 0 rfl rfl rfl rfl (Nat.le_of_ble_eq_true rfl) (ff_cons (xl_fst _ _ _ _ _ _ _ _ _ _ _ _) (ff_cons (wl_fst _ _ _ _) (ff_nil))) (ws' := [xl xx xn xt xk xe xo xv xc xr cI (x_rf (m_hi M, m_rf M) 1), wl xn cI S, wl xt cI T1, wl xk cI K1, tl xe cI (m_q M), ol xo xp cI qo, wl xp cI T2, al xv xq cI qa, wl xq cI T3, cl xc xs xw cW qc, wl xs cI T4, wl (xw 0) cI V0, wl (xw 1) cI V1, wl (xw 2) cI V2, wl (xw 3) cI V3, wl (xw 4) cI V4, wl (xw 5) cI V5, wl (xw 6) cI V6, wl (xw 7) cI V7, rl xr xu cI (m_rw M, m_rn M), wl xu cI T5, ml m cI S M]) rfl ?_
    refine G.al X dL_law_441 1 rfl ?_
    refine G.al X dL_law_442 3 rfl ?_
    refine G.il X dL_law_443 0 rfl ?_
    refine G.pu X dL_law_444 ?_
    refine G.nadd X (a := i) (b := 1) dL_law_445 ?_
    refine G.sld X hX (i := i + 1) dL_law_446 (by omega) (by omega) ?_
    refine G.al X dL_law_447 3 rfl ?_
    refine G.il X dL_law_448 0 rfl ?_
    refine G.pu X dL_law_449 ?_
    refine G.nadd X (a := i) (b := 2) dL_law_450 ?_
    refine G.sld X hX (i := i + 2) dL_law_451 (by omega) (by omega) ?_
    refine G.al X dL_law_452 3 rfl ?_
    refine G.il X dL_law_453 0 rfl ?_
    refine G.pu X dL_law_454 ?_
    refine G.nadd X (a := i) (b := 3) dL_law_455 ?_
    refine G.sld X hX (i := i + 3) dL_law_456 (by omega) (by omega) ?_
    refine G.cvi X kX7_turn lL_52 dL_law_457 (tX7_turn_bad l D cI cW m S M (sc (i + 1)) (sc (i + 2)) (sc (i + 3)) hI.ok zp) ⟨Nat.le_of_ble_eq_true rfl, Nat.le_of_ble_eq_true rfl⟩ ⟨Nat.le_of_ble_eq_true rfl, Nat.le_of_ble_eq_true rfl⟩ [21] rfl ⟨rfl, rfl⟩ rfl rfl 21 0 rfl rfl rfl rfl (Nat.le_of_ble_eq_true rfl) (ff_cons (ml_fst _ _ _ _ _ _) (ff_nil)) (ws' := [xl xx xn xt xk xe xo xv xc xr cI (x_rf (m_hi M, m_rf M) 1), wl xn cI S, wl xt cI T1, wl xk cI K1, tl xe cI (m_q M), ol xo xp cI qo, wl xp cI T2, al xv xq cI qa, wl xq cI T3, cl xc xs xw cW qc, wl xs cI T4, wl (xw 0) cI V0, wl (xw 1) cI V1, wl (xw 2) cI V2, wl (xw 3) cI V3, wl (xw 4) cI V4, wl (xw 5) cI V5, wl (xw 6) cI V6, wl (xw 7) cI V7, rl xr xu cI (m_rw M, m_rn M), wl xu cI T5, ml m cI S (m_no M 1)]) rfl ?_
    refine G.c_eq X (a := (-1)) (b := (-1)) dL_law_460 (fun h460 => ?_) (fun h460 => absurd (rfl) h460)
    exact kend S (m_no M 1) T1 K1 qo T2 qa T3 qc T4 V0 V1 V2 V3 V4 V5 V6 V7 T5 (hI.no 1)

set_option maxRecDepth 20000 in
theorem law_9 {l : Launch} {D : va_G} {cI cW : ClassId} {x : GC} (X : GOK x l D cI cW RL cL_law 4 room_1) {b L i : Nat} {sc : Nat → Int32} (hX : GX x b L sc) (hL : L ≤ 2560) (hi : i + 5 ≤ L) {xx xn xt xk xe xo xp xv xq xc xs : Nat → Nat} {xw : Nat → Nat → Nat} {xr xu m : Nat → Nat} (kend : ∀ (S : WS) (M : MS) (T1 : WS) (K1 : WS) (qo : FN) (T2 : WS) (qa : FN × FN) (T3 : WS) (qc : Int32 × Int32 × Int32) (T4 : WS) (V0 : WS) (V1 : WS) (V2 : WS) (V3 : WS) (V4 : WS) (V5 : WS) (V6 : WS) (V7 : WS) (T5 : WS), IV S M K1 → G x 165 1897 (LW cI cW xx xn xt xk xe xo xp xv xq xc xs xw xr xu m S M T1 K1 qo T2 qa T3 qc T4 V0 V1 V2 V3 V4 V5 V6 V7 T5) 1230 [(3, .int (nI i)), (2, .ref (m 0)), (1, .ref (xx 0)), (0, .ref b)] []) (S : WS) (M : MS) (T1 : WS) (K1 : WS) (qo : FN) (T2 : WS) (qa : FN × FN) (T3 : WS) (qc : Int32 × Int32 × Int32) (T4 : WS) (V0 : WS) (V1 : WS) (V2 : WS) (V3 : WS) (V4 : WS) (V5 : WS) (V6 : WS) (V7 : WS) (T5 : WS) (hI : IV S M K1) : G x 165 1897 (LW cI cW xx xn xt xk xe xo xp xv xq xc xs xw xr xu m S M T1 K1 qo T2 qa T3 qc T4 V0 V1 V2 V3 V4 V5 V6 V7 T5) 465 [(3, .int (nI i)), (2, .ref (m 0)), (1, .ref (xx 0)), (0, .ref b)] [] := by
  show G x 165 1897 ([xl xx xn xt xk xe xo xv xc xr cI (m_hi M, m_rf M), wl xn cI S, wl xt cI T1, wl xk cI K1, tl xe cI (m_q M), ol xo xp cI qo, wl xp cI T2, al xv xq cI qa, wl xq cI T3, cl xc xs xw cW qc, wl xs cI T4, wl (xw 0) cI V0, wl (xw 1) cI V1, wl (xw 2) cI V2, wl (xw 3) cI V3, wl (xw 4) cI V4, wl (xw 5) cI V5, wl (xw 6) cI V6, wl (xw 7) cI V7, rl xr xu cI (m_rw M, m_rn M), wl xu cI T5, ml m cI S M]) 465 [(3, .int (nI i)), (2, .ref (m 0)), (1, .ref (xx 0)), (0, .ref b)] []
  by_cases zp : z_in (sc (i + 1)) (s_th S) = true
  · obtain ⟨p, hp, ep⟩ := z_in_t zp
    by_cases ca : ask S p = true
    · by_cases cb : w_kno S p = true
      · refine G.al X dL_law_465 2 rfl ?_
        refine G.al X dL_law_466 3 rfl ?_
        refine G.il X dL_law_467 0 rfl ?_
        refine G.pu X dL_law_468 ?_
        refine G.nadd X (a := i) (b := 1) dL_law_469 ?_
        refine G.sld X hX (i := i + 1) dL_law_470 (by omega) (by omega) ?_
        refine G.top (b := nI p) ep ?_
        refine G.cvi X kX6_answers lL_53 dL_law_471 (tX6_answers_ok l D cI cW xx xn xt xk xe xo xv xc xr (m_hi M, m_rf M) S p hI.ok hp ca cb) ⟨Nat.le_of_ble_eq_true rfl, Nat.le_of_ble_eq_true rfl⟩ ⟨Nat.le_of_ble_eq_true rfl, Nat.le_of_ble_eq_true rfl⟩ [0, 1] rfl ⟨rfl, rfl⟩ rfl rfl 0 0 rfl rfl rfl rfl (Nat.le_of_ble_eq_true rfl) (ff_cons (xl_fst _ _ _ _ _ _ _ _ _ _ _ _) (ff_cons (wl_fst _ _ _ _) (ff_nil))) (ws' := [xl xx xn xt xk xe xo xv xc xr cI (m_hi M, m_rf M), wl xn cI (w_ans1 S p), wl xt cI T1, wl xk cI K1, tl xe cI (m_q M), ol xo xp cI qo, wl xp cI T2, al xv xq cI qa, wl xq cI T3, cl xc xs xw cW qc, wl xs cI T4, wl (xw 0) cI V0, wl (xw 1) cI V1, wl (xw 2) cI V2, wl (xw 3) cI V3, wl (xw 4) cI V4, wl (xw 5) cI V5, wl (xw 6) cI V6, wl (xw 7) cI V7, rl xr xu cI (m_rw M, m_rn M), wl xu cI T5, ml m cI S M]) rfl ?_
        refine G.al X dL_law_474 1 rfl ?_
        refine G.al X dL_law_475 3 rfl ?_
        refine G.il X dL_law_476 0 rfl ?_
        refine G.pu X dL_law_477 ?_
        refine G.nadd X (a := i) (b := 1) dL_law_478 ?_
        refine G.sld X hX (i := i + 1) dL_law_479 (by omega) (by omega) ?_
        refine G.top (b := nI p) ep ?_
        refine G.cvi X kX7_answers lL_56 dL_law_480 (tX7_answers_ok l D cI cW m S M p hI.ok hp ca cb) ⟨Nat.le_of_ble_eq_true rfl, Nat.le_of_ble_eq_true rfl⟩ ⟨Nat.le_of_ble_eq_true rfl, Nat.le_of_ble_eq_true rfl⟩ [21] rfl ⟨rfl, rfl⟩ rfl rfl 21 0 rfl rfl rfl rfl (Nat.le_of_ble_eq_true rfl) (ff_cons (ml_fst _ _ _ _ _ _) (ff_nil)) (ws' := [xl xx xn xt xk xe xo xv xc xr cI (m_hi M, m_rf M), wl xn cI (w_ans1 S p), wl xt cI T1, wl xk cI K1, tl xe cI (m_q M), ol xo xp cI qo, wl xp cI T2, al xv xq cI qa, wl xq cI T3, cl xc xs xw cW qc, wl xs cI T4, wl (xw 0) cI V0, wl (xw 1) cI V1, wl (xw 2) cI V2, wl (xw 3) cI V3, wl (xw 4) cI V4, wl (xw 5) cI V5, wl (xw 6) cI V6, wl (xw 7) cI V7, rl xr xu cI (m_rw M, m_rn M), wl xu cI T5, ml m cI (w_ans1 S p) M]) rfl ?_
        refine G.c_eq X (a := (s_le (w_ans1 S p) p)) (b := (s_le (w_ans1 S p) p)) dL_law_483 (fun h483 => ?_) (fun h483 => absurd (rfl) h483)
        exact kend (w_ans1 S p) M T1 K1 qo T2 qa T3 qc T4 V0 V1 V2 V3 V4 V5 V6 V7 T5 (hI.S (ok_ans1 hI.ok hp ca))
      · refine G.al X dL_law_465 2 rfl ?_
        refine G.al X dL_law_466 3 rfl ?_
        refine G.il X dL_law_467 0 rfl ?_
        refine G.pu X dL_law_468 ?_
        refine G.nadd X (a := i) (b := 1) dL_law_469 ?_
        refine G.sld X hX (i := i + 1) dL_law_470 (by omega) (by omega) ?_
        refine G.top (b := nI p) ep ?_
        refine G.cvi X kX6_answers lL_53 dL_law_471 (tX6_answers_no l D cI cW xx xn xt xk xe xo xv xc xr (m_hi M, m_rf M) S p hI.ok hp (by simp [cb])) ⟨Nat.le_of_ble_eq_true rfl, Nat.le_of_ble_eq_true rfl⟩ ⟨Nat.le_of_ble_eq_true rfl, Nat.le_of_ble_eq_true rfl⟩ [0, 1] rfl ⟨rfl, rfl⟩ rfl rfl 0 0 rfl rfl rfl rfl (Nat.le_of_ble_eq_true rfl) (ff_cons (xl_fst _ _ _ _ _ _ _ _ _ _ _ _) (ff_cons (wl_fst _ _ _ _) (ff_nil))) (ws' := [xl xx xn xt xk xe xo xv xc xr cI (x_rf (m_hi M, m_rf M) 3), wl xn cI S, wl xt cI T1, wl xk cI K1, tl xe cI (m_q M), ol xo xp cI qo, wl xp cI T2, al xv xq cI qa, wl xq cI T3, cl xc xs xw cW qc, wl xs cI T4, wl (xw 0) cI V0, wl (xw 1) cI V1, wl (xw 2) cI V2, wl (xw 3) cI V3, wl (xw 4) cI V4, wl (xw 5) cI V5, wl (xw 6) cI V6, wl (xw 7) cI V7, rl xr xu cI (m_rw M, m_rn M), wl xu cI T5, ml m cI S M]) rfl ?_
        refine G.al X dL_law_474 1 rfl ?_
        refine G.al X dL_law_475 3 rfl ?_
        refine G.il X dL_law_476 0 rfl ?_
        refine G.pu X dL_law_477 ?_
        refine G.nadd X (a := i) (b := 1) dL_law_478 ?_
        refine G.sld X hX (i := i + 1) dL_law_479 (by omega) (by omega) ?_
        refine G.top (b := nI p) ep ?_
        refine G.cvi X kX7_answers lL_56 dL_law_480 (tX7_answers_no l D cI cW m S M p hI.ok hp (by simp [cb])) ⟨Nat.le_of_ble_eq_true rfl, Nat.le_of_ble_eq_true rfl⟩ ⟨Nat.le_of_ble_eq_true rfl, Nat.le_of_ble_eq_true rfl⟩ [21] rfl ⟨rfl, rfl⟩ rfl rfl 21 0 rfl rfl rfl rfl (Nat.le_of_ble_eq_true rfl) (ff_cons (ml_fst _ _ _ _ _ _) (ff_nil)) (ws' := [xl xx xn xt xk xe xo xv xc xr cI (x_rf (m_hi M, m_rf M) 3), wl xn cI S, wl xt cI T1, wl xk cI K1, tl xe cI (m_q M), ol xo xp cI qo, wl xp cI T2, al xv xq cI qa, wl xq cI T3, cl xc xs xw cW qc, wl xs cI T4, wl (xw 0) cI V0, wl (xw 1) cI V1, wl (xw 2) cI V2, wl (xw 3) cI V3, wl (xw 4) cI V4, wl (xw 5) cI V5, wl (xw 6) cI V6, wl (xw 7) cI V7, rl xr xu cI (m_rw M, m_rn M), wl xu cI T5, ml m cI S (m_no M 3)]) rfl ?_
        refine G.c_eq X (a := (-3)) (b := (-3)) dL_law_483 (fun h483 => ?_) (fun h483 => absurd (rfl) h483)
        exact kend S (m_no M 3) T1 K1 qo T2 qa T3 qc T4 V0 V1 V2 V3 V4 V5 V6 V7 T5 (hI.no 3)
    · refine G.al X dL_law_465 2 rfl ?_
      refine G.al X dL_law_466 3 rfl ?_
      refine G.il X dL_law_467 0 rfl ?_
      refine G.pu X dL_law_468 ?_
      refine G.nadd X (a := i) (b := 1) dL_law_469 ?_
      refine G.sld X hX (i := i + 1) dL_law_470 (by omega) (by omega) ?_
      refine G.top (b := nI p) ep ?_
      refine G.cvi X kX6_answers lL_53 dL_law_471 (tX6_answers_no l D cI cW xx xn xt xk xe xo xv xc xr (m_hi M, m_rf M) S p hI.ok hp (by simp [ca])) ⟨Nat.le_of_ble_eq_true rfl, Nat.le_of_ble_eq_true rfl⟩ ⟨Nat.le_of_ble_eq_true rfl, Nat.le_of_ble_eq_true rfl⟩ [0, 1] rfl ⟨rfl, rfl⟩ rfl rfl 0 0 rfl rfl rfl rfl (Nat.le_of_ble_eq_true rfl) (ff_cons (xl_fst _ _ _ _ _ _ _ _ _ _ _ _) (ff_cons (wl_fst _ _ _ _) (ff_nil))) (ws' := [xl xx xn xt xk xe xo xv xc xr cI (x_rf (m_hi M, m_rf M) 3), wl xn cI S, wl xt cI T1, wl xk cI K1, tl xe cI (m_q M), ol xo xp cI qo, wl xp cI T2, al xv xq cI qa, wl xq cI T3, cl xc xs xw cW qc, wl xs cI T4, wl (xw 0) cI V0, wl (xw 1) cI V1, wl (xw 2) cI V2, wl (xw 3) cI V3, wl (xw 4) cI V4, wl (xw 5) cI V5, wl (xw 6) cI V6, wl (xw 7) cI V7, rl xr xu cI (m_rw M, m_rn M), wl xu cI T5, ml m cI S M]) rfl ?_
      refine G.al X dL_law_474 1 rfl ?_
      refine G.al X dL_law_475 3 rfl ?_
      refine G.il X dL_law_476 0 rfl ?_
      refine G.pu X dL_law_477 ?_
      refine G.nadd X (a := i) (b := 1) dL_law_478 ?_
      refine G.sld X hX (i := i + 1) dL_law_479 (by omega) (by omega) ?_
      refine G.top (b := nI p) ep ?_
      refine G.cvi X kX7_answers lL_56 dL_law_480 (tX7_answers_no l D cI cW m S M p hI.ok hp (by simp [ca])) ⟨Nat.le_of_ble_eq_true rfl, Nat.le_of_ble_eq_true rfl⟩ ⟨Nat.le_of_ble_eq_true rfl, Nat.le_of_ble_eq_true rfl⟩ [21] rfl ⟨rfl, rfl⟩ rfl rfl 21 0 rfl rfl rfl rfl (Nat.le_of_ble_eq_true rfl) (ff_cons (ml_fst _ _ _ _ _ _) (ff_nil)) (ws' := [xl xx xn xt xk xe xo xv xc xr cI (x_rf (m_hi M, m_rf M) 3), wl xn cI S, wl xt cI T1, wl xk cI K1, tl xe cI (m_q M), ol xo xp cI qo, wl xp cI T2, al xv xq cI qa, wl xq cI T3, cl xc xs xw cW qc, wl xs cI T4, wl (xw 0) cI V0, wl (xw 1) cI V1, wl (xw 2) cI V2, wl (xw 3) cI V3, wl (xw 4) cI V4, wl (xw 5) cI V5, wl (xw 6) cI V6, wl (xw 7) cI V7, rl xr xu cI (m_rw M, m_rn M), wl xu cI T5, ml m cI S (m_no M 3)]) rfl ?_
      refine G.c_eq X (a := (-3)) (b := (-3)) dL_law_483 (fun h483 => ?_) (fun h483 => absurd (rfl) h483)
      exact kend S (m_no M 3) T1 K1 qo T2 qa T3 qc T4 V0 V1 V2 V3 V4 V5 V6 V7 T5 (hI.no 3)
  · replace zp : z_in (sc (i + 1)) (s_th S) = false := by simpa using zp
    refine G.al X dL_law_465 2 rfl ?_
    refine G.al X dL_law_466 3 rfl ?_
    refine G.il X dL_law_467 0 rfl ?_
    refine G.pu X dL_law_468 ?_
    refine G.nadd X (a := i) (b := 1) dL_law_469 ?_
    refine G.sld X hX (i := i + 1) dL_law_470 (by omega) (by omega) ?_
    refine G.cvi X kX6_answers lL_53 dL_law_471 (tX6_answers_bad l D cI cW xx xn xt xk xe xo xv xc xr (m_hi M, m_rf M) S (sc (i + 1)) hI.ok zp) ⟨Nat.le_of_ble_eq_true rfl, Nat.le_of_ble_eq_true rfl⟩ ⟨Nat.le_of_ble_eq_true rfl, Nat.le_of_ble_eq_true rfl⟩ [0, 1] rfl ⟨rfl, rfl⟩ rfl rfl 0 0 rfl rfl rfl rfl (Nat.le_of_ble_eq_true rfl) (ff_cons (xl_fst _ _ _ _ _ _ _ _ _ _ _ _) (ff_cons (wl_fst _ _ _ _) (ff_nil))) (ws' := [xl xx xn xt xk xe xo xv xc xr cI (x_rf (m_hi M, m_rf M) 1), wl xn cI S, wl xt cI T1, wl xk cI K1, tl xe cI (m_q M), ol xo xp cI qo, wl xp cI T2, al xv xq cI qa, wl xq cI T3, cl xc xs xw cW qc, wl xs cI T4, wl (xw 0) cI V0, wl (xw 1) cI V1, wl (xw 2) cI V2, wl (xw 3) cI V3, wl (xw 4) cI V4, wl (xw 5) cI V5, wl (xw 6) cI V6, wl (xw 7) cI V7, rl xr xu cI (m_rw M, m_rn M), wl xu cI T5, ml m cI S M]) rfl ?_
    refine G.al X dL_law_474 1 rfl ?_
    refine G.al X dL_law_475 3 rfl ?_
    refine G.il X dL_law_476 0 rfl ?_
    refine G.pu X dL_law_477 ?_
    refine G.nadd X (a := i) (b := 1) dL_law_478 ?_
    refine G.sld X hX (i := i + 1) dL_law_479 (by omega) (by omega) ?_
    refine G.cvi X kX7_answers lL_56 dL_law_480 (tX7_answers_bad l D cI cW m S M (sc (i + 1)) hI.ok zp) ⟨Nat.le_of_ble_eq_true rfl, Nat.le_of_ble_eq_true rfl⟩ ⟨Nat.le_of_ble_eq_true rfl, Nat.le_of_ble_eq_true rfl⟩ [21] rfl ⟨rfl, rfl⟩ rfl rfl 21 0 rfl rfl rfl rfl (Nat.le_of_ble_eq_true rfl) (ff_cons (ml_fst _ _ _ _ _ _) (ff_nil)) (ws' := [xl xx xn xt xk xe xo xv xc xr cI (x_rf (m_hi M, m_rf M) 1), wl xn cI S, wl xt cI T1, wl xk cI K1, tl xe cI (m_q M), ol xo xp cI qo, wl xp cI T2, al xv xq cI qa, wl xq cI T3, cl xc xs xw cW qc, wl xs cI T4, wl (xw 0) cI V0, wl (xw 1) cI V1, wl (xw 2) cI V2, wl (xw 3) cI V3, wl (xw 4) cI V4, wl (xw 5) cI V5, wl (xw 6) cI V6, wl (xw 7) cI V7, rl xr xu cI (m_rw M, m_rn M), wl xu cI T5, ml m cI S (m_no M 1)]) rfl ?_
    refine G.c_eq X (a := (-1)) (b := (-1)) dL_law_483 (fun h483 => ?_) (fun h483 => absurd (rfl) h483)
    exact kend S (m_no M 1) T1 K1 qo T2 qa T3 qc T4 V0 V1 V2 V3 V4 V5 V6 V7 T5 (hI.no 1)

set_option maxRecDepth 20000 in
theorem law_10 {l : Launch} {D : va_G} {cI cW : ClassId} {x : GC} (X : GOK x l D cI cW RL cL_law 4 room_1) {b L i : Nat} {sc : Nat → Int32} (hX : GX x b L sc) (hL : L ≤ 2560) (hi : i + 5 ≤ L) {xx xn xt xk xe xo xp xv xq xc xs : Nat → Nat} {xw : Nat → Nat → Nat} {xr xu m : Nat → Nat} (kend : ∀ (S : WS) (M : MS) (T1 : WS) (K1 : WS) (qo : FN) (T2 : WS) (qa : FN × FN) (T3 : WS) (qc : Int32 × Int32 × Int32) (T4 : WS) (V0 : WS) (V1 : WS) (V2 : WS) (V3 : WS) (V4 : WS) (V5 : WS) (V6 : WS) (V7 : WS) (T5 : WS), IV S M K1 → G x 165 1897 (LW cI cW xx xn xt xk xe xo xp xv xq xc xs xw xr xu m S M T1 K1 qo T2 qa T3 qc T4 V0 V1 V2 V3 V4 V5 V6 V7 T5) 1230 [(3, .int (nI i)), (2, .ref (m 0)), (1, .ref (xx 0)), (0, .ref b)] []) (S : WS) (M : MS) (T1 : WS) (K1 : WS) (qo : FN) (T2 : WS) (qa : FN × FN) (T3 : WS) (qc : Int32 × Int32 × Int32) (T4 : WS) (V0 : WS) (V1 : WS) (V2 : WS) (V3 : WS) (V4 : WS) (V5 : WS) (V6 : WS) (V7 : WS) (T5 : WS) (hI : IV S M K1) : G x 165 1897 (LW cI cW xx xn xt xk xe xo xp xv xq xc xs xw xr xu m S M T1 K1 qo T2 qa T3 qc T4 V0 V1 V2 V3 V4 V5 V6 V7 T5) 488 [(3, .int (nI i)), (2, .ref (m 0)), (1, .ref (xx 0)), (0, .ref b)] [] := by
  show G x 165 1897 ([xl xx xn xt xk xe xo xv xc xr cI (m_hi M, m_rf M), wl xn cI S, wl xt cI T1, wl xk cI K1, tl xe cI (m_q M), ol xo xp cI qo, wl xp cI T2, al xv xq cI qa, wl xq cI T3, cl xc xs xw cW qc, wl xs cI T4, wl (xw 0) cI V0, wl (xw 1) cI V1, wl (xw 2) cI V2, wl (xw 3) cI V3, wl (xw 4) cI V4, wl (xw 5) cI V5, wl (xw 6) cI V6, wl (xw 7) cI V7, rl xr xu cI (m_rw M, m_rn M), wl xu cI T5, ml m cI S M]) 488 [(3, .int (nI i)), (2, .ref (m 0)), (1, .ref (xx 0)), (0, .ref b)] []
  by_cases cnl : sc (i + 1) < 1
  · refine G.al X dL_law_488 2 rfl ?_
    refine G.al X dL_law_489 3 rfl ?_
    refine G.il X dL_law_490 0 rfl ?_
    refine G.pu X dL_law_491 ?_
    refine G.nadd X (a := i) (b := 1) dL_law_492 ?_
    refine G.sld X hX (i := i + 1) dL_law_493 (by omega) (by omega) ?_
    refine G.cvi X kX6_days lL_57 dL_law_494 (tX6_days_lo l D cI cW xx xn xt xk xe xo xv xc xr (m_hi M, m_rf M) S (sc (i + 1)) hI.ok (by omega)) ⟨Nat.le_of_ble_eq_true rfl, Nat.le_of_ble_eq_true rfl⟩ ⟨Nat.le_of_ble_eq_true rfl, Nat.le_of_ble_eq_true rfl⟩ [0, 1] rfl ⟨rfl, rfl⟩ rfl rfl 0 0 rfl rfl rfl rfl (Nat.le_of_ble_eq_true rfl) (ff_cons (xl_fst _ _ _ _ _ _ _ _ _ _ _ _) (ff_cons (wl_fst _ _ _ _) (ff_nil))) (ws' := [xl xx xn xt xk xe xo xv xc xr cI (x_rf (m_hi M, m_rf M) 4), wl xn cI S, wl xt cI T1, wl xk cI K1, tl xe cI (m_q M), ol xo xp cI qo, wl xp cI T2, al xv xq cI qa, wl xq cI T3, cl xc xs xw cW qc, wl xs cI T4, wl (xw 0) cI V0, wl (xw 1) cI V1, wl (xw 2) cI V2, wl (xw 3) cI V3, wl (xw 4) cI V4, wl (xw 5) cI V5, wl (xw 6) cI V6, wl (xw 7) cI V7, rl xr xu cI (m_rw M, m_rn M), wl xu cI T5, ml m cI S M]) rfl ?_
    refine G.al X dL_law_497 1 rfl ?_
    refine G.al X dL_law_498 3 rfl ?_
    refine G.il X dL_law_499 0 rfl ?_
    refine G.pu X dL_law_500 ?_
    refine G.nadd X (a := i) (b := 1) dL_law_501 ?_
    refine G.sld X hX (i := i + 1) dL_law_502 (by omega) (by omega) ?_
    refine G.cvi X kX7_days lL_60 dL_law_503 (tX7_days_lo l D cI cW m S M (sc (i + 1)) hI.ok (by omega)) ⟨Nat.le_of_ble_eq_true rfl, Nat.le_of_ble_eq_true rfl⟩ ⟨Nat.le_of_ble_eq_true rfl, Nat.le_of_ble_eq_true rfl⟩ [21] rfl ⟨rfl, rfl⟩ rfl rfl 21 0 rfl rfl rfl rfl (Nat.le_of_ble_eq_true rfl) (ff_cons (ml_fst _ _ _ _ _ _) (ff_nil)) (ws' := [xl xx xn xt xk xe xo xv xc xr cI (x_rf (m_hi M, m_rf M) 4), wl xn cI S, wl xt cI T1, wl xk cI K1, tl xe cI (m_q M), ol xo xp cI qo, wl xp cI T2, al xv xq cI qa, wl xq cI T3, cl xc xs xw cW qc, wl xs cI T4, wl (xw 0) cI V0, wl (xw 1) cI V1, wl (xw 2) cI V2, wl (xw 3) cI V3, wl (xw 4) cI V4, wl (xw 5) cI V5, wl (xw 6) cI V6, wl (xw 7) cI V7, rl xr xu cI (m_rw M, m_rn M), wl xu cI T5, ml m cI S (m_no M 4)]) rfl ?_
    refine G.c_eq X (a := (-4)) (b := (-4)) dL_law_506 (fun h506 => ?_) (fun h506 => absurd (rfl) h506)
    exact kend S (m_no M 4) T1 K1 qo T2 qa T3 qc T4 V0 V1 V2 V3 V4 V5 V6 V7 T5 (hI.no 4)
  · by_cases cnh : 60 < sc (i + 1)
    · refine G.al X dL_law_488 2 rfl ?_
      refine G.al X dL_law_489 3 rfl ?_
      refine G.il X dL_law_490 0 rfl ?_
      refine G.pu X dL_law_491 ?_
      refine G.nadd X (a := i) (b := 1) dL_law_492 ?_
      refine G.sld X hX (i := i + 1) dL_law_493 (by omega) (by omega) ?_
      refine G.cvi X kX6_days lL_57 dL_law_494 (tX6_days_hi l D cI cW xx xn xt xk xe xo xv xc xr (m_hi M, m_rf M) S (sc (i + 1)) hI.ok (by omega) (Or.inl cnh)) ⟨Nat.le_of_ble_eq_true rfl, Nat.le_of_ble_eq_true rfl⟩ ⟨Nat.le_of_ble_eq_true rfl, Nat.le_of_ble_eq_true rfl⟩ [0, 1] rfl ⟨rfl, rfl⟩ rfl rfl 0 0 rfl rfl rfl rfl (Nat.le_of_ble_eq_true rfl) (ff_cons (xl_fst _ _ _ _ _ _ _ _ _ _ _ _) (ff_cons (wl_fst _ _ _ _) (ff_nil))) (ws' := [xl xx xn xt xk xe xo xv xc xr cI (x_rf (m_hi M, m_rf M) 6), wl xn cI S, wl xt cI T1, wl xk cI K1, tl xe cI (m_q M), ol xo xp cI qo, wl xp cI T2, al xv xq cI qa, wl xq cI T3, cl xc xs xw cW qc, wl xs cI T4, wl (xw 0) cI V0, wl (xw 1) cI V1, wl (xw 2) cI V2, wl (xw 3) cI V3, wl (xw 4) cI V4, wl (xw 5) cI V5, wl (xw 6) cI V6, wl (xw 7) cI V7, rl xr xu cI (m_rw M, m_rn M), wl xu cI T5, ml m cI S M]) rfl ?_
      refine G.al X dL_law_497 1 rfl ?_
      refine G.al X dL_law_498 3 rfl ?_
      refine G.il X dL_law_499 0 rfl ?_
      refine G.pu X dL_law_500 ?_
      refine G.nadd X (a := i) (b := 1) dL_law_501 ?_
      refine G.sld X hX (i := i + 1) dL_law_502 (by omega) (by omega) ?_
      refine G.cvi X kX7_days lL_60 dL_law_503 (tX7_days_hi l D cI cW m S M (sc (i + 1)) hI.ok (by omega) (by omega)) ⟨Nat.le_of_ble_eq_true rfl, Nat.le_of_ble_eq_true rfl⟩ ⟨Nat.le_of_ble_eq_true rfl, Nat.le_of_ble_eq_true rfl⟩ [21] rfl ⟨rfl, rfl⟩ rfl rfl 21 0 rfl rfl rfl rfl (Nat.le_of_ble_eq_true rfl) (ff_cons (ml_fst _ _ _ _ _ _) (ff_nil)) (ws' := [xl xx xn xt xk xe xo xv xc xr cI (x_rf (m_hi M, m_rf M) 6), wl xn cI S, wl xt cI T1, wl xk cI K1, tl xe cI (m_q M), ol xo xp cI qo, wl xp cI T2, al xv xq cI qa, wl xq cI T3, cl xc xs xw cW qc, wl xs cI T4, wl (xw 0) cI V0, wl (xw 1) cI V1, wl (xw 2) cI V2, wl (xw 3) cI V3, wl (xw 4) cI V4, wl (xw 5) cI V5, wl (xw 6) cI V6, wl (xw 7) cI V7, rl xr xu cI (m_rw M, m_rn M), wl xu cI T5, ml m cI S (m_no M 6)]) rfl ?_
      refine G.c_eq X (a := (-6)) (b := (-6)) dL_law_506 (fun h506 => ?_) (fun h506 => absurd (rfl) h506)
      exact kend S (m_no M 6) T1 K1 qo T2 qa T3 qc T4 V0 V1 V2 V3 V4 V5 V6 V7 T5 (hI.no 6)
    · obtain ⟨n, ⟨hn1, hn2⟩, en⟩ := n_rng (lo := 1) (hi := 60) (by decide) (by decide) cnl cnh
      by_cases c3 : 999 < s_da S + nI n
      · refine G.al X dL_law_488 2 rfl ?_
        refine G.al X dL_law_489 3 rfl ?_
        refine G.il X dL_law_490 0 rfl ?_
        refine G.pu X dL_law_491 ?_
        refine G.nadd X (a := i) (b := 1) dL_law_492 ?_
        refine G.sld X hX (i := i + 1) dL_law_493 (by omega) (by omega) ?_
        refine G.top (b := nI n) en ?_
        refine G.cvi X kX6_days lL_57 dL_law_494 (tX6_days_hi l D cI cW xx xn xt xk xe xo xv xc xr (m_hi M, m_rf M) S (nI n) hI.ok (nI_nlt (b := 1) hn1 (by omega)) (Or.inr c3)) ⟨Nat.le_of_ble_eq_true rfl, Nat.le_of_ble_eq_true rfl⟩ ⟨Nat.le_of_ble_eq_true rfl, Nat.le_of_ble_eq_true rfl⟩ [0, 1] rfl ⟨rfl, rfl⟩ rfl rfl 0 0 rfl rfl rfl rfl (Nat.le_of_ble_eq_true rfl) (ff_cons (xl_fst _ _ _ _ _ _ _ _ _ _ _ _) (ff_cons (wl_fst _ _ _ _) (ff_nil))) (ws' := [xl xx xn xt xk xe xo xv xc xr cI (x_rf (m_hi M, m_rf M) 6), wl xn cI S, wl xt cI T1, wl xk cI K1, tl xe cI (m_q M), ol xo xp cI qo, wl xp cI T2, al xv xq cI qa, wl xq cI T3, cl xc xs xw cW qc, wl xs cI T4, wl (xw 0) cI V0, wl (xw 1) cI V1, wl (xw 2) cI V2, wl (xw 3) cI V3, wl (xw 4) cI V4, wl (xw 5) cI V5, wl (xw 6) cI V6, wl (xw 7) cI V7, rl xr xu cI (m_rw M, m_rn M), wl xu cI T5, ml m cI S M]) rfl ?_
        refine G.al X dL_law_497 1 rfl ?_
        refine G.al X dL_law_498 3 rfl ?_
        refine G.il X dL_law_499 0 rfl ?_
        refine G.pu X dL_law_500 ?_
        refine G.nadd X (a := i) (b := 1) dL_law_501 ?_
        refine G.sld X hX (i := i + 1) dL_law_502 (by omega) (by omega) ?_
        refine G.top (b := nI n) en ?_
        refine G.cvi X kX7_days lL_60 dL_law_503 (tX7_days_hi2 l D cI cW m S M n hI.ok hn1 hn2 c3) ⟨Nat.le_of_ble_eq_true rfl, Nat.le_of_ble_eq_true rfl⟩ ⟨Nat.le_of_ble_eq_true rfl, Nat.le_of_ble_eq_true rfl⟩ [21] rfl ⟨rfl, rfl⟩ rfl rfl 21 0 rfl rfl rfl rfl (Nat.le_of_ble_eq_true rfl) (ff_cons (ml_fst _ _ _ _ _ _) (ff_nil)) (ws' := [xl xx xn xt xk xe xo xv xc xr cI (x_rf (m_hi M, m_rf M) 6), wl xn cI S, wl xt cI T1, wl xk cI K1, tl xe cI (m_q M), ol xo xp cI qo, wl xp cI T2, al xv xq cI qa, wl xq cI T3, cl xc xs xw cW qc, wl xs cI T4, wl (xw 0) cI V0, wl (xw 1) cI V1, wl (xw 2) cI V2, wl (xw 3) cI V3, wl (xw 4) cI V4, wl (xw 5) cI V5, wl (xw 6) cI V6, wl (xw 7) cI V7, rl xr xu cI (m_rw M, m_rn M), wl xu cI T5, ml m cI S (m_no M 6)]) rfl ?_
        refine G.c_eq X (a := (-6)) (b := (-6)) dL_law_506 (fun h506 => ?_) (fun h506 => absurd (rfl) h506)
        exact kend S (m_no M 6) T1 K1 qo T2 qa T3 qc T4 V0 V1 V2 V3 V4 V5 V6 V7 T5 (hI.no 6)
      · refine G.al X dL_law_488 2 rfl ?_
        refine G.al X dL_law_489 3 rfl ?_
        refine G.il X dL_law_490 0 rfl ?_
        refine G.pu X dL_law_491 ?_
        refine G.nadd X (a := i) (b := 1) dL_law_492 ?_
        refine G.sld X hX (i := i + 1) dL_law_493 (by omega) (by omega) ?_
        refine G.top (b := nI n) en ?_
        refine G.cvi X kX6_days lL_57 dL_law_494 (tX6_days_ok l D cI cW xx xn xt xk xe xo xv xc xr (m_hi M, m_rf M) S n hI.ok hn1 hn2 c3) ⟨Nat.le_of_ble_eq_true rfl, Nat.le_of_ble_eq_true rfl⟩ ⟨Nat.le_of_ble_eq_true rfl, Nat.le_of_ble_eq_true rfl⟩ [0, 1] rfl ⟨rfl, rfl⟩ rfl rfl 0 0 rfl rfl rfl rfl (Nat.le_of_ble_eq_true rfl) (ff_cons (xl_fst _ _ _ _ _ _ _ _ _ _ _ _) (ff_cons (wl_fst _ _ _ _) (ff_nil))) (ws' := [xl xx xn xt xk xe xo xv xc xr cI (m_hi M, m_rf M), wl xn cI (w_dayN S n), wl xt cI T1, wl xk cI K1, tl xe cI (m_q M), ol xo xp cI qo, wl xp cI T2, al xv xq cI qa, wl xq cI T3, cl xc xs xw cW qc, wl xs cI T4, wl (xw 0) cI V0, wl (xw 1) cI V1, wl (xw 2) cI V2, wl (xw 3) cI V3, wl (xw 4) cI V4, wl (xw 5) cI V5, wl (xw 6) cI V6, wl (xw 7) cI V7, rl xr xu cI (m_rw M, m_rn M), wl xu cI T5, ml m cI S M]) rfl ?_
        refine G.al X dL_law_497 1 rfl ?_
        refine G.al X dL_law_498 3 rfl ?_
        refine G.il X dL_law_499 0 rfl ?_
        refine G.pu X dL_law_500 ?_
        refine G.nadd X (a := i) (b := 1) dL_law_501 ?_
        refine G.sld X hX (i := i + 1) dL_law_502 (by omega) (by omega) ?_
        refine G.top (b := nI n) en ?_
        refine G.cvi X kX7_days lL_60 dL_law_503 (tX7_days_ok l D cI cW m S M n hI.ok hI.co hn1 hn2 c3) ⟨Nat.le_of_ble_eq_true rfl, Nat.le_of_ble_eq_true rfl⟩ ⟨Nat.le_of_ble_eq_true rfl, Nat.le_of_ble_eq_true rfl⟩ [21] rfl ⟨rfl, rfl⟩ rfl rfl 21 0 rfl rfl rfl rfl (Nat.le_of_ble_eq_true rfl) (ff_cons (ml_fst _ _ _ _ _ _) (ff_nil)) (ws' := [xl xx xn xt xk xe xo xv xc xr cI (m_hi M, m_rf M), wl xn cI (w_dayN S n), wl xt cI T1, wl xk cI K1, tl xe cI (m_q M), ol xo xp cI qo, wl xp cI T2, al xv xq cI qa, wl xq cI T3, cl xc xs xw cW qc, wl xs cI T4, wl (xw 0) cI V0, wl (xw 1) cI V1, wl (xw 2) cI V2, wl (xw 3) cI V3, wl (xw 4) cI V4, wl (xw 5) cI V5, wl (xw 6) cI V6, wl (xw 7) cI V7, rl xr xu cI (m_rw M, m_rn M), wl xu cI T5, ml m cI (w_dayN S n) M]) rfl ?_
        refine G.c_eq X (a := (b2i (w_wat (w_dayN S n)))) (b := (b2i (w_wat (w_dayN S n)))) dL_law_506 (fun h506 => ?_) (fun h506 => absurd (rfl) h506)
        exact kend (w_dayN S n) M T1 K1 qo T2 qa T3 qc T4 V0 V1 V2 V3 V4 V5 V6 V7 T5 (hI.S (ok_dayN hI.ok n))
