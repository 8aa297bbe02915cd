set_option maxRecDepth 20000 in
theorem law_22 {l : Launch} {D : va_G} {cI cW : ClassId} {x : GC} (X : GOK x l D cI cW RL cL_law 4 room_1) {b L i : Nat} {sc : Nat → Int32} (hX : GX x b L sc) (hL : L ≤ 2560) (hi : i + 5 ≤ L) {xx xn xt xk xe xo xp xv xq xc xs : Nat → Nat} {xw : Nat → Nat → Nat} {xr xu m : Nat → Nat} (kend : ∀ (S : WS) (M : MS) (T1 : WS) (K1 : WS) (qo : FN) (T2 : WS) (qa : FN × FN) (T3 : WS) (qc : Int32 × Int32 × Int32) (T4 : WS) (V0 : WS) (V1 : WS) (V2 : WS) (V3 : WS) (V4 : WS) (V5 : WS) (V6 : WS) (V7 : WS) (T5 : WS), IV S M K1 → G x 165 1897 (LW cI cW xx xn xt xk xe xo xp xv xq xc xs xw xr xu m S M T1 K1 qo T2 qa T3 qc T4 V0 V1 V2 V3 V4 V5 V6 V7 T5) 1230 [(3, .int (nI i)), (2, .ref (m 0)), (1, .ref (xx 0)), (0, .ref b)] []) (S : WS) (M : MS) (T1 : WS) (K1 : WS) (qo : FN) (T2 : WS) (qa : FN × FN) (T3 : WS) (qc : Int32 × Int32 × Int32) (T4 : WS) (V0 : WS) (V1 : WS) (V2 : WS) (V3 : WS) (V4 : WS) (V5 : WS) (V6 : WS) (V7 : WS) (T5 : WS) (hI : IV S M K1) : G x 165 1897 (LW cI cW xx xn xt xk xe xo xp xv xq xc xs xw xr xu m S M T1 K1 qo T2 qa T3 qc T4 V0 V1 V2 V3 V4 V5 V6 V7 T5) 784 [(3, .int (nI i)), (2, .ref (m 0)), (1, .ref (xx 0)), (0, .ref b)] [] := by
  show G x 165 1897 ([xl xx xn xt xk xe xo xv xc xr cI (m_hi M, m_rf M), wl xn cI S, wl xt cI T1, wl xk cI K1, tl xe cI (m_q M), ol xo xp cI qo, wl xp cI T2, al xv xq cI qa, wl xq cI T3, cl xc xs xw cW qc, wl xs cI T4, wl (xw 0) cI V0, wl (xw 1) cI V1, wl (xw 2) cI V2, wl (xw 3) cI V3, wl (xw 4) cI V4, wl (xw 5) cI V5, wl (xw 6) cI V6, wl (xw 7) cI V7, rl xr xu cI (m_rw M, m_rn M), wl xu cI T5, ml m cI S M]) 784 [(3, .int (nI i)), (2, .ref (m 0)), (1, .ref (xx 0)), (0, .ref b)] []
  by_cases zkd : z_in (sc (i + 1)) 6 = true
  · obtain ⟨kd, hkd, ekd⟩ := z_in_t zkd
    by_cases c1 : sc (i + 2) < 0
    · refine G.al X dL_law_784 2 rfl ?_
      refine G.al X dL_law_785 3 rfl ?_
      refine G.il X dL_law_786 0 rfl ?_
      refine G.pu X dL_law_787 ?_
      refine G.nadd X (a := i) (b := 1) dL_law_788 ?_
      refine G.sld X hX (i := i + 1) dL_law_789 (by omega) (by omega) ?_
      refine G.top (b := nI kd) ekd ?_
      refine G.al X dL_law_790 3 rfl ?_
      refine G.il X dL_law_791 0 rfl ?_
      refine G.pu X dL_law_792 ?_
      refine G.nadd X (a := i) (b := 2) dL_law_793 ?_
      refine G.sld X hX (i := i + 2) dL_law_794 (by omega) (by omega) ?_
      refine G.al X dL_law_795 3 rfl ?_
      refine G.il X dL_law_796 0 rfl ?_
      refine G.pu X dL_law_797 ?_
      refine G.nadd X (a := i) (b := 3) dL_law_798 ?_
      refine G.sld X hX (i := i + 3) dL_law_799 (by omega) (by omega) ?_
      refine G.al X dL_law_800 3 rfl ?_
      refine G.il X dL_law_801 0 rfl ?_
      refine G.pu X dL_law_802 ?_
      refine G.nadd X (a := i) (b := 4) dL_law_803 ?_
      refine G.sld X hX (i := i + 4) dL_law_804 (by omega) (by omega) ?_
      refine G.cvi X kX6_drop lL_105 dL_law_805 (tX6_drop_lo l D cI cW xx xn xt xk xe xo xv xc xr (m_hi M, m_rf M) kd (sc (i + 2)) (sc (i + 3)) (sc (i + 4)) hkd (Or.inl c1)) ⟨Nat.le_of_ble_eq_true rfl, Nat.le_of_ble_eq_true rfl⟩ ⟨Nat.le_of_ble_eq_true rfl, Nat.le_of_ble_eq_true rfl⟩ [0] rfl ⟨rfl, rfl⟩ rfl rfl 0 0 rfl rfl rfl rfl (Nat.le_of_ble_eq_true rfl) (ff_cons (xl_fst _ _ _ _ _ _ _ _ _ _ _ _) (ff_nil)) (ws' := [xl xx xn xt xk xe xo xv xc xr cI (x_rf (m_hi M, m_rf M) 4), wl xn cI S, wl xt cI T1, wl xk cI K1, tl xe cI (m_q M), ol xo xp cI qo, wl xp cI T2, al xv xq cI qa, wl xq cI T3, cl xc xs xw cW qc, wl xs cI T4, wl (xw 0) cI V0, wl (xw 1) cI V1, wl (xw 2) cI V2, wl (xw 3) cI V3, wl (xw 4) cI V4, wl (xw 5) cI V5, wl (xw 6) cI V6, wl (xw 7) cI V7, rl xr xu cI (m_rw M, m_rn M), wl xu cI T5, ml m cI S M]) rfl ?_
      refine G.al X dL_law_808 1 rfl ?_
      refine G.al X dL_law_809 3 rfl ?_
      refine G.il X dL_law_810 0 rfl ?_
      refine G.pu X dL_law_811 ?_
      refine G.nadd X (a := i) (b := 1) dL_law_812 ?_
      refine G.sld X hX (i := i + 1) dL_law_813 (by omega) (by omega) ?_
      refine G.top (b := nI kd) ekd ?_
      refine G.al X dL_law_814 3 rfl ?_
      refine G.il X dL_law_815 0 rfl ?_
      refine G.pu X dL_law_816 ?_
      refine G.nadd X (a := i) (b := 2) dL_law_817 ?_
      refine G.sld X hX (i := i + 2) dL_law_818 (by omega) (by omega) ?_
      refine G.al X dL_law_819 3 rfl ?_
      refine G.il X dL_law_820 0 rfl ?_
      refine G.pu X dL_law_821 ?_
      refine G.nadd X (a := i) (b := 3) dL_law_822 ?_
      refine G.sld X hX (i := i + 3) dL_law_823 (by omega) (by omega) ?_
      refine G.al X dL_law_824 3 rfl ?_
      refine G.il X dL_law_825 0 rfl ?_
      refine G.pu X dL_law_826 ?_
      refine G.nadd X (a := i) (b := 4) dL_law_827 ?_
      refine G.sld X hX (i := i + 4) dL_law_828 (by omega) (by omega) ?_
      refine G.cvi X kX7_drop lL_109 dL_law_829 (tX7_drop_lo1 l D cI cW m S M kd (sc (i + 2)) (sc (i + 3)) (sc (i + 4)) hkd (by omega)) ⟨Nat.le_of_ble_eq_true rfl, Nat.le_of_ble_eq_true rfl⟩ ⟨Nat.le_of_ble_eq_true rfl, Nat.le_of_ble_eq_true rfl⟩ [21] rfl ⟨rfl, rfl⟩ rfl rfl 21 0 rfl rfl rfl rfl (Nat.le_of_ble_eq_true rfl) (ff_cons (ml_fst _ _ _ _ _ _) (ff_nil)) (ws' := [xl xx xn xt xk xe xo xv xc xr cI (x_rf (m_hi M, m_rf M) 4), wl xn cI S, wl xt cI T1, wl xk cI K1, tl xe cI (m_q M), ol xo xp cI qo, wl xp cI T2, al xv xq cI qa, wl xq cI T3, cl xc xs xw cW qc, wl xs cI T4, wl (xw 0) cI V0, wl (xw 1) cI V1, wl (xw 2) cI V2, wl (xw 3) cI V3, wl (xw 4) cI V4, wl (xw 5) cI V5, wl (xw 6) cI V6, wl (xw 7) cI V7, rl xr xu cI (m_rw M, m_rn M), wl xu cI T5, ml m cI S (m_no M 4)]) rfl ?_
      refine G.c_eq X (a := (-4)) (b := (-4)) dL_law_832 (fun h832 => ?_) (fun h832 => absurd (rfl) h832)
      exact kend S (m_no M 4) T1 K1 qo T2 qa T3 qc T4 V0 V1 V2 V3 V4 V5 V6 V7 T5 (hI.no 4)
    · by_cases c2 : sc (i + 3) < 1
      · refine G.al X dL_law_784 2 rfl ?_
        refine G.al X dL_law_785 3 rfl ?_
        refine G.il X dL_law_786 0 rfl ?_
        refine G.pu X dL_law_787 ?_
        refine G.nadd X (a := i) (b := 1) dL_law_788 ?_
        refine G.sld X hX (i := i + 1) dL_law_789 (by omega) (by omega) ?_
        refine G.top (b := nI kd) ekd ?_
        refine G.al X dL_law_790 3 rfl ?_
        refine G.il X dL_law_791 0 rfl ?_
        refine G.pu X dL_law_792 ?_
        refine G.nadd X (a := i) (b := 2) dL_law_793 ?_
        refine G.sld X hX (i := i + 2) dL_law_794 (by omega) (by omega) ?_
        refine G.al X dL_law_795 3 rfl ?_
        refine G.il X dL_law_796 0 rfl ?_
        refine G.pu X dL_law_797 ?_
        refine G.nadd X (a := i) (b := 3) dL_law_798 ?_
        refine G.sld X hX (i := i + 3) dL_law_799 (by omega) (by omega) ?_
        refine G.al X dL_law_800 3 rfl ?_
        refine G.il X dL_law_801 0 rfl ?_
        refine G.pu X dL_law_802 ?_
        refine G.nadd X (a := i) (b := 4) dL_law_803 ?_
        refine G.sld X hX (i := i + 4) dL_law_804 (by omega) (by omega) ?_
        refine G.cvi X kX6_drop lL_105 dL_law_805 (tX6_drop_lo l D cI cW xx xn xt xk xe xo xv xc xr (m_hi M, m_rf M) kd (sc (i + 2)) (sc (i + 3)) (sc (i + 4)) hkd (Or.inr c2)) ⟨Nat.le_of_ble_eq_true rfl, Nat.le_of_ble_eq_true rfl⟩ ⟨Nat.le_of_ble_eq_true rfl, Nat.le_of_ble_eq_true rfl⟩ [0] rfl ⟨rfl, rfl⟩ rfl rfl 0 0 rfl rfl rfl rfl (Nat.le_of_ble_eq_true rfl) (ff_cons (xl_fst _ _ _ _ _ _ _ _ _ _ _ _) (ff_nil)) (ws' := [xl xx xn xt xk xe xo xv xc xr cI (x_rf (m_hi M, m_rf M) 4), wl xn cI S, wl xt cI T1, wl xk cI K1, tl xe cI (m_q M), ol xo xp cI qo, wl xp cI T2, al xv xq cI qa, wl xq cI T3, cl xc xs xw cW qc, wl xs cI T4, wl (xw 0) cI V0, wl (xw 1) cI V1, wl (xw 2) cI V2, wl (xw 3) cI V3, wl (xw 4) cI V4, wl (xw 5) cI V5, wl (xw 6) cI V6, wl (xw 7) cI V7, rl xr xu cI (m_rw M, m_rn M), wl xu cI T5, ml m cI S M]) rfl ?_
        refine G.al X dL_law_808 1 rfl ?_
        refine G.al X dL_law_809 3 rfl ?_
        refine G.il X dL_law_810 0 rfl ?_
        refine G.pu X dL_law_811 ?_
        refine G.nadd X (a := i) (b := 1) dL_law_812 ?_
        refine G.sld X hX (i := i + 1) dL_law_813 (by omega) (by omega) ?_
        refine G.top (b := nI kd) ekd ?_
        refine G.al X dL_law_814 3 rfl ?_
        refine G.il X dL_law_815 0 rfl ?_
        refine G.pu X dL_law_816 ?_
        refine G.nadd X (a := i) (b := 2) dL_law_817 ?_
        refine G.sld X hX (i := i + 2) dL_law_818 (by omega) (by omega) ?_
        refine G.al X dL_law_819 3 rfl ?_
        refine G.il X dL_law_820 0 rfl ?_
        refine G.pu X dL_law_821 ?_
        refine G.nadd X (a := i) (b := 3) dL_law_822 ?_
        refine G.sld X hX (i := i + 3) dL_law_823 (by omega) (by omega) ?_
        refine G.al X dL_law_824 3 rfl ?_
        refine G.il X dL_law_825 0 rfl ?_
        refine G.pu X dL_law_826 ?_
        refine G.nadd X (a := i) (b := 4) dL_law_827 ?_
        refine G.sld X hX (i := i + 4) dL_law_828 (by omega) (by omega) ?_
        refine G.cvi X kX7_drop lL_109 dL_law_829 (tX7_drop_lo2 l D cI cW m S M kd (sc (i + 2)) (sc (i + 3)) (sc (i + 4)) hkd (by omega) (by omega)) ⟨Nat.le_of_ble_eq_true rfl, Nat.le_of_ble_eq_true rfl⟩ ⟨Nat.le_of_ble_eq_true rfl, Nat.le_of_ble_eq_true rfl⟩ [21] rfl ⟨rfl, rfl⟩ rfl rfl 21 0 rfl rfl rfl rfl (Nat.le_of_ble_eq_true rfl) (ff_cons (ml_fst _ _ _ _ _ _) (ff_nil)) (ws' := [xl xx xn xt xk xe xo xv xc xr cI (x_rf (m_hi M, m_rf M) 4), wl xn cI S, wl xt cI T1, wl xk cI K1, tl xe cI (m_q M), ol xo xp cI qo, wl xp cI T2, al xv xq cI qa, wl xq cI T3, cl xc xs xw cW qc, wl xs cI T4, wl (xw 0) cI V0, wl (xw 1) cI V1, wl (xw 2) cI V2, wl (xw 3) cI V3, wl (xw 4) cI V4, wl (xw 5) cI V5, wl (xw 6) cI V6, wl (xw 7) cI V7, rl xr xu cI (m_rw M, m_rn M), wl xu cI T5, ml m cI S (m_no M 4)]) rfl ?_
        refine G.c_eq X (a := (-4)) (b := (-4)) dL_law_832 (fun h832 => ?_) (fun h832 => absurd (rfl) h832)
        exact kend S (m_no M 4) T1 K1 qo T2 qa T3 qc T4 V0 V1 V2 V3 V4 V5 V6 V7 T5 (hI.no 4)
      · by_cases c3 : 9 < sc (i + 2)
        · refine G.al X dL_law_784 2 rfl ?_
          refine G.al X dL_law_785 3 rfl ?_
          refine G.il X dL_law_786 0 rfl ?_
          refine G.pu X dL_law_787 ?_
          refine G.nadd X (a := i) (b := 1) dL_law_788 ?_
          refine G.sld X hX (i := i + 1) dL_law_789 (by omega) (by omega) ?_
          refine G.top (b := nI kd) ekd ?_
          refine G.al X dL_law_790 3 rfl ?_
          refine G.il X dL_law_791 0 rfl ?_
          refine G.pu X dL_law_792 ?_
          refine G.nadd X (a := i) (b := 2) dL_law_793 ?_
          refine G.sld X hX (i := i + 2) dL_law_794 (by omega) (by omega) ?_
          refine G.al X dL_law_795 3 rfl ?_
          refine G.il X dL_law_796 0 rfl ?_
          refine G.pu X dL_law_797 ?_
          refine G.nadd X (a := i) (b := 3) dL_law_798 ?_
          refine G.sld X hX (i := i + 3) dL_law_799 (by omega) (by omega) ?_
          refine G.al X dL_law_800 3 rfl ?_
          refine G.il X dL_law_801 0 rfl ?_
          refine G.pu X dL_law_802 ?_
          refine G.nadd X (a := i) (b := 4) dL_law_803 ?_
          refine G.sld X hX (i := i + 4) dL_law_804 (by omega) (by omega) ?_
          refine G.cvi X kX6_drop lL_105 dL_law_805 (tX6_drop_hi l D cI cW xx xn xt xk xe xo xv xc xr (m_hi M, m_rf M) kd (sc (i + 2)) (sc (i + 3)) (sc (i + 4)) hkd (by omega) (by omega) (Or.inl c3)) ⟨Nat.le_of_ble_eq_true rfl, Nat.le_of_ble_eq_true rfl⟩ ⟨Nat.le_of_ble_eq_true rfl, Nat.le_of_ble_eq_true rfl⟩ [0] rfl ⟨rfl, rfl⟩ rfl rfl 0 0 rfl rfl rfl rfl (Nat.le_of_ble_eq_true rfl) (ff_cons (xl_fst _ _ _ _ _ _ _ _ _ _ _ _) (ff_nil)) (ws' := [xl xx xn xt xk xe xo xv xc xr cI (x_rf (m_hi M, m_rf M) 6), wl xn cI S, wl xt cI T1, wl xk cI K1, tl xe cI (m_q M), ol xo xp cI qo, wl xp cI T2, al xv xq cI qa, wl xq cI T3, cl xc xs xw cW qc, wl xs cI T4, wl (xw 0) cI V0, wl (xw 1) cI V1, wl (xw 2) cI V2, wl (xw 3) cI V3, wl (xw 4) cI V4, wl (xw 5) cI V5, wl (xw 6) cI V6, wl (xw 7) cI V7, rl xr xu cI (m_rw M, m_rn M), wl xu cI T5, ml m cI S M]) rfl ?_
          refine G.al X dL_law_808 1 rfl ?_
          refine G.al X dL_law_809 3 rfl ?_
          refine G.il X dL_law_810 0 rfl ?_
          refine G.pu X dL_law_811 ?_
          refine G.nadd X (a := i) (b := 1) dL_law_812 ?_
          refine G.sld X hX (i := i + 1) dL_law_813 (by omega) (by omega) ?_
          refine G.top (b := nI kd) ekd ?_
          refine G.al X dL_law_814 3 rfl ?_
          refine G.il X dL_law_815 0 rfl ?_
          refine G.pu X dL_law_816 ?_
          refine G.nadd X (a := i) (b := 2) dL_law_817 ?_
          refine G.sld X hX (i := i + 2) dL_law_818 (by omega) (by omega) ?_
          refine G.al X dL_law_819 3 rfl ?_
          refine G.il X dL_law_820 0 rfl ?_
          refine G.pu X dL_law_821 ?_
          refine G.nadd X (a := i) (b := 3) dL_law_822 ?_
          refine G.sld X hX (i := i + 3) dL_law_823 (by omega) (by omega) ?_
          refine G.al X dL_law_824 3 rfl ?_
          refine G.il X dL_law_825 0 rfl ?_
          refine G.pu X dL_law_826 ?_
          refine G.nadd X (a := i) (b := 4) dL_law_827 ?_
          refine G.sld X hX (i := i + 4) dL_law_828 (by omega) (by omega) ?_
          refine G.cvi X kX7_drop lL_109 dL_law_829 (tX7_drop_hi1 l D cI cW m S M kd (sc (i + 2)) (sc (i + 3)) (sc (i + 4)) hkd (by omega) (by omega) (by omega)) ⟨Nat.le_of_ble_eq_true rfl, Nat.le_of_ble_eq_true rfl⟩ ⟨Nat.le_of_ble_eq_true rfl, Nat.le_of_ble_eq_true rfl⟩ [21] rfl ⟨rfl, rfl⟩ rfl rfl 21 0 rfl rfl rfl rfl (Nat.le_of_ble_eq_true rfl) (ff_cons (ml_fst _ _ _ _ _ _) (ff_nil)) (ws' := [xl xx xn xt xk xe xo xv xc xr cI (x_rf (m_hi M, m_rf M) 6), wl xn cI S, wl xt cI T1, wl xk cI K1, tl xe cI (m_q M), ol xo xp cI qo, wl xp cI T2, al xv xq cI qa, wl xq cI T3, cl xc xs xw cW qc, wl xs cI T4, wl (xw 0) cI V0, wl (xw 1) cI V1, wl (xw 2) cI V2, wl (xw 3) cI V3, wl (xw 4) cI V4, wl (xw 5) cI V5, wl (xw 6) cI V6, wl (xw 7) cI V7, rl xr xu cI (m_rw M, m_rn M), wl xu cI T5, ml m cI S (m_no M 6)]) rfl ?_
          refine G.c_eq X (a := (-6)) (b := (-6)) dL_law_832 (fun h832 => ?_) (fun h832 => absurd (rfl) h832)
          exact kend S (m_no M 6) T1 K1 qo T2 qa T3 qc T4 V0 V1 V2 V3 V4 V5 V6 V7 T5 (hI.no 6)
        · by_cases c4 : 40 < sc (i + 3)
          · refine G.al X dL_law_784 2 rfl ?_
            refine G.al X dL_law_785 3 rfl ?_
            refine G.il X dL_law_786 0 rfl ?_
            refine G.pu X dL_law_787 ?_
            refine G.nadd X (a := i) (b := 1) dL_law_788 ?_
            refine G.sld X hX (i := i + 1) dL_law_789 (by omega) (by omega) ?_
            refine G.top (b := nI kd) ekd ?_
            refine G.al X dL_law_790 3 rfl ?_
            refine G.il X dL_law_791 0 rfl ?_
            refine G.pu X dL_law_792 ?_
            refine G.nadd X (a := i) (b := 2) dL_law_793 ?_
            refine G.sld X hX (i := i + 2) dL_law_794 (by omega) (by omega) ?_
            refine G.al X dL_law_795 3 rfl ?_
            refine G.il X dL_law_796 0 rfl ?_
            refine G.pu X dL_law_797 ?_
            refine G.nadd X (a := i) (b := 3) dL_law_798 ?_
            refine G.sld X hX (i := i + 3) dL_law_799 (by omega) (by omega) ?_
            refine G.al X dL_law_800 3 rfl ?_
            refine G.il X dL_law_801 0 rfl ?_
            refine G.pu X dL_law_802 ?_
            refine G.nadd X (a := i) (b := 4) dL_law_803 ?_
            refine G.sld X hX (i := i + 4) dL_law_804 (by omega) (by omega) ?_
            refine G.cvi X kX6_drop lL_105 dL_law_805 (tX6_drop_hi l D cI cW xx xn xt xk xe xo xv xc xr (m_hi M, m_rf M) kd (sc (i + 2)) (sc (i + 3)) (sc (i + 4)) hkd (by omega) (by omega) (Or.inr c4)) ⟨Nat.le_of_ble_eq_true rfl, Nat.le_of_ble_eq_true rfl⟩ ⟨Nat.le_of_ble_eq_true rfl, Nat.le_of_ble_eq_true rfl⟩ [0] rfl ⟨rfl, rfl⟩ rfl rfl 0 0 rfl rfl rfl rfl (Nat.le_of_ble_eq_true rfl) (ff_cons (xl_fst _ _ _ _ _ _ _ _ _ _ _ _) (ff_nil)) (ws' := [xl xx xn xt xk xe xo xv xc xr cI (x_rf (m_hi M, m_rf M) 6), wl xn cI S, wl xt cI T1, wl xk cI K1, tl xe cI (m_q M), ol xo xp cI qo, wl xp cI T2, al xv xq cI qa, wl xq cI T3, cl xc xs xw cW qc, wl xs cI T4, wl (xw 0) cI V0, wl (xw 1) cI V1, wl (xw 2) cI V2, wl (xw 3) cI V3, wl (xw 4) cI V4, wl (xw 5) cI V5, wl (xw 6) cI V6, wl (xw 7) cI V7, rl xr xu cI (m_rw M, m_rn M), wl xu cI T5, ml m cI S M]) rfl ?_
            refine G.al X dL_law_808 1 rfl ?_
            refine G.al X dL_law_809 3 rfl ?_
            refine G.il X dL_law_810 0 rfl ?_
            refine G.pu X dL_law_811 ?_
            refine G.nadd X (a := i) (b := 1) dL_law_812 ?_
            refine G.sld X hX (i := i + 1) dL_law_813 (by omega) (by omega) ?_
            refine G.top (b := nI kd) ekd ?_
            refine G.al X dL_law_814 3 rfl ?_
            refine G.il X dL_law_815 0 rfl ?_
            refine G.pu X dL_law_816 ?_
            refine G.nadd X (a := i) (b := 2) dL_law_817 ?_
            refine G.sld X hX (i := i + 2) dL_law_818 (by omega) (by omega) ?_
            refine G.al X dL_law_819 3 rfl ?_
            refine G.il X dL_law_820 0 rfl ?_
            refine G.pu X dL_law_821 ?_
            refine G.nadd X (a := i) (b := 3) dL_law_822 ?_
            refine G.sld X hX (i := i + 3) dL_law_823 (by omega) (by omega) ?_
            refine G.al X dL_law_824 3 rfl ?_
            refine G.il X dL_law_825 0 rfl ?_
            refine G.pu X dL_law_826 ?_
            refine G.nadd X (a := i) (b := 4) dL_law_827 ?_
            refine G.sld X hX (i := i + 4) dL_law_828 (by omega) (by omega) ?_
            refine G.cvi X kX7_drop lL_109 dL_law_829 (tX7_drop_hi2 l D cI cW m S M kd (sc (i + 2)) (sc (i + 3)) (sc (i + 4)) hkd (by omega) (by omega) (by omega) (by omega)) ⟨Nat.le_of_ble_eq_true rfl, Nat.le_of_ble_eq_true rfl⟩ ⟨Nat.le_of_ble_eq_true rfl, Nat.le_of_ble_eq_true rfl⟩ [21] rfl ⟨rfl, rfl⟩ rfl rfl 21 0 rfl rfl rfl rfl (Nat.le_of_ble_eq_true rfl) (ff_cons (ml_fst _ _ _ _ _ _) (ff_nil)) (ws' := [xl xx xn xt xk xe xo xv xc xr cI (x_rf (m_hi M, m_rf M) 6), wl xn cI S, wl xt cI T1, wl xk cI K1, tl xe cI (m_q M), ol xo xp cI qo, wl xp cI T2, al xv xq cI qa, wl xq cI T3, cl xc xs xw cW qc, wl xs cI T4, wl (xw 0) cI V0, wl (xw 1) cI V1, wl (xw 2) cI V2, wl (xw 3) cI V3, wl (xw 4) cI V4, wl (xw 5) cI V5, wl (xw 6) cI V6, wl (xw 7) cI V7, rl xr xu cI (m_rw M, m_rn M), wl xu cI T5, ml m cI S (m_no M 6)]) rfl ?_
            refine G.c_eq X (a := (-6)) (b := (-6)) dL_law_832 (fun h832 => ?_) (fun h832 => absurd (rfl) h832)
            exact kend S (m_no M 6) T1 K1 qo T2 qa T3 qc T4 V0 V1 V2 V3 V4 V5 V6 V7 T5 (hI.no 6)
          · obtain ⟨v, ⟨hv1, hv2⟩, ev⟩ := n_rng (lo := 0) (hi := 9) (by decide) (by decide) c1 c3
            obtain ⟨n, ⟨hn1, hn2⟩, en⟩ := n_rng (lo := 1) (hi := 40) (by decide) (by decide) c2 c4
            by_cases zw : z_in (sc (i + 4)) 2 = true
            · obtain ⟨w9, hw9, ew9⟩ := z_in_t zw
              rcases (show w9 = 0 ∨ w9 = 1 by omega) with rfl | rfl
              · by_cases t9 : s_th S < 9
                · refine G.al X dL_law_784 2 rfl ?_
                  refine G.al X dL_law_785 3 rfl ?_
                  refine G.il X dL_law_786 0 rfl ?_
                  refine G.pu X dL_law_787 ?_
                  refine G.nadd X (a := i) (b := 1) dL_law_788 ?_
                  refine G.sld X hX (i := i + 1) dL_law_789 (by omega) (by omega) ?_
                  refine G.top (b := nI kd) ekd ?_
                  refine G.al X dL_law_790 3 rfl ?_
                  refine G.il X dL_law_791 0 rfl ?_
                  refine G.pu X dL_law_792 ?_
                  refine G.nadd X (a := i) (b := 2) dL_law_793 ?_
                  refine G.sld X hX (i := i + 2) dL_law_794 (by omega) (by omega) ?_
                  refine G.top (b := nI v) ev ?_
                  refine G.al X dL_law_795 3 rfl ?_
                  refine G.il X dL_law_796 0 rfl ?_
                  refine G.pu X dL_law_797 ?_
                  refine G.nadd X (a := i) (b := 3) dL_law_798 ?_
                  refine G.sld X hX (i := i + 3) dL_law_799 (by omega) (by omega) ?_
                  refine G.top (b := nI n) en ?_
                  refine G.al X dL_law_800 3 rfl ?_
                  refine G.il X dL_law_801 0 rfl ?_
                  refine G.pu X dL_law_802 ?_
                  refine G.nadd X (a := i) (b := 4) dL_law_803 ?_
                  refine G.sld X hX (i := i + 4) dL_law_804 (by omega) (by omega) ?_
                  refine G.top (b := 0) ew9 ?_
                  refine G.cvie X kX6_drop lL_105 dL_law_805 (tX6_drop_0 l D cI cW xx xn xt xk xe xo xv xc xr (m_hi M, m_rf M) S xq qa T3 kd v n hI.ok hkd hv2 hn1 hn2 t9) ⟨Nat.le_of_ble_eq_true rfl, Nat.le_of_ble_eq_true rfl⟩ ⟨Nat.le_of_ble_eq_true rfl, Nat.le_of_ble_eq_true rfl⟩ [0, 1, 7, 8] rfl ⟨rfl, rfl⟩ rfl rfl 0 0 rfl rfl rfl rfl (Nat.le_of_ble_eq_true rfl) (fun _ => (ff_cons (xl_fst _ _ _ _ _ _ _ _ _ _ _ _) (ff_cons (wl_fst _ _ _ _) (ff_cons (al_fst _ _ _ _ _) (ff_cons (wl_fst _ _ _ _) (ff_nil)))))) (f8 := fun T9_805 : WS => [xl xx xn xt xk xe xo xv xc xr cI (m_hi M, m_rf M), wl xn cI S, wl xt cI T1, wl xk cI K1, tl xe cI (m_q M), ol xo xp cI qo, wl xp cI T2, al xv xq cI qa, wl xq cI T9_805, cl xc xs xw cW qc, wl xs cI T4, wl (xw 0) cI V0, wl (xw 1) cI V1, wl (xw 2) cI V2, wl (xw 3) cI V3, wl (xw 4) cI V4, wl (xw 5) cI V5, wl (xw 6) cI V6, wl (xw 7) cI V7, rl xr xu cI (m_rw M, m_rn M), wl xu cI T5, ml m cI S M]) (fun _ => rfl) (fun T9_805 => ?_)
                  refine G.al X dL_law_808 1 rfl ?_
                  refine G.al X dL_law_809 3 rfl ?_
                  refine G.il X dL_law_810 0 rfl ?_
                  refine G.pu X dL_law_811 ?_
                  refine G.nadd X (a := i) (b := 1) dL_law_812 ?_
                  refine G.sld X hX (i := i + 1) dL_law_813 (by omega) (by omega) ?_
                  refine G.top (b := nI kd) ekd ?_
                  refine G.al X dL_law_814 3 rfl ?_
                  refine G.il X dL_law_815 0 rfl ?_
                  refine G.pu X dL_law_816 ?_
                  refine G.nadd X (a := i) (b := 2) dL_law_817 ?_
                  refine G.sld X hX (i := i + 2) dL_law_818 (by omega) (by omega) ?_
                  refine G.top (b := nI v) ev ?_
                  refine G.al X dL_law_819 3 rfl ?_
                  refine G.il X dL_law_820 0 rfl ?_
                  refine G.pu X dL_law_821 ?_
                  refine G.nadd X (a := i) (b := 3) dL_law_822 ?_
                  refine G.sld X hX (i := i + 3) dL_law_823 (by omega) (by omega) ?_
                  refine G.top (b := nI n) en ?_
                  refine G.al X dL_law_824 3 rfl ?_
                  refine G.il X dL_law_825 0 rfl ?_
                  refine G.pu X dL_law_826 ?_
                  refine G.nadd X (a := i) (b := 4) dL_law_827 ?_
                  refine G.sld X hX (i := i + 4) dL_law_828 (by omega) (by omega) ?_
                  refine G.top (b := 0) ew9 ?_
                  refine G.cvie X kX7_drop lL_109 dL_law_829 (tX7_drop_0 l D cI cW m S M kd v n hI.ok hI.co hkd hv2 hn1 hn2 t9) ⟨Nat.le_of_ble_eq_true rfl, Nat.le_of_ble_eq_true rfl⟩ ⟨Nat.le_of_ble_eq_true rfl, Nat.le_of_ble_eq_true rfl⟩ [21] rfl ⟨rfl, rfl⟩ rfl rfl 21 0 rfl rfl rfl rfl (Nat.le_of_ble_eq_true rfl) (fun _ => (ff_cons (ml_fst _ _ _ _ _ _) (ff_nil))) (f8 := fun M9_829 : {M9_829 : MS // Mq 64 M M9_829} => [xl xx xn xt xk xe xo xv xc xr cI (m_hi M, m_rf M), wl xn cI S, wl xt cI T1, wl xk cI K1, tl xe cI (m_q M), ol xo xp cI qo, wl xp cI T2, al xv xq cI qa, wl xq cI T9_805, cl xc xs xw cW qc, wl xs cI T4, wl (xw 0) cI V0, wl (xw 1) cI V1, wl (xw 2) cI V2, wl (xw 3) cI V3, wl (xw 4) cI V4, wl (xw 5) cI V5, wl (xw 6) cI V6, wl (xw 7) cI V7, rl xr xu cI (m_rw M, m_rn M), wl xu cI T5, ml m cI S M9_829.1]) (fun _ => rfl) (fun M9_829 => ?_)
                  refine G.c_eq X (a := ((bmin (fun p => nI (w_wet (w_add S (nI kd) (nI v) (nI p)) n)) (-9, nI (n + 1)) (s_pe S)).1)) (b := (o2i (bix yes (fun i j => decide (w_wet (w_add S (nI kd) (nI v) (nI j)) n < w_wet (w_add S (nI kd) (nI v) (nI i)) n)) (s_pe S)))) dL_law_832 (fun h832 => ?_) (fun h832 => absurd ((q_drop (f := fun p => w_wet (w_add S (nI kd) (nI v) (nI p)) n) (n := n) (by omega) (fun k => w_wet_le _ _) (s_pe S))) h832)
                  rw [LW_q M9_829.2]
                  exact kend S M9_829.1 T1 K1 qo T2 qa T9_805 qc T4 V0 V1 V2 V3 V4 V5 V6 V7 T5 (hI.q M9_829.2)
                · refine G.al X dL_law_784 2 rfl ?_
                  refine G.al X dL_law_785 3 rfl ?_
                  refine G.il X dL_law_786 0 rfl ?_
                  refine G.pu X dL_law_787 ?_
                  refine G.nadd X (a := i) (b := 1) dL_law_788 ?_
                  refine G.sld X hX (i := i + 1) dL_law_789 (by omega) (by omega) ?_
                  refine G.top (b := nI kd) ekd ?_
                  refine G.al X dL_law_790 3 rfl ?_
                  refine G.il X dL_law_791 0 rfl ?_
                  refine G.pu X dL_law_792 ?_
                  refine G.nadd X (a := i) (b := 2) dL_law_793 ?_
                  refine G.sld X hX (i := i + 2) dL_law_794 (by omega) (by omega) ?_
                  refine G.top (b := nI v) ev ?_
                  refine G.al X dL_law_795 3 rfl ?_
                  refine G.il X dL_law_796 0 rfl ?_
                  refine G.pu X dL_law_797 ?_
                  refine G.nadd X (a := i) (b := 3) dL_law_798 ?_
                  refine G.sld X hX (i := i + 3) dL_law_799 (by omega) (by omega) ?_
                  refine G.top (b := nI n) en ?_
                  refine G.al X dL_law_800 3 rfl ?_
                  refine G.il X dL_law_801 0 rfl ?_
                  refine G.pu X dL_law_802 ?_
                  refine G.nadd X (a := i) (b := 4) dL_law_803 ?_
                  refine G.sld X hX (i := i + 4) dL_law_804 (by omega) (by omega) ?_
                  refine G.top (b := 0) ew9 ?_
                  refine G.cvi X kX6_drop lL_105 dL_law_805 (tX6_drop_full0 l D cI cW xx xn xt xk xe xo xv xc xr (m_hi M, m_rf M) S xq qa T3 kd v n hI.ok hkd hv2 hn1 hn2 t9) ⟨Nat.le_of_ble_eq_true rfl, Nat.le_of_ble_eq_true rfl⟩ ⟨Nat.le_of_ble_eq_true rfl, Nat.le_of_ble_eq_true rfl⟩ [0, 1, 7, 8] rfl ⟨rfl, rfl⟩ rfl rfl 0 0 rfl rfl rfl rfl (Nat.le_of_ble_eq_true rfl) (ff_cons (xl_fst _ _ _ _ _ _ _ _ _ _ _ _) (ff_cons (wl_fst _ _ _ _) (ff_cons (al_fst _ _ _ _ _) (ff_cons (wl_fst _ _ _ _) (ff_nil))))) (ws' := [xl xx xn xt xk xe xo xv xc xr cI (m_hi M, m_rf M), wl xn cI S, wl xt cI T1, wl xk cI K1, tl xe cI (m_q M), ol xo xp cI qo, wl xp cI T2, al xv xq cI qa, wl xq cI T3, cl xc xs xw cW qc, wl xs cI T4, wl (xw 0) cI V0, wl (xw 1) cI V1, wl (xw 2) cI V2, wl (xw 3) cI V3, wl (xw 4) cI V4, wl (xw 5) cI V5, wl (xw 6) cI V6, wl (xw 7) cI V7, rl xr xu cI (m_rw M, m_rn M), wl xu cI T5, ml m cI S M]) rfl ?_
                  refine G.al X dL_law_808 1 rfl ?_
                  refine G.al X dL_law_809 3 rfl ?_
                  refine G.il X dL_law_810 0 rfl ?_
                  refine G.pu X dL_law_811 ?_
                  refine G.nadd X (a := i) (b := 1) dL_law_812 ?_
                  refine G.sld X hX (i := i + 1) dL_law_813 (by omega) (by omega) ?_
                  refine G.top (b := nI kd) ekd ?_
                  refine G.al X dL_law_814 3 rfl ?_
                  refine G.il X dL_law_815 0 rfl ?_
                  refine G.pu X dL_law_816 ?_
                  refine G.nadd X (a := i) (b := 2) dL_law_817 ?_
                  refine G.sld X hX (i := i + 2) dL_law_818 (by omega) (by omega) ?_
                  refine G.top (b := nI v) ev ?_
                  refine G.al X dL_law_819 3 rfl ?_
                  refine G.il X dL_law_820 0 rfl ?_
                  refine G.pu X dL_law_821 ?_
                  refine G.nadd X (a := i) (b := 3) dL_law_822 ?_
                  refine G.sld X hX (i := i + 3) dL_law_823 (by omega) (by omega) ?_
                  refine G.top (b := nI n) en ?_
                  refine G.al X dL_law_824 3 rfl ?_
                  refine G.il X dL_law_825 0 rfl ?_
                  refine G.pu X dL_law_826 ?_
                  refine G.nadd X (a := i) (b := 4) dL_law_827 ?_
                  refine G.sld X hX (i := i + 4) dL_law_828 (by omega) (by omega) ?_
                  refine G.top (b := 0) ew9 ?_
                  refine G.cvi X kX7_drop lL_109 dL_law_829 (tX7_drop_full0 l D cI cW m S M kd v n hI.ok hI.co hkd hv2 hn1 hn2 t9) ⟨Nat.le_of_ble_eq_true rfl, Nat.le_of_ble_eq_true rfl⟩ ⟨Nat.le_of_ble_eq_true rfl, Nat.le_of_ble_eq_true rfl⟩ [21] rfl ⟨rfl, rfl⟩ rfl rfl 21 0 rfl rfl rfl rfl (Nat.le_of_ble_eq_true rfl) (ff_cons (ml_fst _ _ _ _ _ _) (ff_nil)) (ws' := [xl xx xn xt xk xe xo xv xc xr cI (m_hi M, m_rf M), wl xn cI S, wl xt cI T1, wl xk cI K1, tl xe cI (m_q M), ol xo xp cI qo, wl xp cI T2, al xv xq cI qa, wl xq cI T3, cl xc xs xw cW qc, wl xs cI T4, wl (xw 0) cI V0, wl (xw 1) cI V1, wl (xw 2) cI V2, wl (xw 3) cI V3, wl (xw 4) cI V4, wl (xw 5) cI V5, wl (xw 6) cI V6, wl (xw 7) cI V7, rl xr xu cI (m_rw M, m_rn M), wl xu cI T5, ml m cI S M]) rfl ?_
                  refine G.c_eq X (a := (-9)) (b := (-9)) dL_law_832 (fun h832 => ?_) (fun h832 => absurd (rfl) h832)
                  exact kend S M T1 K1 qo T2 qa T3 qc T4 V0 V1 V2 V3 V4 V5 V6 V7 T5 hI
              · by_cases t9 : s_th S < 9
                · by_cases p0 : 0 < s_pe S
                  · refine G.al X dL_law_784 2 rfl ?_
                    refine G.al X dL_law_785 3 rfl ?_
                    refine G.il X dL_law_786 0 rfl ?_
                    refine G.pu X dL_law_787 ?_
                    refine G.nadd X (a := i) (b := 1) dL_law_788 ?_
                    refine G.sld X hX (i := i + 1) dL_law_789 (by omega) (by omega) ?_
                    refine G.top (b := nI kd) ekd ?_
                    refine G.al X dL_law_790 3 rfl ?_
                    refine G.il X dL_law_791 0 rfl ?_
                    refine G.pu X dL_law_792 ?_
                    refine G.nadd X (a := i) (b := 2) dL_law_793 ?_
                    refine G.sld X hX (i := i + 2) dL_law_794 (by omega) (by omega) ?_
                    refine G.top (b := nI v) ev ?_
                    refine G.al X dL_law_795 3 rfl ?_
                    refine G.il X dL_law_796 0 rfl ?_
                    refine G.pu X dL_law_797 ?_
                    refine G.nadd X (a := i) (b := 3) dL_law_798 ?_
                    refine G.sld X hX (i := i + 3) dL_law_799 (by omega) (by omega) ?_
                    refine G.top (b := nI n) en ?_
                    refine G.al X dL_law_800 3 rfl ?_
                    refine G.il X dL_law_801 0 rfl ?_
                    refine G.pu X dL_law_802 ?_
                    refine G.nadd X (a := i) (b := 4) dL_law_803 ?_
                    refine G.sld X hX (i := i + 4) dL_law_804 (by omega) (by omega) ?_
                    refine G.top (b := 1) ew9 ?_
                    refine G.cvie X kX6_drop lL_105 dL_law_805 (tX6_drop_1 l D cI cW xx xn xt xk xe xo xv xc xr (m_hi M, m_rf M) S xq qa T3 kd v n hI.ok hkd hv2 hn1 hn2 t9 p0) ⟨Nat.le_of_ble_eq_true rfl, Nat.le_of_ble_eq_true rfl⟩ ⟨Nat.le_of_ble_eq_true rfl, Nat.le_of_ble_eq_true rfl⟩ [0, 1, 7, 8] rfl ⟨rfl, rfl⟩ rfl rfl 0 0 rfl rfl rfl rfl (Nat.le_of_ble_eq_true rfl) (fun _ => (ff_cons (xl_fst _ _ _ _ _ _ _ _ _ _ _ _) (ff_cons (wl_fst _ _ _ _) (ff_cons (al_fst _ _ _ _ _) (ff_cons (wl_fst _ _ _ _) (ff_nil)))))) (f8 := fun T9_805 : WS => [xl xx xn xt xk xe xo xv xc xr cI (m_hi M, m_rf M), wl xn cI S, wl xt cI T1, wl xk cI K1, tl xe cI (m_q M), ol xo xp cI qo, wl xp cI T2, al xv xq cI qa, wl xq cI T9_805, cl xc xs xw cW qc, wl xs cI T4, wl (xw 0) cI V0, wl (xw 1) cI V1, wl (xw 2) cI V2, wl (xw 3) cI V3, wl (xw 4) cI V4, wl (xw 5) cI V5, wl (xw 6) cI V6, wl (xw 7) cI V7, rl xr xu cI (m_rw M, m_rn M), wl xu cI T5, ml m cI S M]) (fun _ => rfl) (fun T9_805 => ?_)
                    refine G.al X dL_law_808 1 rfl ?_
                    refine G.al X dL_law_809 3 rfl ?_
                    refine G.il X dL_law_810 0 rfl ?_
                    refine G.pu X dL_law_811 ?_
                    refine G.nadd X (a := i) (b := 1) dL_law_812 ?_
                    refine G.sld X hX (i := i + 1) dL_law_813 (by omega) (by omega) ?_
                    refine G.top (b := nI kd) ekd ?_
                    refine G.al X dL_law_814 3 rfl ?_
                    refine G.il X dL_law_815 0 rfl ?_
                    refine G.pu X dL_law_816 ?_
                    refine G.nadd X (a := i) (b := 2) dL_law_817 ?_
                    refine G.sld X hX (i := i + 2) dL_law_818 (by omega) (by omega) ?_
                    refine G.top (b := nI v) ev ?_
                    refine G.al X dL_law_819 3 rfl ?_
                    refine G.il X dL_law_820 0 rfl ?_
                    refine G.pu X dL_law_821 ?_
                    refine G.nadd X (a := i) (b := 3) dL_law_822 ?_
                    refine G.sld X hX (i := i + 3) dL_law_823 (by omega) (by omega) ?_
                    refine G.top (b := nI n) en ?_
                    refine G.al X dL_law_824 3 rfl ?_
                    refine G.il X dL_law_825 0 rfl ?_
                    refine G.pu X dL_law_826 ?_
                    refine G.nadd X (a := i) (b := 4) dL_law_827 ?_
                    refine G.sld X hX (i := i + 4) dL_law_828 (by omega) (by omega) ?_
                    refine G.top (b := 1) ew9 ?_
                    refine G.cvie X kX7_drop lL_109 dL_law_829 (tX7_drop_1 l D cI cW m S M kd v n hI.ok hI.co hkd hv2 hn1 hn2 t9) ⟨Nat.le_of_ble_eq_true rfl, Nat.le_of_ble_eq_true rfl⟩ ⟨Nat.le_of_ble_eq_true rfl, Nat.le_of_ble_eq_true rfl⟩ [21] rfl ⟨rfl, rfl⟩ rfl rfl 21 0 rfl rfl rfl rfl (Nat.le_of_ble_eq_true rfl) (fun _ => (ff_cons (ml_fst _ _ _ _ _ _) (ff_nil))) (f8 := fun M9_829 : {M9_829 : MS // Mq 64 M M9_829} => [xl xx xn xt xk xe xo xv xc xr cI (m_hi M, m_rf M), wl xn cI S, wl xt cI T1, wl xk cI K1, tl xe cI (m_q M), ol xo xp cI qo, wl xp cI T2, al xv xq cI qa, wl xq cI T9_805, cl xc xs xw cW qc, wl xs cI T4, wl (xw 0) cI V0, wl (xw 1) cI V1, wl (xw 2) cI V2, wl (xw 3) cI V3, wl (xw 4) cI V4, wl (xw 5) cI V5, wl (xw 6) cI V6, wl (xw 7) cI V7, rl xr xu cI (m_rw M, m_rn M), wl xu cI T5, ml m cI S M9_829.1]) (fun _ => rfl) (fun M9_829 => ?_)
                    refine G.c_eq X (a := ((bmin (fun p => nI (w_wet (w_add S (nI kd) (nI v) (nI p)) n)) (-9, nI (n + 1)) (s_pe S)).2)) (b := (obv (fun p => w_wet (w_add S (nI kd) (nI v) (nI p)) n) (bix yes (fun i j => decide (w_wet (w_add S (nI kd) (nI v) (nI j)) n < w_wet (w_add S (nI kd) (nI v) (nI i)) n)) (s_pe S)))) dL_law_832 (fun h832 => ?_) (fun h832 => absurd ((q_drop2 (f := fun p => w_wet (w_add S (nI kd) (nI v) (nI p)) n) (n := n) (by omega) (fun k => w_wet_le _ _) p0)) h832)
                    rw [LW_q M9_829.2]
                    exact kend S M9_829.1 T1 K1 qo T2 qa T9_805 qc T4 V0 V1 V2 V3 V4 V5 V6 V7 T5 (hI.q M9_829.2)
                  · refine G.al X dL_law_784 2 rfl ?_
                    refine G.al X dL_law_785 3 rfl ?_
                    refine G.il X dL_law_786 0 rfl ?_
                    refine G.pu X dL_law_787 ?_
                    refine G.nadd X (a := i) (b := 1) dL_law_788 ?_
                    refine G.sld X hX (i := i + 1) dL_law_789 (by omega) (by omega) ?_
                    refine G.top (b := nI kd) ekd ?_
                    refine G.al X dL_law_790 3 rfl ?_
                    refine G.il X dL_law_791 0 rfl ?_
                    refine G.pu X dL_law_792 ?_
                    refine G.nadd X (a := i) (b := 2) dL_law_793 ?_
                    refine G.sld X hX (i := i + 2) dL_law_794 (by omega) (by omega) ?_
                    refine G.top (b := nI v) ev ?_
                    refine G.al X dL_law_795 3 rfl ?_
                    refine G.il X dL_law_796 0 rfl ?_
                    refine G.pu X dL_law_797 ?_
                    refine G.nadd X (a := i) (b := 3) dL_law_798 ?_
                    refine G.sld X hX (i := i + 3) dL_law_799 (by omega) (by omega) ?_
                    refine G.top (b := nI n) en ?_
                    refine G.al X dL_law_800 3 rfl ?_
                    refine G.il X dL_law_801 0 rfl ?_
                    refine G.pu X dL_law_802 ?_
                    refine G.nadd X (a := i) (b := 4) dL_law_803 ?_
                    refine G.sld X hX (i := i + 4) dL_law_804 (by omega) (by omega) ?_
                    refine G.top (b := 1) ew9 ?_
                    refine G.cvie X kX6_drop lL_105 dL_law_805 (tX6_drop_1n l D cI cW xx xn xt xk xe xo xv xc xr (m_hi M, m_rf M) S xq qa T3 kd v n hI.ok hkd hv2 hn1 hn2 t9 (by omega)) ⟨Nat.le_of_ble_eq_true rfl, Nat.le_of_ble_eq_true rfl⟩ ⟨Nat.le_of_ble_eq_true rfl, Nat.le_of_ble_eq_true rfl⟩ [0, 1, 7, 8] rfl ⟨rfl, rfl⟩ rfl rfl 0 0 rfl rfl rfl rfl (Nat.le_of_ble_eq_true rfl) (fun _ => (ff_cons (xl_fst _ _ _ _ _ _ _ _ _ _ _ _) (ff_cons (wl_fst _ _ _ _) (ff_cons (al_fst _ _ _ _ _) (ff_cons (wl_fst _ _ _ _) (ff_nil)))))) (f8 := fun T9_805 : WS => [xl xx xn xt xk xe xo xv xc xr cI (m_hi M, m_rf M), wl xn cI S, wl xt cI T1, wl xk cI K1, tl xe cI (m_q M), ol xo xp cI qo, wl xp cI T2, al xv xq cI qa, wl xq cI T9_805, cl xc xs xw cW qc, wl xs cI T4, wl (xw 0) cI V0, wl (xw 1) cI V1, wl (xw 2) cI V2, wl (xw 3) cI V3, wl (xw 4) cI V4, wl (xw 5) cI V5, wl (xw 6) cI V6, wl (xw 7) cI V7, rl xr xu cI (m_rw M, m_rn M), wl xu cI T5, ml m cI S M]) (fun _ => rfl) (fun T9_805 => ?_)
                    refine G.al X dL_law_808 1 rfl ?_
                    refine G.al X dL_law_809 3 rfl ?_
                    refine G.il X dL_law_810 0 rfl ?_
                    refine G.pu X dL_law_811 ?_
                    refine G.nadd X (a := i) (b := 1) dL_law_812 ?_
                    refine G.sld X hX (i := i + 1) dL_law_813 (by omega) (by omega) ?_
                    refine G.top (b := nI kd) ekd ?_
                    refine G.al X dL_law_814 3 rfl ?_
                    refine G.il X dL_law_815 0 rfl ?_
                    refine G.pu X dL_law_816 ?_
                    refine G.nadd X (a := i) (b := 2) dL_law_817 ?_
                    refine G.sld X hX (i := i + 2) dL_law_818 (by omega) (by omega) ?_
                    refine G.top (b := nI v) ev ?_
                    refine G.al X dL_law_819 3 rfl ?_
                    refine G.il X dL_law_820 0 rfl ?_
                    refine G.pu X dL_law_821 ?_
                    refine G.nadd X (a := i) (b := 3) dL_law_822 ?_
                    refine G.sld X hX (i := i + 3) dL_law_823 (by omega) (by omega) ?_
                    refine G.top (b := nI n) en ?_
                    refine G.al X dL_law_824 3 rfl ?_
                    refine G.il X dL_law_825 0 rfl ?_
                    refine G.pu X dL_law_826 ?_
                    refine G.nadd X (a := i) (b := 4) dL_law_827 ?_
                    refine G.sld X hX (i := i + 4) dL_law_828 (by omega) (by omega) ?_
                    refine G.top (b := 1) ew9 ?_
                    refine G.cvie X kX7_drop lL_109 dL_law_829 (tX7_drop_1 l D cI cW m S M kd v n hI.ok hI.co hkd hv2 hn1 hn2 t9) ⟨Nat.le_of_ble_eq_true rfl, Nat.le_of_ble_eq_true rfl⟩ ⟨Nat.le_of_ble_eq_true rfl, Nat.le_of_ble_eq_true rfl⟩ [21] rfl ⟨rfl, rfl⟩ rfl rfl 21 0 rfl rfl rfl rfl (Nat.le_of_ble_eq_true rfl) (fun _ => (ff_cons (ml_fst _ _ _ _ _ _) (ff_nil))) (f8 := fun M9_829 : {M9_829 : MS // Mq 64 M M9_829} => [xl xx xn xt xk xe xo xv xc xr cI (m_hi M, m_rf M), wl xn cI S, wl xt cI T1, wl xk cI K1, tl xe cI (m_q M), ol xo xp cI qo, wl xp cI T2, al xv xq cI qa, wl xq cI T9_805, cl xc xs xw cW qc, wl xs cI T4, wl (xw 0) cI V0, wl (xw 1) cI V1, wl (xw 2) cI V2, wl (xw 3) cI V3, wl (xw 4) cI V4, wl (xw 5) cI V5, wl (xw 6) cI V6, wl (xw 7) cI V7, rl xr xu cI (m_rw M, m_rn M), wl xu cI T5, ml m cI S M9_829.1]) (fun _ => rfl) (fun M9_829 => ?_)
                    refine G.c_eq X (a := (-9)) (b := (obv (fun p => w_wet (w_add S (nI kd) (nI v) (nI p)) n) (bix yes (fun i j => decide (w_wet (w_add S (nI kd) (nI v) (nI j)) n < w_wet (w_add S (nI kd) (nI v) (nI i)) n)) (s_pe S)))) dL_law_832 (fun h832 => ?_) (fun h832 => absurd ((by rw [show s_pe S = 0 by omega]; rfl)) h832)
                    rw [LW_q M9_829.2]
                    exact kend S M9_829.1 T1 K1 qo T2 qa T9_805 qc T4 V0 V1 V2 V3 V4 V5 V6 V7 T5 (hI.q M9_829.2)
                · refine G.al X dL_law_784 2 rfl ?_
                  refine G.al X dL_law_785 3 rfl ?_
                  refine G.il X dL_law_786 0 rfl ?_
                  refine G.pu X dL_law_787 ?_
                  refine G.nadd X (a := i) (b := 1) dL_law_788 ?_
                  refine G.sld X hX (i := i + 1) dL_law_789 (by omega) (by omega) ?_
                  refine G.top (b := nI kd) ekd ?_
                  refine G.al X dL_law_790 3 rfl ?_
                  refine G.il X dL_law_791 0 rfl ?_
                  refine G.pu X dL_law_792 ?_
                  refine G.nadd X (a := i) (b := 2) dL_law_793 ?_
                  refine G.sld X hX (i := i + 2) dL_law_794 (by omega) (by omega) ?_
                  refine G.top (b := nI v) ev ?_
                  refine G.al X dL_law_795 3 rfl ?_
                  refine G.il X dL_law_796 0 rfl ?_
                  refine G.pu X dL_law_797 ?_
                  refine G.nadd X (a := i) (b := 3) dL_law_798 ?_
                  refine G.sld X hX (i := i + 3) dL_law_799 (by omega) (by omega) ?_
                  refine G.top (b := nI n) en ?_
                  refine G.al X dL_law_800 3 rfl ?_
                  refine G.il X dL_law_801 0 rfl ?_
                  refine G.pu X dL_law_802 ?_
                  refine G.nadd X (a := i) (b := 4) dL_law_803 ?_
                  refine G.sld X hX (i := i + 4) dL_law_804 (by omega) (by omega) ?_
                  refine G.top (b := 1) ew9 ?_
                  refine G.cvi X kX6_drop lL_105 dL_law_805 (tX6_drop_full1 l D cI cW xx xn xt xk xe xo xv xc xr (m_hi M, m_rf M) S xq qa T3 kd v n hI.ok hkd hv2 hn1 hn2 t9) ⟨Nat.le_of_ble_eq_true rfl, Nat.le_of_ble_eq_true rfl⟩ ⟨Nat.le_of_ble_eq_true rfl, Nat.le_of_ble_eq_true rfl⟩ [0, 1, 7, 8] rfl ⟨rfl, rfl⟩ rfl rfl 0 0 rfl rfl rfl rfl (Nat.le_of_ble_eq_true rfl) (ff_cons (xl_fst _ _ _ _ _ _ _ _ _ _ _ _) (ff_cons (wl_fst _ _ _ _) (ff_cons (al_fst _ _ _ _ _) (ff_cons (wl_fst _ _ _ _) (ff_nil))))) (ws' := [xl xx xn xt xk xe xo xv xc xr cI (m_hi M, m_rf M), wl xn cI S, wl xt cI T1, wl xk cI K1, tl xe cI (m_q M), ol xo xp cI qo, wl xp cI T2, al xv xq cI qa, wl xq cI T3, cl xc xs xw cW qc, wl xs cI T4, wl (xw 0) cI V0, wl (xw 1) cI V1, wl (xw 2) cI V2, wl (xw 3) cI V3, wl (xw 4) cI V4, wl (xw 5) cI V5, wl (xw 6) cI V6, wl (xw 7) cI V7, rl xr xu cI (m_rw M, m_rn M), wl xu cI T5, ml m cI S M]) rfl ?_
                  refine G.al X dL_law_808 1 rfl ?_
                  refine G.al X dL_law_809 3 rfl ?_
                  refine G.il X dL_law_810 0 rfl ?_
                  refine G.pu X dL_law_811 ?_
                  refine G.nadd X (a := i) (b := 1) dL_law_812 ?_
                  refine G.sld X hX (i := i + 1) dL_law_813 (by omega) (by omega) ?_
                  refine G.top (b := nI kd) ekd ?_
                  refine G.al X dL_law_814 3 rfl ?_
                  refine G.il X dL_law_815 0 rfl ?_
                  refine G.pu X dL_law_816 ?_
                  refine G.nadd X (a := i) (b := 2) dL_law_817 ?_
                  refine G.sld X hX (i := i + 2) dL_law_818 (by omega) (by omega) ?_
                  refine G.top (b := nI v) ev ?_
                  refine G.al X dL_law_819 3 rfl ?_
                  refine G.il X dL_law_820 0 rfl ?_
                  refine G.pu X dL_law_821 ?_
                  refine G.nadd X (a := i) (b := 3) dL_law_822 ?_
                  refine G.sld X hX (i := i + 3) dL_law_823 (by omega) (by omega) ?_
                  refine G.top (b := nI n) en ?_
                  refine G.al X dL_law_824 3 rfl ?_
                  refine G.il X dL_law_825 0 rfl ?_
                  refine G.pu X dL_law_826 ?_
                  refine G.nadd X (a := i) (b := 4) dL_law_827 ?_
                  refine G.sld X hX (i := i + 4) dL_law_828 (by omega) (by omega) ?_
                  refine G.top (b := 1) ew9 ?_
                  refine G.cvi X kX7_drop lL_109 dL_law_829 (tX7_drop_full1 l D cI cW m S M kd v n hI.ok hI.co hkd hv2 hn1 hn2 t9) ⟨Nat.le_of_ble_eq_true rfl, Nat.le_of_ble_eq_true rfl⟩ ⟨Nat.le_of_ble_eq_true rfl, Nat.le_of_ble_eq_true rfl⟩ [21] rfl ⟨rfl, rfl⟩ rfl rfl 21 0 rfl rfl rfl rfl (Nat.le_of_ble_eq_true rfl) (ff_cons (ml_fst _ _ _ _ _ _) (ff_nil)) (ws' := [xl xx xn xt xk xe xo xv xc xr cI (m_hi M, m_rf M), wl xn cI S, wl xt cI T1, wl xk cI K1, tl xe cI (m_q M), ol xo xp cI qo, wl xp cI T2, al xv xq cI qa, wl xq cI T3, cl xc xs xw cW qc, wl xs cI T4, wl (xw 0) cI V0, wl (xw 1) cI V1, wl (xw 2) cI V2, wl (xw 3) cI V3, wl (xw 4) cI V4, wl (xw 5) cI V5, wl (xw 6) cI V6, wl (xw 7) cI V7, rl xr xu cI (m_rw M, m_rn M), wl xu cI T5, ml m cI S M]) rfl ?_
                  refine G.c_eq X (a := (-9)) (b := (-9)) dL_law_832 (fun h832 => ?_) (fun h832 => absurd (rfl) h832)
                  exact kend S M T1 K1 qo T2 qa T3 qc T4 V0 V1 V2 V3 V4 V5 V6 V7 T5 hI
            · replace zw : z_in (sc (i + 4)) 2 = false := by simpa using zw
              refine G.al X dL_law_784 2 rfl ?_
              refine G.al X dL_law_785 3 rfl ?_
              refine G.il X dL_law_786 0 rfl ?_
              refine G.pu X dL_law_787 ?_
              refine G.nadd X (a := i) (b := 1) dL_law_788 ?_
              refine G.sld X hX (i := i + 1) dL_law_789 (by omega) (by omega) ?_
              refine G.top (b := nI kd) ekd ?_
              refine G.al X dL_law_790 3 rfl ?_
              refine G.il X dL_law_791 0 rfl ?_
              refine G.pu X dL_law_792 ?_
              refine G.nadd X (a := i) (b := 2) dL_law_793 ?_
              refine G.sld X hX (i := i + 2) dL_law_794 (by omega) (by omega) ?_
              refine G.top (b := nI v) ev ?_
              refine G.al X dL_law_795 3 rfl ?_
              refine G.il X dL_law_796 0 rfl ?_
              refine G.pu X dL_law_797 ?_
              refine G.nadd X (a := i) (b := 3) dL_law_798 ?_
              refine G.sld X hX (i := i + 3) dL_law_799 (by omega) (by omega) ?_
              refine G.top (b := nI n) en ?_
              refine G.al X dL_law_800 3 rfl ?_
              refine G.il X dL_law_801 0 rfl ?_
              refine G.pu X dL_law_802 ?_
              refine G.nadd X (a := i) (b := 4) dL_law_803 ?_
              refine G.sld X hX (i := i + 4) dL_law_804 (by omega) (by omega) ?_
              refine G.cvi X kX6_drop lL_105 dL_law_805 (tX6_drop_oth2 l D cI cW xx xn xt xk xe xo xv xc xr (m_hi M, m_rf M) kd v n (sc (i + 4)) hkd hv2 hn1 hn2 zw) ⟨Nat.le_of_ble_eq_true rfl, Nat.le_of_ble_eq_true rfl⟩ ⟨Nat.le_of_ble_eq_true rfl, Nat.le_of_ble_eq_true rfl⟩ [0] rfl ⟨rfl, rfl⟩ rfl rfl 0 0 rfl rfl rfl rfl (Nat.le_of_ble_eq_true rfl) (ff_cons (xl_fst _ _ _ _ _ _ _ _ _ _ _ _) (ff_nil)) (ws' := [xl xx xn xt xk xe xo xv xc xr cI (x_rf (m_hi M, m_rf M) 2), wl xn cI S, wl xt cI T1, wl xk cI K1, tl xe cI (m_q M), ol xo xp cI qo, wl xp cI T2, al xv xq cI qa, wl xq cI T3, cl xc xs xw cW qc, wl xs cI T4, wl (xw 0) cI V0, wl (xw 1) cI V1, wl (xw 2) cI V2, wl (xw 3) cI V3, wl (xw 4) cI V4, wl (xw 5) cI V5, wl (xw 6) cI V6, wl (xw 7) cI V7, rl xr xu cI (m_rw M, m_rn M), wl xu cI T5, ml m cI S M]) rfl ?_
              refine G.al X dL_law_808 1 rfl ?_
              refine G.al X dL_law_809 3 rfl ?_
              refine G.il X dL_law_810 0 rfl ?_
              refine G.pu X dL_law_811 ?_
              refine G.nadd X (a := i) (b := 1) dL_law_812 ?_
              refine G.sld X hX (i := i + 1) dL_law_813 (by omega) (by omega) ?_
              refine G.top (b := nI kd) ekd ?_
              refine G.al X dL_law_814 3 rfl ?_
              refine G.il X dL_law_815 0 rfl ?_
              refine G.pu X dL_law_816 ?_
              refine G.nadd X (a := i) (b := 2) dL_law_817 ?_
              refine G.sld X hX (i := i + 2) dL_law_818 (by omega) (by omega) ?_
              refine G.top (b := nI v) ev ?_
              refine G.al X dL_law_819 3 rfl ?_
              refine G.il X dL_law_820 0 rfl ?_
              refine G.pu X dL_law_821 ?_
              refine G.nadd X (a := i) (b := 3) dL_law_822 ?_
              refine G.sld X hX (i := i + 3) dL_law_823 (by omega) (by omega) ?_
              refine G.top (b := nI n) en ?_
              refine G.al X dL_law_824 3 rfl ?_
              refine G.il X dL_law_825 0 rfl ?_
              refine G.pu X dL_law_826 ?_
              refine G.nadd X (a := i) (b := 4) dL_law_827 ?_
              refine G.sld X hX (i := i + 4) dL_law_828 (by omega) (by omega) ?_
              refine G.cvi X kX7_drop lL_109 dL_law_829 (tX7_drop_oth2 l D cI cW m S M kd v n (sc (i + 4)) hkd hv2 hn1 hn2 zw) ⟨Nat.le_of_ble_eq_true rfl, Nat.le_of_ble_eq_true rfl⟩ ⟨Nat.le_of_ble_eq_true rfl, Nat.le_of_ble_eq_true rfl⟩ [21] rfl ⟨rfl, rfl⟩ rfl rfl 21 0 rfl rfl rfl rfl (Nat.le_of_ble_eq_true rfl) (ff_cons (ml_fst _ _ _ _ _ _) (ff_nil)) (ws' := [xl xx xn xt xk xe xo xv xc xr cI (x_rf (m_hi M, m_rf M) 2), wl xn cI S, wl xt cI T1, wl xk cI K1, tl xe cI (m_q M), ol xo xp cI qo, wl xp cI T2, al xv xq cI qa, wl xq cI T3, cl xc xs xw cW qc, wl xs cI T4, wl (xw 0) cI V0, wl (xw 1) cI V1, wl (xw 2) cI V2, wl (xw 3) cI V3, wl (xw 4) cI V4, wl (xw 5) cI V5, wl (xw 6) cI V6, wl (xw 7) cI V7, rl xr xu cI (m_rw M, m_rn M), wl xu cI T5, ml m cI S (m_no M 2)]) rfl ?_
              refine G.c_eq X (a := (-2)) (b := (-2)) dL_law_832 (fun h832 => ?_) (fun h832 => absurd (rfl) h832)
              exact kend S (m_no M 2) T1 K1 qo T2 qa T3 qc T4 V0 V1 V2 V3 V4 V5 V6 V7 T5 (hI.no 2)
  · replace zkd : z_in (sc (i + 1)) 6 = false := by simpa using zkd
    refine G.al X dL_law_784 2 rfl ?_
    refine G.al X dL_law_785 3 rfl ?_
    refine G.il X dL_law_786 0 rfl ?_
    refine G.pu X dL_law_787 ?_
    refine G.nadd X (a := i) (b := 1) dL_law_788 ?_
    refine G.sld X hX (i := i + 1) dL_law_789 (by omega) (by omega) ?_
    refine G.al X dL_law_790 3 rfl ?_
    refine G.il X dL_law_791 0 rfl ?_
    refine G.pu X dL_law_792 ?_
    refine G.nadd X (a := i) (b := 2) dL_law_793 ?_
    refine G.sld X hX (i := i + 2) dL_law_794 (by omega) (by omega) ?_
    refine G.al X dL_law_795 3 rfl ?_
    refine G.il X dL_law_796 0 rfl ?_
    refine G.pu X dL_law_797 ?_
    refine G.nadd X (a := i) (b := 3) dL_law_798 ?_
    refine G.sld X hX (i := i + 3) dL_law_799 (by omega) (by omega) ?_
    refine G.al X dL_law_800 3 rfl ?_
    refine G.il X dL_law_801 0 rfl ?_
    refine G.pu X dL_law_802 ?_
    refine G.nadd X (a := i) (b := 4) dL_law_803 ?_
    refine G.sld X hX (i := i + 4) dL_law_804 (by omega) (by omega) ?_
    refine G.cvi X kX6_drop lL_105 dL_law_805 (tX6_drop_oth l D cI cW xx xn xt xk xe xo xv xc xr (m_hi M, m_rf M) (sc (i + 1)) (sc (i + 2)) (sc (i + 3)) (sc (i + 4)) zkd) ⟨Nat.le_of_ble_eq_true rfl, Nat.le_of_ble_eq_true rfl⟩ ⟨Nat.le_of_ble_eq_true rfl, Nat.le_of_ble_eq_true rfl⟩ [0] rfl ⟨rfl, rfl⟩ rfl rfl 0 0 rfl rfl rfl rfl (Nat.le_of_ble_eq_true rfl) (ff_cons (xl_fst _ _ _ _ _ _ _ _ _ _ _ _) (ff_nil)) (ws' := [xl xx xn xt xk xe xo xv xc xr cI (x_rf (m_hi M, m_rf M) 2), wl xn cI S, wl xt cI T1, wl xk cI K1, tl xe cI (m_q M), ol xo xp cI qo, wl xp cI T2, al xv xq cI qa, wl xq cI T3, cl xc xs xw cW qc, wl xs cI T4, wl (xw 0) cI V0, wl (xw 1) cI V1, wl (xw 2) cI V2, wl (xw 3) cI V3, wl (xw 4) cI V4, wl (xw 5) cI V5, wl (xw 6) cI V6, wl (xw 7) cI V7, rl xr xu cI (m_rw M, m_rn M), wl xu cI T5, ml m cI S M]) rfl ?_
    refine G.al X dL_law_808 1 rfl ?_
    refine G.al X dL_law_809 3 rfl ?_
    refine G.il X dL_law_810 0 rfl ?_
    refine G.pu X dL_law_811 ?_
    refine G.nadd X (a := i) (b := 1) dL_law_812 ?_
    refine G.sld X hX (i := i + 1) dL_law_813 (by omega) (by omega) ?_
    refine G.al X dL_law_814 3 rfl ?_
    refine G.il X dL_law_815 0 rfl ?_
    refine G.pu X dL_law_816 ?_
    refine G.nadd X (a := i) (b := 2) dL_law_817 ?_
    refine G.sld X hX (i := i + 2) dL_law_818 (by omega) (by omega) ?_
    refine G.al X dL_law_819 3 rfl ?_
    refine G.il X dL_law_820 0 rfl ?_
    refine G.pu X dL_law_821 ?_
    refine G.nadd X (a := i) (b := 3) dL_law_822 ?_
    refine G.sld X hX (i := i + 3) dL_law_823 (by omega) (by omega) ?_
    refine G.al X dL_law_824 3 rfl ?_
    refine G.il X dL_law_825 0 rfl ?_
    refine G.pu X dL_law_826 ?_
    refine G.nadd X (a := i) (b := 4) dL_law_827 ?_
    refine G.sld X hX (i := i + 4) dL_law_828 (by omega) (by omega) ?_
    refine G.cvi X kX7_drop lL_109 dL_law_829 (tX7_drop_oth l D cI cW m S M (sc (i + 1)) (sc (i + 2)) (sc (i + 3)) (sc (i + 4)) zkd) ⟨Nat.le_of_ble_eq_true rfl, Nat.le_of_ble_eq_true rfl⟩ ⟨Nat.le_of_ble_eq_true rfl, Nat.le_of_ble_eq_true rfl⟩ [21] rfl ⟨rfl, rfl⟩ rfl rfl 21 0 rfl rfl rfl rfl (Nat.le_of_ble_eq_true rfl) (ff_cons (ml_fst _ _ _ _ _ _) (ff_nil)) (ws' := [xl xx xn xt xk xe xo xv xc xr cI (x_rf (m_hi M, m_rf M) 2), wl xn cI S, wl xt cI T1, wl xk cI K1, tl xe cI (m_q M), ol xo xp cI qo, wl xp cI T2, al xv xq cI qa, wl xq cI T3, cl xc xs xw cW qc, wl xs cI T4, wl (xw 0) cI V0, wl (xw 1) cI V1, wl (xw 2) cI V2, wl (xw 3) cI V3, wl (xw 4) cI V4, wl (xw 5) cI V5, wl (xw 6) cI V6, wl (xw 7) cI V7, rl xr xu cI (m_rw M, m_rn M), wl xu cI T5, ml m cI S (m_no M 2)]) rfl ?_
    refine G.c_eq X (a := (-2)) (b := (-2)) dL_law_832 (fun h832 => ?_) (fun h832 => absurd (rfl) h832)
    exact kend S (m_no M 2) T1 K1 qo T2 qa T3 qc T4 V0 V1 V2 V3 V4 V5 V6 V7 T5 (hI.no 2)

set_option maxRecDepth 20000 in
theorem law_29 {l : Launch} {D : va_G} {cI cW : ClassId} {x : GC} (X : GOK x l D cI cW RL cL_law 4 room_1) {b L i : Nat} {sc : Nat → Int32} (hX : GX x b L sc) (hL : L ≤ 2560) (hi : i + 5 ≤ L) {xx xn xt xk xe xo xp xv xq xc xs : Nat → Nat} {xw : Nat → Nat → Nat} {xr xu m : Nat → Nat} (kend : ∀ (S : WS) (M : MS) (T1 : WS) (K1 : WS) (qo : FN) (T2 : WS) (qa : FN × FN) (T3 : WS) (qc : Int32 × Int32 × Int32) (T4 : WS) (V0 : WS) (V1 : WS) (V2 : WS) (V3 : WS) (V4 : WS) (V5 : WS) (V6 : WS) (V7 : WS) (T5 : WS), IV S M K1 → G x 165 1897 (LW cI cW xx xn xt xk xe xo xp xv xq xc xs xw xr xu m S M T1 K1 qo T2 qa T3 qc T4 V0 V1 V2 V3 V4 V5 V6 V7 T5) 1230 [(3, .int (nI i)), (2, .ref (m 0)), (1, .ref (xx 0)), (0, .ref b)] []) (S : WS) (M : MS) (T1 : WS) (K1 : WS) (qo : FN) (T2 : WS) (qa : FN × FN) (T3 : WS) (qc : Int32 × Int32 × Int32) (T4 : WS) (V0 : WS) (V1 : WS) (V2 : WS) (V3 : WS) (V4 : WS) (V5 : WS) (V6 : WS) (V7 : WS) (T5 : WS) (hI : IV S M K1) : G x 165 1897 (LW cI cW xx xn xt xk xe xo xp xv xq xc xs xw xr xu m S M T1 K1 qo T2 qa T3 qc T4 V0 V1 V2 V3 V4 V5 V6 V7 T5) 945 [(3, .int (nI i)), (2, .ref (m 0)), (1, .ref (xx 0)), (0, .ref b)] [] := by
  show G x 165 1897 ([xl xx xn xt xk xe xo xv xc xr cI (m_hi M, m_rf M), wl xn cI S, wl xt cI T1, wl xk cI K1, tl xe cI (m_q M), ol xo xp cI qo, wl xp cI T2, al xv xq cI qa, wl xq cI T3, cl xc xs xw cW qc, wl xs cI T4, wl (xw 0) cI V0, wl (xw 1) cI V1, wl (xw 2) cI V2, wl (xw 3) cI V3, wl (xw 4) cI V4, wl (xw 5) cI V5, wl (xw 6) cI V6, wl (xw 7) cI V7, rl xr xu cI (m_rw M, m_rn M), wl xu cI T5, ml m cI S M]) 945 [(3, .int (nI i)), (2, .ref (m 0)), (1, .ref (xx 0)), (0, .ref b)] []
  by_cases zi1 : z_in (sc (i + 1)) (s_pe S) = true
  · obtain ⟨i1, hi1, ei1⟩ := z_in_t zi1
    by_cases zj1 : z_in (sc (i + 2)) (s_pe S) = true
    · obtain ⟨j1, hj1, ej1⟩ := z_in_t zj1
      by_cases cij : i1 = j1
      · refine G.al X dL_law_945 2 rfl ?_
        refine G.al X dL_law_946 3 rfl ?_
        refine G.il X dL_law_947 0 rfl ?_
        refine G.pu X dL_law_948 ?_
        refine G.nadd X (a := i) (b := 1) dL_law_949 ?_
        refine G.sld X hX (i := i + 1) dL_law_950 (by omega) (by omega) ?_
        refine G.top (b := nI i1) ei1 ?_
        refine G.al X dL_law_951 3 rfl ?_
        refine G.il X dL_law_952 0 rfl ?_
        refine G.pu X dL_law_953 ?_
        refine G.nadd X (a := i) (b := 2) dL_law_954 ?_
        refine G.sld X hX (i := i + 2) dL_law_955 (by omega) (by omega) ?_
        refine G.top (b := nI j1) ej1 ?_
        refine G.al X dL_law_956 3 rfl ?_
        refine G.il X dL_law_957 0 rfl ?_
        refine G.pu X dL_law_958 ?_
        refine G.nadd X (a := i) (b := 3) dL_law_959 ?_
        refine G.sld X hX (i := i + 3) dL_law_960 (by omega) (by omega) ?_
        refine G.cvi X kX6_two lL_134 dL_law_961 (tX6_two_bad l D cI cW xx xn xt xk xe xo xv xc xr (m_hi M, m_rf M) S (nI i1) (nI j1) (sc (i + 3)) hI.ok (Or.inr (Or.inr (by rw [cij])))) ⟨Nat.le_of_ble_eq_true rfl, Nat.le_of_ble_eq_true rfl⟩ ⟨Nat.le_of_ble_eq_true rfl, Nat.le_of_ble_eq_true rfl⟩ [0, 1] rfl ⟨rfl, rfl⟩ rfl rfl 0 0 rfl rfl rfl rfl (Nat.le_of_ble_eq_true rfl) (ff_cons (xl_fst _ _ _ _ _ _ _ _ _ _ _ _) (ff_cons (wl_fst _ _ _ _) (ff_nil))) (ws' := [xl xx xn xt xk xe xo xv xc xr cI (x_rf (m_hi M, m_rf M) 1), wl xn cI S, wl xt cI T1, wl xk cI K1, tl xe cI (m_q M), ol xo xp cI qo, wl xp cI T2, al xv xq cI qa, wl xq cI T3, cl xc xs xw cW qc, wl xs cI T4, wl (xw 0) cI V0, wl (xw 1) cI V1, wl (xw 2) cI V2, wl (xw 3) cI V3, wl (xw 4) cI V4, wl (xw 5) cI V5, wl (xw 6) cI V6, wl (xw 7) cI V7, rl xr xu cI (m_rw M, m_rn M), wl xu cI T5, ml m cI S M]) rfl ?_
        refine G.al X dL_law_964 1 rfl ?_
        refine G.al X dL_law_965 3 rfl ?_
        refine G.il X dL_law_966 0 rfl ?_
        refine G.pu X dL_law_967 ?_
        refine G.nadd X (a := i) (b := 1) dL_law_968 ?_
        refine G.sld X hX (i := i + 1) dL_law_969 (by omega) (by omega) ?_
        refine G.top (b := nI i1) ei1 ?_
        refine G.al X dL_law_970 3 rfl ?_
        refine G.il X dL_law_971 0 rfl ?_
        refine G.pu X dL_law_972 ?_
        refine G.nadd X (a := i) (b := 2) dL_law_973 ?_
        refine G.sld X hX (i := i + 2) dL_law_974 (by omega) (by omega) ?_
        refine G.top (b := nI j1) ej1 ?_
        refine G.al X dL_law_975 3 rfl ?_
        refine G.il X dL_law_976 0 rfl ?_
        refine G.pu X dL_law_977 ?_
        refine G.nadd X (a := i) (b := 3) dL_law_978 ?_
        refine G.sld X hX (i := i + 3) dL_law_979 (by omega) (by omega) ?_
        refine G.cvi X kX7_two lL_137 dL_law_980 (tX7_two_bad3 l D cI cW m S M i1 j1 (sc (i + 3)) hI.ok hi1 hj1 cij) ⟨Nat.le_of_ble_eq_true rfl, Nat.le_of_ble_eq_true rfl⟩ ⟨Nat.le_of_ble_eq_true rfl, Nat.le_of_ble_eq_true rfl⟩ [21] rfl ⟨rfl, rfl⟩ rfl rfl 21 0 rfl rfl rfl rfl (Nat.le_of_ble_eq_true rfl) (ff_cons (ml_fst _ _ _ _ _ _) (ff_nil)) (ws' := [xl xx xn xt xk xe xo xv xc xr cI (x_rf (m_hi M, m_rf M) 1), wl xn cI S, wl xt cI T1, wl xk cI K1, tl xe cI (m_q M), ol xo xp cI qo, wl xp cI T2, al xv xq cI qa, wl xq cI T3, cl xc xs xw cW qc, wl xs cI T4, wl (xw 0) cI V0, wl (xw 1) cI V1, wl (xw 2) cI V2, wl (xw 3) cI V3, wl (xw 4) cI V4, wl (xw 5) cI V5, wl (xw 6) cI V6, wl (xw 7) cI V7, rl xr xu cI (m_rw M, m_rn M), wl xu cI T5, ml m cI S (m_no M 1)]) rfl ?_
        refine G.c_eq X (a := (-1)) (b := (-1)) dL_law_983 (fun h983 => ?_) (fun h983 => absurd (rfl) h983)
        exact kend S (m_no M 1) T1 K1 qo T2 qa T3 qc T4 V0 V1 V2 V3 V4 V5 V6 V7 T5 (hI.no 1)
      · by_cases cnl : sc (i + 3) < 1
        · refine G.al X dL_law_945 2 rfl ?_
          refine G.al X dL_law_946 3 rfl ?_
          refine G.il X dL_law_947 0 rfl ?_
          refine G.pu X dL_law_948 ?_
          refine G.nadd X (a := i) (b := 1) dL_law_949 ?_
          refine G.sld X hX (i := i + 1) dL_law_950 (by omega) (by omega) ?_
          refine G.top (b := nI i1) ei1 ?_
          refine G.al X dL_law_951 3 rfl ?_
          refine G.il X dL_law_952 0 rfl ?_
          refine G.pu X dL_law_953 ?_
          refine G.nadd X (a := i) (b := 2) dL_law_954 ?_
          refine G.sld X hX (i := i + 2) dL_law_955 (by omega) (by omega) ?_
          refine G.top (b := nI j1) ej1 ?_
          refine G.al X dL_law_956 3 rfl ?_
          refine G.il X dL_law_957 0 rfl ?_
          refine G.pu X dL_law_958 ?_
          refine G.nadd X (a := i) (b := 3) dL_law_959 ?_
          refine G.sld X hX (i := i + 3) dL_law_960 (by omega) (by omega) ?_
          refine G.cvi X kX6_two lL_134 dL_law_961 (tX6_two_lo l D cI cW xx xn xt xk xe xo xv xc xr (m_hi M, m_rf M) S i1 j1 (sc (i + 3)) hI.ok hi1 hj1 cij (by omega)) ⟨Nat.le_of_ble_eq_true rfl, Nat.le_of_ble_eq_true rfl⟩ ⟨Nat.le_of_ble_eq_true rfl, Nat.le_of_ble_eq_true rfl⟩ [0, 1] rfl ⟨rfl, rfl⟩ rfl rfl 0 0 rfl rfl rfl rfl (Nat.le_of_ble_eq_true rfl) (ff_cons (xl_fst _ _ _ _ _ _ _ _ _ _ _ _) (ff_cons (wl_fst _ _ _ _) (ff_nil))) (ws' := [xl xx xn xt xk xe xo xv xc xr cI (x_rf (m_hi M, m_rf M) 4), wl xn cI S, wl xt cI T1, wl xk cI K1, tl xe cI (m_q M), ol xo xp cI qo, wl xp cI T2, al xv xq cI qa, wl xq cI T3, cl xc xs xw cW qc, wl xs cI T4, wl (xw 0) cI V0, wl (xw 1) cI V1, wl (xw 2) cI V2, wl (xw 3) cI V3, wl (xw 4) cI V4, wl (xw 5) cI V5, wl (xw 6) cI V6, wl (xw 7) cI V7, rl xr xu cI (m_rw M, m_rn M), wl xu cI T5, ml m cI S M]) rfl ?_
          refine G.al X dL_law_964 1 rfl ?_
          refine G.al X dL_law_965 3 rfl ?_
          refine G.il X dL_law_966 0 rfl ?_
          refine G.pu X dL_law_967 ?_
          refine G.nadd X (a := i) (b := 1) dL_law_968 ?_
          refine G.sld X hX (i := i + 1) dL_law_969 (by omega) (by omega) ?_
          refine G.top (b := nI i1) ei1 ?_
          refine G.al X dL_law_970 3 rfl ?_
          refine G.il X dL_law_971 0 rfl ?_
          refine G.pu X dL_law_972 ?_
          refine G.nadd X (a := i) (b := 2) dL_law_973 ?_
          refine G.sld X hX (i := i + 2) dL_law_974 (by omega) (by omega) ?_
          refine G.top (b := nI j1) ej1 ?_
          refine G.al X dL_law_975 3 rfl ?_
          refine G.il X dL_law_976 0 rfl ?_
          refine G.pu X dL_law_977 ?_
          refine G.nadd X (a := i) (b := 3) dL_law_978 ?_
          refine G.sld X hX (i := i + 3) dL_law_979 (by omega) (by omega) ?_
          refine G.cvi X kX7_two lL_137 dL_law_980 (tX7_two_lo l D cI cW m S M i1 j1 (sc (i + 3)) hI.ok hi1 hj1 cij (by omega)) ⟨Nat.le_of_ble_eq_true rfl, Nat.le_of_ble_eq_true rfl⟩ ⟨Nat.le_of_ble_eq_true rfl, Nat.le_of_ble_eq_true rfl⟩ [21] rfl ⟨rfl, rfl⟩ rfl rfl 21 0 rfl rfl rfl rfl (Nat.le_of_ble_eq_true rfl) (ff_cons (ml_fst _ _ _ _ _ _) (ff_nil)) (ws' := [xl xx xn xt xk xe xo xv xc xr cI (x_rf (m_hi M, m_rf M) 4), wl xn cI S, wl xt cI T1, wl xk cI K1, tl xe cI (m_q M), ol xo xp cI qo, wl xp cI T2, al xv xq cI qa, wl xq cI T3, cl xc xs xw cW qc, wl xs cI T4, wl (xw 0) cI V0, wl (xw 1) cI V1, wl (xw 2) cI V2, wl (xw 3) cI V3, wl (xw 4) cI V4, wl (xw 5) cI V5, wl (xw 6) cI V6, wl (xw 7) cI V7, rl xr xu cI (m_rw M, m_rn M), wl xu cI T5, ml m cI S (m_no M 4)]) rfl ?_
          refine G.c_eq X (a := (-4)) (b := (-4)) dL_law_983 (fun h983 => ?_) (fun h983 => absurd (rfl) h983)
          exact kend S (m_no M 4) T1 K1 qo T2 qa T3 qc T4 V0 V1 V2 V3 V4 V5 V6 V7 T5 (hI.no 4)
        · by_cases cnh : 40 < sc (i + 3)
          · refine G.al X dL_law_945 2 rfl ?_
            refine G.al X dL_law_946 3 rfl ?_
            refine G.il X dL_law_947 0 rfl ?_
            refine G.pu X dL_law_948 ?_
            refine G.nadd X (a := i) (b := 1) dL_law_949 ?_
            refine G.sld X hX (i := i + 1) dL_law_950 (by omega) (by omega) ?_
            refine G.top (b := nI i1) ei1 ?_
            refine G.al X dL_law_951 3 rfl ?_
            refine G.il X dL_law_952 0 rfl ?_
            refine G.pu X dL_law_953 ?_
            refine G.nadd X (a := i) (b := 2) dL_law_954 ?_
            refine G.sld X hX (i := i + 2) dL_law_955 (by omega) (by omega) ?_
            refine G.top (b := nI j1) ej1 ?_
            refine G.al X dL_law_956 3 rfl ?_
            refine G.il X dL_law_957 0 rfl ?_
            refine G.pu X dL_law_958 ?_
            refine G.nadd X (a := i) (b := 3) dL_law_959 ?_
            refine G.sld X hX (i := i + 3) dL_law_960 (by omega) (by omega) ?_
            refine G.cvi X kX6_two lL_134 dL_law_961 (tX6_two_hi l D cI cW xx xn xt xk xe xo xv xc xr (m_hi M, m_rf M) S i1 j1 (sc (i + 3)) hI.ok hi1 hj1 cij (by omega) (by omega)) ⟨Nat.le_of_ble_eq_true rfl, Nat.le_of_ble_eq_true rfl⟩ ⟨Nat.le_of_ble_eq_true rfl, Nat.le_of_ble_eq_true rfl⟩ [0, 1] rfl ⟨rfl, rfl⟩ rfl rfl 0 0 rfl rfl rfl rfl (Nat.le_of_ble_eq_true rfl) (ff_cons (xl_fst _ _ _ _ _ _ _ _ _ _ _ _) (ff_cons (wl_fst _ _ _ _) (ff_nil))) (ws' := [xl xx xn xt xk xe xo xv xc xr cI (x_rf (m_hi M, m_rf M) 6), wl xn cI S, wl xt cI T1, wl xk cI K1, tl xe cI (m_q M), ol xo xp cI qo, wl xp cI T2, al xv xq cI qa, wl xq cI T3, cl xc xs xw cW qc, wl xs cI T4, wl (xw 0) cI V0, wl (xw 1) cI V1, wl (xw 2) cI V2, wl (xw 3) cI V3, wl (xw 4) cI V4, wl (xw 5) cI V5, wl (xw 6) cI V6, wl (xw 7) cI V7, rl xr xu cI (m_rw M, m_rn M), wl xu cI T5, ml m cI S M]) rfl ?_
            refine G.al X dL_law_964 1 rfl ?_
            refine G.al X dL_law_965 3 rfl ?_
            refine G.il X dL_law_966 0 rfl ?_
            refine G.pu X dL_law_967 ?_
            refine G.nadd X (a := i) (b := 1) dL_law_968 ?_
            refine G.sld X hX (i := i + 1) dL_law_969 (by omega) (by omega) ?_
            refine G.top (b := nI i1) ei1 ?_
            refine G.al X dL_law_970 3 rfl ?_
            refine G.il X dL_law_971 0 rfl ?_
            refine G.pu X dL_law_972 ?_
            refine G.nadd X (a := i) (b := 2) dL_law_973 ?_
            refine G.sld X hX (i := i + 2) dL_law_974 (by omega) (by omega) ?_
            refine G.top (b := nI j1) ej1 ?_
            refine G.al X dL_law_975 3 rfl ?_
            refine G.il X dL_law_976 0 rfl ?_
            refine G.pu X dL_law_977 ?_
            refine G.nadd X (a := i) (b := 3) dL_law_978 ?_
            refine G.sld X hX (i := i + 3) dL_law_979 (by omega) (by omega) ?_
            refine G.cvi X kX7_two lL_137 dL_law_980 (tX7_two_hi l D cI cW m S M i1 j1 (sc (i + 3)) hI.ok hi1 hj1 cij (by omega) (by omega)) ⟨Nat.le_of_ble_eq_true rfl, Nat.le_of_ble_eq_true rfl⟩ ⟨Nat.le_of_ble_eq_true rfl, Nat.le_of_ble_eq_true rfl⟩ [21] rfl ⟨rfl, rfl⟩ rfl rfl 21 0 rfl rfl rfl rfl (Nat.le_of_ble_eq_true rfl) (ff_cons (ml_fst _ _ _ _ _ _) (ff_nil)) (ws' := [xl xx xn xt xk xe xo xv xc xr cI (x_rf (m_hi M, m_rf M) 6), wl xn cI S, wl xt cI T1, wl xk cI K1, tl xe cI (m_q M), ol xo xp cI qo, wl xp cI T2, al xv xq cI qa, wl xq cI T3, cl xc xs xw cW qc, wl xs cI T4, wl (xw 0) cI V0, wl (xw 1) cI V1, wl (xw 2) cI V2, wl (xw 3) cI V3, wl (xw 4) cI V4, wl (xw 5) cI V5, wl (xw 6) cI V6, wl (xw 7) cI V7, rl xr xu cI (m_rw M, m_rn M), wl xu cI T5, ml m cI S (m_no M 6)]) rfl ?_
            refine G.c_eq X (a := (-6)) (b := (-6)) dL_law_983 (fun h983 => ?_) (fun h983 => absurd (rfl) h983)
            exact kend S (m_no M 6) T1 K1 qo T2 qa T3 qc T4 V0 V1 V2 V3 V4 V5 V6 V7 T5 (hI.no 6)
          · obtain ⟨n, ⟨hn1, hn2⟩, en⟩ := n_rng (lo := 1) (hi := 40) (by decide) (by decide) cnl cnh
            refine G.al X dL_law_945 2 rfl ?_
            refine G.al X dL_law_946 3 rfl ?_
            refine G.il X dL_law_947 0 rfl ?_
            refine G.pu X dL_law_948 ?_
            refine G.nadd X (a := i) (b := 1) dL_law_949 ?_
            refine G.sld X hX (i := i + 1) dL_law_950 (by omega) (by omega) ?_
            refine G.top (b := nI i1) ei1 ?_
            refine G.al X dL_law_951 3 rfl ?_
            refine G.il X dL_law_952 0 rfl ?_
            refine G.pu X dL_law_953 ?_
            refine G.nadd X (a := i) (b := 2) dL_law_954 ?_
            refine G.sld X hX (i := i + 2) dL_law_955 (by omega) (by omega) ?_
            refine G.top (b := nI j1) ej1 ?_
            refine G.al X dL_law_956 3 rfl ?_
            refine G.il X dL_law_957 0 rfl ?_
            refine G.pu X dL_law_958 ?_
            refine G.nadd X (a := i) (b := 3) dL_law_959 ?_
            refine G.sld X hX (i := i + 3) dL_law_960 (by omega) (by omega) ?_
            refine G.top (b := nI n) en ?_
            refine G.cvie X kX6_two lL_134 dL_law_961 (tX6_two_ok l D cI cW xx xn xt xk xe xo xv xc xr (m_hi M, m_rf M) S xq qa T3 i1 j1 n hI.ok hi1 hj1 cij hn1 hn2) ⟨Nat.le_of_ble_eq_true rfl, Nat.le_of_ble_eq_true rfl⟩ ⟨Nat.le_of_ble_eq_true rfl, Nat.le_of_ble_eq_true rfl⟩ [0, 1, 7, 8] rfl ⟨rfl, rfl⟩ rfl rfl 0 0 rfl rfl rfl rfl (Nat.le_of_ble_eq_true rfl) (fun _ => (ff_cons (xl_fst _ _ _ _ _ _ _ _ _ _ _ _) (ff_cons (wl_fst _ _ _ _) (ff_cons (al_fst _ _ _ _ _) (ff_cons (wl_fst _ _ _ _) (ff_nil)))))) (f8 := fun T9_961 : WS => [xl xx xn xt xk xe xo xv xc xr cI (m_hi M, m_rf M), wl xn cI S, wl xt cI T1, wl xk cI K1, tl xe cI (m_q M), ol xo xp cI qo, wl xp cI T2, al xv xq cI (w_ga S i1 j1 n, w_gb S i1 j1 n), wl xq cI T9_961, cl xc xs xw cW qc, wl xs cI T4, wl (xw 0) cI V0, wl (xw 1) cI V1, wl (xw 2) cI V2, wl (xw 3) cI V3, wl (xw 4) cI V4, wl (xw 5) cI V5, wl (xw 6) cI V6, wl (xw 7) cI V7, rl xr xu cI (m_rw M, m_rn M), wl xu cI T5, ml m cI S M]) (fun _ => rfl) (fun T9_961 => ?_)
            refine G.al X dL_law_964 1 rfl ?_
            refine G.al X dL_law_965 3 rfl ?_
            refine G.il X dL_law_966 0 rfl ?_
            refine G.pu X dL_law_967 ?_
            refine G.nadd X (a := i) (b := 1) dL_law_968 ?_
            refine G.sld X hX (i := i + 1) dL_law_969 (by omega) (by omega) ?_
            refine G.top (b := nI i1) ei1 ?_
            refine G.al X dL_law_970 3 rfl ?_
            refine G.il X dL_law_971 0 rfl ?_
            refine G.pu X dL_law_972 ?_
            refine G.nadd X (a := i) (b := 2) dL_law_973 ?_
            refine G.sld X hX (i := i + 2) dL_law_974 (by omega) (by omega) ?_
            refine G.top (b := nI j1) ej1 ?_
            refine G.al X dL_law_975 3 rfl ?_
            refine G.il X dL_law_976 0 rfl ?_
            refine G.pu X dL_law_977 ?_
            refine G.nadd X (a := i) (b := 3) dL_law_978 ?_
            refine G.sld X hX (i := i + 3) dL_law_979 (by omega) (by omega) ?_
            refine G.top (b := nI n) en ?_
            refine G.cvie X kX7_two lL_137 dL_law_980 (tX7_two_ok l D cI cW m S M i1 j1 n hI.ok hI.co hi1 hj1 cij hn1 hn2) ⟨Nat.le_of_ble_eq_true rfl, Nat.le_of_ble_eq_true rfl⟩ ⟨Nat.le_of_ble_eq_true rfl, Nat.le_of_ble_eq_true rfl⟩ [21] rfl ⟨rfl, rfl⟩ rfl rfl 21 0 rfl rfl rfl rfl (Nat.le_of_ble_eq_true rfl) (fun _ => (ff_cons (ml_fst _ _ _ _ _ _) (ff_nil))) (f8 := fun M9_980 : {M9_980 : MS // Mq 64 M M9_980} => [xl xx xn xt xk xe xo xv xc xr cI (m_hi M, m_rf M), wl xn cI S, wl xt cI T1, wl xk cI K1, tl xe cI (m_q M), ol xo xp cI qo, wl xp cI T2, al xv xq cI (w_ga S i1 j1 n, w_gb S i1 j1 n), wl xq cI T9_961, cl xc xs xw cW qc, wl xs cI T4, wl (xw 0) cI V0, wl (xw 1) cI V1, wl (xw 2) cI V2, wl (xw 3) cI V3, wl (xw 4) cI V4, wl (xw 5) cI V5, wl (xw 6) cI V6, wl (xw 7) cI V7, rl xr xu cI (m_rw M, m_rn M), wl xu cI T5, ml m cI S M9_980.1]) (fun _ => rfl) (fun M9_980 => ?_)
            refine G.c_eq X (a := (w_two S i1 j1 n)) (b := (w_two S i1 j1 n)) dL_law_983 (fun h983 => ?_) (fun h983 => absurd (rfl) h983)
            rw [LW_q M9_980.2]
            exact kend S M9_980.1 T1 K1 qo T2 (w_ga S i1 j1 n, w_gb S i1 j1 n) T9_961 qc T4 V0 V1 V2 V3 V4 V5 V6 V7 T5 (hI.q M9_980.2)
    · replace zj1 : z_in (sc (i + 2)) (s_pe S) = false := by simpa using zj1
      refine G.al X dL_law_945 2 rfl ?_
      refine G.al X dL_law_946 3 rfl ?_
      refine G.il X dL_law_947 0 rfl ?_
      refine G.pu X dL_law_948 ?_
      refine G.nadd X (a := i) (b := 1) dL_law_949 ?_
      refine G.sld X hX (i := i + 1) dL_law_950 (by omega) (by omega) ?_
      refine G.top (b := nI i1) ei1 ?_
      refine G.al X dL_law_951 3 rfl ?_
      refine G.il X dL_law_952 0 rfl ?_
      refine G.pu X dL_law_953 ?_
      refine G.nadd X (a := i) (b := 2) dL_law_954 ?_
      refine G.sld X hX (i := i + 2) dL_law_955 (by omega) (by omega) ?_
      refine G.al X dL_law_956 3 rfl ?_
      refine G.il X dL_law_957 0 rfl ?_
      refine G.pu X dL_law_958 ?_
      refine G.nadd X (a := i) (b := 3) dL_law_959 ?_
      refine G.sld X hX (i := i + 3) dL_law_960 (by omega) (by omega) ?_
      refine G.cvi X kX6_two lL_134 dL_law_961 (tX6_two_bad l D cI cW xx xn xt xk xe xo xv xc xr (m_hi M, m_rf M) S (nI i1) (sc (i + 2)) (sc (i + 3)) hI.ok (Or.inr (Or.inl zj1))) ⟨Nat.le_of_ble_eq_true rfl, Nat.le_of_ble_eq_true rfl⟩ ⟨Nat.le_of_ble_eq_true rfl, Nat.le_of_ble_eq_true rfl⟩ [0, 1] rfl ⟨rfl, rfl⟩ rfl rfl 0 0 rfl rfl rfl rfl (Nat.le_of_ble_eq_true rfl) (ff_cons (xl_fst _ _ _ _ _ _ _ _ _ _ _ _) (ff_cons (wl_fst _ _ _ _) (ff_nil))) (ws' := [xl xx xn xt xk xe xo xv xc xr cI (x_rf (m_hi M, m_rf M) 1), wl xn cI S, wl xt cI T1, wl xk cI K1, tl xe cI (m_q M), ol xo xp cI qo, wl xp cI T2, al xv xq cI qa, wl xq cI T3, cl xc xs xw cW qc, wl xs cI T4, wl (xw 0) cI V0, wl (xw 1) cI V1, wl (xw 2) cI V2, wl (xw 3) cI V3, wl (xw 4) cI V4, wl (xw 5) cI V5, wl (xw 6) cI V6, wl (xw 7) cI V7, rl xr xu cI (m_rw M, m_rn M), wl xu cI T5, ml m cI S M]) rfl ?_
      refine G.al X dL_law_964 1 rfl ?_
      refine G.al X dL_law_965 3 rfl ?_
      refine G.il X dL_law_966 0 rfl ?_
      refine G.pu X dL_law_967 ?_
      refine G.nadd X (a := i) (b := 1) dL_law_968 ?_
      refine G.sld X hX (i := i + 1) dL_law_969 (by omega) (by omega) ?_
      refine G.top (b := nI i1) ei1 ?_
      refine G.al X dL_law_970 3 rfl ?_
      refine G.il X dL_law_971 0 rfl ?_
      refine G.pu X dL_law_972 ?_
      refine G.nadd X (a := i) (b := 2) dL_law_973 ?_
      refine G.sld X hX (i := i + 2) dL_law_974 (by omega) (by omega) ?_
      refine G.al X dL_law_975 3 rfl ?_
      refine G.il X dL_law_976 0 rfl ?_
      refine G.pu X dL_law_977 ?_
      refine G.nadd X (a := i) (b := 3) dL_law_978 ?_
      refine G.sld X hX (i := i + 3) dL_law_979 (by omega) (by omega) ?_
      refine G.cvi X kX7_two lL_137 dL_law_980 (tX7_two_bad2 l D cI cW m S M i1 (sc (i + 2)) (sc (i + 3)) hI.ok hi1 zj1) ⟨Nat.le_of_ble_eq_true rfl, Nat.le_of_ble_eq_true rfl⟩ ⟨Nat.le_of_ble_eq_true rfl, Nat.le_of_ble_eq_true rfl⟩ [21] rfl ⟨rfl, rfl⟩ rfl rfl 21 0 rfl rfl rfl rfl (Nat.le_of_ble_eq_true rfl) (ff_cons (ml_fst _ _ _ _ _ _) (ff_nil)) (ws' := [xl xx xn xt xk xe xo xv xc xr cI (x_rf (m_hi M, m_rf M) 1), wl xn cI S, wl xt cI T1, wl xk cI K1, tl xe cI (m_q M), ol xo xp cI qo, wl xp cI T2, al xv xq cI qa, wl xq cI T3, cl xc xs xw cW qc, wl xs cI T4, wl (xw 0) cI V0, wl (xw 1) cI V1, wl (xw 2) cI V2, wl (xw 3) cI V3, wl (xw 4) cI V4, wl (xw 5) cI V5, wl (xw 6) cI V6, wl (xw 7) cI V7, rl xr xu cI (m_rw M, m_rn M), wl xu cI T5, ml m cI S (m_no M 1)]) rfl ?_
      refine G.c_eq X (a := (-1)) (b := (-1)) dL_law_983 (fun h983 => ?_) (fun h983 => absurd (rfl) h983)
      exact kend S (m_no M 1) T1 K1 qo T2 qa T3 qc T4 V0 V1 V2 V3 V4 V5 V6 V7 T5 (hI.no 1)
  · replace zi1 : z_in (sc (i + 1)) (s_pe S) = false := by simpa using zi1
    refine G.al X dL_law_945 2 rfl ?_
    refine G.al X dL_law_946 3 rfl ?_
    refine G.il X dL_law_947 0 rfl ?_
    refine G.pu X dL_law_948 ?_
    refine G.nadd X (a := i) (b := 1) dL_law_949 ?_
    refine G.sld X hX (i := i + 1) dL_law_950 (by omega) (by omega) ?_
    refine G.al X dL_law_951 3 rfl ?_
    refine G.il X dL_law_952 0 rfl ?_
    refine G.pu X dL_law_953 ?_
    refine G.nadd X (a := i) (b := 2) dL_law_954 ?_
    refine G.sld X hX (i := i + 2) dL_law_955 (by omega) (by omega) ?_
    refine G.al X dL_law_956 3 rfl ?_
    refine G.il X dL_law_957 0 rfl ?_
    refine G.pu X dL_law_958 ?_
    refine G.nadd X (a := i) (b := 3) dL_law_959 ?_
    refine G.sld X hX (i := i + 3) dL_law_960 (by omega) (by omega) ?_
    refine G.cvi X kX6_two lL_134 dL_law_961 (tX6_two_bad l D cI cW xx xn xt xk xe xo xv xc xr (m_hi M, m_rf M) S (sc (i + 1)) (sc (i + 2)) (sc (i + 3)) hI.ok (Or.inl zi1)) ⟨Nat.le_of_ble_eq_true rfl, Nat.le_of_ble_eq_true rfl⟩ ⟨Nat.le_of_ble_eq_true rfl, Nat.le_of_ble_eq_true rfl⟩ [0, 1] rfl ⟨rfl, rfl⟩ rfl rfl 0 0 rfl rfl rfl rfl (Nat.le_of_ble_eq_true rfl) (ff_cons (xl_fst _ _ _ _ _ _ _ _ _ _ _ _) (ff_cons (wl_fst _ _ _ _) (ff_nil))) (ws' := [xl xx xn xt xk xe xo xv xc xr cI (x_rf (m_hi M, m_rf M) 1), wl xn cI S, wl xt cI T1, wl xk cI K1, tl xe cI (m_q M), ol xo xp cI qo, wl xp cI T2, al xv xq cI qa, wl xq cI T3, cl xc xs xw cW qc, wl xs cI T4, wl (xw 0) cI V0, wl (xw 1) cI V1, wl (xw 2) cI V2, wl (xw 3) cI V3, wl (xw 4) cI V4, wl (xw 5) cI V5, wl (xw 6) cI V6, wl (xw 7) cI V7, rl xr xu cI (m_rw M, m_rn M), wl xu cI T5, ml m cI S M]) rfl ?_
    refine G.al X dL_law_964 1 rfl ?_
    refine G.al X dL_law_965 3 rfl ?_
    refine G.il X dL_law_966 0 rfl ?_
    refine G.pu X dL_law_967 ?_
    refine G.nadd X (a := i) (b := 1) dL_law_968 ?_
    refine G.sld X hX (i := i + 1) dL_law_969 (by omega) (by omega) ?_
    refine G.al X dL_law_970 3 rfl ?_
    refine G.il X dL_law_971 0 rfl ?_
    refine G.pu X dL_law_972 ?_
    refine G.nadd X (a := i) (b := 2) dL_law_973 ?_
    refine G.sld X hX (i := i + 2) dL_law_974 (by omega) (by omega) ?_
    refine G.al X dL_law_975 3 rfl ?_
    refine G.il X dL_law_976 0 rfl ?_
    refine G.pu X dL_law_977 ?_
    refine G.nadd X (a := i) (b := 3) dL_law_978 ?_
    refine G.sld X hX (i := i + 3) dL_law_979 (by omega) (by omega) ?_
    refine G.cvi X kX7_two lL_137 dL_law_980 (tX7_two_bad1 l D cI cW m S M (sc (i + 1)) (sc (i + 2)) (sc (i + 3)) hI.ok zi1) ⟨Nat.le_of_ble_eq_true rfl, Nat.le_of_ble_eq_true rfl⟩ ⟨Nat.le_of_ble_eq_true rfl, Nat.le_of_ble_eq_true rfl⟩ [21] rfl ⟨rfl, rfl⟩ rfl rfl 21 0 rfl rfl rfl rfl (Nat.le_of_ble_eq_true rfl) (ff_cons (ml_fst _ _ _ _ _ _) (ff_nil)) (ws' := [xl xx xn xt xk xe xo xv xc xr cI (x_rf (m_hi M, m_rf M) 1), wl xn cI S, wl xt cI T1, wl xk cI K1, tl xe cI (m_q M), ol xo xp cI qo, wl xp cI T2, al xv xq cI qa, wl xq cI T3, cl xc xs xw cW qc, wl xs cI T4, wl (xw 0) cI V0, wl (xw 1) cI V1, wl (xw 2) cI V2, wl (xw 3) cI V3, wl (xw 4) cI V4, wl (xw 5) cI V5, wl (xw 6) cI V6, wl (xw 7) cI V7, rl xr xu cI (m_rw M, m_rn M), wl xu cI T5, ml m cI S (m_no M 1)]) rfl ?_
    refine G.c_eq X (a := (-1)) (b := (-1)) dL_law_983 (fun h983 => ?_) (fun h983 => absurd (rfl) h983)
    exact kend S (m_no M 1) T1 K1 qo T2 qa T3 qc T4 V0 V1 V2 V3 V4 V5 V6 V7 T5 (hI.no 1)
