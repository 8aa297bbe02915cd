set_option maxRecDepth 20000 in
theorem law_loop {l : Launch} {D : va_G} {cI cW : ClassId} {x : GC} (X : GOK x l D cI cW RL cL_law 4 room_1) {b L : Nat} {sc : Nat → Int32} (hX : GX x b L sc) (hL : L ≤ 2560) {xx xn xt xk xe xo xp xv xq xc xs : Nat → Nat} {xw : Nat → Nat → Nat} {xr xu m : Nat → Nat} (kex : ∀ (i : Nat) (S : WS) (M : MS) (T1 : WS) (K1 : WS) (qo : FN) (T2 : WS) (qa : FN × FN) (T3 : WS) (qc : Int32 × Int32 × Int32) (T4 : WS) (V0 : WS) (V1 : WS) (V2 : WS) (V3 : WS) (V4 : WS) (V5 : WS) (V6 : WS) (V7 : WS) (T5 : WS), G x 165 1897 (LW cI cW xx xn xt xk xe xo xp xv xq xc xs xw xr xu m S M T1 K1 qo T2 qa T3 qc T4 V0 V1 V2 V3 V4 V5 V6 V7 T5) 1236 [(3, .int (nI i)), (2, .ref (m 0)), (1, .ref (xx 0)), (0, .ref b)] []) : ∀ (d i : Nat), i ≤ L → L ≤ i + d → ∀ (S : WS) (M : MS) (T1 : WS) (K1 : WS) (qo : FN) (T2 : WS) (qa : FN × FN) (T3 : WS) (qc : Int32 × Int32 × Int32) (T4 : WS) (V0 : WS) (V1 : WS) (V2 : WS) (V3 : WS) (V4 : WS) (V5 : WS) (V6 : WS) (V7 : WS) (T5 : WS), IV S M K1 → G x 165 1897 (LW cI cW xx xn xt xk xe xo xp xv xq xc xs xw xr xu m S M T1 K1 qo T2 qa T3 qc T4 V0 V1 V2 V3 V4 V5 V6 V7 T5) 18 [(3, .int (nI i)), (2, .ref (m 0)), (1, .ref (xx 0)), (0, .ref b)] [] := by
  intro d
  induction d with
  | zero =>
    intro i h1 h2 S M T1 K1 qo T2 qa T3 qc T4 V0 V1 V2 V3 V4 V5 V6 V7 T5 hI
    refine G.il X dL_law_18 0 rfl ?_
    refine G.al X dL_law_19 3 rfl ?_
    refine G.slen X hX dL_law_20 ?_
    refine G.pu X dL_law_21 ?_
    refine G.isub X dL_law_22 ?_
    refine G.c_gt X (a := nI i) (b := nI L - 5) dL_law_23 (fun _ => kex i S M T1 K1 qo T2 qa T3 qc T4 V0 V1 V2 V3 V4 V5 V6 V7 T5) (fun h => absurd ((lw_more (by omega) hL).mpr (by omega)) h)
  | succ d ih =>
    intro i h1 h2 S M T1 K1 qo T2 qa T3 qc T4 V0 V1 V2 V3 V4 V5 V6 V7 T5 hI
    refine G.il X dL_law_18 0 rfl ?_
    refine G.al X dL_law_19 3 rfl ?_
    refine G.slen X hX dL_law_20 ?_
    refine G.pu X dL_law_21 ?_
    refine G.isub X dL_law_22 ?_
    refine G.c_gt X (a := nI i) (b := nI L - 5) dL_law_23 (fun _ => kex i S M T1 K1 qo T2 qa T3 qc T4 V0 V1 V2 V3 V4 V5 V6 V7 T5) (fun h => ?_)
    have hi : i + 5 ≤ L := Nat.le_of_not_lt (fun z => h ((lw_more (by omega) hL).mpr z))
    refine G.al X dL_law_26 3 rfl ?_
    refine G.il X dL_law_27 0 rfl ?_
    refine G.sld X hX (i := i) dL_law_28 (by omega) (by omega) ?_
    refine G.pu X dL_law_29 ?_
    refine G.iand X dL_law_31 ?_
    have kend : ∀ (S : WS) (M : MS) (T1 : WS) (K1 : WS) (qo : FN) (T2 : WS) (qa : FN × FN) (T3 : WS) (qc : Int32 × Int32 × Int32) (T4 : WS) (V0 : WS) (V1 : WS) (V2 : WS) (V3 : WS) (V4 : WS) (V5 : WS) (V6 : WS) (V7 : WS) (T5 : WS), IV S M K1 → G x 165 1897 (LW cI cW xx xn xt xk xe xo xp xv xq xc xs xw xr xu m S M T1 K1 qo T2 qa T3 qc T4 V0 V1 V2 V3 V4 V5 V6 V7 T5) 1230 [(3, .int (nI i)), (2, .ref (m 0)), (1, .ref (xx 0)), (0, .ref b)] [] := by
      intro S M T1 K1 qo T2 qa T3 qc T4 V0 V1 V2 V3 V4 V5 V6 V7 T5 hI
      refine G.iinc X dL_law_1230 0 rfl (v' := nI (i + 5)) (show nI i + nI 5 = nI (i + 5) from nI_add i 5) (by decide) (lv' := [(3, .int (nI (i + 5))), (2, .ref (m 0)), (1, .ref (xx 0)), (0, .ref b)]) rfl ?_
      refine G.go X dL_law_1233 ?_
      exact ih (i + 5) (by omega) (by omega) S M T1 K1 qo T2 qa T3 qc T4 V0 V1 V2 V3 V4 V5 V6 V7 T5 hI
    by_cases h0 : sc i &&& 63 = 0
    · exact G.tsi X dL_law_32 0 h0 (176) 208 (by decide) (law_0 X hX hL hi kend S M T1 K1 qo T2 qa T3 qc T4 V0 V1 V2 V3 V4 V5 V6 V7 T5 hI)
    by_cases h1 : sc i &&& 63 = 1
    · exact G.tsi X dL_law_32 1 h1 (199) 231 (by decide) (law_1 X hX hL hi kend S M T1 K1 qo T2 qa T3 qc T4 V0 V1 V2 V3 V4 V5 V6 V7 T5 hI)
    by_cases h2 : sc i &&& 63 = 2
    · exact G.tsi X dL_law_32 2 h2 (212) 244 (by decide) (law_2 X hX hL hi kend S M T1 K1 qo T2 qa T3 qc T4 V0 V1 V2 V3 V4 V5 V6 V7 T5 hI)
    by_cases h3 : sc i &&& 63 = 3
    · exact G.tsi X dL_law_32 3 h3 (245) 277 (by decide) (law_3 X hX hL hi kend S M T1 K1 qo T2 qa T3 qc T4 V0 V1 V2 V3 V4 V5 V6 V7 T5 hI)
    by_cases h4 : sc i &&& 63 = 4
    · exact G.tsi X dL_law_32 4 h4 (278) 310 (by decide) (law_4 X hX hL hi kend S M T1 K1 qo T2 qa T3 qc T4 V0 V1 V2 V3 V4 V5 V6 V7 T5 hI)
    by_cases h5 : sc i &&& 63 = 5
    · exact G.tsi X dL_law_32 5 h5 (301) 333 (by decide) (law_5 X hX hL hi kend S M T1 K1 qo T2 qa T3 qc T4 V0 V1 V2 V3 V4 V5 V6 V7 T5 hI)
    by_cases h6 : sc i &&& 63 = 6
    · exact G.tsi X dL_law_32 6 h6 (334) 366 (by decide) (law_6 X hX hL hi kend S M T1 K1 qo T2 qa T3 qc T4 V0 V1 V2 V3 V4 V5 V6 V7 T5 hI)
    by_cases h7 : sc i &&& 63 = 7
    · exact G.tsi X dL_law_32 7 h7 (367) 399 (by decide) (law_7 X hX hL hi kend S M T1 K1 qo T2 qa T3 qc T4 V0 V1 V2 V3 V4 V5 V6 V7 T5 hI)
    by_cases h8 : sc i &&& 63 = 8
    · exact G.tsi X dL_law_32 8 h8 (390) 422 (by decide) (law_8 X hX hL hi kend S M T1 K1 qo T2 qa T3 qc T4 V0 V1 V2 V3 V4 V5 V6 V7 T5 hI)
    by_cases h9 : sc i &&& 63 = 9
    · exact G.tsi X dL_law_32 9 h9 (433) 465 (by decide) (law_9 X hX hL hi kend S M T1 K1 qo T2 qa T3 qc T4 V0 V1 V2 V3 V4 V5 V6 V7 T5 hI)
    by_cases h10 : sc i &&& 63 = 10
    · exact G.tsi X dL_law_32 10 h10 (456) 488 (by decide) (law_10 X hX hL hi kend S M T1 K1 qo T2 qa T3 qc T4 V0 V1 V2 V3 V4 V5 V6 V7 T5 hI)
    by_cases h11 : sc i &&& 63 = 11
    · exact G.tsi X dL_law_32 11 h11 (479) 511 (by decide) (law_11 X hX hL hi kend S M T1 K1 qo T2 qa T3 qc T4 V0 V1 V2 V3 V4 V5 V6 V7 T5 hI)
    by_cases h12 : sc i &&& 63 = 12
    · exact G.tsi X dL_law_32 12 h12 (522) 554 (by decide) (law_12 X hX hL hi kend S M T1 K1 qo T2 qa T3 qc T4 V0 V1 V2 V3 V4 V5 V6 V7 T5 hI)
    by_cases h13 : sc i &&& 63 = 13
    · exact G.tsi X dL_law_32 13 h13 (555) 587 (by decide) (law_13 X hX hL hi kend S M T1 K1 qo T2 qa T3 qc T4 V0 V1 V2 V3 V4 V5 V6 V7 T5 hI)
    by_cases h14 : sc i &&& 63 = 14
    · exact G.tsi X dL_law_32 14 h14 (578) 610 (by decide) (law_14 X hX hL hi kend S M T1 K1 qo T2 qa T3 qc T4 V0 V1 V2 V3 V4 V5 V6 V7 T5 hI)
    by_cases h15 : sc i &&& 63 = 15
    · exact G.tsi X dL_law_32 15 h15 (601) 633 (by decide) (law_15 X hX hL hi kend S M T1 K1 qo T2 qa T3 qc T4 V0 V1 V2 V3 V4 V5 V6 V7 T5 hI)
    by_cases h16 : sc i &&& 63 = 16
    · exact G.tsi X dL_law_32 16 h16 (634) 666 (by decide) (law_16 X hX hL hi kend S M T1 K1 qo T2 qa T3 qc T4 V0 V1 V2 V3 V4 V5 V6 V7 T5 hI)
    by_cases h17 : sc i &&& 63 = 17
    · exact G.tsi X dL_law_32 17 h17 (647) 679 (by decide) (law_17 X hX hL hi kend S M T1 K1 qo T2 qa T3 qc T4 V0 V1 V2 V3 V4 V5 V6 V7 T5 hI)
    by_cases h18 : sc i &&& 63 = 18
    · exact G.tsi X dL_law_32 18 h18 (660) 692 (by decide) (law_18 X hX hL hi kend S M T1 K1 qo T2 qa T3 qc T4 V0 V1 V2 V3 V4 V5 V6 V7 T5 hI)
    by_cases h19 : sc i &&& 63 = 19
    · exact G.tsi X dL_law_32 19 h19 (683) 715 (by decide) (law_19 X hX hL hi kend S M T1 K1 qo T2 qa T3 qc T4 V0 V1 V2 V3 V4 V5 V6 V7 T5 hI)
    by_cases h20 : sc i &&& 63 = 20
    · exact G.tsi X dL_law_32 20 h20 (706) 738 (by decide) (law_20 X hX hL hi kend S M T1 K1 qo T2 qa T3 qc T4 V0 V1 V2 V3 V4 V5 V6 V7 T5 hI)
    by_cases h21 : sc i &&& 63 = 21
    · exact G.tsi X dL_law_32 21 h21 (729) 761 (by decide) (law_21 X hX hL hi kend S M T1 K1 qo T2 qa T3 qc T4 V0 V1 V2 V3 V4 V5 V6 V7 T5 hI)
    by_cases h22 : sc i &&& 63 = 22
    · exact G.tsi X dL_law_32 22 h22 (752) 784 (by decide) (law_22 X hX hL hi kend S M T1 K1 qo T2 qa T3 qc T4 V0 V1 V2 V3 V4 V5 V6 V7 T5 hI)
    by_cases h23 : sc i &&& 63 = 23
    · exact G.tsi X dL_law_32 23 h23 (805) 837 (by decide) (law_23 X hX hL hi kend S M T1 K1 qo T2 qa T3 qc T4 V0 V1 V2 V3 V4 V5 V6 V7 T5 hI)
    by_cases h24 : sc i &&& 63 = 24
    · exact G.tsi X dL_law_32 24 h24 (828) 860 (by decide) (law_24 X hX hL hi kend S M T1 K1 qo T2 qa T3 qc T4 V0 V1 V2 V3 V4 V5 V6 V7 T5 hI)
    by_cases h25 : sc i &&& 63 = 25
    · exact G.tsi X dL_law_32 25 h25 (841) 873 (by decide) (law_25 X hX hL hi kend S M T1 K1 qo T2 qa T3 qc T4 V0 V1 V2 V3 V4 V5 V6 V7 T5 hI)
    by_cases h26 : sc i &&& 63 = 26
    · exact G.tsi X dL_law_32 26 h26 (854) 886 (by decide) (law_26 X hX hL hi kend S M T1 K1 qo T2 qa T3 qc T4 V0 V1 V2 V3 V4 V5 V6 V7 T5 hI)
    by_cases h27 : sc i &&& 63 = 27
    · exact G.tsi X dL_law_32 27 h27 (877) 909 (by decide) (law_27 X hX hL hi kend S M T1 K1 qo T2 qa T3 qc T4 V0 V1 V2 V3 V4 V5 V6 V7 T5 hI)
    by_cases h28 : sc i &&& 63 = 28
    · exact G.tsi X dL_law_32 28 h28 (900) 932 (by decide) (law_28 X hX hL hi kend S M T1 K1 qo T2 qa T3 qc T4 V0 V1 V2 V3 V4 V5 V6 V7 T5 hI)
    by_cases h29 : sc i &&& 63 = 29
    · exact G.tsi X dL_law_32 29 h29 (913) 945 (by decide) (law_29 X hX hL hi kend S M T1 K1 qo T2 qa T3 qc T4 V0 V1 V2 V3 V4 V5 V6 V7 T5 hI)
    by_cases h30 : sc i &&& 63 = 30
    · exact G.tsi X dL_law_32 30 h30 (956) 988 (by decide) (law_30 X hX hL hi kend S M T1 K1 qo T2 qa T3 qc T4 V0 V1 V2 V3 V4 V5 V6 V7 T5 hI)
    by_cases h31 : sc i &&& 63 = 31
    · exact G.tsi X dL_law_32 31 h31 (1000) 1032 (by decide) (law_31 X hX hL hi kend S M T1 K1 qo T2 qa T3 qc T4 V0 V1 V2 V3 V4 V5 V6 V7 T5 hI)
    by_cases h32 : sc i &&& 63 = 32
    · exact G.tsi X dL_law_32 32 h32 (1024) 1056 (by decide) (law_32 X hX hL hi kend S M T1 K1 qo T2 qa T3 qc T4 V0 V1 V2 V3 V4 V5 V6 V7 T5 hI)
    by_cases h33 : sc i &&& 63 = 33
    · exact G.tsi X dL_law_32 33 h33 (1057) 1089 (by decide) (law_33 X hX hL hi kend S M T1 K1 qo T2 qa T3 qc T4 V0 V1 V2 V3 V4 V5 V6 V7 T5 hI)
    by_cases h34 : sc i &&& 63 = 34
    · exact G.tsi X dL_law_32 34 h34 (1080) 1112 (by decide) (law_34 X hX hL hi kend S M T1 K1 qo T2 qa T3 qc T4 V0 V1 V2 V3 V4 V5 V6 V7 T5 hI)
    by_cases h35 : sc i &&& 63 = 35
    · exact G.tsi X dL_law_32 35 h35 (1093) 1125 (by decide) (law_35 X hX hL hi kend S M T1 K1 qo T2 qa T3 qc T4 V0 V1 V2 V3 V4 V5 V6 V7 T5 hI)
    by_cases h36 : sc i &&& 63 = 36
    · exact G.tsi X dL_law_32 36 h36 (1106) 1138 (by decide) (law_36 X hX hL hi kend S M T1 K1 qo T2 qa T3 qc T4 V0 V1 V2 V3 V4 V5 V6 V7 T5 hI)
    by_cases h37 : sc i &&& 63 = 37
    · exact G.tsi X dL_law_32 37 h37 (1149) 1181 (by decide) (law_37 X hX hL hi kend S M T1 K1 qo T2 qa T3 qc T4 V0 V1 V2 V3 V4 V5 V6 V7 T5 hI)
    by_cases h38 : sc i &&& 63 = 38
    · exact G.tsi X dL_law_32 38 h38 (1162) 1194 (by decide) (law_38 X hX hL hi kend S M T1 K1 qo T2 qa T3 qc T4 V0 V1 V2 V3 V4 V5 V6 V7 T5 hI)
    by_cases h39 : sc i &&& 63 = 39
    · exact G.tsi X dL_law_32 39 h39 (1175) 1207 (by decide) (law_39 X hX hL hi kend S M T1 K1 qo T2 qa T3 qc T4 V0 V1 V2 V3 V4 V5 V6 V7 T5 hI)
    exact G.tsd X dL_law_32 [0, 1, 2, 3, 4, 5, 6, 7, 8, 9, 10, 11, 12, 13, 14, 15, 16, 17, 18, 19, 20, 21, 22, 23, 24, 25, 26, 27, 28, 29, 30, 31, 32, 33, 34, 35, 36, 37, 38, 39] (List.forall_mem_cons.mpr ⟨h0, List.forall_mem_cons.mpr ⟨h1, List.forall_mem_cons.mpr ⟨h2, List.forall_mem_cons.mpr ⟨h3, List.forall_mem_cons.mpr ⟨h4, List.forall_mem_cons.mpr ⟨h5, List.forall_mem_cons.mpr ⟨h6, List.forall_mem_cons.mpr ⟨h7, List.forall_mem_cons.mpr ⟨h8, List.forall_mem_cons.mpr ⟨h9, List.forall_mem_cons.mpr ⟨h10, List.forall_mem_cons.mpr ⟨h11, List.forall_mem_cons.mpr ⟨h12, List.forall_mem_cons.mpr ⟨h13, List.forall_mem_cons.mpr ⟨h14, List.forall_mem_cons.mpr ⟨h15, List.forall_mem_cons.mpr ⟨h16, List.forall_mem_cons.mpr ⟨h17, List.forall_mem_cons.mpr ⟨h18, List.forall_mem_cons.mpr ⟨h19, List.forall_mem_cons.mpr ⟨h20, List.forall_mem_cons.mpr ⟨h21, List.forall_mem_cons.mpr ⟨h22, List.forall_mem_cons.mpr ⟨h23, List.forall_mem_cons.mpr ⟨h24, List.forall_mem_cons.mpr ⟨h25, List.forall_mem_cons.mpr ⟨h26, List.forall_mem_cons.mpr ⟨h27, List.forall_mem_cons.mpr ⟨h28, List.forall_mem_cons.mpr ⟨h29, List.forall_mem_cons.mpr ⟨h30, List.forall_mem_cons.mpr ⟨h31, List.forall_mem_cons.mpr ⟨h32, List.forall_mem_cons.mpr ⟨h33, List.forall_mem_cons.mpr ⟨h34, List.forall_mem_cons.mpr ⟨h35, List.forall_mem_cons.mpr ⟨h36, List.forall_mem_cons.mpr ⟨h37, List.forall_mem_cons.mpr ⟨h38, List.forall_mem_cons.mpr ⟨h39, fun _ h9 => absurd h9 List.not_mem_nil⟩⟩⟩⟩⟩⟩⟩⟩⟩⟩⟩⟩⟩⟩⟩⟩⟩⟩⟩⟩⟩⟩⟩⟩⟩⟩⟩⟩⟩⟩⟩⟩⟩⟩⟩⟩⟩⟩⟩⟩) 1230 (by decide) (kend S M T1 K1 qo T2 qa T3 qc T4 V0 V1 V2 V3 V4 V5 V6 V7 T5 hI)
theorem iv_z : IV wz mz wz := ⟨⟨by decide, by decide, fun i h => absurd h (Nat.not_lt_zero i), fun i h => absurd h (Nat.not_lt_zero i), fun i h => absurd h (Nat.not_lt_zero i), fun i h => absurd h (Nat.not_lt_zero i), fun i h => absurd h (Nat.not_lt_zero i), fun i h => absurd h (Nat.not_lt_zero i)⟩, rfl, by decide, by decide, fun h => by cases h⟩
set_option maxHeartbeats 2000000 in
set_option maxRecDepth 20000 in
theorem law_key {l : Launch} {D : va_G} {cI cW : ClassId} {x : GC} (X : GOK x l D cI cW RL cL_law 4 room_1) (AX : AOX x) {b L : Nat} {sc : Nat → Int32} (hX : GX x b L sc) (hL : L ≤ 2560) (kex : ∀ (ws : List va_W) (lv : List (Nat × Value)), G x 165 1897 ws 1236 lv []) : G x 0 0 [] 0 [(0, .ref b)] [] := by
  refine G.new X nL_7 iX6 zX6 uw6 (ci := 6) rfl tyX6 tyX6_ok (fs := [.null, .null, .null, .int 0, .null, .null, .null, .null, .null, .null]) (fun j hj => by rcases (show j = 0 ∨ j = 1 ∨ j = 2 ∨ j = 3 ∨ j = 4 ∨ j = 5 ∨ j = 6 ∨ j = 7 ∨ j = 8 ∨ j = 9 by omega) with rfl | rfl | rfl | rfl | rfl | rfl | rfl | rfl | rfl | rfl <;> rfl) dL_law_0 (Nat.le_of_ble_eq_true rfl) (Nat.le_of_ble_eq_true rfl) (fun q0 => ?_)
  refine G.cg (ws' := [[(q0, .inr (6, [.null, .null, .null, .int 0, .null, .null, .null, .null, .null, .null]))]]) rfl rfl rfl ?_
  refine G.dupr X dL_law_3 ?_
  refine G.cii X AX kX6_init lL_9 dL_law_4 (tX6_init l D cI cW q0) ⟨Nat.le_of_ble_eq_true rfl, Nat.le_of_ble_eq_true rfl⟩ ⟨Nat.le_of_ble_eq_true rfl, Nat.le_of_ble_eq_true rfl⟩ [0] [] rfl (wr := []) rfl rfl rfl (by decide) (Nat.le_of_ble_eq_true rfl) rfl rfl (fun w9 h9 => ?_)
  obtain ⟨xx, xn, xt, xk, xe, xo, xp, xv, xq, xc, xs, xw, xr, xu, rfl, rfl⟩ := h9
  refine G.cg (ws' := [xl xx xn xt xk xe xo xv xc xr cI (false, z0), wl xn cI wz, wl xt cI wz, wl xk cI wz, tl xe cI (z0, 0), ol xo xp cI z0, wl xp cI wz, al xv xq cI (z0, z0), wl xq cI wz, cl xc xs xw cW (0, 0, 0), wl xs cI wz, wl (xw 0) cI wz, wl (xw 1) cI wz, wl (xw 2) cI wz, wl (xw 3) cI wz, wl (xw 4) cI wz, wl (xw 5) cI wz, wl (xw 6) cI wz, wl (xw 7) cI wz, rl xr xu cI (z0, 0), wl xu cI wz]) rfl rfl rfl ?_
  refine G.as X dL_law_7 (by decide) (lv' := [(1, .ref (xx 0)), (0, .ref b)]) rfl ?_
  refine G.new X nL_10 iX7 zX7 uw7 (ci := 7) rfl tyX7 tyX7_ok (fs := [.null, .null, .null, .null, .null, .null, .null, .null, .null, .int 0, .int 0, .int 0, .int 0, .int 0, .null, .null, .null, .null, .int 0, .int 0, .int 0, .null, .int 0, .int 0, .int 0, .int 0, .null, .null, .int 0]) (fun j hj => by rcases (show j = 0 ∨ j = 1 ∨ j = 2 ∨ j = 3 ∨ j = 4 ∨ j = 5 ∨ j = 6 ∨ j = 7 ∨ j = 8 ∨ j = 9 ∨ j = 10 ∨ j = 11 ∨ j = 12 ∨ j = 13 ∨ j = 14 ∨ j = 15 ∨ j = 16 ∨ j = 17 ∨ j = 18 ∨ j = 19 ∨ j = 20 ∨ j = 21 ∨ j = 22 ∨ j = 23 ∨ j = 24 ∨ j = 25 ∨ j = 26 ∨ j = 27 ∨ j = 28 by omega) with rfl | rfl | rfl | rfl | rfl | rfl | rfl | rfl | rfl | rfl | rfl | rfl | rfl | rfl | rfl | rfl | rfl | rfl | rfl | rfl | rfl | rfl | rfl | rfl | rfl | rfl | rfl | rfl | rfl <;> rfl) dL_law_8 (Nat.le_of_ble_eq_true rfl) (Nat.le_of_ble_eq_true rfl) (fun q8 => ?_)
  refine G.cg (ws' := [xl xx xn xt xk xe xo xv xc xr cI (false, z0), wl xn cI wz, wl xt cI wz, wl xk cI wz, tl xe cI (z0, 0), ol xo xp cI z0, wl xp cI wz, al xv xq cI (z0, z0), wl xq cI wz, cl xc xs xw cW (0, 0, 0), wl xs cI wz, wl (xw 0) cI wz, wl (xw 1) cI wz, wl (xw 2) cI wz, wl (xw 3) cI wz, wl (xw 4) cI wz, wl (xw 5) cI wz, wl (xw 6) cI wz, wl (xw 7) cI wz, rl xr xu cI (z0, 0), wl xu cI wz, [(q8, .inr (7, [.null, .null, .null, .null, .null, .null, .null, .null, .null, .int 0, .int 0, .int 0, .int 0, .int 0, .null, .null, .null, .null, .int 0, .int 0, .int 0, .null, .int 0, .int 0, .int 0, .int 0, .null, .null, .int 0]))]]) rfl rfl rfl ?_
  refine G.dupr X dL_law_11 ?_
  refine G.cii X AX kX7_init lL_12 dL_law_12 (tX7_init l D cI cW q8) ⟨Nat.le_of_ble_eq_true rfl, Nat.le_of_ble_eq_true rfl⟩ ⟨Nat.le_of_ble_eq_true rfl, Nat.le_of_ble_eq_true rfl⟩ [21] [0, 1, 2, 3, 4, 5, 6, 7, 8, 9, 10, 11, 12, 13, 14, 15, 16, 17, 18, 19, 20] rfl (wr := [xl xx xn xt xk xe xo xv xc xr cI (false, z0), wl xn cI wz, wl xt cI wz, wl xk cI wz, tl xe cI (z0, 0), ol xo xp cI z0, wl xp cI wz, al xv xq cI (z0, z0), wl xq cI wz, cl xc xs xw cW (0, 0, 0), wl xs cI wz, wl (xw 0) cI wz, wl (xw 1) cI wz, wl (xw 2) cI wz, wl (xw 3) cI wz, wl (xw 4) cI wz, wl (xw 5) cI wz, wl (xw 6) cI wz, wl (xw 7) cI wz, rl xr xu cI (z0, 0), wl xu cI wz]) rfl rfl rfl (by decide) (Nat.le_of_ble_eq_true rfl) rfl rfl (fun w9 h9 => ?_)
  obtain ⟨m, rfl, rfl⟩ := h9
  refine G.sub [1, 2, 3, 4, 5, 6, 7, 8, 9, 10, 11, 12, 13, 14, 15, 16, 17, 18, 19, 20, 21, 0] rfl (ws' := [xl xx xn xt xk xe xo xv xc xr cI (false, z0), wl xn cI wz, wl xt cI wz, wl xk cI wz, tl xe cI (z0, 0), ol xo xp cI z0, wl xp cI wz, al xv xq cI (z0, z0), wl xq cI wz, cl xc xs xw cW (0, 0, 0), wl xs cI wz, wl (xw 0) cI wz, wl (xw 1) cI wz, wl (xw 2) cI wz, wl (xw 3) cI wz, wl (xw 4) cI wz, wl (xw 5) cI wz, wl (xw 6) cI wz, wl (xw 7) cI wz, rl xr xu cI (z0, 0), wl xu cI wz, ml m cI wz mz]) rfl ?_
  refine G.as X dL_law_15 (by decide) (lv' := [(2, .ref (m 0)), (1, .ref (xx 0)), (0, .ref b)]) rfl ?_
  refine G.pu X dL_law_16 ?_
  refine G.is X dL_law_17 (by decide) (lv' := [(3, .int 0), (2, .ref (m 0)), (1, .ref (xx 0)), (0, .ref b)]) rfl ?_
  exact law_loop (xx := xx) (xn := xn) (xt := xt) (xk := xk) (xe := xe) (xo := xo) (xp := xp) (xv := xv) (xq := xq) (xc := xc) (xs := xs) (xw := xw) (xr := xr) (xu := xu) (m := m) X hX hL (fun i S M T1 K1 qo T2 qa T3 qc T4 V0 V1 V2 V3 V4 V5 V6 V7 T5 => kex _ _) L 0 (Nat.zero_le _) (by omega) wz mz wz wz z0 wz (z0, z0) wz (0, 0, 0) wz wz wz wz wz wz wz wz wz wz iv_z