set_option maxRecDepth 20000 in
theorem tX2_take (l : Launch) (D : va_G) (cI cW : ClassId) (o : Nat → Nat) (q : FN × Nat) (v : Int32) (hq : q_n q < 96) : CT l D cI cW yX2_take cX2_take 2 (some .boolean) ⟨0, 0, 0, 0⟩ [.ref (o 0), .int v] ([tl o cI q]) (PI (b2i (true)) ([tl o cI (upd (q_f q) (q_n q) v, q_n q + 1)])) := by
  refine CT.of RX2 rfl (by decide +kernel) (Nat.le_of_ble_eq_true rfl) [(0, .ref (o 0)), (1, .int v)] rfl (fun x X Rr hnm => ?_)
  refine G.al X dX2_take_0 0 rfl ?_
  refine G.get X fX2_15 dX2_take_1 0 0 rfl rfl rfl ?_
  refine G.pu X dX2_take_4 ?_
  refine G.n_lt X (a := q_n q) (b := 96) (by omega) (by omega) dX2_take_6 (fun h6 => ?_) (fun h6 => absurd h6 (by omega))
  refine G.al X dX2_take_11 0 rfl ?_
  refine G.get X fX2_9 dX2_take_12 0 0 rfl rfl rfl ?_
  refine G.al X dX2_take_15 0 rfl ?_
  refine G.get X fX2_15 dX2_take_16 0 0 rfl rfl rfl ?_
  refine G.il X dX2_take_19 1 rfl ?_
  refine G.nst X (i := q_n q) dX2_take_20 0 1 rfl rfl (by omega) (by decide) (blk' := tl o cI (upd (q_f q) (q_n q) v, q_n q)) rfl (ws' := [tl o cI (upd (q_f q) (q_n q) v, q_n q)]) rfl ?_
  refine G.al X dX2_take_21 0 rfl ?_
  refine G.dupr X dX2_take_22 ?_
  refine G.get X fX2_15 dX2_take_23 0 0 rfl rfl rfl ?_
  refine G.pu X dX2_take_26 ?_
  refine G.nadd X (a := q_n q) (b := 1) dX2_take_27 ?_
  refine G.puti X fX2_15 fe2 dX2_take_28 rfl rfl 0 0 rfl rfl (Nat.le_of_ble_eq_true rfl) (blk' := tl o cI (upd (q_f q) (q_n q) v, (q_n q) + 1)) rfl (ws' := [tl o cI (upd (q_f q) (q_n q) v, (q_n q) + 1)]) rfl ?_
  refine G.pu X dX2_take_31 ?_
  exact G.zret X Rr (v := 1) (Or.inr rfl) dX2_take_32 (pi_mk (by rfl) (by rfl))

set_option maxRecDepth 20000 in
theorem tX2_take_bad (l : Launch) (D : va_G) (cI cW : ClassId) (o : Nat → Nat) (q : FN × Nat) (v : Int32) (hq : q_n q = 96) : CT l D cI cW yX2_take cX2_take 2 (some .boolean) ⟨0, 0, 0, 0⟩ [.ref (o 0), .int v] ([tl o cI q]) (PI (b2i (false)) ([tl o cI q])) := by
  refine CT.of RX2 rfl (by decide +kernel) (Nat.le_of_ble_eq_true rfl) [(0, .ref (o 0)), (1, .int v)] rfl (fun x X Rr hnm => ?_)
  refine G.al X dX2_take_0 0 rfl ?_
  refine G.get X fX2_15 dX2_take_1 0 0 rfl rfl rfl ?_
  refine G.pu X dX2_take_4 ?_
  refine G.n_lt X (a := q_n q) (b := 96) (by omega) (by omega) dX2_take_6 (fun h6 => absurd h6 (by omega)) (fun h6 => ?_)
  refine G.pu X dX2_take_9 ?_
  exact G.zret X Rr (v := 0) (Or.inl rfl) dX2_take_10 (pi_mk (by rfl) (by rfl))

set_option maxRecDepth 20000 in
theorem tX2_sign (l : Launch) (D : va_G) (cI cW : ClassId) (o : Nat → Nat) (q : FN × Nat) (k : Nat) (hk : k < 2 ^ 30) (hq : q_n q ≤ 96) : CT l D cI cW yX2_sign cX2_sign 2 (some .int) ⟨0, 0, 0, 0⟩ [.ref (o 0), .int (nI k)] ([tl o cI q]) (PI (l_sg q k) ([tl o cI q])) := by
  refine CT.of RX2 rfl (by decide +kernel) (Nat.le_of_ble_eq_true rfl) [(0, .ref (o 0)), (1, .int (nI k))] rfl (fun x X Rr hnm => ?_)
  refine G.il X dX2_sign_0 1 rfl ?_
  refine G.z_lt X (a := nI k) dX2_sign_1 (fun h1 => absurd h1 (nI_pos (by omega))) (fun h1 => ?_)
  refine G.il X dX2_sign_4 1 rfl ?_
  refine G.al X dX2_sign_5 0 rfl ?_
  refine G.get X fX2_15 dX2_sign_6 0 0 rfl rfl rfl ?_
  refine G.n_ge X (a := k) (b := q_n q) (by omega) (by omega) dX2_sign_9 (fun h9 => ?_) (fun h9 => ?_)
  · refine G.pu X dX2_sign_21 ?_
    exact G.iret X Rr (v := 48) dX2_sign_23 (pi_mk (by simp [l_sg, h1, h9]) (by rfl))
  · refine G.al X dX2_sign_12 0 rfl ?_
    refine G.get X fX2_9 dX2_sign_13 0 0 rfl rfl rfl ?_
    refine G.il X dX2_sign_16 1 rfl ?_
    refine G.nld X (i := k) dX2_sign_17 0 1 rfl rfl (by omega) (by decide) ?_
    refine G.go X dX2_sign_18 ?_
    exact G.iret X Rr (v := ((q_f q) k)) dX2_sign_23 (pi_mk (by simp [l_sg, h1, h9]) (by rfl))

set_option maxRecDepth 20000 in
theorem tX2_digit (l : Launch) (D : va_G) (cI cW : ClassId) (o : Nat → Nat) (q : FN × Nat) (k : Nat) (hk : k < 2 ^ 30) (hq : q_n q ≤ 96) : CT l D cI cW yX2_digit cX2_digit 2 (some .int) ⟨1, 0, 0, 21⟩ [.ref (o 0), .int (nI k)] ([tl o cI q]) (PI (l_dg q k) ([tl o cI q])) := by
  refine CT.of RX2 rfl (by decide +kernel) (Nat.le_of_ble_eq_true rfl) [(0, .ref (o 0)), (1, .int (nI k))] rfl (fun x X Rr hnm => ?_)
  refine G.al X dX2_digit_0 0 rfl ?_
  refine G.il X dX2_digit_1 1 rfl ?_
  refine G.cvi X kX2_sign lX2_41 dX2_digit_2 (tX2_sign l D cI cW o q k (by omega) (by omega)) ⟨Nat.le_of_ble_eq_true rfl, Nat.le_of_ble_eq_true rfl⟩ ⟨Nat.zero_le _, Nat.zero_le _⟩ [0] rfl ⟨rfl, rfl⟩ rfl rfl 0 0 rfl rfl rfl rfl (Nat.le_of_ble_eq_true rfl) (ff_cons (tl_fst _ _ _ _) (ff_nil)) (ws' := [tl o cI q]) rfl ?_
  refine G.pu X dX2_digit_5 ?_
  refine G.isub X dX2_digit_7 ?_
  exact G.iret X Rr (v := ((l_sg q k) - 48)) dX2_digit_8 (pi_mk (by rfl) (by rfl))

set_option maxRecDepth 20000 in
theorem tX2_twoDigits (l : Launch) (D : va_G) (cI cW : ClassId) (o : Nat → Nat) (q : FN × Nat) (k : Nat) (hk : k < 2 ^ 29) (hq : q_n q ≤ 96) : CT l D cI cW yX2_twoDigits cX2_twoDigits 2 (some .int) ⟨2, 0, 0, 42⟩ [.ref (o 0), .int (nI k)] ([tl o cI q]) (PI (l_d2 q k) ([tl o cI q])) := by
  refine CT.of RX2 rfl (by decide +kernel) (Nat.le_of_ble_eq_true rfl) [(0, .ref (o 0)), (1, .int (nI k))] rfl (fun x X Rr hnm => ?_)
  refine G.pu X dX2_twoDigits_0 ?_
  refine G.al X dX2_twoDigits_2 0 rfl ?_
  refine G.il X dX2_twoDigits_3 1 rfl ?_
  refine G.cvi X kX2_digit lX2_44 dX2_twoDigits_4 (tX2_digit l D cI cW o q k (by omega) (by omega)) ⟨Nat.le_of_ble_eq_true rfl, Nat.le_of_ble_eq_true rfl⟩ ⟨Nat.zero_le _, Nat.zero_le _⟩ [0] rfl ⟨rfl, rfl⟩ rfl rfl 0 0 rfl rfl rfl rfl (Nat.le_of_ble_eq_true rfl) (ff_cons (tl_fst _ _ _ _) (ff_nil)) (ws' := [tl o cI q]) rfl ?_
  refine G.imul X dX2_twoDigits_7 ?_
  refine G.al X dX2_twoDigits_8 0 rfl ?_
  refine G.il X dX2_twoDigits_9 1 rfl ?_
  refine G.pu X dX2_twoDigits_10 ?_
  refine G.nadd X (a := k) (b := 1) dX2_twoDigits_11 ?_
  refine G.cvi X kX2_digit lX2_44 dX2_twoDigits_12 (tX2_digit l D cI cW o q (k + 1) (by omega) (by omega)) ⟨Nat.le_of_ble_eq_true rfl, Nat.le_of_ble_eq_true rfl⟩ ⟨Nat.zero_le _, Nat.zero_le _⟩ [0] rfl ⟨rfl, rfl⟩ rfl rfl 0 0 rfl rfl rfl rfl (Nat.le_of_ble_eq_true rfl) (ff_cons (tl_fst _ _ _ _) (ff_nil)) (ws' := [tl o cI q]) rfl ?_
  refine G.iadd X dX2_twoDigits_15 ?_
  exact G.iret X Rr (v := ((10 * (l_dg q k)) + (l_dg q (k + 1)))) dX2_twoDigits_16 (pi_mk (by rfl) (by rfl))

set_option maxRecDepth 20000 in
theorem tX2_signsBehind (l : Launch) (D : va_G) (cI cW : ClassId) (h : Int32) : CT l D cI cW yX2_signsBehind cX2_signsBehind 1 (some .int) ⟨0, 0, 0, 0⟩ [.int h] ([]) (PI (l_sb h) ([])) := by
  refine CT.of RX2 rfl (by decide +kernel) (Nat.le_of_ble_eq_true rfl) [(0, .int h)] rfl (fun x X Rr hnm => ?_)
  refine G.il X dX2_signsBehind_0 0 rfl ?_
  by_cases h1_97 : h = 97
  · refine G.tsi X dX2_signsBehind_1 97 h1_97 (101) 102 (by decide) ?_
    refine G.pu X dX2_signsBehind_102 ?_
    exact G.iret X Rr (v := 1) dX2_signsBehind_103 (pi_mk (by simp [l_sb, h1_97]) (by rfl))
  by_cases h1_100 : h = 100
  · refine G.tsi X dX2_signsBehind_1 100 h1_100 (99) 100 (by decide) ?_
    refine G.pu X dX2_signsBehind_100 ?_
    exact G.iret X Rr (v := 2) dX2_signsBehind_101 (pi_mk (by simp [l_sb, h1_100]) (by rfl))
  by_cases h1_107 : h = 107
  · refine G.tsi X dX2_signsBehind_1 107 h1_107 (99) 100 (by decide) ?_
    refine G.pu X dX2_signsBehind_100 ?_
    exact G.iret X Rr (v := 2) dX2_signsBehind_101 (pi_mk (by simp [l_sb, h1_107]) (by rfl))
  by_cases h1_111 : h = 111
  · refine G.tsi X dX2_signsBehind_1 111 h1_111 (101) 102 (by decide) ?_
    refine G.pu X dX2_signsBehind_102 ?_
    exact G.iret X Rr (v := 1) dX2_signsBehind_103 (pi_mk (by simp [l_sb, h1_111]) (by rfl))
  by_cases h1_112 : h = 112
  · refine G.tsi X dX2_signsBehind_1 112 h1_112 (95) 96 (by decide) ?_
    refine G.pu X dX2_signsBehind_96 ?_
    exact G.iret X Rr (v := 4) dX2_signsBehind_97 (pi_mk (by simp [l_sb, h1_112]) (by rfl))
  by_cases h1_116 : h = 116
  · refine G.tsi X dX2_signsBehind_1 116 h1_116 (97) 98 (by decide) ?_
    refine G.pu X dX2_signsBehind_98 ?_
    exact G.iret X Rr (v := 3) dX2_signsBehind_99 (pi_mk (by simp [l_sb, h1_116]) (by rfl))
  refine G.tsd X dX2_signsBehind_1 [97, 100, 107, 111, 112, 116] (List.forall_mem_cons.mpr ⟨h1_97, List.forall_mem_cons.mpr ⟨h1_100, List.forall_mem_cons.mpr ⟨h1_107, List.forall_mem_cons.mpr ⟨h1_111, List.forall_mem_cons.mpr ⟨h1_112, List.forall_mem_cons.mpr ⟨h1_116, fun _ h9 => absurd h9 List.not_mem_nil⟩⟩⟩⟩⟩⟩) 104 (by decide) ?_
  refine G.pu X dX2_signsBehind_104 ?_
  exact G.iret X Rr (v := 0) dX2_signsBehind_105 (pi_mk (by simp [l_sb, h1_97, h1_100, h1_107, h1_111, h1_112, h1_116]) (by rfl))

set_option maxRecDepth 20000 in
theorem tX2_kindToldBy (l : Launch) (D : va_G) (cI cW : ClassId) (c : Int32) : CT l D cI cW yX2_kindToldBy cX2_kindToldBy 1 (some .int) ⟨0, 0, 0, 0⟩ [.int c] ([]) (PI (l_kt c) ([])) := by
  refine CT.of RX2 rfl (by decide +kernel) (Nat.le_of_ble_eq_true rfl) [(0, .int c)] rfl (fun x X Rr hnm => ?_)
  refine G.il X dX2_kindToldBy_0 0 rfl ?_
  by_cases h1_98 : c = 98
  · refine G.tsi X dX2_kindToldBy_1 98 h1_98 (97) 98 (by decide) ?_
    refine G.pu X dX2_kindToldBy_98 ?_
    exact G.iret X Rr (v := 5) dX2_kindToldBy_99 (pi_mk (by simp [l_kt, h1_98]) (by rfl))
  by_cases h1_99 : c = 99
  · refine G.tsi X dX2_kindToldBy_1 99 h1_99 (91) 92 (by decide) ?_
    refine G.pu X dX2_kindToldBy_92 ?_
    exact G.iret X Rr (v := 2) dX2_kindToldBy_93 (pi_mk (by simp [l_kt, h1_99]) (by rfl))
  by_cases h1_104 : c = 104
  · refine G.tsi X dX2_kindToldBy_1 104 h1_104 (93) 94 (by decide) ?_
    refine G.pu X dX2_kindToldBy_94 ?_
    exact G.iret X Rr (v := 3) dX2_kindToldBy_95 (pi_mk (by simp [l_kt, h1_104]) (by rfl))
  by_cases h1_112 : c = 112
  · refine G.tsi X dX2_kindToldBy_1 112 h1_112 (95) 96 (by decide) ?_
    refine G.pu X dX2_kindToldBy_96 ?_
    exact G.iret X Rr (v := 4) dX2_kindToldBy_97 (pi_mk (by simp [l_kt, h1_112]) (by rfl))
  by_cases h1_114 : c = 114
  · refine G.tsi X dX2_kindToldBy_1 114 h1_114 (89) 90 (by decide) ?_
    refine G.pu X dX2_kindToldBy_90 ?_
    exact G.iret X Rr (v := 1) dX2_kindToldBy_91 (pi_mk (by simp [l_kt, h1_114]) (by rfl))
  by_cases h1_115 : c = 115
  · refine G.tsi X dX2_kindToldBy_1 115 h1_115 (87) 88 (by decide) ?_
    refine G.pu X dX2_kindToldBy_88 ?_
    exact G.iret X Rr (v := 0) dX2_kindToldBy_89 (pi_mk (by simp [l_kt, h1_115]) (by rfl))
  refine G.tsd X dX2_kindToldBy_1 [98, 99, 104, 112, 114, 115] (List.forall_mem_cons.mpr ⟨h1_98, List.forall_mem_cons.mpr ⟨h1_99, List.forall_mem_cons.mpr ⟨h1_104, List.forall_mem_cons.mpr ⟨h1_112, List.forall_mem_cons.mpr ⟨h1_114, List.forall_mem_cons.mpr ⟨h1_115, fun _ h9 => absurd h9 List.not_mem_nil⟩⟩⟩⟩⟩⟩) 100 (by decide) ?_
  refine G.pu X dX2_kindToldBy_100 ?_
  exact G.iret X Rr (v := (-9)) dX2_kindToldBy_102 (pi_mk (by simp [l_kt, h1_98, h1_99, h1_104, h1_112, h1_114, h1_115]) (by rfl))

set_option maxRecDepth 20000 in
theorem tX2_canStand (l : Launch) (D : va_G) (cI cW : ClassId) (c : Int32) (h : Int32) (i : Int32) : CT l D cI cW yX2_canStand cX2_canStand 3 (some .boolean) ⟨1, 0, 0, 20⟩ [.int c, .int h, .int i] ([]) (PI (b2i (l_can c h i)) ([])) := by
  refine CT.of RX2 rfl (by decide +kernel) (Nat.le_of_ble_eq_true rfl) [(0, .int c), (1, .int h), (2, .int i)] rfl (fun x X Rr hnm => ?_)
  refine G.il X dX2_canStand_0 2 rfl ?_
  refine G.z_ne X (a := i) dX2_canStand_1 (fun h1 => ?_) (fun h1 => ?_)
  · refine G.il X dX2_canStand_17 2 rfl ?_
    refine G.il X dX2_canStand_18 1 rfl ?_
    refine G.csti X kX2_signsBehind lX2_23 dX2_canStand_19 (tX2_signsBehind l D cI cW h) ⟨Nat.le_of_ble_eq_true rfl, Nat.le_of_ble_eq_true rfl⟩ ⟨Nat.zero_le _, Nat.zero_le _⟩ [] rfl ⟨rfl, rfl⟩ rfl rfl rfl (Nat.le_of_ble_eq_true rfl) (ff_nil) (ws' := []) rfl ?_
    refine G.c_le X (a := i) (b := (l_sb h)) dX2_canStand_22 (fun h22 => ?_) (fun h22 => ?_)
    · refine G.il X dX2_canStand_37 1 rfl ?_
      refine G.pu X dX2_canStand_38 ?_
      refine G.c_ne X (a := h) (b := 116) dX2_canStand_40 (fun h40 => ?_) (fun h40 => ?_)
      · refine G.il X dX2_canStand_56 0 rfl ?_
        refine G.pu X dX2_canStand_57 ?_
        refine G.c_lt X (a := c) (b := 48) dX2_canStand_59 (fun h59 => ?_) (fun h59 => ?_)
        · refine G.pu X dX2_canStand_72 ?_
          exact G.zret X Rr (v := 0) (Or.inl rfl) dX2_canStand_73 (pi_mk (by grind [l_can, b2i]) (by rfl))
        · refine G.il X dX2_canStand_62 0 rfl ?_
          refine G.pu X dX2_canStand_63 ?_
          refine G.c_gt X (a := c) (b := 57) dX2_canStand_65 (fun h65 => ?_) (fun h65 => ?_)
          · refine G.pu X dX2_canStand_72 ?_
            exact G.zret X Rr (v := 0) (Or.inl rfl) dX2_canStand_73 (pi_mk (by grind [l_can, b2i]) (by rfl))
          · refine G.pu X dX2_canStand_68 ?_
            refine G.go X dX2_canStand_69 ?_
            exact G.zret X Rr (v := 1) (Or.inr rfl) dX2_canStand_73 (pi_mk (by grind [l_can, b2i]) (by rfl))
      · refine G.il X dX2_canStand_43 2 rfl ?_
        refine G.pu X dX2_canStand_44 ?_
        refine G.c_ne X (a := i) (b := 1) dX2_canStand_45 (fun h45 => ?_) (fun h45 => ?_)
        · refine G.il X dX2_canStand_56 0 rfl ?_
          refine G.pu X dX2_canStand_57 ?_
          refine G.c_lt X (a := c) (b := 48) dX2_canStand_59 (fun h59 => ?_) (fun h59 => ?_)
          · refine G.pu X dX2_canStand_72 ?_
            exact G.zret X Rr (v := 0) (Or.inl rfl) dX2_canStand_73 (pi_mk (by grind [l_can, b2i]) (by rfl))
          · refine G.il X dX2_canStand_62 0 rfl ?_
            refine G.pu X dX2_canStand_63 ?_
            refine G.c_gt X (a := c) (b := 57) dX2_canStand_65 (fun h65 => ?_) (fun h65 => ?_)
            · refine G.pu X dX2_canStand_72 ?_
              exact G.zret X Rr (v := 0) (Or.inl rfl) dX2_canStand_73 (pi_mk (by grind [l_can, b2i]) (by rfl))
            · refine G.pu X dX2_canStand_68 ?_
              refine G.go X dX2_canStand_69 ?_
              exact G.zret X Rr (v := 1) (Or.inr rfl) dX2_canStand_73 (pi_mk (by grind [l_can, b2i]) (by rfl))
        · refine G.il X dX2_canStand_48 0 rfl ?_
          refine G.csti X kX2_kindToldBy lX2_27 dX2_canStand_49 (tX2_kindToldBy l D cI cW c) ⟨Nat.le_of_ble_eq_true rfl, Nat.le_of_ble_eq_true rfl⟩ ⟨Nat.zero_le _, Nat.zero_le _⟩ [] rfl ⟨rfl, rfl⟩ rfl rfl rfl (Nat.le_of_ble_eq_true rfl) (ff_nil) (ws' := []) rfl ?_
          refine G.csni X kX6_isKind (fun U h => h.2.2.2.2.2.2.2.2.2.1) dX2_canStand_52 (tX6_isKind l D cI cW (l_kt c)) ⟨Nat.le_of_ble_eq_true rfl, Nat.le_of_ble_eq_true rfl⟩ ⟨Nat.zero_le _, Nat.zero_le _⟩ [] rfl ⟨rfl, rfl⟩ rfl rfl rfl (Nat.le_of_ble_eq_true rfl) (ff_nil) (ws' := []) rfl ?_
          exact G.bret X Rr dX2_canStand_55 (pi_mk (by grind [l_can, b2i]) (by rfl))
    · refine G.il X dX2_canStand_25 0 rfl ?_
      refine G.pu X dX2_canStand_26 ?_
      refine G.c_ne X (a := c) (b := 59) dX2_canStand_28 (fun h28 => ?_) (fun h28 => ?_)
      · refine G.pu X dX2_canStand_35 ?_
        exact G.zret X Rr (v := 0) (Or.inl rfl) dX2_canStand_36 (pi_mk (by grind [l_can, b2i]) (by rfl))
      · refine G.pu X dX2_canStand_31 ?_
        refine G.go X dX2_canStand_32 ?_
        exact G.zret X Rr (v := 1) (Or.inr rfl) dX2_canStand_36 (pi_mk (by grind [l_can, b2i]) (by rfl))
  · refine G.il X dX2_canStand_4 1 rfl ?_
    refine G.csti X kX2_signsBehind lX2_23 dX2_canStand_5 (tX2_signsBehind l D cI cW h) ⟨Nat.le_of_ble_eq_true rfl, Nat.le_of_ble_eq_true rfl⟩ ⟨Nat.zero_le _, Nat.zero_le _⟩ [] rfl ⟨rfl, rfl⟩ rfl rfl rfl (Nat.le_of_ble_eq_true rfl) (ff_nil) (ws' := []) rfl ?_
    refine G.z_le X (a := (l_sb h)) dX2_canStand_8 (fun h8 => ?_) (fun h8 => ?_)
    · refine G.pu X dX2_canStand_15 ?_
      exact G.zret X Rr (v := 0) (Or.inl rfl) dX2_canStand_16 (pi_mk (by grind [l_can, b2i]) (by rfl))
    · refine G.pu X dX2_canStand_11 ?_
      refine G.go X dX2_canStand_12 ?_
      exact G.zret X Rr (v := 1) (Or.inr rfl) dX2_canStand_16 (pi_mk (by grind [l_can, b2i]) (by rfl))

set_option maxRecDepth 20000 in
theorem tX2_beginsAt (l : Launch) (D : va_G) (cI cW : ClassId) (o : Nat → Nat) (q : FN × Nat) (k : Nat) (hk : k < 2 ^ 30) (hq : q_n q ≤ 96) : CT l D cI cW yX2_beginsAt cX2_beginsAt 2 (some .boolean) ⟨1, 0, 0, 21⟩ [.ref (o 0), .int (nI k)] ([tl o cI q]) (PI (b2i (l_beg q k)) ([tl o cI q])) := by
  refine CT.of RX2 rfl (by decide +kernel) (Nat.le_of_ble_eq_true rfl) [(0, .ref (o 0)), (1, .int (nI k))] rfl (fun x X Rr hnm => ?_)
  refine G.il X dX2_beginsAt_0 1 rfl ?_
  refine G.nz_eq X (a := k) (by omega) dX2_beginsAt_1 (fun h1 => ?_) (fun h1 => ?_)
  · refine G.pu X dX2_beginsAt_16 ?_
    refine G.go X dX2_beginsAt_17 ?_
    exact G.zret X Rr (v := 1) (Or.inr rfl) dX2_beginsAt_21 (pi_mk (by simp [l_beg, b2i, h1]) (by rfl))
  · refine G.al X dX2_beginsAt_4 0 rfl ?_
    refine G.il X dX2_beginsAt_5 1 rfl ?_
    refine G.pu X dX2_beginsAt_6 ?_
    refine G.nsub1 X (a := k) dX2_beginsAt_7 (by omega) ?_
    refine G.cvi X kX2_sign lX2_41 dX2_beginsAt_8 (tX2_sign l D cI cW o q (k - 1) (by omega) (by omega)) ⟨Nat.le_of_ble_eq_true rfl, Nat.le_of_ble_eq_true rfl⟩ ⟨Nat.zero_le _, Nat.zero_le _⟩ [0] rfl ⟨rfl, rfl⟩ rfl rfl 0 0 rfl rfl rfl rfl (Nat.le_of_ble_eq_true rfl) (ff_cons (tl_fst _ _ _ _) (ff_nil)) (ws' := [tl o cI q]) rfl ?_
    refine G.pu X dX2_beginsAt_11 ?_
    refine G.c_ne X (a := (l_sg q (k - 1))) (b := 59) dX2_beginsAt_13 (fun h13 => ?_) (fun h13 => ?_)
    · refine G.pu X dX2_beginsAt_20 ?_
      exact G.zret X Rr (v := 0) (Or.inl rfl) dX2_beginsAt_21 (pi_mk (by simp [l_beg, b2i, h1, h13]) (by rfl))
    · refine G.pu X dX2_beginsAt_16 ?_
      refine G.go X dX2_beginsAt_17 ?_
      exact G.zret X Rr (v := 1) (Or.inr rfl) dX2_beginsAt_21 (pi_mk (by simp [l_beg, b2i, h1, h13]) (by rfl))

set_option maxRecDepth 20000 in
theorem tX2_wrongLetter (l : Launch) (D : va_G) (cI cW : ClassId) (o : Nat → Nat) (q : FN × Nat) (hq : q_n q ≤ 96) : CT l D cI cW yX2_wrongLetter cX2_wrongLetter 5 (some .int) ⟨2, 0, 0, 42⟩ [.ref (o 0)] ([tl o cI q]) (PI (l_wl q) ([tl o cI q])) := by
  refine CT.of RX2 rfl (by decide +kernel) (Nat.le_of_ble_eq_true rfl) [(0, .ref (o 0))] rfl (fun x X Rr hnm => ?_)
  refine G.pu X dX2_wrongLetter_0 ?_
  refine G.is X dX2_wrongLetter_1 (by decide) (lv' := [(1, .int 0), (0, .ref (o 0))]) rfl ?_
  refine G.pu X dX2_wrongLetter_2 ?_
  refine G.is X dX2_wrongLetter_3 (by decide) (lv' := [(2, .int 0), (1, .int 0), (0, .ref (o 0))]) rfl ?_
  refine G.pu X dX2_wrongLetter_4 ?_
  refine G.is X dX2_wrongLetter_5 (by decide) (lv' := [(3, .int 0), (2, .int 0), (1, .int 0), (0, .ref (o 0))]) rfl ?_
  have L6 : ∀ k, k ≤ q_n q → (∀ j, j < k → (fun j => !l_ok (q_f q) j) j = false) → G x 0 0 ([tl o cI q]) 6 [(3, .int (nI k)), (2, .int ((l_st (q_f q) k).2)), (1, .int ((l_st (q_f q) k).1)), (0, .ref (o 0))] [] := by
    refine loop_dn (q_n q) _ ?_ ?_
    · intro hinv6
      refine G.il X dX2_wrongLetter_6 0 rfl ?_
      refine G.al X dX2_wrongLetter_7 3 rfl ?_
      refine G.get X fX2_15 dX2_wrongLetter_8 0 0 rfl rfl rfl ?_
      refine G.n_ge X (a := q_n q) (b := q_n q) (by omega) (by omega) dX2_wrongLetter_11 (fun h11 => ?_) (fun h11 => absurd h11 (by omega))
      refine G.al X dX2_wrongLetter_65 3 rfl ?_
      refine G.get X fX2_15 dX2_wrongLetter_66 0 0 rfl rfl rfl ?_
      refine G.nz_eq X (a := q_n q) (by omega) dX2_wrongLetter_69 (fun h69 => ?_) (fun h69 => ?_)
      · refine G.al X dX2_wrongLetter_76 3 rfl ?_
        refine G.get X fX2_15 dX2_wrongLetter_77 0 0 rfl rfl rfl ?_
        refine G.go X dX2_wrongLetter_80 ?_
        exact G.iret X Rr (v := nI (q_n q)) dX2_wrongLetter_84 (pi_mk (by rw [l_wl, fi_none (P := fun j => !l_ok (q_f q) j) hinv6]; simp [h11, h69]) (by rfl))
      · refine G.il X dX2_wrongLetter_72 1 rfl ?_
        refine G.z_eq X (a := ((l_st (q_f q) (q_n q)).2)) dX2_wrongLetter_73 (fun h73 => ?_) (fun h73 => ?_)
        · refine G.pu X dX2_wrongLetter_83 ?_
          exact G.iret X Rr (v := (-1)) dX2_wrongLetter_84 (pi_mk (by rw [l_wl, fi_none (P := fun j => !l_ok (q_f q) j) hinv6]; simp [h11, h69, h73]) (by rfl))
        · refine G.al X dX2_wrongLetter_76 3 rfl ?_
          refine G.get X fX2_15 dX2_wrongLetter_77 0 0 rfl rfl rfl ?_
          refine G.go X dX2_wrongLetter_80 ?_
          exact G.iret X Rr (v := nI (q_n q)) dX2_wrongLetter_84 (pi_mk (by rw [l_wl, fi_none (P := fun j => !l_ok (q_f q) j) hinv6]; simp [h11, h69, h73]) (by rfl))
    · intro k hk ih6 hinv6
      refine G.il X dX2_wrongLetter_6 0 rfl ?_
      refine G.al X dX2_wrongLetter_7 3 rfl ?_
      refine G.get X fX2_15 dX2_wrongLetter_8 0 0 rfl rfl rfl ?_
      refine G.n_ge X (a := k) (b := q_n q) (by omega) (by omega) dX2_wrongLetter_11 (fun h11 => absurd h11 (by omega)) (fun h11 => ?_)
      refine G.al X dX2_wrongLetter_14 3 rfl ?_
      refine G.get X fX2_9 dX2_wrongLetter_15 0 0 rfl rfl rfl ?_
      refine G.il X dX2_wrongLetter_18 0 rfl ?_
      refine G.nld X (i := k) dX2_wrongLetter_19 0 1 rfl rfl (by omega) (by decide) ?_
      refine G.is X dX2_wrongLetter_20 (by decide) (lv' := [(4, .int ((q_f q) k)), (3, .int (nI k)), (2, .int ((l_st (q_f q) k).2)), (1, .int ((l_st (q_f q) k).1)), (0, .ref (o 0))]) rfl ?_
      refine G.il X dX2_wrongLetter_22 2 rfl ?_
      refine G.z_ne X (a := ((l_st (q_f q) k).2)) dX2_wrongLetter_23 (fun h23 => ?_) (fun h23 => ?_)
      · refine G.il X dX2_wrongLetter_29 0 rfl ?_
        refine G.il X dX2_wrongLetter_31 3 rfl ?_
        refine G.il X dX2_wrongLetter_32 2 rfl ?_
        refine G.csti X kX2_canStand lX2_19 dX2_wrongLetter_33 (tX2_canStand l D cI cW ((q_f q) k) ((l_st (q_f q) k).1) ((l_st (q_f q) k).2)) ⟨Nat.le_of_ble_eq_true rfl, Nat.le_of_ble_eq_true rfl⟩ ⟨Nat.zero_le _, Nat.zero_le _⟩ [] rfl ⟨rfl, rfl⟩ rfl rfl rfl (Nat.le_of_ble_eq_true rfl) (ff_nil) (ws' := [tl o cI q]) rfl ?_
        refine G.b_ne X dX2_wrongLetter_36 (fun h36 => ?_) (fun h36 => ?_)
        · refine G.il X dX2_wrongLetter_41 2 rfl ?_
          refine G.il X dX2_wrongLetter_42 3 rfl ?_
          refine G.csti X kX2_signsBehind lX2_23 dX2_wrongLetter_43 (tX2_signsBehind l D cI cW ((l_st (q_f q) k).1)) ⟨Nat.le_of_ble_eq_true rfl, Nat.le_of_ble_eq_true rfl⟩ ⟨Nat.zero_le _, Nat.zero_le _⟩ [] rfl ⟨rfl, rfl⟩ rfl rfl rfl (Nat.le_of_ble_eq_true rfl) (ff_nil) (ws' := [tl o cI q]) rfl ?_
          refine G.pu X dX2_wrongLetter_46 ?_
          refine G.iadd X dX2_wrongLetter_47 ?_
          refine G.c_ne X (a := ((l_st (q_f q) k).2)) (b := ((l_sb ((l_st (q_f q) k).1)) + 1)) dX2_wrongLetter_48 (fun h48 => ?_) (fun h48 => ?_)
          · refine G.il X dX2_wrongLetter_55 2 rfl ?_
            refine G.pu X dX2_wrongLetter_56 ?_
            refine G.iadd X dX2_wrongLetter_57 ?_
            refine G.is X dX2_wrongLetter_58 (by decide) (lv' := [(2, .int (((l_st (q_f q) k).2) + 1)), (4, .int ((q_f q) k)), (3, .int (nI k)), (1, .int ((l_st (q_f q) k).1)), (0, .ref (o 0))]) rfl ?_
            refine G.iinc X dX2_wrongLetter_59 2 rfl (v' := nI (k + 1)) (nI_inc k) (by decide) (lv' := [(3, .int (nI (k + 1))), (2, .int (((l_st (q_f q) k).2) + 1)), (4, .int ((q_f q) k)), (1, .int ((l_st (q_f q) k).1)), (0, .ref (o 0))]) rfl ?_
            refine G.go X dX2_wrongLetter_62 ?_
            rw [show ((l_st (q_f q) (k + 1)).2) = (((l_st (q_f q) k).2) + 1) from (by grind [l_st, l_hd])] at ih6
            rw [show ((l_st (q_f q) (k + 1)).1) = ((l_st (q_f q) k).1) from (by grind [l_st, l_hd])] at ih6
            refine G.lvsub [0, 1, 3, 4] (lv' := [(3, .int (nI (k + 1))), (2, .int (((l_st (q_f q) k).2) + 1)), (1, .int ((l_st (q_f q) k).1)), (0, .ref (o 0))]) rfl ?_
            exact ih6 (lt_snoc hinv6 (by show (!l_ok (q_f q) k) = false; grind [l_ok, l_hd]))
          · refine G.pu X dX2_wrongLetter_51 ?_
            refine G.go X dX2_wrongLetter_52 ?_
            refine G.is X dX2_wrongLetter_58 (by decide) (lv' := [(2, .int 0), (4, .int ((q_f q) k)), (3, .int (nI k)), (1, .int ((l_st (q_f q) k).1)), (0, .ref (o 0))]) rfl ?_
            refine G.iinc X dX2_wrongLetter_59 2 rfl (v' := nI (k + 1)) (nI_inc k) (by decide) (lv' := [(3, .int (nI (k + 1))), (2, .int 0), (4, .int ((q_f q) k)), (1, .int ((l_st (q_f q) k).1)), (0, .ref (o 0))]) rfl ?_
            refine G.go X dX2_wrongLetter_62 ?_
            rw [show ((l_st (q_f q) (k + 1)).2) = 0 from (by grind [l_st, l_hd])] at ih6
            rw [show ((l_st (q_f q) (k + 1)).1) = ((l_st (q_f q) k).1) from (by grind [l_st, l_hd])] at ih6
            refine G.lvsub [0, 1, 3, 4] (lv' := [(3, .int (nI (k + 1))), (2, .int 0), (1, .int ((l_st (q_f q) k).1)), (0, .ref (o 0))]) rfl ?_
            exact ih6 (lt_snoc hinv6 (by show (!l_ok (q_f q) k) = false; grind [l_ok, l_hd]))
        · refine G.il X dX2_wrongLetter_39 1 rfl ?_
          exact G.iret X Rr (v := nI k) dX2_wrongLetter_40 (pi_mk (by rw [l_wl, fi_hit (P := fun j => !l_ok (q_f q) j) hinv6 (by show (!l_ok (q_f q) k) = true; grind [l_ok, l_hd]) hk]) (by rfl))
      · refine G.il X dX2_wrongLetter_26 0 rfl ?_
        refine G.is X dX2_wrongLetter_28 (by decide) (lv' := [(1, .int ((q_f q) k)), (4, .int ((q_f q) k)), (3, .int (nI k)), (2, .int ((l_st (q_f q) k).2)), (0, .ref (o 0))]) rfl ?_
        refine G.il X dX2_wrongLetter_29 1 rfl ?_
        refine G.il X dX2_wrongLetter_31 0 rfl ?_
        refine G.il X dX2_wrongLetter_32 3 rfl ?_
        refine G.csti X kX2_canStand lX2_19 dX2_wrongLetter_33 (tX2_canStand l D cI cW ((q_f q) k) ((q_f q) k) ((l_st (q_f q) k).2)) ⟨Nat.le_of_ble_eq_true rfl, Nat.le_of_ble_eq_true rfl⟩ ⟨Nat.zero_le _, Nat.zero_le _⟩ [] rfl ⟨rfl, rfl⟩ rfl rfl rfl (Nat.le_of_ble_eq_true rfl) (ff_nil) (ws' := [tl o cI q]) rfl ?_
        refine G.b_ne X dX2_wrongLetter_36 (fun h36 => ?_) (fun h36 => ?_)
        · refine G.il X dX2_wrongLetter_41 3 rfl ?_
          refine G.il X dX2_wrongLetter_42 0 rfl ?_
          refine G.csti X kX2_signsBehind lX2_23 dX2_wrongLetter_43 (tX2_signsBehind l D cI cW ((q_f q) k)) ⟨Nat.le_of_ble_eq_true rfl, Nat.le_of_ble_eq_true rfl⟩ ⟨Nat.zero_le _, Nat.zero_le _⟩ [] rfl ⟨rfl, rfl⟩ rfl rfl rfl (Nat.le_of_ble_eq_true rfl) (ff_nil) (ws' := [tl o cI q]) rfl ?_
          refine G.pu X dX2_wrongLetter_46 ?_
          refine G.iadd X dX2_wrongLetter_47 ?_
          refine G.c_ne X (a := ((l_st (q_f q) k).2)) (b := ((l_sb ((q_f q) k)) + 1)) dX2_wrongLetter_48 (fun h48 => ?_) (fun h48 => ?_)
          · refine G.il X dX2_wrongLetter_55 3 rfl ?_
            refine G.pu X dX2_wrongLetter_56 ?_
            refine G.iadd X dX2_wrongLetter_57 ?_
            refine G.is X dX2_wrongLetter_58 (by decide) (lv' := [(2, .int (((l_st (q_f q) k).2) + 1)), (1, .int ((q_f q) k)), (4, .int ((q_f q) k)), (3, .int (nI k)), (0, .ref (o 0))]) rfl ?_
            refine G.iinc X dX2_wrongLetter_59 3 rfl (v' := nI (k + 1)) (nI_inc k) (by decide) (lv' := [(3, .int (nI (k + 1))), (2, .int (((l_st (q_f q) k).2) + 1)), (1, .int ((q_f q) k)), (4, .int ((q_f q) k)), (0, .ref (o 0))]) rfl ?_
            refine G.go X dX2_wrongLetter_62 ?_
            rw [show ((l_st (q_f q) (k + 1)).2) = (((l_st (q_f q) k).2) + 1) from (by grind [l_st, l_hd])] at ih6
            rw [show ((l_st (q_f q) (k + 1)).1) = ((q_f q) k) from (by grind [l_st, l_hd])] at ih6
            refine G.lvsub [0, 1, 2, 4] (lv' := [(3, .int (nI (k + 1))), (2, .int (((l_st (q_f q) k).2) + 1)), (1, .int ((q_f q) k)), (0, .ref (o 0))]) rfl ?_
            exact ih6 (lt_snoc hinv6 (by show (!l_ok (q_f q) k) = false; grind [l_ok, l_hd]))
          · refine G.pu X dX2_wrongLetter_51 ?_
            refine G.go X dX2_wrongLetter_52 ?_
            refine G.is X dX2_wrongLetter_58 (by decide) (lv' := [(2, .int 0), (1, .int ((q_f q) k)), (4, .int ((q_f q) k)), (3, .int (nI k)), (0, .ref (o 0))]) rfl ?_
            refine G.iinc X dX2_wrongLetter_59 3 rfl (v' := nI (k + 1)) (nI_inc k) (by decide) (lv' := [(3, .int (nI (k + 1))), (2, .int 0), (1, .int ((q_f q) k)), (4, .int ((q_f q) k)), (0, .ref (o 0))]) rfl ?_
            refine G.go X dX2_wrongLetter_62 ?_
            rw [show ((l_st (q_f q) (k + 1)).2) = 0 from (by grind [l_st, l_hd])] at ih6
            rw [show ((l_st (q_f q) (k + 1)).1) = ((q_f q) k) from (by grind [l_st, l_hd])] at ih6
            refine G.lvsub [0, 1, 2, 4] (lv' := [(3, .int (nI (k + 1))), (2, .int 0), (1, .int ((q_f q) k)), (0, .ref (o 0))]) rfl ?_
            exact ih6 (lt_snoc hinv6 (by show (!l_ok (q_f q) k) = false; grind [l_ok, l_hd]))
        · refine G.il X dX2_wrongLetter_39 2 rfl ?_
          exact G.iret X Rr (v := nI k) dX2_wrongLetter_40 (pi_mk (by rw [l_wl, fi_hit (P := fun j => !l_ok (q_f q) j) hinv6 (by show (!l_ok (q_f q) k) = true; grind [l_ok, l_hd]) hk]) (by rfl))
  have L6 := L6 0 (Nat.zero_le _) (fun j hj => absurd hj (by omega))
  exact L6

set_option maxRecDepth 20000 in
theorem tX2_statements (l : Launch) (D : va_G) (cI cW : ClassId) (o : Nat → Nat) (q : FN × Nat) (hq : q_n q ≤ 96) : CT l D cI cW yX2_statements cX2_statements 3 (some .int) ⟨2, 0, 0, 42⟩ [.ref (o 0)] ([tl o cI q]) (PI (nI (l_cnt q (q_n q))) ([tl o cI q])) := by
  refine CT.of RX2 rfl (by decide +kernel) (Nat.le_of_ble_eq_true rfl) [(0, .ref (o 0))] rfl (fun x X Rr hnm => ?_)
  refine G.pu X dX2_statements_0 ?_
  refine G.is X dX2_statements_1 (by decide) (lv' := [(1, .int 0), (0, .ref (o 0))]) rfl ?_
  refine G.pu X dX2_statements_2 ?_
  refine G.is X dX2_statements_3 (by decide) (lv' := [(2, .int 0), (1, .int 0), (0, .ref (o 0))]) rfl ?_
  have L4 : ∀ k, k ≤ q_n q → G x 0 0 ([tl o cI q]) 4 [(2, .int (nI k)), (1, .int (nI (l_cnt q k))), (0, .ref (o 0))] [] := by
    refine loop_dn (q_n q) _ ?_ ?_
    · refine G.il X dX2_statements_4 0 rfl ?_
      refine G.al X dX2_statements_5 2 rfl ?_
      refine G.get X fX2_15 dX2_statements_6 0 0 rfl rfl rfl ?_
      refine G.n_ge X (a := q_n q) (b := q_n q) (by omega) (by omega) dX2_statements_9 (fun h9 => ?_) (fun h9 => absurd h9 (by omega))
      refine G.il X dX2_statements_29 1 rfl ?_
      exact G.iret X Rr (v := nI (l_cnt q (q_n q))) dX2_statements_30 (pi_mk (by rfl) (by rfl))
    · intro k hk ih4
      refine G.il X dX2_statements_4 0 rfl ?_
      refine G.al X dX2_statements_5 2 rfl ?_
      refine G.get X fX2_15 dX2_statements_6 0 0 rfl rfl rfl ?_
      refine G.n_ge X (a := k) (b := q_n q) (by omega) (by omega) dX2_statements_9 (fun h9 => absurd h9 (by omega)) (fun h9 => ?_)
      refine G.al X dX2_statements_12 2 rfl ?_
      refine G.il X dX2_statements_13 0 rfl ?_
      refine G.cvi X kX2_beginsAt lX2_34 dX2_statements_14 (tX2_beginsAt l D cI cW o q k (by omega) (by omega)) ⟨Nat.le_of_ble_eq_true rfl, Nat.le_of_ble_eq_true rfl⟩ ⟨Nat.zero_le _, Nat.zero_le _⟩ [0] rfl ⟨rfl, rfl⟩ rfl rfl 0 0 rfl rfl rfl rfl (Nat.le_of_ble_eq_true rfl) (ff_cons (tl_fst _ _ _ _) (ff_nil)) (ws' := [tl o cI q]) rfl ?_
      refine G.b_eq X dX2_statements_17 (fun h17 => ?_) (fun h17 => ?_)
      · refine G.iinc X dX2_statements_23 0 rfl (v' := nI (k + 1)) (nI_inc k) (by decide) (lv' := [(2, .int (nI (k + 1))), (1, .int (nI (l_cnt q k))), (0, .ref (o 0))]) rfl ?_
        refine G.go X dX2_statements_26 ?_
        rw [show (nI (l_cnt q (k + 1))) = (nI (l_cnt q k)) from (by simp [l_cnt, h9, h17])] at ih4
        exact ih4
      · refine G.iinc X dX2_statements_20 1 rfl (v' := nI ((l_cnt q k) + 1)) (nI_inc (l_cnt q k)) (by decide) (lv' := [(1, .int (nI ((l_cnt q k) + 1))), (2, .int (nI k)), (0, .ref (o 0))]) rfl ?_
        refine G.iinc X dX2_statements_23 1 rfl (v' := nI (k + 1)) (nI_inc k) (by decide) (lv' := [(2, .int (nI (k + 1))), (1, .int (nI ((l_cnt q k) + 1))), (0, .ref (o 0))]) rfl ?_
        refine G.go X dX2_statements_26 ?_
        rw [show (nI (l_cnt q (k + 1))) = (nI ((l_cnt q k) + 1)) from (by simp [l_cnt, h9, h17])] at ih4
        exact ih4
  have L4 := L4 0 (Nat.zero_le _)
  exact L4

set_option maxRecDepth 20000 in
theorem tX2_comes (l : Launch) (D : va_G) (cI cW : ClassId) (o : Nat → Nat) (q : FN × Nat) (a : Nat → Nat) (S : WS) (k : Nat) (hk : k < 2 ^ 28) (hq : q_n q ≤ 96) (hS : Ok S) : CT l D cI cW yX2_comes cX2_comes 3 (some .boolean) ⟨4, 0, 0, 89⟩ [.ref (o 0), .int (nI k), .ref (a 0)] ([tl o cI q, wl a cI S]) (PI (b2i ((l_com q k S).1)) ([tl o cI q, wl a cI ((l_com q k S).2)])) := by
  refine CT.of RX2 rfl (by decide +kernel) (Nat.le_of_ble_eq_true rfl) [(0, .ref (o 0)), (1, .int (nI k)), (2, .ref (a 0))] rfl (fun x X Rr hnm => ?_)
  have hth := hS.th
  have hpe := hS.pe
  refine G.al X dX2_comes_0 0 rfl ?_
  refine G.il X dX2_comes_1 1 rfl ?_
  refine G.cvi X kX2_sign lX2_41 dX2_comes_2 (tX2_sign l D cI cW o q k (by omega) (by omega)) ⟨Nat.le_of_ble_eq_true rfl, Nat.le_of_ble_eq_true rfl⟩ ⟨Nat.zero_le _, Nat.zero_le _⟩ [0] rfl ⟨rfl, rfl⟩ rfl rfl 0 0 rfl rfl rfl rfl (Nat.le_of_ble_eq_true rfl) (ff_cons (tl_fst _ _ _ _) (ff_nil)) (ws' := [tl o cI q, wl a cI S]) rfl ?_
  by_cases h5_97 : (l_sg q k) = 97
  · refine G.tsi X dX2_comes_5 97 h5_97 (154) 159 (by decide) ?_
    refine G.al X dX2_comes_159 2 rfl ?_
    refine G.al X dX2_comes_160 0 rfl ?_
    refine G.il X dX2_comes_161 1 rfl ?_
    refine G.pu X dX2_comes_162 ?_
    refine G.nadd X (a := k) (b := 1) dX2_comes_163 ?_
    refine G.cvi X kX2_digit lX2_44 dX2_comes_164 (tX2_digit l D cI cW o q (k + 1) (by omega) (by omega)) ⟨Nat.le_of_ble_eq_true rfl, Nat.le_of_ble_eq_true rfl⟩ ⟨Nat.zero_le _, Nat.zero_le _⟩ [0] rfl ⟨rfl, rfl⟩ rfl rfl 0 0 rfl rfl rfl rfl (Nat.le_of_ble_eq_true rfl) (ff_cons (tl_fst _ _ _ _) (ff_nil)) (ws' := [tl o cI q, wl a cI S]) rfl ?_
    by_cases hc : z_in (l_dg q (k + 1)) (s_th S) = true
    · obtain ⟨j, hj, ej⟩ := z_in_t hc
      have cj : (l_dg q (k + 1)).toNatClampNeg = j := by rw [ej]; exact nI_clamp (by omega)
      rw [ej]
      refine G.cvi X kX5_fall lX2_59 dX2_comes_167 (tX5_fall l D cI cW a S j (by omega) hj) ⟨Nat.le_of_ble_eq_true rfl, Nat.le_of_ble_eq_true rfl⟩ ⟨Nat.zero_le _, Nat.zero_le _⟩ [1] rfl ⟨rfl, rfl⟩ rfl rfl 1 0 rfl rfl rfl rfl (Nat.le_of_ble_eq_true rfl) (ff_cons (wl_fst _ _ _ _) (ff_nil)) (ws' := [tl o cI q, wl a cI (w_fall S j)]) rfl ?_
      exact G.bret X Rr dX2_comes_170 (pi_mk (by simp [-Int32.not_lt, l_com, b2i, h5_97, hc, cj]) (by simp [-Int32.not_lt, l_com, w_dr, h5_97, hc, cj]; try rfl))
    refine G.cvi X kX5_fall lX2_59 dX2_comes_167 (tX5_fall_bad l D cI cW a S (l_dg q (k + 1)) (by omega) (by simpa using hc)) ⟨Nat.le_of_ble_eq_true rfl, Nat.le_of_ble_eq_true rfl⟩ ⟨Nat.zero_le _, Nat.zero_le _⟩ [1] rfl ⟨rfl, rfl⟩ rfl rfl 1 0 rfl rfl rfl rfl (Nat.le_of_ble_eq_true rfl) (ff_cons (wl_fst _ _ _ _) (ff_nil)) (ws' := [tl o cI q, wl a cI S]) rfl ?_
    exact G.bret X Rr dX2_comes_170 (pi_mk (by simp [-Int32.not_lt, l_com, b2i, h5_97, hc]) (by simp [-Int32.not_lt, l_com, w_dr, h5_97, hc]; try rfl))
  by_cases h5_100 : (l_sg q k) = 100
  · refine G.tsi X dX2_comes_5 100 h5_100 (185) 190 (by decide) ?_
    refine G.al X dX2_comes_190 2 rfl ?_
    refine G.al X dX2_comes_191 0 rfl ?_
    refine G.il X dX2_comes_192 1 rfl ?_
    refine G.pu X dX2_comes_193 ?_
    refine G.nadd X (a := k) (b := 1) dX2_comes_194 ?_
    refine G.cvi X kX2_twoDigits lX2_47 dX2_comes_195 (tX2_twoDigits l D cI cW o q (k + 1) (by omega) (by omega)) ⟨Nat.le_of_ble_eq_true rfl, Nat.le_of_ble_eq_true rfl⟩ ⟨Nat.zero_le _, Nat.zero_le _⟩ [0] rfl ⟨rfl, rfl⟩ rfl rfl 0 0 rfl rfl rfl rfl (Nat.le_of_ble_eq_true rfl) (ff_cons (tl_fst _ _ _ _) (ff_nil)) (ws' := [tl o cI q, wl a cI S]) rfl ?_
    by_cases hc : ¬ l_d2 q (k + 1) < 1 ∧ ¬ 60 < l_d2 q (k + 1) ∧ ¬ 999 < s_da S + l_d2 q (k + 1)
    · obtain ⟨j, hj, ej⟩ := n_in60 hc.1 hc.2.1
      have cj : (l_d2 q (k + 1)).toNatClampNeg = j := by rw [ej]; exact nI_clamp (by omega)
      rw [ej]
      refine G.cvi X kX5_passDays lX2_65 dX2_comes_198 (tX5_passDays l D cI cW a S j hS hj.1 hj.2 (by rw [← ej]; exact hc.2.2)) ⟨Nat.le_of_ble_eq_true rfl, Nat.le_of_ble_eq_true rfl⟩ ⟨Nat.zero_le _, Nat.zero_le _⟩ [1] rfl ⟨rfl, rfl⟩ rfl rfl 1 0 rfl rfl rfl rfl (Nat.le_of_ble_eq_true rfl) (ff_cons (wl_fst _ _ _ _) (ff_nil)) (ws' := [tl o cI q, wl a cI (w_dayN S j)]) rfl ?_
      exact G.bret X Rr dX2_comes_201 (pi_mk (by rw [l_com, if_neg (by rw [h5_100]; decide), if_neg (by rw [h5_100]; decide), if_neg h5_97, if_neg (by rw [h5_100]; decide), if_pos h5_100, if_pos hc]) (by rw [l_com, if_neg (by rw [h5_100]; decide), if_neg (by rw [h5_100]; decide), if_neg h5_97, if_neg (by rw [h5_100]; decide), if_pos h5_100, if_pos hc]; rw [cj]))
    refine G.cvi X kX5_passDays lX2_65 dX2_comes_198 (tX5_passDays_bad l D cI cW a S (l_d2 q (k + 1)) (by grind)) ⟨Nat.le_of_ble_eq_true rfl, Nat.le_of_ble_eq_true rfl⟩ ⟨Nat.zero_le _, Nat.zero_le _⟩ [1] rfl ⟨rfl, rfl⟩ rfl rfl 1 0 rfl rfl rfl rfl (Nat.le_of_ble_eq_true rfl) (ff_cons (wl_fst _ _ _ _) (ff_nil)) (ws' := [tl o cI q, wl a cI S]) rfl ?_
    exact G.bret X Rr dX2_comes_201 (pi_mk (by rw [l_com, if_neg (by rw [h5_100]; decide), if_neg (by rw [h5_100]; decide), if_neg h5_97, if_neg (by rw [h5_100]; decide), if_pos h5_100, if_neg hc]) (by rw [l_com, if_neg (by rw [h5_100]; decide), if_neg (by rw [h5_100]; decide), if_neg h5_97, if_neg (by rw [h5_100]; decide), if_pos h5_100, if_neg hc]))
  by_cases h5_107 : (l_sg q k) = 107
  · refine G.tsi X dX2_comes_5 107 h5_107 (166) 171 (by decide) ?_
    refine G.al X dX2_comes_171 2 rfl ?_
    refine G.al X dX2_comes_172 0 rfl ?_
    refine G.il X dX2_comes_173 1 rfl ?_
    refine G.pu X dX2_comes_174 ?_
    refine G.nadd X (a := k) (b := 1) dX2_comes_175 ?_
    refine G.cvi X kX2_digit lX2_44 dX2_comes_176 (tX2_digit l D cI cW o q (k + 1) (by omega) (by omega)) ⟨Nat.le_of_ble_eq_true rfl, Nat.le_of_ble_eq_true rfl⟩ ⟨Nat.zero_le _, Nat.zero_le _⟩ [0] rfl ⟨rfl, rfl⟩ rfl rfl 0 0 rfl rfl rfl rfl (Nat.le_of_ble_eq_true rfl) (ff_cons (tl_fst _ _ _ _) (ff_nil)) (ws' := [tl o cI q, wl a cI S]) rfl ?_
    refine G.al X dX2_comes_179 0 rfl ?_
    refine G.il X dX2_comes_180 1 rfl ?_
    refine G.pu X dX2_comes_181 ?_
    refine G.nadd X (a := k) (b := 2) dX2_comes_182 ?_
    refine G.cvi X kX2_digit lX2_44 dX2_comes_183 (tX2_digit l D cI cW o q (k + 2) (by omega) (by omega)) ⟨Nat.le_of_ble_eq_true rfl, Nat.le_of_ble_eq_true rfl⟩ ⟨Nat.zero_le _, Nat.zero_le _⟩ [0] rfl ⟨rfl, rfl⟩ rfl rfl 0 0 rfl rfl rfl rfl (Nat.le_of_ble_eq_true rfl) (ff_cons (tl_fst _ _ _ _) (ff_nil)) (ws' := [tl o cI q, wl a cI S]) rfl ?_
    by_cases hc : z_in (l_dg q (k + 1)) (s_pe S) = true ∧ z_in (l_dg q (k + 2)) 8 = true
    · obtain ⟨j, hj, ej⟩ := z_in_t hc.1
      have cj : (l_dg q (k + 1)).toNatClampNeg = j := by rw [ej]; exact nI_clamp (by omega)
      rw [ej]
      obtain ⟨i, hi, ei⟩ := z_in_t hc.2
      have ci : (l_dg q (k + 2)).toNatClampNeg = i := by rw [ei]; exact nI_clamp (by omega)
      rw [ei]
      refine G.cvi X kX5_learnOrForget lX2_62 dX2_comes_186 (tX5_learnOrForget l D cI cW a S j i (by omega) hj hi) ⟨Nat.le_of_ble_eq_true rfl, Nat.le_of_ble_eq_true rfl⟩ ⟨Nat.zero_le _, Nat.zero_le _⟩ [1] rfl ⟨rfl, rfl⟩ rfl rfl 1 0 rfl rfl rfl rfl (Nat.le_of_ble_eq_true rfl) (ff_cons (wl_fst _ _ _ _) (ff_nil)) (ws' := [tl o cI q, wl a cI (w_lrn S j (nI i))]) rfl ?_
      exact G.bret X Rr dX2_comes_189 (pi_mk (by simp [-Int32.not_lt, l_com, b2i, h5_107, hc, cj, ci]) (by simp [-Int32.not_lt, l_com, w_dr, h5_107, hc, cj, ci]; rw [ei]))
    refine G.cvi X kX5_learnOrForget lX2_62 dX2_comes_186 (tX5_learnOrForget_bad l D cI cW a S (l_dg q (k + 1)) (l_dg q (k + 2)) (by omega) ((Decidable.not_and_iff_not_or_not.mp hc).imp (fun h => by simpa using h) (fun h => by simpa using h))) ⟨Nat.le_of_ble_eq_true rfl, Nat.le_of_ble_eq_true rfl⟩ ⟨Nat.zero_le _, Nat.zero_le _⟩ [1] rfl ⟨rfl, rfl⟩ rfl rfl 1 0 rfl rfl rfl rfl (Nat.le_of_ble_eq_true rfl) (ff_cons (wl_fst _ _ _ _) (ff_nil)) (ws' := [tl o cI q, wl a cI S]) rfl ?_
    exact G.bret X Rr dX2_comes_189 (pi_mk (by simp [-Int32.not_lt, l_com, b2i, h5_107, hc]) (by simp [-Int32.not_lt, l_com, w_dr, h5_107, hc]; try rfl))
  by_cases h5_111 : (l_sg q k) = 111
  · refine G.tsi X dX2_comes_5 111 h5_111 (197) 202 (by decide) ?_
    refine G.al X dX2_comes_202 2 rfl ?_
    refine G.al X dX2_comes_203 0 rfl ?_
    refine G.il X dX2_comes_204 1 rfl ?_
    refine G.pu X dX2_comes_205 ?_
    refine G.nadd X (a := k) (b := 1) dX2_comes_206 ?_
    refine G.cvi X kX2_digit lX2_44 dX2_comes_207 (tX2_digit l D cI cW o q (k + 1) (by omega) (by omega)) ⟨Nat.le_of_ble_eq_true rfl, Nat.le_of_ble_eq_true rfl⟩ ⟨Nat.zero_le _, Nat.zero_le _⟩ [0] rfl ⟨rfl, rfl⟩ rfl rfl 0 0 rfl rfl rfl rfl (Nat.le_of_ble_eq_true rfl) (ff_cons (tl_fst _ _ _ _) (ff_nil)) (ws' := [tl o cI q, wl a cI S]) rfl ?_
    refine G.puti X fX2_68 fe5 dX2_comes_210 rfl rfl 1 0 rfl rfl (Nat.le_of_ble_eq_true rfl) (blk' := wl a cI (s_pe S, s_th S, s_da S, l_dg q (k + 1), s_kn S, s_sh S, s_an S, s_ki S, s_we S, s_dp S, s_wa S, s_le S)) rfl (ws' := [tl o cI q, wl a cI (s_pe S, s_th S, s_da S, l_dg q (k + 1), s_kn S, s_sh S, s_an S, s_ki S, s_we S, s_dp S, s_wa S, s_le S)]) rfl ?_
    refine G.pu X dX2_comes_213 ?_
    exact G.zret X Rr (v := 1) (Or.inr rfl) dX2_comes_214 (pi_mk (by simp [-Int32.not_lt, l_com, b2i, h5_111]) (by simp [-Int32.not_lt, l_com, w_dr, h5_111]; try rfl))
  by_cases h5_112 : (l_sg q k) = 112
  · refine G.tsi X dX2_comes_5 112 h5_112 (95) 100 (by decide) ?_
    refine G.al X dX2_comes_100 2 rfl ?_
    refine G.al X dX2_comes_101 0 rfl ?_
    refine G.il X dX2_comes_102 1 rfl ?_
    refine G.pu X dX2_comes_103 ?_
    refine G.nadd X (a := k) (b := 1) dX2_comes_104 ?_
    refine G.cvi X kX2_digit lX2_44 dX2_comes_105 (tX2_digit l D cI cW o q (k + 1) (by omega) (by omega)) ⟨Nat.le_of_ble_eq_true rfl, Nat.le_of_ble_eq_true rfl⟩ ⟨Nat.zero_le _, Nat.zero_le _⟩ [0] rfl ⟨rfl, rfl⟩ rfl rfl 0 0 rfl rfl rfl rfl (Nat.le_of_ble_eq_true rfl) (ff_cons (tl_fst _ _ _ _) (ff_nil)) (ws' := [tl o cI q, wl a cI S]) rfl ?_
    refine G.pu X dX2_comes_108 ?_
    refine G.al X dX2_comes_110 0 rfl ?_
    refine G.il X dX2_comes_111 1 rfl ?_
    refine G.pu X dX2_comes_112 ?_
    refine G.nadd X (a := k) (b := 2) dX2_comes_113 ?_
    refine G.cvi X kX2_twoDigits lX2_47 dX2_comes_114 (tX2_twoDigits l D cI cW o q (k + 2) (by omega) (by omega)) ⟨Nat.le_of_ble_eq_true rfl, Nat.le_of_ble_eq_true rfl⟩ ⟨Nat.zero_le _, Nat.zero_le _⟩ [0] rfl ⟨rfl, rfl⟩ rfl rfl 0 0 rfl rfl rfl rfl (Nat.le_of_ble_eq_true rfl) (ff_cons (tl_fst _ _ _ _) (ff_nil)) (ws' := [tl o cI q, wl a cI S]) rfl ?_
    refine G.imul X dX2_comes_117 ?_
    refine G.al X dX2_comes_118 0 rfl ?_
    refine G.il X dX2_comes_119 1 rfl ?_
    refine G.pu X dX2_comes_120 ?_
    refine G.nadd X (a := k) (b := 4) dX2_comes_121 ?_
    refine G.cvi X kX2_digit lX2_44 dX2_comes_122 (tX2_digit l D cI cW o q (k + 4) (by omega) (by omega)) ⟨Nat.le_of_ble_eq_true rfl, Nat.le_of_ble_eq_true rfl⟩ ⟨Nat.zero_le _, Nat.zero_le _⟩ [0] rfl ⟨rfl, rfl⟩ rfl rfl 0 0 rfl rfl rfl rfl (Nat.le_of_ble_eq_true rfl) (ff_cons (tl_fst _ _ _ _) (ff_nil)) (ws' := [tl o cI q, wl a cI S]) rfl ?_
    refine G.iadd X dX2_comes_125 ?_
    by_cases hc : s_pe S < 5 ∧ ¬ 255 < 10 * l_d2 q (k + 2) + l_dg q (k + 4)
    · refine G.cvi X kX5_addPerson lX2_50 dX2_comes_126 (tX5_addPerson l D cI cW a S (l_dg q (k + 1)) ((10 * (l_d2 q (k + 2))) + (l_dg q (k + 4))) hc.1 hc.2) ⟨Nat.le_of_ble_eq_true rfl, Nat.le_of_ble_eq_true rfl⟩ ⟨Nat.zero_le _, Nat.zero_le _⟩ [1] rfl ⟨rfl, rfl⟩ rfl rfl 1 0 rfl rfl rfl rfl (Nat.le_of_ble_eq_true rfl) (ff_cons (wl_fst _ _ _ _) (ff_nil)) (ws' := [tl o cI q, wl a cI (w_one S (l_dg q (k + 1)) ((10 * (l_d2 q (k + 2))) + (l_dg q (k + 4))))]) rfl ?_
      exact G.bret X Rr dX2_comes_129 (pi_mk (by simp [-Int32.not_lt, l_com, b2i, h5_112, hc]) (by simp [-Int32.not_lt, l_com, w_dr, h5_112, hc]; try rfl))
    refine G.cvi X kX5_addPerson lX2_50 dX2_comes_126 (tX5_addPerson_bad l D cI cW a S (l_dg q (k + 1)) ((10 * (l_d2 q (k + 2))) + (l_dg q (k + 4))) (by omega) ((Decidable.not_and_iff_not_or_not.mp hc).imp id Decidable.not_not.mp)) ⟨Nat.le_of_ble_eq_true rfl, Nat.le_of_ble_eq_true rfl⟩ ⟨Nat.zero_le _, Nat.zero_le _⟩ [1] rfl ⟨rfl, rfl⟩ rfl rfl 1 0 rfl rfl rfl rfl (Nat.le_of_ble_eq_true rfl) (ff_cons (wl_fst _ _ _ _) (ff_nil)) (ws' := [tl o cI q, wl a cI S]) rfl ?_
    exact G.bret X Rr dX2_comes_129 (pi_mk (by simp [-Int32.not_lt, l_com, b2i, h5_112, hc]) (by simp [-Int32.not_lt, l_com, w_dr, h5_112, hc]; try rfl))
  by_cases h5_116 : (l_sg q k) = 116
  · refine G.tsi X dX2_comes_5 116 h5_116 (125) 130 (by decide) ?_
    refine G.al X dX2_comes_130 2 rfl ?_
    refine G.al X dX2_comes_131 0 rfl ?_
    refine G.il X dX2_comes_132 1 rfl ?_
    refine G.pu X dX2_comes_133 ?_
    refine G.nadd X (a := k) (b := 1) dX2_comes_134 ?_
    refine G.cvi X kX2_sign lX2_41 dX2_comes_135 (tX2_sign l D cI cW o q (k + 1) (by omega) (by omega)) ⟨Nat.le_of_ble_eq_true rfl, Nat.le_of_ble_eq_true rfl⟩ ⟨Nat.zero_le _, Nat.zero_le _⟩ [0] rfl ⟨rfl, rfl⟩ rfl rfl 0 0 rfl rfl rfl rfl (Nat.le_of_ble_eq_true rfl) (ff_cons (tl_fst _ _ _ _) (ff_nil)) (ws' := [tl o cI q, wl a cI S]) rfl ?_
    refine G.csti X kX2_kindToldBy lX2_27 dX2_comes_138 (tX2_kindToldBy l D cI cW (l_sg q (k + 1))) ⟨Nat.le_of_ble_eq_true rfl, Nat.le_of_ble_eq_true rfl⟩ ⟨Nat.zero_le _, Nat.zero_le _⟩ [] rfl ⟨rfl, rfl⟩ rfl rfl rfl (Nat.le_of_ble_eq_true rfl) (ff_nil) (ws' := [tl o cI q, wl a cI S]) rfl ?_
    refine G.al X dX2_comes_141 0 rfl ?_
    refine G.il X dX2_comes_142 1 rfl ?_
    refine G.pu X dX2_comes_143 ?_
    refine G.nadd X (a := k) (b := 2) dX2_comes_144 ?_
    refine G.cvi X kX2_digit lX2_44 dX2_comes_145 (tX2_digit l D cI cW o q (k + 2) (by omega) (by omega)) ⟨Nat.le_of_ble_eq_true rfl, Nat.le_of_ble_eq_true rfl⟩ ⟨Nat.zero_le _, Nat.zero_le _⟩ [0] rfl ⟨rfl, rfl⟩ rfl rfl 0 0 rfl rfl rfl rfl (Nat.le_of_ble_eq_true rfl) (ff_cons (tl_fst _ _ _ _) (ff_nil)) (ws' := [tl o cI q, wl a cI S]) rfl ?_
    refine G.al X dX2_comes_148 0 rfl ?_
    refine G.il X dX2_comes_149 1 rfl ?_
    refine G.pu X dX2_comes_150 ?_
    refine G.nadd X (a := k) (b := 3) dX2_comes_151 ?_
    refine G.cvi X kX2_digit lX2_44 dX2_comes_152 (tX2_digit l D cI cW o q (k + 3) (by omega) (by omega)) ⟨Nat.le_of_ble_eq_true rfl, Nat.le_of_ble_eq_true rfl⟩ ⟨Nat.zero_le _, Nat.zero_le _⟩ [0] rfl ⟨rfl, rfl⟩ rfl rfl 0 0 rfl rfl rfl rfl (Nat.le_of_ble_eq_true rfl) (ff_cons (tl_fst _ _ _ _) (ff_nil)) (ws' := [tl o cI q, wl a cI S]) rfl ?_
    by_cases hc : s_th S < 9 ∧ z_in (l_dg q (k + 3)) (s_pe S) = true
    · refine G.cvi X kX5_addThing lX2_56 dX2_comes_155 (tX5_addThing l D cI cW a S (l_kt (l_sg q (k + 1))) (l_dg q (k + 2)) (l_dg q (k + 3)) hc.1 (by omega) hc.2) ⟨Nat.le_of_ble_eq_true rfl, Nat.le_of_ble_eq_true rfl⟩ ⟨Nat.zero_le _, Nat.zero_le _⟩ [1] rfl ⟨rfl, rfl⟩ rfl rfl 1 0 rfl rfl rfl rfl (Nat.le_of_ble_eq_true rfl) (ff_cons (wl_fst _ _ _ _) (ff_nil)) (ws' := [tl o cI q, wl a cI (w_add S (l_kt (l_sg q (k + 1))) (l_dg q (k + 2)) (l_dg q (k + 3)))]) rfl ?_
      exact G.bret X Rr dX2_comes_158 (pi_mk (by simp [-Int32.not_lt, l_com, b2i, h5_116, hc]) (by simp [-Int32.not_lt, l_com, w_dr, h5_116, hc]; try rfl))
    refine G.cvi X kX5_addThing lX2_56 dX2_comes_155 (tX5_addThing_bad l D cI cW a S (l_kt (l_sg q (k + 1))) (l_dg q (k + 2)) (l_dg q (k + 3)) (by omega) (by omega) ((Decidable.not_and_iff_not_or_not.mp hc).imp id (fun h => by simpa using h))) ⟨Nat.le_of_ble_eq_true rfl, Nat.le_of_ble_eq_true rfl⟩ ⟨Nat.zero_le _, Nat.zero_le _⟩ [1] rfl ⟨rfl, rfl⟩ rfl rfl 1 0 rfl rfl rfl rfl (Nat.le_of_ble_eq_true rfl) (ff_cons (wl_fst _ _ _ _) (ff_nil)) (ws' := [tl o cI q, wl a cI S]) rfl ?_
    exact G.bret X Rr dX2_comes_158 (pi_mk (by simp [-Int32.not_lt, l_com, b2i, h5_116, hc]) (by simp [-Int32.not_lt, l_com, w_dr, h5_116, hc]; try rfl))
  refine G.tsd X dX2_comes_5 [97, 100, 107, 111, 112, 116] (List.forall_mem_cons.mpr ⟨h5_97, List.forall_mem_cons.mpr ⟨h5_100, List.forall_mem_cons.mpr ⟨h5_107, List.forall_mem_cons.mpr ⟨h5_111, List.forall_mem_cons.mpr ⟨h5_112, List.forall_mem_cons.mpr ⟨h5_116, fun _ h9 => absurd h9 List.not_mem_nil⟩⟩⟩⟩⟩⟩) 215 (by decide) ?_
  refine G.pu X dX2_comes_215 ?_
  exact G.zret X Rr (v := 0) (Or.inl rfl) dX2_comes_216 (pi_mk (by simp [-Int32.not_lt, l_com, b2i, h5_97, h5_100, h5_107, h5_111, h5_112, h5_116]) (by simp [-Int32.not_lt, l_com, w_dr, h5_97, h5_100, h5_107, h5_111, h5_112, h5_116]; try rfl))

set_option maxRecDepth 20000 in
theorem tX2_wrongStatement (l : Launch) (D : va_G) (cI cW : ClassId) (o : Nat → Nat) (q : FN × Nat) (a : Nat → Nat) (S : WS) (hq : q_n q ≤ 96) (hO : ∀ k, k ≤ q_n q → (∀ j, j < k → l_bad q S j = false) → Ok (l_go q S k)) : CT l D cI cW yX2_wrongStatement cX2_wrongStatement 3 (some .int) ⟨5, 0, 0, 111⟩ [.ref (o 0), .ref (a 0)] ([tl o cI q, wl a cI S]) (PI (l_ws q S) ([tl o cI q, wl a cI (l_go q S (l_end q S))])) := by
  refine CT.of RX2 rfl (by decide +kernel) (Nat.le_of_ble_eq_true rfl) [(0, .ref (o 0)), (1, .ref (a 0))] rfl (fun x X Rr hnm => ?_)
  refine G.pu X dX2_wrongStatement_0 ?_
  refine G.is X dX2_wrongStatement_1 (by decide) (lv' := [(2, .int 0), (0, .ref (o 0)), (1, .ref (a 0))]) rfl ?_
  have L2 : ∀ k, k ≤ q_n q → (∀ j, j < k → l_bad q S j = false) → G x 0 0 ([tl o cI q, wl a cI (l_go q S k)]) 2 [(2, .int (nI k)), (0, .ref (o 0)), (1, .ref (a 0))] [] := by
    refine loop_dn (q_n q) _ ?_ ?_
    · intro hinv2
      refine G.il X dX2_wrongStatement_2 0 rfl ?_
      refine G.al X dX2_wrongStatement_3 1 rfl ?_
      refine G.get X fX2_15 dX2_wrongStatement_4 0 0 rfl rfl rfl ?_
      refine G.n_ge X (a := q_n q) (b := q_n q) (by omega) (by omega) dX2_wrongStatement_7 (fun h7 => ?_) (fun h7 => absurd h7 (by omega))
      refine G.pu X dX2_wrongStatement_35 ?_
      exact G.iret X Rr (v := (-1)) dX2_wrongStatement_36 (pi_mk (by rw [l_ws, fi_none hinv2]) (by rw [l_end, fi_none hinv2]))
    · intro k hk ih2 hinv2
      refine G.il X dX2_wrongStatement_2 0 rfl ?_
      refine G.al X dX2_wrongStatement_3 1 rfl ?_
      refine G.get X fX2_15 dX2_wrongStatement_4 0 0 rfl rfl rfl ?_
      refine G.n_ge X (a := k) (b := q_n q) (by omega) (by omega) dX2_wrongStatement_7 (fun h7 => absurd h7 (by omega)) (fun h7 => ?_)
      refine G.al X dX2_wrongStatement_10 1 rfl ?_
      refine G.il X dX2_wrongStatement_11 0 rfl ?_
      refine G.cvi X kX2_beginsAt lX2_34 dX2_wrongStatement_12 (tX2_beginsAt l D cI cW o q k (by omega) (by omega)) ⟨Nat.le_of_ble_eq_true rfl, Nat.le_of_ble_eq_true rfl⟩ ⟨Nat.zero_le _, Nat.zero_le _⟩ [0] rfl ⟨rfl, rfl⟩ rfl rfl 0 0 rfl rfl rfl rfl (Nat.le_of_ble_eq_true rfl) (ff_cons (tl_fst _ _ _ _) (ff_nil)) (ws' := [tl o cI q, wl a cI (l_go q S k)]) rfl ?_
      refine G.b_eq X dX2_wrongStatement_15 (fun h15 => ?_) (fun h15 => ?_)
      · refine G.iinc X dX2_wrongStatement_29 0 rfl (v' := nI (k + 1)) (nI_inc k) (by decide) (lv' := [(2, .int (nI (k + 1))), (0, .ref (o 0)), (1, .ref (a 0))]) rfl ?_
        refine G.go X dX2_wrongStatement_32 ?_
        rw [show (l_go q S (k + 1)) = (l_go q S k) from (by simp [l_go, h7, h15])] at ih2
        exact ih2 (lt_snoc hinv2 (by simp [l_bad, h7, h15]))
      · refine G.al X dX2_wrongStatement_18 1 rfl ?_
        refine G.il X dX2_wrongStatement_19 0 rfl ?_
        refine G.al X dX2_wrongStatement_20 2 rfl ?_
        refine G.cvi X kX2_comes lX2_37 dX2_wrongStatement_21 (tX2_comes l D cI cW o q a (l_go q S k) k (by omega) (by omega) (hO k (by omega) hinv2)) ⟨Nat.le_of_ble_eq_true rfl, Nat.le_of_ble_eq_true rfl⟩ ⟨Nat.zero_le _, Nat.zero_le _⟩ [0, 1] rfl ⟨rfl, rfl⟩ rfl rfl 0 0 rfl rfl rfl rfl (Nat.le_of_ble_eq_true rfl) (ff_cons (tl_fst _ _ _ _) (ff_cons (wl_fst _ _ _ _) (ff_nil))) (ws' := [tl o cI q, wl a cI ((l_com q k (l_go q S k)).2)]) rfl ?_
        refine G.b_ne X dX2_wrongStatement_24 (fun h24 => ?_) (fun h24 => ?_)
        · refine G.iinc X dX2_wrongStatement_29 0 rfl (v' := nI (k + 1)) (nI_inc k) (by decide) (lv' := [(2, .int (nI (k + 1))), (0, .ref (o 0)), (1, .ref (a 0))]) rfl ?_
          refine G.go X dX2_wrongStatement_32 ?_
          rw [show (l_go q S (k + 1)) = ((l_com q k (l_go q S k)).2) from (by simp [l_go, h7, h15, h24])] at ih2
          exact ih2 (lt_snoc hinv2 (by simp [l_bad, h7, h15, h24]))
        · refine G.il X dX2_wrongStatement_27 0 rfl ?_
          exact G.iret X Rr (v := nI k) dX2_wrongStatement_28 (pi_mk (by rw [l_ws, fi_hit hinv2 (by simp [l_bad, h7, h15, h24]) hk]) (by rw [l_end, fi_hit hinv2 (by simp [l_bad, h7, h15, h24]) hk]; simp [l_go, h7, h15, h24]))
  have L2 := L2 0 (Nat.zero_le _) (fun j hj => absurd hj (by omega))
  exact L2
