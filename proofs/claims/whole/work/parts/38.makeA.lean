def z0 : FN := fun _ => 0
def wz : WS := (0, 0, 0, 0, z0, z0, z0, z0, z0, z0, z0, z0)
def mz : MS := (z0, false, z0, z0, z0, z0, 0, 0, 0, z0, false, false, 0, 0, z0, z0, 0)
def N_5 (cI : ClassId) (b : Nat) (w : List va_W) : Prop := ∃ a : Nat → Nat, a 0 = b ∧ w = [wl a cI wz]
def N_2 (cI : ClassId) (b : Nat) (w : List va_W) : Prop := ∃ o : Nat → Nat, o 0 = b ∧ w = [tl o cI (z0, 0)]
def N_3 (cI : ClassId) (b : Nat) (w : List va_W) : Prop := ∃ o b9 : Nat → Nat, o 0 = b ∧ w = [ol o b9 cI z0, wl b9 cI wz]
def N_0 (cI : ClassId) (b : Nat) (w : List va_W) : Prop := ∃ o b9 : Nat → Nat, o 0 = b ∧ w = [al o b9 cI (z0, z0), wl b9 cI wz]
def N_4 (cI : ClassId) (b : Nat) (w : List va_W) : Prop := ∃ o b9 : Nat → Nat, o 0 = b ∧ w = [rl o b9 cI (z0, 0), wl b9 cI wz]
def N_1 (cI cW : ClassId) (b : Nat) (w : List va_W) : Prop := ∃ (o b9 : Nat → Nat) (w9 : Nat → Nat → Nat), o 0 = b ∧ w = [cl o b9 w9 cW (0, 0, 0), wl b9 cI wz, wl (w9 0) cI wz, wl (w9 1) cI wz, wl (w9 2) cI wz, wl (w9 3) cI wz, wl (w9 4) cI wz, wl (w9 5) cI wz, wl (w9 6) cI wz, wl (w9 7) cI wz]
def N_6 (cI cW : ClassId) (b : Nat) (w : List va_W) : Prop := ∃ (xx xn xt xk xe xo xp xv xq xc xs : Nat → Nat) (xw : Nat → Nat → Nat) (xr xu : Nat → Nat), xx 0 = b ∧ w = [xl xx xn xt xk xe xo xv xc xr cI (false, z0), wl xn cI wz, wl xt cI wz, wl xk cI wz, tl xe cI (z0, 0), ol xo xp cI z0, wl xp cI wz, al xv xq cI (z0, z0), wl xq cI wz, cl xc xs xw cW (0, 0, 0), wl xs cI wz, wl (xw 0) cI wz, wl (xw 1) cI wz, wl (xw 2) cI wz, wl (xw 3) cI wz, wl (xw 4) cI wz, wl (xw 5) cI wz, wl (xw 6) cI wz, wl (xw 7) cI wz, rl xr xu cI (z0, 0), wl xu cI wz]
def N_7 (cI : ClassId) (b : Nat) (w : List va_W) : Prop := ∃ m : Nat → Nat, m 0 = b ∧ w = [ml m cI wz mz]
section
variable {l : Launch} {D : va_G} {cI cW : ClassId} {own : String} {cc : ByteArray} {nL : Nat} {rm : Room} {cs sl pc pc' : Nat} {ws : List va_W} {lv lv' : List (Nat × Value)} {st : List Value} {x : GC}
theorem G.alenq (X : GOK x l D cI cW own cc nL rm) {n a : Nat} (d : DC cc pc .arraylength 1 pc') (i0 q0 : Nat) {blk : va_W} (hbk : ws[i0]? = some blk) {f : Nat → Option Nat} (he : blk[q0]? = some (a, .inl (cW, n, .inr (.inr (.inr (.inr f)))))) (k : G x cs sl ws pc' lv (.int (nI n) :: st)) : G x cs sl ws pc lv (.ref a :: st) := by
  obtain ⟨p, l', e, R, s, m, args, below, meth, c, D', nL', A, Q⟩ := x
  obtain ⟨rfl, rfl, rfl, rfl, hx, hb, hml, hown, hts, hK, hA⟩ := X
  intro H locs ls hP hD hS hl
  obtain ⟨hd, rfl⟩ := d
  obtain ⟨k9, hk9, hs9⟩ := flat_at hbk he
  exact va_alen hx hb hK.1 hP k9 1 hk9 rfl rfl hd (k H locs ls hP hD hS hl)
end

set_option maxRecDepth 20000 in
theorem tX5_init (l : Launch) (D : va_G) (cI cW : ClassId) (b : Nat) : CTA l D cI cW yX5_init cX5_init 1 ⟨1, 8, 60, 28⟩ [.ref b] [[(b, .inr (5, [.int 0, .int 0, .int 0, .int 0, .null, .null, .null, .null, .null, .null, .null, .null]))]] (N_5 cI b) := by
  refine CTA.of RX5 rfl (by decide +kernel) (Nat.le_of_ble_eq_true rfl) [(0, .ref b)] rfl (fun x X AX Rr hnm => ?_)
  refine G.al X dX5_init_0 0 rfl ?_
  refine G.oi X lX5_3 dX5_init_1 (Nat.le_of_ble_eq_true rfl) (Nat.le_of_ble_eq_true rfl) ?_
  refine G.al X dX5_init_4 0 rfl ?_
  refine G.pu X dX5_init_5 ?_
  refine G.puti X fX5_9 fe5 dX5_init_6 rfl rfl 0 0 rfl rfl (Nat.le_of_ble_eq_true rfl) (blk' := [(b, .inr (5, [.int 0, .int 0, .int 0, .int 0, .null, .null, .null, .null, .null, .null, .null, .null]))]) rfl (ws' := [[(b, .inr (5, [.int 0, .int 0, .int 0, .int 0, .null, .null, .null, .null, .null, .null, .null, .null]))]]) rfl ?_
  refine G.al X dX5_init_9 0 rfl ?_
  refine G.pu X dX5_init_10 ?_
  refine G.puti X fX5_15 fe5 dX5_init_11 rfl rfl 0 0 rfl rfl (Nat.le_of_ble_eq_true rfl) (blk' := [(b, .inr (5, [.int 0, .int 0, .int 0, .int 0, .null, .null, .null, .null, .null, .null, .null, .null]))]) rfl (ws' := [[(b, .inr (5, [.int 0, .int 0, .int 0, .int 0, .null, .null, .null, .null, .null, .null, .null, .null]))]]) rfl ?_
  refine G.al X dX5_init_14 0 rfl ?_
  refine G.pu X dX5_init_15 ?_
  refine G.puti X fX5_18 fe5 dX5_init_16 rfl rfl 0 0 rfl rfl (Nat.le_of_ble_eq_true rfl) (blk' := [(b, .inr (5, [.int 0, .int 0, .int 0, .int 0, .null, .null, .null, .null, .null, .null, .null, .null]))]) rfl (ws' := [[(b, .inr (5, [.int 0, .int 0, .int 0, .int 0, .null, .null, .null, .null, .null, .null, .null, .null]))]]) rfl ?_
  refine G.al X dX5_init_19 0 rfl ?_
  refine G.pu X dX5_init_20 ?_
  refine G.puti X fX5_21 fe5 dX5_init_21 rfl rfl 0 0 rfl rfl (Nat.le_of_ble_eq_true rfl) (blk' := [(b, .inr (5, [.int 0, .int 0, .int 0, .int 0, .null, .null, .null, .null, .null, .null, .null, .null]))]) rfl (ws' := [[(b, .inr (5, [.int 0, .int 0, .int 0, .int 0, .null, .null, .null, .null, .null, .null, .null, .null]))]]) rfl ?_
  refine G.al X dX5_init_24 0 rfl ?_
  refine G.pu X dX5_init_25 ?_
  refine G.newa X (N := 5) dX5_init_26 (by decide) (by decide) (Nat.le_of_ble_eq_true rfl) (Nat.le_of_ble_eq_true rfl) (Nat.le_of_ble_eq_true rfl) (fun q26 => ?_)
  refine G.cg (ws' := [[(b, .inr (5, [.int 0, .int 0, .int 0, .int 0, .null, .null, .null, .null, .null, .null, .null, .null]))], [(q26, .inl (cI, 5, .inl (fun _ => 0)))]]) rfl rfl rfl ?_
  refine G.putF X hnm fX5_24 fe5 dX5_init_28 rfl rfl (ty := tyX5 4) (tyX5_ok 4 (by decide)) rfl rfl 0 0 rfl rfl (Nat.le_of_ble_eq_true rfl) (blk' := [(b, .inr (5, [.int 0, .int 0, .int 0, .int 0, .ref q26, .null, .null, .null, .null, .null, .null, .null]))]) rfl (ws' := [[(b, .inr (5, [.int 0, .int 0, .int 0, .int 0, .ref q26, .null, .null, .null, .null, .null, .null, .null]))], [(q26, .inl (cI, 5, .inl (fun _ => 0)))]]) rfl ?_
  refine G.al X dX5_init_31 0 rfl ?_
  refine G.pu X dX5_init_32 ?_
  refine G.newa X (N := 5) dX5_init_33 (by decide) (by decide) (Nat.le_of_ble_eq_true rfl) (Nat.le_of_ble_eq_true rfl) (Nat.le_of_ble_eq_true rfl) (fun q33 => ?_)
  refine G.cg (ws' := [[(b, .inr (5, [.int 0, .int 0, .int 0, .int 0, .ref q26, .null, .null, .null, .null, .null, .null, .null]))], [(q26, .inl (cI, 5, .inl (fun _ => 0)))], [(q33, .inl (cI, 5, .inl (fun _ => 0)))]]) rfl rfl rfl ?_
  refine G.putF X hnm fX5_28 fe5 dX5_init_35 rfl rfl (ty := tyX5 5) (tyX5_ok 5 (by decide)) rfl rfl 0 0 rfl rfl (Nat.le_of_ble_eq_true rfl) (blk' := [(b, .inr (5, [.int 0, .int 0, .int 0, .int 0, .ref q26, .ref q33, .null, .null, .null, .null, .null, .null]))]) rfl (ws' := [[(b, .inr (5, [.int 0, .int 0, .int 0, .int 0, .ref q26, .ref q33, .null, .null, .null, .null, .null, .null]))], [(q26, .inl (cI, 5, .inl (fun _ => 0)))], [(q33, .inl (cI, 5, .inl (fun _ => 0)))]]) rfl ?_
  refine G.al X dX5_init_38 0 rfl ?_
  refine G.pu X dX5_init_39 ?_
  refine G.newa X (N := 5) dX5_init_40 (by decide) (by decide) (Nat.le_of_ble_eq_true rfl) (Nat.le_of_ble_eq_true rfl) (Nat.le_of_ble_eq_true rfl) (fun q40 => ?_)
  refine G.cg (ws' := [[(b, .inr (5, [.int 0, .int 0, .int 0, .int 0, .ref q26, .ref q33, .null, .null, .null, .null, .null, .null]))], [(q26, .inl (cI, 5, .inl (fun _ => 0)))], [(q33, .inl (cI, 5, .inl (fun _ => 0)))], [(q40, .inl (cI, 5, .inl (fun _ => 0)))]]) rfl rfl rfl ?_
  refine G.putF X hnm fX5_31 fe5 dX5_init_42 rfl rfl (ty := tyX5 6) (tyX5_ok 6 (by decide)) rfl rfl 0 0 rfl rfl (Nat.le_of_ble_eq_true rfl) (blk' := [(b, .inr (5, [.int 0, .int 0, .int 0, .int 0, .ref q26, .ref q33, .ref q40, .null, .null, .null, .null, .null]))]) rfl (ws' := [[(b, .inr (5, [.int 0, .int 0, .int 0, .int 0, .ref q26, .ref q33, .ref q40, .null, .null, .null, .null, .null]))], [(q26, .inl (cI, 5, .inl (fun _ => 0)))], [(q33, .inl (cI, 5, .inl (fun _ => 0)))], [(q40, .inl (cI, 5, .inl (fun _ => 0)))]]) rfl ?_
  refine G.al X dX5_init_45 0 rfl ?_
  refine G.pu X dX5_init_46 ?_
  refine G.newa X (N := 9) dX5_init_48 (by decide) (by decide) (Nat.le_of_ble_eq_true rfl) (Nat.le_of_ble_eq_true rfl) (Nat.le_of_ble_eq_true rfl) (fun q48 => ?_)
  refine G.cg (ws' := [[(b, .inr (5, [.int 0, .int 0, .int 0, .int 0, .ref q26, .ref q33, .ref q40, .null, .null, .null, .null, .null]))], [(q26, .inl (cI, 5, .inl (fun _ => 0)))], [(q33, .inl (cI, 5, .inl (fun _ => 0)))], [(q40, .inl (cI, 5, .inl (fun _ => 0)))], [(q48, .inl (cI, 9, .inl (fun _ => 0)))]]) rfl rfl rfl ?_
  refine G.putF X hnm fX5_34 fe5 dX5_init_50 rfl rfl (ty := tyX5 7) (tyX5_ok 7 (by decide)) rfl rfl 0 0 rfl rfl (Nat.le_of_ble_eq_true rfl) (blk' := [(b, .inr (5, [.int 0, .int 0, .int 0, .int 0, .ref q26, .ref q33, .ref q40, .ref q48, .null, .null, .null, .null]))]) rfl (ws' := [[(b, .inr (5, [.int 0, .int 0, .int 0, .int 0, .ref q26, .ref q33, .ref q40, .ref q48, .null, .null, .null, .null]))], [(q26, .inl (cI, 5, .inl (fun _ => 0)))], [(q33, .inl (cI, 5, .inl (fun _ => 0)))], [(q40, .inl (cI, 5, .inl (fun _ => 0)))], [(q48, .inl (cI, 9, .inl (fun _ => 0)))]]) rfl ?_
  refine G.al X dX5_init_53 0 rfl ?_
  refine G.pu X dX5_init_54 ?_
  refine G.newa X (N := 9) dX5_init_56 (by decide) (by decide) (Nat.le_of_ble_eq_true rfl) (Nat.le_of_ble_eq_true rfl) (Nat.le_of_ble_eq_true rfl) (fun q56 => ?_)
  refine G.cg (ws' := [[(b, .inr (5, [.int 0, .int 0, .int 0, .int 0, .ref q26, .ref q33, .ref q40, .ref q48, .null, .null, .null, .null]))], [(q26, .inl (cI, 5, .inl (fun _ => 0)))], [(q33, .inl (cI, 5, .inl (fun _ => 0)))], [(q40, .inl (cI, 5, .inl (fun _ => 0)))], [(q48, .inl (cI, 9, .inl (fun _ => 0)))], [(q56, .inl (cI, 9, .inl (fun _ => 0)))]]) rfl rfl rfl ?_
  refine G.putF X hnm fX5_37 fe5 dX5_init_58 rfl rfl (ty := tyX5 8) (tyX5_ok 8 (by decide)) rfl rfl 0 0 rfl rfl (Nat.le_of_ble_eq_true rfl) (blk' := [(b, .inr (5, [.int 0, .int 0, .int 0, .int 0, .ref q26, .ref q33, .ref q40, .ref q48, .ref q56, .null, .null, .null]))]) rfl (ws' := [[(b, .inr (5, [.int 0, .int 0, .int 0, .int 0, .ref q26, .ref q33, .ref q40, .ref q48, .ref q56, .null, .null, .null]))], [(q26, .inl (cI, 5, .inl (fun _ => 0)))], [(q33, .inl (cI, 5, .inl (fun _ => 0)))], [(q40, .inl (cI, 5, .inl (fun _ => 0)))], [(q48, .inl (cI, 9, .inl (fun _ => 0)))], [(q56, .inl (cI, 9, .inl (fun _ => 0)))]]) rfl ?_
  refine G.al X dX5_init_61 0 rfl ?_
  refine G.pu X dX5_init_62 ?_
  refine G.newa X (N := 9) dX5_init_64 (by decide) (by decide) (Nat.le_of_ble_eq_true rfl) (Nat.le_of_ble_eq_true rfl) (Nat.le_of_ble_eq_true rfl) (fun q64 => ?_)
  refine G.cg (ws' := [[(b, .inr (5, [.int 0, .int 0, .int 0, .int 0, .ref q26, .ref q33, .ref q40, .ref q48, .ref q56, .null, .null, .null]))], [(q26, .inl (cI, 5, .inl (fun _ => 0)))], [(q33, .inl (cI, 5, .inl (fun _ => 0)))], [(q40, .inl (cI, 5, .inl (fun _ => 0)))], [(q48, .inl (cI, 9, .inl (fun _ => 0)))], [(q56, .inl (cI, 9, .inl (fun _ => 0)))], [(q64, .inl (cI, 9, .inl (fun _ => 0)))]]) rfl rfl rfl ?_
  refine G.putF X hnm fX5_40 fe5 dX5_init_66 rfl rfl (ty := tyX5 9) (tyX5_ok 9 (by decide)) rfl rfl 0 0 rfl rfl (Nat.le_of_ble_eq_true rfl) (blk' := [(b, .inr (5, [.int 0, .int 0, .int 0, .int 0, .ref q26, .ref q33, .ref q40, .ref q48, .ref q56, .ref q64, .null, .null]))]) rfl (ws' := [[(b, .inr (5, [.int 0, .int 0, .int 0, .int 0, .ref q26, .ref q33, .ref q40, .ref q48, .ref q56, .ref q64, .null, .null]))], [(q26, .inl (cI, 5, .inl (fun _ => 0)))], [(q33, .inl (cI, 5, .inl (fun _ => 0)))], [(q40, .inl (cI, 5, .inl (fun _ => 0)))], [(q48, .inl (cI, 9, .inl (fun _ => 0)))], [(q56, .inl (cI, 9, .inl (fun _ => 0)))], [(q64, .inl (cI, 9, .inl (fun _ => 0)))]]) rfl ?_
  refine G.al X dX5_init_69 0 rfl ?_
  refine G.pu X dX5_init_70 ?_
  refine G.newa X (N := 9) dX5_init_72 (by decide) (by decide) (Nat.le_of_ble_eq_true rfl) (Nat.le_of_ble_eq_true rfl) (Nat.le_of_ble_eq_true rfl) (fun q72 => ?_)
  refine G.cg (ws' := [[(b, .inr (5, [.int 0, .int 0, .int 0, .int 0, .ref q26, .ref q33, .ref q40, .ref q48, .ref q56, .ref q64, .null, .null]))], [(q26, .inl (cI, 5, .inl (fun _ => 0)))], [(q33, .inl (cI, 5, .inl (fun _ => 0)))], [(q40, .inl (cI, 5, .inl (fun _ => 0)))], [(q48, .inl (cI, 9, .inl (fun _ => 0)))], [(q56, .inl (cI, 9, .inl (fun _ => 0)))], [(q64, .inl (cI, 9, .inl (fun _ => 0)))], [(q72, .inl (cI, 9, .inl (fun _ => 0)))]]) rfl rfl rfl ?_
  refine G.putF X hnm fX5_43 fe5 dX5_init_74 rfl rfl (ty := tyX5 10) (tyX5_ok 10 (by decide)) rfl rfl 0 0 rfl rfl (Nat.le_of_ble_eq_true rfl) (blk' := [(b, .inr (5, [.int 0, .int 0, .int 0, .int 0, .ref q26, .ref q33, .ref q40, .ref q48, .ref q56, .ref q64, .ref q72, .null]))]) rfl (ws' := [[(b, .inr (5, [.int 0, .int 0, .int 0, .int 0, .ref q26, .ref q33, .ref q40, .ref q48, .ref q56, .ref q64, .ref q72, .null]))], [(q26, .inl (cI, 5, .inl (fun _ => 0)))], [(q33, .inl (cI, 5, .inl (fun _ => 0)))], [(q40, .inl (cI, 5, .inl (fun _ => 0)))], [(q48, .inl (cI, 9, .inl (fun _ => 0)))], [(q56, .inl (cI, 9, .inl (fun _ => 0)))], [(q64, .inl (cI, 9, .inl (fun _ => 0)))], [(q72, .inl (cI, 9, .inl (fun _ => 0)))]]) rfl ?_
  refine G.al X dX5_init_77 0 rfl ?_
  refine G.pu X dX5_init_78 ?_
  refine G.newa X (N := 9) dX5_init_80 (by decide) (by decide) (Nat.le_of_ble_eq_true rfl) (Nat.le_of_ble_eq_true rfl) (Nat.le_of_ble_eq_true rfl) (fun q80 => ?_)
  refine G.cg (ws' := [[(b, .inr (5, [.int 0, .int 0, .int 0, .int 0, .ref q26, .ref q33, .ref q40, .ref q48, .ref q56, .ref q64, .ref q72, .null]))], [(q26, .inl (cI, 5, .inl (fun _ => 0)))], [(q33, .inl (cI, 5, .inl (fun _ => 0)))], [(q40, .inl (cI, 5, .inl (fun _ => 0)))], [(q48, .inl (cI, 9, .inl (fun _ => 0)))], [(q56, .inl (cI, 9, .inl (fun _ => 0)))], [(q64, .inl (cI, 9, .inl (fun _ => 0)))], [(q72, .inl (cI, 9, .inl (fun _ => 0)))], [(q80, .inl (cI, 9, .inl (fun _ => 0)))]]) rfl rfl rfl ?_
  refine G.putF X hnm fX5_46 fe5 dX5_init_82 rfl rfl (ty := tyX5 11) (tyX5_ok 11 (by decide)) rfl rfl 0 0 rfl rfl (Nat.le_of_ble_eq_true rfl) (blk' := [(b, .inr (5, [.int 0, .int 0, .int 0, .int 0, .ref q26, .ref q33, .ref q40, .ref q48, .ref q56, .ref q64, .ref q72, .ref q80]))]) rfl (ws' := [[(b, .inr (5, [.int 0, .int 0, .int 0, .int 0, .ref q26, .ref q33, .ref q40, .ref q48, .ref q56, .ref q64, .ref q72, .ref q80]))], [(q26, .inl (cI, 5, .inl (fun _ => 0)))], [(q33, .inl (cI, 5, .inl (fun _ => 0)))], [(q40, .inl (cI, 5, .inl (fun _ => 0)))], [(q48, .inl (cI, 9, .inl (fun _ => 0)))], [(q56, .inl (cI, 9, .inl (fun _ => 0)))], [(q64, .inl (cI, 9, .inl (fun _ => 0)))], [(q72, .inl (cI, 9, .inl (fun _ => 0)))], [(q80, .inl (cI, 9, .inl (fun _ => 0)))]]) rfl ?_
  refine G.sub [0, 1, 2, 3, 4, 5, 6, 7, 8] rfl (ws' := [[(b, .inr (5, [.int 0, .int 0, .int 0, .int 0, .ref q26, .ref q33, .ref q40, .ref q48, .ref q56, .ref q64, .ref q72, .ref q80]))], [(q26, .inl (cI, 5, .inl (fun _ => 0)))], [(q33, .inl (cI, 5, .inl (fun _ => 0)))], [(q40, .inl (cI, 5, .inl (fun _ => 0)))], [(q48, .inl (cI, 9, .inl (fun _ => 0)))], [(q56, .inl (cI, 9, .inl (fun _ => 0)))], [(q64, .inl (cI, 9, .inl (fun _ => 0)))], [(q72, .inl (cI, 9, .inl (fun _ => 0)))], [(q80, .inl (cI, 9, .inl (fun _ => 0)))]]) rfl ?_
  refine G.cgf (ws' := [wl (fun k => [b, q26, q33, q40, q48, q56, q64, q72, q80].getD k 0) cI wz]) rfl ?_
  exact G.vret X Rr dX5_init_85 ⟨rfl, (fun k => [b, q26, q33, q40, q48, q56, q64, q72, q80].getD k 0), rfl, rfl⟩

set_option maxRecDepth 20000 in
theorem tX2_init (l : Launch) (D : va_G) (cI cW : ClassId) (b : Nat) : CTA l D cI cW yX2_init cX2_init 1 ⟨1, 1, 96, 28⟩ [.ref b] [[(b, .inr (2, [.null, .int 0]))]] (N_2 cI b) := by
  refine CTA.of RX2 rfl (by decide +kernel) (Nat.le_of_ble_eq_true rfl) [(0, .ref b)] rfl (fun x X AX Rr hnm => ?_)
  refine G.al X dX2_init_0 0 rfl ?_
  refine G.oi X lX2_3 dX2_init_1 (Nat.le_of_ble_eq_true rfl) (Nat.le_of_ble_eq_true rfl) ?_
  refine G.al X dX2_init_4 0 rfl ?_
  refine G.pu X dX2_init_5 ?_
  refine G.newa X (N := 96) dX2_init_7 (by decide) (by decide) (Nat.le_of_ble_eq_true rfl) (Nat.le_of_ble_eq_true rfl) (Nat.le_of_ble_eq_true rfl) (fun q7 => ?_)
  refine G.cg (ws' := [[(b, .inr (2, [.null, .int 0]))], [(q7, .inl (cI, 96, .inl (fun _ => 0)))]]) rfl rfl rfl ?_
  refine G.putF X hnm fX2_9 fe2 dX2_init_9 rfl rfl (ty := tyX2 0) (tyX2_ok 0 (by decide)) rfl rfl 0 0 rfl rfl (Nat.le_of_ble_eq_true rfl) (blk' := [(b, .inr (2, [.ref q7, .int 0]))]) rfl (ws' := [[(b, .inr (2, [.ref q7, .int 0]))], [(q7, .inl (cI, 96, .inl (fun _ => 0)))]]) rfl ?_
  refine G.al X dX2_init_12 0 rfl ?_
  refine G.pu X dX2_init_13 ?_
  refine G.puti X fX2_15 fe2 dX2_init_14 rfl rfl 0 0 rfl rfl (Nat.le_of_ble_eq_true rfl) (blk' := [(b, .inr (2, [.ref q7, .int 0]))]) rfl (ws' := [[(b, .inr (2, [.ref q7, .int 0]))], [(q7, .inl (cI, 96, .inl (fun _ => 0)))]]) rfl ?_
  refine G.sub [0, 1] rfl (ws' := [[(b, .inr (2, [.ref q7, .int 0]))], [(q7, .inl (cI, 96, .inl (fun _ => 0)))]]) rfl ?_
  refine G.cgf (ws' := [tl (fun k => [b, q7].getD k 0) cI (z0, 0)]) rfl ?_
  exact G.vret X Rr dX2_init_17 ⟨rfl, (fun k => [b, q7].getD k 0), rfl, rfl⟩

set_option maxRecDepth 20000 in
theorem tX3_init (l : Launch) (D : va_G) (cI cW : ClassId) (b : Nat) : CTA l D cI cW yX3_init cX3_init 1 ⟨2, 10, 81, 48⟩ [.ref b] [[(b, .inr (3, [.null, .null]))]] (N_3 cI b) := by
  refine CTA.of RX3 rfl (by decide +kernel) (Nat.le_of_ble_eq_true rfl) [(0, .ref b)] rfl (fun x X AX Rr hnm => ?_)
  refine G.al X dX3_init_0 0 rfl ?_
  refine G.oi X lX3_3 dX3_init_1 (Nat.le_of_ble_eq_true rfl) (Nat.le_of_ble_eq_true rfl) ?_
  refine G.al X dX3_init_4 0 rfl ?_
  refine G.new X nX3_9 iX5 zX5 uw5 (ci := 5) rfl tyX5 tyX5_ok (fs := [.int 0, .int 0, .int 0, .int 0, .null, .null, .null, .null, .null, .null, .null, .null]) (fun j hj => by rcases (show j = 0 ∨ j = 1 ∨ j = 2 ∨ j = 3 ∨ j = 4 ∨ j = 5 ∨ j = 6 ∨ j = 7 ∨ j = 8 ∨ j = 9 ∨ j = 10 ∨ j = 11 by omega) with rfl | rfl | rfl | rfl | rfl | rfl | rfl | rfl | rfl | rfl | rfl | rfl <;> rfl) dX3_init_5 (Nat.le_of_ble_eq_true rfl) (Nat.le_of_ble_eq_true rfl) (fun q5 => ?_)
  refine G.cg (ws' := [[(b, .inr (3, [.null, .null]))], [(q5, .inr (5, [.int 0, .int 0, .int 0, .int 0, .null, .null, .null, .null, .null, .null, .null, .null]))]]) rfl rfl rfl ?_
  refine G.dupr X dX3_init_8 ?_
  refine G.cin X AX kX5_init (fun U h => h.2.2.2.1) dX3_init_9 (tX5_init l D cI cW q5) ⟨Nat.le_of_ble_eq_true rfl, Nat.le_of_ble_eq_true rfl⟩ ⟨Nat.le_of_ble_eq_true rfl, Nat.le_of_ble_eq_true rfl⟩ [1] [0] rfl (wr := [[(b, .inr (3, [.null, .null]))]]) rfl rfl rfl (by decide) (Nat.le_of_ble_eq_true rfl) rfl rfl (fun w9 h9 => ?_)
  obtain ⟨a1, rfl, rfl⟩ := h9
  refine G.cg (ws' := [wl a1 cI wz, [(b, .inr (3, [.null, .null]))]]) rfl rfl rfl ?_
  refine G.putF X hnm fX3_12 fe3 dX3_init_12 rfl rfl (ty := tyX3 0) (tyX3_ok 0 (by decide)) rfl rfl 1 0 rfl rfl (Nat.le_of_ble_eq_true rfl) (blk' := [(b, .inr (3, [.ref (a1 0), .null]))]) rfl (ws' := [wl a1 cI wz, [(b, .inr (3, [.ref (a1 0), .null]))]]) rfl ?_
  refine G.al X dX3_init_15 0 rfl ?_
  refine G.pu X dX3_init_16 ?_
  refine G.newa X (N := 9) dX3_init_18 (by decide) (by decide) (Nat.le_of_ble_eq_true rfl) (Nat.le_of_ble_eq_true rfl) (Nat.le_of_ble_eq_true rfl) (fun q18 => ?_)
  refine G.cg (ws' := [wl a1 cI wz, [(b, .inr (3, [.ref (a1 0), .null]))], [(q18, .inl (cI, 9, .inl (fun _ => 0)))]]) rfl rfl rfl ?_
  refine G.putF X hnm fX3_18 fe3 dX3_init_20 rfl rfl (ty := tyX3 1) (tyX3_ok 1 (by decide)) rfl rfl 1 0 rfl rfl (Nat.le_of_ble_eq_true rfl) (blk' := [(b, .inr (3, [.ref (a1 0), .ref q18]))]) rfl (ws' := [wl a1 cI wz, [(b, .inr (3, [.ref (a1 0), .ref q18]))], [(q18, .inl (cI, 9, .inl (fun _ => 0)))]]) rfl ?_
  refine G.sub [1, 2, 0] rfl (ws' := [[(b, .inr (3, [.ref (a1 0), .ref q18]))], [(q18, .inl (cI, 9, .inl (fun _ => 0)))], wl a1 cI wz]) rfl ?_
  refine G.cgf (ws' := [ol (fun k => [b, q18].getD k 0) a1 cI z0, wl a1 cI wz]) rfl ?_
  exact G.vret X Rr dX3_init_23 ⟨rfl, (fun k => [b, q18].getD k 0), a1, rfl, rfl⟩

set_option maxRecDepth 20000 in
theorem tX0_init (l : Launch) (D : va_G) (cI cW : ClassId) (b : Nat) : CTA l D cI cW yX0_init cX0_init 1 ⟨2, 11, 80, 48⟩ [.ref b] [[(b, .inr (0, [.null, .null, .null]))]] (N_0 cI b) := by
  refine CTA.of RX0 rfl (by decide +kernel) (Nat.le_of_ble_eq_true rfl) [(0, .ref b)] rfl (fun x X AX Rr hnm => ?_)
  refine G.al X dX0_init_0 0 rfl ?_
  refine G.oi X lX0_3 dX0_init_1 (Nat.le_of_ble_eq_true rfl) (Nat.le_of_ble_eq_true rfl) ?_
  refine G.al X dX0_init_4 0 rfl ?_
  refine G.new X nX0_9 iX5 zX5 uw5 (ci := 5) rfl tyX5 tyX5_ok (fs := [.int 0, .int 0, .int 0, .int 0, .null, .null, .null, .null, .null, .null, .null, .null]) (fun j hj => by rcases (show j = 0 ∨ j = 1 ∨ j = 2 ∨ j = 3 ∨ j = 4 ∨ j = 5 ∨ j = 6 ∨ j = 7 ∨ j = 8 ∨ j = 9 ∨ j = 10 ∨ j = 11 by omega) with rfl | rfl | rfl | rfl | rfl | rfl | rfl | rfl | rfl | rfl | rfl | rfl <;> rfl) dX0_init_5 (Nat.le_of_ble_eq_true rfl) (Nat.le_of_ble_eq_true rfl) (fun q5 => ?_)
  refine G.cg (ws' := [[(b, .inr (0, [.null, .null, .null]))], [(q5, .inr (5, [.int 0, .int 0, .int 0, .int 0, .null, .null, .null, .null, .null, .null, .null, .null]))]]) rfl rfl rfl ?_
  refine G.dupr X dX0_init_8 ?_
  refine G.cin X AX kX5_init (fun U h => h.2.2.2.2.2.1) dX0_init_9 (tX5_init l D cI cW q5) ⟨Nat.le_of_ble_eq_true rfl, Nat.le_of_ble_eq_true rfl⟩ ⟨Nat.le_of_ble_eq_true rfl, Nat.le_of_ble_eq_true rfl⟩ [1] [0] rfl (wr := [[(b, .inr (0, [.null, .null, .null]))]]) rfl rfl rfl (by decide) (Nat.le_of_ble_eq_true rfl) rfl rfl (fun w9 h9 => ?_)
  obtain ⟨a1, rfl, rfl⟩ := h9
  refine G.cg (ws' := [wl a1 cI wz, [(b, .inr (0, [.null, .null, .null]))]]) rfl rfl rfl ?_
  refine G.putF X hnm fX0_12 fe0 dX0_init_12 rfl rfl (ty := tyX0 0) (tyX0_ok 0 (by decide)) rfl rfl 1 0 rfl rfl (Nat.le_of_ble_eq_true rfl) (blk' := [(b, .inr (0, [.ref (a1 0), .null, .null]))]) rfl (ws' := [wl a1 cI wz, [(b, .inr (0, [.ref (a1 0), .null, .null]))]]) rfl ?_
  refine G.al X dX0_init_15 0 rfl ?_
  refine G.pu X dX0_init_16 ?_
  refine G.newa X (N := 4) dX0_init_17 (by decide) (by decide) (Nat.le_of_ble_eq_true rfl) (Nat.le_of_ble_eq_true rfl) (Nat.le_of_ble_eq_true rfl) (fun q17 => ?_)
  refine G.cg (ws' := [wl a1 cI wz, [(b, .inr (0, [.ref (a1 0), .null, .null]))], [(q17, .inl (cI, 4, .inl (fun _ => 0)))]]) rfl rfl rfl ?_
  refine G.putF X hnm fX0_18 fe0 dX0_init_19 rfl rfl (ty := tyX0 1) (tyX0_ok 1 (by decide)) rfl rfl 1 0 rfl rfl (Nat.le_of_ble_eq_true rfl) (blk' := [(b, .inr (0, [.ref (a1 0), .ref q17, .null]))]) rfl (ws' := [wl a1 cI wz, [(b, .inr (0, [.ref (a1 0), .ref q17, .null]))], [(q17, .inl (cI, 4, .inl (fun _ => 0)))]]) rfl ?_
  refine G.al X dX0_init_22 0 rfl ?_
  refine G.pu X dX0_init_23 ?_
  refine G.newa X (N := 4) dX0_init_24 (by decide) (by decide) (Nat.le_of_ble_eq_true rfl) (Nat.le_of_ble_eq_true rfl) (Nat.le_of_ble_eq_true rfl) (fun q24 => ?_)
  refine G.cg (ws' := [wl a1 cI wz, [(b, .inr (0, [.ref (a1 0), .ref q17, .null]))], [(q17, .inl (cI, 4, .inl (fun _ => 0)))], [(q24, .inl (cI, 4, .inl (fun _ => 0)))]]) rfl rfl rfl ?_
  refine G.putF X hnm fX0_22 fe0 dX0_init_26 rfl rfl (ty := tyX0 2) (tyX0_ok 2 (by decide)) rfl rfl 1 0 rfl rfl (Nat.le_of_ble_eq_true rfl) (blk' := [(b, .inr (0, [.ref (a1 0), .ref q17, .ref q24]))]) rfl (ws' := [wl a1 cI wz, [(b, .inr (0, [.ref (a1 0), .ref q17, .ref q24]))], [(q17, .inl (cI, 4, .inl (fun _ => 0)))], [(q24, .inl (cI, 4, .inl (fun _ => 0)))]]) rfl ?_
  refine G.sub [1, 2, 3, 0] rfl (ws' := [[(b, .inr (0, [.ref (a1 0), .ref q17, .ref q24]))], [(q17, .inl (cI, 4, .inl (fun _ => 0)))], [(q24, .inl (cI, 4, .inl (fun _ => 0)))], wl a1 cI wz]) rfl ?_
  refine G.cgf (ws' := [al (fun k => [b, q17, q24].getD k 0) a1 cI (z0, z0), wl a1 cI wz]) rfl ?_
  exact G.vret X Rr dX0_init_29 ⟨rfl, (fun k => [b, q17, q24].getD k 0), a1, rfl, rfl⟩

set_option maxRecDepth 20000 in
theorem tX4_init (l : Launch) (D : va_G) (cI cW : ClassId) (b : Nat) : CTA l D cI cW yX4_init cX4_init 1 ⟨2, 10, 88, 48⟩ [.ref b] [[(b, .inr (4, [.null, .null, .int 0]))]] (N_4 cI b) := by
  refine CTA.of RX4 rfl (by decide +kernel) (Nat.le_of_ble_eq_true rfl) [(0, .ref b)] rfl (fun x X AX Rr hnm => ?_)
  refine G.al X dX4_init_0 0 rfl ?_
  refine G.oi X lX4_3 dX4_init_1 (Nat.le_of_ble_eq_true rfl) (Nat.le_of_ble_eq_true rfl) ?_
  refine G.al X dX4_init_4 0 rfl ?_
  refine G.new X nX4_9 iX5 zX5 uw5 (ci := 5) rfl tyX5 tyX5_ok (fs := [.int 0, .int 0, .int 0, .int 0, .null, .null, .null, .null, .null, .null, .null, .null]) (fun j hj => by rcases (show j = 0 ∨ j = 1 ∨ j = 2 ∨ j = 3 ∨ j = 4 ∨ j = 5 ∨ j = 6 ∨ j = 7 ∨ j = 8 ∨ j = 9 ∨ j = 10 ∨ j = 11 by omega) with rfl | rfl | rfl | rfl | rfl | rfl | rfl | rfl | rfl | rfl | rfl | rfl <;> rfl) dX4_init_5 (Nat.le_of_ble_eq_true rfl) (Nat.le_of_ble_eq_true rfl) (fun q5 => ?_)
  refine G.cg (ws' := [[(b, .inr (4, [.null, .null, .int 0]))], [(q5, .inr (5, [.int 0, .int 0, .int 0, .int 0, .null, .null, .null, .null, .null, .null, .null, .null]))]]) rfl rfl rfl ?_
  refine G.dupr X dX4_init_8 ?_
  refine G.cin X AX kX5_init (fun U h => h.2.2.2.2.2.2.2.2.1) dX4_init_9 (tX5_init l D cI cW q5) ⟨Nat.le_of_ble_eq_true rfl, Nat.le_of_ble_eq_true rfl⟩ ⟨Nat.le_of_ble_eq_true rfl, Nat.le_of_ble_eq_true rfl⟩ [1] [0] rfl (wr := [[(b, .inr (4, [.null, .null, .int 0]))]]) rfl rfl rfl (by decide) (Nat.le_of_ble_eq_true rfl) rfl rfl (fun w9 h9 => ?_)
  obtain ⟨a1, rfl, rfl⟩ := h9
  refine G.cg (ws' := [wl a1 cI wz, [(b, .inr (4, [.null, .null, .int 0]))]]) rfl rfl rfl ?_
  refine G.putF X hnm fX4_12 fe4 dX4_init_12 rfl rfl (ty := tyX4 0) (tyX4_ok 0 (by decide)) rfl rfl 1 0 rfl rfl (Nat.le_of_ble_eq_true rfl) (blk' := [(b, .inr (4, [.ref (a1 0), .null, .int 0]))]) rfl (ws' := [wl a1 cI wz, [(b, .inr (4, [.ref (a1 0), .null, .int 0]))]]) rfl ?_
  refine G.al X dX4_init_15 0 rfl ?_
  refine G.pu X dX4_init_16 ?_
  refine G.newa X (N := 16) dX4_init_18 (by decide) (by decide) (Nat.le_of_ble_eq_true rfl) (Nat.le_of_ble_eq_true rfl) (Nat.le_of_ble_eq_true rfl) (fun q18 => ?_)
  refine G.cg (ws' := [wl a1 cI wz, [(b, .inr (4, [.ref (a1 0), .null, .int 0]))], [(q18, .inl (cI, 16, .inl (fun _ => 0)))]]) rfl rfl rfl ?_
  refine G.putF X hnm fX4_18 fe4 dX4_init_20 rfl rfl (ty := tyX4 1) (tyX4_ok 1 (by decide)) rfl rfl 1 0 rfl rfl (Nat.le_of_ble_eq_true rfl) (blk' := [(b, .inr (4, [.ref (a1 0), .ref q18, .int 0]))]) rfl (ws' := [wl a1 cI wz, [(b, .inr (4, [.ref (a1 0), .ref q18, .int 0]))], [(q18, .inl (cI, 16, .inl (fun _ => 0)))]]) rfl ?_
  refine G.al X dX4_init_23 0 rfl ?_
  refine G.pu X dX4_init_24 ?_
  refine G.puti X fX4_22 fe4 dX4_init_25 rfl rfl 1 0 rfl rfl (Nat.le_of_ble_eq_true rfl) (blk' := [(b, .inr (4, [.ref (a1 0), .ref q18, .int 0]))]) rfl (ws' := [wl a1 cI wz, [(b, .inr (4, [.ref (a1 0), .ref q18, .int 0]))], [(q18, .inl (cI, 16, .inl (fun _ => 0)))]]) rfl ?_
  refine G.sub [1, 2, 0] rfl (ws' := [[(b, .inr (4, [.ref (a1 0), .ref q18, .int 0]))], [(q18, .inl (cI, 16, .inl (fun _ => 0)))], wl a1 cI wz]) rfl ?_
  refine G.cgf (ws' := [rl (fun k => [b, q18].getD k 0) a1 cI (z0, 0), wl a1 cI wz]) rfl ?_
  exact G.vret X Rr dX4_init_28 ⟨rfl, (fun k => [b, q18].getD k 0), a1, rfl, rfl⟩
