-- the law: its script, its start
def GX (x : GC) (b L : Nat) (xs : Nat → Int32) : Prop := match x with
  | (_, _, _, _, s, _, _, _, _, _, _, _, A, _) => va_X b L xs s s.heap ∧ b < s.heap.size ∧ ¬ A b
section
variable {l : Launch} {D : va_G} {cI cW : ClassId} {own : String} {cc : ByteArray} {nL : Nat} {rm : Room} {cs sl pc pc' : Nat} {ws : List va_W} {lv lv' : List (Nat × Value)} {st : List Value} {x : GC} {b L : Nat} {xs : Nat → Int32}
theorem G.sld (X : GOK x l D cI cW own cc nL rm) (hX : GX x b L xs) {i : Nat} (d : DC cc pc .iaload 1 pc') (hi : i < L) (hL : L < 2 ^ 31) (k : G x cs sl ws pc' lv (.int (xs i) :: st)) : G x cs sl ws pc lv (.int (nI i) :: .ref b :: st) := by
  obtain ⟨p, l', e, R, s, m, args, below, meth, c, D', nL', A, Q⟩ := x
  obtain ⟨rfl, rfl, rfl, rfl, hx, hb, hml, hown, hts, hK, hA⟩ := X
  intro H locs ls hP hD hS hl
  obtain ⟨hd, rfl⟩ := d
  obtain ⟨h1, h2, h3⟩ := hX
  have hc9 : (nI i).toNatClampNeg = i := nI_clamp (by omega)
  refine va_sld hx hb h1 h2 h3 hS (i := nI i) ?_ hd ?_
  · rintro (h | h)
    · exact nI_pos (by omega) h
    · rw [hc9] at h; omega
  · rw [hc9]
    exact k H locs ls hP hD hS hl
theorem G.slen (X : GOK x l D cI cW own cc nL rm) (hX : GX x b L xs) (d : DC cc pc .arraylength 1 pc') (k : G x cs sl ws pc' lv (.int (nI L) :: st)) : G x cs sl ws pc lv (.ref b :: st) := by
  obtain ⟨p, l', e, R, s, m, args, below, meth, c, D', nL', A, Q⟩ := x
  obtain ⟨rfl, rfl, rfl, rfl, hx, hb, hml, hown, hts, hK, hA⟩ := X
  intro H locs ls hP hD hS hl
  obtain ⟨hd, rfl⟩ := d
  obtain ⟨h1, h2, h3⟩ := hX
  exact va_slen hx hb h1 h2 h3 hS hd (k H locs ls hP hD hS hl)
end
theorem lw_more {i L : Nat} (hi : i ≤ 3000) (hL : L ≤ 2560) : (nI L - 5 < nI i) ↔ L < i + 5 := by
  rw [Int32.lt_iff_toInt_lt, nI_toInt (by omega)]
  by_cases h : 5 ≤ L
  · obtain ⟨r, rfl⟩ : ∃ r, L = 5 + r := ⟨L - 5, by omega⟩
    have e : nI (5 + r) - 5 = nI r := by
      rw [← nI_add]
      show nI 5 + nI r - 5 = nI r
      have : nI 5 = 5 := rfl
      rw [this]
      grind
    rw [e, nI_toInt (by omega)]
    omega
  · have h5 : ∀ r : Fin 5, (nI r.val - 5).toInt < 0 := by decide
    have := h5 ⟨L, by omega⟩
    constructor
    · intro _; omega
    · intro _
      have h6 : (nI L - 5).toInt < 0 := this
      omega
theorem kx_of {s : State} {a : Array Value} (hts : ∀ w ∈ lw_tbl, w.before a s = true) : ∃ (D : va_G) (cI cW : ClassId), KX D cI cW s ∧ va_AO RX5 s := by
  have ht : ∀ w ∈ tT, w.before a s = true := fun w hw => hts w (tT_tbl hw)
  obtain ⟨c0, s0, k0⟩ := u_known (C := RX0) (T := TX0) (N := 3) (n := 3) ht uw0 (ht _ iX0)
  obtain ⟨c1, s1, k1⟩ := u_known (C := RX1) (T := TX1) (N := 5) (n := 5) ht uw1 (ht _ iX1)
  obtain ⟨c2, s2, k2⟩ := u_known (C := RX2) (T := TX2) (N := 2) (n := 2) ht uw2 (ht _ iX2)
  obtain ⟨c3, s3, k3⟩ := u_known (C := RX3) (T := TX3) (N := 2) (n := 2) ht uw3 (ht _ iX3)
  obtain ⟨c4, s4, k4⟩ := u_known (C := RX4) (T := TX4) (N := 3) (n := 3) ht uw4 (ht _ iX4)
  obtain ⟨c5, s5, k5⟩ := u_known (C := RX5) (T := TX5) (N := 12) (n := 12) ht uw5 (ht _ iX5)
  obtain ⟨c6, s6, k6⟩ := u_known (C := RX6) (T := TX6) (N := 10) (n := 10) ht uw6 (ht _ iX6)
  obtain ⟨c7, s7, k7⟩ := u_known (C := RX7) (T := TX7) (N := 29) (n := 29) ht uw7 (ht _ iX7)
  have hAO : va_AO RX5 s := va_AO.of (hts _ (mT1 145 rfl))
  obtain ⟨cI, kI, pI, f1, f2, f3⟩ := Cond.arrayClass_spec (ht _ va_arrI)
  obtain ⟨pW, cW, kW, g1, g2, g3, g4, g5⟩ := Cond.arrayOver_spec hAO
  refine ⟨(fun k => [c0, c1, c2, c3, c4, c5, c6, c7].getD k c0, fun k => [s0, s1, s2, s3, s4, s5, s6, s7].getD k s0), cI, cW, ⟨⟨fun k q hq => ?_, fun k q hq => ?_⟩, NX.of hts⟩, hAO⟩
  · match k, hq with
    | 0, hq => cases hq; exact k0
    | 1, hq => cases hq; exact k1
    | 2, hq => cases hq; exact k2
    | 3, hq => cases hq; exact k3
    | 4, hq => cases hq; exact k4
    | 5, hq => cases hq; exact k5
    | 6, hq => cases hq; exact k6
    | 7, hq => cases hq; exact k7
    | k + 8, hq => simp at hq
  · match k, hq with
    | 0, hq => cases hq; exact ⟨fun n z => ⟨fun k h => (by cases h), kI, f2, pI, f3⟩, f1⟩
    | 1, hq => cases hq; exact ⟨fun n z => ⟨fun k h => (by cases h), kW, g3, pW, g4⟩, kW, pW, g3, g4, g1, g5⟩
    | k + 2, hq => simp at hq
