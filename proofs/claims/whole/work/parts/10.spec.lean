abbrev FN : Type := Nat → Int32
/-- a well: people, things, date, dryness; knows, shyness, answered; kind, weight, dropper, wait, left -/
abbrev WS : Type := Nat × Nat × Int32 × Int32 × FN × FN × FN × FN × FN × FN × FN × FN
def s_pe (S : WS) : Nat := S.1
def s_th (S : WS) : Nat := S.2.1
def s_da (S : WS) : Int32 := S.2.2.1
def s_dr (S : WS) : Int32 := S.2.2.2.1
def s_kn (S : WS) : FN := S.2.2.2.2.1
def s_sh (S : WS) : FN := S.2.2.2.2.2.1
def s_an (S : WS) : FN := S.2.2.2.2.2.2.1
def s_ki (S : WS) : FN := S.2.2.2.2.2.2.2.1
def s_we (S : WS) : FN := S.2.2.2.2.2.2.2.2.1
def s_dp (S : WS) : FN := S.2.2.2.2.2.2.2.2.2.1
def s_wa (S : WS) : FN := S.2.2.2.2.2.2.2.2.2.2.1
def s_le (S : WS) : FN := S.2.2.2.2.2.2.2.2.2.2.2
/-- a well's nine cells at the addresses a 0 .. a 8 -/
def wl (a : Nat → Nat) (cI : ClassId) (S : WS) : va_W := [(a 0, .inr (5, [.int (nI (s_pe S)), .int (nI (s_th S)), .int (s_da S), .int (s_dr S), .ref (a 1), .ref (a 2), .ref (a 3), .ref (a 4), .ref (a 5), .ref (a 6), .ref (a 7), .ref (a 8)])),
  (a 1, .inl (cI, 5, .inl (s_kn S))), (a 2, .inl (cI, 5, .inl (s_sh S))), (a 3, .inl (cI, 5, .inl (s_an S))), (a 4, .inl (cI, 9, .inl (s_ki S))), (a 5, .inl (cI, 9, .inl (s_we S))), (a 6, .inl (cI, 9, .inl (s_dp S))), (a 7, .inl (cI, 9, .inl (s_wa S))), (a 8, .inl (cI, 9, .inl (s_le S)))]
def rm32 (a b : Int32) : Int32 := a - a / b * b
def z_in (p : Int32) (n : Nat) : Bool := !decide (p < 0) && decide (p < nI n)
/-- the topic of a kind and weight -/
def t_of (k w : Int32) : Int32 := if k = 2 ∨ k = 3 then 7 - rm32 w 8 else if k = 5 then 0 else rm32 w 8
def r_of (k w d : Int32) : Int32 := if k = 1 then w / 3 + 1 + 1 else if k = 4 then 2 * (w / 3 + 1 + 1) else if k = 3 ∨ k = 5 then w / 3 + 1 + d else w / 3 + 1
def n_of (k w : Int32) : Int32 := if k = 2 ∨ k = 3 then 2 else if k = 4 then 1 + w / 4 else if k = 5 then 4 else 1
def ask (S : WS) (i : Nat) : Bool := decide (s_wa S i = 0) && decide (0 < s_le S i)
def hasb (v t : Int32) : Bool := decide ((v >>> (t &&& 31)) &&& 1 = 1)
def top (S : WS) (i : Nat) : Int32 := t_of (s_ki S i) (s_we S i)
def askb (S : WS) : Nat → Int32
  | 0 => 0
  | k + 1 => if ask S k then askb S k ||| (1 <<< (nI k &&& 31)) else askb S k
