-- the letters
def l_sg (q : FN × Nat) (k : Nat) : Int32 := if k < q_n q then q_f q k else 48
def l_dg (q : FN × Nat) (k : Nat) : Int32 := l_sg q k - 48
def l_d2 (q : FN × Nat) (k : Nat) : Int32 := 10 * l_dg q k + l_dg q (k + 1)
def l_sb (h : Int32) : Int32 := if h = 112 then 4 else if h = 116 then 3 else if h = 100 ∨ h = 107 then 2 else if h = 97 ∨ h = 111 then 1 else 0
def l_kt (c : Int32) : Int32 := if c = 115 then 0 else if c = 114 then 1 else if c = 99 then 2 else if c = 104 then 3 else if c = 112 then 4 else if c = 98 then 5 else -9
def l_can (c h i : Int32) : Bool := if i = 0 then decide (0 < l_sb h) else if l_sb h < i then decide (c = 59) else if h = 116 ∧ i = 1 then z_in (l_kt c) 6 else (!decide (c < 48) && !decide (57 < c))
def l_hd (f : FN) (k : Nat) (z : Int32 × Int32) : Int32 := if z.2 = 0 then f k else z.1
def l_st (f : FN) : Nat → Int32 × Int32
  | 0 => (0, 0)
  | k + 1 => (l_hd f k (l_st f k), if (l_st f k).2 = l_sb (l_hd f k (l_st f k)) + 1 then 0 else (l_st f k).2 + 1)
def l_ok (f : FN) (k : Nat) : Bool := l_can (f k) (l_hd f k (l_st f k)) (l_st f k).2
def l_wl (q : FN × Nat) : Int32 := match fi (fun j => !l_ok (q_f q) j) (q_n q) with
  | some j => nI j
  | none => if q_n q = 0 ∨ ¬ (l_st (q_f q) (q_n q)).2 = 0 then nI (q_n q) else -1
def l_beg (q : FN × Nat) (k : Nat) : Bool := decide (k = 0) || decide (l_sg q (k - 1) = 59)
def l_cnt (q : FN × Nat) : Nat → Nat
  | 0 => 0
  | k + 1 => if l_beg q k then l_cnt q k + 1 else l_cnt q k
theorem l_cnt_le (q : FN × Nat) : ∀ n, l_cnt q n ≤ n
  | 0 => Nat.le_refl _
  | k + 1 => by
    have := l_cnt_le q k
    unfold l_cnt
    split <;> omega
def w_dr (S : WS) (v : Int32) : WS := (s_pe S, s_th S, s_da S, v, s_kn S, s_sh S, s_an S, s_ki S, s_we S, s_dp S, s_wa S, s_le S)
/-- a statement at k comes into the well, or not -/
def l_com (q : FN × Nat) (k : Nat) (S : WS) : Bool × WS :=
  if l_sg q k = 112 then (if s_pe S < 5 ∧ ¬ 255 < 10 * l_d2 q (k + 2) + l_dg q (k + 4) then (true, w_one S (l_dg q (k + 1)) (10 * l_d2 q (k + 2) + l_dg q (k + 4))) else (false, S))
  else if l_sg q k = 116 then (if s_th S < 9 ∧ z_in (l_dg q (k + 3)) (s_pe S) = true then (true, w_add S (l_kt (l_sg q (k + 1))) (l_dg q (k + 2)) (l_dg q (k + 3))) else (false, S))
  else if l_sg q k = 97 then (if z_in (l_dg q (k + 1)) (s_th S) = true then (true, w_fall S (l_dg q (k + 1)).toNatClampNeg) else (false, S))
  else if l_sg q k = 107 then (if z_in (l_dg q (k + 1)) (s_pe S) = true ∧ z_in (l_dg q (k + 2)) 8 = true then (true, w_lrn S (l_dg q (k + 1)).toNatClampNeg (l_dg q (k + 2))) else (false, S))
  else if l_sg q k = 100 then (if ¬ l_d2 q (k + 1) < 1 ∧ ¬ 60 < l_d2 q (k + 1) ∧ ¬ 999 < s_da S + l_d2 q (k + 1) then (true, w_dayN S (l_d2 q (k + 1)).toNatClampNeg) else (false, S))
  else if l_sg q k = 111 then (true, w_dr S (l_dg q (k + 1)))
  else (false, S)
def l_go (q : FN × Nat) (S : WS) : Nat → WS
  | 0 => S
  | k + 1 => if l_beg q k then (l_com q k (l_go q S k)).2 else l_go q S k
def l_bad (q : FN × Nat) (S : WS) (k : Nat) : Bool := l_beg q k && !(l_com q k (l_go q S k)).1
def l_ws (q : FN × Nat) (S : WS) : Int32 := match fi (l_bad q S) (q_n q) with
  | some j => nI j
  | none => -1
def l_end (q : FN × Nat) (S : WS) : Nat := match fi (l_bad q S) (q_n q) with
  | some j => j + 1
  | none => q_n q
theorem z_bad2 {w : Int32} (h : z_in w 2 = false) : w < 0 ∨ 1 < w := by
  by_cases h0 : w < 0
  · exact Or.inl h0
  · right
    simp only [z_in, h0, decide_false, Bool.not_false, Bool.true_and, decide_eq_false_iff_not] at h
    obtain ⟨j, hj, rfl⟩ := nI_of h0
    have h2 : ¬ j < 2 := fun q => h (nI_lt q (by decide))
    exact nI_lt (a := 1) (by omega) (by omega)
theorem z_ne {w : Int32} {m v : Nat} (h : z_in w m = false) (hv : v < m) (hm : m < 2 ^ 31) : ¬ w = nI v := fun e => by
  rw [e, z_in_nI hv hm] at h
  cases h
theorem n_in60 {v : Int32} (h1 : ¬ v < 1) (h2 : ¬ 60 < v) : ∃ j, (1 ≤ j ∧ j ≤ 60) ∧ v = nI j := by
  have a1 : ¬ v.toInt < 1 := fun q => h1 (Int32.lt_iff_toInt_lt.mpr (by rw [show (1 : Int32).toInt = 1 from by decide]; exact q))
  have a2 : ¬ 60 < v.toInt := fun q => h2 (Int32.lt_iff_toInt_lt.mpr (by rw [show (60 : Int32).toInt = 60 from by decide]; exact q))
  refine ⟨v.toInt.toNat, by omega, Int32.toInt_inj.mp ?_⟩
  rw [nI_toInt (by omega)]
  omega
-- numbers
def l_pow (t : Int64) : Nat → Int64
  | 0 => 1
  | k + 1 => l_pow t k * t
def l_it (a b : Int64) : Nat → Int64 × Int64
  | 0 => (a, b)
  | k + 1 => if (l_it a b k).2 = 0 then l_it a b k else ((l_it a b k).2, (l_it a b k).1 - (l_it a b k).1 / (l_it a b k).2 * (l_it a b k).2)
theorem l_it_z {a b : Int64} {k : Nat} (h : (l_it a b k).2 = 0) : ∀ d, l_it a b (k + d) = l_it a b k
  | 0 => rfl
  | d + 1 => by
    show (if (l_it a b (k + d)).2 = 0 then l_it a b (k + d) else _) = _
    rw [l_it_z h d, if_pos h]
def l_part (up dn : Int64) (part : Int32) : Int64 := if 0 < (l_it dn up 128).1 then (if part = 0 then up else dn) / (l_it dn up 128).1 else (if part = 0 then up else dn)
theorem lg_eq0 {x y : Int64} : lg_cmp x y = 0 ↔ x = y := by
  unfold lg_cmp
  by_cases h1 : y < x
  · simp only [h1, if_true]
    constructor
    · intro h; exact absurd h (by decide)
    · intro h; subst h; exact absurd h1 (Int64.lt_irrefl)
  · by_cases h2 : x = y
    · simp [h2]
    · simp only [h1, if_false, h2]
      constructor
      · intro h; exact absurd h (by decide)
      · intro h; exact h.elim
theorem lg_pos {x y : Int64} : 0 < lg_cmp x y ↔ y < x := by
  unfold lg_cmp
  by_cases h1 : y < x
  · simp only [h1, if_true]
    exact ⟨fun _ => trivial, fun _ => by decide⟩
  · by_cases h2 : x = y
    · simp [h2]
    · simp only [h1, if_false, h2]
      exact ⟨fun h => absurd h (by decide), fun h => h.elim⟩
section
variable {l : Launch} {D : va_G} {cI cW : ClassId} {own : String} {cc : ByteArray} {nL : Nat} {rm : Room} {cs sl pc pc' : Nat} {ws : List va_W} {lv : List (Nat × Value)} {st : List Value} {x : GC}
theorem G.l_eq (X : GOK x l D cI cW own cc nL rm) {a b : Int64} {off : Int} {tgt : Nat} (d : DJ cc pc (.ifCond .eq off) off tgt pc') (kt : a = b → G x cs sl ws tgt lv st) (kf : ¬ a = b → G x cs sl ws pc' lv st) : G x cs sl ws pc lv (.int (lg_cmp a b) :: st) := G.z_eq X d (fun h => kt (lg_eq0.mp h)) (fun h => kf (fun q => h (lg_eq0.mpr q)))
theorem G.nz_eq (X : GOK x l D cI cW own cc nL rm) {a : Nat} (ha : a < 2 ^ 31) {off : Int} {tgt : Nat} (d : DJ cc pc (.ifCond .eq off) off tgt pc') (kt : a = 0 → G x cs sl ws tgt lv st) (kf : ¬ a = 0 → G x cs sl ws pc' lv st) : G x cs sl ws pc lv (.int (nI a) :: st) := G.z_eq X d (fun h => kt ((nI_eq (b := 0) ha (by decide)).mp h)) (fun h => kf (fun q => h (by rw [q]; rfl)))
theorem G.nz_ne (X : GOK x l D cI cW own cc nL rm) {a : Nat} (ha : a < 2 ^ 31) {off : Int} {tgt : Nat} (d : DJ cc pc (.ifCond .ne off) off tgt pc') (kt : ¬ a = 0 → G x cs sl ws tgt lv st) (kf : a = 0 → G x cs sl ws pc' lv st) : G x cs sl ws pc lv (.int (nI a) :: st) := G.z_ne X d (fun h => kt (fun q => h (by rw [q]; rfl))) (fun h => kf ((nI_eq (b := 0) ha (by decide)).mp h))
theorem G.l_ne (X : GOK x l D cI cW own cc nL rm) {a b : Int64} {off : Int} {tgt : Nat} (d : DJ cc pc (.ifCond .ne off) off tgt pc') (kt : ¬ a = b → G x cs sl ws tgt lv st) (kf : a = b → G x cs sl ws pc' lv st) : G x cs sl ws pc lv (.int (lg_cmp a b) :: st) := G.z_ne X d (fun h => kt (fun q => h (lg_eq0.mpr q))) (fun h => kf (lg_eq0.mp h))
theorem G.l_le (X : GOK x l D cI cW own cc nL rm) {a b : Int64} {off : Int} {tgt : Nat} (d : DJ cc pc (.ifCond .le off) off tgt pc') (kt : ¬ b < a → G x cs sl ws tgt lv st) (kf : b < a → G x cs sl ws pc' lv st) : G x cs sl ws pc lv (.int (lg_cmp a b) :: st) := G.z_le X d (fun h => kt (fun q => h (lg_pos.mpr q))) (fun h => kf (lg_pos.mp h))
end
abbrev x_h (Z : Bool × FN) : Bool := Z.1
abbrev x_f (Z : Bool × FN) : FN := Z.2
def x_rf (Z : Bool × FN) (j : Nat) : Bool × FN := (x_h Z, upd (x_f Z) j (x_f Z j + 1))
def xl (x xn xt xk xe xo xv xc xr : Nat → Nat) (cI : ClassId) (Z : Bool × FN) : va_W := [(x 0, .inr (6, [.ref (xn 0), .ref (xt 0), .ref (xk 0), .int (b2i (x_h Z)), .ref (xe 0), .ref (xo 0), .ref (xv 0), .ref (xc 0), .ref (xr 0), .ref (x 1)])), (x 1, .inl (cI, 7, .inl (x_f Z)))]
theorem xl_fst (x xn xt xk xe xo xv xc xr : Nat → Nat) (cI : ClassId) (Z Y : Bool × FN) : (xl x xn xt xk xe xo xv xc xr cI Z).map Prod.fst = (xl x xn xt xk xe xo xv xc xr cI Y).map Prod.fst := rfl
def w_tb (S : WS) : Nat → Int32
  | 0 => 0
  | k + 1 => if ask S k then w_tb S k ||| (1 <<< (top S k &&& 31)) else w_tb S k
def w_tr (S : WS) : Nat → Nat
  | 0 => 0
  | k + 1 => if w_kno S k then w_tr S k + 1 else w_tr S k
theorem w_tr_le (S : WS) : ∀ n, w_tr S n ≤ n
  | 0 => Nat.le_refl _
  | k + 1 => by
    have := w_tr_le S k
    unfold w_tr
    split <;> omega
theorem bmin_at (f : FN) (z : Int32 × Int32) : ∀ m, bmin f z m = z ∨ ∃ p, p < m ∧ bmin f z m = (nI p, f p)
  | 0 => Or.inl rfl
  | m + 1 => by
    unfold bmin
    split
    · exact Or.inr ⟨m, by omega, rfl⟩
    · rcases bmin_at f z m with h | ⟨p, h1, h2⟩
      · exact Or.inl h
      · exact Or.inr ⟨p, by omega, h2⟩
theorem bmin_hit (f : FN) (z : Int32 × Int32) (h0 : f 0 < z.2) : ∀ m, 0 < m → ∃ p, p < m ∧ bmin f z m = (nI p, f p)
  | 0, h => absurd h (by omega)
  | m + 1, _ => by
    unfold bmin
    split
    · exact ⟨m, by omega, rfl⟩
    · rename_i hn
      by_cases hm : m = 0
      · subst hm; exact absurd h0 hn
      · obtain ⟨p, h1, h2⟩ := bmin_hit f z h0 m (by omega)
        exact ⟨p, by omega, h2⟩
theorem drop_who (S : WS) (kd w : Int32) (n : Nat) (hp : 0 < s_pe S) (hn : n < 2 ^ 30) : ∃ p, p < s_pe S ∧ bmin (fun p => nI (w_wet (w_add S kd w (nI p)) n)) (-9, nI (n + 1)) (s_pe S) = (nI p, nI (w_wet (w_add S kd w (nI p)) n)) := by
  refine bmin_hit _ _ ?_ _ hp
  have := w_wet_le (w_add S kd w (nI 0)) n
  exact nI_lt (by omega) (by omega)
theorem nI_ne9 {j : Nat} (h : j < 2 ^ 31) : ¬ nI j = -9 := fun e => by
  have h1 := congrArg Int32.toInt e
  rw [nI_toInt h] at h1
  have h2 : (-9 : Int32).toInt = -9 := by decide
  omega
