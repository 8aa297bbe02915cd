-- small helps for the model's rows
def qk {b : Nat} {M N : MS} (h : Mq b M N) : {N : MS // Mq b M N} := ⟨N, h⟩
def qk2 {b : Nat} {M N : MS} {v : Int32} (h : Mq b M N) (g : m_lr N = v) : {N : MS // Mq b M N ∧ m_lr N = v} := ⟨N, h, g⟩
theorem Mq.dn {b c : Nat} {M N : MS} (h : Mq c M N) (hb : b ≤ c) : Mq b M N := ⟨h.1, h.2.1, h.2.2.1, h.2.2.2.1, h.2.2.2.2.1, h.2.2.2.2.2.1, h.2.2.2.2.2.2.1, fun j hj => h.2.2.2.2.2.2.2 j (by omega)⟩
theorem Mq.co {b : Nat} {M N : MS} (h : Mq b M N) (hc : m_co M = false) : m_co N = false := h.2.1.trans hc
def m_lrs (M : MS) (v : Int32) : MS := (m_rf M, m_co M, m_tx M, m_lt M, m_la M, m_to M, m_tn M, m_at M, m_st M, m_kp M, m_hi M, m_kg M, m_cu M, v, m_ge M, m_rw M, m_rn M)
theorem mq_lrs (b : Nat) (M : MS) (v : Int32) : Mq b M (m_lrs M v) := ⟨rfl, rfl, rfl, rfl, rfl, rfl, rfl, fun _ _ => rfl⟩
def m_ges (M : MS) (g : FN) : MS := (m_rf M, m_co M, m_tx M, m_lt M, m_la M, m_to M, m_tn M, m_at M, m_st M, m_kp M, m_hi M, m_kg M, m_cu M, m_lr M, g, m_rw M, m_rn M)
theorem mq_ges (b : Nat) (M : MS) (g : FN) : Mq b M (m_ges M g) := ⟨rfl, rfl, rfl, rfl, rfl, rfl, rfl, fun _ _ => rfl⟩
def m_cos (M : MS) (c : Bool) : MS := (m_rf M, c, m_tx M, m_lt M, m_la M, m_to M, m_tn M, m_at M, m_st M, m_kp M, m_hi M, m_kg M, m_cu M, m_lr M, m_ge M, m_rw M, m_rn M)
theorem mq_cos {b : Nat} {M N : MS} {c : Bool} (h : Mq b M N) (hc : m_co M = c) : Mq b M (m_cos N c) := ⟨h.1, hc.symm, h.2.2.1, h.2.2.2.1, h.2.2.2.2.1, h.2.2.2.2.2.1, h.2.2.2.2.2.2.1, h.2.2.2.2.2.2.2⟩
def m_rns (M : MS) (n : Nat) : MS := (m_rf M, m_co M, m_tx M, m_lt M, m_la M, m_to M, m_tn M, m_at M, m_st M, m_kp M, m_hi M, m_kg M, m_cu M, m_lr M, m_ge M, m_rw M, n)
def m_rwa (M : MS) (v : Int32) : MS := (m_rf M, m_co M, m_tx M, m_lt M, m_la M, m_to M, m_tn M, m_at M, m_st M, m_kp M, m_hi M, m_kg M, m_cu M, m_lr M, m_ge M, upd (m_rw M) (m_rn M) v, m_rn M + 1)
def m_txa (M : MS) (v : Int32) : MS := (m_rf M, m_co M, upd (m_tx M) (m_tn M) v, m_lt M, m_la M, m_to M, m_tn M + 1, m_at M, m_st M, m_kp M, m_hi M, m_kg M, m_cu M, m_lr M, m_ge M, m_rw M, m_rn M)
def m_img (M : MS) : MS := (m_rf M, m_co M, m_tx M, m_lt M, m_la M, m_to M, m_tn M, m_at M, m_st M, m_kp M, true, m_kg M, m_cu M, m_lr M, m_ge M, m_rw M, m_rn M)
theorem zbt_no {w : Int32} {n : Nat} (h : z_in w (n + 1) = false) (hn : n < 2 ^ 30) : z_bt w 0 (nI n) = false := by
  by_cases h0 : w < 0
  · simp [z_bt, h0]
  · obtain ⟨j, hj, rfl⟩ := nI_of h0
    simp only [z_in, h0, decide_false, Bool.not_false, Bool.true_and, decide_eq_false_iff_not] at h
    have h2 : ¬ j < n + 1 := fun q => h (nI_lt q (by omega))
    simp [z_bt, nI_lt (show n < j by omega) hj]
theorem zbt_out {v lo hi : Int32} (h : v < lo ∨ hi < v) : z_bt v lo hi = false := by
  rcases h with h | h <;> simp [z_bt, h]
theorem nI_mulc (a b : Nat) : nI a * nI b = nI (a * b) := (Int32.ofNat_mul a b).symm
theorem nI_divc {a c : Nat} (ha : a < 2 ^ 31) (hc : 0 < c) (hc2 : c < 2 ^ 31) : nI a / nI c = nI (a / c) := by
  apply Int32.toInt_inj.mp
  rw [Int32.toInt_div_of_ne_right _ _ (by
    intro e
    have := congrArg Int32.toInt e
    rw [nI_toInt hc2] at this
    have h2 : (-1 : Int32).toInt = -1 := by decide
    rw [h2] at this
    omega), nI_toInt ha, nI_toInt hc2, nI_toInt (by have := Nat.div_le_self a c; omega)]
  exact (Int.ofNat_tdiv a c).symm
theorem nI_modc {a c : Nat} (ha : a < 2 ^ 31) (hc : 0 < c) (hc2 : c < 2 ^ 31) : rm32 (nI a) (nI c) = nI (a % c) := by
  unfold rm32
  rw [nI_divc ha hc hc2, nI_mulc]
  have h := Nat.div_add_mod a c
  have h6 : nI a = nI (a / c * c) + nI (a % c) := by
    rw [nI_add]
    congr 1
    rw [Nat.mul_comm]
    exact h.symm
  conv => lhs; lhs; rw [h6]
  rw [Int32.add_comm, Int32.add_sub_cancel]
theorem upd_back (f : FN) (k : Nat) (x : Int32) : upd (upd f k x) k (f k) = f := by
  funext j
  unfold upd
  by_cases h : j = k <;> simp [h]
theorem bld_back (S : WS) (k : Nat) : r_5 (w_bld S k) (upd (s_sh (w_bld S k)) k (s_sh S k)) = S := by
  show (s_pe S, s_th S, s_da S, s_dr S, s_kn S, upd (upd (s_sh S) k 0) k (s_sh S k), s_an S, s_ki S, s_we S, s_dp S, s_wa S, s_le S) = S
  rw [upd_back]
theorem out_back (S : WS) (k : Nat) : r_11 (w_out S k) (upd (s_le (w_out S k)) k (s_le S k)) = S := by
  show (s_pe S, s_th S, s_da S, s_dr S, s_kn S, s_sh S, s_an S, s_ki S, s_we S, s_dp S, s_wa S, upd (upd (s_le S) k 0) k (s_le S k)) = S
  rw [upd_back]
theorem tau_back (S : WS) (p : Nat) (t : Int32) : r_4 (w_tau S p t) (upd (s_kn (w_tau S p t)) p (s_kn S p)) = S := by
  show (s_pe S, s_th S, s_da S, s_dr S, upd (upd (s_kn S) p (s_kn S p ||| (1 <<< (t &&& 31)))) p (s_kn S p), s_sh S, s_an S, s_ki S, s_we S, s_dp S, s_wa S, s_le S) = S
  rw [upd_back]
theorem wet_1 (S : WS) (k : Nat) : nI (w_wet S (k + 1)) = nI (w_wet S k) + b2i (w_wat (w_dayN S (k + 1))) := by
  rw [w_wet]
  cases w_wat (w_dayN S (k + 1))
  · simp [b2i]
  · simp only [if_true, b2i]
    exact (nI_1 _).symm
/-- the best place by a comparison: the first, unless a later one beats it -/
def bix (P : Nat → Bool) (lt : Nat → Nat → Bool) : Nat → Option Nat
  | 0 => none
  | k + 1 => if P k then (match bix P lt k with
    | none => some k
    | some j => if lt j k then some k else some j) else bix P lt k
theorem bix_lt {P : Nat → Bool} {lt : Nat → Nat → Bool} : ∀ {k j : Nat}, bix P lt k = some j → j < k
  | 0, _, h => by cases h
  | k + 1, j, h => by
    unfold bix at h
    split at h
    · split at h
      · cases h; omega
      · rename_i i hi
        have := bix_lt hi
        split at h <;> cases h <;> omega
    · have := bix_lt h
      omega
def obv (f : Nat → Nat) : Option Nat → Int32
  | none => -9
  | some j => nI (f j)
def w_late (S : WS) (t : Nat) : Int32 := if o2i (fi (w_qz S t) 100) < 0 then 1000 else o2i (fi (w_qz S t) 100)
def w_isf (S : WS) (w : Nat) : Bool := if w = 0 then !w_wat S else if w = 1 then w_wat S else decide (sumf (s_le S) (s_th S) = 0)
/-- the model's lesson: all below 10 * people, in one row -/
def m_te (S : WS) (n : Nat) : Nat → Int32 × Int32
  | 0 => (-9, nI (w_wet S n))
  | k + 1 => if k % 10 < 8 ∧ (m_te S n k).2 < nI (w_wet (w_tau S (k / 10) (nI (k % 10))) n) then (nI k, nI (w_wet (w_tau S (k / 10) (nI (k % 10))) n)) else m_te S n k
/-- the model's pairs, from the last one down -/
def m_al1 (S : WS) (r : Nat) (z : Nat × Int32) : Nat → Nat × Int32
  | 0 => z
  | j + 1 => if top S r = top S (s_th S - 1 - j) then ((m_al1 S r z j).1 + 1, 10 * nI r + nI (s_th S - 1 - j)) else m_al1 S r z j
def m_al (S : WS) : Nat → Nat × Int32
  | 0 => (0, -9)
  | k + 1 => m_al1 S (s_th S - 1 - k) (m_al S k) k
section
variable {l : Launch} {D : va_G} {cI cW : ClassId} {own : String} {cc : ByteArray} {nL : Nat} {rm : Room} {cs sl pc pc' : Nat} {ws : List va_W} {lv : List (Nat × Value)} {st : List Value} {x : GC}
theorem b2i_1 {q : Bool} : b2i q = 1 ↔ q = true := by cases q <;> decide
theorem G.b1_ne (X : GOK x l D cI cW own cc nL rm) {q : Bool} {off : Int} {tgt : Nat} (d : DJ cc pc (.if_icmp .ne off) off tgt pc') (kt : q = false → G x cs sl ws tgt lv st) (kf : q = true → G x cs sl ws pc' lv st) : G x cs sl ws pc lv (.int 1 :: .int (b2i q) :: st) := G.c_ne X d (fun h => kt (by simpa [b2i_1] using h)) (fun h => kf (b2i_1.mp h))
end
