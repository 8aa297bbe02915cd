abbrev q_f (q : FN × Nat) : FN := q.1
abbrev q_n (q : FN × Nat) : Nat := q.2
abbrev g_1 (q : FN × FN) : FN := q.1
abbrev g_2 (q : FN × FN) : FN := q.2
abbrev k_s (q : Int32 × Int32 × Int32) : Int32 := q.1
abbrev k_w (q : Int32 × Int32 × Int32) : Int32 := q.2.1
abbrev k_a (q : Int32 × Int32 × Int32) : Int32 := q.2.2
def ol (o b : Nat → Nat) (cI : ClassId) (q : FN) : va_W := [(o 0, .inr (3, [.ref (b 0), .ref (o 1)])), (o 1, .inl (cI, 9, .inl q))]
def al (o b : Nat → Nat) (cI : ClassId) (q : FN × FN) : va_W := [(o 0, .inr (0, [.ref (b 0), .ref (o 1), .ref (o 2)])), (o 1, .inl (cI, 4, .inl (g_1 q))), (o 2, .inl (cI, 4, .inl (g_2 q)))]
def rl (o b : Nat → Nat) (cI : ClassId) (q : FN × Nat) : va_W := [(o 0, .inr (4, [.ref (b 0), .ref (o 1), .int (nI (q_n q))])), (o 1, .inl (cI, 16, .inl (q_f q)))]
def tl (o : Nat → Nat) (cI : ClassId) (q : FN × Nat) : va_W := [(o 0, .inr (2, [.ref (o 1), .int (nI (q_n q))])), (o 1, .inl (cI, 96, .inl (q_f q)))]
def cl (o b : Nat → Nat) (w : Nat → Nat → Nat) (cW : ClassId) (q : Int32 × Int32 × Int32) : va_W := [(o 0, .inr (1, [.ref (b 0), .ref (o 1), .int (k_s q), .int (k_w q), .int (k_a q)])), (o 1, .inl (cW, 8, .inr (.inr (.inr (.inr (fun k => some (w k 0)))))))]
theorem ol_fst (o b : Nat → Nat) (cI : ClassId) (q r : FN) : (ol o b cI q).map Prod.fst = (ol o b cI r).map Prod.fst := rfl
theorem al_fst (o b : Nat → Nat) (cI : ClassId) (q r : FN × FN) : (al o b cI q).map Prod.fst = (al o b cI r).map Prod.fst := rfl
theorem rl_fst (o b : Nat → Nat) (cI : ClassId) (q r : FN × Nat) : (rl o b cI q).map Prod.fst = (rl o b cI r).map Prod.fst := rfl
theorem tl_fst (o : Nat → Nat) (cI : ClassId) (q r : FN × Nat) : (tl o cI q).map Prod.fst = (tl o cI r).map Prod.fst := rfl
theorem cl_fst (o b : Nat → Nat) (w : Nat → Nat → Nat) (cW : ClassId) (q r : Int32 × Int32 × Int32) : (cl o b w cW q).map Prod.fst = (cl o b w cW r).map Prod.fst := rfl
def o2i : Option Nat → Int32
  | none => -9
  | some d => nI d
/-- the number of bits, as the library counts it -/
def bc1 (v : Int32) : Int32 := v - ((v.toUInt32 >>> (Int32.toUInt32 1 &&& Int32.toUInt32 31)).toInt32 &&& 1431655765)
def bc2 (v : Int32) : Int32 := (v &&& 858993459) + ((v.toUInt32 >>> (Int32.toUInt32 2 &&& Int32.toUInt32 31)).toInt32 &&& 858993459)
def bc3 (v : Int32) : Int32 := (v + (v.toUInt32 >>> (Int32.toUInt32 4 &&& Int32.toUInt32 31)).toInt32) &&& 252645135
def bc4 (v : Int32) : Int32 := v + (v.toUInt32 >>> (Int32.toUInt32 8 &&& Int32.toUInt32 31)).toInt32
def bc5 (v : Int32) : Int32 := v + (v.toUInt32 >>> (Int32.toUInt32 16 &&& Int32.toUInt32 31)).toInt32
def bc (v : Int32) : Int32 := bc5 (bc4 (bc3 (bc2 (bc1 v)))) &&& 63
def w_lsum (S : WS) : Nat → Int32
  | 0 => 0
  | k + 1 => w_lsum S k + bc (w_les S (nI k) (s_th S))
/-- the last k below n, with P, that beats all before it, and its value -/
def bmax (P : Nat → Bool) (f : Nat → Int32) (z : Int32 × Int32) : Nat → Int32 × Int32
  | 0 => z
  | k + 1 => if P k = true ∧ (bmax P f z k).2 < f k then (nI k, f k) else bmax P f z k
def bmin (f : Nat → Int32) (z : Int32 × Int32) : Nat → Int32 × Int32
  | 0 => z
  | k + 1 => if f k < (bmin f z k).2 then (nI k, f k) else bmin f z k
def yes : Nat → Bool := fun _ => true
def w_p2 (S : WS) (i j : Nat) : Bool := decide (i < j) && decide (top S i = top S j)
def w_al1 (S : WS) (i : Nat) (z : Nat) : Nat → Nat
  | 0 => z
  | j + 1 => if w_p2 S i j then w_al1 S i z j + 1 else w_al1 S i z j
def w_al (S : WS) : Nat → Nat
  | 0 => 0
  | i + 1 => w_al1 S i (w_al S i) (s_th S)
theorem w_al1_0 (S : WS) (i z : Nat) : ∀ j, j ≤ i + 1 → w_al1 S i z j = z
  | 0, _ => rfl
  | j + 1, h => by
    unfold w_al1
    have h1 : w_p2 S i j = false := by simp [w_p2, show ¬ i < j by omega]
    rw [h1, w_al1_0 S i z j (by omega)]
    simp
theorem w_al1_le (S : WS) (i z : Nat) : ∀ j, w_al1 S i z j ≤ z + j
  | 0 => Nat.le_refl _
  | j + 1 => by
    have := w_al1_le S i z j
    unfold w_al1
    split <;> omega
theorem w_al_le (S : WS) : ∀ i, w_al S i ≤ i * s_th S
  | 0 => by simp [w_al]
  | i + 1 => by
    have h1 := w_al_le S i
    have h2 := w_al1_le S i (w_al S i) (s_th S)
    unfold w_al
    rw [Nat.succ_mul]
    omega
def w_f2 (S : WS) (i : Nat) : Option Nat := fi (w_p2 S i) (s_th S)
/-- the first two things that ask one topic -/
def w_ft (S : WS) : Int32 := match fi (fun i => (w_f2 S i).isSome) (s_th S) with
  | none => -9
  | some i => match w_f2 S i with
    | none => -9
    | some j => 10 * nI i + nI j
theorem fi_none' {P : Nat → Bool} : ∀ {n : Nat}, fi P n = none → ∀ j, j < n → P j = false
  | 0, _, j, hj => absurd hj (by omega)
  | n + 1, h, j, hj => by
    unfold fi at h
    split at h
    · cases h
    · rename_i hn
      by_cases hp : P n = true
      · rw [if_pos hp] at h; cases h
      · rcases Nat.lt_or_ge j n with q | q
        · exact fi_none' hn j q
        · have : j = n := by omega
          subst this
          simpa using hp
-- what a changed well is
def w_tau (S : WS) (p : Nat) (t : Int32) : WS := (s_pe S, s_th S, s_da S, s_dr S, upd (s_kn S) p (s_kn S p ||| (1 <<< (t &&& 31))), s_sh S, s_an S, s_ki S, s_we S, s_dp S, s_wa S, s_le S)
def w_sil (S : WS) (p : Nat) : WS := (s_pe S, s_th S, s_da S, s_dr S, upd (s_kn S) p 0, s_sh S, s_an S, s_ki S, s_we S, s_dp S, s_wa S, s_le S)
def w_bld (S : WS) (p : Nat) : WS := (s_pe S, s_th S, s_da S, s_dr S, s_kn S, upd (s_sh S) p 0, s_an S, s_ki S, s_we S, s_dp S, s_wa S, s_le S)
def w_out (S : WS) (i : Nat) : WS := (s_pe S, s_th S, s_da S, s_dr S, s_kn S, s_sh S, s_an S, s_ki S, s_we S, s_dp S, s_wa S, upd (s_le S) i 0)
def w_kw (S : WS) (i : Nat) (k w : Int32) : WS := (s_pe S, s_th S, s_da S, s_dr S, s_kn S, s_sh S, s_an S, upd (s_ki S) i k, upd (s_we S) i w, s_dp S, s_wa S, s_le S)
def w_who (S : WS) (i : Nat) (b : Int32) : WS := (s_pe S, s_th S, s_da S, s_dr S, s_kn S, s_sh S, s_an S, s_ki S, s_we S, upd (s_dp S) i b, s_wa S, s_le S)
theorem ok_tau {S : WS} (h : Ok S) (p : Nat) (t : Int32) : Ok (w_tau S p t) := h
theorem ok_sil {S : WS} (h : Ok S) (p : Nat) : Ok (w_sil S p) := h
theorem upd_all {f : FN} {i n b : Nat} {x : Int32} (h : ∀ j, j < n → ∃ q, q ≤ b ∧ f j = nI q) (hx : ∃ q, q ≤ b ∧ x = nI q) : ∀ j, j < n → ∃ q, q ≤ b ∧ upd f i x j = nI q := fun j hj => by
  unfold upd
  by_cases e : j = i
  · rw [if_pos e]; exact hx
  · rw [if_neg e]; exact h j hj
theorem ok_bld {S : WS} (h : Ok S) (p : Nat) : Ok (w_bld S p) := by
  obtain ⟨h1, h2, h3, h4, h5, h6, h7, h8⟩ := h
  exact ⟨h1, h2, h3, upd_all h4 ⟨0, by omega, rfl⟩, h5, h6, h7, h8⟩
theorem ok_out {S : WS} (h : Ok S) (i : Nat) : Ok (w_out S i) := by
  obtain ⟨h1, h2, h3, h4, h5, h6, h7, h8⟩ := h
  exact ⟨h1, h2, h3, h4, upd_all h5 ⟨0, by omega, rfl⟩, h6, h7, h8⟩
theorem ok_kw {S : WS} (h : Ok S) (i : Nat) {k w : Int32} (hk : ∃ q, q ≤ 5 ∧ k = nI q) (hw : ∃ q, q ≤ 9 ∧ w = nI q) : Ok (w_kw S i k w) := by
  obtain ⟨h1, h2, h3, h4, h5, h6, h7, h8⟩ := h
  exact ⟨h1, h2, h3, h4, h5, h6, upd_all h7 hw, upd_all h8 hk⟩
theorem ok_who {S : WS} (h : Ok S) (i : Nat) {b : Int32} (hb : ∃ q, q < s_pe S ∧ b = nI q) : Ok (w_who S i b) := by
  obtain ⟨h1, h2, h3, h4, h5, h6, h7, h8⟩ := h
  refine ⟨h1, h2, fun j hj => ?_, h4, h5, h6, h7, h8⟩
  show ∃ q, q < s_pe S ∧ upd (s_dp S) i b j = nI q
  unfold upd
  by_cases e : j = i
  · rw [if_pos e]; exact hb
  · rw [if_neg e]; exact h3 j hj
theorem n_of_ok {k w : Int32} (hw : ∃ q, q ≤ 9 ∧ w = nI q) : ∃ j, j ≤ 4 ∧ n_of k w = nI j := by
  obtain ⟨q, hq, rfl⟩ := hw
  unfold n_of
  by_cases h1 : k = 2 ∨ k = 3
  · rw [if_pos h1]; exact ⟨2, by omega, rfl⟩
  rw [if_neg h1]
  by_cases h2 : k = 4
  · rw [if_pos h2]
    have : ∀ q, q ≤ 9 → ∃ j, j ≤ 4 ∧ 1 + nI q / 4 = nI j := by
      intro q hq
      have h9 : q < 10 := by omega
      have : ∀ q : Fin 10, ∃ j : Fin 5, 1 + nI q.val / 4 = nI j.val := by decide
      obtain ⟨j, hj⟩ := this ⟨q, h9⟩
      exact ⟨j.val, by omega, hj⟩
    exact this q hq
  rw [if_neg h2]
  by_cases h3 : k = 5
  · rw [if_pos h3]; exact ⟨4, by omega, rfl⟩
  rw [if_neg h3]
  exact ⟨1, by omega, rfl⟩
theorem ok_fall {S : WS} (h : Ok S) {i : Nat} (hi : i < s_th S) : Ok (w_fall S i) := by
  have hn := n_of_ok (k := s_ki S i) (h.we hi)
  obtain ⟨h1, h2, h3, h4, h5, h6, h7, h8⟩ := h
  exact ⟨h1, h2, h3, h4, upd_all h5 hn, h6, h7, h8⟩
theorem ok_add {S : WS} (h : Ok S) (hth : s_th S < 9) {k w b : Int32} (hk : ∃ q, q ≤ 5 ∧ k = nI q) (hw : ∃ q, q ≤ 9 ∧ w = nI q) (hb : ∃ q, q < s_pe S ∧ b = nI q) : Ok (w_add S k w b) := by
  have hn := n_of_ok (k := k) hw
  obtain ⟨h1, h2, h3, h4, h5, h6, h7, h8⟩ := h
  have ext : ∀ (f : FN) (x : Int32) (P : Int32 → Prop), (∀ j, j < s_th S → P (f j)) → P x → ∀ j, j < s_th S + 1 → P (upd f (s_th S) x j) := by
    intro f x P hf hx j hj
    unfold upd
    by_cases e : j = s_th S
    · rw [if_pos e]; exact hx
    · rw [if_neg e]; exact hf j (by omega)
  refine ⟨h1, show s_th S + 1 ≤ 9 by omega, ?_, h4, ?_, h6, ?_, ?_⟩
  · exact ext (s_dp S) b (fun v => ∃ q, q < s_pe S ∧ v = nI q) h3 hb
  · refine ext (s_le S) (n_of (upd (s_ki S) (s_th S) k (s_th S)) (upd (s_we S) (s_th S) w (s_th S))) (fun v => ∃ q, q ≤ 4 ∧ v = nI q) h5 ?_
    simpa [upd] using hn
  · exact ext (s_we S) w (fun v => ∃ q, q ≤ 9 ∧ v = nI q) h7 hw
  · exact ext (s_ki S) k (fun v => ∃ q, q ≤ 5 ∧ v = nI q) h8 hk
-- the outlook
def w_qz (S : WS) (t d : Nat) : Bool := decide (s_le (w_dayN S d) t = 0)
def w_qd (S : WS) (t d : Nat) : Int32 := match fi (w_qz S t) d with
  | some e => nI e
  | none => 100
def w_q0 (S : WS) (d : Nat) : FN := fun j => if j < s_th S then w_qd S j d else 100
def w_q1 (S : WS) (d i : Nat) : FN := fun j => if j < i then w_qd S j (d + 1) else w_q0 S d j
theorem w_q1_0 (S : WS) (d : Nat) : w_q1 S d 0 = w_q0 S d := by
  funext j
  simp [w_q1]
theorem w_q1_th (S : WS) (d : Nat) : w_q1 S d (s_th S) = w_q0 S (d + 1) := by
  funext j
  simp only [w_q1, w_q0]
  by_cases h : j < s_th S <;> simp [h]
theorem w_q1_at (S : WS) (d i : Nat) (hi : i < s_th S) : w_q1 S d i i = w_qd S i d := by
  simp [w_q1, w_q0, hi]
theorem w_qd_1 (S : WS) (t d : Nat) : w_qd S t (d + 1) = match fi (w_qz S t) d with
  | some e => nI e
  | none => if w_qz S t d then nI d else 100 := by
  unfold w_qd
  rw [fi]
  cases h : fi (w_qz S t) d with
  | some e => rfl
  | none =>
    dsimp only
    by_cases hp : w_qz S t d = true
    · simp [hp]
    · simp [hp]
theorem w_q1_same (S : WS) (d i : Nat) (hi : i < s_th S) (h : w_qd S i (d + 1) = w_qd S i d) : w_q1 S d (i + 1) = w_q1 S d i := by
  funext j
  simp only [w_q1]
  by_cases h1 : j < i
  · rw [if_pos h1, if_pos (by omega)]
  · rw [if_neg h1]
    by_cases h2 : j = i
    · subst h2
      rw [if_pos (by omega), h, w_q0, if_pos hi]
    · rw [if_neg (by omega)]
theorem w_q1_upd (S : WS) (d i : Nat) (hi : i < s_th S) (h : w_qd S i (d + 1) = nI d) : w_q1 S d (i + 1) = upd (w_q1 S d i) i (nI d) := by
  funext j
  simp only [w_q1, upd]
  by_cases h2 : j = i
  · subst h2
    rw [if_pos (by omega), if_pos rfl, h]
  · rw [if_neg h2]
    by_cases h1 : j < i
    · rw [if_pos h1, if_pos (by omega)]
    · rw [if_neg h1, if_neg (by omega)]
theorem w_qd_no (S : WS) (t d : Nat) (h : w_qz S t d = false) : w_qd S t (d + 1) = w_qd S t d := by
  rw [w_qd_1, h]
  unfold w_qd
  cases fi (w_qz S t) d <;> rfl
theorem w_qd_old (S : WS) (t d : Nat) (h : ¬ nI d < w_qd S t d) (hd : d ≤ 99) : w_qd S t (d + 1) = w_qd S t d := by
  rw [w_qd_1]
  unfold w_qd at h ⊢
  cases hf : fi (w_qz S t) d with
  | some e => rfl
  | none =>
    rw [hf] at h
    exact absurd (show nI d < nI 100 from nI_lt (by omega) (by decide)) h
theorem w_qd_new (S : WS) (t d : Nat) (h : nI d < w_qd S t d) (hd : d ≤ 99) (hz : w_qz S t d = true) : w_qd S t (d + 1) = nI d := by
  rw [w_qd_1]
  unfold w_qd at h
  cases hf : fi (w_qz S t) d with
  | some e =>
    rw [hf] at h
    have := (fi_some hf).1
    exact absurd h (nI_nlt (by omega) (by omega))
  | none => simp [hz]
def w_run (S : WS) : Nat → Nat
  | 0 => 0
  | k + 1 => if w_wat (w_dayN S (k + 1)) then w_run S k + 1 else 0
theorem w_run_le (S : WS) : ∀ n, w_run S n ≤ n
  | 0 => Nat.le_refl _
  | k + 1 => by
    have := w_run_le S k
    unfold w_run
    split <;> omega
def w_lng (S : WS) : Nat → Int32
  | 0 => 0
  | k + 1 => if w_lng S k < nI (w_run S (k + 1)) then nI (w_run S (k + 1)) else w_lng S k
def w_fit (S : WS) (t : Nat) (k w : Int32) (q : FN × Nat) : Bool := allb (fun d => decide (s_le (w_dayN (w_fall (w_kw S t k w) t) d) t = q_f q d)) (q_n q)
def w_fb (P : Nat → Bool) : Nat → Int32
  | 0 => 0
  | k + 1 => if P k then w_fb P k ||| (1 <<< (nI k &&& 31)) else w_fb P k
-- lessons
def w_bl1 (S : WS) (n p : Nat) (z : Int32 × Int32) : Nat → Int32 × Int32
  | 0 => z
  | t + 1 => if hasb (w_les S (nI p) (s_th S)) (nI t) = true ∧ (w_bl1 S n p z t).2 < nI (w_wet (w_tau S p (nI t)) n) then (10 * nI p + nI t, nI (w_wet (w_tau S p (nI t)) n)) else w_bl1 S n p z t
def w_bl (S : WS) (n : Nat) : Nat → Int32 × Int32
  | 0 => (-9, nI (w_wet S n))
  | p + 1 => w_bl1 S n p (w_bl S n p) 8
-- two people
def w_s2 (S : WS) (a b : Nat) (fa fb : Bool) : WS := if fa then (if fb then w_sil (w_sil S a) b else w_sil S a) else (if fb then w_sil S b else S)
def w_bur (S : WS) (p : Nat) (silent : Bool) : Int32 := if !silent && decide (0 < w_qs S (nI p) (s_th S)) then 3 else 0
def w_gn (S : WS) (a b n : Nat) (fa fb : Bool) (p : Nat) (f : Bool) : Int32 := nI (w_wet (w_s2 S a b fa fb) n) - w_bur (w_dayN (w_s2 S a b fa fb) n) p f
theorem ok_s2 {S : WS} (h : Ok S) (a b : Nat) (fa fb : Bool) : Ok (w_s2 S a b fa fb) := by
  unfold w_s2
  cases fa <;> cases fb <;> exact h
-- draws
def d_nx (z : Int32) : Int32 := z * 1664525 + 1013904223
def d_of (z : Int32) (m : Nat) : Int32 := rm32 ((d_nx z &&& 2147483647) / 256) (nI m)
def w_lot (S : WS) (z : Int32) : Nat → WS × Int32
  | 0 => (S, z)
  | i + 1 => (w_fall (w_who (w_lot S z i).1 i (d_of (w_lot S z i).2 (s_pe S))) i, d_nx (w_lot S z i).2)
theorem b2i_inj {a b : Bool} (h : b2i a = b2i b) : a = b := by cases a <;> cases b <;> first | rfl | exact absurd h (by decide)
theorem b2i_eq {a b : Bool} (h : b2i a = b2i b) : (a == b) = true := by rw [b2i_inj h]; simp
theorem b2i_ne {a b : Bool} (h : ¬ b2i a = b2i b) : (a == b) = false := by
  cases a <;> cases b <;> first | rfl | exact absurd rfl h
