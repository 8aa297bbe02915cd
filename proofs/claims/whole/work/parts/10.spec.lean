abbrev FN : Type := Nat → Int32
/-- a well: people, things, date, dryness; knows, shyness, answered; kind, weight, dropper, wait, left -/
abbrev WS : Type := Nat × Nat × Int32 × Int32 × FN × FN × FN × FN × FN × FN × FN × FN
abbrev s_pe (S : WS) : Nat := S.1
abbrev s_th (S : WS) : Nat := S.2.1
abbrev s_da (S : WS) : Int32 := S.2.2.1
abbrev s_dr (S : WS) : Int32 := S.2.2.2.1
abbrev s_kn (S : WS) : FN := S.2.2.2.2.1
abbrev s_sh (S : WS) : FN := S.2.2.2.2.2.1
abbrev s_an (S : WS) : FN := S.2.2.2.2.2.2.1
abbrev s_ki (S : WS) : FN := S.2.2.2.2.2.2.2.1
abbrev s_we (S : WS) : FN := S.2.2.2.2.2.2.2.2.1
abbrev s_dp (S : WS) : FN := S.2.2.2.2.2.2.2.2.2.1
abbrev s_wa (S : WS) : FN := S.2.2.2.2.2.2.2.2.2.2.1
abbrev s_le (S : WS) : FN := S.2.2.2.2.2.2.2.2.2.2.2
/-- a well's nine cells at the addresses a 0 .. a 8 -/
def wl (a : Nat → Nat) (cI : ClassId) (S : WS) : va_W := [(a 0, .inr (5, [.int (nI (s_pe S)), .int (nI (s_th S)), .int (s_da S), .int (s_dr S), .ref (a 1), .ref (a 2), .ref (a 3), .ref (a 4), .ref (a 5), .ref (a 6), .ref (a 7), .ref (a 8)])),
  (a 1, .inl (cI, 5, .inl (s_kn S))), (a 2, .inl (cI, 5, .inl (s_sh S))), (a 3, .inl (cI, 5, .inl (s_an S))), (a 4, .inl (cI, 9, .inl (s_ki S))), (a 5, .inl (cI, 9, .inl (s_we S))), (a 6, .inl (cI, 9, .inl (s_dp S))), (a 7, .inl (cI, 9, .inl (s_wa S))), (a 8, .inl (cI, 9, .inl (s_le S)))]
theorem wl_fst (a : Nat → Nat) (cI : ClassId) (S T : WS) : (wl a cI S).map Prod.fst = (wl a cI T).map Prod.fst := rfl
def rm32 (a b : Int32) : Int32 := a - a / b * b
def z_in (p : Int32) (n : Nat) : Bool := !decide (p < 0) && decide (p < nI n)
theorem z_in_nI {k n : Nat} (h : k < n) (hn : n < 2 ^ 31) : z_in (nI k) n = true := by
  simp [z_in, nI_pos (show k < 2 ^ 31 by omega), nI_lt h hn]
theorem z_in_t {p : Int32} {n : Nat} (h : z_in p n = true) : ∃ k, k < n ∧ p = nI k := by
  simp only [z_in, Bool.and_eq_true, Bool.not_eq_true', decide_eq_false_iff_not, decide_eq_true_eq] at h
  obtain ⟨j, h1, rfl⟩ := nI_of h.1
  refine ⟨j, ?_, rfl⟩
  rcases Nat.lt_or_ge n (2 ^ 31) with hn | hn
  · exact (nI_ltI h1 hn).mp h.2
  · omega
/-- the topic of a kind and weight -/
def t_of (k w : Int32) : Int32 := if k = 2 ∨ k = 3 then 7 - rm32 w 8 else if k = 5 then 0 else rm32 w 8
def r_of (k w d : Int32) : Int32 := if k = 1 then w / 3 + 1 + 1 else if k = 4 then 2 * (w / 3 + 1 + 1) else if k = 3 ∨ k = 5 then w / 3 + 1 + d else w / 3 + 1
def n_of (k w : Int32) : Int32 := if k = 2 ∨ k = 3 then 2 else if k = 4 then 1 + w / 4 else if k = 5 then 4 else 1
def ask (S : WS) (i : Nat) : Bool := decide (s_wa S i = 0) && decide (0 < s_le S i)
def hasb (v t : Int32) : Bool := decide ((v >>> (t &&& 31)) &&& 1 = 1)
def top (S : WS) (i : Nat) : Int32 := t_of (s_ki S i) (s_we S i)
def askb (S : WS) : Nat → Int32
  | 0 => 0
  | k + 1 => if ask S k then askb S k ||| (1 <<< (nI k &&& 31)) else askb S k
/-- the first place below n with P -/
def fi (P : Nat → Bool) : Nat → Option Nat
  | 0 => none
  | n + 1 => match fi P n with
    | some i => some i
    | none => if P n then some n else none
theorem fi_none {P : Nat → Bool} : ∀ {n : Nat}, (∀ j, j < n → P j = false) → fi P n = none
  | 0, _ => rfl
  | n + 1, h => by
    unfold fi
    rw [fi_none (fun j hj => h j (by omega))]
    simp [h n (by omega)]
theorem fi_hit {P : Nat → Bool} {k : Nat} (hk : ∀ j, j < k → P j = false) (hP : P k = true) : ∀ {n : Nat}, k < n → fi P n = some k
  | 0, h => absurd h (by omega)
  | n + 1, h => by
    unfold fi
    by_cases hn : k < n
    · rw [fi_hit hk hP hn]
    · have : k = n := by omega
      subst this
      rw [fi_none hk]
      simp [hP]
theorem fi_some {P : Nat → Bool} {i : Nat} : ∀ {n : Nat}, fi P n = some i → i < n ∧ P i = true
  | 0, h => by cases h
  | n + 1, h => by
    unfold fi at h
    split at h
    · rename_i j hj
      cases h
      have := fi_some hj
      exact ⟨by omega, this.2⟩
    · by_cases hp : P n = true
      · rw [if_pos hp] at h
        cases h
        exact ⟨by omega, hp⟩
      · rw [if_neg hp] at h
        cases h
theorem lt_snoc {p : Nat → Prop} {k : Nat} (h : ∀ j, j < k → p j) (hk : p k) : ∀ j, j < k + 1 → p j := fun j hj => by
  rcases Nat.lt_or_ge j k with q | q
  · exact h j q
  · have : j = k := by omega
    subst this
    exact hk
def allb (P : Nat → Bool) : Nat → Bool
  | 0 => true
  | k + 1 => allb P k && P k
theorem allb_t {P : Nat → Bool} : ∀ {n : Nat}, (∀ j, j < n → P j = true) → allb P n = true
  | 0, _ => rfl
  | n + 1, h => by
    have h1 : allb P n = true := allb_t (fun j hj => h j (by omega))
    simp [allb, h1, h n (by omega)]
theorem allb_f {P : Nat → Bool} {k : Nat} (hP : P k = false) : ∀ {n : Nat}, k < n → allb P n = false
  | 0, h => absurd h (by omega)
  | n + 1, h => by
    by_cases hn : k < n
    · simp [allb, allb_f hP hn]
    · have : k = n := by omega
      subst this
      simp [allb, hP]
theorem allb_at {P : Nat → Bool} : ∀ {n : Nat}, allb P n = true → ∀ j, j < n → P j = true
  | 0, _, j, hj => absurd hj (by omega)
  | n + 1, h, j, hj => by
    simp only [allb, Bool.and_eq_true] at h
    rcases Nat.lt_or_ge j n with q | q
    · exact allb_at h.1 j q
    · have : j = n := by omega
      subst this
      exact h.2
/-- one answer for the thing i -/
def w_ans1 (S : WS) (i : Nat) : WS := (s_pe S, s_th S, s_da S, s_dr S, s_kn S, s_sh S, (if s_an S (s_dp S i).toNatClampNeg < 999 then upd (s_an S) (s_dp S i).toNatClampNeg (s_an S (s_dp S i).toNatClampNeg + 1) else s_an S), s_ki S, s_we S, s_dp S, s_wa S, upd (s_le S) i (s_le S i - 1))
def w_can (S : WS) (p i : Nat) : Bool := decide (s_dp S i = nI p) && ask S i && hasb (s_kn S p) (top S i)
def w_ansL (S : WS) (p : Nat) : WS := match fi (w_can S p) (s_th S) with
  | none => S
  | some i => w_ans1 S i
def w_dec (f : FN) : Nat → FN
  | 0 => f
  | k + 1 => if 0 < w_dec f k k then upd (w_dec f k) k (w_dec f k k - 1) else w_dec f k
def w_up1 (S : WS) : WS := (s_pe S, s_th S, s_da S + 1, s_dr S, s_kn S, s_sh S, s_an S, s_ki S, s_we S, s_dp S, w_dec (s_wa S) (s_th S), s_le S)
def w_dayP (S : WS) : Nat → WS
  | 0 => S
  | k + 1 => if rm32 (s_da S) (s_sh S k + 1) = 0 then w_ansL (w_dayP S k) k else w_dayP S k
/-- a day, warm or not -/
def w_day (b : Bool) (S : WS) : WS := if b then w_dayP (w_up1 S) (s_pe S) else w_up1 S
def w_dayN (S : WS) : Nat → WS
  | 0 => S
  | k + 1 => w_day true (w_dayN S k)
def w_wat (S : WS) : Bool := allb (fun i => !ask S i) (s_th S)
/-- on how many of the next n days there is water -/
def w_wet (S : WS) : Nat → Nat
  | 0 => 0
  | k + 1 => if w_wat (w_dayN S (k + 1)) then w_wet S k + 1 else w_wet S k
theorem w_wet_le (S : WS) : ∀ n, w_wet S n ≤ n
  | 0 => Nat.le_refl _
  | k + 1 => by
    have := w_wet_le S k
    unfold w_wet
    split <;> omega
def w_fall (S : WS) (i : Nat) : WS := (s_pe S, s_th S, s_da S, s_dr S, s_kn S, s_sh S, s_an S, s_ki S, s_we S, s_dp S, upd (s_wa S) i (r_of (s_ki S i) (s_we S i) (s_dr S)), upd (s_le S) i (n_of (s_ki S i) (s_we S i)))
def w_push (S : WS) (k w b : Int32) : WS := (s_pe S, s_th S + 1, s_da S, s_dr S, s_kn S, s_sh S, s_an S, upd (s_ki S) (s_th S) k, upd (s_we S) (s_th S) w, upd (s_dp S) (s_th S) b, s_wa S, s_le S)
def w_add (S : WS) (k w b : Int32) : WS := w_fall (w_push S k w b) (s_th S)
def w_one (S : WS) (sh kn : Int32) : WS := (s_pe S + 1, s_th S, s_da S, s_dr S, upd (s_kn S) (s_pe S) kn, upd (s_sh S) (s_pe S) sh, upd (s_an S) (s_pe S) 0, s_ki S, s_we S, s_dp S, s_wa S, s_le S)
def w_lrn (S : WS) (p : Nat) (t : Int32) : WS := (s_pe S, s_th S, s_da S, s_dr S, upd (s_kn S) p (s_kn S p ^^^ (1 <<< (t &&& 31))), s_sh S, s_an S, s_ki S, s_we S, s_dp S, s_wa S, s_le S)
/-- who dropped it knows the topic -/
def w_kno (S : WS) (i : Nat) : Bool := hasb (s_kn S (s_dp S i).toNatClampNeg) (top S i)
def w_qs (S : WS) (p : Int32) : Nat → Int32
  | 0 => 0
  | k + 1 => if s_dp S k = p then w_qs S p k + s_le S k else w_qs S p k
def sumf (f : FN) : Nat → Int32
  | 0 => 0
  | k + 1 => sumf f k + f k
def w_nev (S : WS) (i : Nat) : Bool := decide (0 < s_le S i) && !w_kno S i
def w_nevb (S : WS) : Nat → Int32
  | 0 => 0
  | k + 1 => if w_nev S k then w_nevb S k ||| (1 <<< (nI k &&& 31)) else w_nevb S k
def w_les (S : WS) (p : Int32) : Nat → Int32
  | 0 => 0
  | k + 1 => if s_dp S k = p ∧ w_nev S k = true then w_les S p k ||| (1 <<< (top S k &&& 31)) else w_les S p k
/-- what always holds of a well -/
def Ok (S : WS) : Prop := s_pe S ≤ 5 ∧ s_th S ≤ 9 ∧ (∀ i, i < s_th S → ∃ q, q < s_pe S ∧ s_dp S i = nI q) ∧ (∀ p, p < s_pe S → ∃ j, j ≤ 9 ∧ s_sh S p = nI j) ∧ (∀ i, i < s_th S → ∃ j, j ≤ 4 ∧ s_le S i = nI j) ∧ (∀ p, p < s_pe S → ∃ j, j ≤ 999 ∧ s_an S p = nI j) ∧ (∀ i, i < s_th S → ∃ j, j ≤ 9 ∧ s_we S i = nI j) ∧ (∀ i, i < s_th S → ∃ j, j ≤ 5 ∧ s_ki S i = nI j)
theorem Ok.pe {S : WS} (h : Ok S) : s_pe S ≤ 5 := h.1
theorem Ok.th {S : WS} (h : Ok S) : s_th S ≤ 9 := h.2.1
theorem Ok.dp {S : WS} (h : Ok S) {i : Nat} (hi : i < s_th S) : ∃ q, q < s_pe S ∧ s_dp S i = nI q := h.2.2.1 i hi
theorem Ok.sh {S : WS} (h : Ok S) {p : Nat} (hp : p < s_pe S) : ∃ j, j ≤ 9 ∧ s_sh S p = nI j := h.2.2.2.1 p hp
theorem Ok.le {S : WS} (h : Ok S) {i : Nat} (hi : i < s_th S) : ∃ j, j ≤ 4 ∧ s_le S i = nI j := h.2.2.2.2.1 i hi
theorem Ok.an {S : WS} (h : Ok S) {p : Nat} (hp : p < s_pe S) : ∃ j, j ≤ 999 ∧ s_an S p = nI j := h.2.2.2.2.2.1 p hp
theorem Ok.we {S : WS} (h : Ok S) {i : Nat} (hi : i < s_th S) : ∃ j, j ≤ 9 ∧ s_we S i = nI j := h.2.2.2.2.2.2.1 i hi
theorem Ok.ki {S : WS} (h : Ok S) {i : Nat} (hi : i < s_th S) : ∃ j, j ≤ 5 ∧ s_ki S i = nI j := h.2.2.2.2.2.2.2 i hi
/-- what a day leaves as it was -/
def Fr (S T : WS) : Prop := s_pe T = s_pe S ∧ s_th T = s_th S ∧ s_dr T = s_dr S ∧ s_kn T = s_kn S ∧ s_sh T = s_sh S ∧ s_ki T = s_ki S ∧ s_we T = s_we S ∧ s_dp T = s_dp S
theorem Fr.rf (S : WS) : Fr S S := ⟨rfl, rfl, rfl, rfl, rfl, rfl, rfl, rfl⟩
theorem Fr.tr {S T U : WS} (h : Fr S T) (g : Fr T U) : Fr S U := ⟨g.1.trans h.1, g.2.1.trans h.2.1, g.2.2.1.trans h.2.2.1, g.2.2.2.1.trans h.2.2.2.1, g.2.2.2.2.1.trans h.2.2.2.2.1, g.2.2.2.2.2.1.trans h.2.2.2.2.2.1, g.2.2.2.2.2.2.1.trans h.2.2.2.2.2.2.1, g.2.2.2.2.2.2.2.trans h.2.2.2.2.2.2.2⟩
theorem fr_ans1 (S : WS) (i : Nat) : Fr S (w_ans1 S i) := ⟨rfl, rfl, rfl, rfl, rfl, rfl, rfl, rfl⟩
theorem fr_up1 (S : WS) : Fr S (w_up1 S) := ⟨rfl, rfl, rfl, rfl, rfl, rfl, rfl, rfl⟩
theorem fr_ansL (S : WS) (p : Nat) : Fr S (w_ansL S p) := by
  unfold w_ansL
  split
  · exact Fr.rf S
  · exact fr_ans1 S _
theorem fr_dayP (S : WS) : ∀ k, Fr S (w_dayP S k)
  | 0 => Fr.rf S
  | k + 1 => by
    unfold w_dayP
    split
    · exact (fr_dayP S k).tr (fr_ansL _ k)
    · exact fr_dayP S k
theorem fr_day (b : Bool) (S : WS) : Fr S (w_day b S) := by
  unfold w_day
  split
  · exact (fr_up1 S).tr (fr_dayP _ _)
  · exact fr_up1 S
theorem fr_dayN (S : WS) : ∀ k, Fr S (w_dayN S k)
  | 0 => Fr.rf S
  | k + 1 => (fr_dayN S k).tr (fr_day true _)
theorem da_ansL (S : WS) (p : Nat) : s_da (w_ansL S p) = s_da S := by
  unfold w_ansL
  split <;> rfl
theorem da_dayP (S : WS) : ∀ k, s_da (w_dayP S k) = s_da S
  | 0 => rfl
  | k + 1 => by
    unfold w_dayP
    split
    · rw [da_ansL, da_dayP S k]
    · exact da_dayP S k
theorem Ok.of_fr {S T : WS} (hS : Ok S) (f : Fr S T) (hl : ∀ i, i < s_th S → ∃ j, j ≤ 4 ∧ s_le T i = nI j) (ha : ∀ p, p < s_pe S → ∃ j, j ≤ 999 ∧ s_an T p = nI j) : Ok T := by
  obtain ⟨f1, f2, f3, f4, f5, f6, f7, f8⟩ := f
  obtain ⟨h1, h2, h3, h4, h5, h6, h7, h8⟩ := hS
  unfold Ok
  rw [f1, f2, f5, f6, f7, f8]
  exact ⟨h1, h2, h3, h4, hl, ha, h7, h8⟩
theorem ok_up1 {S : WS} (h : Ok S) : Ok (w_up1 S) := h.of_fr (fr_up1 S) (fun _ hi => h.le hi) (fun _ hp => h.an hp)
theorem ask_le {S : WS} {i : Nat} (h : ask S i = true) : 0 < s_le S i := by
  simp only [ask, Bool.and_eq_true, decide_eq_true_eq] at h
  exact h.2
theorem nI_ppos {j : Nat} (h : 0 < nI j) (hj : j < 2 ^ 31) : 0 < j := by
  have h1 : nI 0 < nI j := h
  exact (nI_ltI (by decide) hj).mp h1
theorem ok_ans1 {S : WS} (h : Ok S) {i : Nat} (hi : i < s_th S) (ha : ask S i = true) : Ok (w_ans1 S i) := by
  refine h.of_fr (fr_ans1 S i) (fun j hj => ?_) (fun p hp => ?_)
  · show ∃ q, q ≤ 4 ∧ upd (s_le S) i (s_le S i - 1) j = nI q
    unfold upd
    by_cases hji : j = i
    · rw [if_pos hji]
      obtain ⟨q, hq, e⟩ := h.le hi
      have h1 := ask_le ha
      rw [e] at h1 ⊢
      have h2 := nI_ppos h1 (by omega)
      obtain ⟨r, rfl⟩ : ∃ r, q = r + 1 := ⟨q - 1, by omega⟩
      exact ⟨r, by omega, nI_pred r⟩
    · rw [if_neg hji]
      exact h.le hj
  · show ∃ q, q ≤ 999 ∧ (if s_an S (s_dp S i).toNatClampNeg < 999 then upd (s_an S) (s_dp S i).toNatClampNeg (s_an S (s_dp S i).toNatClampNeg + 1) else s_an S) p = nI q
    split
    · rename_i hlt
      unfold upd
      by_cases hpi : p = (s_dp S i).toNatClampNeg
      · rw [if_pos hpi]
        rw [← hpi] at hlt ⊢
        obtain ⟨q, hq, e⟩ := h.an hp
        rw [e] at hlt ⊢
        have h2 : q < 999 := (nI_ltI (by omega) (by decide)).mp (show nI q < nI 999 from hlt)
        exact ⟨q + 1, by omega, nI_1 q⟩
      · rw [if_neg hpi]
        exact h.an hp
    · exact h.an hp
theorem can_ask {S : WS} {p i : Nat} (h : w_can S p i = true) : ask S i = true := by
  simp only [w_can, Bool.and_eq_true] at h
  exact h.1.2
theorem ok_ansL {S : WS} (h : Ok S) (p : Nat) : Ok (w_ansL S p) := by
  unfold w_ansL
  split
  · exact h
  · rename_i i hi
    have := fi_some hi
    exact ok_ans1 h this.1 (can_ask this.2)
theorem ok_dayP {S : WS} (h : Ok S) : ∀ k, Ok (w_dayP S k)
  | 0 => h
  | k + 1 => by
    unfold w_dayP
    split
    · exact ok_ansL (ok_dayP h k) k
    · exact ok_dayP h k
theorem ok_day {S : WS} (h : Ok S) (b : Bool) : Ok (w_day b S) := by
  unfold w_day
  split
  · exact ok_dayP (ok_up1 h) _
  · exact ok_up1 h
theorem ok_dayN {S : WS} (h : Ok S) : ∀ k, Ok (w_dayN S k)
  | 0 => h
  | k + 1 => ok_day (ok_dayN h k) true
theorem ok_shp {S : WS} (h : Ok S) {p : Nat} (hp : p < s_pe S) : 0 < s_sh S p + 1 := by
  obtain ⟨j, hj, e⟩ := h.sh hp
  rw [e, nI_1]
  exact (nI_ltI (a := 0) (by decide) (by omega)).mpr (by omega)
theorem ok_shn {S : WS} (h : Ok S) {p : Nat} (hp : p < s_pe S) : ¬ s_sh S p + 1 = 0 := fun e => by
  have h1 := ok_shp h hp
  rw [e] at h1
  exact absurd h1 (by decide)
