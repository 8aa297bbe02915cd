-- a lesson that is none changes no day
theorem les_has {S : WS} (hS : Ok S) {p : Int32} {i t : Nat} (h1 : s_dp S i = p) (h2 : w_nev S i = true) (h3 : top S i = nI t) (ht : t < 8) : ∀ n, i < n → n ≤ s_th S → hasb (w_les S p n) (nI t) = true
  | 0, h, _ => absurd h (by omega)
  | n + 1, h, hn => by
    unfold w_les
    by_cases hi : i = n
    · subst hi
      rw [if_pos ⟨h1, h2⟩, h3, hasb_or _ (by omega) (by omega)]
      simp
    · have ih := les_has hS h1 h2 h3 ht n (by omega) (by omega)
      split
      · obtain ⟨u, hu, e⟩ := top_nat hS (show n < s_th S by omega)
        rw [e, hasb_or _ (by omega) (by omega), ih]
        rfl
      · exact ih
def Lp_m (S T : WS) : Prop := ∀ i, 0 < s_le T i → 0 < s_le S i
theorem Lp_m.rf (S : WS) : Lp_m S S := fun _ h => h
theorem Lp_m.tr {S T U : WS} (h : Lp_m S T) (g : Lp_m T U) : Lp_m S U := fun i q => h i (g i q)
theorem lp_ans1 {S : WS} {i : Nat} (h : ask S i = true) : Lp_m S (w_ans1 S i) := fun j q => by
  by_cases e : j = i
  · subst e; exact ask_le h
  · have h1 : s_le (w_ans1 S i) j = s_le S j := upd_ne e
    rw [h1] at q
    exact q
theorem lp_ansL (S : WS) (p : Nat) : Lp_m S (w_ansL S p) := by
  unfold w_ansL
  split
  · exact Lp_m.rf S
  · rename_i i hi
    exact lp_ans1 (can_ask (fi_some hi).2)
theorem lp_dayP (S : WS) : ∀ k, Lp_m S (w_dayP S k)
  | 0 => Lp_m.rf S
  | k + 1 => by
    unfold w_dayP
    split
    · exact (lp_dayP S k).tr (lp_ansL _ k)
    · exact lp_dayP S k
theorem lp_day (b : Bool) (S : WS) : Lp_m S (w_day b S) := by
  unfold w_day
  split
  · exact Lp_m.tr (T := w_up1 S) (Lp_m.rf S) (lp_dayP _ _)
  · exact Lp_m.rf S
theorem lp_dayN (S : WS) : ∀ k, Lp_m S (w_dayN S k)
  | 0 => Lp_m.rf S
  | k + 1 => (lp_dayN S k).tr (lp_day true _)
section
variable {S : WS} {p t : Nat}
theorem can_tau (hS : Ok S) (hp : p < 2 ^ 31) (ht : t < 8) (hn : hasb (w_les S (nI p) (s_th S)) (nI t) = false) {T : WS} (f : Fr S T) (g : Lp_m S T) (p' : Nat) {i : Nat} (hi : i < s_th S) : w_can (w_tau T p (nI t)) p' i = w_can T p' i := by
  obtain ⟨f1, f2, f3, f4, f5, f6, f7, f8⟩ := f
  show (decide (s_dp T i = nI p') && ask T i && hasb (upd (s_kn T) p (s_kn T p ||| (1 <<< (nI t &&& 31))) p') (top T i)) = (decide (s_dp T i = nI p') && ask T i && hasb (s_kn T p') (top T i))
  by_cases hd : s_dp T i = nI p'
  · by_cases ha : ask T i = true
    · by_cases hpp : p' = p
      · subst hpp
        rw [upd_at]
        have e0 : top T i = top S i := by unfold top; rw [f6, f7]
        obtain ⟨u, hu, e⟩ := top_nat hS hi
        rw [e0, e, hasb_or _ (by omega) (by omega)]
        by_cases hut : u = t
        · subst hut
          have hk : hasb (s_kn T p') (nI u) = true := by
            cases hk : hasb (s_kn T p') (nI u) with
            | true => rfl
            | false =>
              have h1 : s_dp S i = nI p' := by rw [← f8]; exact hd
              have h2 : w_nev S i = true := by
                unfold w_nev w_kno
                rw [h1, nI_clamp hp, e, ← f4, hk, decide_eq_true (g i (ask_le ha))]
                rfl
              rw [les_has hS h1 h2 e hu (s_th S) hi (Nat.le_refl _)] at hn
              cases hn
          rw [hk]
          simp
        · rw [decide_eq_false hut]
          simp
      · rw [upd_ne hpp]
    · have ha2 : ask T i = false := by simpa using ha
      rw [ha2]
      simp
  · rw [decide_eq_false hd]
    simp
theorem ansL_tau (hS : Ok S) (hp : p < 2 ^ 31) (ht : t < 8) (hn : hasb (w_les S (nI p) (s_th S)) (nI t) = false) {T : WS} (f : Fr S T) (g : Lp_m S T) (p' : Nat) : w_ansL (w_tau T p (nI t)) p' = w_tau (w_ansL T p') p (nI t) := by
  have e : fi (w_can (w_tau T p (nI t)) p') (s_th T) = fi (w_can T p') (s_th T) := fi_congr (fun i hi => can_tau hS hp ht hn f g p' (by rw [← f.2.1]; exact hi))
  unfold w_ansL
  show (match fi (w_can (w_tau T p (nI t)) p') (s_th T) with
    | none => w_tau T p (nI t)
    | some i => w_ans1 (w_tau T p (nI t)) i) = _
  rw [e]
  cases fi (w_can T p') (s_th T) <;> rfl
theorem dayP_tau (hS : Ok S) (hp : p < 2 ^ 31) (ht : t < 8) (hn : hasb (w_les S (nI p) (s_th S)) (nI t) = false) {T : WS} (f : Fr S T) (g : Lp_m S T) : ∀ k, w_dayP (w_tau T p (nI t)) k = w_tau (w_dayP T k) p (nI t)
  | 0 => rfl
  | k + 1 => by
    have ih := dayP_tau hS hp ht hn f g k
    show (if rm32 (s_da T) (s_sh T k + 1) = 0 then w_ansL (w_dayP (w_tau T p (nI t)) k) k else w_dayP (w_tau T p (nI t)) k) = w_tau (if rm32 (s_da T) (s_sh T k + 1) = 0 then w_ansL (w_dayP T k) k else w_dayP T k) p (nI t)
    rw [ih]
    by_cases hc : rm32 (s_da T) (s_sh T k + 1) = 0
    · rw [if_pos hc, if_pos hc, ansL_tau hS hp ht hn (f.tr (fr_dayP T k)) (g.tr (lp_dayP T k)) k]
    · rw [if_neg hc, if_neg hc]
theorem day_tau (hS : Ok S) (hp : p < 2 ^ 31) (ht : t < 8) (hn : hasb (w_les S (nI p) (s_th S)) (nI t) = false) {T : WS} (f : Fr S T) (g : Lp_m S T) : w_day true (w_tau T p (nI t)) = w_tau (w_day true T) p (nI t) := by
  show w_dayP (w_tau (w_up1 T) p (nI t)) (s_pe T) = w_tau (w_dayP (w_up1 T) (s_pe T)) p (nI t)
  exact dayP_tau hS hp ht hn (f.tr (fr_up1 T)) (fun i q => g i q) (s_pe T)
theorem dayN_tau (hS : Ok S) (hp : p < 2 ^ 31) (ht : t < 8) (hn : hasb (w_les S (nI p) (s_th S)) (nI t) = false) : ∀ k, w_dayN (w_tau S p (nI t)) k = w_tau (w_dayN S k) p (nI t)
  | 0 => rfl
  | k + 1 => by
    show w_day true (w_dayN (w_tau S p (nI t)) k) = w_tau (w_day true (w_dayN S k)) p (nI t)
    rw [dayN_tau hS hp ht hn k, day_tau hS hp ht hn (fr_dayN S k) (lp_dayN S k)]
theorem wet_tau (hS : Ok S) (hp : p < 2 ^ 31) (ht : t < 8) (hn : hasb (w_les S (nI p) (s_th S)) (nI t) = false) : ∀ k, w_wet (w_tau S p (nI t)) k = w_wet S k
  | 0 => rfl
  | k + 1 => by
    have h : w_wat (w_dayN (w_tau S p (nI t)) (k + 1)) = w_wat (w_dayN S (k + 1)) := by
      rw [dayN_tau hS hp ht hn (k + 1)]
      rfl
    unfold w_wet
    rw [h, wet_tau hS hp ht hn k]
end
theorem bl1_ge (S : WS) (n p : Nat) (hn : n < 2 ^ 31) {z : Int32 × Int32} {a : Nat} (hz : ∃ j, j ≤ n ∧ a ≤ j ∧ z.2 = nI j) : ∀ t, ∃ j, j ≤ n ∧ a ≤ j ∧ (w_bl1 S n p z t).2 = nI j
  | 0 => hz
  | t + 1 => by
    obtain ⟨j, h1, h2, h3⟩ := bl1_ge S n p hn hz t
    unfold w_bl1
    split
    · rename_i hc
      have hw := w_wet_le (w_tau S p (nI t)) n
      have h4 := hc.2
      rw [h3] at h4
      have h5 := (nI_ltI (by omega) (by omega)).mp h4
      exact ⟨_, hw, by omega, rfl⟩
    · exact ⟨j, h1, h2, h3⟩
theorem bl_ge (S : WS) (n : Nat) (hn : n < 2 ^ 31) : ∀ p, ∃ j, j ≤ n ∧ w_wet S n ≤ j ∧ (w_bl S n p).2 = nI j
  | 0 => ⟨_, w_wet_le _ _, Nat.le_refl _, rfl⟩
  | p + 1 => bl1_ge S n p hn (bl_ge S n hn p) 8
theorem te_1 {S : WS} (hS : Ok S) {n p : Nat} (hn : n < 2 ^ 31) (hp : p < 5) (h0 : m_te S n (10 * p) = w_bl S n p) : ∀ t, t ≤ 8 → m_te S n (10 * p + t) = w_bl1 S n p (w_bl S n p) t
  | 0, _ => h0
  | t + 1, h => by
    have ih := te_1 hS hn hp h0 t (by omega)
    show m_te S n (10 * p + t + 1) = _
    unfold m_te w_bl1
    rw [ih, show (10 * p + t) % 10 = t by omega, show (10 * p + t) / 10 = p by omega]
    have ev : nI (10 * p + t) = 10 * nI p + nI t := by
      rw [← nI_add, ← nI_mulc]
      rfl
    rw [ev]
    cases hh : hasb (w_les S (nI p) (s_th S)) (nI t) with
    | true => simp [show t < 8 by omega]
    | false =>
      obtain ⟨j, h1, h2, h3⟩ := bl1_ge S n p hn (bl_ge S n hn p) t
      have hw := wet_tau hS (show p < 2 ^ 31 by omega) (show t < 8 by omega) hh n
      rw [hw, h3, if_neg (fun q => nI_nlt h2 (by omega) q.2), if_neg (fun q => absurd q.1 (by decide))]
theorem q_te {S : WS} (hS : Ok S) {n : Nat} (hn : n < 2 ^ 31) : ∀ p, p ≤ 5 → m_te S n (10 * p) = w_bl S n p
  | 0, _ => rfl
  | p + 1, h => by
    have ih := q_te hS hn p (by omega)
    have h8 := te_1 hS hn (show p < 5 by omega) ih 8 (Nat.le_refl _)
    show m_te S n (10 * p + 9 + 1) = w_bl1 S n p (w_bl S n p) 8
    have h9 : m_te S n (10 * p + 8 + 1) = m_te S n (10 * p + 8) := by
      rw [m_te, if_neg (fun q => absurd q.1 (by omega))]
    have h10 : m_te S n (10 * p + 9 + 1) = m_te S n (10 * p + 9) := by
      rw [m_te, if_neg (fun q => absurd q.1 (by omega))]
    rw [h10, show 10 * p + 9 = 10 * p + 8 + 1 by omega, h9, h8]
theorem q_teach {S : WS} (hS : Ok S) {n : Nat} (hn : n ≤ 40) : (w_bl S n (s_pe S)).1 = (m_te S n (10 * s_pe S)).1 := by
  rw [q_te hS (by omega) (s_pe S) hS.pe]
