theorem nI0 : nI 0 = 0 := rfl
/-- what wetDays leaves of the model's rest -/
def m_wd (M : MS) (S : WS) (n : Nat) : MS := m_set (m_lrs (m_kpa M 128 S) (w_lng S n)) 192 false
theorem mq_wd (M : MS) (S : WS) (n : Nat) : Mq 128 M (m_wd M S n) := ((mq_kpa M 128 S).tr (mq_lrs 128 _ _) (Nat.le_refl _)).tr (mq_set 128 _ _ _) (Nat.le_refl _)
def m_lsum (S : WS) : Nat → Int32
  | 0 => 0
  | k + 1 => m_lsum S k + m_bits (w_les S (nI k) (s_th S)) 31
/-- the gets after k of the four -/
def m_gf (g : FN) (S : WS) (i j n : Nat) : Nat → FN
  | 0 => g
  | k + 1 => upd (upd (m_gf g S i j n k) (2 * k) (w_ga S i j n k)) (2 * k + 1) (w_gb S i j n k)
def m_gg (S : WS) (i j n : Nat) : FN := fun u => if u % 2 = 0 then w_ga S i j n (u / 2) else w_gb S i j n (u / 2)
theorem m_gf_gg (g : FN) (S : WS) (i j n : Nat) : ∀ u, u < 8 → m_gf g S i j n 4 u = m_gg S i j n u := by
  intro u hu
  simp only [m_gf, m_gg, upd]
  rcases (show u = 0 ∨ u = 1 ∨ u = 2 ∨ u = 3 ∨ u = 4 ∨ u = 5 ∨ u = 6 ∨ u = 7 by omega) with rfl | rfl | rfl | rfl | rfl | rfl | rfl | rfl <;> simp
def qk3 {b : Nat} {M N : MS} {v : FN} (h : Mq b M N) (g : m_ge N = v) : {N : MS // Mq b M N ∧ m_ge N = v} := ⟨N, h, g⟩
theorem shl_n {n : Nat} (hn : n ≤ 7) : (1 : Int32) <<< (nI n &&& 31) = nI (2 ^ n) := by
  have : ∀ n : Fin 8, (1 : Int32) <<< (nI n.val &&& 31) = nI (2 ^ n.val) := by decide
  exact this ⟨n, by omega⟩
theorem pow_le7 {n : Nat} (hn : n ≤ 7) : 2 ^ n ≤ 128 := by
  have : ∀ n : Fin 8, 2 ^ n.val ≤ 128 := by decide
  exact this ⟨n, by omega⟩
/-- days by a set: a day in the set is cold -/
def w_sd (S : WS) (v : Int32) : Nat → WS
  | 0 => S
  | k + 1 => w_day (!hasb v (nI k)) (w_sd S v k)
theorem ok_sd {S : WS} (h : Ok S) (v : Int32) : ∀ k, Ok (w_sd S v k)
  | 0 => h
  | k + 1 => ok_day (ok_sd h v k) _
theorem fr_sd (S : WS) (v : Int32) : ∀ k, Fr S (w_sd S v k)
  | 0 => Fr.rf S
  | k + 1 => (fr_sd S v k).tr (fr_day _ _)
def l_pt (t1 : Int64) (v : Int32) : Nat → Int64
  | 0 => 1
  | k + 1 => l_pt t1 v k * (if hasb v (nI k) then 1 else t1)
def l_up (S : WS) (t1 : Int64) (n : Nat) : Nat → Int64
  | 0 => 0
  | s + 1 => l_up S t1 n s + (if w_wat (w_sd S (nI s) n) then l_pt t1 (nI s) n else 0)
def m_so (S : WS) (t : Nat) (q : FN × Nat) : Bool := allb (fun d => decide (s_le (w_dayN (w_fall S t) d) t = q_f q d)) (q_n q)
theorem fit_so (S : WS) (t : Nat) (k w : Int32) (q : FN × Nat) : w_fit S t k w q = m_so (w_kw S t k w) t q := rfl
theorem upd_upd (f : FN) (k : Nat) (x y : Int32) : upd (upd f k x) k y = upd f k y := by
  funext j
  unfold upd
  by_cases h : j = k <;> simp [h]
theorem kw_id (S : WS) (t : Nat) : w_kw S t (s_ki S t) (s_we S t) = S := by
  show (s_pe S, s_th S, s_da S, s_dr S, s_kn S, s_sh S, s_an S, upd (s_ki S) t (s_ki S t), upd (s_we S) t (s_we S t), s_dp S, s_wa S, s_le S) = S
  rw [upd_id, upd_id]
theorem kw_7 (S : WS) (t : Nat) (y w v : Int32) : r_7 (w_kw S t y w) (upd (s_ki (w_kw S t y w)) t v) = w_kw S t v w := by
  show (s_pe S, s_th S, s_da S, s_dr S, s_kn S, s_sh S, s_an S, upd (upd (s_ki S) t y) t v, upd (s_we S) t w, s_dp S, s_wa S, s_le S) = (s_pe S, s_th S, s_da S, s_dr S, s_kn S, s_sh S, s_an S, upd (s_ki S) t v, upd (s_we S) t w, s_dp S, s_wa S, s_le S)
  rw [upd_upd]
theorem kw_8 (S : WS) (t : Nat) (k y v : Int32) : r_8 (w_kw S t k y) (upd (s_we (w_kw S t k y)) t v) = w_kw S t k v := by
  show (s_pe S, s_th S, s_da S, s_dr S, s_kn S, s_sh S, s_an S, upd (s_ki S) t k, upd (upd (s_we S) t y) t v, s_dp S, s_wa S, s_le S) = (s_pe S, s_th S, s_da S, s_dr S, s_kn S, s_sh S, s_an S, upd (s_ki S) t k, upd (s_we S) t v, s_dp S, s_wa S, s_le S)
  rw [upd_upd]
theorem Mq.rw {b : Nat} {M N : MS} (h : Mq b M N) : (m_rw N, m_rn N) = (m_rw M, m_rn M) := by
  rw [h.2.2.2.2.2.1, h.2.2.2.2.2.2.1]
def m_lots (S : WS) (z c : Int32) : Nat → Int32 × Int32 × Int32
  | 0 => (z, 0, c)
  | j + 1 => ((w_lot S (k_s (m_lots S z c j)) (s_th S)).2, k_w (m_lots S z c j) + nI (w_wet (w_lot S (k_s (m_lots S z c j)) (s_th S)).1 15), k_a (m_lots S z c j) + sumf (s_an (w_dayN (w_lot S (k_s (m_lots S z c j)) (s_th S)).1 15)) (s_pe (w_dayN (w_lot S (k_s (m_lots S z c j)) (s_th S)).1 15)))
theorem Mq.kpof {b c : Nat} {M N : MS} {S : WS} (h : Mq b (m_kpa M c S) N) (hb : c + 64 ≤ b) : KP (m_kp N) c S := h.kp hb (kpall_KP _ c S)
theorem kp_ges (X : MS) (g : FN) : m_kp (m_ges X g) = m_kp X := rfl
theorem kp_gwd (M : MS) (S U : WS) (n : Nat) (g : FN) : KP (m_kp (m_ges (m_wd (m_kpa M 64 S) U n) g)) 64 S := by
  rw [kp_ges]
  exact (mq_wd (m_kpa M 64 S) U n).kpof (Nat.le_refl _)
theorem gf_1 {g : FN} {S : WS} {i j n : Nat} (k : Nat) {A B : Int32} {F : FN} (hF : F = m_gf g S i j n k) (hA : A = w_ga S i j n k) (hB : B = w_gb S i j n k) : upd (upd F (2 * k) A) (2 * k + 1) B = m_gf g S i j n (k + 1) := by
  rw [m_gf, hF, hA, hB]
theorem ge_sg (X : MS) (g : FN) (c : Nat) (b : Bool) : m_ge (m_set (m_ges X g) c b) = g := rfl
theorem ge_wd (M : MS) (S U : WS) (n : Nat) : m_ge (m_wd (m_kpa M 64 S) U n) = m_ge M := rfl
theorem ga_k (S : WS) (i j n k : Nat) {fa fb : Bool} (ha : decide (k / 2 = 1) = fa) (hb : decide (k % 2 = 1) = fb) : nI (w_wet (w_s2 S i j fa fb) n) - w_bur (w_dayN (w_s2 S i j fa fb) n) i fa = w_ga S i j n k := by
  unfold w_ga w_gn
  rw [ha, hb]
theorem gb_k (S : WS) (i j n k : Nat) {fa fb : Bool} (ha : decide (k / 2 = 1) = fa) (hb : decide (k % 2 = 1) = fb) : nI (w_wet (w_s2 S i j fa fb) n) - w_bur (w_dayN (w_s2 S i j fa fb) n) j fb = w_gb S i j n k := by
  unfold w_gb w_gn
  rw [ha, hb]
