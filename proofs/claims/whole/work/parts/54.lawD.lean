/-- the class's world beside the model's: one well S, one rest M; all else is scratch -/
def LW (cI cW : ClassId) (xx xn xt xk xe xo xp xv xq xc xs : Nat → Nat) (xw : Nat → Nat → Nat) (xr xu m : Nat → Nat) (S : WS) (M : MS) (T1 K1 : WS) (qo : FN) (T2 : WS) (qa : FN × FN) (T3 : WS) (qc : Int32 × Int32 × Int32) (T4 V0 V1 V2 V3 V4 V5 V6 V7 T5 : WS) : List va_W :=
  [xl xx xn xt xk xe xo xv xc xr cI (m_hi M, m_rf M), wl xn cI S, wl xt cI T1, wl xk cI K1, tl xe cI (m_q M), ol xo xp cI qo, wl xp cI T2, al xv xq cI qa, wl xq cI T3, cl xc xs xw cW qc, wl xs cI T4, wl (xw 0) cI V0, wl (xw 1) cI V1, wl (xw 2) cI V2, wl (xw 3) cI V3, wl (xw 4) cI V4, wl (xw 5) cI V5, wl (xw 6) cI V6, wl (xw 7) cI V7, rl xr xu cI (m_rw M, m_rn M), wl xu cI T5, ml m cI S M]
/-- what always holds between two calls -/
def IV (S : WS) (M : MS) (K1 : WS) : Prop := Ok S ∧ m_co M = false ∧ m_tn M ≤ 96 ∧ m_rn M ≤ 16 ∧ (m_hi M = true → KP (m_kp M) 0 K1 ∧ Ok K1)
theorem IV.ok {S : WS} {M : MS} {K1 : WS} (h : IV S M K1) : Ok S := h.1
theorem IV.co {S : WS} {M : MS} {K1 : WS} (h : IV S M K1) : m_co M = false := h.2.1
theorem IV.tn {S : WS} {M : MS} {K1 : WS} (h : IV S M K1) : m_tn M ≤ 96 := h.2.2.1
theorem IV.rn {S : WS} {M : MS} {K1 : WS} (h : IV S M K1) : m_rn M ≤ 16 := h.2.2.2.1
theorem IV.im {S : WS} {M : MS} {K1 : WS} (h : IV S M K1) (e : m_hi M = true) : KP (m_kp M) 0 K1 ∧ Ok K1 := h.2.2.2.2 e
theorem IV.S {S T : WS} {M : MS} {K1 : WS} (h : IV S M K1) (hT : Ok T) : IV T M K1 := ⟨hT, h.2⟩
theorem IV.no {S : WS} {M : MS} {K1 : WS} (h : IV S M K1) (j : Nat) : IV S (m_no M j) K1 := h
theorem IV.tx {S : WS} {M : MS} {K1 : WS} (h : IV S M K1) (c : Int32) (hl : m_tn M < 96) : IV S (m_txa M c) K1 := ⟨h.1, h.2.1, show m_tn M + 1 ≤ 96 by omega, h.2.2.2⟩
theorem IV.rw {S : WS} {M : MS} {K1 : WS} (h : IV S M K1) (v : Int32) (hl : m_rn M < 16) : IV S (m_rwa M v) K1 := ⟨h.1, h.2.1, h.2.2.1, show m_rn M + 1 ≤ 16 by omega, h.2.2.2.2⟩
theorem IV.rns {S : WS} {M : MS} {K1 : WS} (h : IV S M K1) : IV S (m_rns M 0) K1 := ⟨h.1, h.2.1, h.2.2.1, Nat.zero_le _, h.2.2.2.2⟩
theorem IV.tns {S : WS} {M : MS} {K1 : WS} (h : IV S M K1) : IV S (m_tns M 0) K1 := ⟨h.1, h.2.1, Nat.zero_le _, h.2.2.2⟩
theorem IV.img {S : WS} {M : MS} {K1 : WS} (h : IV S M K1) : IV S (m_kpa (m_img M) 0 S) S := ⟨h.1, h.2.1, h.2.2.1, h.2.2.2.1, fun _ => ⟨kpall_KP _ 0 S, h.1⟩⟩
theorem IV.on {S : WS} {M : MS} {K1 : WS} (h : IV S M K1) (e : m_hi M = true) : IV K1 (m_set M 64 false) K1 := ⟨(h.im e).2, h.2.1, h.2.2.1, h.2.2.2.1, fun _ => h.im e⟩
theorem IV.q {S : WS} {M N : MS} {K1 : WS} (h : IV S M K1) (g : Mq 64 M N) : IV S N K1 := by
  obtain ⟨h1, h2, h3, h4, h5⟩ := h
  obtain ⟨g1, g2, g3, g4, g5, g6, g7, g8⟩ := id g
  refine ⟨h1, by rw [g2]; exact h2, by rw [g4]; exact h3, by rw [g7]; exact h4, fun e => ?_⟩
  rw [g5] at e
  exact ⟨g.kp (c := 0) (by decide) (h5 e).1, (h5 e).2⟩
theorem LW_q {cI cW : ClassId} {xx xn xt xk xe xo xp xv xq xc xs : Nat → Nat} {xw : Nat → Nat → Nat} {xr xu m : Nat → Nat} {S : WS} {M N : MS} (g : Mq 64 M N) {T1 K1 : WS} {qo : FN} {T2 : WS} {qa : FN × FN} {T3 : WS} {qc : Int32 × Int32 × Int32} {T4 V0 V1 V2 V3 V4 V5 V6 V7 T5 : WS} :
    [xl xx xn xt xk xe xo xv xc xr cI (m_hi M, m_rf M), wl xn cI S, wl xt cI T1, wl xk cI K1, tl xe cI (m_q M), ol xo xp cI qo, wl xp cI T2, al xv xq cI qa, wl xq cI T3, cl xc xs xw cW qc, wl xs cI T4, wl (xw 0) cI V0, wl (xw 1) cI V1, wl (xw 2) cI V2, wl (xw 3) cI V3, wl (xw 4) cI V4, wl (xw 5) cI V5, wl (xw 6) cI V6, wl (xw 7) cI V7, rl xr xu cI (m_rw M, m_rn M), wl xu cI T5, ml m cI S N] = LW cI cW xx xn xt xk xe xo xp xv xq xc xs xw xr xu m S N T1 K1 qo T2 qa T3 qc T4 V0 V1 V2 V3 V4 V5 V6 V7 T5 := by
  obtain ⟨g1, g2, g3, g4, g5, g6, g7, g8⟩ := g
  unfold LW m_q
  rw [g1, g3, g4, g5, g6, g7]
theorem zi_shy {S : WS} (hS : Ok S) {p v : Nat} (hv : v ≤ 9) : Ok (w_shy S p (nI v)) := by
  obtain ⟨h1, h2, h3, h4, h5, h6, h7, h8⟩ := hS
  exact ⟨h1, h2, h3, upd_all h4 ⟨v, hv, rfl⟩, h5, h6, h7, h8⟩
theorem zi_lrn {S : WS} (hS : Ok S) (p : Nat) (x : Int32) : Ok (w_lrn S p x) := hS
theorem zi_dr {S : WS} (hS : Ok S) (x : Int32) : Ok (w_dr S x) := hS
