theorem ge_sgg (X : MS) (a b : Nat) (A B : Int32) (c : Nat) (q : Bool) : m_ge (m_set (m_ges (m_ges X (upd (m_ge X) a A)) (upd (m_ge (m_ges X (upd (m_ge X) a A))) b B)) c q) = upd (upd (m_ge X) a A) b B := rfl
theorem gf_c {g : FN} {S : WS} {i j n : Nat} (k : Nat) {a b : Nat} {A B : Int32} {F : FN} (ha : a = 2 * k) (hb : b = 2 * k + 1) (hF : F = m_gf g S i j n k) (hA : A = w_ga S i j n k) (hB : B = w_gb S i j n k) : upd (upd F a A) b B = m_gf g S i j n (k + 1) := by
  rw [ha, hb]
  exact gf_1 k hF hA hB
