theorem bv_bit (x : BitVec 32) (n : Nat) (hn : n < 32) : (x.sshiftRight n &&& 1#32 = 1#32) ↔ x.getLsbD n = true := by
  have h0 : (x.sshiftRight n).getLsbD 0 = x.getLsbD n := by
    rw [BitVec.getLsbD_sshiftRight]
    simp [hn]
  constructor
  · intro h
    have h1 := congrArg (fun y : BitVec 32 => y.getLsbD 0) h
    simp only [BitVec.getLsbD_and, h0] at h1
    simpa using h1
  · intro h
    rw [← h0] at h
    apply BitVec.eq_of_getLsbD_eq
    intro i hi
    rw [BitVec.getLsbD_and]
    by_cases hi0 : i = 0
    · subst hi0
      rw [h]
      simp
    · have h2 : (1#32).getLsbD i = false := by
        have : ∀ i : Fin 32, i.val ≠ 0 → (1#32).getLsbD i.val = false := by decide
        exact this ⟨i, hi⟩ hi0
      rw [h2]
      simp
theorem sm_nat : ∀ u : Fin 9, ((nI u.val &&& 31).toBitVec.smod 32) = BitVec.ofNat 32 u.val := by decide
theorem hasb_bit (v : Int32) {u : Nat} (hu : u < 9) : hasb v (nI u) = v.toBitVec.getLsbD u := by
  have h1 : ((v >>> (nI u &&& 31)) &&& 1 = 1) ↔ v.toBitVec.getLsbD u = true := by
    rw [← bv_bit v.toBitVec u (by omega), ← Int32.toBitVec_inj]
    show (BitVec.sshiftRight' v.toBitVec ((nI u &&& 31).toBitVec.smod 32)) &&& 1#32 = 1#32 ↔ _
    rw [sm_nat ⟨u, hu⟩]
    show (v.toBitVec.sshiftRight (BitVec.ofNat 32 u).toNat) &&& 1#32 = 1#32 ↔ _
    rw [BitVec.toNat_ofNat, Nat.mod_eq_of_lt (by omega)]
  unfold hasb
  by_cases h : v.toBitVec.getLsbD u = true
  · rw [h, decide_eq_true (h1.mpr h)]
  · rw [decide_eq_false (fun q => h (h1.mp q))]
    simpa using h
theorem shl_bit : ∀ (t u : Fin 9), ((1 : Int32) <<< (nI t.val &&& 31)).toBitVec.getLsbD u.val = decide (u.val = t.val) := by decide +kernel
theorem hasb_or (v : Int32) {t u : Nat} (ht : t < 9) (hu : u < 9) : hasb (v ||| (1 <<< (nI t &&& 31))) (nI u) = (hasb v (nI u) || decide (u = t)) := by
  rw [hasb_bit _ hu, hasb_bit _ hu, Int32.toBitVec_or, BitVec.getLsbD_or, shl_bit ⟨t, ht⟩ ⟨u, hu⟩]
