theorem g_set_get : ∀ (is : List Nat) (w ws : va_W), is.length = w.length → ∀ (k : Nat) (q : Nat × va_E), (g_set ws is w)[k]? = some q → (∃ j : Nat, is[j]? = some k ∧ w[j]? = some q) ∨ (k ∉ is ∧ ws[k]? = some q)
  | [], [], ws, _, k, q, h => Or.inr ⟨List.not_mem_nil, h⟩
  | i :: is, q0 :: w, ws, hl, k, q, h => by
    have hl2 : is.length = w.length := by simpa using hl
    rcases g_set_get is w (ws.set i q0) hl2 k q h with ⟨j, h1, h2⟩ | ⟨h1, h2⟩
    · exact Or.inl ⟨j + 1, by simpa using h1, by simpa using h2⟩
    · by_cases hk : k = i
      · subst hk
        by_cases hlt : k < ws.length
        · rw [List.getElem?_set_self hlt] at h2
          exact Or.inl ⟨0, rfl, by simpa using h2⟩
        · rw [List.getElem?_eq_none (by simp; omega)] at h2
          cases h2
      · rw [List.getElem?_set_ne (Ne.symm hk)] at h2
        exact Or.inr ⟨fun hm => (List.mem_cons.mp hm).elim hk h1, h2⟩
  | [], _ :: _, _, hl, _, _, _ => by simp at hl
  | _ :: _, [], _, hl, _, _, _ => by simp at hl
theorem map_some_at {α β : Type} {is : List α} {g : α → Option β} {w : List β} (h : is.map g = w.map some) {k : Nat} {q : β} (hq : w[k]? = some q) : ∃ i, is[k]? = some i ∧ g i = some q := by
  have h1 : (is.map g)[k]? = some (some q) := by rw [h, List.getElem?_map, hq]; rfl
  rw [List.getElem?_map] at h1
  cases hi : is[k]? with
  | none => rw [hi] at h1; cases h1
  | some i => rw [hi] at h1; exact ⟨i, rfl, Option.some.inj h1⟩
theorem map_some_at' {α β : Type} {is : List α} {g : α → Option β} {w : List β} (h : is.map g = w.map some) {k : Nat} {i : α} (hq : is[k]? = some i) : ∃ q, w[k]? = some q ∧ g i = some q := by
  have h1 : (w.map some)[k]? = some (g i) := by rw [← h, List.getElem?_map, hq]; rfl
  rw [List.getElem?_map] at h1
  cases hi : w[k]? with
  | none => rw [hi] at h1; cases h1
  | some q => rw [hi] at h1; exact ⟨q, rfl, (Option.some.inj h1).symm⟩
theorem map_fst_at {w wc : va_W} (h : w.map Prod.fst = wc.map Prod.fst) {k : Nat} {q : Nat × va_E} (hq : w[k]? = some q) : ∃ q', wc[k]? = some q' ∧ q'.1 = q.1 := by
  have h1 : (wc.map Prod.fst)[k]? = some q.1 := by rw [← h, List.getElem?_map, hq]; rfl
  rw [List.getElem?_map] at h1
  cases hi : wc[k]? with
  | none => rw [hi] at h1; cases h1
  | some q' => rw [hi] at h1; exact ⟨q', rfl, Option.some.inj h1⟩
theorem va_D.like {A : Nat → Prop} {w1 w2 : va_W} (hD : va_D A w1) (h : ∀ (k : Nat) (q : Nat × va_E), w2[k]? = some q → ∃ q', w1[k]? = some q' ∧ q'.1 = q.1) : va_D A w2 := by
  refine ⟨fun i j x y hi hj hxy => ?_, fun k q hk => ?_⟩
  · obtain ⟨x0, h1, h2⟩ := h i x hi
    obtain ⟨y0, h3, h4⟩ := h j y hj
    exact hD.1 i j x0 y0 h1 h3 (h2.trans (hxy.trans h4.symm))
  · obtain ⟨q0, h1, h2⟩ := h k q hk
    rw [← h2]
    exact hD.2 k q0 h1
theorem g_call_core {p : Program} {l : Launch} {e : Env} {R : Room} {s : State} {m : MethodId} {args : Array Value} {below : List Frame} {meth : Method} {c : Code} {D : va_G} {nL : Nat} {A : Nat → Prop} {Q : State → Prop} {cs sl mc ms pc : Nat} {ws wc : va_W} {lv : List (Nat × Value)} {st0 rest : List Value} {post : Option Value → va_W → Prop} {a : Array Value} {H : Heap} {locs : List Loc} {ls : Array Slot}
    (hP : va_P D cls8 ws H) (hD : va_D A ws) (hS : va_S A s.heap H locs) (hl : lv_has ls nL lv) (hA : ∀ q : Nat, s.heap.size ≤ q → A q) (isC : List Nat) (hC : isC.map (fun i => ws[i]?) = wc.map some)
    (hr : va_Run p l e R s m args below meth c H locs cs sl mc ms (F0 m pc ls st0) rest (QX D wc post H.size a) (va_A wc H.size))
    (kk : ∀ (rv : Option Value) (w : va_W), post rv w → w.map Prod.fst = wc.map Prod.fst ∧ G (p, l, e, R, s, m, args, below, meth, c, D, nL, A, Q) (cs + mc) (sl + ms) (g_set ws isC w) (pc + 3) lv (rv.toList ++ rest)) :
    W p l e R s m args below meth c H locs cs sl Q (F0 m pc ls st0) := by
  intro T hT X
  obtain ⟨v, st₀, t, T', L, h0, X', hL, e1, e2, ⟨⟨rv, w, hv, hp, hPw, hDw⟩, hz, hk⟩, st⟩ := hr T hT X
  cases hv
  rw [h0] at hz hk
  obtain ⟨hfst, kG⟩ := kk v w hp
  have hF : ∀ q, va_A wc H.size q → A q := va_free hD hS hA isC hC
  have hlen : isC.length = w.length := by
    have h1 := congrArg List.length hC
    have h2 := congrArg List.length hfst
    simp only [List.length_map] at h1 h2
    omega
  have hat := g_set_get isC w ws hlen
  have hP1 : va_P D cls8 (g_set ws isC w) T'.heap := by
    intro k q hq
    rcases hat k q hq with ⟨j, h1, h2⟩ | ⟨h1, h2⟩
    · rw [e1]; exact hPw j q h2
    · refine (hP k q h2).kept ?_
      have hlt := (hP k q h2).lt
      rw [e1]
      refine hk q.1 hlt ?_
      rintro (⟨j, e9, hj⟩ | hge)
      · obtain ⟨i, h3, h4⟩ := map_some_at hC hj
        have hki := hD.1 k i q (q.1, e9) h2 h4 rfl
        subst hki
        exact h1 (List.mem_of_getElem? h3)
      · omega
  have hD1 : va_D A (g_set ws isC w) := by
    refine hD.like (fun k q hq => ?_)
    rcases hat k q hq with ⟨j, h1, h2⟩ | ⟨h1, h2⟩
    · obtain ⟨q1, h3, h4⟩ := map_fst_at hfst h2
      obtain ⟨i, h5, h6⟩ := map_some_at hC h3
      have : i = k := Option.some.inj (h5.symm.trans h1)
      subst this
      exact ⟨q1, h6, h4⟩
    · exact ⟨q, h2, rfl⟩
  obtain ⟨t2, a1, b1⟩ := kG T'.heap (locs ++ L) ls hP1 hD1 ⟨Nat.le_trans hS.1 (by rw [e1]; exact hz), fun q h1 h2 => by
      rw [e1, hk q (Nat.lt_of_lt_of_le h1 hS.1) (fun z => h2 (hF q z))]; exact hS.2.1 q h1 h2, fun q hq => by
      rcases List.mem_append.mp hq with h | h
      · exact hS.2.2 q h
      · exact hF _ (hL q h)⟩ hl T' rfl X'
  exact ⟨t2, st t2 a1, b1⟩
theorem good_ct {y : MethodName} {cc : ByteArray} {nL : Nat} {ret : Option FieldType} (h : Cond.code y cc nL ret ∈ tT) : GoodIn tT (Cond.code y cc nL ret :: tT) := by
  intro w hw
  have hm : w ∈ tT := by
    rcases List.mem_cons.mp hw with rfl | hw
    · exact h
    · exact hw
  exact ⟨hm, tT_good hm⟩
theorem pc_blind {av : List Value} {D : va_G} {cI cW : ClassId} {wc : va_W} {sz : Nat} : FrameBlind (va_Pc av (fun U => U.heap.size = sz ∧ va_P D cls8 wc U.heap ∧ KX D cI cW U ∧ va_D (fun _ => True) wc)) :=
  fun a U g mk q => ⟨q.1, q.2.1, q.2.2.1, KX.same (s := U) (U := U.calling g mk a) rfl q.2.2.2.1, q.2.2.2.2⟩
theorem va_P.subC {D : va_G} {ws wc : va_W} {H : Heap} (h : va_P D cls8 ws H) {isC : List Nat} (hC : isC.map (fun i => ws[i]?) = wc.map some) : va_P D cls8 wc H := by
  intro k q hk
  obtain ⟨i, -, hi⟩ := map_some_at hC hk
  exact h i q hi
section
variable {l : Launch} {D : va_G} {cI cW : ClassId} {own : String} {cc : ByteArray} {nL : Nat} {rm : Room} {cs sl pc pc' : Nat} {ws : va_W} {lv lv' : List (Nat × Value)} {st : List Value} {x : GC}
variable {y : MethodName} {C : String} {cc' : ByteArray} {nL' : Nat} {ret : Option FieldType} {n : Nat} {rm' : Room} {wc : va_W} {post : Option Value → va_W → Prop} {idx : Nat} {As rest : List Value} {b : Nat}

theorem G.cv (X : GOK x l D cI cW own cc nL rm) (K : KV y C cc' nL' ret n) (hL : Cond.methodLink own idx y ∈ tT) (d : DC cc pc (.invokevirtual idx) 3 pc') (hM : CT l D cI cW y cc' nL' ret rm' (.ref b :: As) wc post) (hR : rm'.frames + 1 ≤ rm.frames ∧ 8 + (nL' + 11) + rm'.locals ≤ rm.locals) (hcs : cs + rm'.cells ≤ rm.cells ∧ sl + rm'.slots ≤ rm.slots) (isC : List Nat) (hC : isC.map (fun i => ws[i]?) = wc.map some) (hnd : va_nd isC = true) (hn : As.length = n) (q0 : Nat) {ci : Nat} {T : u_T} {N : Nat} {fs : List Value} (he : ws[q0]? = some (b, .inr (ci, fs))) (hcl : cls8[ci]? = some (C, T, N)) (hst : st = As.reverse ++ .ref b :: rest) (hW : (rest.map fun v => v.category).sum ≤ 8) (kk : ∀ (rv : Option Value) (w : va_W), post rv w → w.map Prod.fst = wc.map Prod.fst ∧ G x (cs + rm'.cells) (sl + rm'.slots) (g_set ws isC w) pc' lv (rv.toList ++ rest)) : G x cs sl ws pc lv st := by
  obtain ⟨p, l', e, R, s, m, args, below, meth, c, D', nL', A, Q⟩ := x
  obtain ⟨rfl, rfl, rfl, rfl, hx, hb, hml, hown, hts, hK, hA⟩ := X
  obtain ⟨hd, rfl⟩ := d
  subst hst
  intro H locs ls hP hD hS hl
  obtain ⟨⟨k1, k2, k3, k4⟩, rfl, k5⟩ := K
  refine g_call_core hP hD hS hl hA isC hC (va_runV (As := As) (rest := rest) ⟨hx, hb, hml, hown, hts⟩ (hM H.size) ⟨callB_of n hts (good_ct k4) rfl rfl rfl (hts _ k3) (hts _ hL) k5 hR, hts _ k1, hts _ k2⟩ ⟨pc_blind, va_recv hK.1 hP hcl he, fun U hU hW => ⟨rfl, by rw [hU], by rw [hU]; exact hP.subC hC, hK.warm hW, (hD.sub isC hnd hC).weaken (fun _ _ _ _ => trivial)⟩⟩ rfl hn hl.1 rfl (lv_room hW) hd hcs) kk
theorem G.cst (X : GOK x l D cI cW own cc nL rm) (K : KS y C cc' nL' ret n) (hL : Cond.methodLink own idx y ∈ tT) (d : DC cc pc (.invokestatic idx) 3 pc') (hM : CT l D cI cW y cc' nL' ret rm' As wc post) (hR : rm'.frames + 1 ≤ rm.frames ∧ 8 + (nL' + 11) + rm'.locals ≤ rm.locals) (hcs : cs + rm'.cells ≤ rm.cells ∧ sl + rm'.slots ≤ rm.slots) (isC : List Nat) (hC : isC.map (fun i => ws[i]?) = wc.map some) (hnd : va_nd isC = true) (hn : As.length = n) (hst : st = As.reverse ++ rest) (hW : (rest.map fun v => v.category).sum ≤ 8) (kk : ∀ (rv : Option Value) (w : va_W), post rv w → w.map Prod.fst = wc.map Prod.fst ∧ G x (cs + rm'.cells) (sl + rm'.slots) (g_set ws isC w) pc' lv (rv.toList ++ rest)) : G x cs sl ws pc lv st := by
  obtain ⟨p, l', e, R, s, m, args, below, meth, c, D', nL', A, Q⟩ := x
  obtain ⟨rfl, rfl, rfl, rfl, hx, hb, hml, hown, hts, hK, hA⟩ := X
  obtain ⟨hd, rfl⟩ := d
  subst hst
  intro H locs ls hP hD hS hl
  obtain ⟨⟨k1, k3, k4⟩, rfl, k5⟩ := K
  refine g_call_core hP hD hS hl hA isC hC (va_runS (As := As) (rest := rest) ⟨hx, hb, hml, hown, hts⟩ (hM H.size) ⟨callB_of n hts (good_ct k4) rfl rfl rfl (hts _ k3) (hts _ hL) k5 hR, hts _ k1⟩ ⟨pc_blind,  fun U hU hW => ⟨rfl, by rw [hU], by rw [hU]; exact hP.subC hC, hK.warm hW, (hD.sub isC hnd hC).weaken (fun _ _ _ _ => trivial)⟩⟩ rfl hn hl.1 rfl (lv_room hW) hd hcs) kk
theorem G.csn (X : GOK x l D cI cW own cc nL rm) {host : String} (K : KS y C cc' nL' ret n) (hL : ∀ U, NX U → va_Nw (.methodLinkNest own idx y host) U) (d : DC cc pc (.invokestatic idx) 3 pc') (hM : CT l D cI cW y cc' nL' ret rm' As wc post) (hR : rm'.frames + 1 ≤ rm.frames ∧ 8 + (nL' + 11) + rm'.locals ≤ rm.locals) (hcs : cs + rm'.cells ≤ rm.cells ∧ sl + rm'.slots ≤ rm.slots) (isC : List Nat) (hC : isC.map (fun i => ws[i]?) = wc.map some) (hnd : va_nd isC = true) (hn : As.length = n) (hst : st = As.reverse ++ rest) (hW : (rest.map fun v => v.category).sum ≤ 8) (kk : ∀ (rv : Option Value) (w : va_W), post rv w → w.map Prod.fst = wc.map Prod.fst ∧ G x (cs + rm'.cells) (sl + rm'.slots) (g_set ws isC w) pc' lv (rv.toList ++ rest)) : G x cs sl ws pc lv st := by
  obtain ⟨p, l', e, R, s, m, args, below, meth, c, D', nL', A, Q⟩ := x
  obtain ⟨rfl, rfl, rfl, rfl, hx, hb, hml, hown, hts, hK, hA⟩ := X
  obtain ⟨hd, rfl⟩ := d
  subst hst
  intro H locs ls hP hD hS hl
  obtain ⟨⟨k1, k3, k4⟩, rfl, k5⟩ := K
  refine g_call_core hP hD hS hl hA isC hC (va_runSN (As := As) (rest := rest) ⟨hx, hb, hml, hown, hts⟩ (hM H.size) ⟨va_cnB n hts (good_ct k4) rfl rfl rfl (hL s hK.2) (hts _ k3) k5 hR, hts _ k1, trivial⟩ ⟨pc_blind,  fun U hU hW => ⟨rfl, by rw [hU], by rw [hU]; exact hP.subC hC, hK.warm hW, (hD.sub isC hnd hC).weaken (fun _ _ _ _ => trivial)⟩⟩ rfl hn hl.1 rfl (lv_room hW) hd hcs) kk
theorem G.cvi (X : GOK x l D cI cW own cc nL rm) {r : Int32} {w2 : va_W} (K : KV y C cc' nL' ret n) (hL : Cond.methodLink own idx y ∈ tT) (d : DC cc pc (.invokevirtual idx) 3 pc') (hM : CT l D cI cW y cc' nL' ret rm' (.ref b :: As) wc (PI r w2)) (hR : rm'.frames + 1 ≤ rm.frames ∧ 8 + (nL' + 11) + rm'.locals ≤ rm.locals) (hcs : cs ≤ rm.cells ∧ sl ≤ rm.slots) (isC : List Nat) (hC : isC.map (fun i => ws[i]?) = wc.map some) (h0 : rm'.cells = 0 ∧ rm'.slots = 0) (hnd : va_nd isC = true) (hn : As.length = n) (q0 : Nat) {ci : Nat} {T : u_T} {N : Nat} {fs : List Value} (he : ws[q0]? = some (b, .inr (ci, fs))) (hcl : cls8[ci]? = some (C, T, N)) (hst : st = As.reverse ++ .ref b :: rest) (hW : (rest.map fun v => v.category).sum ≤ 8) (hf : w2.map Prod.fst = wc.map Prod.fst) {ws' : va_W} (hw : g_set ws isC w2 = ws') (k : G x cs sl ws' pc' lv (.int r :: rest)) : G x cs sl ws pc lv st := G.cv X K hL d hM hR (by rw [h0.1, h0.2]; exact hcs) isC hC hnd hn q0 he hcl hst hW (fun rv w h => by
  obtain ⟨rfl, rfl⟩ := h
  rw [hw, h0.1, h0.2]
  exact ⟨hf, k⟩)
theorem G.csti (X : GOK x l D cI cW own cc nL rm) {r : Int32} {w2 : va_W} (K : KS y C cc' nL' ret n) (hL : Cond.methodLink own idx y ∈ tT) (d : DC cc pc (.invokestatic idx) 3 pc') (hM : CT l D cI cW y cc' nL' ret rm' As wc (PI r w2)) (hR : rm'.frames + 1 ≤ rm.frames ∧ 8 + (nL' + 11) + rm'.locals ≤ rm.locals) (hcs : cs ≤ rm.cells ∧ sl ≤ rm.slots) (isC : List Nat) (hC : isC.map (fun i => ws[i]?) = wc.map some) (h0 : rm'.cells = 0 ∧ rm'.slots = 0) (hnd : va_nd isC = true) (hn : As.length = n)  (hst : st = As.reverse ++ rest) (hW : (rest.map fun v => v.category).sum ≤ 8) (hf : w2.map Prod.fst = wc.map Prod.fst) {ws' : va_W} (hw : g_set ws isC w2 = ws') (k : G x cs sl ws' pc' lv (.int r :: rest)) : G x cs sl ws pc lv st := G.cst X K hL d hM hR (by rw [h0.1, h0.2]; exact hcs) isC hC hnd hn hst hW (fun rv w h => by
  obtain ⟨rfl, rfl⟩ := h
  rw [hw, h0.1, h0.2]
  exact ⟨hf, k⟩)
theorem G.csni (X : GOK x l D cI cW own cc nL rm) {r : Int32} {w2 : va_W} {host : String} (K : KS y C cc' nL' ret n) (hL : ∀ U, NX U → va_Nw (.methodLinkNest own idx y host) U) (d : DC cc pc (.invokestatic idx) 3 pc') (hM : CT l D cI cW y cc' nL' ret rm' As wc (PI r w2)) (hR : rm'.frames + 1 ≤ rm.frames ∧ 8 + (nL' + 11) + rm'.locals ≤ rm.locals) (hcs : cs ≤ rm.cells ∧ sl ≤ rm.slots) (isC : List Nat) (hC : isC.map (fun i => ws[i]?) = wc.map some) (h0 : rm'.cells = 0 ∧ rm'.slots = 0) (hnd : va_nd isC = true) (hn : As.length = n)  (hst : st = As.reverse ++ rest) (hW : (rest.map fun v => v.category).sum ≤ 8) (hf : w2.map Prod.fst = wc.map Prod.fst) {ws' : va_W} (hw : g_set ws isC w2 = ws') (k : G x cs sl ws' pc' lv (.int r :: rest)) : G x cs sl ws pc lv st := G.csn X K hL d hM hR (by rw [h0.1, h0.2]; exact hcs) isC hC hnd hn hst hW (fun rv w h => by
  obtain ⟨rfl, rfl⟩ := h
  rw [hw, h0.1, h0.2]
  exact ⟨hf, k⟩)
theorem G.cvv (X : GOK x l D cI cW own cc nL rm) {w2 : va_W} (K : KV y C cc' nL' ret n) (hL : Cond.methodLink own idx y ∈ tT) (d : DC cc pc (.invokevirtual idx) 3 pc') (hM : CT l D cI cW y cc' nL' ret rm' (.ref b :: As) wc (PV w2)) (hR : rm'.frames + 1 ≤ rm.frames ∧ 8 + (nL' + 11) + rm'.locals ≤ rm.locals) (hcs : cs ≤ rm.cells ∧ sl ≤ rm.slots) (isC : List Nat) (hC : isC.map (fun i => ws[i]?) = wc.map some) (h0 : rm'.cells = 0 ∧ rm'.slots = 0) (hnd : va_nd isC = true) (hn : As.length = n) (q0 : Nat) {ci : Nat} {T : u_T} {N : Nat} {fs : List Value} (he : ws[q0]? = some (b, .inr (ci, fs))) (hcl : cls8[ci]? = some (C, T, N)) (hst : st = As.reverse ++ .ref b :: rest) (hW : (rest.map fun v => v.category).sum ≤ 8) (hf : w2.map Prod.fst = wc.map Prod.fst) {ws' : va_W} (hw : g_set ws isC w2 = ws') (k : G x cs sl ws' pc' lv (rest)) : G x cs sl ws pc lv st := G.cv X K hL d hM hR (by rw [h0.1, h0.2]; exact hcs) isC hC hnd hn q0 he hcl hst hW (fun rv w h => by
  obtain ⟨rfl, rfl⟩ := h
  rw [hw, h0.1, h0.2]
  exact ⟨hf, k⟩)
theorem G.cstv (X : GOK x l D cI cW own cc nL rm) {w2 : va_W} (K : KS y C cc' nL' ret n) (hL : Cond.methodLink own idx y ∈ tT) (d : DC cc pc (.invokestatic idx) 3 pc') (hM : CT l D cI cW y cc' nL' ret rm' As wc (PV w2)) (hR : rm'.frames + 1 ≤ rm.frames ∧ 8 + (nL' + 11) + rm'.locals ≤ rm.locals) (hcs : cs ≤ rm.cells ∧ sl ≤ rm.slots) (isC : List Nat) (hC : isC.map (fun i => ws[i]?) = wc.map some) (h0 : rm'.cells = 0 ∧ rm'.slots = 0) (hnd : va_nd isC = true) (hn : As.length = n)  (hst : st = As.reverse ++ rest) (hW : (rest.map fun v => v.category).sum ≤ 8) (hf : w2.map Prod.fst = wc.map Prod.fst) {ws' : va_W} (hw : g_set ws isC w2 = ws') (k : G x cs sl ws' pc' lv (rest)) : G x cs sl ws pc lv st := G.cst X K hL d hM hR (by rw [h0.1, h0.2]; exact hcs) isC hC hnd hn hst hW (fun rv w h => by
  obtain ⟨rfl, rfl⟩ := h
  rw [hw, h0.1, h0.2]
  exact ⟨hf, k⟩)
theorem G.csnv (X : GOK x l D cI cW own cc nL rm) {w2 : va_W} {host : String} (K : KS y C cc' nL' ret n) (hL : ∀ U, NX U → va_Nw (.methodLinkNest own idx y host) U) (d : DC cc pc (.invokestatic idx) 3 pc') (hM : CT l D cI cW y cc' nL' ret rm' As wc (PV w2)) (hR : rm'.frames + 1 ≤ rm.frames ∧ 8 + (nL' + 11) + rm'.locals ≤ rm.locals) (hcs : cs ≤ rm.cells ∧ sl ≤ rm.slots) (isC : List Nat) (hC : isC.map (fun i => ws[i]?) = wc.map some) (h0 : rm'.cells = 0 ∧ rm'.slots = 0) (hnd : va_nd isC = true) (hn : As.length = n)  (hst : st = As.reverse ++ rest) (hW : (rest.map fun v => v.category).sum ≤ 8) (hf : w2.map Prod.fst = wc.map Prod.fst) {ws' : va_W} (hw : g_set ws isC w2 = ws') (k : G x cs sl ws' pc' lv (rest)) : G x cs sl ws pc lv st := G.csn X K hL d hM hR (by rw [h0.1, h0.2]; exact hcs) isC hC hnd hn hst hW (fun rv w h => by
  obtain ⟨rfl, rfl⟩ := h
  rw [hw, h0.1, h0.2]
  exact ⟨hf, k⟩)
theorem G.cvj (X : GOK x l D cI cW own cc nL rm) {r : Int64} {w2 : va_W} (K : KV y C cc' nL' ret n) (hL : Cond.methodLink own idx y ∈ tT) (d : DC cc pc (.invokevirtual idx) 3 pc') (hM : CT l D cI cW y cc' nL' ret rm' (.ref b :: As) wc (PJ r w2)) (hR : rm'.frames + 1 ≤ rm.frames ∧ 8 + (nL' + 11) + rm'.locals ≤ rm.locals) (hcs : cs ≤ rm.cells ∧ sl ≤ rm.slots) (isC : List Nat) (hC : isC.map (fun i => ws[i]?) = wc.map some) (h0 : rm'.cells = 0 ∧ rm'.slots = 0) (hnd : va_nd isC = true) (hn : As.length = n) (q0 : Nat) {ci : Nat} {T : u_T} {N : Nat} {fs : List Value} (he : ws[q0]? = some (b, .inr (ci, fs))) (hcl : cls8[ci]? = some (C, T, N)) (hst : st = As.reverse ++ .ref b :: rest) (hW : (rest.map fun v => v.category).sum ≤ 8) (hf : w2.map Prod.fst = wc.map Prod.fst) {ws' : va_W} (hw : g_set ws isC w2 = ws') (k : G x cs sl ws' pc' lv (.long r :: rest)) : G x cs sl ws pc lv st := G.cv X K hL d hM hR (by rw [h0.1, h0.2]; exact hcs) isC hC hnd hn q0 he hcl hst hW (fun rv w h => by
  obtain ⟨rfl, rfl⟩ := h
  rw [hw, h0.1, h0.2]
  exact ⟨hf, k⟩)
theorem G.cstj (X : GOK x l D cI cW own cc nL rm) {r : Int64} {w2 : va_W} (K : KS y C cc' nL' ret n) (hL : Cond.methodLink own idx y ∈ tT) (d : DC cc pc (.invokestatic idx) 3 pc') (hM : CT l D cI cW y cc' nL' ret rm' As wc (PJ r w2)) (hR : rm'.frames + 1 ≤ rm.frames ∧ 8 + (nL' + 11) + rm'.locals ≤ rm.locals) (hcs : cs ≤ rm.cells ∧ sl ≤ rm.slots) (isC : List Nat) (hC : isC.map (fun i => ws[i]?) = wc.map some) (h0 : rm'.cells = 0 ∧ rm'.slots = 0) (hnd : va_nd isC = true) (hn : As.length = n)  (hst : st = As.reverse ++ rest) (hW : (rest.map fun v => v.category).sum ≤ 8) (hf : w2.map Prod.fst = wc.map Prod.fst) {ws' : va_W} (hw : g_set ws isC w2 = ws') (k : G x cs sl ws' pc' lv (.long r :: rest)) : G x cs sl ws pc lv st := G.cst X K hL d hM hR (by rw [h0.1, h0.2]; exact hcs) isC hC hnd hn hst hW (fun rv w h => by
  obtain ⟨rfl, rfl⟩ := h
  rw [hw, h0.1, h0.2]
  exact ⟨hf, k⟩)
theorem G.csnj (X : GOK x l D cI cW own cc nL rm) {r : Int64} {w2 : va_W} {host : String} (K : KS y C cc' nL' ret n) (hL : ∀ U, NX U → va_Nw (.methodLinkNest own idx y host) U) (d : DC cc pc (.invokestatic idx) 3 pc') (hM : CT l D cI cW y cc' nL' ret rm' As wc (PJ r w2)) (hR : rm'.frames + 1 ≤ rm.frames ∧ 8 + (nL' + 11) + rm'.locals ≤ rm.locals) (hcs : cs ≤ rm.cells ∧ sl ≤ rm.slots) (isC : List Nat) (hC : isC.map (fun i => ws[i]?) = wc.map some) (h0 : rm'.cells = 0 ∧ rm'.slots = 0) (hnd : va_nd isC = true) (hn : As.length = n)  (hst : st = As.reverse ++ rest) (hW : (rest.map fun v => v.category).sum ≤ 8) (hf : w2.map Prod.fst = wc.map Prod.fst) {ws' : va_W} (hw : g_set ws isC w2 = ws') (k : G x cs sl ws' pc' lv (.long r :: rest)) : G x cs sl ws pc lv st := G.csn X K hL d hM hR (by rw [h0.1, h0.2]; exact hcs) isC hC hnd hn hst hW (fun rv w h => by
  obtain ⟨rfl, rfl⟩ := h
  rw [hw, h0.1, h0.2]
  exact ⟨hf, k⟩)
end
def PIE {α : Type} (r : Int32) (f : α → va_W) : Option Value → va_W → Prop := fun rv w => ∃ z : α, rv = some (.int r) ∧ w = f z
def PVE {α : Type} (f : α → va_W) : Option Value → va_W → Prop := fun rv w => ∃ z : α, rv = none ∧ w = f z
def PJE {α : Type} (r : Int64) (f : α → va_W) : Option Value → va_W → Prop := fun rv w => ∃ z : α, rv = some (.long r) ∧ w = f z
def PR (r : Nat) (w' : va_W) : Option Value → va_W → Prop := fun rv w => rv = some (.ref r) ∧ w = w'
theorem pie_mk {α : Type} {f : α → va_W} {r v : Int32} {w : va_W} (z : α) (h : v = r) (hw : w = f z) : PIE r f (some (.int v)) w := ⟨z, by rw [h], hw⟩
theorem pje_mk {α : Type} {f : α → va_W} {r v : Int64} {w : va_W} (z : α) (h : v = r) (hw : w = f z) : PJE r f (some (.long v)) w := ⟨z, by rw [h], hw⟩
theorem pve_mk {α : Type} {f : α → va_W} {w : va_W} (z : α) (hw : w = f z) : PVE f none w := ⟨z, rfl, hw⟩
theorem pr_mk {r v : Nat} {w w' : va_W} (h : v = r) (hw : w = w') : PR r w' (some (.ref v)) w := ⟨by rw [h], hw⟩
section
variable {l : Launch} {D : va_G} {cI cW : ClassId} {own : String} {cc : ByteArray} {nL : Nat} {rm : Room} {cs sl pc pc' : Nat} {ws : va_W} {lv lv' : List (Nat × Value)} {st : List Value} {x : GC}
variable {y : MethodName} {C : String} {cc' : ByteArray} {nL' : Nat} {ret : Option FieldType} {n : Nat} {rm' : Room} {wc : va_W} {post : Option Value → va_W → Prop} {idx : Nat} {As rest : List Value} {b : Nat}

theorem G.cvie (X : GOK x l D cI cW own cc nL rm) {α : Type} {r : Int32} {f9 : α → va_W} (K : KV y C cc' nL' ret n) (hL : Cond.methodLink own idx y ∈ tT) (d : DC cc pc (.invokevirtual idx) 3 pc') (hM : CT l D cI cW y cc' nL' ret rm' (.ref b :: As) wc (PIE r f9)) (hR : rm'.frames + 1 ≤ rm.frames ∧ 8 + (nL' + 11) + rm'.locals ≤ rm.locals) (hcs : cs ≤ rm.cells ∧ sl ≤ rm.slots) (isC : List Nat) (hC : isC.map (fun i => ws[i]?) = wc.map some) (h0 : rm'.cells = 0 ∧ rm'.slots = 0) (hnd : va_nd isC = true) (hn : As.length = n) (q0 : Nat) {ci : Nat} {T : u_T} {N : Nat} {fs : List Value} (he : ws[q0]? = some (b, .inr (ci, fs))) (hcl : cls8[ci]? = some (C, T, N)) (hst : st = As.reverse ++ .ref b :: rest) (hW : (rest.map fun v => v.category).sum ≤ 8) (hf : ∀ z, (f9 z).map Prod.fst = wc.map Prod.fst) {f8 : α → va_W} (hw : ∀ z, g_set ws isC (f9 z) = f8 z) (k : ∀ z, G x cs sl (f8 z) pc' lv (.int r :: rest)) : G x cs sl ws pc lv st := G.cv X K hL d hM hR (by rw [h0.1, h0.2]; exact hcs) isC hC hnd hn q0 he hcl hst hW (fun rv w h => by
  obtain ⟨z, rfl, rfl⟩ := h
  rw [hw z, h0.1, h0.2]
  exact ⟨hf z, k z⟩)
theorem G.cvve (X : GOK x l D cI cW own cc nL rm) {α : Type} {f9 : α → va_W} (K : KV y C cc' nL' ret n) (hL : Cond.methodLink own idx y ∈ tT) (d : DC cc pc (.invokevirtual idx) 3 pc') (hM : CT l D cI cW y cc' nL' ret rm' (.ref b :: As) wc (PVE f9)) (hR : rm'.frames + 1 ≤ rm.frames ∧ 8 + (nL' + 11) + rm'.locals ≤ rm.locals) (hcs : cs ≤ rm.cells ∧ sl ≤ rm.slots) (isC : List Nat) (hC : isC.map (fun i => ws[i]?) = wc.map some) (h0 : rm'.cells = 0 ∧ rm'.slots = 0) (hnd : va_nd isC = true) (hn : As.length = n) (q0 : Nat) {ci : Nat} {T : u_T} {N : Nat} {fs : List Value} (he : ws[q0]? = some (b, .inr (ci, fs))) (hcl : cls8[ci]? = some (C, T, N)) (hst : st = As.reverse ++ .ref b :: rest) (hW : (rest.map fun v => v.category).sum ≤ 8) (hf : ∀ z, (f9 z).map Prod.fst = wc.map Prod.fst) {f8 : α → va_W} (hw : ∀ z, g_set ws isC (f9 z) = f8 z) (k : ∀ z, G x cs sl (f8 z) pc' lv (rest)) : G x cs sl ws pc lv st := G.cv X K hL d hM hR (by rw [h0.1, h0.2]; exact hcs) isC hC hnd hn q0 he hcl hst hW (fun rv w h => by
  obtain ⟨z, rfl, rfl⟩ := h
  rw [hw z, h0.1, h0.2]
  exact ⟨hf z, k z⟩)
theorem G.cvje (X : GOK x l D cI cW own cc nL rm) {α : Type} {r : Int64} {f9 : α → va_W} (K : KV y C cc' nL' ret n) (hL : Cond.methodLink own idx y ∈ tT) (d : DC cc pc (.invokevirtual idx) 3 pc') (hM : CT l D cI cW y cc' nL' ret rm' (.ref b :: As) wc (PJE r f9)) (hR : rm'.frames + 1 ≤ rm.frames ∧ 8 + (nL' + 11) + rm'.locals ≤ rm.locals) (hcs : cs ≤ rm.cells ∧ sl ≤ rm.slots) (isC : List Nat) (hC : isC.map (fun i => ws[i]?) = wc.map some) (h0 : rm'.cells = 0 ∧ rm'.slots = 0) (hnd : va_nd isC = true) (hn : As.length = n) (q0 : Nat) {ci : Nat} {T : u_T} {N : Nat} {fs : List Value} (he : ws[q0]? = some (b, .inr (ci, fs))) (hcl : cls8[ci]? = some (C, T, N)) (hst : st = As.reverse ++ .ref b :: rest) (hW : (rest.map fun v => v.category).sum ≤ 8) (hf : ∀ z, (f9 z).map Prod.fst = wc.map Prod.fst) {f8 : α → va_W} (hw : ∀ z, g_set ws isC (f9 z) = f8 z) (k : ∀ z, G x cs sl (f8 z) pc' lv (.long r :: rest)) : G x cs sl ws pc lv st := G.cv X K hL d hM hR (by rw [h0.1, h0.2]; exact hcs) isC hC hnd hn q0 he hcl hst hW (fun rv w h => by
  obtain ⟨z, rfl, rfl⟩ := h
  rw [hw z, h0.1, h0.2]
  exact ⟨hf z, k z⟩)
theorem G.cvr (X : GOK x l D cI cW own cc nL rm) {r : Nat} {w2 : va_W} (K : KV y C cc' nL' ret n) (hL : Cond.methodLink own idx y ∈ tT) (d : DC cc pc (.invokevirtual idx) 3 pc') (hM : CT l D cI cW y cc' nL' ret rm' (.ref b :: As) wc (PR r w2)) (hR : rm'.frames + 1 ≤ rm.frames ∧ 8 + (nL' + 11) + rm'.locals ≤ rm.locals) (hcs : cs ≤ rm.cells ∧ sl ≤ rm.slots) (isC : List Nat) (hC : isC.map (fun i => ws[i]?) = wc.map some) (h0 : rm'.cells = 0 ∧ rm'.slots = 0) (hnd : va_nd isC = true) (hn : As.length = n) (q0 : Nat) {ci : Nat} {T : u_T} {N : Nat} {fs : List Value} (he : ws[q0]? = some (b, .inr (ci, fs))) (hcl : cls8[ci]? = some (C, T, N)) (hst : st = As.reverse ++ .ref b :: rest) (hW : (rest.map fun v => v.category).sum ≤ 8) (hf : w2.map Prod.fst = wc.map Prod.fst) {ws' : va_W} (hw : g_set ws isC w2 = ws') (k : G x cs sl ws' pc' lv (.ref r :: rest)) : G x cs sl ws pc lv st := G.cv X K hL d hM hR (by rw [h0.1, h0.2]; exact hcs) isC hC hnd hn q0 he hcl hst hW (fun rv w h => by
  obtain ⟨rfl, rfl⟩ := h
  rw [hw, h0.1, h0.2]
  exact ⟨hf, k⟩)
end
