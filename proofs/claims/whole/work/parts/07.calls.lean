theorem g_set_get : ∀ (is : List Nat) (w ws : List va_W), is.length = w.length → ∀ (k : Nat) (q : va_W), (g_set ws is w)[k]? = some q → (∃ j : Nat, is[j]? = some k ∧ w[j]? = some q) ∨ (k ∉ is ∧ ws[k]? = some q)
  | [], [], ws, _, k, q, h => Or.inr ⟨List.not_mem_nil, h⟩
  | i :: is, q0 :: w, ws, hl, k, q, h => by
    have hl2 : is.length = w.length := by simpa using hl
    rcases g_set_get is w (ws.set i q0) hl2 k q h with ⟨j, h1, h2⟩ | ⟨h1, h2⟩
    · exact Or.inl ⟨j + 1, by simpa using h1, by simpa using h2⟩
    · by_cases hk : k = i
      · subst hk
        by_cases hlt : k < ws.length
        · rw [List.getElem?_set_self hlt] at h2
          exact Or.inl ⟨0, rfl, by simpa using h2⟩
        · rw [List.getElem?_eq_none (by simp; omega)] at h2
          cases h2
      · rw [List.getElem?_set_ne (Ne.symm hk)] at h2
        exact Or.inr ⟨fun hm => (List.mem_cons.mp hm).elim hk h1, h2⟩
  | [], _ :: _, _, hl, _, _, _ => by simp at hl
  | _ :: _, [], _, hl, _, _, _ => by simp at hl
theorem g_set_length : ∀ (is : List Nat) (w ws : List va_W), (g_set ws is w).length = ws.length
  | [], _, _ => by simp [g_set]
  | _ :: _, [], _ => by simp [g_set]
  | i :: is, q :: w, ws => by
    show (g_set (ws.set i q) is w).length = ws.length
    rw [g_set_length is w, List.length_set]
theorem map_some_at {α β : Type} {is : List α} {g : α → Option β} {w : List β} (h : is.map g = w.map some) {k : Nat} {q : β} (hq : w[k]? = some q) : ∃ i, is[k]? = some i ∧ g i = some q := by
  have h1 : (is.map g)[k]? = some (some q) := by rw [h, List.getElem?_map, hq]; rfl
  rw [List.getElem?_map] at h1
  cases hi : is[k]? with
  | none => rw [hi] at h1; cases h1
  | some i => rw [hi] at h1; exact ⟨i, rfl, Option.some.inj h1⟩
theorem map_eq_at {α β : Type} {f : α → β} {w wc : List α} (h : w.map f = wc.map f) {k : Nat} {q : α} (hq : w[k]? = some q) : ∃ q', wc[k]? = some q' ∧ f q' = f q := by
  have h1 : (wc.map f)[k]? = some (f q) := by rw [← h, List.getElem?_map, hq]; rfl
  rw [List.getElem?_map] at h1
  cases hi : wc[k]? with
  | none => rw [hi] at h1; cases h1
  | some q' => rw [hi] at h1; exact ⟨q', rfl, Option.some.inj h1⟩
theorem va_D_iff {A : Nat → Prop} { ws : va_W } : va_D A ws ↔ (ws.map Prod.fst).Nodup ∧ ∀ a ∈ ws.map Prod.fst, A a := by
  constructor
  · intro h
    refine ⟨?_, fun a ha => ?_⟩
    · refine List.pairwise_iff_getElem.mpr (fun i j hi hj hij he => ?_)
      simp only [List.length_map] at hi hj
      simp only [List.getElem_map] at he
      have := h.1 i j ws[i] ws[j] (List.getElem?_eq_getElem hi) (List.getElem?_eq_getElem hj) he
      omega
    · obtain ⟨q, hq, rfl⟩ := List.mem_map.mp ha
      obtain ⟨k, hk⟩ := List.getElem?_of_mem hq
      exact h.2 k q hk
  · intro h
    refine ⟨fun i j p q hi hj he => ?_, fun k q hk => h.2 _ (List.mem_map.mpr ⟨q, List.mem_of_getElem? hk, rfl⟩)⟩
    obtain ⟨hi1, rfl⟩ := List.getElem?_eq_some_iff.mp hi
    obtain ⟨hj1, rfl⟩ := List.getElem?_eq_some_iff.mp hj
    have hp := List.pairwise_iff_getElem.mp h.1
    rcases Nat.lt_trichotomy i j with hij | hij | hij
    · exact absurd (by rw [List.getElem_map, List.getElem_map]; exact he) (hp i j (by simpa using hi1) (by simpa using hj1) hij)
    · exact hij
    · exact absurd (by rw [List.getElem_map, List.getElem_map]; exact he.symm) (hp j i (by simpa using hj1) (by simpa using hi1) hij)
theorem va_P.mem {D : va_G} { ws : va_W } {H : Heap} (h : va_P D cls8 ws H) {q : Nat × va_E} (hq : q ∈ ws) : va_at D cls8 q H := by
  obtain ⟨k, hk⟩ := List.getElem?_of_mem hq
  exact h k q hk
theorem va_P.of {D : va_G} { ws : va_W } {H : Heap} (h : ∀ q ∈ ws, va_at D cls8 q H) : va_P D cls8 ws H := fun _ q hk => h q (List.mem_of_getElem? hk)
theorem map_flat (bs : List va_W) : bs.flatten.map Prod.fst = (bs.map (fun b => b.map Prod.fst)).flatten := by rw [List.map_flatten]
theorem blk_apart {A : Nat → Prop} {bs : List va_W} (hD : va_D A bs.flatten) {i k : Nat} {b c : va_W} (hi : bs[i]? = some b) (hk : bs[k]? = some c) (hne : i ≠ k) {q q' : Nat × va_E} (hq : q ∈ b) (hq' : q' ∈ c) : q.1 ≠ q'.1 := by
  have h := (va_D_iff.mp hD).1
  rw [map_flat] at h
  have hp := List.pairwise_iff_getElem.mp (List.pairwise_flatten.mp h).2
  obtain ⟨hi1, rfl⟩ := List.getElem?_eq_some_iff.mp hi
  obtain ⟨hk1, rfl⟩ := List.getElem?_eq_some_iff.mp hk
  rcases Nat.lt_or_gt_of_ne hne with hlt | hgt
  · have := hp i k (by simpa using hi1) (by simpa using hk1) hlt
    simp only [List.getElem_map] at this
    exact this q.1 (List.mem_map.mpr ⟨q, hq, rfl⟩) q'.1 (List.mem_map.mpr ⟨q', hq', rfl⟩)
  · have := hp k i (by simpa using hk1) (by simpa using hi1) hgt
    simp only [List.getElem_map] at this
    exact Ne.symm (this q'.1 (List.mem_map.mpr ⟨q', hq', rfl⟩) q.1 (List.mem_map.mpr ⟨q, hq, rfl⟩))
theorem blk_mem {bs wc : List va_W} {isC : List Nat} (hC : isC.map (fun i => bs[i]?) = wc.map some) {q : Nat × va_E} (hq : q ∈ wc.flatten) : ∃ (j i : Nat) (b : va_W), isC[j]? = some i ∧ bs[i]? = some b ∧ wc[j]? = some b ∧ q ∈ b := by
  obtain ⟨b, hb, hqb⟩ := List.mem_flatten.mp hq
  obtain ⟨j, hj⟩ := List.getElem?_of_mem hb
  obtain ⟨i, h1, h2⟩ := map_some_at hC hj
  exact ⟨j, i, b, h1, h2, hj, hqb⟩
theorem va_P.subC {D : va_G} {bs wc : List va_W} {H : Heap} (h : va_P D cls8 bs.flatten H) {isC : List Nat} (hC : isC.map (fun i => bs[i]?) = wc.map some) : va_P D cls8 wc.flatten H := va_P.of (fun q hq => by
  obtain ⟨j, i, b, h1, h2, h3, h4⟩ := blk_mem hC hq
  exact h.mem (List.mem_flatten.mpr ⟨b, List.mem_of_getElem? h2, h4⟩))
theorem va_D.subC {A : Nat → Prop} {bs wc : List va_W} (hD : va_D A bs.flatten) {isC : List Nat} (hnd : va_nd isC = true) (hC : isC.map (fun i => bs[i]?) = wc.map some) : va_D A wc.flatten := by
  have h0 := va_D_iff.mp hD
  have h := h0.1
  rw [map_flat] at h
  have hp := List.pairwise_flatten.mp h
  refine va_D_iff.mpr ⟨?_, fun a ha => ?_⟩
  · rw [map_flat]
    refine List.pairwise_flatten.mpr ⟨fun l hl => ?_, ?_⟩
    · obtain ⟨b, hb, rfl⟩ := List.mem_map.mp hl
      obtain ⟨j, hj⟩ := List.getElem?_of_mem hb
      obtain ⟨i, -, h2⟩ := map_some_at hC hj
      exact hp.1 _ (List.mem_map.mpr ⟨b, List.mem_of_getElem? h2, rfl⟩)
    · refine List.pairwise_iff_getElem.mpr (fun m n hm hn hmn => ?_)
      simp only [List.length_map] at hm hn
      simp only [List.getElem_map]
      obtain ⟨i, h1, h2⟩ := map_some_at hC (List.getElem?_eq_getElem hm)
      obtain ⟨k, h3, h4⟩ := map_some_at hC (List.getElem?_eq_getElem hn)
      have hik : i ≠ k := fun e => by
        subst e
        have := va_nd_inj isC hnd m n i h1 h3
        omega
      intro x hx y hy
      obtain ⟨q, hq, rfl⟩ := List.mem_map.mp hx
      obtain ⟨q', hq', rfl⟩ := List.mem_map.mp hy
      exact blk_apart hD h2 h4 hik hq hq'
  · obtain ⟨q, hq, rfl⟩ := List.mem_map.mp ha
    obtain ⟨j, i, b, h1, h2, h3, h4⟩ := blk_mem hC hq
    exact h0.2 _ (List.mem_map.mpr ⟨q, List.mem_flatten.mpr ⟨b, List.mem_of_getElem? h2, h4⟩, rfl⟩)
theorem g_call_core {p : Program} {l : Launch} {e : Env} {R : Room} {s : State} {m : MethodId} {args : Array Value} {below : List Frame} {meth : Method} {c : Code} {D : va_G} {nL : Nat} {A : Nat → Prop} {Q : State → Prop} {cs sl mc ms pc : Nat} {ws wc : List va_W} {lv : List (Nat × Value)} {st0 rest : List Value} {post : Option Value → List va_W → Prop} {a : Array Value} {H : Heap} {locs : List Loc} {ls : Array Slot}
    (hP : va_P D cls8 ws.flatten H) (hD : va_D A ws.flatten) (hS : va_S A s.heap H locs) (hl : lv_has ls nL lv) (hA : ∀ q : Nat, s.heap.size ≤ q → A q) (isC : List Nat) (hC : isC.map (fun i => ws[i]?) = wc.map some)
    (hr : va_Run p l e R s m args below meth c H locs cs sl mc ms (F0 m pc ls st0) rest (QX D wc post H.size a) (va_A wc.flatten H.size))
    (kk : ∀ (rv : Option Value) (w : List va_W), post rv w → w.map (fun b => b.map Prod.fst) = wc.map (fun b => b.map Prod.fst) ∧ G (p, l, e, R, s, m, args, below, meth, c, D, nL, A, Q) (cs + mc) (sl + ms) (g_set ws isC w) (pc + 3) lv (rv.toList ++ rest)) :
    W p l e R s m args below meth c H locs cs sl Q (F0 m pc ls st0) := by
  intro T hT X
  obtain ⟨v, st₀, t, T', L, h0, X', hL, e1, e2, ⟨⟨rv, w, hv, hp, hPw, hDw⟩, hz, hk⟩, st⟩ := hr T hT X
  cases hv
  rw [h0] at hz hk
  obtain ⟨hfst, kG⟩ := kk v w hp
  have hF : ∀ q, va_A wc.flatten H.size q → A q := by
    rintro q (⟨k, e9, hq⟩ | hge)
    · obtain ⟨j, i, b, h1, h2, h3, h4⟩ := blk_mem hC (List.mem_of_getElem? hq)
      exact (va_D_iff.mp hD).2 q (List.mem_map.mpr ⟨(q, e9), List.mem_flatten.mpr ⟨b, List.mem_of_getElem? h2, h4⟩, rfl⟩)
    · exact hA q (Nat.le_trans hS.1 hge)
  have hlen : isC.length = w.length := by
    have h1 := congrArg List.length hC
    have h2 := congrArg List.length hfst
    simp only [List.length_map] at h1 h2
    omega
  have hat := g_set_get isC w ws hlen
  have hP1 : va_P D cls8 (g_set ws isC w).flatten T'.heap := by
    refine va_P.of (fun q hq => ?_)
    obtain ⟨b, hb, hqb⟩ := List.mem_flatten.mp hq
    obtain ⟨k, hk1⟩ := List.getElem?_of_mem hb
    rcases hat k b hk1 with ⟨j, h1, h2⟩ | ⟨h1, h2⟩
    · rw [e1]; exact hPw.mem (List.mem_flatten.mpr ⟨b, List.mem_of_getElem? h2, hqb⟩)
    · have h3 : va_at D cls8 q H := hP.mem (List.mem_flatten.mpr ⟨b, List.mem_of_getElem? h2, hqb⟩)
      refine h3.kept ?_
      have hlt := h3.lt
      rw [e1]
      refine hk q.1 hlt ?_
      rintro (⟨j, e9, hj⟩ | hge)
      · obtain ⟨j', i, b', g1, g2, g3, g4⟩ := blk_mem hC (List.mem_of_getElem? hj)
        have hki : k ≠ i := fun e => h1 (by rw [e]; exact List.mem_of_getElem? g1)
        exact blk_apart hD h2 g2 hki hqb g4 rfl
      · omega
  have hadd : (g_set ws isC w).map (fun b => b.map Prod.fst) = ws.map (fun b => b.map Prod.fst) := by
    apply List.ext_getElem?
    intro k
    rw [List.getElem?_map, List.getElem?_map]
    by_cases hkl : k < ws.length
    · have hkl2 : k < (g_set ws isC w).length := by rw [g_set_length]; exact hkl
      have hc := List.getElem?_eq_getElem hkl2
      rcases hat k _ hc with ⟨j, h1, h2⟩ | ⟨h1, h2⟩
      · obtain ⟨b', h3, h4⟩ := map_eq_at hfst h2
        obtain ⟨i, h5, h6⟩ := map_some_at hC h3
        have : i = k := Option.some.inj (h5.symm.trans h1)
        subst this
        rw [hc, h6]
        exact congrArg some h4.symm
      · rw [hc, h2]
    · rw [List.getElem?_eq_none (by rw [g_set_length]; omega), List.getElem?_eq_none (by omega)]
  have hD1 : va_D A (g_set ws isC w).flatten := by
    have h := va_D_iff.mp hD
    refine va_D_iff.mpr ?_
    rw [map_flat, hadd, ← map_flat]
    exact h
  obtain ⟨t2, a1, b1⟩ := kG T'.heap (locs ++ L) ls hP1 hD1 ⟨Nat.le_trans hS.1 (by rw [e1]; exact hz), fun q h1 h2 => by
      rw [e1, hk q (Nat.lt_of_lt_of_le h1 hS.1) (fun z => h2 (hF q z))]; exact hS.2.1 q h1 h2, fun q hq => by
      rcases List.mem_append.mp hq with h | h
      · exact hS.2.2 q h
      · exact hF _ (hL q h)⟩ hl T' rfl X'
  exact ⟨t2, st t2 a1, b1⟩
theorem ff_nil : ([] : List va_W).map (fun b => b.map Prod.fst) = ([] : List va_W).map (fun b => b.map Prod.fst) := rfl
theorem ff_cons {b c : va_W} {v w : List va_W} (h : b.map Prod.fst = c.map Prod.fst) (t : v.map (fun b => b.map Prod.fst) = w.map (fun b => b.map Prod.fst)) : (b :: v).map (fun b => b.map Prod.fst) = (c :: w).map (fun b => b.map Prod.fst) := by
  rw [List.map_cons, List.map_cons, h, t]
theorem good_ct {y : MethodName} {cc : ByteArray} {nL : Nat} {ret : Option FieldType} (h : Cond.code y cc nL ret ∈ tT) : GoodIn tT (Cond.code y cc nL ret :: tT) := by
  intro w hw
  have hm : w ∈ tT := by
    rcases List.mem_cons.mp hw with rfl | hw
    · exact h
    · exact hw
  exact ⟨hm, tT_good hm⟩
theorem pc_blind {av : List Value} {D : va_G} {cI cW : ClassId} {wc : List va_W} {sz : Nat} : FrameBlind (va_Pc av (fun U => U.heap.size = sz ∧ va_P D cls8 wc.flatten U.heap ∧ KX D cI cW U ∧ va_D (fun _ => True) wc.flatten)) :=
  fun a U g mk q => ⟨q.1, q.2.1, q.2.2.1, KX.same (s := U) (U := U.calling g mk a) rfl q.2.2.2.1, q.2.2.2.2⟩
section
variable {l : Launch} {D : va_G} {cI cW : ClassId} {own : String} {cc : ByteArray} {nL : Nat} {rm : Room} {cs sl pc pc' : Nat} {ws : List va_W} {lv lv' : List (Nat × Value)} {st : List Value} {x : GC}
variable {y : MethodName} {C : String} {cc' : ByteArray} {nL' : Nat} {ret : Option FieldType} {n : Nat} {rm' : Room} {wc : List va_W} {post : Option Value → List va_W → Prop} {idx : Nat} {As rest : List Value} {b : Nat}

theorem G.cv (X : GOK x l D cI cW own cc nL rm) (K : KV y C cc' nL' ret n) (hL : Cond.methodLink own idx y ∈ tT) (d : DC cc pc (.invokevirtual idx) 3 pc') (hM : CT l D cI cW y cc' nL' ret rm' (.ref b :: As) wc post) (hR : rm'.frames + 1 ≤ rm.frames ∧ 8 + (nL' + 11) + rm'.locals ≤ rm.locals) (hcs : cs + rm'.cells ≤ rm.cells ∧ sl + rm'.slots ≤ rm.slots) (isC : List Nat) (hC : isC.map (fun i => ws[i]?) = wc.map some) (hnd : va_nd isC = true) (hn : As.length = n) (i0 q0 : Nat) {blk : va_W} (hbk : ws[i0]? = some blk) {ci : Nat} {T : u_T} {N : Nat} {fs : List Value} (he : blk[q0]? = some (b, .inr (ci, fs))) (hcl : cls8[ci]? = some (C, T, N)) (hst : st = As.reverse ++ .ref b :: rest) (hW : (rest.map fun v => v.category).sum ≤ 8) (kk : ∀ (rv : Option Value) (w : List va_W), post rv w → w.map (fun b => b.map Prod.fst) = wc.map (fun b => b.map Prod.fst) ∧ G x (cs + rm'.cells) (sl + rm'.slots) (g_set ws isC w) pc' lv (rv.toList ++ rest)) : G x cs sl ws pc lv st := by
  obtain ⟨p, l', e, R, s, m, args, below, meth, c, D', nL', A, Q⟩ := x
  obtain ⟨rfl, rfl, rfl, rfl, hx, hb, hml, hown, hts, hK, hA⟩ := X
  obtain ⟨hd, rfl⟩ := d
  subst hst
  intro H locs ls hP hD hS hl
  obtain ⟨⟨k1, k2, k3, k4⟩, rfl, k5⟩ := K
  obtain ⟨k9, hk9, -⟩ := flat_at hbk he
  refine g_call_core hP hD hS hl hA isC hC (va_runV (As := As) (rest := rest) ⟨hx, hb, hml, hown, hts⟩ (hM H.size) ⟨callB_of n hts (good_ct k4) rfl rfl rfl (hts _ k3) (hts _ hL) k5 hR, hts _ k1, hts _ k2⟩ ⟨pc_blind, va_recv hK.1 hP hcl hk9, fun U hU hW => ⟨rfl, by rw [hU], by rw [hU]; exact hP.subC hC, hK.warm hW, (hD.subC hnd hC).weaken (fun _ _ _ _ => trivial)⟩⟩ rfl hn hl.1 rfl (lv_room hW) hd hcs) kk
theorem G.cst (X : GOK x l D cI cW own cc nL rm) (K : KS y C cc' nL' ret n) (hL : Cond.methodLink own idx y ∈ tT) (d : DC cc pc (.invokestatic idx) 3 pc') (hM : CT l D cI cW y cc' nL' ret rm' As wc post) (hR : rm'.frames + 1 ≤ rm.frames ∧ 8 + (nL' + 11) + rm'.locals ≤ rm.locals) (hcs : cs + rm'.cells ≤ rm.cells ∧ sl + rm'.slots ≤ rm.slots) (isC : List Nat) (hC : isC.map (fun i => ws[i]?) = wc.map some) (hnd : va_nd isC = true) (hn : As.length = n) (hst : st = As.reverse ++ rest) (hW : (rest.map fun v => v.category).sum ≤ 8) (kk : ∀ (rv : Option Value) (w : List va_W), post rv w → w.map (fun b => b.map Prod.fst) = wc.map (fun b => b.map Prod.fst) ∧ G x (cs + rm'.cells) (sl + rm'.slots) (g_set ws isC w) pc' lv (rv.toList ++ rest)) : G x cs sl ws pc lv st := by
  obtain ⟨p, l', e, R, s, m, args, below, meth, c, D', nL', A, Q⟩ := x
  obtain ⟨rfl, rfl, rfl, rfl, hx, hb, hml, hown, hts, hK, hA⟩ := X
  obtain ⟨hd, rfl⟩ := d
  subst hst
  intro H locs ls hP hD hS hl
  obtain ⟨⟨k1, k3, k4⟩, rfl, k5⟩ := K
  refine g_call_core hP hD hS hl hA isC hC (va_runS (As := As) (rest := rest) ⟨hx, hb, hml, hown, hts⟩ (hM H.size) ⟨callB_of n hts (good_ct k4) rfl rfl rfl (hts _ k3) (hts _ hL) k5 hR, hts _ k1⟩ ⟨pc_blind,  fun U hU hW => ⟨rfl, by rw [hU], by rw [hU]; exact hP.subC hC, hK.warm hW, (hD.subC hnd hC).weaken (fun _ _ _ _ => trivial)⟩⟩ rfl hn hl.1 rfl (lv_room hW) hd hcs) kk
theorem G.csn (X : GOK x l D cI cW own cc nL rm) {host : String} (K : KS y C cc' nL' ret n) (hL : ∀ U, NX U → va_Nw (.methodLinkNest own idx y host) U) (d : DC cc pc (.invokestatic idx) 3 pc') (hM : CT l D cI cW y cc' nL' ret rm' As wc post) (hR : rm'.frames + 1 ≤ rm.frames ∧ 8 + (nL' + 11) + rm'.locals ≤ rm.locals) (hcs : cs + rm'.cells ≤ rm.cells ∧ sl + rm'.slots ≤ rm.slots) (isC : List Nat) (hC : isC.map (fun i => ws[i]?) = wc.map some) (hnd : va_nd isC = true) (hn : As.length = n) (hst : st = As.reverse ++ rest) (hW : (rest.map fun v => v.category).sum ≤ 8) (kk : ∀ (rv : Option Value) (w : List va_W), post rv w → w.map (fun b => b.map Prod.fst) = wc.map (fun b => b.map Prod.fst) ∧ G x (cs + rm'.cells) (sl + rm'.slots) (g_set ws isC w) pc' lv (rv.toList ++ rest)) : G x cs sl ws pc lv st := by
  obtain ⟨p, l', e, R, s, m, args, below, meth, c, D', nL', A, Q⟩ := x
  obtain ⟨rfl, rfl, rfl, rfl, hx, hb, hml, hown, hts, hK, hA⟩ := X
  obtain ⟨hd, rfl⟩ := d
  subst hst
  intro H locs ls hP hD hS hl
  obtain ⟨⟨k1, k3, k4⟩, rfl, k5⟩ := K
  refine g_call_core hP hD hS hl hA isC hC (va_runSN (As := As) (rest := rest) ⟨hx, hb, hml, hown, hts⟩ (hM H.size) ⟨va_cnB n hts (good_ct k4) rfl rfl rfl (hL s hK.2) (hts _ k3) k5 hR, hts _ k1, trivial⟩ ⟨pc_blind,  fun U hU hW => ⟨rfl, by rw [hU], by rw [hU]; exact hP.subC hC, hK.warm hW, (hD.subC hnd hC).weaken (fun _ _ _ _ => trivial)⟩⟩ rfl hn hl.1 rfl (lv_room hW) hd hcs) kk
theorem G.cvi (X : GOK x l D cI cW own cc nL rm) {r : Int32} {w2 : List va_W} (K : KV y C cc' nL' ret n) (hL : Cond.methodLink own idx y ∈ tT) (d : DC cc pc (.invokevirtual idx) 3 pc') (hM : CT l D cI cW y cc' nL' ret rm' (.ref b :: As) wc (PI r w2)) (hR : rm'.frames + 1 ≤ rm.frames ∧ 8 + (nL' + 11) + rm'.locals ≤ rm.locals) (hcs : cs ≤ rm.cells ∧ sl ≤ rm.slots) (isC : List Nat) (hC : isC.map (fun i => ws[i]?) = wc.map some) (h0 : rm'.cells = 0 ∧ rm'.slots = 0) (hnd : va_nd isC = true) (hn : As.length = n) (i0 q0 : Nat) {blk : va_W} (hbk : ws[i0]? = some blk) {ci : Nat} {T : u_T} {N : Nat} {fs : List Value} (he : blk[q0]? = some (b, .inr (ci, fs))) (hcl : cls8[ci]? = some (C, T, N)) (hst : st = As.reverse ++ .ref b :: rest) (hW : (rest.map fun v => v.category).sum ≤ 8) (hf : w2.map (fun b => b.map Prod.fst) = wc.map (fun b => b.map Prod.fst)) {ws' : List va_W} (hw : g_set ws isC w2 = ws') (k : G x cs sl ws' pc' lv (.int r :: rest)) : G x cs sl ws pc lv st := G.cv X K hL d hM hR (by rw [h0.1, h0.2]; exact hcs) isC hC hnd hn i0 q0 hbk he hcl hst hW (fun rv w h => by
  obtain ⟨rfl, rfl⟩ := h
  rw [hw, h0.1, h0.2]
  exact ⟨hf, k⟩)
theorem G.csti (X : GOK x l D cI cW own cc nL rm) {r : Int32} {w2 : List va_W} (K : KS y C cc' nL' ret n) (hL : Cond.methodLink own idx y ∈ tT) (d : DC cc pc (.invokestatic idx) 3 pc') (hM : CT l D cI cW y cc' nL' ret rm' As wc (PI r w2)) (hR : rm'.frames + 1 ≤ rm.frames ∧ 8 + (nL' + 11) + rm'.locals ≤ rm.locals) (hcs : cs ≤ rm.cells ∧ sl ≤ rm.slots) (isC : List Nat) (hC : isC.map (fun i => ws[i]?) = wc.map some) (h0 : rm'.cells = 0 ∧ rm'.slots = 0) (hnd : va_nd isC = true) (hn : As.length = n)  (hst : st = As.reverse ++ rest) (hW : (rest.map fun v => v.category).sum ≤ 8) (hf : w2.map (fun b => b.map Prod.fst) = wc.map (fun b => b.map Prod.fst)) {ws' : List va_W} (hw : g_set ws isC w2 = ws') (k : G x cs sl ws' pc' lv (.int r :: rest)) : G x cs sl ws pc lv st := G.cst X K hL d hM hR (by rw [h0.1, h0.2]; exact hcs) isC hC hnd hn hst hW (fun rv w h => by
  obtain ⟨rfl, rfl⟩ := h
  rw [hw, h0.1, h0.2]
  exact ⟨hf, k⟩)
theorem G.csni (X : GOK x l D cI cW own cc nL rm) {r : Int32} {w2 : List va_W} {host : String} (K : KS y C cc' nL' ret n) (hL : ∀ U, NX U → va_Nw (.methodLinkNest own idx y host) U) (d : DC cc pc (.invokestatic idx) 3 pc') (hM : CT l D cI cW y cc' nL' ret rm' As wc (PI r w2)) (hR : rm'.frames + 1 ≤ rm.frames ∧ 8 + (nL' + 11) + rm'.locals ≤ rm.locals) (hcs : cs ≤ rm.cells ∧ sl ≤ rm.slots) (isC : List Nat) (hC : isC.map (fun i => ws[i]?) = wc.map some) (h0 : rm'.cells = 0 ∧ rm'.slots = 0) (hnd : va_nd isC = true) (hn : As.length = n)  (hst : st = As.reverse ++ rest) (hW : (rest.map fun v => v.category).sum ≤ 8) (hf : w2.map (fun b => b.map Prod.fst) = wc.map (fun b => b.map Prod.fst)) {ws' : List va_W} (hw : g_set ws isC w2 = ws') (k : G x cs sl ws' pc' lv (.int r :: rest)) : G x cs sl ws pc lv st := G.csn X K hL d hM hR (by rw [h0.1, h0.2]; exact hcs) isC hC hnd hn hst hW (fun rv w h => by
  obtain ⟨rfl, rfl⟩ := h
  rw [hw, h0.1, h0.2]
  exact ⟨hf, k⟩)
theorem G.cvv (X : GOK x l D cI cW own cc nL rm) {w2 : List va_W} (K : KV y C cc' nL' ret n) (hL : Cond.methodLink own idx y ∈ tT) (d : DC cc pc (.invokevirtual idx) 3 pc') (hM : CT l D cI cW y cc' nL' ret rm' (.ref b :: As) wc (PV w2)) (hR : rm'.frames + 1 ≤ rm.frames ∧ 8 + (nL' + 11) + rm'.locals ≤ rm.locals) (hcs : cs ≤ rm.cells ∧ sl ≤ rm.slots) (isC : List Nat) (hC : isC.map (fun i => ws[i]?) = wc.map some) (h0 : rm'.cells = 0 ∧ rm'.slots = 0) (hnd : va_nd isC = true) (hn : As.length = n) (i0 q0 : Nat) {blk : va_W} (hbk : ws[i0]? = some blk) {ci : Nat} {T : u_T} {N : Nat} {fs : List Value} (he : blk[q0]? = some (b, .inr (ci, fs))) (hcl : cls8[ci]? = some (C, T, N)) (hst : st = As.reverse ++ .ref b :: rest) (hW : (rest.map fun v => v.category).sum ≤ 8) (hf : w2.map (fun b => b.map Prod.fst) = wc.map (fun b => b.map Prod.fst)) {ws' : List va_W} (hw : g_set ws isC w2 = ws') (k : G x cs sl ws' pc' lv (rest)) : G x cs sl ws pc lv st := G.cv X K hL d hM hR (by rw [h0.1, h0.2]; exact hcs) isC hC hnd hn i0 q0 hbk he hcl hst hW (fun rv w h => by
  obtain ⟨rfl, rfl⟩ := h
  rw [hw, h0.1, h0.2]
  exact ⟨hf, k⟩)
theorem G.cstv (X : GOK x l D cI cW own cc nL rm) {w2 : List va_W} (K : KS y C cc' nL' ret n) (hL : Cond.methodLink own idx y ∈ tT) (d : DC cc pc (.invokestatic idx) 3 pc') (hM : CT l D cI cW y cc' nL' ret rm' As wc (PV w2)) (hR : rm'.frames + 1 ≤ rm.frames ∧ 8 + (nL' + 11) + rm'.locals ≤ rm.locals) (hcs : cs ≤ rm.cells ∧ sl ≤ rm.slots) (isC : List Nat) (hC : isC.map (fun i => ws[i]?) = wc.map some) (h0 : rm'.cells = 0 ∧ rm'.slots = 0) (hnd : va_nd isC = true) (hn : As.length = n)  (hst : st = As.reverse ++ rest) (hW : (rest.map fun v => v.category).sum ≤ 8) (hf : w2.map (fun b => b.map Prod.fst) = wc.map (fun b => b.map Prod.fst)) {ws' : List va_W} (hw : g_set ws isC w2 = ws') (k : G x cs sl ws' pc' lv (rest)) : G x cs sl ws pc lv st := G.cst X K hL d hM hR (by rw [h0.1, h0.2]; exact hcs) isC hC hnd hn hst hW (fun rv w h => by
  obtain ⟨rfl, rfl⟩ := h
  rw [hw, h0.1, h0.2]
  exact ⟨hf, k⟩)
theorem G.csnv (X : GOK x l D cI cW own cc nL rm) {w2 : List va_W} {host : String} (K : KS y C cc' nL' ret n) (hL : ∀ U, NX U → va_Nw (.methodLinkNest own idx y host) U) (d : DC cc pc (.invokestatic idx) 3 pc') (hM : CT l D cI cW y cc' nL' ret rm' As wc (PV w2)) (hR : rm'.frames + 1 ≤ rm.frames ∧ 8 + (nL' + 11) + rm'.locals ≤ rm.locals) (hcs : cs ≤ rm.cells ∧ sl ≤ rm.slots) (isC : List Nat) (hC : isC.map (fun i => ws[i]?) = wc.map some) (h0 : rm'.cells = 0 ∧ rm'.slots = 0) (hnd : va_nd isC = true) (hn : As.length = n)  (hst : st = As.reverse ++ rest) (hW : (rest.map fun v => v.category).sum ≤ 8) (hf : w2.map (fun b => b.map Prod.fst) = wc.map (fun b => b.map Prod.fst)) {ws' : List va_W} (hw : g_set ws isC w2 = ws') (k : G x cs sl ws' pc' lv (rest)) : G x cs sl ws pc lv st := G.csn X K hL d hM hR (by rw [h0.1, h0.2]; exact hcs) isC hC hnd hn hst hW (fun rv w h => by
  obtain ⟨rfl, rfl⟩ := h
  rw [hw, h0.1, h0.2]
  exact ⟨hf, k⟩)
theorem G.cvj (X : GOK x l D cI cW own cc nL rm) {r : Int64} {w2 : List va_W} (K : KV y C cc' nL' ret n) (hL : Cond.methodLink own idx y ∈ tT) (d : DC cc pc (.invokevirtual idx) 3 pc') (hM : CT l D cI cW y cc' nL' ret rm' (.ref b :: As) wc (PJ r w2)) (hR : rm'.frames + 1 ≤ rm.frames ∧ 8 + (nL' + 11) + rm'.locals ≤ rm.locals) (hcs : cs ≤ rm.cells ∧ sl ≤ rm.slots) (isC : List Nat) (hC : isC.map (fun i => ws[i]?) = wc.map some) (h0 : rm'.cells = 0 ∧ rm'.slots = 0) (hnd : va_nd isC = true) (hn : As.length = n) (i0 q0 : Nat) {blk : va_W} (hbk : ws[i0]? = some blk) {ci : Nat} {T : u_T} {N : Nat} {fs : List Value} (he : blk[q0]? = some (b, .inr (ci, fs))) (hcl : cls8[ci]? = some (C, T, N)) (hst : st = As.reverse ++ .ref b :: rest) (hW : (rest.map fun v => v.category).sum ≤ 8) (hf : w2.map (fun b => b.map Prod.fst) = wc.map (fun b => b.map Prod.fst)) {ws' : List va_W} (hw : g_set ws isC w2 = ws') (k : G x cs sl ws' pc' lv (.long r :: rest)) : G x cs sl ws pc lv st := G.cv X K hL d hM hR (by rw [h0.1, h0.2]; exact hcs) isC hC hnd hn i0 q0 hbk he hcl hst hW (fun rv w h => by
  obtain ⟨rfl, rfl⟩ := h
  rw [hw, h0.1, h0.2]
  exact ⟨hf, k⟩)
theorem G.cstj (X : GOK x l D cI cW own cc nL rm) {r : Int64} {w2 : List va_W} (K : KS y C cc' nL' ret n) (hL : Cond.methodLink own idx y ∈ tT) (d : DC cc pc (.invokestatic idx) 3 pc') (hM : CT l D cI cW y cc' nL' ret rm' As wc (PJ r w2)) (hR : rm'.frames + 1 ≤ rm.frames ∧ 8 + (nL' + 11) + rm'.locals ≤ rm.locals) (hcs : cs ≤ rm.cells ∧ sl ≤ rm.slots) (isC : List Nat) (hC : isC.map (fun i => ws[i]?) = wc.map some) (h0 : rm'.cells = 0 ∧ rm'.slots = 0) (hnd : va_nd isC = true) (hn : As.length = n)  (hst : st = As.reverse ++ rest) (hW : (rest.map fun v => v.category).sum ≤ 8) (hf : w2.map (fun b => b.map Prod.fst) = wc.map (fun b => b.map Prod.fst)) {ws' : List va_W} (hw : g_set ws isC w2 = ws') (k : G x cs sl ws' pc' lv (.long r :: rest)) : G x cs sl ws pc lv st := G.cst X K hL d hM hR (by rw [h0.1, h0.2]; exact hcs) isC hC hnd hn hst hW (fun rv w h => by
  obtain ⟨rfl, rfl⟩ := h
  rw [hw, h0.1, h0.2]
  exact ⟨hf, k⟩)
theorem G.csnj (X : GOK x l D cI cW own cc nL rm) {r : Int64} {w2 : List va_W} {host : String} (K : KS y C cc' nL' ret n) (hL : ∀ U, NX U → va_Nw (.methodLinkNest own idx y host) U) (d : DC cc pc (.invokestatic idx) 3 pc') (hM : CT l D cI cW y cc' nL' ret rm' As wc (PJ r w2)) (hR : rm'.frames + 1 ≤ rm.frames ∧ 8 + (nL' + 11) + rm'.locals ≤ rm.locals) (hcs : cs ≤ rm.cells ∧ sl ≤ rm.slots) (isC : List Nat) (hC : isC.map (fun i => ws[i]?) = wc.map some) (h0 : rm'.cells = 0 ∧ rm'.slots = 0) (hnd : va_nd isC = true) (hn : As.length = n)  (hst : st = As.reverse ++ rest) (hW : (rest.map fun v => v.category).sum ≤ 8) (hf : w2.map (fun b => b.map Prod.fst) = wc.map (fun b => b.map Prod.fst)) {ws' : List va_W} (hw : g_set ws isC w2 = ws') (k : G x cs sl ws' pc' lv (.long r :: rest)) : G x cs sl ws pc lv st := G.csn X K hL d hM hR (by rw [h0.1, h0.2]; exact hcs) isC hC hnd hn hst hW (fun rv w h => by
  obtain ⟨rfl, rfl⟩ := h
  rw [hw, h0.1, h0.2]
  exact ⟨hf, k⟩)
end
def PIE {α : Type} (r : Int32) (f : α → List va_W) : Option Value → List va_W → Prop := fun rv w => ∃ z : α, rv = some (.int r) ∧ w = f z
def PVE {α : Type} (f : α → List va_W) : Option Value → List va_W → Prop := fun rv w => ∃ z : α, rv = none ∧ w = f z
def PJE {α : Type} (r : Int64) (f : α → List va_W) : Option Value → List va_W → Prop := fun rv w => ∃ z : α, rv = some (.long r) ∧ w = f z
def PR (r : Nat) (w' : List va_W) : Option Value → List va_W → Prop := fun rv w => rv = some (.ref r) ∧ w = w'
theorem pie_mk {α : Type} {f : α → List va_W} {r v : Int32} {w : List va_W} (z : α) (h : v = r) (hw : w = f z) : PIE r f (some (.int v)) w := ⟨z, by rw [h], hw⟩
theorem pje_mk {α : Type} {f : α → List va_W} {r v : Int64} {w : List va_W} (z : α) (h : v = r) (hw : w = f z) : PJE r f (some (.long v)) w := ⟨z, by rw [h], hw⟩
theorem pve_mk {α : Type} {f : α → List va_W} {w : List va_W} (z : α) (hw : w = f z) : PVE f none w := ⟨z, rfl, hw⟩
theorem pr_mk {r v : Nat} {w w' : List va_W} (h : v = r) (hw : w = w') : PR r w' (some (.ref v)) w := ⟨by rw [h], hw⟩
section
variable {l : Launch} {D : va_G} {cI cW : ClassId} {own : String} {cc : ByteArray} {nL : Nat} {rm : Room} {cs sl pc pc' : Nat} {ws : List va_W} {lv lv' : List (Nat × Value)} {st : List Value} {x : GC}
variable {y : MethodName} {C : String} {cc' : ByteArray} {nL' : Nat} {ret : Option FieldType} {n : Nat} {rm' : Room} {wc : List va_W} {post : Option Value → List va_W → Prop} {idx : Nat} {As rest : List Value} {b : Nat}

theorem G.cvie (X : GOK x l D cI cW own cc nL rm) {α : Type} {r : Int32} {f9 : α → List va_W} (K : KV y C cc' nL' ret n) (hL : Cond.methodLink own idx y ∈ tT) (d : DC cc pc (.invokevirtual idx) 3 pc') (hM : CT l D cI cW y cc' nL' ret rm' (.ref b :: As) wc (PIE r f9)) (hR : rm'.frames + 1 ≤ rm.frames ∧ 8 + (nL' + 11) + rm'.locals ≤ rm.locals) (hcs : cs ≤ rm.cells ∧ sl ≤ rm.slots) (isC : List Nat) (hC : isC.map (fun i => ws[i]?) = wc.map some) (h0 : rm'.cells = 0 ∧ rm'.slots = 0) (hnd : va_nd isC = true) (hn : As.length = n) (i0 q0 : Nat) {blk : va_W} (hbk : ws[i0]? = some blk) {ci : Nat} {T : u_T} {N : Nat} {fs : List Value} (he : blk[q0]? = some (b, .inr (ci, fs))) (hcl : cls8[ci]? = some (C, T, N)) (hst : st = As.reverse ++ .ref b :: rest) (hW : (rest.map fun v => v.category).sum ≤ 8) (hf : ∀ z, (f9 z).map (fun b => b.map Prod.fst) = wc.map (fun b => b.map Prod.fst)) {f8 : α → List va_W} (hw : ∀ z, g_set ws isC (f9 z) = f8 z) (k : ∀ z, G x cs sl (f8 z) pc' lv (.int r :: rest)) : G x cs sl ws pc lv st := G.cv X K hL d hM hR (by rw [h0.1, h0.2]; exact hcs) isC hC hnd hn i0 q0 hbk he hcl hst hW (fun rv w h => by
  obtain ⟨z, rfl, rfl⟩ := h
  rw [hw z, h0.1, h0.2]
  exact ⟨hf z, k z⟩)
theorem G.cvve (X : GOK x l D cI cW own cc nL rm) {α : Type} {f9 : α → List va_W} (K : KV y C cc' nL' ret n) (hL : Cond.methodLink own idx y ∈ tT) (d : DC cc pc (.invokevirtual idx) 3 pc') (hM : CT l D cI cW y cc' nL' ret rm' (.ref b :: As) wc (PVE f9)) (hR : rm'.frames + 1 ≤ rm.frames ∧ 8 + (nL' + 11) + rm'.locals ≤ rm.locals) (hcs : cs ≤ rm.cells ∧ sl ≤ rm.slots) (isC : List Nat) (hC : isC.map (fun i => ws[i]?) = wc.map some) (h0 : rm'.cells = 0 ∧ rm'.slots = 0) (hnd : va_nd isC = true) (hn : As.length = n) (i0 q0 : Nat) {blk : va_W} (hbk : ws[i0]? = some blk) {ci : Nat} {T : u_T} {N : Nat} {fs : List Value} (he : blk[q0]? = some (b, .inr (ci, fs))) (hcl : cls8[ci]? = some (C, T, N)) (hst : st = As.reverse ++ .ref b :: rest) (hW : (rest.map fun v => v.category).sum ≤ 8) (hf : ∀ z, (f9 z).map (fun b => b.map Prod.fst) = wc.map (fun b => b.map Prod.fst)) {f8 : α → List va_W} (hw : ∀ z, g_set ws isC (f9 z) = f8 z) (k : ∀ z, G x cs sl (f8 z) pc' lv (rest)) : G x cs sl ws pc lv st := G.cv X K hL d hM hR (by rw [h0.1, h0.2]; exact hcs) isC hC hnd hn i0 q0 hbk he hcl hst hW (fun rv w h => by
  obtain ⟨z, rfl, rfl⟩ := h
  rw [hw z, h0.1, h0.2]
  exact ⟨hf z, k z⟩)
theorem G.cvje (X : GOK x l D cI cW own cc nL rm) {α : Type} {r : Int64} {f9 : α → List va_W} (K : KV y C cc' nL' ret n) (hL : Cond.methodLink own idx y ∈ tT) (d : DC cc pc (.invokevirtual idx) 3 pc') (hM : CT l D cI cW y cc' nL' ret rm' (.ref b :: As) wc (PJE r f9)) (hR : rm'.frames + 1 ≤ rm.frames ∧ 8 + (nL' + 11) + rm'.locals ≤ rm.locals) (hcs : cs ≤ rm.cells ∧ sl ≤ rm.slots) (isC : List Nat) (hC : isC.map (fun i => ws[i]?) = wc.map some) (h0 : rm'.cells = 0 ∧ rm'.slots = 0) (hnd : va_nd isC = true) (hn : As.length = n) (i0 q0 : Nat) {blk : va_W} (hbk : ws[i0]? = some blk) {ci : Nat} {T : u_T} {N : Nat} {fs : List Value} (he : blk[q0]? = some (b, .inr (ci, fs))) (hcl : cls8[ci]? = some (C, T, N)) (hst : st = As.reverse ++ .ref b :: rest) (hW : (rest.map fun v => v.category).sum ≤ 8) (hf : ∀ z, (f9 z).map (fun b => b.map Prod.fst) = wc.map (fun b => b.map Prod.fst)) {f8 : α → List va_W} (hw : ∀ z, g_set ws isC (f9 z) = f8 z) (k : ∀ z, G x cs sl (f8 z) pc' lv (.long r :: rest)) : G x cs sl ws pc lv st := G.cv X K hL d hM hR (by rw [h0.1, h0.2]; exact hcs) isC hC hnd hn i0 q0 hbk he hcl hst hW (fun rv w h => by
  obtain ⟨z, rfl, rfl⟩ := h
  rw [hw z, h0.1, h0.2]
  exact ⟨hf z, k z⟩)
theorem G.cvr (X : GOK x l D cI cW own cc nL rm) {r : Nat} {w2 : List va_W} (K : KV y C cc' nL' ret n) (hL : Cond.methodLink own idx y ∈ tT) (d : DC cc pc (.invokevirtual idx) 3 pc') (hM : CT l D cI cW y cc' nL' ret rm' (.ref b :: As) wc (PR r w2)) (hR : rm'.frames + 1 ≤ rm.frames ∧ 8 + (nL' + 11) + rm'.locals ≤ rm.locals) (hcs : cs ≤ rm.cells ∧ sl ≤ rm.slots) (isC : List Nat) (hC : isC.map (fun i => ws[i]?) = wc.map some) (h0 : rm'.cells = 0 ∧ rm'.slots = 0) (hnd : va_nd isC = true) (hn : As.length = n) (i0 q0 : Nat) {blk : va_W} (hbk : ws[i0]? = some blk) {ci : Nat} {T : u_T} {N : Nat} {fs : List Value} (he : blk[q0]? = some (b, .inr (ci, fs))) (hcl : cls8[ci]? = some (C, T, N)) (hst : st = As.reverse ++ .ref b :: rest) (hW : (rest.map fun v => v.category).sum ≤ 8) (hf : w2.map (fun b => b.map Prod.fst) = wc.map (fun b => b.map Prod.fst)) {ws' : List va_W} (hw : g_set ws isC w2 = ws') (k : G x cs sl ws' pc' lv (.ref r :: rest)) : G x cs sl ws pc lv st := G.cv X K hL d hM hR (by rw [h0.1, h0.2]; exact hcs) isC hC hnd hn i0 q0 hbk he hcl hst hW (fun rv w h => by
  obtain ⟨rfl, rfl⟩ := h
  rw [hw, h0.1, h0.2]
  exact ⟨hf, k⟩)
theorem G.cstje (X : GOK x l D cI cW own cc nL rm) {α : Type} {r : Int64} {f9 : α → List va_W} (K : KS y C cc' nL' ret n) (hL : Cond.methodLink own idx y ∈ tT) (d : DC cc pc (.invokestatic idx) 3 pc') (hM : CT l D cI cW y cc' nL' ret rm' As wc (PJE r f9)) (hR : rm'.frames + 1 ≤ rm.frames ∧ 8 + (nL' + 11) + rm'.locals ≤ rm.locals) (hcs : cs ≤ rm.cells ∧ sl ≤ rm.slots) (isC : List Nat) (hC : isC.map (fun i => ws[i]?) = wc.map some) (h0 : rm'.cells = 0 ∧ rm'.slots = 0) (hnd : va_nd isC = true) (hn : As.length = n) (hst : st = As.reverse ++ rest) (hW : (rest.map fun v => v.category).sum ≤ 8) (hf : ∀ z, (f9 z).map (fun b => b.map Prod.fst) = wc.map (fun b => b.map Prod.fst)) {f8 : α → List va_W} (hw : ∀ z, g_set ws isC (f9 z) = f8 z) (k : ∀ z, G x cs sl (f8 z) pc' lv (.long r :: rest)) : G x cs sl ws pc lv st := G.cst X K hL d hM hR (by rw [h0.1, h0.2]; exact hcs) isC hC hnd hn hst hW (fun rv w h => by
  obtain ⟨z, rfl, rfl⟩ := h
  rw [hw z, h0.1, h0.2]
  exact ⟨hf z, k z⟩)
theorem G.top {a b : Int32} (h : a = b) (k : G x cs sl ws pc lv (.int b :: st)) : G x cs sl ws pc lv (.int a :: st) := h ▸ k
theorem G.topl {a b : Int64} (h : a = b) (k : G x cs sl ws pc lv (.long b :: st)) : G x cs sl ws pc lv (.long a :: st) := h ▸ k
end
