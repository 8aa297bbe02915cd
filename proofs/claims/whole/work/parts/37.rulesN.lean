-- making: new objects and rows, their constructors
def AOX (x : GC) : Prop := match x with
  | (_, _, _, _, s, _, _, _, _, _, _, _, _, _) => va_AO RX5 s
def CTA (l : Launch) (D : va_G) (cI cW : ClassId) (y : MethodName) (cc : ByteArray) (nL : Nat) (rm : Room) (av : List Value) (ws0 : List va_W) (P : List va_W → Prop) : Prop := ∀ sz : Nat, Met l y (.code y cc nL none :: tT) rm (va_Pc av (fun U => U.heap.size = sz ∧ va_P D cls8 ws0.flatten U.heap ∧ (KX D cI cW U ∧ va_AO RX5 U) ∧ va_D (fun _ => True) ws0.flatten)) (QX D ws0 (fun rv w => rv = none ∧ P w) sz) rm.cells rm.slots (va_A ws0.flatten sz)
theorem CTA.of {l : Launch} {D : va_G} {cI cW : ClassId} {y : MethodName} {cc : ByteArray} {nL : Nat} {rm : Room} {av : List Value} {ws0 : List va_W} {P : List va_W → Prop} (own : String) (hown : y.cls = own) (hy : plainName y.cls = true) (hav : (lg_sl av).length ≤ nL) (lv0 : List (Nat × Value)) (hlv : lv_args 0 av = lv0)
    (body : ∀ x : GC, GOK x l D cI cW own cc nL rm → AOX x → GRT x none ws0 (fun rv w => rv = none ∧ P w) rm.cells rm.slots → GNM x y.name → G x 0 0 ws0 0 lv0 []) : CTA l D cI cW y cc nL rm av ws0 P := by
  subst hown
  intro sz
  refine Met.ofW (cc := cc) (maxL := nL) (ret := none) hy rfl ?_
  intro p e s m args below meth c s₁ B hml hv
  obtain ⟨rfl, hsz, hP, ⟨hK, hAO⟩, hD0⟩ := hv
  subst hsz
  have hts := atoms_spec (ws := .code y cc nL none :: tT) B.pre
  have key := body (p, l, e, rm, s, m, av.toArray, below, meth, c, D, nL, va_A ws0.flatten s.heap.size, MQ below (QX D ws0 (fun rv w => rv = none ∧ P w) s.heap.size) av.toArray s rm.cells rm.slots (va_A ws0.flatten s.heap.size)) ⟨rfl, rfl, rfl, rfl, B.exec, B.bytes, hml, findClass_of_methodNamed B.named, fun w h => hts w (List.mem_cons_of_mem _ h), hK, fun q h => Or.inr h⟩ hAO ⟨B.returns, B.notSynchronized, rfl, rfl⟩ (name_of_methodNamed B.named B.method).1
  rw [lg_entry_eq]
  have hl := lv_entry av (n := nL) hav
  rw [hlv] at hl
  exact key s.heap [] _ hP (hD0.self) va_S.rf hl
theorem pca_blind {av : List Value} {D : va_G} {cI cW : ClassId} {wc : List va_W} {sz : Nat} : FrameBlind (va_Pc av (fun U => U.heap.size = sz ∧ va_P D cls8 wc.flatten U.heap ∧ (KX D cI cW U ∧ va_AO RX5 U) ∧ va_D (fun _ => True) wc.flatten)) :=
  fun a U g mk q => ⟨q.1, q.2.1, q.2.2.1, ⟨KX.same (s := U) (U := U.calling g mk a) rfl q.2.2.2.1.1, va_AO.moved (u := U) (U := U.calling g mk a) (Vm.Alike.refl U.vm) q.2.2.2.1.2⟩, q.2.2.2.2⟩
section
variable {l : Launch} {D : va_G} {cI cW : ClassId} {own : String} {cc : ByteArray} {nL : Nat} {rm : Room} {cs sl pc pc' : Nat} {ws : List va_W} {lv lv' : List (Nat × Value)} {st : List Value} {x : GC}
theorem G.cgf {ws' : List va_W} (hw : ws.flatten = ws'.flatten) (k : G x cs sl ws' pc lv st) : G x cs sl ws pc lv st := by
  obtain ⟨p, l', e, R, s, m, args, below, meth, c, D', nL', A, Q⟩ := x
  intro H locs ls hP hD hS hl
  exact k H locs ls (by rw [← hw]; exact hP) (by rw [← hw]; exact hD) hS hl
theorem G.sub {ws' : List va_W} (is : List Nat) (hnd : va_nd is = true) (hC : is.map (fun i => ws[i]?) = ws'.map some) (k : G x cs sl ws' pc lv st) : G x cs sl ws pc lv st := by
  obtain ⟨p, l', e, R, s, m, args, below, meth, c, D', nL', A, Q⟩ := x
  intro H locs ls hP hD hS hl
  exact k H locs ls (hP.subC hC) (hD.subC hnd hC) hS hl
theorem G.oi (X : GOK x l D cI cW own cc nL rm) {idx a : Nat} (hL : Cond.methodLink own idx objectInit ∈ tT) (d : DC cc pc (.invokespecial idx) 3 pc') (hf : 1 ≤ rm.frames) (hlo : (st.map fun v => v.category).sum + 12 ≤ rm.locals) (k : G x cs sl ws pc' lv st) : G x cs sl ws pc lv (.ref a :: st) := by
  obtain ⟨p, l', e, R, s, m, args, below, meth, c, D', nL', A, Q⟩ := x
  obtain ⟨rfl, rfl, rfl, rfl, hx, hb, hml, hown, hts, hK, hA⟩ := X
  intro H locs ls hP hD hS hl
  obtain ⟨hd, rfl⟩ := d
  exact W.objInit hx hb hown (hts _ hL) (hts _ o_inst) (hts _ o_code) rfl (by rw [hml]; exact hl.1) rfl hd hf (by show 2 * 0 + _ + 12 ≤ _; omega) (k H locs ls hP hD hS hl)
theorem flat_snoc (ws : List va_W) (q : Nat × va_E) : (ws ++ [[q]]).flatten = ws.flatten ++ [q] := by simp
theorem G.new (X : GOK x l D cI cW own cc nL rm) {idx ci N : Nat} {C : String} {T : u_T} (hcl : Cond.classLink own idx C ∈ tT) (hi : Cond.instantiable C N ∈ tT) (hz : Cond.initialized C ∈ tT) (hu : ∀ w ∈ u_ws C T N, w ∈ tT) (hc : cls8[ci]? = some (C, T, N)) (ty : Nat → FieldType) (hty : ∀ k, k < N → parseFieldDescriptor (T k).2.2.1 = some (ty k)) {fs : List Value} (hfs : ∀ j, j < N → defaultValue (ty j) = vp_V fs j) (d : DC cc pc (.new idx) 3 pc') (hcells : cs + 1 ≤ rm.cells) (hslots : sl + N ≤ rm.slots) (k : ∀ q : Nat, G x (cs + 1) (sl + N) (ws ++ [[(q, .inr (ci, fs))]]) pc' lv (.ref q :: st)) : G x cs sl ws pc lv st := by
  obtain ⟨p, l', e, R, s, m, args, below, meth, c, D', nL', A, Q⟩ := x
  obtain ⟨rfl, rfl, rfl, rfl, hx, hb, hml, hown, hts, hK, hA⟩ := X
  intro H locs ls hP hD hS hl
  obtain ⟨hd, rfl⟩ := d
  exact va_new hx hb hts hu ty hty hown (hts _ hcl) (hts _ hi) (hts _ hz) hK.1 hP hD hS hA hc hfs hcells hslots hd (fun q H1 hP hD hS => k q H1 locs ls (by rw [flat_snoc]; exact hP) (by rw [flat_snoc]; exact hD) hS hl)
theorem G.newa (X : GOK x l D cI cW own cc nL rm) {n : Int32} {N : Nat} (d : DC cc pc (.newarray .int) 2 pc') (hn : ¬ n < 0) (hN : n.toNatClampNeg = N) (hbytes : N * componentBytes .int ≤ 536870912) (hcells : cs + 1 ≤ rm.cells) (hslots : sl + N ≤ rm.slots) (k : ∀ q : Nat, G x (cs + 1) (sl + N) (ws ++ [[(q, .inl (cI, N, .inl (fun _ => 0)))]]) pc' lv (.ref q :: st)) : G x cs sl ws pc lv (.int n :: st) := by
  obtain ⟨p, l', e, R, s, m, args, below, meth, c, D', nL', A, Q⟩ := x
  obtain ⟨rfl, rfl, rfl, rfl, hx, hb, hml, hown, hts, hK, hA⟩ := X
  intro H locs ls hP hD hS hl
  obtain ⟨hd, rfl⟩ := d
  refine va_newa (atype := .int) (ty := .int) (a0 := (N, .inl (fun _ => 0))) hx hb (hts _ va_arrI) rfl hK.1 hP hD hS hA (fun _ => rfl) hn hN hbytes hcells hslots hd (fun q cA H1 hK1 hP hD hS => ?_)
  have h1 : s.vm.findClass ("[" ++ FieldType.int.toString) = some cI := (hK.1.2 0 _ rfl).2
  have h2 : s.vm.findClass ("[" ++ FieldType.int.toString) = some cA := (hK1.2 2 _ rfl).2
  have h3 : cA = cI := Option.some.inj (h2.symm.trans h1)
  subst h3
  exact k q H1 locs ls (by rw [flat_snoc]; exact hP) (by rw [flat_snoc]; exact hD) hS hl
theorem G.newq (X : GOK x l D cI cW own cc nL rm) (AX : AOX x) {idx : Nat} (hcl : Cond.classLink own idx RX5 ∈ tT) {n : Int32} {N : Nat} (d : DC cc pc (.anewarray idx) 3 pc') (hn : ¬ n < 0) (hN : n.toNatClampNeg = N) (hbytes : N * 4 ≤ 536870912) (hcells : cs + 1 ≤ rm.cells) (hslots : sl + N ≤ rm.slots) (k : ∀ q : Nat, G x (cs + 1) (sl + N) (ws ++ [[(q, .inl (cW, N, .inr (.inr (.inr (.inr (fun _ => none))))))]]) pc' lv (.ref q :: st)) : G x cs sl ws pc lv (.int n :: st) := by
  obtain ⟨p, l', e, R, s, m, args, below, meth, c, D', nL', A, Q⟩ := x
  obtain ⟨rfl, rfl, rfl, rfl, hx, hb, hml, hown, hts, hK, hA⟩ := X
  intro H locs ls hP hD hS hl
  obtain ⟨hd, rfl⟩ := d
  refine va_newq (C := RX5) hx hb hown (hts _ hcl) AX hK.1 hP hD hS hA hn hN hbytes hcells hslots hd (fun q cA H1 hK1 hP hD hS => ?_)
  have h1 : s.vm.findClass ("[" ++ (FieldType.object RX5).toString) = some cW := by
    obtain ⟨_, _, _, _, _, h⟩ := (hK.1.2 1 _ rfl).2
    exact h
  have h2 : s.vm.findClass ("[" ++ (FieldType.object RX5).toString) = some cA := by
    obtain ⟨_, _, _, _, _, h⟩ := (hK1.2 2 _ rfl).2
    exact h
  have h3 : cA = cW := Option.some.inj (h2.symm.trans h1)
  subst h3
  exact k q H1 locs ls (by rw [flat_snoc]; exact hP) (by rw [flat_snoc]; exact hD) hS hl
theorem G.astq (X : GOK x l D cI cW own cc nL rm) {i n a v : Nat} (d : DC cc pc .aastore 1 pc') (i0 q0 : Nat) {blk blk' : va_W} (hbk : ws[i0]? = some blk) {f : Nat → Option Nat} (he : blk[q0]? = some (a, .inl (cW, n, .inr (.inr (.inr (.inr f)))))) (i1 q1 : Nat) {blk1 : va_W} (hbk1 : ws[i1]? = some blk1) {vs : List Value} (he1 : blk1[q1]? = some (v, .inr (5, vs))) (hi : i < n) (hn : n < 2 ^ 31) (hw0 : blk.set q0 (a, .inl (cW, n, .inr (.inr (.inr (.inr (va_up f i (some v))))))) = blk') {ws' : List va_W} (hw : ws.set i0 blk' = ws') (k : G x cs sl ws' pc' lv st) : G x cs sl ws pc lv (.ref v :: .int (nI i) :: .ref a :: st) := by
  obtain ⟨p, l', e, R, s, m, args, below, meth, c, D', nL', A, Q⟩ := x
  obtain ⟨rfl, rfl, rfl, rfl, hx, hb, hml, hown, hts, hK, hA⟩ := X
  intro H locs ls hP hD hS hl
  obtain ⟨hd, rfl⟩ := d
  subst hw; subst hw0
  obtain ⟨k9, hk9, hs9⟩ := flat_at hbk he
  obtain ⟨k8, hk8, -⟩ := flat_at hbk1 he1
  have hc9 : (nI i).toNatClampNeg = i := nI_clamp (by omega)
  refine va_astq (r := (RX5, TX5, 12)) hx hb hK.1 hP hD hS k9 1 k8 5 hk9 rfl hk8 rfl (i := nI i) ?_ hd (fun H1 locs1 hP hD hS => ?_)
  · rintro (h | h)
    · exact nI_pos (by omega) h
    · rw [hc9] at h; omega
  · rw [hc9] at hP hD
    exact k H1 locs1 ls (by rw [hs9]; exact hP) (by rw [hs9]; exact hD) hS hl
theorem G.canonq (i0 q0 : Nat) {blk blk' : va_W} (hbk : ws[i0]? = some blk) {a : Nat} {cA : ClassId} {n : Nat} {f g : Nat → Option Nat} (he : blk[q0]? = some (a, .inl (cA, n, .inr (.inr (.inr (.inr f)))))) (h : ∀ j, j < n → f j = g j) (hw0 : blk.set q0 (a, .inl (cA, n, .inr (.inr (.inr (.inr g))))) = blk') {ws' : List va_W} (hw : ws.set i0 blk' = ws') (k : G x cs sl ws' pc lv st) : G x cs sl ws pc lv st := by
  obtain ⟨p, l', e, R, s, m, args, below, meth, c, D', nL', A, Q⟩ := x
  subst hw; subst hw0
  obtain ⟨k9, hk9, hs9⟩ := flat_at hbk he
  intro H locs ls hP hD hS hl
  have e9 : vp_cell cA (n, .inr (.inr (.inr (.inr f)))) = vp_cell cA (n, .inr (.inr (.inr (.inr g)))) := by
    show arrV cA n (fun j => va_rf (f j)) = arrV cA n (fun j => va_rf (g j))
    unfold arrV
    congr 2
    funext j
    exact congrArg va_rf (h j.val j.isLt)
  refine k H locs ls ?_ ?_ hS hl
  · rw [hs9]
    refine hP.set hD hk9 ?_ (fun _ _ => rfl)
    show H[a]? = some (vp_cell cA (n, .inr (.inr (.inr (.inr g)))))
    rw [← e9]
    exact hP k9 _ hk9
  · rw [hs9]; exact hD.set hk9
end
theorem g_call_new {p : Program} {l : Launch} {e : Env} {R : Room} {s : State} {m : MethodId} {args : Array Value} {below : List Frame} {meth : Method} {c : Code} {D : va_G} {nL : Nat} {A : Nat → Prop} {Q : State → Prop} {cs sl mc ms pc : Nat} {ws wc wr : List va_W} {lv : List (Nat × Value)} {st0 rest : List Value} {P : List va_W → Prop} {a : Array Value} {H : Heap} {locs : List Loc} {ls : Array Slot}
    (hP : va_P D cls8 ws.flatten H) (hD : va_D A ws.flatten) (hS : va_S A s.heap H locs) (hl : lv_has ls nL lv) (hA : ∀ q : Nat, s.heap.size ≤ q → A q) (isC isR : List Nat) (hC : isC.map (fun i => ws[i]?) = wc.map some) (hR : isR.map (fun i => ws[i]?) = wr.map some) (hndR : va_nd isR = true) (hdis : ∀ i ∈ isR, i ∉ isC)
    (hr : va_Run p l e R s m args below meth c H locs cs sl mc ms (F0 m pc ls st0) rest (QX D wc (fun rv w => rv = none ∧ P w) H.size a) (va_A wc.flatten H.size))
    (kk : ∀ w : List va_W, P w → G (p, l, e, R, s, m, args, below, meth, c, D, nL, A, Q) (cs + mc) (sl + ms) (w ++ wr) (pc + 3) lv rest) :
    W p l e R s m args below meth c H locs cs sl Q (F0 m pc ls st0) := by
  intro T hT X
  obtain ⟨v, st₀, t, T', L, h0, X', hL, e1, e2, ⟨⟨rv, w, hv, ⟨hrv, hp⟩, hPw, hDw⟩, hz, hk⟩, st⟩ := hr T hT X
  cases hv
  subst hrv
  rw [h0] at hz hk
  have kG := kk w hp
  have hF : ∀ q, va_A wc.flatten H.size q → A q := by
    rintro q (⟨k, e9, hq⟩ | hge)
    · obtain ⟨j, i, b, h1, h2, h3, h4⟩ := blk_mem hC (List.mem_of_getElem? hq)
      exact (va_D_iff.mp hD).2 q (List.mem_map.mpr ⟨(q, e9), List.mem_flatten.mpr ⟨b, List.mem_of_getElem? h2, h4⟩, rfl⟩)
    · exact hA q (Nat.le_trans hS.1 hge)
  have hPr : va_P D cls8 wr.flatten H := hP.subC hR
  have hDr : va_D A wr.flatten := hD.subC hndR hR
  -- a cell of the rest is none of the callee's
  have hap : ∀ q ∈ wr.flatten, ¬ va_A wc.flatten H.size q.1 := by
    intro q hq
    obtain ⟨j, i, b, h1, h2, h3, h4⟩ := blk_mem hR hq
    rintro (⟨k, e9, hj⟩ | hge)
    · obtain ⟨j', i', b', g1, g2, g3, g4⟩ := blk_mem hC (List.mem_of_getElem? hj)
      have hki : i ≠ i' := fun e => hdis i (List.mem_of_getElem? h1) (by rw [e]; exact List.mem_of_getElem? g1)
      exact blk_apart hD h2 g2 hki h4 g4 rfl
    · have := (hPr.mem hq).lt
      omega
  have hP1 : va_P D cls8 (w ++ wr).flatten T'.heap := by
    refine va_P.of (fun q hq => ?_)
    rw [List.flatten_append, List.mem_append] at hq
    rcases hq with hq | hq
    · rw [e1]; exact hPw.mem hq
    · have h3 : va_at D cls8 q H := hPr.mem hq
      refine h3.kept ?_
      rw [e1]
      exact hk q.1 h3.lt (hap q hq)
  have hD1 : va_D A (w ++ wr).flatten := by
    refine va_D_iff.mpr ⟨?_, fun a9 ha => ?_⟩
    · rw [List.flatten_append, List.map_append]
      refine List.nodup_append.mpr ⟨(va_D_iff.mp hDw).1, (va_D_iff.mp hDr).1, fun a9 ha b9 hb e9 => ?_⟩
      subst e9
      obtain ⟨q, hq, rfl⟩ := List.mem_map.mp hb
      exact hap q hq ((va_D_iff.mp hDw).2 _ ha)
    · rw [List.flatten_append, List.map_append, List.mem_append] at ha
      rcases ha with ha | ha
      · exact hF _ ((va_D_iff.mp hDw).2 _ ha)
      · exact (va_D_iff.mp hDr).2 _ ha
  obtain ⟨t2, a1, b1⟩ := kG T'.heap (locs ++ L) ls hP1 hD1 ⟨Nat.le_trans hS.1 (by rw [e1]; exact hz), fun q h1 h2 => by
      rw [e1, hk q (Nat.lt_of_lt_of_le h1 hS.1) (fun z => h2 (hF q z))]; exact hS.2.1 q h1 h2, fun q hq => by
      rcases List.mem_append.mp hq with h | h
      · exact hS.2.2 q h
      · exact hF _ (hL q h)⟩ hl T' rfl X'
  exact ⟨t2, st t2 a1, b1⟩
section
variable {l : Launch} {D : va_G} {cI cW : ClassId} {own : String} {cc : ByteArray} {nL : Nat} {rm : Room} {cs sl pc pc' : Nat} {ws : List va_W} {lv lv' : List (Nat × Value)} {st : List Value} {x : GC}
variable {y : MethodName} {C : String} {cc' : ByteArray} {nL' : Nat} {n : Nat} {rm' : Room} {wc wr : List va_W} {P : List va_W → Prop} {idx : Nat} {rest : List Value} {b : Nat}
theorem G.cin (X : GOK x l D cI cW own cc nL rm) (AX : AOX x) {host : String} (K : KI y C cc' nL' 0) (hL : ∀ U, NX U → va_Nw (.methodLinkNest own idx y host) U) (d : DC cc pc (.invokespecial idx) 3 pc') (hM : CTA l D cI cW y cc' nL' rm' [.ref b] wc P) (hR : rm'.frames + 1 ≤ rm.frames ∧ 8 + (nL' + 11) + rm'.locals ≤ rm.locals) (hcs : cs + rm'.cells ≤ rm.cells ∧ sl + rm'.slots ≤ rm.slots) (isC isR : List Nat) (hC : isC.map (fun i => ws[i]?) = wc.map some) (hCr : isR.map (fun i => ws[i]?) = wr.map some) (hnd : va_nd isC = true) (hndR : va_nd isR = true) (hdis : ∀ i ∈ isR, i ∉ isC) (hW : (rest.map fun v => v.category).sum ≤ 8) {cs' sl' : Nat} (hcs' : cs + rm'.cells = cs') (hsl' : sl + rm'.slots = sl') (kk : ∀ w : List va_W, P w → G x cs' sl' (w ++ wr) pc' lv rest) : G x cs sl ws pc lv (.ref b :: rest) := by
  obtain ⟨p, l', e, R, s, m, args, below, meth, c, D', nL', A, Q⟩ := x
  obtain ⟨rfl, rfl, rfl, rfl, hx, hb, hml, hown, hts, hK, hA⟩ := X
  obtain ⟨hd, rfl⟩ := d
  subst hcs'; subst hsl'
  intro H locs ls hP hD hS hl
  obtain ⟨⟨k1, k2, k3⟩, rfl, k4, k5⟩ := K
  refine g_call_new hP hD hS hl hA isC isR hC hCr hndR hdis (va_runIN (As := []) (rest := rest) ⟨hx, hb, hml, hown, hts⟩ (hM H.size) ⟨va_cnB 0 hts (good_ct k3) rfl rfl rfl (hL s hK.2) (hts _ k2) k5 hR, k4, hts _ k1⟩ ⟨pca_blind, fun U hU hW => ⟨rfl, by rw [hU], by rw [hU]; exact hP.subC hC, ⟨hK.warm hW, va_AO.moved hW.alike AX⟩, (hD.subC hnd hC).weaken (fun _ _ _ _ => trivial)⟩⟩ rfl rfl hl.1 rfl (lv_room hW) hd hcs) kk
theorem G.cii (X : GOK x l D cI cW own cc nL rm) (AX : AOX x) (K : KI y C cc' nL' 0) (hL : Cond.methodLink own idx y ∈ tT) (d : DC cc pc (.invokespecial idx) 3 pc') (hM : CTA l D cI cW y cc' nL' rm' [.ref b] wc P) (hR : rm'.frames + 1 ≤ rm.frames ∧ 8 + (nL' + 11) + rm'.locals ≤ rm.locals) (hcs : cs + rm'.cells ≤ rm.cells ∧ sl + rm'.slots ≤ rm.slots) (isC isR : List Nat) (hC : isC.map (fun i => ws[i]?) = wc.map some) (hCr : isR.map (fun i => ws[i]?) = wr.map some) (hnd : va_nd isC = true) (hndR : va_nd isR = true) (hdis : ∀ i ∈ isR, i ∉ isC) (hW : (rest.map fun v => v.category).sum ≤ 8) {cs' sl' : Nat} (hcs' : cs + rm'.cells = cs') (hsl' : sl + rm'.slots = sl') (kk : ∀ w : List va_W, P w → G x cs' sl' (w ++ wr) pc' lv rest) : G x cs sl ws pc lv (.ref b :: rest) := by
  obtain ⟨p, l', e, R, s, m, args, below, meth, c, D', nL', A, Q⟩ := x
  obtain ⟨rfl, rfl, rfl, rfl, hx, hb, hml, hown, hts, hK, hA⟩ := X
  obtain ⟨hd, rfl⟩ := d
  subst hcs'; subst hsl'
  intro H locs ls hP hD hS hl
  obtain ⟨⟨k1, k2, k3⟩, rfl, k4, k5⟩ := K
  refine g_call_new hP hD hS hl hA isC isR hC hCr hndR hdis (va_runI (As := []) (rest := rest) ⟨hx, hb, hml, hown, hts⟩ (hM H.size) ⟨callB_of 0 hts (good_ct k3) rfl rfl rfl (hts _ k2) (hts _ hL) k5 hR, k4, hts _ k1⟩ ⟨pca_blind, fun U hU hW => ⟨rfl, by rw [hU], by rw [hU]; exact hP.subC hC, ⟨hK.warm hW, va_AO.moved hW.alike AX⟩, (hD.subC hnd hC).weaken (fun _ _ _ _ => trivial)⟩⟩ rfl rfl hl.1 rfl (lv_room hW) hd hcs) kk
end
