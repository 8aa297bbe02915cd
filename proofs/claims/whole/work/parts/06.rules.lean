def KX (D : va_G) (cI cW : ClassId) (U : State) : Prop := va_K D cls8 [(cI, .int), (cW, .object RX5)] U ∧ NX U
theorem KX.warm {D : va_G} {cI cW : ClassId} {s U : State} (hW : s.WarmedH U.vm) (h : KX D cI cW s) : KX D cI cW U := ⟨va_K.moved hW.alike h.1, h.2.warm hW⟩
theorem KX.same {D : va_G} {cI cW : ClassId} {s U : State} (hV : s.vm = U.vm) (h : KX D cI cW s) : KX D cI cW U := ⟨va_K.moved (by rw [hV]; exact Vm.Alike.refl U.vm) h.1, h.2.same hV⟩
abbrev GC : Type := Program × Launch × Env × Room × State × MethodId × Array Value × List Frame × Method × Code × va_G × Nat × (Nat → Prop) × (State → Prop)
def G (x : GC) (cs sl : Nat) (ws : List va_W) (pc : Nat) (lv : List (Nat × Value)) (st : List Value) : Prop := match x with
  | (p, l, e, R, s, m, args, below, meth, c, D, nL, A, Q) => ∀ (H : Heap) (locs : List Loc) (ls : Array Slot), va_P D cls8 ws.flatten H → va_D A ws.flatten → va_S A s.heap H locs → lv_has ls nL lv → W p l e R s m args below meth c H locs cs sl Q (F0 m pc ls st)
def GOK (x : GC) (l : Launch) (D : va_G) (cI cW : ClassId) (own : String) (cc : ByteArray) (nL : Nat) (rm : Room) : Prop := match x with
  | (p, l', e, R, s, m, args, below, meth, c, D', nL', A, Q) => l' = l ∧ R = rm ∧ D' = D ∧ nL' = nL ∧ p.tables.exec = Jvm.exec ∧ c.code = cc ∧ c.maxLocals = nL ∧ s.vm.findClass own = some m.cls ∧ (∀ w ∈ tT, w.before args s = true) ∧ KX D cI cW s ∧ ∀ q : Nat, s.heap.size ≤ q → A q
def QX (D : va_G) (ws0 : List va_W) (post : Option Value → List va_W → Prop) (sz : Nat) : Array Value → State → Outcome → State → Prop := fun _ st oc t => (∃ (rv : Option Value) (w : List va_W), oc = .returned rv ∧ post rv w ∧ va_P D cls8 w.flatten t.heap ∧ va_D (va_A ws0.flatten sz) w.flatten) ∧ va_F (va_A ws0.flatten sz) st t
def GRT (x : GC) (ret : Option FieldType) (ws0 : List va_W) (post : Option Value → List va_W → Prop) (mc ms : Nat) : Prop := match x with
  | (p, l, e, R, s, m, args, below, meth, c, D, nL, A, Q) => meth.sig.returnType = ret ∧ meth.locks = false ∧ A = va_A ws0.flatten s.heap.size ∧ Q = MQ below (QX D ws0 post s.heap.size) args s mc ms (va_A ws0.flatten s.heap.size)
def GNM (x : GC) (n : String) : Prop := match x with
  | (_, _, _, _, _, _, _, _, meth, _, _, _, _, _) => meth.name = n
def CT (l : Launch) (D : va_G) (cI cW : ClassId) (y : MethodName) (cc : ByteArray) (nL : Nat) (ret : Option FieldType) (rm : Room) (av : List Value) (ws0 : List va_W) (post : Option Value → List va_W → Prop) : Prop := ∀ sz : Nat, Met l y (.code y cc nL ret :: tT) rm (va_Pc av (fun U => U.heap.size = sz ∧ va_P D cls8 ws0.flatten U.heap ∧ KX D cI cW U ∧ va_D (fun _ => True) ws0.flatten)) (QX D ws0 post sz) rm.cells rm.slots (va_A ws0.flatten sz)
def PI (r : Int32) (w' : List va_W) : Option Value → List va_W → Prop := fun rv w => rv = some (.int r) ∧ w = w'
def PV (w' : List va_W) : Option Value → List va_W → Prop := fun rv w => rv = none ∧ w = w'
def PJ (r : Int64) (w' : List va_W) : Option Value → List va_W → Prop := fun rv w => rv = some (.long r) ∧ w = w'
def b2i (q : Bool) : Int32 := cond q 1 0
def g_set : List va_W → List Nat → List va_W → List va_W
  | ws, i :: is, q :: w => g_set (ws.set i q) is w
  | ws, _, _ => ws
theorem flat_at : ∀ {ws : List va_W} {i j : Nat} {blk : va_W} {q : Nat × va_E}, ws[i]? = some blk → blk[j]? = some q → ∃ k : Nat, ws.flatten[k]? = some q ∧ ∀ q' : Nat × va_E, (ws.set i (blk.set j q')).flatten = ws.flatten.set k q'
  | [], i, j, blk, q, hb, _ => by simp at hb
  | b :: rest, 0, j, blk, q, hb, hq => by
    have : b = blk := by simpa using hb
    subst this
    have hj : j < b.length := (List.getElem?_eq_some_iff.mp hq).1
    refine ⟨j, ?_, fun q' => ?_⟩
    · rw [List.flatten_cons, List.getElem?_append_left hj]; exact hq
    · rw [List.set_cons_zero, List.flatten_cons, List.flatten_cons, List.set_append_left _ _ hj]
  | b :: rest, i + 1, j, blk, q, hb, hq => by
    obtain ⟨k, h1, h2⟩ := flat_at (ws := rest) (i := i) (by simpa using hb) hq
    refine ⟨b.length + k, ?_, fun q' => ?_⟩
    · rw [List.flatten_cons, List.getElem?_append_right (by omega), Nat.add_sub_cancel_left]; exact h1
    · rw [List.set_cons_succ, List.flatten_cons, List.flatten_cons, h2 q', List.set_append_right _ _ (by omega), Nat.add_sub_cancel_left]
section
variable {l : Launch} {D : va_G} {cI cW : ClassId} {own : String} {cc : ByteArray} {nL : Nat} {rm : Room} {cs sl pc pc' : Nat} {ws : List va_W} {lv lv' : List (Nat × Value)} {st : List Value} {x : GC}

theorem G.il (X : GOK x l D cI cW own cc nL rm) {i : Nat} {v : Int32} (d : DIl cc pc i pc') (j : Nat) (hj : lv[j]? = some (i, .int v)) (k : G x cs sl ws pc' lv (.int v :: st)) : G x cs sl ws pc lv st := by
  obtain ⟨p, l', e, R, s, m, args, below, meth, c, D', nL', A, Q⟩ := x
  obtain ⟨rfl, rfl, rfl, rfl, hx, hb, hml, hown, hts, hK, hA⟩ := X
  intro H locs ls hP hD hS hl
  rcases d with ⟨n, hd, hn, rfl⟩ | ⟨hd, rfl⟩
  · exact lv_iload_n hx hb hd hn (lv_at hl j hj) (k H locs ls hP hD hS hl)
  · exact lv_iload hx hb hd (lv_at hl j hj) (k H locs ls hP hD hS hl)
theorem G.al (X : GOK x l D cI cW own cc nL rm) {i : Nat} {v : Nat} (d : DAl cc pc i pc') (j : Nat) (hj : lv[j]? = some (i, .ref v)) (k : G x cs sl ws pc' lv (.ref v :: st)) : G x cs sl ws pc lv st := by
  obtain ⟨p, l', e, R, s, m, args, below, meth, c, D', nL', A, Q⟩ := x
  obtain ⟨rfl, rfl, rfl, rfl, hx, hb, hml, hown, hts, hK, hA⟩ := X
  intro H locs ls hP hD hS hl
  rcases d with ⟨n, hd, hn, rfl⟩ | ⟨hd, rfl⟩
  · exact lv_aload_n hx hb hd hn (lv_at hl j hj) (k H locs ls hP hD hS hl)
  · exact lv_aload hx hb hd (lv_at hl j hj) (k H locs ls hP hD hS hl)
theorem G.ll (X : GOK x l D cI cW own cc nL rm) {i : Nat} {v : Int64} (d : DLl cc pc i pc') (j : Nat) (hj : lv[j]? = some (i, .long v)) (k : G x cs sl ws pc' lv (.long v :: st)) : G x cs sl ws pc lv st := by
  obtain ⟨p, l', e, R, s, m, args, below, meth, c, D', nL', A, Q⟩ := x
  obtain ⟨rfl, rfl, rfl, rfl, hx, hb, hml, hown, hts, hK, hA⟩ := X
  intro H locs ls hP hD hS hl
  rcases d with ⟨n, hd, hn, rfl⟩ | ⟨hd, rfl⟩
  · exact lv_lload_n hx hb hd hn (lv_at hl j hj) (k H locs ls hP hD hS hl)
  · exact lv_lload hx hb hd (lv_at hl j hj) (k H locs ls hP hD hS hl)
theorem G.is (X : GOK x l D cI cW own cc nL rm) {i : Nat} {v : Int32} (d : DIs cc pc i pc') (hn : i < nL) (hl' : (i, Value.int v) :: lv.filter (fun q => !(q.1 == i) && !(q.1 + 1 == i && q.2.category == 2)) = lv') (k : G x cs sl ws pc' lv' st) : G x cs sl ws pc lv (.int v :: st) := by
  obtain ⟨p, l', e, R, s, m, args, below, meth, c, D', nL', A, Q⟩ := x
  obtain ⟨rfl, rfl, rfl, rfl, hx, hb, hml, hown, hts, hK, hA⟩ := X
  intro H locs ls hP hD hS hl
  rcases d with ⟨n, hd, hn2, rfl⟩ | ⟨hd, rfl⟩
  · exact lv_istore_n hx hb hd hn2 hl hn hl' (fun ls' h' => k H locs ls' hP hD hS h')
  · exact lv_istore hx hb hd hl hn hl' (fun ls' h' => k H locs ls' hP hD hS h')
theorem G.as (X : GOK x l D cI cW own cc nL rm) {i : Nat} {v : Nat} (d : DAs cc pc i pc') (hn : i < nL) (hl' : (i, Value.ref v) :: lv.filter (fun q => !(q.1 == i) && !(q.1 + 1 == i && q.2.category == 2)) = lv') (k : G x cs sl ws pc' lv' st) : G x cs sl ws pc lv (.ref v :: st) := by
  obtain ⟨p, l', e, R, s, m, args, below, meth, c, D', nL', A, Q⟩ := x
  obtain ⟨rfl, rfl, rfl, rfl, hx, hb, hml, hown, hts, hK, hA⟩ := X
  intro H locs ls hP hD hS hl
  rcases d with ⟨n, hd, hn2, rfl⟩ | ⟨hd, rfl⟩
  · exact lv_astore_n hx hb hd hn2 hl hn hl' (fun ls' h' => k H locs ls' hP hD hS h')
  · exact lv_astore hx hb hd hl hn hl' (fun ls' h' => k H locs ls' hP hD hS h')
theorem G.ls (X : GOK x l D cI cW own cc nL rm) {i : Nat} {v : Int64} (d : DLs cc pc i pc') (hn : i + 1 < nL) (hl' : (i, Value.long v) :: lv.filter (fun q => !(q.1 == i) && (!(q.1 == i + 1) && !(q.1 + 1 == i && q.2.category == 2))) = lv') (k : G x cs sl ws pc' lv' st) : G x cs sl ws pc lv (.long v :: st) := by
  obtain ⟨p, l', e, R, s, m, args, below, meth, c, D', nL', A, Q⟩ := x
  obtain ⟨rfl, rfl, rfl, rfl, hx, hb, hml, hown, hts, hK, hA⟩ := X
  intro H locs ls hP hD hS hl
  rcases d with ⟨n, hd, hn2, rfl⟩ | ⟨hd, rfl⟩
  · exact lv_lstore_n hx hb hd hn2 hl hn hl' (fun ls' h' => k H locs ls' hP hD hS h')
  · exact lv_lstore hx hb hd hl hn hl' (fun ls' h' => k H locs ls' hP hD hS h')
theorem G.iinc (X : GOK x l D cI cW own cc nL rm) {i : Nat} {n : Int} {v v' : Int32} (d : DC cc pc (.iinc i n) 3 pc') (j : Nat) (hj : lv[j]? = some (i, .int v)) (hv : v + Int32.ofInt n = v') (hn : i < nL) (hl' : (i, Value.int v') :: lv.filter (fun q => !(q.1 == i) && !(q.1 + 1 == i && q.2.category == 2)) = lv') (k : G x cs sl ws pc' lv' st) : G x cs sl ws pc lv st := by
  obtain ⟨p, l', e, R, s, m, args, below, meth, c, D', nL', A, Q⟩ := x
  obtain ⟨rfl, rfl, rfl, rfl, hx, hb, hml, hown, hts, hK, hA⟩ := X
  intro H locs ls hP hD hS hl
  obtain ⟨hd, rfl⟩ := d
  exact lv_iinc hx hb hd hl hj hv hn hl' (fun ls' h' => k H locs ls' hP hD hS h')
theorem G.pu (X : GOK x l D cI cW own cc nL rm) {v : Int32} (d : DP cc pc v pc') (k : G x cs sl ws pc' lv (.int v :: st)) : G x cs sl ws pc lv st := by
  obtain ⟨p, l', e, R, s, m, args, below, meth, c, D', nL', A, Q⟩ := x
  obtain ⟨rfl, rfl, rfl, rfl, hx, hb, hml, hown, hts, hK, hA⟩ := X
  intro H locs ls hP hD hS hl
  rcases d with ⟨n, hd, hv, rfl⟩ | ⟨n, hd, hv, rfl⟩ | ⟨n, hd, hv, rfl⟩
  · exact lv_iconst hx hb hd hv (k H locs ls hP hD hS hl)
  · exact lv_bipush hx hb hd hv (k H locs ls hP hD hS hl)
  · exact lv_sipush hx hb hd hv (k H locs ls hP hD hS hl)
theorem G.lc (X : GOK x l D cI cW own cc nL rm) {n : Fin 2} {v : Int64} (d : DC cc pc (.lconst n) 1 pc') (hv : Int64.ofNat (n : Nat) = v) (k : G x cs sl ws pc' lv (.long v :: st)) : G x cs sl ws pc lv st := by
  obtain ⟨p, l', e, R, s, m, args, below, meth, c, D', nL', A, Q⟩ := x
  obtain ⟨rfl, rfl, rfl, rfl, hx, hb, hml, hown, hts, hK, hA⟩ := X
  intro H locs ls hP hD hS hl
  obtain ⟨hd, rfl⟩ := d
  exact lv_lconst hx hb hd hv (k H locs ls hP hD hS hl)
theorem G.ldc (X : GOK x l D cI cW own cc nL rm) {i : Nat} {v : Int32} (d : DC cc pc (.ldc i) 2 pc') (h : Cond.constant own i v ∈ tT) (k : G x cs sl ws pc' lv (.int v :: st)) : G x cs sl ws pc lv st := by
  obtain ⟨p, l', e, R, s, m, args, below, meth, c, D', nL', A, Q⟩ := x
  obtain ⟨rfl, rfl, rfl, rfl, hx, hb, hml, hown, hts, hK, hA⟩ := X
  intro H locs ls hP hD hS hl
  obtain ⟨hd, rfl⟩ := d
  exact lv_ldc hx hb hown (hts _ h) hd (k H locs ls hP hD hS hl)
theorem G.ldcw (X : GOK x l D cI cW own cc nL rm) {i : Nat} {v : Int32} (d : DC cc pc (.ldc_w i) 3 pc') (h : Cond.constant own i v ∈ tT) (k : G x cs sl ws pc' lv (.int v :: st)) : G x cs sl ws pc lv st := by
  obtain ⟨p, l', e, R, s, m, args, below, meth, c, D', nL', A, Q⟩ := x
  obtain ⟨rfl, rfl, rfl, rfl, hx, hb, hml, hown, hts, hK, hA⟩ := X
  intro H locs ls hP hD hS hl
  obtain ⟨hd, rfl⟩ := d
  exact lv_ldcw hx hb hown (hts _ h) hd (k H locs ls hP hD hS hl)
theorem G.ldc2 (X : GOK x l D cI cW own cc nL rm) {i : Nat} {v : Int64} (d : DC cc pc (.ldc2_w i) 3 pc') (h : Cond.constantLong own i v ∈ tT) (k : G x cs sl ws pc' lv (.long v :: st)) : G x cs sl ws pc lv st := by
  obtain ⟨p, l', e, R, s, m, args, below, meth, c, D', nL', A, Q⟩ := x
  obtain ⟨rfl, rfl, rfl, rfl, hx, hb, hml, hown, hts, hK, hA⟩ := X
  intro H locs ls hP hD hS hl
  obtain ⟨hd, rfl⟩ := d
  exact lv_ldc2 hx hb hown (hts _ h) hd (k H locs ls hP hD hS hl)
theorem G.iadd (X : GOK x l D cI cW own cc nL rm) {a b : Int32} (d : DC cc pc .iadd 1 pc')  (k : G x cs sl ws pc' lv (.int (a + b) :: st)) : G x cs sl ws pc lv (.int b :: .int a :: st) := by
  obtain ⟨p, l', e, R, s, m, args, below, meth, c, D', nL', A, Q⟩ := x
  obtain ⟨rfl, rfl, rfl, rfl, hx, hb, hml, hown, hts, hK, hA⟩ := X
  intro H locs ls hP hD hS hl
  obtain ⟨hd, rfl⟩ := d
  exact lv_iadd hx hb hd (k H locs ls hP hD hS hl)
theorem G.isub (X : GOK x l D cI cW own cc nL rm) {a b : Int32} (d : DC cc pc .isub 1 pc')  (k : G x cs sl ws pc' lv (.int (a - b) :: st)) : G x cs sl ws pc lv (.int b :: .int a :: st) := by
  obtain ⟨p, l', e, R, s, m, args, below, meth, c, D', nL', A, Q⟩ := x
  obtain ⟨rfl, rfl, rfl, rfl, hx, hb, hml, hown, hts, hK, hA⟩ := X
  intro H locs ls hP hD hS hl
  obtain ⟨hd, rfl⟩ := d
  exact lv_isub hx hb hd (k H locs ls hP hD hS hl)
theorem G.imul (X : GOK x l D cI cW own cc nL rm) {a b : Int32} (d : DC cc pc .imul 1 pc')  (k : G x cs sl ws pc' lv (.int (a * b) :: st)) : G x cs sl ws pc lv (.int b :: .int a :: st) := by
  obtain ⟨p, l', e, R, s, m, args, below, meth, c, D', nL', A, Q⟩ := x
  obtain ⟨rfl, rfl, rfl, rfl, hx, hb, hml, hown, hts, hK, hA⟩ := X
  intro H locs ls hP hD hS hl
  obtain ⟨hd, rfl⟩ := d
  exact lv_imul hx hb hd (k H locs ls hP hD hS hl)
theorem G.iand (X : GOK x l D cI cW own cc nL rm) {a b : Int32} (d : DC cc pc .iand 1 pc')  (k : G x cs sl ws pc' lv (.int (a &&& b) :: st)) : G x cs sl ws pc lv (.int b :: .int a :: st) := by
  obtain ⟨p, l', e, R, s, m, args, below, meth, c, D', nL', A, Q⟩ := x
  obtain ⟨rfl, rfl, rfl, rfl, hx, hb, hml, hown, hts, hK, hA⟩ := X
  intro H locs ls hP hD hS hl
  obtain ⟨hd, rfl⟩ := d
  exact lv_iand hx hb hd (k H locs ls hP hD hS hl)
theorem G.ior (X : GOK x l D cI cW own cc nL rm) {a b : Int32} (d : DC cc pc .ior 1 pc')  (k : G x cs sl ws pc' lv (.int (a ||| b) :: st)) : G x cs sl ws pc lv (.int b :: .int a :: st) := by
  obtain ⟨p, l', e, R, s, m, args, below, meth, c, D', nL', A, Q⟩ := x
  obtain ⟨rfl, rfl, rfl, rfl, hx, hb, hml, hown, hts, hK, hA⟩ := X
  intro H locs ls hP hD hS hl
  obtain ⟨hd, rfl⟩ := d
  exact lv_ior hx hb hd (k H locs ls hP hD hS hl)
theorem G.ixor (X : GOK x l D cI cW own cc nL rm) {a b : Int32} (d : DC cc pc .ixor 1 pc')  (k : G x cs sl ws pc' lv (.int (a ^^^ b) :: st)) : G x cs sl ws pc lv (.int b :: .int a :: st) := by
  obtain ⟨p, l', e, R, s, m, args, below, meth, c, D', nL', A, Q⟩ := x
  obtain ⟨rfl, rfl, rfl, rfl, hx, hb, hml, hown, hts, hK, hA⟩ := X
  intro H locs ls hP hD hS hl
  obtain ⟨hd, rfl⟩ := d
  exact lv_ixor hx hb hd (k H locs ls hP hD hS hl)
theorem G.ishl (X : GOK x l D cI cW own cc nL rm) {a b : Int32} (d : DC cc pc .ishl 1 pc')  (k : G x cs sl ws pc' lv (.int (a <<< (b &&& 31)) :: st)) : G x cs sl ws pc lv (.int b :: .int a :: st) := by
  obtain ⟨p, l', e, R, s, m, args, below, meth, c, D', nL', A, Q⟩ := x
  obtain ⟨rfl, rfl, rfl, rfl, hx, hb, hml, hown, hts, hK, hA⟩ := X
  intro H locs ls hP hD hS hl
  obtain ⟨hd, rfl⟩ := d
  exact lv_ishl hx hb hd (k H locs ls hP hD hS hl)
theorem G.ishr (X : GOK x l D cI cW own cc nL rm) {a b : Int32} (d : DC cc pc .ishr 1 pc')  (k : G x cs sl ws pc' lv (.int (a >>> (b &&& 31)) :: st)) : G x cs sl ws pc lv (.int b :: .int a :: st) := by
  obtain ⟨p, l', e, R, s, m, args, below, meth, c, D', nL', A, Q⟩ := x
  obtain ⟨rfl, rfl, rfl, rfl, hx, hb, hml, hown, hts, hK, hA⟩ := X
  intro H locs ls hP hD hS hl
  obtain ⟨hd, rfl⟩ := d
  exact lv_ishr hx hb hd (k H locs ls hP hD hS hl)
theorem G.idiv (X : GOK x l D cI cW own cc nL rm) {a b : Int32} (d : DC cc pc .idiv 1 pc') (hne : ¬ b = 0) (k : G x cs sl ws pc' lv (.int (a / b) :: st)) : G x cs sl ws pc lv (.int b :: .int a :: st) := by
  obtain ⟨p, l', e, R, s, m, args, below, meth, c, D', nL', A, Q⟩ := x
  obtain ⟨rfl, rfl, rfl, rfl, hx, hb, hml, hown, hts, hK, hA⟩ := X
  intro H locs ls hP hD hS hl
  obtain ⟨hd, rfl⟩ := d
  exact lv_idiv hx hb hd hne (k H locs ls hP hD hS hl)
theorem G.irem (X : GOK x l D cI cW own cc nL rm) {a b : Int32} (d : DC cc pc .irem 1 pc') (hne : ¬ b = 0) (k : G x cs sl ws pc' lv (.int (a - a / b * b) :: st)) : G x cs sl ws pc lv (.int b :: .int a :: st) := by
  obtain ⟨p, l', e, R, s, m, args, below, meth, c, D', nL', A, Q⟩ := x
  obtain ⟨rfl, rfl, rfl, rfl, hx, hb, hml, hown, hts, hK, hA⟩ := X
  intro H locs ls hP hD hS hl
  obtain ⟨hd, rfl⟩ := d
  exact lv_irem hx hb hd hne (k H locs ls hP hD hS hl)
theorem G.iushr (X : GOK x l D cI cW own cc nL rm) {a b : Int32} (d : DC cc pc .iushr 1 pc') (k : G x cs sl ws pc' lv (.int ((a.toUInt32 >>> (b.toUInt32 &&& Int32.toUInt32 31)).toInt32) :: st)) : G x cs sl ws pc lv (.int b :: .int a :: st) := by
  obtain ⟨p, l', e, R, s, m, args, below, meth, c, D', nL', A, Q⟩ := x
  obtain ⟨rfl, rfl, rfl, rfl, hx, hb, hml, hown, hts, hK, hA⟩ := X
  intro H locs ls hP hD hS hl
  obtain ⟨hd, rfl⟩ := d
  exact lv_iushr hx hb hd rfl (k H locs ls hP hD hS hl)
theorem G.ineg (X : GOK x l D cI cW own cc nL rm) {a : Int32} (d : DC cc pc .ineg 1 pc') (k : G x cs sl ws pc' lv (.int (-a) :: st)) : G x cs sl ws pc lv (.int a :: st) := by
  obtain ⟨p, l', e, R, s, m, args, below, meth, c, D', nL', A, Q⟩ := x
  obtain ⟨rfl, rfl, rfl, rfl, hx, hb, hml, hown, hts, hK, hA⟩ := X
  intro H locs ls hP hD hS hl
  obtain ⟨hd, rfl⟩ := d
  exact lv_ineg hx hb hd (k H locs ls hP hD hS hl)
theorem G.i2l (X : GOK x l D cI cW own cc nL rm) {a : Int32} (d : DC cc pc .i2l 1 pc') (k : G x cs sl ws pc' lv (.long a.toInt64 :: st)) : G x cs sl ws pc lv (.int a :: st) := by
  obtain ⟨p, l', e, R, s, m, args, below, meth, c, D', nL', A, Q⟩ := x
  obtain ⟨rfl, rfl, rfl, rfl, hx, hb, hml, hown, hts, hK, hA⟩ := X
  intro H locs ls hP hD hS hl
  obtain ⟨hd, rfl⟩ := d
  exact lv_i2l hx hb hd rfl (k H locs ls hP hD hS hl)
theorem G.ladd (X : GOK x l D cI cW own cc nL rm) {a b : Int64} (d : DC cc pc .ladd 1 pc')  (k : G x cs sl ws pc' lv (.long (a + b) :: st)) : G x cs sl ws pc lv (.long b :: .long a :: st) := by
  obtain ⟨p, l', e, R, s, m, args, below, meth, c, D', nL', A, Q⟩ := x
  obtain ⟨rfl, rfl, rfl, rfl, hx, hb, hml, hown, hts, hK, hA⟩ := X
  intro H locs ls hP hD hS hl
  obtain ⟨hd, rfl⟩ := d
  exact lv_ladd hx hb hd (k H locs ls hP hD hS hl)
theorem G.lsub (X : GOK x l D cI cW own cc nL rm) {a b : Int64} (d : DC cc pc .lsub 1 pc')  (k : G x cs sl ws pc' lv (.long (a - b) :: st)) : G x cs sl ws pc lv (.long b :: .long a :: st) := by
  obtain ⟨p, l', e, R, s, m, args, below, meth, c, D', nL', A, Q⟩ := x
  obtain ⟨rfl, rfl, rfl, rfl, hx, hb, hml, hown, hts, hK, hA⟩ := X
  intro H locs ls hP hD hS hl
  obtain ⟨hd, rfl⟩ := d
  exact lv_lsub hx hb hd (k H locs ls hP hD hS hl)
theorem G.lmul (X : GOK x l D cI cW own cc nL rm) {a b : Int64} (d : DC cc pc .lmul 1 pc')  (k : G x cs sl ws pc' lv (.long (a * b) :: st)) : G x cs sl ws pc lv (.long b :: .long a :: st) := by
  obtain ⟨p, l', e, R, s, m, args, below, meth, c, D', nL', A, Q⟩ := x
  obtain ⟨rfl, rfl, rfl, rfl, hx, hb, hml, hown, hts, hK, hA⟩ := X
  intro H locs ls hP hD hS hl
  obtain ⟨hd, rfl⟩ := d
  exact lv_lmul hx hb hd (k H locs ls hP hD hS hl)
theorem G.ldiv (X : GOK x l D cI cW own cc nL rm) {a b : Int64} (d : DC cc pc .ldiv 1 pc') (hne : ¬ b = 0) (k : G x cs sl ws pc' lv (.long (a / b) :: st)) : G x cs sl ws pc lv (.long b :: .long a :: st) := by
  obtain ⟨p, l', e, R, s, m, args, below, meth, c, D', nL', A, Q⟩ := x
  obtain ⟨rfl, rfl, rfl, rfl, hx, hb, hml, hown, hts, hK, hA⟩ := X
  intro H locs ls hP hD hS hl
  obtain ⟨hd, rfl⟩ := d
  exact lv_ldiv hx hb hd hne (k H locs ls hP hD hS hl)
theorem G.lrem (X : GOK x l D cI cW own cc nL rm) {a b : Int64} (d : DC cc pc .lrem 1 pc') (hne : ¬ b = 0) (k : G x cs sl ws pc' lv (.long (a - a / b * b) :: st)) : G x cs sl ws pc lv (.long b :: .long a :: st) := by
  obtain ⟨p, l', e, R, s, m, args, below, meth, c, D', nL', A, Q⟩ := x
  obtain ⟨rfl, rfl, rfl, rfl, hx, hb, hml, hown, hts, hK, hA⟩ := X
  intro H locs ls hP hD hS hl
  obtain ⟨hd, rfl⟩ := d
  exact lv_lrem hx hb hd hne (k H locs ls hP hD hS hl)
theorem G.lcmp (X : GOK x l D cI cW own cc nL rm) {a b : Int64} (d : DC cc pc .lcmp 1 pc') (k : G x cs sl ws pc' lv (.int (lg_cmp a b) :: st)) : G x cs sl ws pc lv (.long b :: .long a :: st) := by
  obtain ⟨p, l', e, R, s, m, args, below, meth, c, D', nL', A, Q⟩ := x
  obtain ⟨rfl, rfl, rfl, rfl, hx, hb, hml, hown, hts, hK, hA⟩ := X
  intro H locs ls hP hD hS hl
  obtain ⟨hd, rfl⟩ := d
  exact W.lcmp hx hb hd (k H locs ls hP hD hS hl)
theorem G.dupi (X : GOK x l D cI cW own cc nL rm) {a : Int32} (d : DC cc pc .dup 1 pc') (k : G x cs sl ws pc' lv (.int a :: .int a :: st)) : G x cs sl ws pc lv (.int a :: st) := by
  obtain ⟨p, l', e, R, s, m, args, below, meth, c, D', nL', A, Q⟩ := x
  obtain ⟨rfl, rfl, rfl, rfl, hx, hb, hml, hown, hts, hK, hA⟩ := X
  intro H locs ls hP hD hS hl
  obtain ⟨hd, rfl⟩ := d
  exact lv_dup hx hb hd rfl (k H locs ls hP hD hS hl)
theorem G.dupr (X : GOK x l D cI cW own cc nL rm) {a : Nat} (d : DC cc pc .dup 1 pc') (k : G x cs sl ws pc' lv (.ref a :: .ref a :: st)) : G x cs sl ws pc lv (.ref a :: st) := by
  obtain ⟨p, l', e, R, s, m, args, below, meth, c, D', nL', A, Q⟩ := x
  obtain ⟨rfl, rfl, rfl, rfl, hx, hb, hml, hown, hts, hK, hA⟩ := X
  intro H locs ls hP hD hS hl
  obtain ⟨hd, rfl⟩ := d
  exact lv_dup hx hb hd rfl (k H locs ls hP hD hS hl)
theorem G.dup2 (X : GOK x l D cI cW own cc nL rm) {a : Int32} {b : Nat} (d : DC cc pc .dup2 1 pc') (k : G x cs sl ws pc' lv (.int a :: .ref b :: .int a :: .ref b :: st)) : G x cs sl ws pc lv (.int a :: .ref b :: st) := by
  obtain ⟨p, l', e, R, s, m, args, below, meth, c, D', nL', A, Q⟩ := x
  obtain ⟨rfl, rfl, rfl, rfl, hx, hb, hml, hown, hts, hK, hA⟩ := X
  intro H locs ls hP hD hS hl
  obtain ⟨hd, rfl⟩ := d
  exact lv_dup2_11 hx hb hd rfl rfl (k H locs ls hP hD hS hl)
theorem G.popi (X : GOK x l D cI cW own cc nL rm) {a : Int32} (d : DC cc pc .pop 1 pc') (k : G x cs sl ws pc' lv st) : G x cs sl ws pc lv (.int a :: st) := by
  obtain ⟨p, l', e, R, s, m, args, below, meth, c, D', nL', A, Q⟩ := x
  obtain ⟨rfl, rfl, rfl, rfl, hx, hb, hml, hown, hts, hK, hA⟩ := X
  intro H locs ls hP hD hS hl
  obtain ⟨hd, rfl⟩ := d
  exact lv_pop hx hb hd rfl (k H locs ls hP hD hS hl)
theorem G.c_eq (X : GOK x l D cI cW own cc nL rm) {a b : Int32} {off : Int} {tgt : Nat} (d : DJ cc pc (.if_icmp .eq off) off tgt pc') (kt : (a = b) → G x cs sl ws tgt lv st) (kf : (¬ a = b) → G x cs sl ws pc' lv st) : G x cs sl ws pc lv (.int b :: .int a :: st) := by
  obtain ⟨p, l', e, R, s, m, args, below, meth, c, D', nL', A, Q⟩ := x
  obtain ⟨rfl, rfl, rfl, rfl, hx, hb, hml, hown, hts, hK, hA⟩ := X
  intro H locs ls hP hD hS hl
  obtain ⟨hd, ht, rfl⟩ := d
  exact lv_icmp_eq hx hb hd ht (fun h => kt (id h) H locs ls hP hD hS hl) (fun h => kf (id h) H locs ls hP hD hS hl)
theorem G.c_ne (X : GOK x l D cI cW own cc nL rm) {a b : Int32} {off : Int} {tgt : Nat} (d : DJ cc pc (.if_icmp .ne off) off tgt pc') (kt : (¬ a = b) → G x cs sl ws tgt lv st) (kf : (a = b) → G x cs sl ws pc' lv st) : G x cs sl ws pc lv (.int b :: .int a :: st) := by
  obtain ⟨p, l', e, R, s, m, args, below, meth, c, D', nL', A, Q⟩ := x
  obtain ⟨rfl, rfl, rfl, rfl, hx, hb, hml, hown, hts, hK, hA⟩ := X
  intro H locs ls hP hD hS hl
  obtain ⟨hd, ht, rfl⟩ := d
  exact lv_icmp_ne hx hb hd ht (fun h => kt (id h) H locs ls hP hD hS hl) (fun h => kf (id h) H locs ls hP hD hS hl)
theorem G.c_lt (X : GOK x l D cI cW own cc nL rm) {a b : Int32} {off : Int} {tgt : Nat} (d : DJ cc pc (.if_icmp .lt off) off tgt pc') (kt : (a < b) → G x cs sl ws tgt lv st) (kf : (¬ a < b) → G x cs sl ws pc' lv st) : G x cs sl ws pc lv (.int b :: .int a :: st) := by
  obtain ⟨p, l', e, R, s, m, args, below, meth, c, D', nL', A, Q⟩ := x
  obtain ⟨rfl, rfl, rfl, rfl, hx, hb, hml, hown, hts, hK, hA⟩ := X
  intro H locs ls hP hD hS hl
  obtain ⟨hd, ht, rfl⟩ := d
  exact lv_icmp_lt hx hb hd ht (fun h => kt (id h) H locs ls hP hD hS hl) (fun h => kf (id h) H locs ls hP hD hS hl)
theorem G.c_ge (X : GOK x l D cI cW own cc nL rm) {a b : Int32} {off : Int} {tgt : Nat} (d : DJ cc pc (.if_icmp .ge off) off tgt pc') (kt : (¬ a < b) → G x cs sl ws tgt lv st) (kf : (a < b) → G x cs sl ws pc' lv st) : G x cs sl ws pc lv (.int b :: .int a :: st) := by
  obtain ⟨p, l', e, R, s, m, args, below, meth, c, D', nL', A, Q⟩ := x
  obtain ⟨rfl, rfl, rfl, rfl, hx, hb, hml, hown, hts, hK, hA⟩ := X
  intro H locs ls hP hD hS hl
  obtain ⟨hd, ht, rfl⟩ := d
  exact lv_icmp_ge hx hb hd ht (fun h => kt (Int32.not_lt.mpr h) H locs ls hP hD hS hl) (fun h => kf (Int32.not_le.mp h) H locs ls hP hD hS hl)
theorem G.c_gt (X : GOK x l D cI cW own cc nL rm) {a b : Int32} {off : Int} {tgt : Nat} (d : DJ cc pc (.if_icmp .gt off) off tgt pc') (kt : (b < a) → G x cs sl ws tgt lv st) (kf : (¬ b < a) → G x cs sl ws pc' lv st) : G x cs sl ws pc lv (.int b :: .int a :: st) := by
  obtain ⟨p, l', e, R, s, m, args, below, meth, c, D', nL', A, Q⟩ := x
  obtain ⟨rfl, rfl, rfl, rfl, hx, hb, hml, hown, hts, hK, hA⟩ := X
  intro H locs ls hP hD hS hl
  obtain ⟨hd, ht, rfl⟩ := d
  exact lv_icmp_gt hx hb hd ht (fun h => kt (id h) H locs ls hP hD hS hl) (fun h => kf (id h) H locs ls hP hD hS hl)
theorem G.c_le (X : GOK x l D cI cW own cc nL rm) {a b : Int32} {off : Int} {tgt : Nat} (d : DJ cc pc (.if_icmp .le off) off tgt pc') (kt : (¬ b < a) → G x cs sl ws tgt lv st) (kf : (b < a) → G x cs sl ws pc' lv st) : G x cs sl ws pc lv (.int b :: .int a :: st) := by
  obtain ⟨p, l', e, R, s, m, args, below, meth, c, D', nL', A, Q⟩ := x
  obtain ⟨rfl, rfl, rfl, rfl, hx, hb, hml, hown, hts, hK, hA⟩ := X
  intro H locs ls hP hD hS hl
  obtain ⟨hd, ht, rfl⟩ := d
  exact lv_icmp_le hx hb hd ht (fun h => kt (Int32.not_lt.mpr h) H locs ls hP hD hS hl) (fun h => kf (Int32.not_le.mp h) H locs ls hP hD hS hl)
theorem G.z_eq (X : GOK x l D cI cW own cc nL rm) {a : Int32} {off : Int} {tgt : Nat} (d : DJ cc pc (.ifCond .eq off) off tgt pc') (kt : (a = 0) → G x cs sl ws tgt lv st) (kf : (¬ a = 0) → G x cs sl ws pc' lv st) : G x cs sl ws pc lv (.int a :: st) := by
  obtain ⟨p, l', e, R, s, m, args, below, meth, c, D', nL', A, Q⟩ := x
  obtain ⟨rfl, rfl, rfl, rfl, hx, hb, hml, hown, hts, hK, hA⟩ := X
  intro H locs ls hP hD hS hl
  obtain ⟨hd, ht, rfl⟩ := d
  exact lv_if_eq hx hb hd ht (fun h => kt (id h) H locs ls hP hD hS hl) (fun h => kf (id h) H locs ls hP hD hS hl)
theorem G.z_ne (X : GOK x l D cI cW own cc nL rm) {a : Int32} {off : Int} {tgt : Nat} (d : DJ cc pc (.ifCond .ne off) off tgt pc') (kt : (¬ a = 0) → G x cs sl ws tgt lv st) (kf : (a = 0) → G x cs sl ws pc' lv st) : G x cs sl ws pc lv (.int a :: st) := by
  obtain ⟨p, l', e, R, s, m, args, below, meth, c, D', nL', A, Q⟩ := x
  obtain ⟨rfl, rfl, rfl, rfl, hx, hb, hml, hown, hts, hK, hA⟩ := X
  intro H locs ls hP hD hS hl
  obtain ⟨hd, ht, rfl⟩ := d
  exact lv_if_ne hx hb hd ht (fun h => kt (id h) H locs ls hP hD hS hl) (fun h => kf (id h) H locs ls hP hD hS hl)
theorem G.z_lt (X : GOK x l D cI cW own cc nL rm) {a : Int32} {off : Int} {tgt : Nat} (d : DJ cc pc (.ifCond .lt off) off tgt pc') (kt : (a < 0) → G x cs sl ws tgt lv st) (kf : (¬ a < 0) → G x cs sl ws pc' lv st) : G x cs sl ws pc lv (.int a :: st) := by
  obtain ⟨p, l', e, R, s, m, args, below, meth, c, D', nL', A, Q⟩ := x
  obtain ⟨rfl, rfl, rfl, rfl, hx, hb, hml, hown, hts, hK, hA⟩ := X
  intro H locs ls hP hD hS hl
  obtain ⟨hd, ht, rfl⟩ := d
  exact lv_if_lt hx hb hd ht (fun h => kt (id h) H locs ls hP hD hS hl) (fun h => kf (id h) H locs ls hP hD hS hl)
theorem G.z_ge (X : GOK x l D cI cW own cc nL rm) {a : Int32} {off : Int} {tgt : Nat} (d : DJ cc pc (.ifCond .ge off) off tgt pc') (kt : (¬ a < 0) → G x cs sl ws tgt lv st) (kf : (a < 0) → G x cs sl ws pc' lv st) : G x cs sl ws pc lv (.int a :: st) := by
  obtain ⟨p, l', e, R, s, m, args, below, meth, c, D', nL', A, Q⟩ := x
  obtain ⟨rfl, rfl, rfl, rfl, hx, hb, hml, hown, hts, hK, hA⟩ := X
  intro H locs ls hP hD hS hl
  obtain ⟨hd, ht, rfl⟩ := d
  exact lv_if_ge hx hb hd ht (fun h => kt (Int32.not_lt.mpr h) H locs ls hP hD hS hl) (fun h => kf (Int32.not_le.mp h) H locs ls hP hD hS hl)
theorem G.z_gt (X : GOK x l D cI cW own cc nL rm) {a : Int32} {off : Int} {tgt : Nat} (d : DJ cc pc (.ifCond .gt off) off tgt pc') (kt : (0 < a) → G x cs sl ws tgt lv st) (kf : (¬ 0 < a) → G x cs sl ws pc' lv st) : G x cs sl ws pc lv (.int a :: st) := by
  obtain ⟨p, l', e, R, s, m, args, below, meth, c, D', nL', A, Q⟩ := x
  obtain ⟨rfl, rfl, rfl, rfl, hx, hb, hml, hown, hts, hK, hA⟩ := X
  intro H locs ls hP hD hS hl
  obtain ⟨hd, ht, rfl⟩ := d
  exact lv_if_gt hx hb hd ht (fun h => kt (id h) H locs ls hP hD hS hl) (fun h => kf (id h) H locs ls hP hD hS hl)
theorem G.z_le (X : GOK x l D cI cW own cc nL rm) {a : Int32} {off : Int} {tgt : Nat} (d : DJ cc pc (.ifCond .le off) off tgt pc') (kt : (¬ 0 < a) → G x cs sl ws tgt lv st) (kf : (0 < a) → G x cs sl ws pc' lv st) : G x cs sl ws pc lv (.int a :: st) := by
  obtain ⟨p, l', e, R, s, m, args, below, meth, c, D', nL', A, Q⟩ := x
  obtain ⟨rfl, rfl, rfl, rfl, hx, hb, hml, hown, hts, hK, hA⟩ := X
  intro H locs ls hP hD hS hl
  obtain ⟨hd, ht, rfl⟩ := d
  exact lv_if_le hx hb hd ht (fun h => kt (Int32.not_lt.mpr h) H locs ls hP hD hS hl) (fun h => kf (Int32.not_le.mp h) H locs ls hP hD hS hl)
theorem G.go (X : GOK x l D cI cW own cc nL rm) {off : Int} {tgt : Nat} (d : DJ cc pc (.goto off) off tgt pc') (k : G x cs sl ws tgt lv st) : G x cs sl ws pc lv st := by
  obtain ⟨p, l', e, R, s, m, args, below, meth, c, D', nL', A, Q⟩ := x
  obtain ⟨rfl, rfl, rfl, rfl, hx, hb, hml, hown, hts, hK, hA⟩ := X
  intro H locs ls hP hD hS hl
  exact lv_goto hx hb d.1 d.2.1 (k H locs ls hP hD hS hl)
theorem G.n_eq (X : GOK x l D cI cW own cc nL rm) {a b : Nat} (ha : a < 2 ^ 31) (hb : b < 2 ^ 31) {off : Int} {tgt : Nat} (d : DJ cc pc (.if_icmp .eq off) off tgt pc') (kt : (a = b) → G x cs sl ws tgt lv st) (kf : (¬ a = b) → G x cs sl ws pc' lv st) : G x cs sl ws pc lv (.int (nI b) :: .int (nI a) :: st) := G.c_eq X d (fun h => kt ((nI_eq ha hb).mp h)) (fun h => kf (fun q => h ((nI_eq ha hb).mpr q)))
theorem G.n_ne (X : GOK x l D cI cW own cc nL rm) {a b : Nat} (ha : a < 2 ^ 31) (hb : b < 2 ^ 31) {off : Int} {tgt : Nat} (d : DJ cc pc (.if_icmp .ne off) off tgt pc') (kt : (¬ a = b) → G x cs sl ws tgt lv st) (kf : (a = b) → G x cs sl ws pc' lv st) : G x cs sl ws pc lv (.int (nI b) :: .int (nI a) :: st) := G.c_ne X d (fun h => kt (fun q => h ((nI_eq ha hb).mpr q))) (fun h => kf ((nI_eq ha hb).mp h))
theorem G.n_lt (X : GOK x l D cI cW own cc nL rm) {a b : Nat} (ha : a < 2 ^ 31) (hb : b < 2 ^ 31) {off : Int} {tgt : Nat} (d : DJ cc pc (.if_icmp .lt off) off tgt pc') (kt : (a < b) → G x cs sl ws tgt lv st) (kf : (¬ a < b) → G x cs sl ws pc' lv st) : G x cs sl ws pc lv (.int (nI b) :: .int (nI a) :: st) := G.c_lt X d (fun h => kt ((nI_ltI ha hb).mp h)) (fun h => kf (fun q => h ((nI_ltI ha hb).mpr q)))
theorem G.n_ge (X : GOK x l D cI cW own cc nL rm) {a b : Nat} (ha : a < 2 ^ 31) (hb : b < 2 ^ 31) {off : Int} {tgt : Nat} (d : DJ cc pc (.if_icmp .ge off) off tgt pc') (kt : (¬ a < b) → G x cs sl ws tgt lv st) (kf : (a < b) → G x cs sl ws pc' lv st) : G x cs sl ws pc lv (.int (nI b) :: .int (nI a) :: st) := G.c_ge X d (fun h => kt (fun q => h ((nI_ltI ha hb).mpr q))) (fun h => kf ((nI_ltI ha hb).mp h))
theorem G.n_gt (X : GOK x l D cI cW own cc nL rm) {a b : Nat} (ha : a < 2 ^ 31) (hb : b < 2 ^ 31) {off : Int} {tgt : Nat} (d : DJ cc pc (.if_icmp .gt off) off tgt pc') (kt : (b < a) → G x cs sl ws tgt lv st) (kf : (¬ b < a) → G x cs sl ws pc' lv st) : G x cs sl ws pc lv (.int (nI b) :: .int (nI a) :: st) := G.c_gt X d (fun h => kt ((nI_ltI hb ha).mp h)) (fun h => kf (fun q => h ((nI_ltI hb ha).mpr q)))
theorem G.n_le (X : GOK x l D cI cW own cc nL rm) {a b : Nat} (ha : a < 2 ^ 31) (hb : b < 2 ^ 31) {off : Int} {tgt : Nat} (d : DJ cc pc (.if_icmp .le off) off tgt pc') (kt : (¬ b < a) → G x cs sl ws tgt lv st) (kf : (b < a) → G x cs sl ws pc' lv st) : G x cs sl ws pc lv (.int (nI b) :: .int (nI a) :: st) := G.c_le X d (fun h => kt (fun q => h ((nI_ltI hb ha).mpr q))) (fun h => kf ((nI_ltI hb ha).mp h))
theorem G.cg {ws' : List va_W} {st' : List Value} (hw : ws = ws') (hl : lv = lv') (hs : st = st') (k : G x cs sl ws' pc lv' st') : G x cs sl ws pc lv st := by
  rw [hw, hl, hs]; exact k
theorem G.lvsub (ks : List Nat) (h : lv_pick lv ks = lv') (k : G x cs sl ws pc lv' st) : G x cs sl ws pc lv st := by
  obtain ⟨p, l', e, R, s, m, args, below, meth, c, D', nL', A, Q⟩ := x
  intro H locs ls hP hD hS hl
  exact k H locs ls hP hD hS (lv_sub hl ks h)
theorem G.widen {k n : Nat} (h1 : cs ≤ k) (h2 : sl ≤ n) (kk : G x k n ws pc lv st) : G x cs sl ws pc lv st := by
  obtain ⟨p, l', e, R, s, m, args, below, meth, c, D', nL', A, Q⟩ := x
  intro H locs ls hP hD hS hl
  exact W.widen h1 h2 (kk H locs ls hP hD hS hl)
theorem arr_ext {cA : ClassId} {n : Nat} {f g : Nat → Int32} (h : ∀ j, j < n → f j = g j) : vp_cell cA (n, .inl f) = vp_cell cA (n, .inl g) := by
  rw [vp_cell_i, vp_cell_i]
  unfold arrV
  congr 1
  apply congrArg
  funext j
  exact congrArg Value.int (h j.val j.isLt)
/-- what an array holds past its end says nothing -/
theorem G.canon (i0 q0 : Nat) {blk blk' : va_W} (hbk : ws[i0]? = some blk) {a : Nat} {cA : ClassId} {n : Nat} {f g : Nat → Int32} (he : blk[q0]? = some (a, .inl (cA, n, .inl f))) (h : ∀ j, j < n → f j = g j) (hw0 : blk.set q0 (a, .inl (cA, n, .inl g)) = blk') {ws' : List va_W} (hw : ws.set i0 blk' = ws') (k : G x cs sl ws' pc lv st) : G x cs sl ws pc lv st := by
  obtain ⟨p, l', e, R, s, m, args, below, meth, c, D', nL', A, Q⟩ := x
  subst hw; subst hw0
  obtain ⟨k9, hk9, hs9⟩ := flat_at hbk he
  intro H locs ls hP hD hS hl
  refine k H locs ls ?_ ?_ hS hl
  · rw [hs9]
    refine hP.set hD hk9 ?_ (fun _ _ => rfl)
    show H[a]? = some (vp_cell cA (n, .inl g))
    rw [← arr_ext h]
    exact hP k9 _ hk9
  · rw [hs9]; exact hD.set hk9
theorem G.get (X : GOK x l D cI cW own cc nL rm) {idx ci N k0 : Nat} {C : String} {T : u_T} (F : FD own idx ci C T N k0) (d : DC cc pc (.getfield idx) 3 pc') (i0 q0 : Nat) {blk : va_W} (hbk : ws[i0]? = some blk) {a : Nat} {fs : List Value} {v : Value} (he : blk[q0]? = some (a, .inr (ci, fs))) (hv : fs[k0]? = some v) (k : G x cs sl ws pc' lv (v :: st)) : G x cs sl ws pc lv (.ref a :: st) := by
  obtain ⟨p, l', e, R, s, m, args, below, meth, c, D', nL', A, Q⟩ := x
  obtain ⟨rfl, rfl, rfl, rfl, hx, hb, hml, hown, hts, hK, hA⟩ := X
  intro H locs ls hP hD hS hl
  obtain ⟨hd, rfl⟩ := d
  obtain ⟨k9, hk9, hs9⟩ := flat_at hbk he
  exact va_get hx hb hts F.2.2.2 hown hK.1 hP k9 hk9 F.1 k0 F.2.1 (hts _ F.2.2.1) (fun _ h => h) hv hd (k H locs ls hP hD hS hl)
theorem G.put (X : GOK x l D cI cW own cc nL rm) {idx ci N k0 : Nat} {C : String} {T : u_T} (F : FD own idx ci C T N k0) (E : FE C T N) (d : DC cc pc (.putfield idx) 3 pc') (hfin : (T k0).2.2.2 = false) {ty : FieldType} {v : Value} (hd9 : parseFieldDescriptor (T k0).2.2.1 = some ty) (hn : narrow ty v = v) (hfit : fits ty v = true) (i0 q0 : Nat) {blk blk' : va_W} (hbk : ws[i0]? = some blk) {a : Nat} {fs : List Value} (he : blk[q0]? = some (a, .inr (ci, fs))) (hl9 : k0 < fs.length) (hw0 : blk.set q0 (a, .inr (ci, fs.set k0 v)) = blk') {ws' : List va_W} (hw : ws.set i0 blk' = ws') (k : G x cs sl ws' pc' lv st) : G x cs sl ws pc lv (v :: .ref a :: st) := by
  obtain ⟨p, l', e, R, s, m, args, below, meth, c, D', nL', A, Q⟩ := x
  obtain ⟨rfl, rfl, rfl, rfl, hx, hb, hml, hown, hts, hK, hA⟩ := X
  intro H locs ls hP hD hS hl
  obtain ⟨hd, rfl⟩ := d
  obtain ⟨ty0, e1, e2⟩ := E
  subst hw; subst hw0
  obtain ⟨k9, hk9, hs9⟩ := flat_at hbk he
  exact va_put hx hb hts F.2.2.2 ty0 e1 e2 hown hK.1 hP hD hS k9 hk9 F.1 k0 F.2.1 (hts _ F.2.2.1) (fun _ h => h) hfin hd9 hn hfit hl9 hd (fun H1 locs1 hP hD hS => k H1 locs1 ls (by rw [hs9]; exact hP) (by rw [hs9]; exact hD) hS hl)
theorem G.putF (X : GOK x l D cI cW own cc nL rm) (hnm : GNM x "<init>") {idx ci N k0 : Nat} {C : String} {T : u_T} (F : FD own idx ci C T N k0) (E : FE C T N) (d : DC cc pc (.putfield idx) 3 pc') (hfin : (T k0).2.2.2 = true) (hdecl : (T k0).1 = own) {ty : FieldType} {v : Value} (hd9 : parseFieldDescriptor (T k0).2.2.1 = some ty) (hn : narrow ty v = v) (hfit : fits ty v = true) (i0 q0 : Nat) {blk blk' : va_W} (hbk : ws[i0]? = some blk) {a : Nat} {fs : List Value} (he : blk[q0]? = some (a, .inr (ci, fs))) (hl9 : k0 < fs.length) (hw0 : blk.set q0 (a, .inr (ci, fs.set k0 v)) = blk') {ws' : List va_W} (hw : ws.set i0 blk' = ws') (k : G x cs sl ws' pc' lv st) : G x cs sl ws pc lv (v :: .ref a :: st) := by
  obtain ⟨p, l', e, R, s, m, args, below, meth, c, D', nL', A, Q⟩ := x
  obtain ⟨rfl, rfl, rfl, rfl, hx, hb, hml, hown, hts, hK, hA⟩ := X
  intro H locs ls hP hD hS hl
  obtain ⟨hd, rfl⟩ := d
  obtain ⟨ty0, e1, e2⟩ := E
  subst hw; subst hw0
  obtain ⟨k9, hk9, hs9⟩ := flat_at hbk he
  exact va_putF hx hb hts F.2.2.2 ty0 e1 e2 hown hK.1 hP hD hS k9 hk9 F.1 k0 F.2.1 (hts _ F.2.2.1) (fun _ h => h) hfin hnm hdecl hd9 hn hfit hl9 hd (fun H1 locs1 hP hD hS => k H1 locs1 ls (by rw [hs9]; exact hP) (by rw [hs9]; exact hD) hS hl)
theorem G.puti (X : GOK x l D cI cW own cc nL rm) {idx ci N k0 : Nat} {C : String} {T : u_T} (F : FD own idx ci C T N k0) (E : FE C T N) (d : DC cc pc (.putfield idx) 3 pc') (hfin : (T k0).2.2.2 = false) {v : Int32} (hd9 : (T k0).2.2.1 = "I") (i0 q0 : Nat) {blk blk' : va_W} (hbk : ws[i0]? = some blk) {a : Nat} {fs : List Value} (he : blk[q0]? = some (a, .inr (ci, fs))) (hl9 : k0 < fs.length) (hw0 : blk.set q0 (a, .inr (ci, fs.set k0 (.int v))) = blk') {ws' : List va_W} (hw : ws.set i0 blk' = ws') (k : G x cs sl ws' pc' lv st) : G x cs sl ws pc lv (.int v :: .ref a :: st) := G.put X F E d hfin (ty := .int) (by rw [hd9]; decide +kernel) rfl rfl i0 q0 hbk he hl9 hw0 hw k
theorem G.ild (X : GOK x l D cI cW own cc nL rm) {a n : Nat} {f : Nat → Int32} {i : Int32} (d : DC cc pc .iaload 1 pc') (i0 q0 : Nat) {blk : va_W} (hbk : ws[i0]? = some blk) (he : blk[q0]? = some (a, .inl (cI, n, .inl f))) (hin : vp_in i n) (k : G x cs sl ws pc' lv (.int (f i.toNatClampNeg) :: st)) : G x cs sl ws pc lv (.int i :: .ref a :: st) := by
  obtain ⟨p, l', e, R, s, m, args, below, meth, c, D', nL', A, Q⟩ := x
  obtain ⟨rfl, rfl, rfl, rfl, hx, hb, hml, hown, hts, hK, hA⟩ := X
  intro H locs ls hP hD hS hl
  obtain ⟨hd, rfl⟩ := d
  obtain ⟨k9, hk9, hs9⟩ := flat_at hbk he
  exact va_iald hx hb hK.1 hP k9 0 hk9 rfl hin hd (k H locs ls hP hD hS hl)
theorem G.nld (X : GOK x l D cI cW own cc nL rm) {a n i : Nat} {f : Nat → Int32} (d : DC cc pc .iaload 1 pc') (i0 q0 : Nat) {blk : va_W} (hbk : ws[i0]? = some blk) (he : blk[q0]? = some (a, .inl (cI, n, .inl f))) (hin : i < n) (hn : n < 2 ^ 31) (k : G x cs sl ws pc' lv (.int (f i) :: st)) : G x cs sl ws pc lv (.int (nI i) :: .ref a :: st) := G.ild X d i0 q0 hbk he (vp_in_nI hin hn) (by rw [nI_clamp (Nat.lt_trans hin hn)]; exact k)
theorem G.ist (X : GOK x l D cI cW own cc nL rm) {a n : Nat} {f : Nat → Int32} {i v : Int32} (d : DC cc pc .iastore 1 pc') (i0 q0 : Nat) {blk : va_W} (hbk : ws[i0]? = some blk) (he : blk[q0]? = some (a, .inl (cI, n, .inl f))) (hin : vp_in i n) {blk' : va_W} (hw0 : blk.set q0 (a, .inl (cI, n, .inl (upd f i.toNatClampNeg v))) = blk') {ws' : List va_W} (hw : ws.set i0 blk' = ws') (k : G x cs sl ws' pc' lv st) : G x cs sl ws pc lv (.int v :: .int i :: .ref a :: st) := by
  obtain ⟨p, l', e, R, s, m, args, below, meth, c, D', nL', A, Q⟩ := x
  obtain ⟨rfl, rfl, rfl, rfl, hx, hb, hml, hown, hts, hK, hA⟩ := X
  intro H locs ls hP hD hS hl
  obtain ⟨hd, rfl⟩ := d
  subst hw; subst hw0
  obtain ⟨k9, hk9, hs9⟩ := flat_at hbk he
  exact va_iast hx hb hK.1 hP hD hS k9 0 hk9 rfl hin hd (fun H1 locs1 hP hD hS => k H1 locs1 ls (by rw [hs9]; exact hP) (by rw [hs9]; exact hD) hS hl)
theorem G.nst (X : GOK x l D cI cW own cc nL rm) {a n i : Nat} {f : Nat → Int32} {v : Int32} (d : DC cc pc .iastore 1 pc') (i0 q0 : Nat) {blk : va_W} (hbk : ws[i0]? = some blk) (he : blk[q0]? = some (a, .inl (cI, n, .inl f))) (hin : i < n) (hn : n < 2 ^ 31) {blk' : va_W} (hw0 : blk.set q0 (a, .inl (cI, n, .inl (upd f i v))) = blk') {ws' : List va_W} (hw : ws.set i0 blk' = ws') (k : G x cs sl ws' pc' lv st) : G x cs sl ws pc lv (.int v :: .int (nI i) :: .ref a :: st) := G.ist X d i0 q0 hbk he (vp_in_nI hin hn) (by rw [nI_clamp (Nat.lt_trans hin hn)]; exact hw0) hw k
theorem G.alen (X : GOK x l D cI cW own cc nL rm) {a n : Nat} {f : Nat → Int32} (d : DC cc pc .arraylength 1 pc') (i0 q0 : Nat) {blk : va_W} (hbk : ws[i0]? = some blk) (he : blk[q0]? = some (a, .inl (cI, n, .inl f))) (k : G x cs sl ws pc' lv (.int (nI n) :: st)) : G x cs sl ws pc lv (.ref a :: st) := by
  obtain ⟨p, l', e, R, s, m, args, below, meth, c, D', nL', A, Q⟩ := x
  obtain ⟨rfl, rfl, rfl, rfl, hx, hb, hml, hown, hts, hK, hA⟩ := X
  intro H locs ls hP hD hS hl
  obtain ⟨hd, rfl⟩ := d
  obtain ⟨k9, hk9, hs9⟩ := flat_at hbk he
  exact va_alen hx hb hK.1 hP k9 0 hk9 rfl rfl hd (k H locs ls hP hD hS hl)
theorem G.iret (X : GOK x l D cI cW own cc nL rm) {ws0 : List va_W} {post : Option Value → List va_W → Prop} (Rr : GRT x (some .int) ws0 post cs sl) {v : Int32} (d : DC cc pc .ireturn 1 pc') (h : post (some (.int v)) ws) : G x cs sl ws pc lv [.int v] := by
  obtain ⟨p, l', e, R, s, m, args, below, meth, c, D', nL', A, Q⟩ := x
  obtain ⟨rfl, rfl, rfl, rfl, hx, hb, hml, hown, hts, hK, hA⟩ := X
  obtain ⟨hr, hlk, rfl, rfl⟩ := Rr
  intro H locs ls hP hD hS hl
  exact W.iret hx hb hr (fun t ht hW => ⟨⟨_, ws, rfl, h, by rw [ht]; exact hP, hD⟩, hS.F ht⟩) hS.2.2 d.1 hlk
theorem G.zret (X : GOK x l D cI cW own cc nL rm) {ws0 : List va_W} {post : Option Value → List va_W → Prop} (Rr : GRT x (some .boolean) ws0 post cs sl) {v : Int32} (hv : v = 0 ∨ v = 1) (d : DC cc pc .ireturn 1 pc') (h : post (some (.int v)) ws) : G x cs sl ws pc lv [.int v] := by
  obtain ⟨p, l', e, R, s, m, args, below, meth, c, D', nL', A, Q⟩ := x
  obtain ⟨rfl, rfl, rfl, rfl, hx, hb, hml, hown, hts, hK, hA⟩ := X
  obtain ⟨hr, hlk, rfl, rfl⟩ := Rr
  intro H locs ls hP hD hS hl
  exact W.zret hx hb hr (by rcases hv with rfl | rfl <;> rfl) (fun t ht hW => ⟨⟨_, ws, rfl, h, by rw [ht]; exact hP, hD⟩, hS.F ht⟩) hS.2.2 d.1 hlk
theorem G.vret (X : GOK x l D cI cW own cc nL rm) {ws0 : List va_W} {post : Option Value → List va_W → Prop} (Rr : GRT x none ws0 post cs sl)  (d : DC cc pc .return_ 1 pc') (h : post none ws) : G x cs sl ws pc lv [] := by
  obtain ⟨p, l', e, R, s, m, args, below, meth, c, D', nL', A, Q⟩ := x
  obtain ⟨rfl, rfl, rfl, rfl, hx, hb, hml, hown, hts, hK, hA⟩ := X
  obtain ⟨hr, hlk, rfl, rfl⟩ := Rr
  intro H locs ls hP hD hS hl
  exact W.vret hx hb hr (fun t ht hW => ⟨⟨_, ws, rfl, h, by rw [ht]; exact hP, hD⟩, hS.F ht⟩) hS.2.2 d.1 hlk
theorem G.lret (X : GOK x l D cI cW own cc nL rm) {ws0 : List va_W} {post : Option Value → List va_W → Prop} (Rr : GRT x (some .long) ws0 post cs sl) {v : Int64} (d : DC cc pc .lreturn 1 pc') (h : post (some (.long v)) ws) : G x cs sl ws pc lv [.long v] := by
  obtain ⟨p, l', e, R, s, m, args, below, meth, c, D', nL', A, Q⟩ := x
  obtain ⟨rfl, rfl, rfl, rfl, hx, hb, hml, hown, hts, hK, hA⟩ := X
  obtain ⟨hr, hlk, rfl, rfl⟩ := Rr
  intro H locs ls hP hD hS hl
  exact W.lret hx hb hr (fun t ht hW => ⟨⟨_, ws, rfl, h, by rw [ht]; exact hP, hD⟩, hS.F ht⟩) hS.2.2 d.1 hlk
theorem G.aret (X : GOK x l D cI cW own cc nL rm) {ws0 : List va_W} {post : Option Value → List va_W → Prop} {C9 : String} (Rr : GRT x (some (.object C9)) ws0 post cs sl) {v : Nat} (d : DC cc pc .areturn 1 pc') (h : post (some (.ref v)) ws) : G x cs sl ws pc lv [.ref v] := by
  obtain ⟨p, l', e, R, s, m, args, below, meth, c, D', nL', A, Q⟩ := x
  obtain ⟨rfl, rfl, rfl, rfl, hx, hb, hml, hown, hts, hK, hA⟩ := X
  obtain ⟨hr, hlk, rfl, rfl⟩ := Rr
  intro H locs ls hP hD hS hl
  exact W.aret hx hb hr (Or.inl ⟨_, rfl⟩) (Or.inr ⟨_, rfl⟩) (fun t ht hW => ⟨⟨_, ws, rfl, h, by rw [ht]; exact hP, hD⟩, hS.F ht⟩) hS.2.2 d.1 hlk
theorem G.b_eq (X : GOK x l D cI cW own cc nL rm) {q : Bool} {off : Int} {tgt : Nat} (d : DJ cc pc (.ifCond .eq off) off tgt pc') (kt : q = false → G x cs sl ws tgt lv st) (kf : q = true → G x cs sl ws pc' lv st) : G x cs sl ws pc lv (.int (b2i q) :: st) := by
  cases q
  · exact G.z_eq X d (fun _ => kt rfl) (fun h => absurd rfl h)
  · exact G.z_eq X d (fun h => absurd h (by decide)) (fun _ => kf rfl)
theorem G.b_ne (X : GOK x l D cI cW own cc nL rm) {q : Bool} {off : Int} {tgt : Nat} (d : DJ cc pc (.ifCond .ne off) off tgt pc') (kt : q = true → G x cs sl ws tgt lv st) (kf : q = false → G x cs sl ws pc' lv st) : G x cs sl ws pc lv (.int (b2i q) :: st) := by
  cases q
  · exact G.z_ne X d (fun h => absurd rfl h) (fun _ => kf rfl)
  · exact G.z_ne X d (fun _ => kt rfl) (fun h => absurd h (by decide))
theorem G.nadd (X : GOK x l D cI cW own cc nL rm) {a b : Nat} (d : DC cc pc .iadd 1 pc') (k : G x cs sl ws pc' lv (.int (nI (a + b)) :: st)) : G x cs sl ws pc lv (.int (nI b) :: .int (nI a) :: st) := G.iadd X d (by rw [nI_add]; exact k)
theorem G.nsub1 (X : GOK x l D cI cW own cc nL rm) {a : Nat} (d : DC cc pc .isub 1 pc') (h : 0 < a) (k : G x cs sl ws pc' lv (.int (nI (a - 1)) :: st)) : G x cs sl ws pc lv (.int (nI 1) :: .int (nI a) :: st) := G.isub X d (by
  obtain ⟨a, rfl⟩ : ∃ b, a = b + 1 := ⟨a - 1, by omega⟩
  rw [show nI 1 = 1 from rfl, nI_pred]; exact k)
theorem G.bret (X : GOK x l D cI cW own cc nL rm) {ws0 : List va_W} {post : Option Value → List va_W → Prop} (Rr : GRT x (some .boolean) ws0 post cs sl) {q : Bool} (d : DC cc pc .ireturn 1 pc') (h : post (some (.int (b2i q))) ws) : G x cs sl ws pc lv [.int (b2i q)] := G.zret X Rr (by cases q; exact Or.inl rfl; exact Or.inr rfl) d h
theorem lt_nI_le {p : Int32} {n m : Nat} (h : p < nI n) (hnm : n ≤ m) (hm : m < 2 ^ 31) : p < nI m := by
  have h1 := Int32.lt_iff_toInt_lt.mp h
  rw [nI_toInt (by omega)] at h1
  exact Int32.lt_iff_toInt_lt.mpr (by rw [nI_toInt hm]; omega)
theorem G.cpy (X : GOK x l D cI cW own cc nL rm) {idx : Nat} (hL : Cond.methodLink own idx arraycopyName ∈ tT) (d : DC cc pc (.invokestatic idx) 3 pc') (n : Nat) {a0 a1 : Nat} {f g : Nat → Int32} (i0 q0 i1 q1 : Nat) {blk0 blk blk' : va_W} (hb0 : ws[i0]? = some blk0) (he0 : blk0[q0]? = some (a0, .inl (cI, n, .inl f))) (hbk : ws[i1]? = some blk) (he1 : blk[q1]? = some (a1, .inl (cI, n, .inl g))) (hfr : 1 ≤ rm.frames) (hlo : (st.map fun v => v.category).sum + (nativeFrameWords "java/lang/System" "arraycopy" 5 + 11) ≤ rm.locals) (hn : n < 2 ^ 31) (hw0 : blk.set q1 (a1, .inl (cI, n, .inl f)) = blk') {ws' : List va_W} (hw : ws.set i1 blk' = ws') (k : G x cs sl ws' pc' lv st) : G x cs sl ws pc lv (.int (nI n) :: .int 0 :: .ref a1 :: .int 0 :: .ref a0 :: st) := by
  obtain ⟨p, l', e, R, s, m, args, below, meth, c, D', nL', A, Q⟩ := x
  obtain ⟨rfl, rfl, rfl, rfl, hx, hb, hml, hown, hts, hK, hA⟩ := X
  obtain ⟨hd, rfl⟩ := d
  subst hw; subst hw0
  obtain ⟨k8, hk8, -⟩ := flat_at hb0 he0
  obtain ⟨k9, hk9, hs9⟩ := flat_at hbk he1
  intro H locs ls hP hD hS hl
  have hc : (nI n).toNatClampNeg = n := nI_clamp hn
  have h0 : (0 : Int32).toNatClampNeg = 0 := by decide
  refine va_copyi hx hb (hml.trans hl.1.symm) hown (hts _ hL) (hts _ ac_nat) (hts _ ac_stat) (hts _ zJ10) hK.1 hP hD hS k8 k9 0 0 hk8 hk9 rfl rfl rfl (by decide) (by decide) (nI_pos hn) (by rw [hc, h0]; omega) (by rw [hc, h0]; omega) (fun i _ => rfl) hfr hlo hd ?_
  intro H1 locs1 hP1 hD1 hS1
  rw [h0, hc] at hP1 hD1
  have e1 : vp_cell cI (n, .inl (va_cpy f g 0 0 n)) = vp_cell cI (n, .inl f) := arr_ext (fun j hj => by simp [va_cpy, hj])
  have hlen : k9 < ws.flatten.length := (List.getElem?_eq_some_iff.mp hk9).1
  have key : va_P D' cls8 (ws.flatten.set k9 (a1, .inl (cI, n, .inl f))) H1 := by
    intro k7 q7 hq7
    by_cases hk7 : k7 = k9
    · subst hk7
      rw [List.getElem?_set_self hlen] at hq7
      cases hq7
      have h9 := hP1 k7 _ (List.getElem?_set_self hlen)
      show H1[a1]? = some (vp_cell cI (n, .inl f))
      rw [← e1]
      exact h9
    · rw [List.getElem?_set_ne (Ne.symm hk7)] at hq7
      exact hP1 k7 q7 (by rw [List.getElem?_set_ne (Ne.symm hk7)]; exact hq7)
  exact k H1 locs1 ls (by rw [hs9]; exact key) (by rw [hs9]; exact hD.set hk9) hS1 hl
theorem G.rld (X : GOK x l D cI cW own cc nL rm) {a n i b : Nat} {f : Nat → Option Nat} (d : DC cc pc .aaload 1 pc') (i0 q0 : Nat) {blk : va_W} (hbk : ws[i0]? = some blk) (he : blk[q0]? = some (a, .inl (cW, n, .inr (.inr (.inr (.inr f)))))) (hin : i < n) (hn : n < 2 ^ 31) (hf : f i = some b) (k : G x cs sl ws pc' lv (.ref b :: st)) : G x cs sl ws pc lv (.int (nI i) :: .ref a :: st) := by
  obtain ⟨p, l', e, R, s, m, args, below, meth, c, D', nL', A, Q⟩ := x
  obtain ⟨rfl, rfl, rfl, rfl, hx, hb, hml, hown, hts, hK, hA⟩ := X
  obtain ⟨hd, rfl⟩ := d
  intro H locs ls hP hD hS hl
  obtain ⟨k9, hk9, hs9⟩ := flat_at hbk he
  refine va_aldq hx hb hK.1 hP k9 1 hk9 rfl (vp_in_nI hin hn) hd ?_
  rw [nI_clamp (Nat.lt_trans hin hn), hf]
  exact k H locs ls hP hD hS hl
theorem G.mmax (X : GOK x l D cI cW own cc nL rm) {idx : Nat} {a b : Int32} (hL : Cond.methodLink own idx yJ9_max_7cf53 ∈ tT) (d : DC cc pc (.invokestatic idx) 3 pc') (hfr : 1 ≤ rm.frames) (hlo : (st.map fun v => v.category).sum + 13 ≤ rm.locals) (hcs : cs ≤ rm.cells ∧ sl ≤ rm.slots) (k : G x cs sl ws pc' lv (.int (if a < b then b else a) :: st)) : G x cs sl ws pc lv (.int b :: .int a :: st) := by
  obtain ⟨p, l', e, R, s, m, args, below, meth, c, D', nL', A, Q⟩ := x
  obtain ⟨rfl, rfl, rfl, rfl, hx, hb, hml, hown, hts, hK, hA⟩ := X
  obtain ⟨hd, rfl⟩ := d
  intro H locs ls hP hD hS hl
  exact va_mmax hx hb (hml.trans hl.1.symm) hown (hts _ hL) (hts _ kJ9_max_7cf53.1.1) (hts _ kJ9_max_7cf53.1.2.1) (hts _ kJ9_max_7cf53.1.2.2) hfr hlo hcs.1 hcs.2 hd (k H locs ls hP hD hS hl)
theorem nI_dec {k : Nat} (h : 0 < k) : nI k + Int32.ofInt (-1) = nI (k - 1) := by
  obtain ⟨j, rfl⟩ : ∃ j, k = j + 1 := ⟨k - 1, by omega⟩
  rw [Nat.add_sub_cancel, ← nI_pred j, Int32.sub_eq_add_neg]
  congr 1
theorem nI_inc (k : Nat) : nI k + Int32.ofInt 1 = nI (k + 1) := nI_1 k
theorem loop_dn (n : Nat) (P : Nat → Prop) (hn : P n) (hs : ∀ k, k < n → P (k + 1) → P k) : ∀ k, k ≤ n → P k := by
  have h : ∀ d k, k + d = n → P k := by
    intro d
    induction d with
    | zero => intro k hk; rw [Nat.add_zero] at hk; rw [hk]; exact hn
    | succ d ih => intro k hk; exact hs k (by omega) (ih (k + 1) (by omega))
  exact fun k hk => h (n - k) k (by omega)
theorem G.tsi (X : GOK x l D cI cW own cc nL rm) {dflt lo hi : Int} {offs : Array Int} {len : Nat} {a : Int32} (d : DC cc pc (.tableswitch dflt lo hi offs) len pc') (v : Int32) (hv : a = v) (off : Int) (tgt : Nat) (h : ¬ v.toInt < lo ∧ ¬ hi < v.toInt ∧ offs[(v.toInt - lo).toNat]? = some off ∧ (pc : Int) + off = (tgt : Int)) (k : G x cs sl ws tgt lv st) : G x cs sl ws pc lv (.int a :: st) := by
  obtain ⟨p, l', e, R, s, m, args, below, meth, c, D', nL', A, Q⟩ := x
  obtain ⟨rfl, rfl, rfl, rfl, hx, hb, hml, hown, hts, hK, hA⟩ := X
  subst hv
  intro H locs ls hP hD hS hl
  exact lv_tableIn hx hb d.1 h.1 h.2.1 h.2.2.1 h.2.2.2 (k H locs ls hP hD hS hl)
theorem G.tsd (X : GOK x l D cI cW own cc nL rm) {dflt lo hi : Int} {offs : Array Int} {len : Nat} {a : Int32} (d : DC cc pc (.tableswitch dflt lo hi offs) len pc') (vs : List Int32) (hn : ∀ v ∈ vs, ¬ a = v) (tgt : Nat) (h : (∀ i : Nat, i < (hi - lo + 1).toNat → (lo + i) ∈ vs.map Int32.toInt ∨ offs[i]? = some dflt) ∧ (pc : Int) + dflt = (tgt : Int)) (k : G x cs sl ws tgt lv st) : G x cs sl ws pc lv (.int a :: st) := by
  obtain ⟨p, l', e, R, s, m, args, below, meth, c, D', nL', A, Q⟩ := x
  obtain ⟨rfl, rfl, rfl, rfl, hx, hb, hml, hown, hts, hK, hA⟩ := X
  intro H locs ls hP hD hS hl
  by_cases h1 : a.toInt < lo
  · exact lv_tableOut hx hb d.1 (Or.inl h1) h.2 (k H locs ls hP hD hS hl)
  by_cases h2 : hi < a.toInt
  · exact lv_tableOut hx hb d.1 (Or.inr h2) h.2 (k H locs ls hP hD hS hl)
  refine lv_tableIn hx hb d.1 h1 h2 ?_ h.2 (k H locs ls hP hD hS hl)
  rcases h.1 (a.toInt - lo).toNat (by omega) with h3 | h3
  · exfalso
    obtain ⟨v, hv, he⟩ := List.mem_map.mp h3
    exact hn v hv (Int32.toInt_inj.mp (by rw [he]; omega))
  · exact h3
theorem G.lk (X : GOK x l D cI cW own cc nL rm) {dflt : Int} {ps : Array (Int × Int)} {len : Nat} {a : Int32} (d : DC cc pc (.lookupswitch dflt ps) len pc') (off : Int) (tgt : Nat) (ho : Op.lookupswitch.offset ps.toList dflt a.toInt = off) (h : (ps.toList.zip (ps.toList.drop 1)).all (fun (a, next) => a.1 < next.1) = true ∧ (pc : Int) + off = (tgt : Int)) (k : G x cs sl ws tgt lv st) : G x cs sl ws pc lv (.int a :: st) := by
  obtain ⟨p, l', e, R, s, m, args, below, meth, c, D', nL', A, Q⟩ := x
  obtain ⟨rfl, rfl, rfl, rfl, hx, hb, hml, hown, hts, hK, hA⟩ := X
  intro H locs ls hP hD hS hl
  exact lv_lookup hx hb d.1 h.1 ho h.2 (k H locs ls hP hD hS hl)
theorem pi_mk {r v : Int32} {w w' : List va_W} (h : v = r) (hw : w = w') : PI r w' (some (.int v)) w := ⟨by rw [h], hw⟩
theorem pj_mk {r v : Int64} {w w' : List va_W} (h : v = r) (hw : w = w') : PJ r w' (some (.long v)) w := ⟨by rw [h], hw⟩
theorem pv_mk {w w' : List va_W} (hw : w = w') : PV w' none w := ⟨rfl, hw⟩
theorem upd_id (f : Nat → Int32) (k : Nat) : upd f k (f k) = f := by
  funext j
  unfold upd
  by_cases h : j = k
  · rw [if_pos h, h]
  · rw [if_neg h]
end
theorem CT.of {l : Launch} {D : va_G} {cI cW : ClassId} {y : MethodName} {cc : ByteArray} {nL : Nat} {ret : Option FieldType} {rm : Room} {av : List Value} {ws0 : List va_W} {post : Option Value → List va_W → Prop} (own : String) (hown : y.cls = own) (hy : plainName y.cls = true) (hav : (lg_sl av).length ≤ nL) (lv0 : List (Nat × Value)) (hlv : lv_args 0 av = lv0)
    (body : ∀ x : GC, GOK x l D cI cW own cc nL rm → GRT x ret ws0 post rm.cells rm.slots → GNM x y.name → G x 0 0 ws0 0 lv0 []) : CT l D cI cW y cc nL ret rm av ws0 post := by
  subst hown
  intro sz
  refine Met.ofW (cc := cc) (maxL := nL) (ret := ret) hy rfl ?_
  intro p e s m args below meth c s₁ B hml hv
  obtain ⟨rfl, hsz, hP, hK, hD0⟩ := hv
  subst hsz
  have hts := atoms_spec (ws := .code y cc nL ret :: tT) B.pre
  have key := body (p, l, e, rm, s, m, av.toArray, below, meth, c, D, nL, va_A ws0.flatten s.heap.size, MQ below (QX D ws0 post s.heap.size) av.toArray s rm.cells rm.slots (va_A ws0.flatten s.heap.size)) ⟨rfl, rfl, rfl, rfl, B.exec, B.bytes, hml, findClass_of_methodNamed B.named, fun w h => hts w (List.mem_cons_of_mem _ h), hK, fun q h => Or.inr h⟩ ⟨B.returns, B.notSynchronized, rfl, rfl⟩ (name_of_methodNamed B.named B.method).1
  rw [lg_entry_eq]
  have hl := lv_entry av (n := nL) hav
  rw [hlv] at hl
  exact key s.heap [] _ hP (hD0.self) va_S.rf hl
