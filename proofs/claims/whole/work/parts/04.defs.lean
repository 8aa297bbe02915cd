def DC (cc : ByteArray) (pc : Nat) (ins : Instr) (n pc' : Nat) : Prop := decode cc pc = .ok (ins, n) ∧ pc + n = pc'
def DJ (cc : ByteArray) (pc : Nat) (ins : Instr) (off : Int) (tgt pc' : Nat) : Prop := decode cc pc = .ok (ins, 3) ∧ (pc : Int) + off = (tgt : Int) ∧ pc + 3 = pc'
def DIl (cc : ByteArray) (pc i pc' : Nat) : Prop := (∃ n : Fin 4, decode cc pc = .ok (.iload_n n, 1) ∧ (n : Nat) = i ∧ pc + 1 = pc') ∨ (decode cc pc = .ok (.iload i, 2) ∧ pc + 2 = pc')
def DAl (cc : ByteArray) (pc i pc' : Nat) : Prop := (∃ n : Fin 4, decode cc pc = .ok (.aload_n n, 1) ∧ (n : Nat) = i ∧ pc + 1 = pc') ∨ (decode cc pc = .ok (.aload i, 2) ∧ pc + 2 = pc')
def DLl (cc : ByteArray) (pc i pc' : Nat) : Prop := (∃ n : Fin 4, decode cc pc = .ok (.lload_n n, 1) ∧ (n : Nat) = i ∧ pc + 1 = pc') ∨ (decode cc pc = .ok (.lload i, 2) ∧ pc + 2 = pc')
def DIs (cc : ByteArray) (pc i pc' : Nat) : Prop := (∃ n : Fin 4, decode cc pc = .ok (.istore_n n, 1) ∧ (n : Nat) = i ∧ pc + 1 = pc') ∨ (decode cc pc = .ok (.istore i, 2) ∧ pc + 2 = pc')
def DAs (cc : ByteArray) (pc i pc' : Nat) : Prop := (∃ n : Fin 4, decode cc pc = .ok (.astore_n n, 1) ∧ (n : Nat) = i ∧ pc + 1 = pc') ∨ (decode cc pc = .ok (.astore i, 2) ∧ pc + 2 = pc')
def DLs (cc : ByteArray) (pc i pc' : Nat) : Prop := (∃ n : Fin 4, decode cc pc = .ok (.lstore_n n, 1) ∧ (n : Nat) = i ∧ pc + 1 = pc') ∨ (decode cc pc = .ok (.lstore i, 2) ∧ pc + 2 = pc')
def DP (cc : ByteArray) (pc : Nat) (v : Int32) (pc' : Nat) : Prop := (∃ n : Int, decode cc pc = .ok (.iconst n, 1) ∧ Int32.ofInt n = v ∧ pc + 1 = pc') ∨ (∃ n : Int, decode cc pc = .ok (.bipush n, 2) ∧ (Int8.ofInt n).toInt32 = v ∧ pc + 2 = pc') ∨ (∃ n : Int, decode cc pc = .ok (.sipush n, 3) ∧ (Int16.ofInt n).toInt32 = v ∧ pc + 3 = pc')
