def dc (cc : ByteArray) (pc : Nat) (i : Instr) (l pc' : Nat) : Prop := decode cc pc = .ok (i, l) ∧ pc + l = pc'
def dz (cc : ByteArray) (pc : Nat) (c : ClassFile.Cond) (pc' tgt : Nat) : Prop := ∃ off : Int, decode cc pc = .ok (.ifCond c off, 3) ∧ pc + 3 = pc' ∧ (pc : Int) + off = (tgt : Int)
def di (cc : ByteArray) (pc : Nat) (c : ClassFile.Cond) (pc' tgt : Nat) : Prop := ∃ off : Int, decode cc pc = .ok (.if_icmp c off, 3) ∧ pc + 3 = pc' ∧ (pc : Int) + off = (tgt : Int)
def dg (cc : ByteArray) (pc tgt : Nat) : Prop := ∃ off : Int, decode cc pc = .ok (.goto off, 3) ∧ (pc : Int) + off = (tgt : Int)
def dn (cc : ByteArray) (pc pc' tgt : Nat) : Prop := ∃ off : Int, decode cc pc = .ok (.ifnull off, 3) ∧ pc + 3 = pc' ∧ (pc : Int) + off = (tgt : Int)
def do_ (cc : ByteArray) (pc pc' tgt : Nat) : Prop := ∃ off : Int, decode cc pc = .ok (.ifnonnull off, 3) ∧ pc + 3 = pc' ∧ (pc : Int) + off = (tgt : Int)
