/-! A PURE MACHINE over plain numbers: what the bytecode of this claim does, as a function. A value: an Int (in the range of int), 64 bits, a cell's number or null. A heap: the kinds of its cells, and what they hold: numbers, bits, references. Cell 0 is the script. -/
abbrev AV : Type := Int ⊕ (BitVec 64 ⊕ Option Nat)
abbrev vi (x : Int) : AV := Sum.inl x
abbrev vl (x : BitVec 64) : AV := Sum.inr (Sum.inl x)
abbrev vr (k : Nat) : AV := Sum.inr (Sum.inr (some k))
abbrev vq (r : Option Nat) : AV := Sum.inr (Sum.inr r)
abbrev AI : Type := Nat → Int → Int
abbrev AJ : Type := Nat → Int → BitVec 64
abbrev AR : Type := Nat → Int → Option Nat
abbrev Hp : Type := List (Nat × Nat) × AI × AJ × AR
abbrev LO : Type := List (Option AV)
/-- instruction, its numbers (places of words, classes, fields, methods), the locals that are forgotten ahead of it, a constant -/
abbrev Ent : Type := Instr × List Nat × List Nat × Int
abbrev Res : Type := Option ((AV × Hp) ⊕ ((Nat × LO × List AV × Hp) ⊕ (Nat × List AV × Bool × Nat × LO × List AV × Hp)))
abbrev r_ret (v : AV) (h : Hp) : Res := some (Sum.inl (v, h))
abbrev r_go (pc : Nat) (l : LO) (st : List AV) (h : Hp) : Res := some (Sum.inr (Sum.inl (pc, l, st, h)))
abbrev r_call (M : Nat) (as : List AV) (v : Bool) (pc : Nat) (l : LO) (st : List AV) (h : Hp) : Res := some (Sum.inr (Sum.inr (M, as, v, pc, l, st, h)))
/-- how many arguments (with the object), void, class of the object (0: none) + 1 -/
abbrev MI : Type := Nat × Bool × Nat
abbrev Prg : Type := (Nat → Nat → Option Ent) × (Nat → MI) × (Nat → Nat)
