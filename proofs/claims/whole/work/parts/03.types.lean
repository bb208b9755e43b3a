-- THE ABSTRACT MACHINE: values, worlds, one step of straight code, branches, calls; no proofs of the real machine here
abbrev AV : Type := Int ⊕ (Int ⊕ Option Nat)
abbrev vI (x : Int) : AV := Sum.inl x
abbrev vL (x : Int) : AV := Sum.inr (Sum.inl x)
abbrev vR (r : Nat) : AV := Sum.inr (Sum.inr (some r))
abbrev vO (r : Option Nat) : AV := Sum.inr (Sum.inr r)
/-- a world: its cells' kinds ((0, class, fields) or (1, kind of element, length)), its ints, its longs, its references -/
abbrev AW : Type := List (Nat × Nat × Nat) × (Nat → Nat → Int) × (Nat → Nat → Int) × (Nat → Nat → Option Nat)
/-- place in the code, locals, operands, world -/
abbrev AS : Type := Nat × List (Option AV) × List AV × AW
/-- place, instruction, length, a number, two places -/
abbrev AE : Type := Nat × Instr × Nat × Int × Nat × Nat
/-- the script: its length and its ints -/
abbrev AX : Type := Nat × (Nat → Int32)
