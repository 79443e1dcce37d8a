/-! AN ABSTRACT MACHINE OVER A FIXED POOL. Values: ints, references, string constants by number, longs that an int widened to, the script. -/
abbrev AV : Type := Int32 ⊕ (Nat ⊕ (Nat ⊕ (Int32 ⊕ Unit)))
abbrev vI (x : Int32) : AV := .inl x
abbrev vR (a : Nat) : AV := .inr (.inl a)
abbrev vS (k : Nat) : AV := .inr (.inr (.inl k))
abbrev vL (x : Int32) : AV := .inr (.inr (.inr (.inl x)))
abbrev vX : AV := .inr (.inr (.inr (.inr ())))
/-- what a cell is: 0 an object of a class, 1 int[], 2 byte[], 3 boolean[], 4 long[], 5 int[][], 6 Life[]; the class's number or the length; its references -/
abbrev am_Sh : Type := Nat × Nat × (Nat → Option Nat)
/-- the pool: the heap's size where it is known, the addresses, what each is -/
abbrev am_E : Type := Option Nat × List Nat × (Nat → am_Sh)
/-- .. and the numbers in it -/
abbrev am_M : Type := am_E × (Nat → Nat → Int32)
/-- how a call ends: the memory, what it returns or which exception, the cells and slots that it made -/
abbrev am_R : Type := am_M × (Option AV ⊕ Nat) × Nat × Nat
/-- a row of code: its place, the instruction, the next place, three resolved operands -/
abbrev am_CE : Type := Nat × Instr × Nat × Nat × Nat × Int32
/-- a method: its code, how many locals, its receiver's class and 1 (0: static), its handlers -/
abbrev am_MI : Type := List am_CE × Nat × Nat × List (Nat × Nat × Nat)
