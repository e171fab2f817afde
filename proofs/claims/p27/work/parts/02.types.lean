/-! A small machine of our own: what the claim's methods do, on numbers and lists. Values: an int (any whole number, read modulo 2^32), a long (a natural number below 2^64), a reference (the number of a cell) or null, nothing. -/
abbrev zV : Type := Int ⊕ (Nat ⊕ (Option Nat ⊕ Unit))
abbrev vI (z : Int) : zV := Sum.inl z
abbrev vJ (n : Nat) : zV := Sum.inr (Sum.inl n)
abbrev vP (o : Option Nat) : zV := Sum.inr (Sum.inr (Sum.inl o))
abbrev vR (a : Nat) : zV := vP (some a)
abbrev vN : zV := vP none
abbrev vU : zV := Sum.inr (Sum.inr (Sum.inr ()))
/-- the contents of an array: ints, booleans, longs, references -/
abbrev zA : Type := (Nat → Int) ⊕ ((Nat → Int) ⊕ ((Nat → Nat) ⊕ (Nat → Option Nat)))
/-- a cell: an array, or an object (the number of its class, its fields) -/
abbrev zE : Type := (Nat × zA) ⊕ (Nat × List zV)
abbrev aI (n : Nat) (f : Nat → Int) : zE := Sum.inl (n, Sum.inl f)
abbrev aZ (n : Nat) (f : Nat → Int) : zE := Sum.inl (n, Sum.inr (Sum.inl f))
abbrev aJ (n : Nat) (f : Nat → Nat) : zE := Sum.inl (n, Sum.inr (Sum.inr (Sum.inl f)))
abbrev aQ (n : Nat) (f : Nat → Option Nat) : zE := Sum.inl (n, Sum.inr (Sum.inr (Sum.inr f)))
abbrev oO (c : Nat) (fs : List zV) : zE := Sum.inr (c, fs)
abbrev zH : Type := List zE
/-- a method: name, code, locals, result, number of its class, static?, arguments (the receiver counts), instructions -/
abbrev zM : Type := MethodName × ByteArray × Nat × Option FieldType × Nat × Bool × Nat × List (Nat × Instr × Nat)
