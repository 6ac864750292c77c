def xRM (_ : xR) : Prop := True
/-- a number of a product in the plain state -/
abbrev pF (N : Nat → Int) (p i : Nat) : Int := N (18 + 36 * p + i)
