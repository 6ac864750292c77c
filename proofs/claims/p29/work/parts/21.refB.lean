/-- the state behind the trial of the hours 0, 10 .., i of them -/
def nLH (np f : Nat) (N : Nat → Int) : Nat → Nat → Int
  | 0 => N
  | i + 1 => nPlan np f (fu (nLH np f N i) 5 (((10 * i : Nat) : Nat) : Int))
/-- what is found from the i-th trial on, m of them at most -/
def nLe (np f : Nat) (N : Nat → Int) : Nat → Nat → Int
  | 0, _ => -6
  | m + 1, i => if nDo (nLH np f N (i + 1)) f np = true then ((10 * i : Nat) : Int) else nLe np f N m (i + 1)
