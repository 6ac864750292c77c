theorem fu_fu (f : Nat → Int) (j : Nat) (a b : Int) : fu (fu f j a) j b = fu f j b := by funext i; unfold fu; split <;> rfl
def leastOf (w : Nat) : Int := if w = 3 then 1 else 0
def mostOf (w : Nat) : Int := if w = 0 then 1000 else if w = 1 then 500 else if w = 2 then 8 else if w = 3 then 6 else if w = 4 then 400 else if w = 5 then 1000 else 100
def eF (np : Nat) (p w u : Int) : Int := if (0 ≤ p ∧ p < np) ∧ 0 ≤ w ∧ w < 12 then (if 0 ≤ u ∧ u ≤ 1000 then 0 else -2) else -1
def eA (np : Nat) (p u : Int) : Int := if 0 ≤ p ∧ p < np then (if u = -6 ∨ (0 ≤ u ∧ u ≤ 2000) then 0 else -2) else -1
def nSet (N : Nat → Int) (p w : Nat) (u : Int) : Nat → Int := fu N (18 + 36 * p + (24 + w)) u
def eL (N : Nat → Int) (np : Nat) (p w u : Int) : Int := if (0 ≤ p ∧ p < np) ∧ 0 ≤ w ∧ w < 12 then (if 0 ≤ u ∧ u ≤ 1000 then
    (if w < N 7 ∨ (N 5 + N 6 < nHours (nSet N p.toNat w.toNat u) np w.toNat ∧ nHours N np w.toNat < nHours (nSet N p.toNat w.toNat u) np w.toNat) then -5 else 0) else -2) else -1
theorem eF_le (np : Nat) (p w u : Int) : -2 ≤ eF np p w u ∧ eF np p w u ≤ 0 := by unfold eF; repeat' split <;> omega
theorem eA_le (np : Nat) (p u : Int) : -2 ≤ eA np p u ∧ eA np p u ≤ 0 := by unfold eA; repeat' split <;> omega
theorem eL_le (N : Nat → Int) (np : Nat) (p w u : Int) : -5 ≤ eL N np p w u ∧ eL N np p w u ≤ 0 := by unfold eL; repeat' split <;> omega
