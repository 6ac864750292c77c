/-- the forecasts of the weeks from the a-th on, n of them, as far as there are such weeks -/
def nFcs (N : Nat → Int) (p a : Nat) : Nat → Int
  | 0 => 0
  | n + 1 => nFcs N p a n + (if a + n < 12 then pF N p (12 + (a + n)) else 0)
def nUnits (N : Nat → Int) (p w : Nat) : Int := nCov N p - nPj N p (w + 1) + nFcs N p (w + 1) (N 8 - 1).toNat
def nWant (N : Nat → Int) (p w : Nat) : Int := (nUnits N p w + pF N p 1 - 1) / pF N p 1
theorem nFcs_le {B : Int} {np : Nat} {N : Nat → Int} (h : nOk B np N) {p : Nat} (hp : p < np) (a : Nat) : ∀ n, 0 ≤ nFcs N p a n ∧ nFcs N p a n ≤ 1000 * n := by
  intro n
  induction n with
  | zero => unfold nFcs; omega
  | succ n ih =>
    unfold nFcs
    split
    · rename_i hk
      have := h.fc hp hk
      omega
    · omega
theorem nUnits_le {B : Int} {np : Nat} {N : Nat → Int} (h : nOk B np N) {p w : Nat} (hp : p < np) (hw : w < 12) (hl : nPj N p (w + 1) < nCov N p) : 0 < nUnits N p w ∧ nUnits N p w ≤ B + 40000 := by
  have h1 := nPj_le h hp (w + 1) (by omega)
  have h2 := nCov_le h hp
  have h3 := nFcs_le h hp (w + 1) (N 8 - 1).toNat
  have h4 := h.2.2.2.1.2.2.2.1
  unfold nUnits
  omega
/-- the one that lacks most of the first k, of those that were not asked yet; -6: none -/
def nNext (N : Nat → Int) (w asked : Nat) : Nat → Int
  | 0 => -6
  | k + 1 => if (asked >>> k % 2 = 0 ∧ nPj N k (w + 1) < nCov N k) ∧ (nNext N w asked k = -6 ∨ nPj N k (w + 1) < nPj N (nNext N w asked k).toNat (w + 1)) then (k : Int) else nNext N w asked k
theorem nNext_in (N : Nat → Int) (w asked : Nat) : ∀ k, nNext N w asked k = -6 ∨ ∃ b : Nat, nNext N w asked k = (b : Int) ∧ b < k ∧ asked >>> b % 2 = 0 ∧ nPj N b (w + 1) < nCov N b := by
  intro k
  induction k with
  | zero => exact Or.inl rfl
  | succ k ih =>
    unfold nNext
    split
    · rename_i h; exact Or.inr ⟨k, rfl, by omega, h.1.1, h.1.2⟩
    · rcases ih with h | ⟨b, h1, h2, h3⟩
      · exact Or.inl h
      · exact Or.inr ⟨b, h1, by omega, h3⟩
def nLotsP (N : Nat → Int) (p : Nat) : Nat → Int
  | 0 => 0
  | k + 1 => nLotsP N p k + pF N p (24 + k)
def nLots (N : Nat → Int) : Nat → Int
  | 0 => 0
  | p + 1 => nLots N p + nLotsP N p 12
def nSum (N : Nat → Int) (i : Nat) : Nat → Int
  | 0 => 0
  | p + 1 => nSum N i p + pF N p i
/-- no projection of a product behind a week from the f-th on, ahead of the k-th, is below 0 -/
def nDoW (N : Nat → Int) (p f : Nat) : Nat → Bool
  | 0 => true
  | n + 1 => nDoW N p f n && decide (0 ≤ nPj N p (f + n + 1))
def nDo (N : Nat → Int) (f : Nat) : Nat → Bool
  | 0 => true
  | p + 1 => nDo N f p && nDoW N p f (12 - f)
