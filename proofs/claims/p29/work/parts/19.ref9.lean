theorem nLots_le {B : Int} {np : Nat} {N : Nat → Int} (h : nOk B np N) : ∀ p, p ≤ np → 0 ≤ nLots N p ∧ nLots N p ≤ 12000 * p := by
  intro p
  induction p with
  | zero => intro _; unfold nLots; omega
  | succ p ih =>
    intro hp
    have a := ih (by omega)
    have b : ∀ k, k ≤ 12 → 0 ≤ nLotsP N p k ∧ nLotsP N p k ≤ 1000 * k := by
      intro k
      induction k with
      | zero => intro _; unfold nLotsP; omega
      | succ k ihk =>
        intro hk
        have := ihk (by omega)
        have := h.lots (p := p) (k := k) (by omega) (by omega)
        unfold nLotsP; omega
    have := b 12 (by omega)
    unfold nLots; omega
def nOf (N : Nat → Int) (p w : Nat) : Int := if w < 7 then pF N p w else if w = 7 then nCov N p else pF N p (w - 1)
def nCnt (F N : Nat → Int) (np u : Nat) : Int := if u < 5 then N u else if 10 ≤ u then N (u - 5) else if u = 5 then nLots N np else if u = 6 then nSum N 4 np else if u = 7 then nSum N 5 np else if u = 8 then F 5 else F 3
