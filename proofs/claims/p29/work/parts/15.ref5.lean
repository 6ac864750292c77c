/-- the numbers of a product -/
def nRec (N : Nat → Int) (p : Nat) : Nat → Int := fun j => pF N p j
def nUpd (N : Nat → Int) (p : Nat) (f : Nat → Int) : Nat → Int := fun i => if 18 + 36 * p ≤ i ∧ i < 18 + 36 * p + 36 then f (i - (18 + 36 * p)) else N i
def nMap (N : Nat → Int) (k : Nat) (F : (Nat → Int) → Nat → Int) : Nat → Int := fun i => if 18 ≤ i ∧ i < 18 + 36 * k then F (nRec N ((i - 18) / 36)) ((i - 18) % 36) else N i
theorem nUpd_at (N : Nat → Int) (p : Nat) (f : Nat → Int) {j : Nat} (h : j < 36) : pF (nUpd N p f) p j = f j := by
  unfold nUpd pF
  dsimp only
  rw [if_pos (by omega), show 18 + 36 * p + j - (18 + 36 * p) = j by omega]
theorem nUpd_ne (N : Nat → Int) {p q : Nat} (f : Nat → Int) {j : Nat} (h : q ≠ p) (hj : j < 36) : pF (nUpd N p f) q j = pF N q j := if_neg (by omega)
theorem nMap_0 (N : Nat → Int) (F : (Nat → Int) → Nat → Int) : nMap N 0 F = N := by funext i; exact if_neg (by omega)
theorem nMap_at (N : Nat → Int) {k p : Nat} (F : (Nat → Int) → Nat → Int) {j : Nat} (hp : p < k) (hj : j < 36) : pF (nMap N k F) p j = F (nRec N p) j := by
  unfold nMap pF
  dsimp only
  rw [if_pos (by omega), show (18 + 36 * p + j - 18) / 36 = p by omega, show (18 + 36 * p + j - 18) % 36 = j by omega]
theorem nMap_ge (N : Nat → Int) {k p : Nat} (F : (Nat → Int) → Nat → Int) {j : Nat} (hp : k ≤ p) : pF (nMap N k F) p j = pF N p j := if_neg (by omega)
theorem nMap_hd (N : Nat → Int) (k : Nat) (F : (Nat → Int) → Nat → Int) {i : Nat} (h : i < 18) : nMap N k F i = N i := if_neg (by omega)
theorem nMap_succ (N : Nat → Int) (k : Nat) (F : (Nat → Int) → Nat → Int) : nUpd (nMap N k F) k (F (nRec (nMap N k F) k)) = nMap N (k + 1) F := by
  have h0 : nRec (nMap N k F) k = nRec N k := by funext j; exact nMap_ge N F (Nat.le_refl k)
  rw [h0]
  funext i
  unfold nUpd nMap
  by_cases h1 : 18 + 36 * k ≤ i ∧ i < 18 + 36 * k + 36
  · rw [if_pos h1, if_pos (by omega), show (i - 18) / 36 = k by omega, show (i - 18) % 36 = i - (18 + 36 * k) by omega]
  · rw [if_neg h1]
    by_cases h2 : 18 ≤ i ∧ i < 18 + 36 * k
    · rw [if_pos h2, if_pos (by omega)]
    · rw [if_neg h2, if_neg (by omega)]
def rCame (q : Nat → Int) : Int := if q 7 = -6 then q 12 else q 7
def rWant (q : Nat → Int) : Int := rCame q + q 5
def rHave (q : Nat → Int) : Int := q 4 + q 24 * q 1
def rSent (q : Nat → Int) : Int := if rWant q < rHave q then rWant q else rHave q
def rOff (q : Nat → Int) : Int := if q 12 < rCame q then rCame q - q 12 else q 12 - rCame q
def rShip (q : Nat → Int) : Nat → Int := fu (fu (fu (fu (fu (fu q 4 (rHave q - rSent q)) 5 (rWant q - rSent q)) 6 ((7 * q 6 + rOff q + 7) / 8)) 8 (q 8 + q 24 * q 1)) 9 (q 9 + rSent q)) 10 (q 10 + rCame q)
/-- the first k weeks have rolled on -/
def rRl (q : Nat → Int) (k : Nat) : Nat → Int := fun j => if (12 ≤ j ∧ j < 12 + k) ∨ (24 ≤ j ∧ j < 24 + k) then q (j + 1) else q j
def rRoll (q : Nat → Int) : Nat → Int := fu (fu (rRl q 11) 35 0) 7 (-6)
def kGet (K : Nat → Int) (c : Nat) (N : Nat → Int) (k : Nat) : Nat → Int := fun i => if i < k then K (c * 378 + i) else N i
