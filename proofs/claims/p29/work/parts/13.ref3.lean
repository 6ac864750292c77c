def nOver (N : Nat → Int) (np w : Nat) : Int := if 0 < nHours N np w - N 5 then nHours N np w - N 5 else 0
/-- stock less backlog, and what the first k weeks bring -/
def nPj (N : Nat → Int) (p : Nat) : Nat → Int
  | 0 => pF N p 4 - pF N p 5
  | k + 1 => nPj N p k + (pF N p (24 + k) * pF N p 1 - pF N p (12 + k))
theorem nPj_le {B : Int} {np : Nat} {N : Nat → Int} (h : nOk B np N) {p : Nat} (hp : p < np) : ∀ k, k ≤ 12 → -B - 1000 * k ≤ nPj N p k ∧ nPj N p k ≤ B + 100000 * k := by
  intro k
  obtain ⟨-, h1, -, -, h4, h5, -⟩ := h.2.2.2.2.2 p hp
  induction k with
  | zero => intro _; unfold nPj; omega
  | succ k ih =>
    intro hk
    have e := ih (by omega)
    have h2 := h.lots hp (k := k) (by omega)
    have h3 := h.fc hp (k := k) (by omega)
    have h6 : 0 ≤ pF N p (24 + k) * pF N p 1 := Int.mul_nonneg h2.1 (by omega)
    have h7 : pF N p (24 + k) * pF N p 1 ≤ 1000 * 100 := Int.mul_le_mul h2.2 h1.2 (by omega) (by omega)
    unfold nPj
    omega
def nCov (N : Nat → Int) (p : Nat) : Int := pF N p 6 * N 9 / 100
theorem nCov_le {B : Int} {np : Nat} {N : Nat → Int} (h : nOk B np N) {p : Nat} (hp : p < np) : (0 ≤ pF N p 6 * N 9 ∧ pF N p 6 * N 9 ≤ 800000) ∧ 0 ≤ nCov N p ∧ nCov N p ≤ 8000 := by
  obtain ⟨-, -, -, -, -, -, h6, -⟩ := h.2.2.2.2.2 p hp
  have h9 := h.2.2.2.1.2.2.2.2.1
  have h1 : 0 ≤ pF N p 6 * N 9 := Int.mul_nonneg h6.1 h9.1
  have h2 : pF N p 6 * N 9 ≤ 2000 * 400 := Int.mul_le_mul h6.2 h9.2 h9.1 (by omega)
  unfold nCov
  omega
/-- the hours that are left for one more lot, its setups taken off -/
def nLeft (N : Nat → Int) (np p w : Nat) : Int := N 5 + N 6 - nHours N np w - (if 0 < pF N p (24 + w) then 0 else pF N p 3 + (if nMask N w np >>> (pF N p 0).toNat % 2 = 1 then 0 else N (14 + (pF N p 0).toNat)))
def nRoom (N : Nat → Int) (np p w : Nat) : Int :=
  if (if 0 < nLeft N np p w then nLeft N np p w / pF N p 2 else 0) < 1000 - pF N p (24 + w) then (if 0 < nLeft N np p w then nLeft N np p w / pF N p 2 else 0) else 1000 - pF N p (24 + w)
theorem nLeft_le {B : Int} {np : Nat} {N : Nat → Int} (h : nOk B np N) {p w : Nat} (hp : p < np) (hw : w < 12) : -500600 ≤ nLeft N np p w ∧ nLeft N np p w ≤ 1500 := by
  have h1 := nHours_le h hw
  have hs := h.2.2.2.1
  obtain ⟨f, hf1, hf2, hf3⟩ := h.fam hp
  obtain ⟨-, -, -, h3, -⟩ := h.2.2.2.2.2 p hp
  have h4 := h.2.2.2.2.1 f hf2
  unfold nLeft
  rw [hf3]
  split
  · omega
  · split <;> omega
theorem div_le_self' {a b : Int} (ha : 0 ≤ a) (hb : 1 ≤ b) : 0 ≤ a / b ∧ a / b ≤ a := ⟨Int.ediv_nonneg ha (by omega), Int.ediv_le_self b ha⟩
