/-- a product's numbers are in their ranges (stock and backlog: B at most) -/
def pOk (B : Int) (N : Nat → Int) (p : Nat) : Prop := (0 ≤ pF N p 0 ∧ pF N p 0 ≤ 3) ∧ (1 ≤ pF N p 1 ∧ pF N p 1 ≤ 100) ∧ (1 ≤ pF N p 2 ∧ pF N p 2 ≤ 50) ∧ (0 ≤ pF N p 3 ∧ pF N p 3 ≤ 20) ∧ (0 ≤ pF N p 4 ∧ pF N p 4 ≤ B) ∧ (0 ≤ pF N p 5 ∧ pF N p 5 ≤ B) ∧ (0 ≤ pF N p 6 ∧ pF N p 6 ≤ 2000)
  ∧ (pF N p 7 = -6 ∨ (0 ≤ pF N p 7 ∧ pF N p 7 ≤ 2000)) ∧ (∀ k, k < 12 → 0 ≤ pF N p (12 + k) ∧ pF N p (12 + k) ≤ 1000) ∧ ∀ k, k < 12 → 0 ≤ pF N p (24 + k) ∧ pF N p (24 + k) ≤ 1000
def nOk (B : Int) (np : Nat) (N : Nat → Int) : Prop := (0 ≤ B ∧ B ≤ 2100000000) ∧ N 1 = (np : Int) ∧ np ≤ 10 ∧ ((0 ≤ N 5 ∧ N 5 ≤ 1000) ∧ (0 ≤ N 6 ∧ N 6 ≤ 500) ∧ (0 ≤ N 7 ∧ N 7 ≤ 8) ∧ (1 ≤ N 8 ∧ N 8 ≤ 6) ∧ (0 ≤ N 9 ∧ N 9 ≤ 400) ∧ (0 ≤ N 10 ∧ N 10 ≤ 1000) ∧ (0 ≤ N 11 ∧ N 11 ≤ 100) ∧ (0 ≤ N 12 ∧ N 12 ≤ 100) ∧ (0 ≤ N 13 ∧ N 13 ≤ 100))
  ∧ (∀ f, f < 4 → 0 ≤ N (14 + f) ∧ N (14 + f) ≤ 50) ∧ ∀ p, p < np → pOk B N p
theorem nOk.lots {B : Int} {np : Nat} {N : Nat → Int} (h : nOk B np N) {p k : Nat} (hp : p < np) (hk : k < 12) : 0 ≤ pF N p (24 + k) ∧ pF N p (24 + k) ≤ 1000 := (h.2.2.2.2.2 p hp).2.2.2.2.2.2.2.2.2 k hk
theorem nOk.fc {B : Int} {np : Nat} {N : Nat → Int} (h : nOk B np N) {p k : Nat} (hp : p < np) (hk : k < 12) : 0 ≤ pF N p (12 + k) ∧ pF N p (12 + k) ≤ 1000 := (h.2.2.2.2.2 p hp).2.2.2.2.2.2.2.2.1 k hk
theorem nOk.np {B : Int} {np : Nat} {N : Nat → Int} (h : nOk B np N) : N 1 = (np : Int) ∧ np ≤ 10 := ⟨h.2.1, h.2.2.1⟩
theorem bor16 : ∀ a, a < 16 → ∀ b, b < 16 → Int32.ofInt ((a : Nat) : Int) ||| Int32.ofInt ((b : Nat) : Int) = Int32.ofInt ((a ||| b : Nat) : Int) := by decide +kernel
theorem bshl4 : ∀ f, f < 4 → Int32.ofInt 1 <<< (Int32.ofInt ((f : Nat) : Int) &&& 31) = Int32.ofInt ((2 ^ f : Nat) : Int) := by decide +kernel
theorem bshr4 : ∀ m, m < 16 → ∀ f, f < 4 → Int32.ofInt ((m : Nat) : Int) >>> (Int32.ofInt ((f : Nat) : Int) &&& 31) = Int32.ofInt ((m >>> f : Nat) : Int) := by decide +kernel
theorem band1 : ∀ m, m < 16 → Int32.ofInt ((m : Nat) : Int) &&& Int32.ofInt 1 = Int32.ofInt ((m % 2 : Nat) : Int) := by decide +kernel
theorem or_lt16 {a b : Nat} (ha : a < 16) (hb : b < 16) : a ||| b < 16 := Nat.or_lt_two_pow (n := 4) ha hb
theorem p2_lt16 : ∀ f, f < 4 → 2 ^ f < 16 := by decide
/-- the families of the first k products with lots in a week -/
def nMask (N : Nat → Int) (w : Nat) : Nat → Nat
  | 0 => 0
  | k + 1 => if 0 < pF N k (24 + w) then nMask N w k ||| 2 ^ (pF N k 0).toNat else nMask N w k
theorem nOk.fam {B : Int} {np : Nat} {N : Nat → Int} (h : nOk B np N) {p : Nat} (hp : p < np) : ∃ f : Nat, pF N p 0 = (f : Int) ∧ f < 4 ∧ (pF N p 0).toNat = f := by
  have h1 := (h.2.2.2.2.2 p hp).1
  exact ⟨(pF N p 0).toNat, by omega, by omega, rfl⟩
theorem nMask_lt {B : Int} {np : Nat} {N : Nat → Int} (h : nOk B np N) (w : Nat) : ∀ k, k ≤ np → nMask N w k < 16 := by
  intro k
  induction k with
  | zero => intro _; show (0 : Nat) < 16; decide
  | succ k ih =>
    intro hk
    have h1 := ih (by omega)
    obtain ⟨f, -, h2, h3⟩ := h.fam (p := k) (by omega)
    unfold nMask
    split
    · rw [h3]; exact or_lt16 h1 (p2_lt16 f h2)
    · exact h1
/-- the hours of the first k products in a week -/
def nHrs (N : Nat → Int) (w : Nat) : Nat → Int
  | 0 => 0
  | k + 1 => nHrs N w k + (if 0 < pF N k (24 + w) then pF N k 3 + pF N k (24 + w) * pF N k 2 else 0)
/-- the hours of the first k families of a set -/
def nFh (N : Nat → Int) (m : Nat) : Nat → Int
  | 0 => 0
  | f + 1 => nFh N m f + (if m >>> f % 2 = 1 then N (14 + f) else 0)
def nHours (N : Nat → Int) (np w : Nat) : Int := nHrs N w np + nFh N (nMask N w np) 4
def nMade (N : Nat → Int) (w : Nat) : Nat → Int
  | 0 => 0
  | k + 1 => nMade N w k + (if 0 < pF N k (24 + w) then 1 else 0)
def nBits (m : Nat) : Nat → Nat
  | 0 => 0
  | f + 1 => nBits m f + m >>> f % 2
def nSetups (N : Nat → Int) (np w : Nat) : Int := nMade N w np + ((nBits (nMask N w np) 4 : Nat) : Int)
theorem nHrs_le {B : Int} {np : Nat} {N : Nat → Int} (h : nOk B np N) {w : Nat} (hw : w < 12) : ∀ k, k ≤ np → 0 ≤ nHrs N w k ∧ nHrs N w k ≤ 50020 * k := by
  intro k
  induction k with
  | zero => intro _; unfold nHrs; omega
  | succ k ih =>
    intro hk
    have h1 := ih (by omega)
    obtain ⟨-, -, h2, h3, -⟩ := h.2.2.2.2.2 k (by omega)
    have h4 := h.lots (p := k) (by omega) hw
    have h5 : 0 ≤ pF N k (24 + w) * pF N k 2 := Int.mul_nonneg h4.1 (by omega)
    have h6 : pF N k (24 + w) * pF N k 2 ≤ 1000 * 50 := Int.mul_le_mul h4.2 h2.2 (by omega) (by omega)
    unfold nHrs
    split <;> omega
theorem nFh_le {B : Int} {np : Nat} {N : Nat → Int} (h : nOk B np N) (m : Nat) : ∀ f, f ≤ 4 → 0 ≤ nFh N m f ∧ nFh N m f ≤ 50 * f := by
  intro f
  induction f with
  | zero => intro _; unfold nFh; omega
  | succ f ih =>
    intro hf
    have h1 := ih (by omega)
    have h2 := h.2.2.2.2.1 f (by omega)
    unfold nFh
    split <;> omega
theorem nHours_le {B : Int} {np : Nat} {N : Nat → Int} (h : nOk B np N) {w : Nat} (hw : w < 12) : 0 ≤ nHours N np w ∧ nHours N np w ≤ 500400 := by
  have h1 := nHrs_le h hw np (Nat.le_refl _)
  have h2 := nFh_le h (nMask N w np) 4 (Nat.le_refl _)
  have h3 := h.np.2
  unfold nHours
  omega
theorem nBits_le (m : Nat) : ∀ k, nBits m k ≤ k := by
  intro k
  induction k with
  | zero => exact Nat.le_refl _
  | succ k ih => unfold nBits; omega
