theorem bit_at (x k : Nat) : x >>> k % 2 = (x.testBit k).toNat := by rw [Nat.toNat_testBit, Nat.shiftRight_eq_div_pow]
theorem bit_or (m b k : Nat) : (m ||| 2 ^ b) >>> k % 2 = if k = b then 1 else m >>> k % 2 := by
  rw [bit_at, bit_at, Nat.testBit_or, Nat.testBit_two_pow]
  by_cases h : k = b
  · subst h; simp
  · rw [if_neg h]; simp [Ne.symm h]
def nFree (asked : Nat) : Nat → Nat
  | 0 => 0
  | k + 1 => nFree asked k + (if asked >>> k % 2 = 0 then 1 else 0)
theorem nFree_hi (asked b : Nat) : ∀ k, k ≤ b → nFree (asked ||| 2 ^ b) k = nFree asked k := by
  intro k
  induction k with
  | zero => intro _; rfl
  | succ k ih => intro h; unfold nFree; rw [ih (by omega), bit_or, if_neg (show ¬ k = b by omega)]
theorem nFree_or (asked b : Nat) (h0 : asked >>> b % 2 = 0) : ∀ k, b < k → nFree (asked ||| 2 ^ b) k + 1 = nFree asked k := by
  intro k
  induction k with
  | zero => intro h; omega
  | succ k ih =>
    intro h
    unfold nFree
    by_cases hk : k = b
    · subst hk
      rw [nFree_hi _ _ _ (Nat.le_refl _), bit_or, if_pos rfl, if_pos h0]; simp
    · have := ih (by omega)
      rw [bit_or, if_neg hk]
      omega
theorem nFree_0 : ∀ k, nFree 0 k = k := by
  intro k
  induction k with
  | zero => rfl
  | succ k ih => unfold nFree; rw [ih, Nat.zero_shiftRight]; rfl
/-- the lots that a product gets in a week -/
def nGive (N : Nat → Int) (np p w : Nat) : Int := if nWant N p w < nRoom N np p w then nWant N p w else nRoom N np p w
/-- a week is planned: m products are still to be asked at most -/
def nPW (np w : Nat) : Nat → Nat → (Nat → Int) → Nat → Int
  | 0, _, N => N
  | m + 1, asked, N => if nNext N w asked np = -6 then N else nPW np w m (asked ||| 2 ^ (nNext N w asked np).toNat) (fu N (18 + 36 * (nNext N w asked np).toNat + (24 + w)) (nGive N np (nNext N w asked np).toNat w))
theorem pF_fuP (N : Nat → Int) (p a : Nat) (e : Int) {q j : Nat} (ha : a < 36) (hj : j < 36) : pF (fu N (18 + 36 * p + a) e) q j = if q = p ∧ j = a then e else pF N q j := by
  show (if 18 + 36 * q + j = 18 + 36 * p + a then e else N (18 + 36 * q + j)) = _
  by_cases h : q = p ∧ j = a
  · rw [if_pos h, if_pos (by omega)]
  · rw [if_neg h, if_neg (by omega)]
theorem nOk.put {B : Int} {np : Nat} {N : Nat → Int} (h : nOk B np N) {p k : Nat} {v : Int} (hp : p < np) (hk : k < 12) (hv : 0 ≤ v ∧ v ≤ 1000) : nOk B np (fu N (18 + 36 * p + (24 + k)) v) := by
  obtain ⟨h1, h2, h3, h4, h5, h6⟩ := h
  have hd : ∀ i, i < 18 → fu N (18 + 36 * p + (24 + k)) v i = N i := fun i hi => fu_ne N _ v (by omega)
  refine ⟨h1, by rw [hd 1 (by decide)]; exact h2, h3, ?_, fun f hf => by rw [hd _ (by omega)]; exact h5 f hf, fun q hq => ?_⟩
  · rw [hd 5 (by decide), hd 6 (by decide), hd 7 (by decide), hd 8 (by decide), hd 9 (by decide), hd 10 (by decide), hd 11 (by decide), hd 12 (by decide), hd 13 (by decide)]
    exact h4
  · have hq0 := h6 q hq
    have e : ∀ j, j < 36 → pF (fu N (18 + 36 * p + (24 + k)) v) q j = if q = p ∧ j = 24 + k then v else pF N q j := fun j hj => pF_fuP N p _ v (by omega) hj
    unfold pOk
    rw [e 0 (by decide), e 1 (by decide), e 2 (by decide), e 3 (by decide), e 4 (by decide), e 5 (by decide), e 6 (by decide), e 7 (by decide)]
    simp only [show ¬ (q = p ∧ 0 = 24 + k) by omega, show ¬ (q = p ∧ 1 = 24 + k) by omega, show ¬ (q = p ∧ 2 = 24 + k) by omega, show ¬ (q = p ∧ 3 = 24 + k) by omega, show ¬ (q = p ∧ 4 = 24 + k) by omega, show ¬ (q = p ∧ 5 = 24 + k) by omega, show ¬ (q = p ∧ 6 = 24 + k) by omega, show ¬ (q = p ∧ 7 = 24 + k) by omega, if_false]
    obtain ⟨a1, a2, a3, a4, a5, a6, a7, a8, a9, a10⟩ := hq0
    refine ⟨a1, a2, a3, a4, a5, a6, a7, a8, fun i hi => ?_, fun i hi => ?_⟩
    · rw [e _ (by omega), if_neg (by omega)]; exact a9 i hi
    · rw [e _ (by omega)]
      split
      · exact hv
      · exact a10 i hi
theorem nRoom_le {B : Int} {np : Nat} {N : Nat → Int} (h : nOk B np N) {p w : Nat} (hp : p < np) (hw : w < 12) : 0 ≤ nRoom N np p w ∧ nRoom N np p w ≤ 1000 := by
  have hl := h.lots hp hw
  obtain ⟨-, -, h2, -⟩ := h.2.2.2.2.2 p hp
  have h0 : 0 ≤ (if 0 < nLeft N np p w then nLeft N np p w / pF N p 2 else 0) := by
    split
    · exact Int.ediv_nonneg (by omega) (by omega)
    · omega
  unfold nRoom
  split <;> omega
theorem nWant_le {B : Int} {np : Nat} {N : Nat → Int} (h : nOk B np N) {p w : Nat} (hp : p < np) (hw : w < 12) (hl : nPj N p (w + 1) < nCov N p) : 0 ≤ nWant N p w ∧ nWant N p w ≤ B + 40100 := by
  have h1 := nUnits_le h hp hw hl
  obtain ⟨-, h2, -⟩ := h.2.2.2.2.2 p hp
  have h3 := div_le_self' (a := nUnits N p w + pF N p 1 - 1) (b := pF N p 1) (by omega) h2.1
  unfold nWant
  omega
theorem nGive_le {B : Int} {np : Nat} {N : Nat → Int} (h : nOk B np N) {p w : Nat} (hp : p < np) (hw : w < 12) (hl : nPj N p (w + 1) < nCov N p) : 0 ≤ nGive N np p w ∧ nGive N np p w ≤ 1000 := by
  have h1 := nRoom_le h hp hw
  have h2 := nWant_le h hp hw hl
  unfold nGive
  split <;> omega
theorem nPW_ok {B : Int} {np w : Nat} (hw : w < 12) : ∀ m asked N, nOk B np N → nOk B np (nPW np w m asked N) := by
  intro m
  induction m with
  | zero => intro asked N h; exact h
  | succ m ih =>
    intro asked N h
    unfold nPW
    split
    · exact h
    · rename_i h6
      obtain ⟨b, h1, h2, h3, h4⟩ := (nNext_in N w asked np).resolve_left h6
      rw [h1]
      exact ih _ _ (h.put h2 hw (nGive_le h h2 hw h4))
/-- weeks f, f + 1 .. are planned, j of them -/
def nPlW (np f : Nat) : Nat → (Nat → Int) → Nat → Int
  | 0, N => N
  | j + 1, N => nPW np (f + j) np 0 (nPlW np f j N)
theorem nPlW_ok {B : Int} {np f : Nat} : ∀ j N, f + j ≤ 12 → nOk B np N → nOk B np (nPlW np f j N) := by
  intro j
  induction j with
  | zero => intro N _ h; exact h
  | succ j ih => intro N hj h; exact nPW_ok (by omega) _ _ _ (ih N (by omega) h)
def rZ (f k : Nat) (q : Nat → Int) : Nat → Int := fun j => if 24 + f ≤ j ∧ j < 24 + k then 0 else q j
def nPlan (np f : Nat) (N : Nat → Int) : Nat → Int := nPlW np f (12 - f) (nMap N np (rZ f 12))
/-- each product's record is in its ranges behind F where it was ahead of it -/
theorem nOk.map {B B' : Int} {np k : Nat} {N : Nat → Int} {F : (Nat → Int) → Nat → Int} (h : nOk B np N) (hB : 0 ≤ B' ∧ B' ≤ 2100000000) (hBB : B ≤ B') (hk : k ≤ np) (hF : ∀ p, p < k → pOk B' (nMap N k F) p) : nOk B' np (nMap N k F) := by
  obtain ⟨h1, h2, h3, h4, h5, h6⟩ := h
  have hd : ∀ i, i < 18 → nMap N k F i = N i := fun i hi => nMap_hd N k F hi
  refine ⟨hB, by rw [hd 1 (by decide)]; exact h2, h3, ?_, fun f hf => by rw [hd _ (by omega)]; exact h5 f hf, fun p hp => ?_⟩
  · rw [hd 5 (by decide), hd 6 (by decide), hd 7 (by decide), hd 8 (by decide), hd 9 (by decide), hd 10 (by decide), hd 11 (by decide), hd 12 (by decide), hd 13 (by decide)]
    exact h4
  · by_cases hpk : p < k
    · exact hF p hpk
    · have e : ∀ j, pF (nMap N k F) p j = pF N p j := fun j => nMap_ge N F (by omega)
      have q := h6 p hp
      unfold pOk at q ⊢
      simp only [e]
      obtain ⟨a1, a2, a3, a4, a5, a6, a7, a8, a9, a10⟩ := q
      exact ⟨a1, a2, a3, a4, ⟨a5.1, by omega⟩, ⟨a6.1, by omega⟩, a7, a8, a9, a10⟩
theorem nOk.zero {B : Int} {np : Nat} {N : Nat → Int} (h : nOk B np N) (f : Nat) {k : Nat} (hk : k ≤ np) : nOk B np (nMap N k (rZ f 12)) := by
  refine h.map h.1 (Int.le_refl _) hk fun p hp => ?_
  have q := h.2.2.2.2.2 p (by omega)
  have e : ∀ j, j < 24 → pF (nMap N k (rZ f 12)) p j = pF N p j := fun j hj => by rw [nMap_at N _ hp (by omega)]; exact if_neg (by omega)
  unfold pOk at q ⊢
  rw [e 0 (by decide), e 1 (by decide), e 2 (by decide), e 3 (by decide), e 4 (by decide), e 5 (by decide), e 6 (by decide), e 7 (by decide)]
  obtain ⟨a1, a2, a3, a4, a5, a6, a7, a8, a9, a10⟩ := q
  refine ⟨a1, a2, a3, a4, a5, a6, a7, a8, fun i hi => by rw [e _ (by omega)]; exact a9 i hi, fun i hi => ?_⟩
  rw [nMap_at N _ hp (by omega)]
  unfold rZ
  split
  · omega
  · exact a10 i hi
theorem nPlan_ok {B : Int} {np f : Nat} {N : Nat → Int} (h : nOk B np N) (hf : f ≤ 8) : nOk B np (nPlan np f N) := nPlW_ok _ _ (by omega) (h.zero f (Nat.le_refl _))
