def nWp (F : Nat → Int) (b k : Nat) : Nat → Int := fun i => if b ≤ i ∧ i < b + k then 0 else F i
/-- the plain state with one product more -/
def nNew (N : Nat → Int) (np : Nat) (fa sz lh sh st : Int) : Nat → Int :=
  fu (fu (fu (fu (fu (fu (fu (nWp (fu N 1 ((np : Int) + 1)) (18 + 36 * np) 36) (18 + 36 * np + 0) fa) (18 + 36 * np + 1) sz) (18 + 36 * np + 2) lh) (18 + 36 * np + 3) sh) (18 + 36 * np + 4) st) (18 + 36 * np + 11) st) (18 + 36 * np + 7) (-6)
def nPar (fa sz lh sh st : Int) : Prop := (0 ≤ fa ∧ fa ≤ 3) ∧ (1 ≤ sz ∧ sz ≤ 100) ∧ (1 ≤ lh ∧ lh ≤ 50) ∧ (0 ≤ sh ∧ sh ≤ 20) ∧ 0 ≤ st ∧ st ≤ 10000
theorem nNew_old (N : Nat → Int) (np : Nat) (fa sz lh sh st : Int) {i : Nat} (h : i < 18 + 36 * np ∨ 18 + 36 * (np + 1) ≤ i) (h1 : i ≠ 1) : nNew N np fa sz lh sh st i = N i := by
  unfold nNew
  rw [fu_ne _ _ _ (by omega), fu_ne _ _ _ (by omega), fu_ne _ _ _ (by omega), fu_ne _ _ _ (by omega), fu_ne _ _ _ (by omega), fu_ne _ _ _ (by omega), fu_ne _ _ _ (by omega)]
  unfold nWp
  rw [if_neg (by omega), fu_ne _ _ _ h1]
theorem nNew_1 (N : Nat → Int) (np : Nat) (fa sz lh sh st : Int) : nNew N np fa sz lh sh st 1 = (np : Int) + 1 := by
  unfold nNew
  rw [fu_ne _ _ _ (by omega), fu_ne _ _ _ (by omega), fu_ne _ _ _ (by omega), fu_ne _ _ _ (by omega), fu_ne _ _ _ (by omega), fu_ne _ _ _ (by omega), fu_ne _ _ _ (by omega)]
  unfold nWp
  rw [if_neg (by omega), fu_at]
theorem nNew_at (N : Nat → Int) (np : Nat) (fa sz lh sh st : Int) {i : Nat} (hi : i < 36) : pF (nNew N np fa sz lh sh st) np i = if i = 7 then -6 else if i = 11 ∨ i = 4 then st else if i = 3 then sh else if i = 2 then lh else if i = 1 then sz else if i = 0 then fa else 0 := by
  unfold nNew pF fu nWp
  repeat' split
  all_goals first | rfl | omega
theorem nNew_hi (N : Nat → Int) (np : Nat) (fa sz lh sh st : Int) {i : Nat} (h0 : 12 ≤ i) (hi : i < 36) : pF (nNew N np fa sz lh sh st) np i = 0 := by
  rw [nNew_at _ _ _ _ _ _ _ hi, if_neg (by omega), if_neg (by omega), if_neg (by omega), if_neg (by omega), if_neg (by omega), if_neg (by omega)]
theorem nV.new {B : Int} {np : Nat} {N : Nat → Int} (h : nV B np N) (hB : 50000 ≤ B) (hnp : np < 10) {fa sz lh sh st : Int} (hP : nPar fa sz lh sh st) : nV B (np + 1) (nNew N np fa sz lh sh st) := by
  obtain ⟨h1, h2⟩ := h
  obtain ⟨x1, x2, x3, x4, x5, x6⟩ := h1
  obtain ⟨p1, p2, p3, p4, p5⟩ := hP
  have old : ∀ {i}, i < 18 + 36 * np → i ≠ 1 → nNew N np fa sz lh sh st i = N i := fun h h1 => nNew_old _ _ _ _ _ _ _ (Or.inl h) h1
  have oldp : ∀ p, p < np → ∀ i, i < 36 → pF (nNew N np fa sz lh sh st) p i = pF N p i := fun p hp i hi => old (by omega) (by omega)
  have gr : ∀ p, p < np → ∀ k, k ≤ 12 → nGr (nNew N np fa sz lh sh st) p k = nGr N p k := by
    intro p hp k
    induction k with
    | zero => intro _; rfl
    | succ k ih => intro hk; simp only [nGr]; rw [ih (by omega), oldp p hp _ (by omega), oldp p hp _ (by omega)]
  have gz : ∀ k, k ≤ 12 → nGr (nNew N np fa sz lh sh st) np k = 0 := by
    intro k
    induction k with
    | zero => intro _; rfl
    | succ k ih => intro hk; simp only [nGr]; rw [ih (by omega), nNew_hi _ _ _ _ _ _ _ (by omega) (by omega)]; simp
  refine ⟨⟨x1, by rw [nNew_1]; push_cast; rfl, by omega, ?_, ?_, ?_⟩, ?_⟩
  · rw [old (by omega) (by decide), old (by omega) (by decide), old (by omega) (by decide), old (by omega) (by decide), old (by omega) (by decide), old (by omega) (by decide), old (by omega) (by decide), old (by omega) (by decide), old (by omega) (by decide)]; exact x4
  · intro f hf; rw [old (by omega) (by omega)]; exact x5 f hf
  · intro p hp
    by_cases hpn : p < np
    · unfold pOk
      rw [oldp p hpn _ (by decide), oldp p hpn _ (by decide), oldp p hpn _ (by decide), oldp p hpn _ (by decide), oldp p hpn _ (by decide), oldp p hpn _ (by decide), oldp p hpn _ (by decide), oldp p hpn _ (by decide)]
      obtain ⟨a1, a2, a3, a4, a5, a6, a7, a8, a9, a10⟩ := x6 p hpn
      exact ⟨a1, a2, a3, a4, a5, a6, a7, a8, fun k hk => by rw [oldp p hpn _ (by omega)]; exact a9 k hk, fun k hk => by rw [oldp p hpn _ (by omega)]; exact a10 k hk⟩
    · have : p = np := by omega
      subst this
      unfold pOk
      rw [nNew_at _ _ _ _ _ _ _ (by decide), nNew_at _ _ _ _ _ _ _ (by decide), nNew_at _ _ _ _ _ _ _ (by decide), nNew_at _ _ _ _ _ _ _ (by decide), nNew_at _ _ _ _ _ _ _ (by decide), nNew_at _ _ _ _ _ _ _ (by decide), nNew_at _ _ _ _ _ _ _ (by decide), nNew_at _ _ _ _ _ _ _ (by decide)]
      simp
      refine ⟨p1, p2, p3, p4, by omega, by omega, fun k hk => ?_, fun k hk => ?_⟩
      · rw [nNew_hi _ _ _ _ _ _ _ (by omega) (by omega)]; simp
      · rw [nNew_hi _ _ _ _ _ _ _ (by omega) (by omega)]; simp
  · intro p hp
    by_cases hpn : p < np
    · rw [oldp p hpn _ (by decide), oldp p hpn _ (by decide), gr p hpn 12 (by decide)]; exact h2 p hpn
    · have : p = np := by omega
      subst this
      rw [gz 12 (by decide), nNew_at _ _ _ _ _ _ _ (by decide), nNew_at _ _ _ _ _ _ _ (by decide)]
      simp
      omega
