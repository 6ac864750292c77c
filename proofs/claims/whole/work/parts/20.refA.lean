/-! ===== changes of one number keep the ranges ===== -/
theorem nOk.set {B : Int} {np : Nat} {N : Nat → Int} (h : nOk B np N) {w : Nat} {b : Int} (hw : w < 9) (hb : leastOf w ≤ b ∧ b ≤ mostOf w) : nOk B np (fu N (5 + w) b) := by
  obtain ⟨h1, h2, h3, h4, h5, h6⟩ := h
  have hp : ∀ p j, pF (fu N (5 + w) b) p j = pF N p j := fun p j => fu_ne _ _ _ (by omega)
  refine ⟨h1, by rw [fu_ne _ _ _ (by omega)]; exact h2, h3, ?_, fun f hf => by rw [fu_ne _ _ _ (by omega)]; exact h5 f hf, fun q hq => ?_⟩
  · have e : ∀ i, fu N (5 + w) b i = if i = 5 + w then b else N i := fun _ => rfl
    unfold leastOf mostOf at hb
    rw [e 5, e 6, e 7, e 8, e 9, e 10, e 11, e 12, e 13]
    match w, hw with
    | 0, _ => simp only [reduceIte, Nat.reduceAdd, Nat.reduceEqDiff] at hb ⊢; omega
    | 1, _ => simp only [reduceIte, Nat.reduceAdd, Nat.reduceEqDiff] at hb ⊢; omega
    | 2, _ => simp only [reduceIte, Nat.reduceAdd, Nat.reduceEqDiff] at hb ⊢; omega
    | 3, _ => simp only [reduceIte, Nat.reduceAdd, Nat.reduceEqDiff] at hb ⊢; omega
    | 4, _ => simp only [reduceIte, Nat.reduceAdd, Nat.reduceEqDiff] at hb ⊢; omega
    | 5, _ => simp only [reduceIte, Nat.reduceAdd, Nat.reduceEqDiff] at hb ⊢; omega
    | 6, _ => simp only [reduceIte, Nat.reduceAdd, Nat.reduceEqDiff] at hb ⊢; omega
    | 7, _ => simp only [reduceIte, Nat.reduceAdd, Nat.reduceEqDiff] at hb ⊢; omega
    | 8, _ => simp only [reduceIte, Nat.reduceAdd, Nat.reduceEqDiff] at hb ⊢; omega
  · have := h6 q hq
    unfold pOk at this ⊢
    simp only [hp]
    exact this
theorem nG.of {B : Int} {np : Nat} {N N' : Nat → Int} (h : nG B np N) (h4 : ∀ p, p < np → pF N' p 4 = pF N p 4) (h5 : ∀ p, p < np → pF N' p 5 = pF N p 5) (h1 : ∀ p, p < np → pF N' p 1 = pF N p 1) (hl : ∀ p, p < np → ∀ i, i < 12 → pF N' p (24 + i) = pF N p (24 + i)) : nG B np N' := fun p hp => by
  rw [h4 p hp, h5 p hp, nGr_congr (h1 p hp) 12 (hl p hp)]; exact h p hp
theorem nV.set {B : Int} {np : Nat} {N : Nat → Int} (h : nV B np N) {w : Nat} {b : Int} (hw : w < 9) (hb : leastOf w ≤ b ∧ b ≤ mostOf w) : nV B np (fu N (5 + w) b) := by
  have hp : ∀ p j, pF (fu N (5 + w) b) p j = pF N p j := fun p j => fu_ne _ _ _ (by omega)
  exact ⟨h.1.set hw hb, h.2.of (fun p _ => hp p 4) (fun p _ => hp p 5) (fun p _ => hp p 1) (fun p _ i _ => hp p _)⟩
theorem nV.fam {B : Int} {np : Nat} {N : Nat → Int} (h : nV B np N) {f : Nat} {b : Int} (hf : f < 4) (hb : 0 ≤ b ∧ b ≤ 50) : nV B np (fu N (14 + f) b) := by
  obtain ⟨⟨h1, h2, h3, h4, h5, h6⟩, hG⟩ := h
  have hp : ∀ p j, pF (fu N (14 + f) b) p j = pF N p j := fun p j => fu_ne _ _ _ (by omega)
  have hd : ∀ i, i < 14 → fu N (14 + f) b i = N i := fun i hi => fu_ne _ _ _ (by omega)
  refine ⟨⟨h1, by rw [hd 1 (by decide)]; exact h2, h3, ?_, fun g hg => ?_, fun q hq => ?_⟩, hG.of (fun p _ => hp p 4) (fun p _ => hp p 5) (fun p _ => hp p 1) (fun p _ i _ => hp p _)⟩
  · rw [hd 5 (by decide), hd 6 (by decide), hd 7 (by decide), hd 8 (by decide), hd 9 (by decide), hd 10 (by decide), hd 11 (by decide), hd 12 (by decide), hd 13 (by decide)]
    exact h4
  · unfold fu
    split
    · exact hb
    · exact h5 g hg
  · have := h6 q hq
    unfold pOk at this ⊢
    simp only [hp]
    exact this
theorem nV.hd {B : Int} {np : Nat} {N : Nat → Int} (h : nV B np N) {i : Nat} (e : Int) (hi : i = 0 ∨ i = 2 ∨ i = 3 ∨ i = 4) : nV B np (fu N i e) := by
  have hp : ∀ p j, pF (fu N i e) p j = pF N p j := fun p j => fu_ne _ _ _ (by omega)
  exact ⟨h.1.hd e hi, h.2.of (fun p _ => hp p 4) (fun p _ => hp p 5) (fun p _ => hp p 1) (fun p _ i _ => hp p _)⟩
theorem nOk.fcs {B : Int} {np : Nat} {N : Nat → Int} (h : nOk B np N) {p : Nat} {v : Int} {k : Nat} (hp : p < np) (hk : k < 12) (hv : 0 ≤ v ∧ v ≤ 1000) : nOk B np (fu N (18 + 36 * p + (12 + k)) v) := by
  obtain ⟨h1, h2, h3, h4, h5, h6⟩ := h
  have hd : ∀ i, i < 18 → fu N (18 + 36 * p + (12 + k)) v i = N i := fun i hi => fu_ne N _ v (by omega)
  refine ⟨h1, by rw [hd 1 (by decide)]; exact h2, h3, ?_, fun f hf => by rw [hd _ (by omega)]; exact h5 f hf, fun q hq => ?_⟩
  · rw [hd 5 (by decide), hd 6 (by decide), hd 7 (by decide), hd 8 (by decide), hd 9 (by decide), hd 10 (by decide), hd 11 (by decide), hd 12 (by decide), hd 13 (by decide)]
    exact h4
  · have hq0 := h6 q hq
    have e : ∀ j, j < 36 → pF (fu N (18 + 36 * p + (12 + k)) v) q j = if q = p ∧ j = 12 + k then v else pF N q j := fun j hj => pF_fuP N p _ v (by omega) hj
    unfold pOk
    rw [e 0 (by decide), e 1 (by decide), e 2 (by decide), e 3 (by decide), e 4 (by decide), e 5 (by decide), e 6 (by decide), e 7 (by decide)]
    simp only [show ¬ (q = p ∧ 0 = 12 + k) by omega, show ¬ (q = p ∧ 1 = 12 + k) by omega, show ¬ (q = p ∧ 2 = 12 + k) by omega, show ¬ (q = p ∧ 3 = 12 + k) by omega, show ¬ (q = p ∧ 4 = 12 + k) by omega, show ¬ (q = p ∧ 5 = 12 + k) by omega, show ¬ (q = p ∧ 6 = 12 + k) by omega, show ¬ (q = p ∧ 7 = 12 + k) by omega, if_false]
    obtain ⟨a1, a2, a3, a4, a5, a6, a7, a8, a9, a10⟩ := hq0
    refine ⟨a1, a2, a3, a4, a5, a6, a7, a8, fun i hi => ?_, fun i hi => ?_⟩
    · rw [e _ (by omega)]
      split
      · exact hv
      · exact a9 i hi
    · rw [e _ (by omega), if_neg (by omega)]; exact a10 i hi
theorem nOk.told {B : Int} {np : Nat} {N : Nat → Int} (h : nOk B np N) {p : Nat} {v : Int} (hp : p < np) (hv : v = -6 ∨ (0 ≤ v ∧ v ≤ 2000)) : nOk B np (fu N (18 + 36 * p + (7)) v) := by
  obtain ⟨h1, h2, h3, h4, h5, h6⟩ := h
  have hd : ∀ i, i < 18 → fu N (18 + 36 * p + (7)) v i = N i := fun i hi => fu_ne N _ v (by omega)
  refine ⟨h1, by rw [hd 1 (by decide)]; exact h2, h3, ?_, fun f hf => by rw [hd _ (by omega)]; exact h5 f hf, fun q hq => ?_⟩
  · rw [hd 5 (by decide), hd 6 (by decide), hd 7 (by decide), hd 8 (by decide), hd 9 (by decide), hd 10 (by decide), hd 11 (by decide), hd 12 (by decide), hd 13 (by decide)]
    exact h4
  · have hq0 := h6 q hq
    have e : ∀ j, j < 36 → pF (fu N (18 + 36 * p + (7)) v) q j = if q = p ∧ j = 7 then v else pF N q j := fun j hj => pF_fuP N p _ v (by omega) hj
    unfold pOk
    rw [e 0 (by decide), e 1 (by decide), e 2 (by decide), e 3 (by decide), e 4 (by decide), e 5 (by decide), e 6 (by decide), e 7 (by decide)]
    simp only [show ¬ (q = p ∧ 0 = 7) by omega, show ¬ (q = p ∧ 1 = 7) by omega, show ¬ (q = p ∧ 2 = 7) by omega, show ¬ (q = p ∧ 3 = 7) by omega, show ¬ (q = p ∧ 4 = 7) by omega, show ¬ (q = p ∧ 5 = 7) by omega, show ¬ (q = p ∧ 6 = 7) by omega, if_false]
    obtain ⟨a1, a2, a3, a4, a5, a6, a7, a8, a9, a10⟩ := hq0
    refine ⟨a1, a2, a3, a4, a5, a6, a7, ?_, fun i hi => ?_, fun i hi => ?_⟩
    · split
      · exact hv
      · exact a8
    · rw [e _ (by omega), if_neg (by omega)]; exact a9 i hi
    · rw [e _ (by omega), if_neg (by omega)]; exact a10 i hi
theorem nV.fcs {B : Int} {np : Nat} {N : Nat → Int} (h : nV B np N) {p k : Nat} {v : Int} (hp : p < np) (hk : k < 12) (hv : 0 ≤ v ∧ v ≤ 1000) : nV B np (fu N (18 + 36 * p + (12 + k)) v) := by
  have e : ∀ q j, j < 36 → ¬ (j = 12 + k) → pF (fu N (18 + 36 * p + (12 + k)) v) q j = pF N q j := fun q j hj h => by rw [pF_fuP N p _ v (by omega) hj, if_neg (by omega)]
  exact ⟨h.1.fcs hp hk hv, h.2.of (fun q _ => e q 4 (by decide) (by omega)) (fun q _ => e q 5 (by decide) (by omega)) (fun q _ => e q 1 (by decide) (by omega)) (fun q _ i hi => e q _ (by omega) (by omega))⟩
theorem nV.told {B : Int} {np : Nat} {N : Nat → Int} (h : nV B np N) {p : Nat} {v : Int} (hp : p < np) (hv : v = -6 ∨ (0 ≤ v ∧ v ≤ 2000)) : nV B np (fu N (18 + 36 * p + 7) v) := by
  have e : ∀ q j, j < 36 → ¬ (j = 7) → pF (fu N (18 + 36 * p + 7) v) q j = pF N q j := fun q j hj h => by rw [pF_fuP N p _ v (by omega) hj, if_neg (by omega)]
  exact ⟨h.1.told hp hv, h.2.of (fun q _ => e q 4 (by decide) (by omega)) (fun q _ => e q 5 (by decide) (by omega)) (fun q _ => e q 1 (by decide) (by omega)) (fun q _ i hi => e q _ (by omega) (by omega))⟩
theorem nGr_put (N : Nat → Int) (p w : Nat) (v : Int) (hw : w < 12) : ∀ k, k ≤ 12 → nGr (fu N (18 + 36 * p + (24 + w)) v) p k = nGr N p k + (if w < k then (v - pF N p (24 + w)) * pF N p 1 else 0) := by
  have e : ∀ j, j < 36 → pF (fu N (18 + 36 * p + (24 + w)) v) p j = if j = 24 + w then v else pF N p j := fun j hj => by rw [pF_fuP N p _ v (by omega) hj]; simp
  intro k
  induction k with
  | zero => intro _; rfl
  | succ k ih =>
    intro hk
    show nGr _ p k + pF _ p (24 + k) * pF _ p 1 = nGr N p k + pF N p (24 + k) * pF N p 1 + _
    rw [ih (by omega), e _ (by omega), e 1 (by decide), if_neg (show ¬ 1 = 24 + w by omega)]
    by_cases h : w = k
    · subst h
      rw [if_pos rfl, if_neg (by omega), if_pos (by omega), Int.sub_mul]; omega
    · rw [if_neg (show ¬ 24 + k = 24 + w by omega)]
      by_cases h2 : w < k
      · rw [if_pos h2, if_pos (by omega)]; omega
      · rw [if_neg h2, if_neg (by omega)]; omega
theorem nV.lots {B : Int} {np : Nat} {N : Nat → Int} (h : nV B np N) (hB : B + 100000 ≤ 2100000000) {p w : Nat} {v : Int} (hp : p < np) (hw : w < 12) (hv : 0 ≤ v ∧ v ≤ 1000) : nV (B + 100000) np (nSet N p w v) := by
  have h' := h.mono (B' := B + 100000) (by omega) hB
  refine ⟨h'.1.put hp hw hv, fun q hq => ?_⟩
  have e : ∀ q j, j < 36 → ¬ (j = 24 + w) → pF (nSet N p w v) q j = pF N q j := fun q j hj h => by unfold nSet; rw [pF_fuP N p _ v (by omega) hj, if_neg (by omega)]
  rw [e q 4 (by decide) (by omega), e q 5 (by decide) (by omega)]
  have hg := h.2 q hq
  refine ⟨?_, by omega⟩
  by_cases hqp : q = p
  · subst hqp
    unfold nSet
    rw [nGr_put N q w v hw 12 (Nat.le_refl _), if_pos hw, Int.sub_mul]
    have hl := h.1.lots hq hw
    obtain ⟨-, h1, -⟩ := h.1.2.2.2.2.2 q hq
    have m1 := Int.mul_nonneg hl.1 (show 0 ≤ pF N q 1 by omega)
    have m2 : v * pF N q 1 ≤ 1000 * 100 := Int.mul_le_mul hv.2 h1.2 (by omega) (by omega)
    omega
  · rw [nGr_congr (N := N) (e q 1 (by decide) (by omega)) 12 (fun i hi => by unfold nSet; rw [pF_fuP N p _ v (by omega) (by omega), if_neg (by omega)])]
    omega
def rTold (q : Nat → Int) : Nat → Int := fu q 7 (-6)
theorem nV.forget {B : Int} {np : Nat} {N : Nat → Int} (h : nV B np N) : nV B np (nMap N np rTold) := by
  have e : ∀ p j, p < np → j < 36 → j ≠ 7 → pF (nMap N np rTold) p j = pF N p j := fun p j hp hj h7 => by rw [nMap_at N _ hp hj]; exact fu_ne _ _ _ h7
  refine ⟨h.1.map h.1.1 (Int.le_refl _) (Nat.le_refl _) fun p hp => ?_, h.2.of (fun p hp => e p 4 hp (by decide) (by decide)) (fun p hp => e p 5 hp (by decide) (by decide)) (fun p hp => e p 1 hp (by decide) (by decide)) (fun p hp i hi => e p _ hp (by omega) (by omega))⟩
  obtain ⟨a1, a2, a3, a4, a5, a6, a7, a8, a9, a10⟩ := h.1.2.2.2.2.2 p hp
  unfold pOk
  rw [e p 0 hp (by decide) (by decide), e p 1 hp (by decide) (by decide), e p 2 hp (by decide) (by decide), e p 3 hp (by decide) (by decide), e p 4 hp (by decide) (by decide), e p 5 hp (by decide) (by decide), e p 6 hp (by decide) (by decide)]
  refine ⟨a1, a2, a3, a4, a5, a6, a7, Or.inl (by rw [nMap_at N _ hp (by decide)]; rfl), fun i hi => by rw [e p _ hp (by omega) (by omega)]; exact a9 i hi, fun i hi => by rw [e p _ hp (by omega) (by omega)]; exact a10 i hi⟩
/-! what lies behind the products stays -/
def nTl (np : Nat) (N M : Nat → Int) : Prop := ∀ i, 18 + 36 * np ≤ i → M i = N i
theorem nTl.fu {np : Nat} {N M : Nat → Int} (h : nTl np N M) {j : Nat} (e : Int) (hj : j < 18 + 36 * np) : nTl np N (fu M j e) := fun i hi => by rw [fu_ne _ _ _ (by omega)]; exact h i hi
theorem nTl.map {np : Nat} {N M : Nat → Int} (h : nTl np N M) (F : (Nat → Int) → Nat → Int) : nTl np N (nMap M np F) := fun i hi => by
  rw [show nMap M np F i = M i from if_neg (by omega)]; exact h i hi
theorem nTl.pw {np w : Nat} {N : Nat → Int} (hw : w < 12) : ∀ m asked M, nTl np N M → nTl np N (nPW np w m asked M) := by
  intro m
  induction m with
  | zero => intro asked M h; exact h
  | succ m ih =>
    intro asked M h
    unfold nPW
    split
    · exact h
    · rename_i h6
      obtain ⟨b, h1, h2, -⟩ := (nNext_in M w asked np).resolve_left h6
      rw [h1]
      exact ih _ _ (h.fu _ (by simp only [Int.toNat_natCast]; omega))
theorem nTl.plw {np f : Nat} {N : Nat → Int} : ∀ j M, f + j ≤ 12 → nTl np N M → nTl np N (nPlW np f j M) := by
  intro j
  induction j with
  | zero => intro M _ h; exact h
  | succ j ih => intro M hj h; exact nTl.pw (by omega) _ _ _ (ih M (by omega) h)
theorem nTl.plan {np f : Nat} {N M : Nat → Int} (hf : f ≤ 8) (h : nTl np N M) : nTl np N (nPlan np f M) := nTl.plw _ _ (by omega) (h.map _)
theorem nTl.pass {np f : Nat} {N M : Nat → Int} (hf : f ≤ 8) (h : nTl np N M) : nTl np N (nPass np f M) := by
  unfold nPass nStep nHd
  exact nTl.plan hf (((((((h.map _).fu _ (by omega)).fu _ (by omega)).fu _ (by omega)).map _)).fu _ (by omega))
theorem nTl.ps {np f : Nat} {N : Nat → Int} (hf : f ≤ 8) : ∀ k M, nTl np N M → nTl np N (nPs np f k M) := by
  intro k
  induction k with
  | zero => intro M h; exact h
  | succ k ih => intro M h; exact nTl.pass hf (ih M h)
theorem kBack {np : Nat} (hnp : np ≤ 10) (K N M : Nat → Int) (h : nTl np N M) : kGet (kPut K 8 N 378) 8 M 378 = N := by
  funext i
  unfold kGet kPut
  split
  · rw [if_pos (by omega), show 8 * 378 + i - 8 * 378 = i by omega]
  · exact h i (by omega)
/-! what a week costs -/
theorem nPass_cost {B : Int} {np f : Nat} {N : Nat → Int} (h : nV B np N) (hB : B + 2000 ≤ 2100000000) : 0 ≤ nPass np f N 4 - N 4 ∧ nPass np f N 4 - N 4 ≤ 4300000000000 := by
  have hS := pOk_ship h hB (Nat.le_refl np)
  unfold nPass nStep
  rw [nPlan_hd _ _ _ (by decide), fu_ne _ _ _ (by decide), nMap_hd _ _ _ (by decide)]
  have e1 : nMap N np rShip 4 = N 4 := nMap_hd _ _ _ (by decide)
  generalize nMap N np rShip = N1 at hS e1 ⊢
  have hs := hS.2.2.2.1
  have hnp := hS.np.2
  have h3 : nOk (B + 2000) np (fu (fu N1 2 (N1 2 + nSetups N1 np 0)) 3 (fu N1 2 (N1 2 + nSetups N1 np 0) 3 + nOver N1 np 0)) := (hS.hd _ (by omega)).hd _ (by omega)
  have hst : 0 ≤ nSetups N1 np 0 ∧ nSetups N1 np 0 ≤ 14 := by
    have h1 : ∀ k, 0 ≤ nMade N1 0 k ∧ nMade N1 0 k ≤ k := by
      intro k
      induction k with
      | zero => unfold nMade; omega
      | succ k ih => unfold nMade; split <;> omega
    have h2 := h1 np
    have h3 := nBits_le (nMask N1 0 np) 4
    unfold nSetups
    omega
  have hov : 0 ≤ nOver N1 np 0 ∧ nOver N1 np 0 ≤ 500400 := by
    have := nHours_le hS (w := 0) (by decide)
    unfold nOver
    split <;> omega
  unfold nHd
  rw [fu_at]
  generalize hN3 : fu (fu N1 2 (N1 2 + nSetups N1 np 0)) 3 (fu N1 2 (N1 2 + nSetups N1 np 0) 3 + nOver N1 np 0) = N3 at h3 ⊢
  have e2 : ∀ i, 4 ≤ i → N3 i = N1 i := fun i hi => by rw [← hN3, fu_ne _ _ _ (by omega), fu_ne _ _ _ (by omega)]
  rw [e2 4 (by decide), e2 10 (by decide), e2 11 (by decide), e2 12 (by decide), e2 13 (by decide), e1]
  have s4 := nSum_le h3 (Or.inl rfl) np (Nat.le_refl _)
  have s5 := nSum_le h3 (Or.inr rfl) np (Nat.le_refl _)
  have hBn : (B + 2000) * (np : Int) ≤ 2100000000 * 10 := Int.mul_le_mul hB (by omega) (by omega) (by omega)
  have p1 : 0 ≤ nSetups N1 np 0 * N1 10 := Int.mul_nonneg hst.1 (by omega)
  have p2 : nSetups N1 np 0 * N1 10 ≤ 14 * 1000 := Int.mul_le_mul hst.2 (by omega) (by omega) (by omega)
  have p3 : 0 ≤ nOver N1 np 0 * N1 13 := Int.mul_nonneg hov.1 (by omega)
  have p4 : nOver N1 np 0 * N1 13 ≤ 500400 * 100 := Int.mul_le_mul hov.2 (by omega) (by omega) (by omega)
  have p5 : 0 ≤ nSum N3 4 np * N1 11 := Int.mul_nonneg s4.1 (by omega)
  have p6 : nSum N3 4 np * N1 11 ≤ 21000000000 * 100 := Int.mul_le_mul (by omega) (by omega) (by omega) (by omega)
  have p7 : 0 ≤ nSum N3 5 np * N1 12 := Int.mul_nonneg s5.1 (by omega)
  have p8 : nSum N3 5 np * N1 12 ≤ 21000000000 * 100 := Int.mul_le_mul (by omega) (by omega) (by omega) (by omega)
  omega
theorem nPs_cost {B : Int} {np f : Nat} (hf : f ≤ 8) : ∀ (k : Nat) N, nV B np N → B + 2000 * (k : Int) ≤ 2100000000 → 0 ≤ nPs np f k N 4 - N 4 ∧ nPs np f k N 4 - N 4 ≤ 4300000000000 * (k : Int) := by
  intro k
  induction k with
  | zero => intro N h _; unfold nPs; omega
  | succ k ih =>
    intro N h hB
    have a := ih N h (by omega)
    have b := nPass_cost (f := f) (nPs_I hf k N h (by omega)) (by omega)
    unfold nPs
    omega
theorem nPass_0 (np f : Nat) (N : Nat → Int) : nPass np f N 0 = N 0 + 1 := by
  unfold nPass nStep
  rw [nPlan_hd _ _ _ (by decide), fu_at, nMap_hd _ _ _ (by decide), nHd_ge _ _ (by decide), nMap_hd _ _ _ (by decide)]
theorem nPs_0 (np f : Nat) : ∀ (k : Nat) N, nPs np f k N 0 = N 0 + (k : Int) := by
  intro k
  induction k with
  | zero => intro N; unfold nPs; omega
  | succ k ih => intro N; unfold nPs; rw [nPass_0, ih]; omega
/-- by how much the costs become greater with another fence -/
def nC0 (N : Nat → Int) (np f : Nat) : Nat → Int := nPlan np f (nMap (fu N 7 (f : Int)) np rTold)
def nCost (N : Nat → Int) (np f w : Nat) : Int := nPs np f w (nC0 N np f) 4 - N 4
theorem nC0_V {B : Int} {np f : Nat} {N : Nat → Int} (h : nV B np N) (hf : f ≤ 8) : nV B np (nMap (fu N 7 (f : Int)) np rTold) := (h.set (w := 2) (b := (f : Int)) (by decide) ⟨by show (0 : Int) ≤ _; omega, by show _ ≤ (8 : Int); omega⟩).forget
theorem nCost_le {B : Int} {np f w : Nat} {N : Nat → Int} (h : nV B np N) (hf : f ≤ 8) (hw : w ≤ 12) (hB : B + 24000 ≤ 2100000000) : 0 ≤ nCost N np f w ∧ nCost N np f w ≤ 51600000000000 := by
  have a := nPs_cost hf w (nC0 N np f) (nPlan_I (nC0_V h hf) hf) (by omega)
  have e : nC0 N np f 4 = N 4 := by unfold nC0; rw [nPlan_hd _ _ _ (by decide), nMap_hd _ _ _ (by decide), fu_ne _ _ _ (by decide)]
  unfold nCost
  rw [e] at a
  omega

set_option maxRecDepth 100000 in
set_option maxHeartbeats 4000000 in
theorem c_X5_costsBy {z : Nat} (D : xD) (r : xR) (hr : xRM r) {B : Int} {np : Nat} (hV : nV B np (D 352)) (hW : 0 ≤ D 352 0 ∧ D 352 0 ≤ 2100000000) (hB : B + 24000 ≤ 2100000000) (f w : Nat) (hf : f ≤ 8) (hw : w ≤ 12) : MX 9 mX5_costsBy [.ref 351, vi f, vi w] (356, z) D r (356, z) (xEs (vl (nCost (D 352) np f w)) (fun D' => D' = xw D 353 (kPut (D 353) 8 (D 352) 378)) r) := by
  refine MX.of (by decide +kernel) [some (.ref 351), some (vi f), some (vi w), none, none, none, none] rfl (Nat.le_of_ble_eq_true rfl) ?_
  intro γ hX hRX
  have hn := hV.1.np
  have hC := nC0_V hV hf
  have hC7 : nMap (fu (D 352) 7 (f : Int)) np rTold 7 = (f : Int) := by rw [nMap_hd _ _ _ (by decide), fu_at]
  have hP := nPlan_I hC hf
  have hP7 : nPlan np f (nMap (fu (D 352) 7 (f : Int)) np rTold) 7 = (f : Int) := by rw [nPlan_hd _ _ _ (by decide)]; exact hC7
  have hP0 : nPs np f w (nPlan np f (nMap (fu (D 352) 7 (f : Int)) np rTold)) 0 = D 352 0 + (w : Int) := by rw [nPs_0, nPlan_hd _ _ _ (by decide), nMap_hd _ _ _ (by decide), fu_ne _ _ _ (by decide)]
  have hT : nTl np (D 352) (nPs np f w (nC0 (D 352) np f)) := nTl.ps hf _ _ (nTl.plan hf (((show nTl np (D 352) (D 352) from fun _ _ => rfl).fu _ (by omega)).map _))
  have K : xV γ 55 [some (.ref 351), some (vi f), some (vi w), some (vl (D 352 4)), none, none, none] [] (356, z) (xw (xw D 353 (kPut (D 353) 8 (D 352) 378)) 352 (nMap (fu (D 352) 7 (f : Int)) np rTold)) r := by
    refine v_aload_n (q := 56) hX dX5_costsBy_55 rfl rfl rfl ?_
    refine w_callVn (q := 59) hX (c_X5_plans _ _ hr hC.1 f hC7 hf) rfl kV_X5_plans rfl (by decide) lk_X5_121 (by decide) rfl oX5 (Nat.le_of_ble_eq_true rfl) dX5_costsBy_56 rfl (fun D1 hD1 => ?_)
    subst hD1
    simp only [xw_at, xw_xw]
    refine v_aload_n (q := 60) hX dX5_costsBy_59 rfl rfl rfl ?_
    refine v_iload_n (q := 61) hX dX5_costsBy_60 rfl rfl rfl ?_
    refine w_callVe (q := 64) hX (c_X5_passesWeeks _ _ hr hP f w hP7 hf (by omega) (by omega)) rfl kV_X5_passesWeeks rfl (by decide) lk_X5_177 (by decide) rfl oX5 (Nat.le_of_ble_eq_true rfl) dX5_costsBy_61 rfl (fun D1 hD1 => ?_)
    subst hD1
    simp only [xw_at, xw_xw]
    refine v_if_ge (q := 67) (tgt := 71) hX ⟨by rw [hP0]; omega, by rw [hP0]; omega⟩ dX5_costsBy_64 (by decide) rfl (fun h64 => ?_) (fun h64 => ?_)
    · refine v_aload_n (q := 72) hX dX5_costsBy_71 rfl rfl rfl ?_
      refine w_getR (q := 75) hX fl_X5_7 rfl oX5 hr.1 dX5_costsBy_72 rfl ?_
      refine v_iconst (q := 76) hX dX5_costsBy_75 rfl ?_
      refine w_lld (q := 77) (kk := 4) hX (by omega) (by omega) aNow dX5_costsBy_76 rfl ?_
      simp only [xw_at]
      refine v_lload_n (q := 78) hX dX5_costsBy_77 rfl rfl rfl ?_
      refine v_lsub (q := 79) hX dX5_costsBy_78 rfl ?_
      refine v_lstore (q := 81) hX dX5_costsBy_79 (Nat.le_of_ble_eq_true rfl) (Nat.le_of_ble_eq_true rfl) rfl ?_
      dsimp only [xs1, xs2, xclr]
      refine v_aload_n (q := 82) hX dX5_costsBy_81 rfl rfl rfl ?_
      refine v_bipush (q := 84) hX (by decide) dX5_costsBy_82 rfl ?_
      refine w_callVn (q := 87) hX (c_X5_brings _ _ hr 8 (by decide)) rfl kV_X5_brings rfl (by decide) lk_X5_53 (by decide) rfl oX5 (Nat.le_of_ble_eq_true rfl) dX5_costsBy_84 rfl (fun D1 hD1 => ?_)
      subst hD1
      refine v_lload (q := 89) hX dX5_costsBy_87 rfl rfl ?_
      refine v_lreturn hX hRX rfl dX5_costsBy_89 rfl ?_
      refine ⟨rfl, rfl, ?_⟩
      rw [xw_xw]
      show xw (xw D 353 (kPut (D 353) 8 (D 352) 378)) 352 (kGet (kPut (D 353) 8 (D 352) 378) 8 (nPs np f w (nC0 (D 352) np f)) 378) = _
      rw [kBack hn.2 _ _ _ hT]
      exact xw_self (xw D 353 (kPut (D 353) 8 (D 352) 378)) 352
    · exact absurd h64 (by rw [hP0]; omega)
  have L : ∀ p, p ≤ np → xV γ 25 [some (.ref 351), some (vi f), some (vi w), some (vl (D 352 4)), none, some (vi (p : Nat)), none] [] (356, z) (xw (xw D 353 (kPut (D 353) 8 (D 352) 378)) 352 (nMap (fu (D 352) 7 (f : Int)) p rTold)) r := by
    refine xup np (fun p hp ih => ?_)
    have hN1 : nMap (fu (D 352) 7 (f : Int)) p rTold 1 = (np : Int) := by rw [nMap_hd _ _ _ (by decide), fu_ne _ _ _ (by decide)]; exact hn.1
    refine v_iload (q := 27) hX dX5_costsBy_25 rfl rfl ?_
    refine v_i2l (q := 28) hX ⟨by omega, by omega⟩ dX5_costsBy_27 rfl ?_
    refine v_aload_n (q := 29) hX dX5_costsBy_28 rfl rfl rfl ?_
    refine w_getR (q := 32) hX fl_X5_7 rfl oX5 hr.1 dX5_costsBy_29 rfl ?_
    refine v_iconst (q := 33) hX dX5_costsBy_32 rfl ?_
    refine w_lld (q := 34) (kk := 1) hX (by omega) (by omega) aNow dX5_costsBy_33 rfl ?_
    try simp only [xw_at]
    rw [hN1]
    refine v_lcmp_ge (q := 38) (tgt := 55) hX ⟨by omega, by omega⟩ ⟨by omega, by omega⟩ dX5_costsBy_34 dX5_costsBy_35 (by decide) rfl (fun h34 => ?_) (fun h34 => ?_)
    · obtain rfl : p = np := by omega
      exact xVw (by repeat' first | exact trivial | refine And.intro rfl ?_) K
    · refine v_aload_n (q := 39) hX dX5_costsBy_38 rfl rfl rfl ?_
      refine v_iload (q := 41) hX dX5_costsBy_39 rfl rfl ?_
      refine v_bipush (q := 43) hX (by decide) dX5_costsBy_41 rfl ?_
      refine v_ldc2 (q := 46) (e := -6) hX (by decide) kl_X5_76 dX5_costsBy_43 rfl ?_
      refine w_callVn (q := 49) hX (c_X5_becomes _ _ hr p 7 _ (by omega)) rfl kV_X5_becomes rfl (by decide) lk_X5_72 (by decide) rfl oX5 (Nat.le_of_ble_eq_true rfl) dX5_costsBy_46 rfl (fun D1 hD1 => ?_)
      subst hD1
      rw [xw_xw, xw_at]
      refine v_iinc (q := 52) hX dX5_costsBy_49 rfl (Nat.le_of_ble_eq_true rfl) (Nat.le_of_ble_eq_true rfl) rfl ?_
      dsimp only [xs1, xs2, xclr]
      refine v_goto (tgt := 25) hX dX5_costsBy_52 (by decide) ?_
      have e1 := ih (by omega)
      rw [← nMap_succ] at e1
      have e3 : fu (nMap (fu (D 352) 7 (f : Int)) p rTold) (18 + 36 * p + 7) (-6) = nUpd (nMap (fu (D 352) 7 (f : Int)) p rTold) p (rTold (nRec (nMap (fu (D 352) 7 (f : Int)) p rTold) p)) := by
        have e4 := nUpd_fu (nMap (fu (D 352) 7 (f : Int)) p rTold) p (nRec (nMap (fu (D 352) 7 (f : Int)) p rTold) p) (-6) (show 7 < 36 by decide)
        rw [nUpd_self] at e4
        exact e4
      rw [e3]
      exact e1
  refine v_aload_n (q := 1) hX dX5_costsBy_0 rfl rfl rfl ?_
  refine v_bipush (q := 3) hX (by decide) dX5_costsBy_1 rfl ?_
  refine w_callVn (q := 6) hX (c_X5_keeps _ _ hr 8 (by decide)) rfl kV_X5_keeps rfl (by decide) lk_X5_49 (by decide) rfl oX5 (Nat.le_of_ble_eq_true rfl) dX5_costsBy_3 rfl (fun D1 hD1 => ?_)
  subst hD1
  refine v_aload_n (q := 7) hX dX5_costsBy_6 rfl rfl rfl ?_
  refine w_getR (q := 10) hX fl_X5_7 rfl oX5 hr.1 dX5_costsBy_7 rfl ?_
  refine v_iconst (q := 11) hX dX5_costsBy_10 rfl ?_
  refine w_lld (q := 12) (kk := 4) hX (by omega) (by omega) aNow dX5_costsBy_11 rfl ?_
  rw [show ∀ g, xw D 353 g 352 = D 352 from fun _ => rfl]
  refine v_lstore_n (q := 13) hX dX5_costsBy_12 rfl (Nat.le_of_ble_eq_true rfl) (Nat.le_of_ble_eq_true rfl) rfl ?_
  dsimp only [xs1, xs2, xclr]
  refine v_aload_n (q := 14) hX dX5_costsBy_13 rfl rfl rfl ?_
  refine w_getR (q := 17) hX fl_X5_7 rfl oX5 hr.1 dX5_costsBy_14 rfl ?_
  refine v_bipush (q := 19) hX (by decide) dX5_costsBy_17 rfl ?_
  refine v_iload_n (q := 20) hX dX5_costsBy_19 rfl rfl rfl ?_
  refine v_i2l (q := 21) hX ⟨by omega, by omega⟩ dX5_costsBy_20 rfl ?_
  refine w_lst (q := 22) (kk := 7) hX (rfl) (by decide) aNow dX5_costsBy_21 rfl ?_
  rw [xu_xw, show ∀ g, xw D 353 g 352 = D 352 from fun _ => rfl]
  refine v_iconst (q := 23) hX dX5_costsBy_22 rfl ?_
  refine v_istore (q := 25) hX dX5_costsBy_23 (Nat.le_of_ble_eq_true rfl) (Nat.le_of_ble_eq_true rfl) rfl ?_
  dsimp only [xs1, xs2, xclr]
  have e1 := L 0 (Nat.zero_le _)
  rw [nMap_0] at e1
  exact xVw (by repeat' first | exact trivial | refine And.intro rfl ?_) e1

