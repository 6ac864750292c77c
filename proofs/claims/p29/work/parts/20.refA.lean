theorem nOk.set {B : Int} {np : Nat} {N : Nat → Int} (h : nOk B np N) {w : Nat} {b : Int} (hw : w < 9) (hb : leastOf w ≤ b ∧ b ≤ mostOf w) : nOk B np (fu N (5 + w) b) := by
  obtain ⟨h1, h2, h3, h4, h5, h6⟩ := h
  have hp : ∀ p j, pF (fu N (5 + w) b) p j = pF N p j := fun p j => fu_ne _ _ _ (by omega)
  refine ⟨h1, by rw [fu_ne _ _ _ (by omega)]; exact h2, h3, ?_, fun f hf => by rw [fu_ne _ _ _ (by omega)]; exact h5 f hf, fun q hq => ?_⟩
  · have e : ∀ i, fu N (5 + w) b i = if i = 5 + w then b else N i := fun _ => rfl
    unfold leastOf mostOf at hb
    rw [e 5, e 6, e 7, e 8, e 9, e 10, e 11, e 12, e 13]
    match w, hw with
    | 0, _ => simp only [reduceIte, Nat.reduceAdd, Nat.reduceEqDiff] at hb ⊢; omega
    | 1, _ => simp only [reduceIte, Nat.reduceAdd, Nat.reduceEqDiff] at hb ⊢; omega
    | 2, _ => simp only [reduceIte, Nat.reduceAdd, Nat.reduceEqDiff] at hb ⊢; omega
    | 3, _ => simp only [reduceIte, Nat.reduceAdd, Nat.reduceEqDiff] at hb ⊢; omega
    | 4, _ => simp only [reduceIte, Nat.reduceAdd, Nat.reduceEqDiff] at hb ⊢; omega
    | 5, _ => simp only [reduceIte, Nat.reduceAdd, Nat.reduceEqDiff] at hb ⊢; omega
    | 6, _ => simp only [reduceIte, Nat.reduceAdd, Nat.reduceEqDiff] at hb ⊢; omega
    | 7, _ => simp only [reduceIte, Nat.reduceAdd, Nat.reduceEqDiff] at hb ⊢; omega
    | 8, _ => simp only [reduceIte, Nat.reduceAdd, Nat.reduceEqDiff] at hb ⊢; omega
  · have := h6 q hq
    unfold pOk at this ⊢
    simp only [hp]
    exact this
theorem nG.of {B : Int} {np : Nat} {N N' : Nat → Int} (h : nG B np N) (h4 : ∀ p, p < np → pF N' p 4 = pF N p 4) (h5 : ∀ p, p < np → pF N' p 5 = pF N p 5) (h1 : ∀ p, p < np → pF N' p 1 = pF N p 1) (hl : ∀ p, p < np → ∀ i, i < 12 → pF N' p (24 + i) = pF N p (24 + i)) : nG B np N' := fun p hp => by
  rw [h4 p hp, h5 p hp, nGr_congr (h1 p hp) 12 (hl p hp)]; exact h p hp
theorem nV.set {B : Int} {np : Nat} {N : Nat → Int} (h : nV B np N) {w : Nat} {b : Int} (hw : w < 9) (hb : leastOf w ≤ b ∧ b ≤ mostOf w) : nV B np (fu N (5 + w) b) := by
  have hp : ∀ p j, pF (fu N (5 + w) b) p j = pF N p j := fun p j => fu_ne _ _ _ (by omega)
  exact ⟨h.1.set hw hb, h.2.of (fun p _ => hp p 4) (fun p _ => hp p 5) (fun p _ => hp p 1) (fun p _ i _ => hp p _)⟩
theorem nV.fam {B : Int} {np : Nat} {N : Nat → Int} (h : nV B np N) {f : Nat} {b : Int} (hf : f < 4) (hb : 0 ≤ b ∧ b ≤ 50) : nV B np (fu N (14 + f) b) := by
  obtain ⟨⟨h1, h2, h3, h4, h5, h6⟩, hG⟩ := h
  have hp : ∀ p j, pF (fu N (14 + f) b) p j = pF N p j := fun p j => fu_ne _ _ _ (by omega)
  have hd : ∀ i, i < 14 → fu N (14 + f) b i = N i := fun i hi => fu_ne _ _ _ (by omega)
  refine ⟨⟨h1, by rw [hd 1 (by decide)]; exact h2, h3, ?_, fun g hg => ?_, fun q hq => ?_⟩, hG.of (fun p _ => hp p 4) (fun p _ => hp p 5) (fun p _ => hp p 1) (fun p _ i _ => hp p _)⟩
  · rw [hd 5 (by decide), hd 6 (by decide), hd 7 (by decide), hd 8 (by decide), hd 9 (by decide), hd 10 (by decide), hd 11 (by decide), hd 12 (by decide), hd 13 (by decide)]
    exact h4
  · unfold fu
    split
    · exact hb
    · exact h5 g hg
  · have := h6 q hq
    unfold pOk at this ⊢
    simp only [hp]
    exact this
theorem nV.hd {B : Int} {np : Nat} {N : Nat → Int} (h : nV B np N) {i : Nat} (e : Int) (hi : i = 0 ∨ i = 2 ∨ i = 3 ∨ i = 4) : nV B np (fu N i e) := by
  have hp : ∀ p j, pF (fu N i e) p j = pF N p j := fun p j => fu_ne _ _ _ (by omega)
  exact ⟨h.1.hd e hi, h.2.of (fun p _ => hp p 4) (fun p _ => hp p 5) (fun p _ => hp p 1) (fun p _ i _ => hp p _)⟩
theorem nOk.fcs {B : Int} {np : Nat} {N : Nat → Int} (h : nOk B np N) {p : Nat} {v : Int} {k : Nat} (hp : p < np) (hk : k < 12) (hv : 0 ≤ v ∧ v ≤ 1000) : nOk B np (fu N (18 + 36 * p + (12 + k)) v) := by
  obtain ⟨h1, h2, h3, h4, h5, h6⟩ := h
  have hd : ∀ i, i < 18 → fu N (18 + 36 * p + (12 + k)) v i = N i := fun i hi => fu_ne N _ v (by omega)
  refine ⟨h1, by rw [hd 1 (by decide)]; exact h2, h3, ?_, fun f hf => by rw [hd _ (by omega)]; exact h5 f hf, fun q hq => ?_⟩
  · rw [hd 5 (by decide), hd 6 (by decide), hd 7 (by decide), hd 8 (by decide), hd 9 (by decide), hd 10 (by decide), hd 11 (by decide), hd 12 (by decide), hd 13 (by decide)]
    exact h4
  · have hq0 := h6 q hq
    have e : ∀ j, j < 36 → pF (fu N (18 + 36 * p + (12 + k)) v) q j = if q = p ∧ j = 12 + k then v else pF N q j := fun j hj => pF_fuP N p _ v (by omega) hj
    unfold pOk
    rw [e 0 (by decide), e 1 (by decide), e 2 (by decide), e 3 (by decide), e 4 (by decide), e 5 (by decide), e 6 (by decide), e 7 (by decide)]
    simp only [show ¬ (q = p ∧ 0 = 12 + k) by omega, show ¬ (q = p ∧ 1 = 12 + k) by omega, show ¬ (q = p ∧ 2 = 12 + k) by omega, show ¬ (q = p ∧ 3 = 12 + k) by omega, show ¬ (q = p ∧ 4 = 12 + k) by omega, show ¬ (q = p ∧ 5 = 12 + k) by omega, show ¬ (q = p ∧ 6 = 12 + k) by omega, show ¬ (q = p ∧ 7 = 12 + k) by omega, if_false]
    obtain ⟨a1, a2, a3, a4, a5, a6, a7, a8, a9, a10⟩ := hq0
    refine ⟨a1, a2, a3, a4, a5, a6, a7, a8, fun i hi => ?_, fun i hi => ?_⟩
    · rw [e _ (by omega)]
      split
      · exact hv
      · exact a9 i hi
    · rw [e _ (by omega), if_neg (by omega)]; exact a10 i hi
theorem nOk.told {B : Int} {np : Nat} {N : Nat → Int} (h : nOk B np N) {p : Nat} {v : Int} (hp : p < np) (hv : v = -6 ∨ (0 ≤ v ∧ v ≤ 2000)) : nOk B np (fu N (18 + 36 * p + (7)) v) := by
  obtain ⟨h1, h2, h3, h4, h5, h6⟩ := h
  have hd : ∀ i, i < 18 → fu N (18 + 36 * p + (7)) v i = N i := fun i hi => fu_ne N _ v (by omega)
  refine ⟨h1, by rw [hd 1 (by decide)]; exact h2, h3, ?_, fun f hf => by rw [hd _ (by omega)]; exact h5 f hf, fun q hq => ?_⟩
  · rw [hd 5 (by decide), hd 6 (by decide), hd 7 (by decide), hd 8 (by decide), hd 9 (by decide), hd 10 (by decide), hd 11 (by decide), hd 12 (by decide), hd 13 (by decide)]
    exact h4
  · have hq0 := h6 q hq
    have e : ∀ j, j < 36 → pF (fu N (18 + 36 * p + (7)) v) q j = if q = p ∧ j = 7 then v else pF N q j := fun j hj => pF_fuP N p _ v (by omega) hj
    unfold pOk
    rw [e 0 (by decide), e 1 (by decide), e 2 (by decide), e 3 (by decide), e 4 (by decide), e 5 (by decide), e 6 (by decide), e 7 (by decide)]
    simp only [show ¬ (q = p ∧ 0 = 7) by omega, show ¬ (q = p ∧ 1 = 7) by omega, show ¬ (q = p ∧ 2 = 7) by omega, show ¬ (q = p ∧ 3 = 7) by omega, show ¬ (q = p ∧ 4 = 7) by omega, show ¬ (q = p ∧ 5 = 7) by omega, show ¬ (q = p ∧ 6 = 7) by omega, if_false]
    obtain ⟨a1, a2, a3, a4, a5, a6, a7, a8, a9, a10⟩ := hq0
    refine ⟨a1, a2, a3, a4, a5, a6, a7, ?_, fun i hi => ?_, fun i hi => ?_⟩
    · split
      · exact hv
      · exact a8
    · rw [e _ (by omega), if_neg (by omega)]; exact a9 i hi
    · rw [e _ (by omega), if_neg (by omega)]; exact a10 i hi
theorem nV.fcs {B : Int} {np : Nat} {N : Nat → Int} (h : nV B np N) {p k : Nat} {v : Int} (hp : p < np) (hk : k < 12) (hv : 0 ≤ v ∧ v ≤ 1000) : nV B np (fu N (18 + 36 * p + (12 + k)) v) := by
  have e : ∀ q j, j < 36 → ¬ (j = 12 + k) → pF (fu N (18 + 36 * p + (12 + k)) v) q j = pF N q j := fun q j hj h => by rw [pF_fuP N p _ v (by omega) hj, if_neg (by omega)]
  exact ⟨h.1.fcs hp hk hv, h.2.of (fun q _ => e q 4 (by decide) (by omega)) (fun q _ => e q 5 (by decide) (by omega)) (fun q _ => e q 1 (by decide) (by omega)) (fun q _ i hi => e q _ (by omega) (by omega))⟩
theorem nV.told {B : Int} {np : Nat} {N : Nat → Int} (h : nV B np N) {p : Nat} {v : Int} (hp : p < np) (hv : v = -6 ∨ (0 ≤ v ∧ v ≤ 2000)) : nV B np (fu N (18 + 36 * p + 7) v) := by
  have e : ∀ q j, j < 36 → ¬ (j = 7) → pF (fu N (18 + 36 * p + 7) v) q j = pF N q j := fun q j hj h => by rw [pF_fuP N p _ v (by omega) hj, if_neg (by omega)]
  exact ⟨h.1.told hp hv, h.2.of (fun q _ => e q 4 (by decide) (by omega)) (fun q _ => e q 5 (by decide) (by omega)) (fun q _ => e q 1 (by decide) (by omega)) (fun q _ i hi => e q _ (by omega) (by omega))⟩
theorem nGr_put (N : Nat → Int) (p w : Nat) (v : Int) (hw : w < 12) : ∀ k, k ≤ 12 → nGr (fu N (18 + 36 * p + (24 + w)) v) p k = nGr N p k + (if w < k then (v - pF N p (24 + w)) * pF N p 1 else 0) := by
  have e : ∀ j, j < 36 → pF (fu N (18 + 36 * p + (24 + w)) v) p j = if j = 24 + w then v else pF N p j := fun j hj => by rw [pF_fuP N p _ v (by omega) hj]; simp
  intro k
  induction k with
  | zero => intro _; rfl
  | succ k ih =>
    intro hk
    show nGr _ p k + pF _ p (24 + k) * pF _ p 1 = nGr N p k + pF N p (24 + k) * pF N p 1 + _
    rw [ih (by omega), e _ (by omega), e 1 (by decide), if_neg (show ¬ 1 = 24 + w by omega)]
    by_cases h : w = k
    · subst h
      rw [if_pos rfl, if_neg (by omega), if_pos (by omega), Int.sub_mul]; omega
    · rw [if_neg (show ¬ 24 + k = 24 + w by omega)]
      by_cases h2 : w < k
      · rw [if_pos h2, if_pos (by omega)]; omega
      · rw [if_neg h2, if_neg (by omega)]; omega
theorem nV.lots {B : Int} {np : Nat} {N : Nat → Int} (h : nV B np N) (hB : B + 100000 ≤ 2100000000) {p w : Nat} {v : Int} (hp : p < np) (hw : w < 12) (hv : 0 ≤ v ∧ v ≤ 1000) : nV (B + 100000) np (nSet N p w v) := by
  have h' := h.mono (B' := B + 100000) (by omega) hB
  refine ⟨h'.1.put hp hw hv, fun q hq => ?_⟩
  have e : ∀ q j, j < 36 → ¬ (j = 24 + w) → pF (nSet N p w v) q j = pF N q j := fun q j hj h => by unfold nSet; rw [pF_fuP N p _ v (by omega) hj, if_neg (by omega)]
  rw [e q 4 (by decide) (by omega), e q 5 (by decide) (by omega)]
  have hg := h.2 q hq
  refine ⟨?_, by omega⟩
  by_cases hqp : q = p
  · subst hqp
    unfold nSet
    rw [nGr_put N q w v hw 12 (Nat.le_refl _), if_pos hw, Int.sub_mul]
    have hl := h.1.lots hq hw
    obtain ⟨-, h1, -⟩ := h.1.2.2.2.2.2 q hq
    have m1 := Int.mul_nonneg hl.1 (show 0 ≤ pF N q 1 by omega)
    have m2 : v * pF N q 1 ≤ 1000 * 100 := Int.mul_le_mul hv.2 h1.2 (by omega) (by omega)
    omega
  · rw [nGr_congr (N := N) (e q 1 (by decide) (by omega)) 12 (fun i hi => by unfold nSet; rw [pF_fuP N p _ v (by omega) (by omega), if_neg (by omega)])]
    omega
def rTold (q : Nat → Int) : Nat → Int := fu q 7 (-6)
theorem nV.forget {B : Int} {np : Nat} {N : Nat → Int} (h : nV B np N) : nV B np (nMap N np rTold) := by
  have e : ∀ p j, p < np → j < 36 → j ≠ 7 → pF (nMap N np rTold) p j = pF N p j := fun p j hp hj h7 => by rw [nMap_at N _ hp hj]; exact fu_ne _ _ _ h7
  refine ⟨h.1.map h.1.1 (Int.le_refl _) (Nat.le_refl _) fun p hp => ?_, h.2.of (fun p hp => e p 4 hp (by decide) (by decide)) (fun p hp => e p 5 hp (by decide) (by decide)) (fun p hp => e p 1 hp (by decide) (by decide)) (fun p hp i hi => e p _ hp (by omega) (by omega))⟩
  obtain ⟨a1, a2, a3, a4, a5, a6, a7, a8, a9, a10⟩ := h.1.2.2.2.2.2 p hp
  unfold pOk
  rw [e p 0 hp (by decide) (by decide), e p 1 hp (by decide) (by decide), e p 2 hp (by decide) (by decide), e p 3 hp (by decide) (by decide), e p 4 hp (by decide) (by decide), e p 5 hp (by decide) (by decide), e p 6 hp (by decide) (by decide)]
  refine ⟨a1, a2, a3, a4, a5, a6, a7, Or.inl (by rw [nMap_at N _ hp (by decide)]; rfl), fun i hi => by rw [e p _ hp (by omega) (by omega)]; exact a9 i hi, fun i hi => by rw [e p _ hp (by omega) (by omega)]; exact a10 i hi⟩
def nTl (np : Nat) (N M : Nat → Int) : Prop := ∀ i, 18 + 36 * np ≤ i → M i = N i
theorem nTl.fu {np : Nat} {N M : Nat → Int} (h : nTl np N M) {j : Nat} (e : Int) (hj : j < 18 + 36 * np) : nTl np N (fu M j e) := fun i hi => by rw [fu_ne _ _ _ (by omega)]; exact h i hi
theorem nTl.map {np : Nat} {N M : Nat → Int} (h : nTl np N M) (F : (Nat → Int) → Nat → Int) : nTl np N (nMap M np F) := fun i hi => by
  rw [show nMap M np F i = M i from if_neg (by omega)]; exact h i hi
theorem nTl.pw {np w : Nat} {N : Nat → Int} (hw : w < 12) : ∀ m asked M, nTl np N M → nTl np N (nPW np w m asked M) := by
  intro m
  induction m with
  | zero => intro asked M h; exact h
  | succ m ih =>
    intro asked M h
    unfold nPW
    split
    · exact h
    · rename_i h6
      obtain ⟨b, h1, h2, -⟩ := (nNext_in M w asked np).resolve_left h6
      rw [h1]
      exact ih _ _ (h.fu _ (by simp only [Int.toNat_natCast]; omega))
theorem nTl.plw {np f : Nat} {N : Nat → Int} : ∀ j M, f + j ≤ 12 → nTl np N M → nTl np N (nPlW np f j M) := by
  intro j
  induction j with
  | zero => intro M _ h; exact h
  | succ j ih => intro M hj h; exact nTl.pw (by omega) _ _ _ (ih M (by omega) h)
theorem nTl.plan {np f : Nat} {N M : Nat → Int} (hf : f ≤ 8) (h : nTl np N M) : nTl np N (nPlan np f M) := nTl.plw _ _ (by omega) (h.map _)
theorem nPass_0 (np f : Nat) (N : Nat → Int) : nPass np f N 0 = N 0 + 1 := by
  unfold nPass nStep
  rw [nPlan_hd _ _ _ (by decide), fu_at, nMap_hd _ _ _ (by decide), nHd_ge _ _ (by decide), nMap_hd _ _ _ (by decide)]
theorem nPs_0 (np f : Nat) : ∀ (k : Nat) N, nPs np f k N 0 = N 0 + (k : Int) := by
  intro k
  induction k with
  | zero => intro N; unfold nPs; omega
  | succ k ih => intro N; unfold nPs; rw [nPass_0, ih]; omega
/-- by how much the costs become greater with another fence -/
def nC0 (N : Nat → Int) (np f : Nat) : Nat → Int := nPlan np f (nMap (fu N 7 (f : Int)) np rTold)
def nCost (N : Nat → Int) (np f w : Nat) : Int := nPs np f w (nC0 N np f) 4 - N 4
theorem nC0_V {B : Int} {np f : Nat} {N : Nat → Int} (h : nV B np N) (hf : f ≤ 8) : nV B np (nMap (fu N 7 (f : Int)) np rTold) := (h.set (w := 2) (b := (f : Int)) (by decide) ⟨by show (0 : Int) ≤ _; omega, by show _ ≤ (8 : Int); omega⟩).forget
