def nGr (N : Nat → Int) (p : Nat) : Nat → Int
  | 0 => 0
  | k + 1 => nGr N p k + pF N p (24 + k) * pF N p 1
/-- stock and planned lots together, and backlog, stay under B -/
def nG (B : Int) (np : Nat) (N : Nat → Int) : Prop := ∀ p, p < np → pF N p 4 + nGr N p 12 ≤ B ∧ pF N p 5 + 30000 ≤ B
theorem nPj_gr (N : Nat → Int) (p : Nat) : ∀ k, k ≤ 12 → nPj N p k = pF N p 4 - pF N p 5 + nGr N p k - nFcs N p 0 k := by
  intro k
  induction k with
  | zero => intro _; unfold nPj nGr nFcs; omega
  | succ k ih =>
    intro hk
    unfold nPj nGr nFcs
    rw [ih (by omega), if_pos (by omega), Nat.zero_add]
    omega
theorem nGr_congr {N N' : Nat → Int} {p : Nat} (h1 : pF N' p 1 = pF N p 1) : ∀ k, (∀ i, i < k → pF N' p (24 + i) = pF N p (24 + i)) → nGr N' p k = nGr N p k := by
  intro k
  induction k with
  | zero => intro _; rfl
  | succ k ih => intro h; unfold nGr; rw [ih (fun i hi => h i (by omega)), h k (by omega), h1]
theorem nGr_mono {N N' : Nat → Int} {p : Nat} (h1 : pF N' p 1 = pF N p 1) (hs : 0 ≤ pF N p 1) : ∀ k, (∀ i, i < k → pF N' p (24 + i) ≤ pF N p (24 + i)) → nGr N' p k ≤ nGr N p k := by
  intro k
  induction k with
  | zero => intro _; exact Int.le_refl _
  | succ k ih =>
    intro h
    have a := ih (fun i hi => h i (by omega))
    have b := Int.mul_le_mul_of_nonneg_right (h k (by omega)) hs
    unfold nGr; rw [h1]; omega
theorem nGr_up {N : Nat → Int} {p : Nat} (hs : 0 ≤ pF N p 1) (hl : ∀ i, i < 12 → 0 ≤ pF N p (24 + i)) (k : Nat) : ∀ m, k + m ≤ 12 → nGr N p k ≤ nGr N p (k + m) := by
  intro m
  induction m with
  | zero => intro _; exact Int.le_refl _
  | succ m ih =>
    intro h
    have a := ih (by omega)
    have b := Int.mul_nonneg (hl (k + m) (by omega)) hs
    rw [← Nat.add_assoc]; show _ ≤ nGr N p (k + m) + pF N p (24 + (k + m)) * pF N p 1; omega
theorem nGr_end {N : Nat → Int} {p : Nat} (k : Nat) (hz : ∀ i, k ≤ i → i < 12 → pF N p (24 + i) = 0) : ∀ m, k + m ≤ 12 → nGr N p (k + m) = nGr N p k := by
  intro m
  induction m with
  | zero => intro _; rfl
  | succ m ih =>
    intro h
    have a := ih (by omega)
    rw [← Nat.add_assoc]; show nGr N p (k + m) + pF N p (24 + (k + m)) * pF N p 1 = _; rw [hz (k + m) (by omega) (by omega), a]; omega
/-- behind week w no lots are planned -/
def nZr (np w : Nat) (N : Nat → Int) : Prop := ∀ p, p < np → ∀ i, w ≤ i → i < 12 → pF N p (24 + i) = 0
theorem nG.put {B : Int} {np : Nat} {N : Nat → Int} (h : nOk B np N) (hG : nG B np N) {p w : Nat} (hp : p < np) (hw : w < 12) (hl : nPj N p (w + 1) < nCov N p) (hz : nZr np (w + 1) N) : nG B np (fu N (18 + 36 * p + (24 + w)) (nGive N np p w)) ∧ nZr np (w + 1) (fu N (18 + 36 * p + (24 + w)) (nGive N np p w)) := by
  have hgv := nGive_le h hp hw hl
  have e : ∀ q j, j < 36 → pF (fu N (18 + 36 * p + (24 + w)) (nGive N np p w)) q j = if q = p ∧ j = 24 + w then nGive N np p w else pF N q j := fun q j hj => pF_fuP N p _ _ (by omega) hj
  have hz2 : nZr np (w + 1) (fu N (18 + 36 * p + (24 + w)) (nGive N np p w)) := fun q hq i hi1 hi2 => by rw [e q _ (by omega), if_neg (by omega)]; exact hz q hq i hi1 hi2
  refine ⟨fun q hq => ?_, hz2⟩
  rw [e q 4 (by decide), e q 5 (by decide), if_neg (by omega), if_neg (by omega)]
  refine ⟨?_, (hG q hq).2⟩
  have h1 : ∀ q, pF (fu N (18 + 36 * p + (24 + w)) (nGive N np p w)) q 1 = pF N q 1 := fun q => by rw [e q 1 (by decide), if_neg (by omega)]
  by_cases hqp : q = p
  · subst hqp
    obtain ⟨-, a1, -, -, a4, a5, -⟩ := h.2.2.2.2.2 q hq
    have hlo := h.lots hq hw
    have hend := nGr_end (N := fu N (18 + 36 * q + (24 + w)) (nGive N np q w)) (w + 1) (fun i hi1 hi2 => hz2 q hq i hi1 hi2) (12 - (w + 1)) (by omega)
    rw [show w + 1 + (12 - (w + 1)) = 12 by omega] at hend
    rw [hend]
    have hg1 : nGr (fu N (18 + 36 * q + (24 + w)) (nGive N np q w)) q (w + 1) = nGr N q w + nGive N np q w * pF N q 1 := by
      show nGr _ q w + pF _ q (24 + w) * pF _ q 1 = _
      rw [nGr_congr (h1 q) w (fun i hi => by rw [e q _ (by omega), if_neg (by omega)]), e q _ (by omega), if_pos ⟨rfl, rfl⟩, h1 q]
    rw [hg1]
    have hpj := nPj_gr N q (w + 1) (by omega)
    have hg2 : nGr N q (w + 1) = nGr N q w + pF N q (24 + w) * pF N q 1 := rfl
    have hfs := nFcs_le h hq 0 (w + 1)
    have hfs2 := nFcs_le h hq (w + 1) (N 8 - 1).toNat
    have h8 := h.2.2.2.1.2.2.2.1
    have hcv := nCov_le h hq
    have hold := Int.mul_nonneg hlo.1 (show 0 ≤ pF N q 1 by omega)
    have hle : nGive N np q w ≤ nWant N q w := by unfold nGive; split <;> omega
    have hm1 := Int.mul_le_mul_of_nonneg_right hle (show 0 ≤ pF N q 1 by omega)
    have hm2 : nWant N q w * pF N q 1 ≤ nUnits N q w + pF N q 1 - 1 := Int.ediv_mul_le _ (by omega)
    have hun : nUnits N q w = nCov N q - nPj N q (w + 1) + nFcs N q (w + 1) (N 8 - 1).toNat := rfl
    have hb := (hG q hq).2
    omega
  · rw [nGr_congr (h1 q) 12 (fun i hi => by rw [e q _ (by omega), if_neg (by omega)])]
    exact (hG q hq).1
theorem nPW_G {B : Int} {np w : Nat} (hw : w < 12) : ∀ m asked N, nOk B np N → nG B np N → nZr np (w + 1) N → nG B np (nPW np w m asked N) ∧ nZr np (w + 1) (nPW np w m asked N) := by
  intro m
  induction m with
  | zero => intro asked N _ h hz; exact ⟨h, hz⟩
  | succ m ih =>
    intro asked N hO h hz
    unfold nPW
    split
    · exact ⟨h, hz⟩
    · rename_i h6
      obtain ⟨b, h1, h2, h3, h4⟩ := (nNext_in N w asked np).resolve_left h6
      rw [h1]
      have := nG.put hO h h2 hw h4 hz
      exact ih _ _ (hO.put h2 hw (nGive_le hO h2 hw h4)) this.1 this.2
theorem nPlW_G {B : Int} {np f : Nat} : ∀ j N, f + j ≤ 12 → nOk B np N → nG B np N → nZr np f N → nG B np (nPlW np f j N) ∧ nZr np (f + j) (nPlW np f j N) := by
  intro j
  induction j with
  | zero => intro N _ _ h hz; exact ⟨h, hz⟩
  | succ j ih =>
    intro N hj hO h hz
    have a := ih N (by omega) hO h hz
    exact nPW_G (by omega) _ _ _ (nPlW_ok j N (by omega) hO) a.1 (fun p hp i h1 h2 => a.2 p hp i (by omega) h2)
theorem nPlan_G {B : Int} {np f : Nat} {N : Nat → Int} (hO : nOk B np N) (hG : nG B np N) (hf : f ≤ 8) : nG B np (nPlan np f N) := by
  refine (nPlW_G _ _ (by omega) (hO.zero f (Nat.le_refl _)) (fun p hp => ?_) (fun p hp i h1 h2 => ?_)).1
  · have e : ∀ j, j < 24 → pF (nMap N np (rZ f 12)) p j = pF N p j := fun j hj => by rw [nMap_at N _ hp (by omega)]; exact if_neg (by omega)
    rw [e 4 (by decide), e 5 (by decide)]
    obtain ⟨-, a1, -⟩ := hO.2.2.2.2.2 p hp
    have hm := nGr_mono (N := N) (N' := nMap N np (rZ f 12)) (e 1 (by decide)) (by omega) 12 (fun i hi => by
      rw [nMap_at N _ hp (by omega)]
      have := hO.lots hp hi
      unfold rZ
      split
      · omega
      · exact Int.le_refl _)
    have := hG p hp
    omega
  · rw [nMap_at N _ hp (by omega)]
    exact if_pos (by omega)
def nV (B : Int) (np : Nat) (N : Nat → Int) : Prop := nOk B np N ∧ nG B np N
theorem nV.mono {B B' : Int} {np : Nat} {N : Nat → Int} (h : nV B np N) (hB : B ≤ B') (hB' : B' ≤ 2100000000) : nV B' np N := by
  obtain ⟨⟨h1, h2, h3, h4, h5, h6⟩, hG⟩ := h
  refine ⟨⟨⟨by omega, hB'⟩, h2, h3, h4, h5, fun p hp => ?_⟩, fun p hp => ⟨Int.le_trans (hG p hp).1 hB, Int.le_trans (hG p hp).2 hB⟩⟩
  obtain ⟨a1, a2, a3, a4, a5, a6, a7⟩ := h6 p hp
  exact ⟨a1, a2, a3, a4, ⟨a5.1, by omega⟩, ⟨a6.1, by omega⟩, a7⟩
theorem nPlan_I {B : Int} {np f : Nat} {N : Nat → Int} (h : nV B np N) (hf : f ≤ 8) : nV B np (nPlan np f N) := ⟨nPlan_ok h.1 hf, nPlan_G h.1 h.2 hf⟩
theorem rShip_ne (q : Nat → Int) {j : Nat} (h4 : j ≠ 4) (h5 : j ≠ 5) (h6 : j ≠ 6) (h8 : j ≠ 8) (h9 : j ≠ 9) (h10 : j ≠ 10) : rShip q j = q j := by
  unfold rShip
  rw [fu_ne _ _ _ h10, fu_ne _ _ _ h9, fu_ne _ _ _ h8, fu_ne _ _ _ h6, fu_ne _ _ _ h5, fu_ne _ _ _ h4]
theorem rShip_le {B : Int} {np : Nat} {N : Nat → Int} (h : nV B np N) {p : Nat} (hp : p < np) : let q := nRec N p
    (0 ≤ rHave q - rSent q ∧ rHave q ≤ B ∧ 0 ≤ rSent q) ∧ (0 ≤ rWant q - rSent q ∧ rWant q - rSent q + 28000 ≤ B) ∧ 0 ≤ (7 * q 6 + rOff q + 7) / 8 ∧ (7 * q 6 + rOff q + 7) / 8 ≤ 2000 := by
  intro q
  obtain ⟨hO, hG⟩ := h
  obtain ⟨-, a1, -, -, a4, a5, a6, a7, a8, a9⟩ := hO.2.2.2.2.2 p hp
  have hg := hG p hp
  have hq : ∀ j, q j = pF N p j := fun _ => rfl
  have hf0 : 0 ≤ pF N p 12 ∧ pF N p 12 ≤ 1000 := a8 0 (by decide)
  have hl0 : 0 ≤ pF N p 24 ∧ pF N p 24 ≤ 1000 := a9 0 (by decide)
  have hc : 0 ≤ rCame q ∧ rCame q ≤ 2000 := by unfold rCame; simp only [hq]; split <;> omega
  have ho : 0 ≤ rOff q ∧ rOff q ≤ 2000 := by unfold rOff; simp only [hq]; split <;> omega
  have hm : 0 ≤ pF N p 24 * pF N p 1 := Int.mul_nonneg hl0.1 (by omega)
  have hup : nGr N p 1 ≤ nGr N p 12 := nGr_up (N := N) (p := p) (by omega) (fun i hi => (a9 i hi).1) 1 11 (by omega)
  have hg1 : nGr N p 1 = 0 + pF N p 24 * pF N p 1 := rfl
  have hh : rHave q = pF N p 4 + pF N p 24 * pF N p 1 := rfl
  have hw : rWant q = rCame q + pF N p 5 := rfl
  have h6 : q 6 = pF N p 6 := rfl
  rw [h6]
  have hs : (rSent q = rWant q ∧ rWant q < rHave q) ∨ (rSent q = rHave q ∧ rHave q ≤ rWant q) := by
    unfold rSent
    split
    · exact Or.inl ⟨rfl, by assumption⟩
    · exact Or.inr ⟨rfl, by omega⟩
  omega
theorem pOk_ship {B : Int} {np k : Nat} {N : Nat → Int} (h : nV B np N) (hB : B + 2000 ≤ 2100000000) (hk : k ≤ np) : nOk (B + 2000) np (nMap N k rShip) := by
  refine h.1.map ⟨by have := h.1.1; omega, hB⟩ (by omega) hk fun p hp => ?_
  have r1 := rShip_le h (p := p) (by omega)
  obtain ⟨a0, a1, a2, a3, a4, a5, a6, a7, a8, a9⟩ := h.1.2.2.2.2.2 p (by omega)
  have e : ∀ j, j < 36 → pF (nMap N k rShip) p j = rShip (nRec N p) j := fun j hj => nMap_at N _ hp hj
  have e2 : ∀ j, j ≠ 4 → j ≠ 5 → j ≠ 6 → j ≠ 8 → j ≠ 9 → j ≠ 10 → j < 36 → pF (nMap N k rShip) p j = pF N p j := fun j h4 h5 h6 h8 h9 h10 hj => by rw [e j hj, rShip_ne _ h4 h5 h6 h8 h9 h10]; rfl
  unfold pOk
  rw [e2 0 (by decide) (by decide) (by decide) (by decide) (by decide) (by decide) (by decide), e2 1 (by decide) (by decide) (by decide) (by decide) (by decide) (by decide) (by decide), e2 2 (by decide) (by decide) (by decide) (by decide) (by decide) (by decide) (by decide), e2 3 (by decide) (by decide) (by decide) (by decide) (by decide) (by decide) (by decide), e2 7 (by decide) (by decide) (by decide) (by decide) (by decide) (by decide) (by decide),
    e 4 (by decide), e 5 (by decide), e 6 (by decide)]
  have v4 : rShip (nRec N p) 4 = rHave (nRec N p) - rSent (nRec N p) := rfl
  have v5 : rShip (nRec N p) 5 = rWant (nRec N p) - rSent (nRec N p) := rfl
  have v6 : rShip (nRec N p) 6 = (7 * nRec N p 6 + rOff (nRec N p) + 7) / 8 := rfl
  rw [v4, v5, v6]
  refine ⟨a0, a1, a2, a3, by omega, by omega, by omega, a7, fun i hi => ?_, fun i hi => ?_⟩
  · rw [e2 _ (by omega) (by omega) (by omega) (by omega) (by omega) (by omega) (by omega)]; exact a8 i hi
  · rw [e2 _ (by omega) (by omega) (by omega) (by omega) (by omega) (by omega) (by omega)]; exact a9 i hi
theorem nOk.hd {B : Int} {np : Nat} {N : Nat → Int} (h : nOk B np N) {i : Nat} (e : Int) (hi : i = 0 ∨ i = 2 ∨ i = 3 ∨ i = 4) : nOk B np (fu N i e) := by
  obtain ⟨h1, h2, h3, h4, h5, h6⟩ := h
  have hd : ∀ j, (j = 1 ∨ 5 ≤ j) → fu N i e j = N j := fun j hj => fu_ne N _ e (by omega)
  have hp : ∀ p j, pF (fu N i e) p j = pF N p j := fun p j => hd _ (by omega)
  refine ⟨h1, by rw [hd 1 (by decide)]; exact h2, h3, ?_, fun f hf => by rw [hd _ (by omega)]; exact h5 f hf, fun q hq => ?_⟩
  · rw [hd 5 (by decide), hd 6 (by decide), hd 7 (by decide), hd 8 (by decide), hd 9 (by decide), hd 10 (by decide), hd 11 (by decide), hd 12 (by decide), hd 13 (by decide)]
    exact h4
  · have := h6 q hq
    unfold pOk at this ⊢
    simp only [hp]
    exact this
/-- the sums of a week that passes -/
def nHd (N : Nat → Int) (np : Nat) : Nat → Int :=
  let N2 := fu N 2 (N 2 + nSetups N np 0)
  let N3 := fu N2 3 (N2 3 + nOver N np 0)
  fu N3 4 (N3 4 + (nSetups N np 0 * N3 10 + nOver N np 0 * N3 13 + nSum N3 4 np * N3 11 + nSum N3 5 np * N3 12))
def nStep (N : Nat → Int) (np : Nat) : Nat → Int := nMap (nHd (nMap N np rShip) np) np rRoll
def nPass (np f : Nat) (N : Nat → Int) : Nat → Int := nPlan np f (fu (nStep N np) 0 (nStep N np 0 + 1))
theorem nHd_ok {B : Int} {np : Nat} {N : Nat → Int} (h : nOk B np N) : nOk B np (nHd N np) := ((h.hd _ (by omega)).hd _ (by omega)).hd _ (by omega)
theorem nHd_ge (N : Nat → Int) (np : Nat) {i : Nat} (h : i = 0 ∨ i = 1 ∨ 5 ≤ i) : nHd N np i = N i := by
  unfold nHd
  rw [fu_ne _ _ _ (by omega), fu_ne _ _ _ (by omega), fu_ne _ _ _ (by omega)]
theorem rRoll_fc (q : Nat → Int) {k : Nat} (h : k < 12) : rRoll q (12 + k) = q (12 + (if k < 11 then k + 1 else k)) := by
  unfold rRoll
  rw [fu_ne _ _ _ (by omega), fu_ne _ _ _ (by omega)]
  unfold rRl
  split
  · rw [if_pos (by omega)]; rfl
  · rw [if_neg (by omega)]
theorem rRoll_lo (q : Nat → Int) {k : Nat} (h : k < 12) : rRoll q (24 + k) = if k < 11 then q (24 + k + 1) else 0 := by
  unfold rRoll
  rw [fu_ne _ _ _ (by omega)]
  split
  · rw [fu_ne _ _ _ (by omega)]; exact if_pos (by omega)
  · rw [show 24 + k = 35 by omega, fu_at]
theorem rRoll_ne (q : Nat → Int) {j : Nat} (h : j < 12) (h7 : j ≠ 7) : rRoll q j = q j := by
  unfold rRoll
  rw [fu_ne _ _ _ h7, fu_ne _ _ _ (by omega)]
  exact if_neg (by omega)
theorem nOk.roll {B : Int} {np k : Nat} {N : Nat → Int} (h : nOk B np N) (hk : k ≤ np) : nOk B np (nMap N k rRoll) := by
  refine h.map h.1 (Int.le_refl _) hk fun p hp => ?_
  obtain ⟨a0, a1, a2, a3, a4, a5, a6, a7, a8, a9⟩ := h.2.2.2.2.2 p (by omega)
  have e : ∀ j, j < 36 → pF (nMap N k rRoll) p j = rRoll (nRec N p) j := fun j hj => nMap_at N _ hp hj
  unfold pOk
  rw [e 0 (by decide), e 1 (by decide), e 2 (by decide), e 3 (by decide), e 4 (by decide), e 5 (by decide), e 6 (by decide), e 7 (by decide)]
  refine ⟨a0, a1, a2, a3, a4, a5, a6, Or.inl rfl, fun i hi => ?_, fun i hi => ?_⟩
  · rw [e _ (by omega), rRoll_fc _ hi]
    exact a8 _ (by split <;> omega)
  · rw [e _ (by omega), rRoll_lo _ hi]
    split
    · exact a9 (i + 1) (by omega)
    · omega
theorem nGr_roll (N : Nat → Int) {np p : Nat} (hp : p < np) : ∀ k, k ≤ 11 → nGr (nMap N np rRoll) p k = nGr N p (k + 1) - pF N p 24 * pF N p 1 := by
  have e : ∀ j, j < 36 → pF (nMap N np rRoll) p j = rRoll (nRec N p) j := fun j hj => nMap_at N _ hp hj
  intro k
  induction k with
  | zero => intro _; show (0 : Int) = 0 + pF N p 24 * pF N p 1 - pF N p 24 * pF N p 1; omega
  | succ k ih =>
    intro hk
    show nGr (nMap N np rRoll) p k + pF _ p (24 + k) * pF _ p 1 = nGr N p (k + 1) + pF N p (24 + (k + 1)) * pF N p 1 - _
    rw [ih (by omega), e _ (by omega), e 1 (by decide), rRoll_lo _ (by omega), if_pos (by omega)]
    show nGr N p (k + 1) - _ + pF N p (24 + k + 1) * pF N p 1 = _
    rw [Nat.add_assoc]
    omega
theorem nStep_I {B : Int} {np : Nat} {N : Nat → Int} (h : nV B np N) (hB : B + 2000 ≤ 2100000000) : nV (B + 2000) np (fu (nStep N np) 0 (nStep N np 0 + 1)) := by
  have h1 := pOk_ship h hB (Nat.le_refl np)
  have h2 := (nHd_ok h1).roll (Nat.le_refl np)
  refine ⟨h2.hd _ (by omega), fun p hp => ?_⟩
  have e0 : ∀ p j, pF (fu (nStep N np) 0 (nStep N np 0 + 1)) p j = pF (nStep N np) p j := fun p j => fu_ne _ _ _ (by omega)
  have e1 : ∀ j, j < 36 → pF (nStep N np) p j = rRoll (nRec (nHd (nMap N np rShip) np) p) j := fun j hj => nMap_at _ _ hp hj
  have e2 : ∀ j, nRec (nHd (nMap N np rShip) np) p j = pF (nMap N np rShip) p j := fun j => nHd_ge _ _ (by omega)
  have e3 : ∀ j, j < 36 → pF (nMap N np rShip) p j = rShip (nRec N p) j := fun j hj => nMap_at _ _ hp hj
  rw [nGr_congr (N := nStep N np) (e0 p 1) 12 (fun i _ => e0 p _), e0 p 4, e0 p 5, e1 4 (by decide), e1 5 (by decide), rRoll_ne _ (by decide) (by decide), rRoll_ne _ (by decide) (by decide), e2, e2, e3 4 (by decide), e3 5 (by decide)]
  have v4 : rShip (nRec N p) 4 = rHave (nRec N p) - rSent (nRec N p) := rfl
  have v5 : rShip (nRec N p) 5 = rWant (nRec N p) - rSent (nRec N p) := rfl
  rw [v4, v5]
  have r1 := rShip_le h hp
  refine ⟨?_, by omega⟩
  have g1 : nGr (nStep N np) p 12 = nGr (nStep N np) p 11 + pF (nStep N np) p (24 + 11) * pF (nStep N np) p 1 := rfl
  have g2 : pF (nStep N np) p (24 + 11) = 0 := by rw [e1 _ (by decide), rRoll_lo _ (by decide)]; rfl
  rw [g1, g2]
  show _ + (nGr (nMap (nHd (nMap N np rShip) np) np rRoll) p 11 + _) ≤ _
  rw [nGr_roll _ hp 11 (by decide)]
  have e4 : ∀ j, j ≠ 4 → j ≠ 5 → j ≠ 6 → j ≠ 8 → j ≠ 9 → j ≠ 10 → j < 36 → pF (nHd (nMap N np rShip) np) p j = pF N p j := fun j h4 h5 h6 h8 h9 h10 hj => by
    show nRec (nHd (nMap N np rShip) np) p j = _
    rw [e2, e3 j hj, rShip_ne _ h4 h5 h6 h8 h9 h10]; rfl
  rw [nGr_congr (N := N) (e4 1 (by decide) (by decide) (by decide) (by decide) (by decide) (by decide) (by decide)) 12 (fun i hi => e4 _ (by omega) (by omega) (by omega) (by omega) (by omega) (by omega) (by omega)),
    e4 24 (by decide) (by decide) (by decide) (by decide) (by decide) (by decide) (by decide), e4 1 (by decide) (by decide) (by decide) (by decide) (by decide) (by decide) (by decide)]
  have hh : rHave (nRec N p) = pF N p 4 + pF N p 24 * pF N p 1 := rfl
  have hg := (h.2 p hp).1
  rw [Int.zero_mul]
  omega
theorem nPass_I {B : Int} {np f : Nat} {N : Nat → Int} (h : nV B np N) (hB : B + 2000 ≤ 2100000000) (hf : f ≤ 8) : nV (B + 2000) np (nPass np f N) := nPlan_I (nStep_I h hB) hf
theorem nPW_hd (np w : Nat) {i : Nat} (hi : i < 18) : ∀ m asked N, nPW np w m asked N i = N i := by
  intro m
  induction m with
  | zero => intro asked N; rfl
  | succ m ih => intro asked N; unfold nPW; split; rfl; rw [ih, fu_ne _ _ _ (by omega)]
theorem nPlW_hd (np f : Nat) {i : Nat} (hi : i < 18) : ∀ j N, nPlW np f j N i = N i := by
  intro j
  induction j with
  | zero => intro N; rfl
  | succ j ih => intro N; unfold nPlW; rw [nPW_hd np _ hi, ih]
theorem nPlan_hd (np f : Nat) (N : Nat → Int) {i : Nat} (hi : i < 18) : nPlan np f N i = N i := by unfold nPlan; rw [nPlW_hd np f hi, nMap_hd _ _ _ hi]
theorem nPass_hd (np f : Nat) (N : Nat → Int) {i : Nat} (hi : i = 1 ∨ (5 ≤ i ∧ i < 18)) : nPass np f N i = N i := by
  unfold nPass nStep
  rw [nPlan_hd _ _ _ (by omega), fu_ne _ _ _ (by omega), nMap_hd _ _ _ (by omega), nHd_ge _ _ (by omega), nMap_hd _ _ _ (by omega)]
def nPs (np f : Nat) : Nat → (Nat → Int) → Nat → Int
  | 0, N => N
  | k + 1, N => nPass np f (nPs np f k N)
theorem nPs_hd (np f : Nat) {i : Nat} (hi : i = 1 ∨ (5 ≤ i ∧ i < 18)) : ∀ k N, nPs np f k N i = N i := by
  intro k
  induction k with
  | zero => intro N; rfl
  | succ k ih => intro N; unfold nPs; rw [nPass_hd np f _ hi, ih]
theorem nPs_I {B : Int} {np f : Nat} (hf : f ≤ 8) : ∀ (k : Nat) N, nV B np N → B + 2000 * (k : Int) ≤ 2100000000 → nV (B + 2000 * (k : Int)) np (nPs np f k N) := by
  intro k
  induction k with
  | zero => intro N h _; rw [show B + 2000 * ((0 : Nat) : Int) = B by omega]; exact h
  | succ k ih =>
    intro N h hB
    have := nPass_I (ih N h (by omega)) (by omega) hf
    rw [show B + 2000 * ((k + 1 : Nat) : Int) = B + 2000 * (k : Int) + 2000 by omega]
    exact this
