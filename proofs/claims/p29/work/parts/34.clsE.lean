theorem bi_e0 {c : Prop} [Decidable c] (h : bi c = 0) : ¬ c := fun hc => by rw [← bi1 hc] at h; omega
theorem bi_n0 {c : Prop} [Decidable c] (h : bi c ≠ 0) : c := Classical.byContradiction fun hc => h (bi0 hc).symm
theorem band16 : ∀ m, m < 16 → ∀ f, f < 4 → Int32.ofInt ((m : Nat) : Int) &&& Int32.ofInt ((2 ^ f : Nat) : Int) = Int32.ofInt ((m &&& 2 ^ f : Nat) : Int) := by decide +kernel
theorem and_bit : ∀ m, m < 16 → ∀ f, f < 4 → ((m &&& 2 ^ f = 0 ↔ m >>> f % 2 = 0) ∧ m &&& 2 ^ f < 16) := by decide +kernel
theorem nMask_add {N : Nat → Int} {p w : Nat} (h0 : pF N p (24 + w) = 0) (hw : w < 12) {g : Int} (hg : 0 < g) : ∀ k, (k ≤ p → nMask (fu N (18 + 36 * p + (24 + w)) g) w k = nMask N w k) ∧ (p < k → nMask (fu N (18 + 36 * p + (24 + w)) g) w k = nMask N w k ||| 2 ^ (pF N p 0).toNat) := by
  intro k
  induction k with
  | zero => exact ⟨fun _ => rfl, fun h => absurd h (by omega)⟩
  | succ k ih =>
    have e0 : pF (fu N (18 + 36 * p + (24 + w)) g) k 0 = pF N k 0 := by unfold pF; exact fu_ne _ _ _ (by omega)
    refine ⟨fun h => ?_, fun h => ?_⟩
    · unfold nMask
      rw [ih.1 (by omega), pF_fu_ne N g (by omega) (by omega) (by omega), e0]
    · by_cases hk : k = p
      · subst hk
        unfold nMask
        rw [ih.1 (Nat.le_refl _), pF_fu_at, if_pos hg, e0, h0, if_neg (by omega)]
      · unfold nMask
        rw [ih.2 (by omega), pF_fu_ne N g hk (by omega) (by omega), e0]
        split
        · rw [Nat.or_assoc, Nat.or_comm (2 ^ (pF N p 0).toNat), ← Nat.or_assoc]
        · rfl
theorem nHrs_add {N : Nat → Int} {p w : Nat} (h0 : pF N p (24 + w) = 0) (hw : w < 12) {g : Int} (hg : 0 < g) : ∀ k, (k ≤ p → nHrs (fu N (18 + 36 * p + (24 + w)) g) w k = nHrs N w k) ∧ (p < k → nHrs (fu N (18 + 36 * p + (24 + w)) g) w k = nHrs N w k + (pF N p 3 + g * pF N p 2)) := by
  intro k
  induction k with
  | zero => exact ⟨fun _ => rfl, fun h => absurd h (by omega)⟩
  | succ k ih =>
    have e2 : pF (fu N (18 + 36 * p + (24 + w)) g) k 2 = pF N k 2 := by unfold pF; exact fu_ne _ _ _ (by omega)
    have e3 : pF (fu N (18 + 36 * p + (24 + w)) g) k 3 = pF N k 3 := by unfold pF; exact fu_ne _ _ _ (by omega)
    refine ⟨fun h => ?_, fun h => ?_⟩
    · unfold nHrs
      rw [ih.1 (by omega), pF_fu_ne N g (by omega) (by omega) (by omega), e2, e3]
    · by_cases hk : k = p
      · subst hk
        unfold nHrs
        rw [ih.1 (Nat.le_refl _), pF_fu_at, if_pos hg, e2, e3, h0, if_neg (by omega), Int.add_zero]
      · unfold nHrs
        rw [ih.2 (by omega), pF_fu_ne N g hk (by omega) (by omega), e2, e3]
        omega
theorem nFh_fu {N : Nat → Int} {p w : Nat} {g : Int} (m : Nat) : nFh (fu N (18 + 36 * p + (24 + w)) g) m 4 = nFh N m 4 := nFh_cg m 4 (fun f hf => fu_ne _ _ _ (by omega))
theorem nFh_or (N : Nat → Int) : ∀ m, ∀ f, f < 4 → nFh N (m ||| 2 ^ f) 4 = nFh N m 4 + (if m >>> f % 2 = 1 then 0 else N (14 + f)) := by
  intro m f hf
  have hb : ∀ k, ((m ||| 2 ^ f) >>> k % 2 = 1) ↔ (m >>> k % 2 = 1 ∨ k = f) := by
    intro k
    rw [bit_or]
    by_cases h : k = f
    · rw [if_pos h]; simp [h]
    · rw [if_neg h]; simp [h]
  simp only [nFh, hb]
  have h : f = 0 ∨ f = 1 ∨ f = 2 ∨ f = 3 := by omega
  rcases h with rfl | rfl | rfl | rfl <;> simp <;> (repeat' split) <;> simp_all <;> omega
theorem nHours_add {N : Nat → Int} {np p w : Nat} (hp : p < np) (h0 : pF N p (24 + w) = 0) (hw : w < 12) {g : Int} (hg : 0 < g) (hf : (pF N p 0).toNat < 4) : nHours (fu N (18 + 36 * p + (24 + w)) g) np w = nHours N np w + (pF N p 3 + g * pF N p 2) + (if nMask N w np >>> (pF N p 0).toNat % 2 = 1 then 0 else N (14 + (pF N p 0).toNat)) := by
  unfold nHours
  rw [(nHrs_add h0 hw hg np).2 hp, (nMask_add h0 hw hg np).2 hp, nFh_fu, nFh_or _ _ _ hf]
  omega
theorem nPj_cg {M N : Nat → Int} {p : Nat} : ∀ k, (pF M p 1 = pF N p 1 ∧ pF M p 4 = pF N p 4 ∧ pF M p 5 = pF N p 5) → (∀ j, j < k → pF M p (12 + j) = pF N p (12 + j) ∧ pF M p (24 + j) = pF N p (24 + j)) → nPj M p k = nPj N p k := by
  intro k h0
  induction k with
  | zero => intro _; unfold nPj; rw [h0.2.1, h0.2.2]
  | succ k ih => intro h; unfold nPj; rw [ih (fun j hj => h j (by omega)), (h k (by omega)).1, (h k (by omega)).2, h0.1]
theorem nPj_fu {N : Nat → Int} {p w : Nat} {g : Int} (h0 : pF N p (24 + w) = 0) (hw : w < 12) : nPj (fu N (18 + 36 * p + (24 + w)) g) p (w + 1) = nPj N p (w + 1) + g * pF N p 1 := by
  show nPj (fu N (18 + 36 * p + (24 + w)) g) p w + (pF (fu N (18 + 36 * p + (24 + w)) g) p (24 + w) * pF (fu N (18 + 36 * p + (24 + w)) g) p 1 - pF (fu N (18 + 36 * p + (24 + w)) g) p (12 + w)) = nPj N p w + (pF N p (24 + w) * pF N p 1 - pF N p (12 + w)) + g * pF N p 1
  have e : ∀ i, i < 36 → i ≠ 24 + w → pF (fu N (18 + 36 * p + (24 + w)) g) p i = pF N p i := fun i hi hn => by unfold pF; exact fu_ne _ _ _ (by omega)
  rw [nPj_cg w ⟨e 1 (by decide) (by omega), e 4 (by decide) (by omega), e 5 (by decide) (by omega)⟩ (fun j hj => ⟨e _ (by omega) (by omega), e _ (by omega) (by omega)⟩), pF_fu_at, e 1 (by decide) (by omega), e (12 + w) (by omega) (by omega), h0]
  omega
theorem nPj_fu_ne {N : Nat → Int} {p q i k : Nat} {g : Int} (h : q ≠ p) (hi : i < 36) (hk : k ≤ 12) : nPj (fu N (18 + 36 * p + i) g) q k = nPj N q k := nPj_cg k ⟨pF_fu_ne N g h (by decide) hi, pF_fu_ne N g h (by decide) hi, pF_fu_ne N g h (by decide) hi⟩ (fun j hj => ⟨pF_fu_ne N g h (by omega) hi, pF_fu_ne N g h (by omega) hi⟩)
theorem nCov_fu {N : Nat → Int} {p q w : Nat} {g : Int} (hw : w < 12) : nCov (fu N (18 + 36 * p + (24 + w)) g) q = nCov N q := by
  unfold nCov
  rw [show fu N (18 + 36 * p + (24 + w)) g 9 = N 9 from fu_ne _ _ _ (by omega)]
  rw [show pF (fu N (18 + 36 * p + (24 + w)) g) q 6 = pF N q 6 from fu_ne _ _ _ (by omega)]
theorem fu_self (N : Nat → Int) {i : Nat} {e : Int} (h : N i = e) : fu N i e = N := by
  funext j; unfold fu; split
  · rename_i h2; rw [h2, h]
  · rfl

