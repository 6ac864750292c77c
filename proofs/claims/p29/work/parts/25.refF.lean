theorem eF_0 {np : Nat} {p w u : Int} (h : eF np p w u = 0) : (0 ≤ p ∧ p < np) ∧ (0 ≤ w ∧ w < 12) ∧ 0 ≤ u ∧ u ≤ 1000 := by
  unfold eF at h
  split at h
  · rename_i h1
    split at h
    · rename_i h2; exact ⟨h1.1, h1.2, h2⟩
    · omega
  · omega
theorem eA_0 {np : Nat} {p u : Int} (h : eA np p u = 0) : (0 ≤ p ∧ p < np) ∧ (u = -6 ∨ (0 ≤ u ∧ u ≤ 2000)) := by
  unfold eA at h
  split at h
  · rename_i h1
    split at h
    · rename_i h2; exact ⟨h1, h2⟩
    · omega
  · omega
theorem eL_0 {N : Nat → Int} {np : Nat} {p w u : Int} (h : eL N np p w u = 0) : (0 ≤ p ∧ p < np) ∧ (0 ≤ w ∧ w < 12) ∧ 0 ≤ u ∧ u ≤ 1000 := by
  unfold eL at h
  split at h
  · rename_i h1
    split at h
    · rename_i h2; exact ⟨h1.1, h1.2, h2⟩
    · omega
  · omega
