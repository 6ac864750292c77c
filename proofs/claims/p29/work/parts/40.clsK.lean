/-- the reader behind a number -/
def rdN (D D' : xD) (P : Nat) (v : Int) : Prop := ∃ F', D' = xw D 73 F' ∧ (∀ j, j ≠ 2 → j ≠ 6 → F' j = D 73 j) ∧ F' 2 = (P : Int) ∧ F' 6 = v
theorem rdN.at {D E : xD} {P : Nat} {v : Int} (h : rdN D E P v) : E 74 = D 74 ∧ E 73 1 = D 73 1 ∧ E 73 2 = (P : Int) ∧ E 73 6 = v := by
  obtain ⟨F, rfl, h1, h2, h3⟩ := h
  exact ⟨xw_ne _ _ _ (by decide), by rw [xw_at]; exact h1 1 (by decide) (by decide), by rw [xw_at]; exact h2, by rw [xw_at]; exact h3⟩
