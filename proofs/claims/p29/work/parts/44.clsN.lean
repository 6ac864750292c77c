/-- the reader stands at q; nothing but its cell has changed -/
def pS (D E : xD) (n q : Nat) : Prop := (∀ a, a ≠ 73 → E a = D a) ∧ E 73 1 = (n : Int) ∧ E 73 2 = (q : Int)
theorem pS.pu {D E : xD} {n q q' : Nat} (h : pS D E n q) {F : Nat → Int} (h1 : F 1 = (n : Int)) (h2 : F 2 = (q' : Int)) : pS D (xw E 73 F) n q' := ⟨fun a ha => (xw_ne _ _ _ ha).trans (h.1 a ha), by rw [xw_at]; exact h1, by rw [xw_at]; exact h2⟩
theorem pS.pr {D E D' : xD} {n q : Nat} {v : Int} (h : pS D E n q) (hD : D' = xw E 73 (fu (fu (E 73) 4 v) 2 ((q : Int) + 1))) : pS D D' n (q + 1) ∧ D' 73 4 = v ∧ ∀ j, j ≠ 2 → j ≠ 4 → D' 73 j = E 73 j := by
  subst hD
  exact ⟨h.pu (((fu_ne _ _ _ (by decide)).trans (fu_ne _ _ _ (by decide))).trans h.2.1) ((fu_at _ _ _).trans (by omega)), by rw [xw_at]; exact (fu_ne _ _ _ (by decide)).trans (fu_at _ _ _), fun j a b => by rw [xw_at]; exact (fu_ne _ _ _ a).trans (fu_ne _ _ _ b)⟩
theorem pS.wk {D E D' : xD} {n q P : Nat} {v : Int} (h : pS D E n q) (hD : rdW E D' P v) : pS D D' n P ∧ D' 73 5 = v ∧ ∀ j, j ≠ 2 → j ≠ 5 → j ≠ 6 → D' 73 j = E 73 j := by
  obtain ⟨F, rfl, h1, h2, h3, -⟩ := hD
  exact ⟨h.pu ((h1 1 (by decide) (by decide) (by decide)).trans h.2.1) h2, by rw [xw_at]; exact h3, fun j a b c => by rw [xw_at]; exact h1 j a b c⟩
