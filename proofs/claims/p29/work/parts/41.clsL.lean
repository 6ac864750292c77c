def rdW (D D' : xD) (P : Nat) (v : Int) : Prop := ∃ F', D' = xw D 73 F' ∧ (∀ j, j ≠ 2 → j ≠ 5 → j ≠ 6 → F' j = D 73 j) ∧ F' 2 = (P : Int) ∧ F' 5 = v ∧ F' 6 = v
