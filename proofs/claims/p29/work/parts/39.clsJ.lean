theorem oPad : xOb 351 73 1 := ⟨rfl, by decide, by decide⟩
theorem nar_c0 : ∀ k, k < 256 → narrow .char (vi ((k : Nat) : Int)) = vi ((k : Nat) : Int) := by decide +kernel
theorem nar_c {e : Int} (h0 : 0 ≤ e) (h : e < 256) : narrow .char (vi e) = vi e := by
  obtain ⟨k, rfl⟩ := Int.eq_ofNat_of_zero_le h0
  exact nar_c0 k (by omega)
