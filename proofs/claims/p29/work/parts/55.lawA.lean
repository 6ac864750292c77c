/-- the reference's kept state at a place -/
def kS (D : xD) (c : Nat) : Nat → Int := kGet (D 353) c (fun _ => 0) 378
/-- a state in its ranges -/
def OKk (B : Int) (N : Nat → Int) (np : Nat) : Prop := nV B np N ∧ 0 ≤ N 0 ∧ N 0 ≤ B
theorem OKk.mono {B B' : Int} {N : Nat → Int} {np : Nat} (h : OKk B N np) (hB : B ≤ B') (hB' : B' ≤ 2100000000) : OKk B' N np := ⟨h.1.mono hB hB', h.2.1, by have := h.2.2; omega⟩
theorem OKk.np {B : Int} {N : Nat → Int} {np : Nat} (h : OKk B N np) : np ≤ 10 := h.1.1.np.2
theorem OKk.f {B : Int} {N : Nat → Int} {np : Nat} (h : OKk B N np) : ∃ f : Nat, N 7 = (f : Int) ∧ f ≤ 8 := by
  have h7 := h.1.1.2.2.2.1.2.2.1
  obtain ⟨f, hf⟩ := Int.eq_ofNat_of_zero_le h7.1
  exact ⟨f, hf, by omega⟩
