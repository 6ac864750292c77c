/-! ===== the law: what holds at its entry, its start ===== -/
theorem law_sz {args : Array Value} {s : State} {tm : Term} {N : Nat} (hv : (Term.length tm).eval args s none [] s = some (.int (Int32.ofNat N))) (hN : N < 2 ^ 31) : ∃ b cell, tm.eval args s none [] s = some (.ref b) ∧ s.heap[b]? = some cell ∧ cell.slots.size = N := by
  obtain ⟨b, cell, ht, harr, he⟩ := Term.length_spec hv
  have hsz : cell.slots.size < 2 ^ 31 := by
    simp only [Term.eval, ht, harr, Option.bind_eq_bind, Option.bind_some] at hv
    by_cases hlt : cell.slots.size < 2147483648
    · exact hlt
    · simp [hlt] at hv
  obtain ⟨hcell, -, -, -⟩ := State.arrayAt?_spec harr
  refine ⟨b, cell, ht, hcell, ?_⟩
  have e1 : Int32.ofNat N = Int32.ofNat cell.slots.size := Value.int.inj he
  have e2 := congrArg Int32.toInt e1
  rw [Int32.toInt_ofNat_small hN, Int32.toInt_ofNat_small hsz] at e2
  omega
theorem law_st {args : Array Value} {s : State} {nm : String} {f : Nat → Int} {A : Nat → Prop} (hex : (Cond.exactly (.static "LotFences" nm "[I") "[I").before args s = true) (harr : (Cond.arrayOf (.static "LotFences" nm "[I") .int).before args s = true) (hlen : (Cond.eq (.length (.static "LotFences" nm "[I")) (.int (Int32.ofNat 9))).before args s = true)
    (hel : ∀ j : Nat, j < 9 → (Cond.eq (.elem (.static "LotFences" nm "[I") (.int (Int32.ofNat j))) (.int (Int32.ofInt (f j)))).before args s = true) (hl : (Cond.laysStatic "LotFences" nm "[I").before args s = true) (hini : (Cond.initialized "LotFences").before args s = true) (hA : ∀ a : Nat, a < s.heap.size → ¬ A a) :
    ∃ t : Nat, va_Z "LotFences" nm "[I" (.ref t) A s s.heap ∧ ∃ cell : Cell, s.heap[t]? = some cell ∧ s.isArrayOf cell .int ∧ cell.vm ≠ .unknown ∧ cell.slots.size = 9 ∧ (∀ j : Nat, j < 9 → cell.slots[j]? = some (vi (f j))) ∧ ¬ A t ∧ s.vm.findClass "[I" = some cell.cls := by
  obtain ⟨t, ht, cell, h1, h2, h3, -, -, h6, h7⟩ := va_Tof (N := 9) (f := fun j => vi (f j)) (by decide) harr (va_eqt hlen) (fun j hj => va_eqt (hel j hj)) hA
  obtain ⟨t2, cell2, g1, g2, g3⟩ := law_sz (va_eqt hlen) (by decide)
  cases ht.symm.trans g1
  cases h1.symm.trans g2
  obtain ⟨a, c, cell3, k, e1, e2, e3, -, -, e6, -⟩ := Cond.exactly_spec hex
  cases ht.symm.trans e1
  cases h1.symm.trans e3
  exact ⟨t, va_Zof hl hini ht hA, cell, h1, h2, h3, g3, h6, h7, by rw [e6]; exact e2⟩
theorem law_arr {args : Array Value} {s : State} {ty : FieldType} (hp : ∀ C, ty ≠ .object C) (h : (Cond.arrayClass ty).before args s = true) : ∃ cA : ClassId, ArrOfT s cA ty ∧ va_RA s cA ty := by
  obtain ⟨cA, kA, comp, h1, h2, h3⟩ := Cond.arrayClass_spec h
  refine ⟨cA, fun n z => ⟨(by intro q hq; cases hq), kA, h2, comp, h3⟩, ?_⟩
  cases ty <;> first | exact h1 | exact absurd rfl (hp _)
theorem law_arrO {args : Array Value} {s : State} {C : String} (h : (Cond.arrayOver (.object C)).before args s = true) : ∃ cA : ClassId, ArrOfT s cA (.object C) ∧ va_RA s cA (.object C) := by
  obtain ⟨comp, c, k, h1, h2, h3, h4, h5⟩ := Cond.arrayOver_spec h
  exact ⟨c, fun n z => ⟨(by intro q hq; cases hq), k, h3, comp, h4⟩, k, comp, h3, h4, h1, h5⟩

set_option maxHeartbeats 4000000 in
theorem law_KF {s : State} {b : Nat} (hts : ∀ w ∈ lw_tbl, w.before #[Value.ref b] s = true) (hg : (Jvm.Cond.and given_1 narrow_1).before #[Value.ref b] s = true) : ∃ ω : xW, xKF ω s s.heap ∧ ω.2.2.1 0 = b ∧ ω.2.2.2 = s.heap.size := by
  have htx : ∀ w ∈ xtb, w.before #[Value.ref b] s = true := fun w hw => hts w (xtb_tbl w hw)
  have hs := flat_of_before _ hg
  have hA : ∀ a : Nat, a < s.heap.size → ¬ (fun q => s.heap.size ≤ q) a := fun a ha h => Nat.not_le.mpr ha h
  obtain ⟨c0, i0, k0⟩ := u_known (args := #[Value.ref b]) htx ixX0 (htx _ in_X0)
  obtain ⟨c1, i1, k1⟩ := u_known (args := #[Value.ref b]) htx ixX1 (htx _ in_X1)
  obtain ⟨c2, i2, k2⟩ := u_known (args := #[Value.ref b]) htx ixX2 (htx _ in_X2)
  obtain ⟨c3, i3, k3⟩ := u_known (args := #[Value.ref b]) htx ixX3 (htx _ in_X3)
  obtain ⟨c4, i4, k4⟩ := u_known (args := #[Value.ref b]) htx ixX4 (htx _ in_X4)
  obtain ⟨a10, r10, n10⟩ := law_arr (ty := .int) (fun C h => by cases h) (hts (.arrayClass .int) (xtb_tbl _ ac_int))
  obtain ⟨a12, r12, n12⟩ := law_arr (ty := .char) (fun C h => by cases h) (hts (.arrayClass .char) (xtb_tbl _ ac_char))
  obtain ⟨a13, r13, n13⟩ := law_arr (ty := .boolean) (fun C h => by cases h) (hts (.arrayClass .boolean) (xtb_tbl _ ac_boolean))
  have ao3 := hts (.arrayOver (.object RX3)) (by decide +kernel)
  have ao2 := hts (.arrayOver (.object RX2)) (by decide +kernel)
  obtain ⟨a14, r14, n14⟩ := law_arrO ao3
  obtain ⟨a15, r15, n15⟩ := law_arrO ao2
  have e1 : ∀ j : Nat, j < 9 → (Cond.eq (.elem (.static "LotFences" "LEAST_SETTINGS" "[I") (.int (Int32.ofNat j))) (.int (Int32.ofInt (xst 1 j)))).before #[Value.ref b] s = true := by
    intro j hj
    have h9 : j = 0 ∨ j = 1 ∨ j = 2 ∨ j = 3 ∨ j = 4 ∨ j = 5 ∨ j = 6 ∨ j = 7 ∨ j = 8 := by omega
    rcases h9 with rfl | rfl | rfl | rfl | rfl | rfl | rfl | rfl | rfl <;> exact hs _ (by decide +kernel)
  obtain ⟨t1, z1, y1⟩ := law_st (nm := "LEAST_SETTINGS") (f := xst 1) (A := fun q => s.heap.size ≤ q) (hs (.exactly (.static "LotFences" "LEAST_SETTINGS" "[I") "[I") (by decide +kernel)) (hs (.arrayOf (.static "LotFences" "LEAST_SETTINGS" "[I") .int) (by decide +kernel)) (hs (.eq (.length (.static "LotFences" "LEAST_SETTINGS" "[I")) (.int (Int32.ofNat 9))) (by decide +kernel)) e1 (hts (.laysStatic "LotFences" "LEAST_SETTINGS" "[I") (by decide +kernel)) (htx _ ii_X4) hA
  have e2 : ∀ j : Nat, j < 9 → (Cond.eq (.elem (.static "LotFences" "MOST_SETTINGS" "[I") (.int (Int32.ofNat j))) (.int (Int32.ofInt (xst 2 j)))).before #[Value.ref b] s = true := by
    intro j hj
    have h9 : j = 0 ∨ j = 1 ∨ j = 2 ∨ j = 3 ∨ j = 4 ∨ j = 5 ∨ j = 6 ∨ j = 7 ∨ j = 8 := by omega
    rcases h9 with rfl | rfl | rfl | rfl | rfl | rfl | rfl | rfl | rfl <;> exact hs _ (by decide +kernel)
  obtain ⟨t2, z2, y2⟩ := law_st (nm := "MOST_SETTINGS") (f := xst 2) (A := fun q => s.heap.size ≤ q) (hs (.exactly (.static "LotFences" "MOST_SETTINGS" "[I") "[I") (by decide +kernel)) (hs (.arrayOf (.static "LotFences" "MOST_SETTINGS" "[I") .int) (by decide +kernel)) (hs (.eq (.length (.static "LotFences" "MOST_SETTINGS" "[I")) (.int (Int32.ofNat 9))) (by decide +kernel)) e2 (hts (.laysStatic "LotFences" "MOST_SETTINGS" "[I") (by decide +kernel)) (htx _ ii_X4) hA
  have e3 : ∀ j : Nat, j < 9 → (Cond.eq (.elem (.static "LotFences" "FIRST_SETTINGS" "[I") (.int (Int32.ofNat j))) (.int (Int32.ofInt (xst 3 j)))).before #[Value.ref b] s = true := by
    intro j hj
    have h9 : j = 0 ∨ j = 1 ∨ j = 2 ∨ j = 3 ∨ j = 4 ∨ j = 5 ∨ j = 6 ∨ j = 7 ∨ j = 8 := by omega
    rcases h9 with rfl | rfl | rfl | rfl | rfl | rfl | rfl | rfl | rfl <;> exact hs _ (by decide +kernel)
  obtain ⟨t3, z3, y3⟩ := law_st (nm := "FIRST_SETTINGS") (f := xst 3) (A := fun q => s.heap.size ≤ q) (hs (.exactly (.static "LotFences" "FIRST_SETTINGS" "[I") "[I") (by decide +kernel)) (hs (.arrayOf (.static "LotFences" "FIRST_SETTINGS" "[I") .int) (by decide +kernel)) (hs (.eq (.length (.static "LotFences" "FIRST_SETTINGS" "[I")) (.int (Int32.ofNat 9))) (by decide +kernel)) e3 (hts (.laysStatic "LotFences" "FIRST_SETTINGS" "[I") (by decide +kernel)) (htx _ ii_X4) hA
  refine ⟨((fun c => match c with | 0 => c0 | 1 => c1 | 2 => c2 | 3 => c3 | _ => c4, fun c => match c with | 0 => i0 | 1 => i1 | 2 => i2 | 3 => i3 | _ => i4), (fun k => match k with | 10 => a10 | 12 => a12 | 13 => a13 | 14 => a14 | _ => a15), (fun k => match k with | 0 => b | 1 => t1 | 2 => t2 | _ => t3), s.heap.size), ⟨⟨fun c q hc => ?_, fun k q hk => ?_⟩, va_AO.of ao3, va_AO.of ao2, ?_, ?_, ?_, ?_, ?_, fun k hk1 hk4 => ?_⟩, rfl, rfl⟩
  · have hlt : c < 5 := (List.getElem?_eq_some_iff.mp hc).1
    have h6 : c = 0 ∨ c = 1 ∨ c = 2 ∨ c = 3 ∨ c = 4 := by omega
    rcases h6 with rfl | rfl | rfl | rfl | rfl
    · cases hc; exact k0
    · cases hc; exact k1
    · cases hc; exact k2
    · cases hc; exact k3
    · cases hc; exact k4
  · have hlt : k < 6 := (List.getElem?_eq_some_iff.mp hk).1
    have h6 : k = 0 ∨ k = 1 ∨ k = 2 ∨ k = 3 ∨ k = 4 ∨ k = 5 := by omega
    rcases h6 with rfl | rfl | rfl | rfl | rfl | rfl
    · cases hk; exact ⟨r10, n10⟩
    · cases hk; exact ⟨r10, n10⟩
    · cases hk; exact ⟨r12, n12⟩
    · cases hk; exact ⟨r13, n13⟩
    · cases hk; exact ⟨r14, n14⟩
    · cases hk; exact ⟨r15, n15⟩
  · exact va_tabs (by decide +kernel) rfl (hts (.methodLinkNest RX4 21 yX1_init "LotFences") (by decide +kernel))
  · exact va_tabs (by decide +kernel) rfl (hts (.methodLinkNest RX3 38 yX2_init "LotFences") (by decide +kernel))
  · exact va_tabs (by decide +kernel) rfl (hts (.methodLinkNest RX3 159 yX4_isFamily "LotFences") (by decide +kernel))
  · exact va_tabs (by decide +kernel) rfl (hts (.fieldLinkNest RX3 9 "LotFences" "FIRST_SETTINGS" "[I" "LotFences") (by decide +kernel))
  · exact va_tabs (by decide +kernel) rfl (hts (.castable "[I" "java/lang/Cloneable") (by decide +kernel))
  · have h3 : k = 1 ∨ k = 2 ∨ k = 3 := by omega
    rcases h3 with rfl | rfl | rfl
    · exact ⟨z1, y1⟩
    · exact ⟨z2, y2⟩
    · exact ⟨z3, y3⟩
def N0k (k : Nat) : Nat → Int := fun i => if 5 ≤ i ∧ i < 14 then xst 3 (i - 5) else if 14 ≤ i ∧ i < 14 + k then 5 else 0
theorem N0_nV : nV 50000 0 (N0k 4) := by
  have e : ∀ i, 5 ≤ i → i < 14 → N0k 4 i = xst 3 (i - 5) := fun i h1 h2 => if_pos ⟨h1, h2⟩
  refine ⟨⟨⟨by decide, by decide⟩, rfl, by decide, ⟨?_, ?_, ?_, ?_, ?_, ?_, ?_, ?_, ?_⟩, fun f hf => ?_, fun p hp => absurd hp (by omega)⟩, fun p hp => absurd hp (by omega)⟩
  · rw [e 5 (by decide) (by decide)]; decide
  · rw [e 6 (by decide) (by decide)]; decide
  · rw [e 7 (by decide) (by decide)]; decide
  · rw [e 8 (by decide) (by decide)]; decide
  · rw [e 9 (by decide) (by decide)]; decide
  · rw [e 10 (by decide) (by decide)]; decide
  · rw [e 11 (by decide) (by decide)]; decide
  · rw [e 12 (by decide) (by decide)]; decide
  · rw [e 13 (by decide) (by decide)]; decide
  · have : N0k 4 (14 + f) = 5 := by unfold N0k; rw [if_neg (by omega), if_pos (by omega)]
    rw [this]; decide
theorem law_J0 {D1 : xD} {r1 : xR} (h1 : X4s (fun _ _ => 0) D1 r1 (fun _ _ => none)) (h2 : ∀ c, c < 2 → r1 281 c = some (283 + 34 * c) ∧ WR (283 + 34 * c) r1) : JE D1 r1 (50000 + 600000 * ((0 : Nat) : Int)) := by
  obtain ⟨k1, k2, k3, k4, ⟨w5, w39, sg, st, wh⟩, g0, g1, g2, g3, g4, g5⟩ := h1
  have z5 := k1 5 (by decide) (by decide) (by decide)
  have z73 := k1 73 (by decide) (by decide) (by decide)
  have z75 := k1 75 (by decide) (by decide) (by decide)
  have z282 := k1 282 (by decide) (by decide) (by decide)
  have hs0 := h2 0 (by decide)
  have hs1 := h2 1 (by decide)
  refine ⟨N0k 4, 0, 0, fun _ _ => 0, fun _ => 0, fun _ => 0, fun _ _ => 0, fun _ => 0, ⟨⟨⟨w5, w39, fun i hi => (wh i hi).2, hs0.2, hs1.2⟩, ⟨sg, st⟩, ⟨g0, g1, g2, g3, g4, g5⟩, ⟨hs0.1, hs1.1⟩, trivial⟩, ?_, ⟨fun c => c, fun c hc => ⟨hc, (wh c hc).1, fun d hd e => e⟩, by rw [z75]; rfl, by decide, fun c hc => absurd hc (by omega)⟩, by rw [z75], by rw [z73]⟩, ⟨⟨N0_nV, by decide, by decide⟩, fun p hp => absurd hp (by omega), by decide⟩, fun c hc => absurd hc (by omega), fun a ha => ⟨by rw [z282], Or.inl rfl⟩⟩
  refine ⟨by rw [z5]; rfl, by rw [z5]; rfl, by rw [z5]; rfl, by rw [z5]; rfl, by rw [z5]; rfl, fun i hi => ?_, fun f hf => ?_, fun p hp => absurd hp (by omega)⟩
  · refine (k2 i hi).trans ?_
    unfold N0k
    rw [if_pos (by omega), show 5 + i - 5 = i by omega]
  · refine (k3 f hf).trans ?_
    unfold N0k
    rw [if_neg (by omega), if_pos (by omega)]
