section XK
variable {γ : xC} {cc : ByteArray} {nL d : Nat} {y : MethodName} {pc q : Nat} {pl : List (Option Value)} {st : List Value} {σf : Nat × Nat} {n z n' z' : Nat} {D : xD} {r : xR}
theorem v_getstN (hX : xX γ cc nL y d) {σ : Nat × Nat} (hy : y.cls = RX3) (hd : decode cc pc = .ok (.getstatic 9, 3)) (hq : pc + 3 = q) (k : xV γ q pl (.ref 3 :: st) σ D r) : xV γ pc pl st σ D r := by
  subst hq
  obtain ⟨p, l, e, R, s, m, args, below, meth, c, Q, ω, n0, z0, n1, z1⟩ := γ
  obtain ⟨hx, hb, hml, hown, hts, hKF, hA, hfr, hlo, hce, hsl, hnm⟩ := hX
  intro g1 g2 g3 g4 H locs ls hR hS hL
  rw [hy] at hown
  have hk := k g1 g2 g3 g4 H locs ls hR hS hL
  have he : xtr ω (.ref 3) = .ref (ω.2.2.1 3) := rfl
  rw [List.map_cons, he] at hk
  exact va_getsN (C := "LotFences") (n := "FIRST_SETTINGS") (d := "[I") (host := "LotFences") hx hb (hKF.2.2.2.2.2.2.2.2 3 (by decide) (by decide)).1 hS hown (va_Nw.use rfl hKF.2.2.2.2.2.2.1) (fun _ h9 => h9) hd hk
/-- the clone of the static row of the first settings -/
theorem v_clone (hX : xX γ cc nL y d) (hG0 : xGB γ σf) {idx : Nat} (hlk : Cond.methodLink y.cls idx ⟨"[I", "clone", "()Ljava/lang/Object;"⟩ ∈ xtb) (hsm : Cond.sameMethod "[I" "java/lang/Object" "clone" "()Ljava/lang/Object;" ∈ xtb) (hnat : Cond.native ⟨"java/lang/Object", "clone", "()Ljava/lang/Object;"⟩ ∈ xtb)
    (hins : Cond.instanceMethod ⟨"java/lang/Object", "clone", "()Ljava/lang/Object;"⟩ ∈ xtb) (hsel : Cond.selects "[I" ⟨"[I", "clone", "()Ljava/lang/Object;"⟩ ⟨"java/lang/Object", "clone", "()Ljava/lang/Object;"⟩ ∈ xtb)
    (hs : xSH n = (10, 9)) (hn : n < 351) (e1 : n + 1 = n') (e2 : z + 9 = z') (hf : n' ≤ σf.1 ∧ z' ≤ σf.2) (hd1 : 1 ≤ d) (hst : (st.map Value.category).sum ≤ 8) {D' : xD} (hD1 : ∀ q, q ≠ n → D' q = D q) (hD2 : ∀ j, j < 9 → D' n j = xst 3 j) (hd : decode cc pc = .ok (.invokevirtual idx, 3)) (hq : pc + 3 = q)
    (k : xV γ q pl (.ref n :: st) (n', z') D' r) : xV γ pc pl (.ref 3 :: st) (n, z) D r := by
  subst hq; subst e1; subst e2
  obtain ⟨p, l, e, R, s, m, args, below, meth, c, Q, ω, n0, z0, n1, z1⟩ := γ
  obtain ⟨hx, hb, hml, hown, hts, hKF, hA, hfr, hlo, hce, hsl, hnm⟩ := hX
  obtain ⟨rfl, rfl⟩ := hG0
  intro g1 g2 g3 g4 H locs ls hR hS hL
  dsimp only at g1 g2 g3 g4 hR hf
  have hsz := hR.1 hn
  have hn4 := hR.2.1
  have he : xad ω 3 = ω.2.2.1 3 := rfl
  obtain ⟨cell, c1, c2, c3, c4, c5, c6, c7⟩ := (hKF.2.2.2.2.2.2.2.2 3 (by decide) (by decide)).2
  have hcH : H[ω.2.2.1 3]? = some cell := by rw [hS.2.1 _ (Array.getElem?_eq_some_iff.mp c1).1 c6]; exact c1
  obtain ⟨c0, t0', f1, f2, f3⟩ := Cond.castable_spec (va_Nw.use (A := args) rfl hKF.2.2.2.2.2.2.2.1)
  cases c7.symm.trans f1
  obtain ⟨hAr, hRA⟩ := hKF.1.2 0 _ rfl
  have hcA : cell.cls = ω.2.1 10 := Option.some.inj (c7.symm.trans hRA)
  intro T hT X
  obtain ⟨-, kA, hkA, comp, hkind⟩ := State.isArrayOf_alike X.warmed.alike (hAr 0 (fun _ => .null))
  obtain ⟨-, kS, hkS, compS, hkindS⟩ := hAr 0 (fun _ => .null)
  obtain ⟨vm', X', st9⟩ := X.cloneArray hx hown (hts _ hlk) (hts _ hsm) (hts _ hnat) (hts _ hins) (hts _ hsel) (a := ω.2.2.1 3) (cell := cell) (by rw [hT]; exact hcH) c2.1 c3 c7 f2 f3
    (fun i v hv => by
      rw [hcA]
      have hk' : T.vm.classes[ω.2.1 10]? = some kA := hkA
      have hi : i < 9 := by rw [← c4]; exact (Array.getElem?_eq_some_iff.mp hv).1
      rw [c5 i hi] at hv
      cases hv
      have hf9 : fits .int (vi (xst 3 i)) = true := rfl
      simpa [State.fitsSlot, State.slotType?, hk', hkind] using hf9)
    (g := F0 m pc ls ((Value.ref 3 :: st).map (xtr ω))) rfl hL.1 rfl (by rw [hb]; exact hd) (by omega) (by show 2 * 0 + _ + 14 ≤ _; rw [xcat_sum]; omega) (by omega) (by rw [c4]; omega) (hloader := by rw [hcA]; exact Vm.clonesLoader_of_array hkS hkindS)
  rw [c4] at X'
  generalize hH1 : H.push ({ cls := cell.cls, slots := cell.slots } : Cell) = H1
  have y1 : H1.size = H.size + 1 := by rw [← hH1, Array.size_push]
  have y2 : H1[H.size]? = some ({ cls := cell.cls, slots := cell.slots } : Cell) := by rw [← hH1, Array.getElem?_push_size]
  have o1 : ∀ q : Nat, q < H.size → H1[q]? = H[q]? := fun q hq => by rw [← hH1, Array.getElem?_push, if_neg (Nat.ne_of_lt hq)]
  have hcell : ({ cls := cell.cls, slots := cell.slots } : Cell) = vp_cell (ω.2.1 10) (9, .inl fun j => Int32.ofInt (D' n j)) := by
    rw [vp_cell_i, hcA]
    have h9 : cell.slots = (arrV (ω.2.1 10) 9 (fun j => .int (Int32.ofInt (D' n j)))).slots := by
      apply Array.ext_getElem?
      intro i
      by_cases hi : i < 9
      · rw [c5 i hi, arrV_read _ _ hi, hD2 i hi]
      · rw [Array.getElem?_eq_none (by omega), Array.getElem?_eq_none (by rw [arrV_size]; omega)]
    rw [h9]
    rfl
  have hRD : xRep ω n D' r H := ⟨hR.1, hR.2.1, by
    have h8 : xws ω n D' r = xws ω n D r := by
      unfold xws
      refine List.map_congr_left fun i hi => ?_
      have := List.mem_range.mp hi
      rw [xent_congr ω (hD1 (i + 4) (by omega)) rfl]
    rw [h8]; exact hR.2.2⟩
  have hk := k (by dsimp only; omega) (by dsimp only; omega) (by dsimp only; omega) (by dsimp only; omega) H1 locs ls (hRD.push y1 hn o1 (by
    rw [xent_arr ω hs (by decide)]
    show H1[xad ω n]? = some _
    rw [← hsz, y2, hcell]
    rfl)) ⟨Nat.le_trans hS.1 (by rw [y1]; omega), fun x h1 h2 => (o1 x (Nat.lt_of_lt_of_le h1 hS.1)).trans (hS.2.1 x h1 h2), hS.2.2⟩ hL
  dsimp only at hk
  rw [show n + 1 - n0 = n - n0 + 1 by omega, show z + 9 - z0 = z - z0 + 9 by omega] at hk
  obtain ⟨t, b1, b2⟩ := hk _ (by rw [← hH1, ← hT]; rfl) X'
  refine ⟨t, st9 t ?_, b2⟩
  have e9 : xtr ω (.ref n) = .ref T.heap.size := by rw [hT, hsz]; rfl
  rw [List.map_cons, e9] at b1
  exact b1
theorem v_cast (hX : xX γ cc nL y d) {σ : Nat × Nat} {idx a len : Nat} (hlk : Cond.classLink y.cls idx "[I" ∈ xtb) (hs : xSH a = (10, len)) (ha : 4 ≤ a) (han : a < σ.1) (hd : decode cc pc = .ok (.checkcast idx, 3)) (hq : pc + 3 = q) (k : xV γ q pl (.ref a :: st) σ D r) : xV γ pc pl (.ref a :: st) σ D r := by
  subst hq
  obtain ⟨p, l, e, R, s, m, args, below, meth, c, Q, ω, n0, z0, n1, z1⟩ := γ
  obtain ⟨hx, hb, hml, hown, hts, hKF, hA, hfr, hlo, hce, hsl, hnm⟩ := hX
  intro g1 g2 g3 g4 H locs ls hR hS hL
  obtain ⟨hAr, hRA⟩ := hKF.1.2 0 _ rfl
  have h0 := xws_at ω D r ha han
  rw [xent_arr ω hs (by decide)] at h0
  exact va_castA hx hb hown (hts _ hlk) hR.2.2 (a - 4) h0 hRA hd (k g1 g2 g3 g4 H locs ls hR hS hL)
end XK

