/-! ===== rows: the length of an array, more shifts, words of a class ===== -/
section R6
variable {γ : xC} {cc : ByteArray} {nL d : Nat} {y : MethodName} {pc q : Nat} {pl : List (Option Value)} {st : List Value} {σ : Nat × Nat} {D : xD} {r : xR}
theorem v_ldcw (hX : xX γ cc nL y d) {i : Nat} {v : Int32} {e : Int} (hv : v = Int32.ofInt e) (hw : Cond.constant y.cls i v ∈ xtb) (hd : decode cc pc = .ok (.ldc_w i, 3)) (hq : pc + 3 = q) (k : xV γ q pl (vi e :: st) σ D r) : xV γ pc pl (st) σ D r := by
  subst hq
  obtain ⟨p, l, e, R, s, m, args, below, meth, c, Q, ω, n0, z0, n1, z1⟩ := γ
  obtain ⟨hx, hb, hml, hown, hts, hKF, hA, hfr, hlo, hce, hsl, hnm⟩ := hX
  intro g1 g2 g3 g4 H locs ls hR hS hL
  exact lv_ldcw hx hb hown (hts _ (hv ▸ hw)) hd (k g1 g2 g3 g4 H locs ls hR hS hL)
theorem v_iushr (hX : xX γ cc nL y d) {a b : Int} (e : Int) (he : ((Int32.ofInt a).toUInt32 >>> ((Int32.ofInt b).toUInt32 &&& Int32.toUInt32 31)).toInt32 = Int32.ofInt e) (hd : decode cc pc = .ok (.iushr, 1)) (hq : pc + 1 = q) (k : xV γ q pl (vi e :: st) σ D r) : xV γ pc pl (vi b :: vi a :: st) σ D r := by
  subst hq
  obtain ⟨p, l, e, R, s, m, args, below, meth, c, Q, ω, n0, z0, n1, z1⟩ := γ
  obtain ⟨hx, hb, hml, hown, hts, hKF, hA, hfr, hlo, hce, hsl, hnm⟩ := hX
  intro g1 g2 g3 g4 H locs ls hR hS hL
  exact lv_iushr hx hb hd he (k g1 g2 g3 g4 H locs ls hR hS hL)
theorem v_alen (hX : xX γ cc nL y d) {a z : Nat} (hs : xSH a = (10, z)) (ha : 4 ≤ a) (han : a < σ.1) (hd : decode cc pc = .ok (.arraylength, 1)) (hq : pc + 1 = q)
    (k : xV γ q pl (vi (z : Nat) :: st) σ D r) : xV γ pc pl (.ref a :: st) σ D r := by
  subst hq
  obtain ⟨p, l, e, R, s, m, args, below, meth, c, Q, ω, n0, z0, n1, z1⟩ := γ
  obtain ⟨hx, hb, hml, hown, hts, hKF, hA, hfr, hlo, hce, hsl, hnm⟩ := hX
  intro g1 g2 g3 g4 H locs ls hR hS hL
  have h0 := xws_at ω D r ha han
  rw [xent_arr ω hs (by decide)] at h0
  exact va_alen hx hb hKF.1 hR.2.2 (a - 4) 0 h0 rfl (Int32.ofInt_eq_ofNat.symm ▸ rfl) hd (k g1 g2 g3 g4 H locs ls hR hS hL)
theorem w_callSn {n z : Nat} {rest As : List Value} {μ : xM} {d' m idx : Nat} (hX : xX γ cc nL y d) {Q : xD → Prop} (hM : MX d' μ As (n, z) D r (n, z) (xEn Q r)) (hst : st = As.reverse ++ rest) (hμ : xMS μ m) (hn : As.length = m) (hdd : d' + 1 ≤ d) (hlk : Cond.methodLink y.cls idx μ.1 ∈ xtb)
    (hrest : (rest.map Value.category).sum ≤ 8) (hd : decode cc pc = .ok (.invokestatic idx, 3)) (hq : pc + 3 = q) (k : ∀ D', Q D' → xV γ q pl rest (n, z) D' r) : xV γ pc pl st (n, z) D r :=
  v_callS hX hM hst hμ hn hdd hlk hrest hd hq (fun v D' r' h => by obtain ⟨rfl, rfl, hQ⟩ := h; exact k D' hQ)
end R6

