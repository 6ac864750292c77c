theorem xl_le {a b : Int} (ha : xJ a) (hb : xJ b) : Int64.ofInt a ≤ Int64.ofInt b ↔ a ≤ b := by rw [Int64.le_iff_toInt_le, xtl ha, xtl hb]
theorem xi_min {a : Int} (h : xI a) : Int32.minValue.toInt ≤ a ∧ a ≤ Int32.maxValue.toInt := by
  have h1 : Int32.minValue.toInt = -2147483648 := by decide
  have h2 : Int32.maxValue.toInt = 2147483647 := by decide
  rw [h1, h2]; exact ⟨h.1, Int.le_of_lt_add_one h.2⟩
theorem xl_min {a : Int} (h : xJ a) : Int64.minValue.toInt ≤ a ∧ a ≤ Int64.maxValue.toInt := by
  have h1 : Int64.minValue.toInt = -9223372036854775808 := by decide
  have h2 : Int64.maxValue.toInt = 9223372036854775807 := by decide
  rw [h1, h2]; exact ⟨h.1, Int.le_of_lt_add_one h.2⟩
section XV
variable {γ : xC} {cc : ByteArray} {nL d : Nat} {y : MethodName} {pc q : Nat} {pl : List (Option Value)} {st : List Value} {σ : Nat × Nat} {D : xD} {r : xR}
theorem v_iconst (hX : xX γ cc nL y d) {n : Int} (hd : decode cc pc = .ok (.iconst n, 1)) (hq : pc + 1 = q) (k : xV γ q pl (vi n :: st) σ D r) : xV γ pc pl (st) σ D r := by
  subst hq
  obtain ⟨p, l, e, R, s, m, args, below, meth, c, Q, ω, n0, z0, n1, z1⟩ := γ
  obtain ⟨hx, hb, hml, hown, hts, hKF, hA, hfr, hlo, hce, hsl, hnm⟩ := hX
  intro g1 g2 g3 g4 H locs ls hR hS hL
  exact lv_iconst hx hb hd rfl (k g1 g2 g3 g4 H locs ls hR hS hL)
theorem v_bipush (hX : xX γ cc nL y d) {n : Int} (hv : (Int8.ofInt n).toInt32 = Int32.ofInt n) (hd : decode cc pc = .ok (.bipush n, 2)) (hq : pc + 2 = q) (k : xV γ q pl (vi n :: st) σ D r) : xV γ pc pl (st) σ D r := by
  subst hq
  obtain ⟨p, l, e, R, s, m, args, below, meth, c, Q, ω, n0, z0, n1, z1⟩ := γ
  obtain ⟨hx, hb, hml, hown, hts, hKF, hA, hfr, hlo, hce, hsl, hnm⟩ := hX
  intro g1 g2 g3 g4 H locs ls hR hS hL
  exact lv_bipush hx hb hd hv (k g1 g2 g3 g4 H locs ls hR hS hL)
theorem v_sipush (hX : xX γ cc nL y d) {n : Int} (hv : (Int16.ofInt n).toInt32 = Int32.ofInt n) (hd : decode cc pc = .ok (.sipush n, 3)) (hq : pc + 3 = q) (k : xV γ q pl (vi n :: st) σ D r) : xV γ pc pl (st) σ D r := by
  subst hq
  obtain ⟨p, l, e, R, s, m, args, below, meth, c, Q, ω, n0, z0, n1, z1⟩ := γ
  obtain ⟨hx, hb, hml, hown, hts, hKF, hA, hfr, hlo, hce, hsl, hnm⟩ := hX
  intro g1 g2 g3 g4 H locs ls hR hS hL
  exact lv_sipush hx hb hd hv (k g1 g2 g3 g4 H locs ls hR hS hL)
theorem v_lconst (hX : xX γ cc nL y d) {n : Fin 2} {e : Int} (hv : Int64.ofNat (n : Nat) = Int64.ofInt e) (hd : decode cc pc = .ok (.lconst n, 1)) (hq : pc + 1 = q) (k : xV γ q pl (vl e :: st) σ D r) : xV γ pc pl (st) σ D r := by
  subst hq
  obtain ⟨p, l, e, R, s, m, args, below, meth, c, Q, ω, n0, z0, n1, z1⟩ := γ
  obtain ⟨hx, hb, hml, hown, hts, hKF, hA, hfr, hlo, hce, hsl, hnm⟩ := hX
  intro g1 g2 g3 g4 H locs ls hR hS hL
  exact lv_lconst hx hb hd hv (k g1 g2 g3 g4 H locs ls hR hS hL)
theorem v_ldc2 (hX : xX γ cc nL y d) {i : Nat} {v : Int64} {e : Int} (hv : v = Int64.ofInt e) (hw : Cond.constantLong y.cls i v ∈ xtb) (hd : decode cc pc = .ok (.ldc2_w i, 3)) (hq : pc + 3 = q) (k : xV γ q pl (vl e :: st) σ D r) : xV γ pc pl (st) σ D r := by
  subst hq
  obtain ⟨p, l, e, R, s, m, args, below, meth, c, Q, ω, n0, z0, n1, z1⟩ := γ
  obtain ⟨hx, hb, hml, hown, hts, hKF, hA, hfr, hlo, hce, hsl, hnm⟩ := hX
  intro g1 g2 g3 g4 H locs ls hR hS hL
  exact lv_ldc2 hx hb hown (hts _ (hv ▸ hw)) hd (k g1 g2 g3 g4 H locs ls hR hS hL)
theorem v_null (hX : xX γ cc nL y d)  (hd : decode cc pc = .ok (.aconst_null, 1)) (hq : pc + 1 = q) (k : xV γ q pl (.null :: st) σ D r) : xV γ pc pl (st) σ D r := by
  subst hq
  obtain ⟨p, l, e, R, s, m, args, below, meth, c, Q, ω, n0, z0, n1, z1⟩ := γ
  obtain ⟨hx, hb, hml, hown, hts, hKF, hA, hfr, hlo, hce, hsl, hnm⟩ := hX
  intro g1 g2 g3 g4 H locs ls hR hS hL
  exact lv_null hx hb hd (k g1 g2 g3 g4 H locs ls hR hS hL)
theorem v_iload_n (hX : xX γ cc nL y d) {kk : Fin 4} {i : Nat} {x : Int32} (hd : decode cc pc = .ok (.iload_n kk, 1)) (hi : (kk : Nat) = i) (hl : xlg pl i = some (.int x)) (hq : pc + 1 = q) (k : xV γ q pl (.int x :: st) σ D r) : xV γ pc pl (st) σ D r := by
  subst hq
  obtain ⟨p, l, e, R, s, m, args, below, meth, c, Q, ω, n0, z0, n1, z1⟩ := γ
  obtain ⟨hx, hb, hml, hown, hts, hKF, hA, hfr, hlo, hce, hsl, hnm⟩ := hX
  intro g1 g2 g3 g4 H locs ls hR hS hL
  exact lv_iload_n hx hb hd hi (hL.get hl) (k g1 g2 g3 g4 H locs ls hR hS hL)
theorem v_iload (hX : xX γ cc nL y d) {i : Nat} {x : Int32} (hd : decode cc pc = .ok (.iload i, 2)) (hl : xlg pl i = some (.int x)) (hq : pc + 2 = q) (k : xV γ q pl (.int x :: st) σ D r) : xV γ pc pl (st) σ D r := by
  subst hq
  obtain ⟨p, l, e, R, s, m, args, below, meth, c, Q, ω, n0, z0, n1, z1⟩ := γ
  obtain ⟨hx, hb, hml, hown, hts, hKF, hA, hfr, hlo, hce, hsl, hnm⟩ := hX
  intro g1 g2 g3 g4 H locs ls hR hS hL
  exact lv_iload hx hb hd (hL.get hl) (k g1 g2 g3 g4 H locs ls hR hS hL)
theorem v_lload_n (hX : xX γ cc nL y d) {kk : Fin 4} {i : Nat} {x : Int64} (hd : decode cc pc = .ok (.lload_n kk, 1)) (hi : (kk : Nat) = i) (hl : xlg pl i = some (.long x)) (hq : pc + 1 = q) (k : xV γ q pl (.long x :: st) σ D r) : xV γ pc pl (st) σ D r := by
  subst hq
  obtain ⟨p, l, e, R, s, m, args, below, meth, c, Q, ω, n0, z0, n1, z1⟩ := γ
  obtain ⟨hx, hb, hml, hown, hts, hKF, hA, hfr, hlo, hce, hsl, hnm⟩ := hX
  intro g1 g2 g3 g4 H locs ls hR hS hL
  exact lv_lload_n hx hb hd hi (hL.get hl) (k g1 g2 g3 g4 H locs ls hR hS hL)
theorem v_lload (hX : xX γ cc nL y d) {i : Nat} {x : Int64} (hd : decode cc pc = .ok (.lload i, 2)) (hl : xlg pl i = some (.long x)) (hq : pc + 2 = q) (k : xV γ q pl (.long x :: st) σ D r) : xV γ pc pl (st) σ D r := by
  subst hq
  obtain ⟨p, l, e, R, s, m, args, below, meth, c, Q, ω, n0, z0, n1, z1⟩ := γ
  obtain ⟨hx, hb, hml, hown, hts, hKF, hA, hfr, hlo, hce, hsl, hnm⟩ := hX
  intro g1 g2 g3 g4 H locs ls hR hS hL
  exact lv_lload hx hb hd (hL.get hl) (k g1 g2 g3 g4 H locs ls hR hS hL)
theorem v_aload_n (hX : xX γ cc nL y d) {kk : Fin 4} {i : Nat} {x : Nat} (hd : decode cc pc = .ok (.aload_n kk, 1)) (hi : (kk : Nat) = i) (hl : xlg pl i = some (.ref x)) (hq : pc + 1 = q) (k : xV γ q pl (.ref x :: st) σ D r) : xV γ pc pl (st) σ D r := by
  subst hq
  obtain ⟨p, l, e, R, s, m, args, below, meth, c, Q, ω, n0, z0, n1, z1⟩ := γ
  obtain ⟨hx, hb, hml, hown, hts, hKF, hA, hfr, hlo, hce, hsl, hnm⟩ := hX
  intro g1 g2 g3 g4 H locs ls hR hS hL
  exact lv_aload_n hx hb hd hi (hL.get hl) (k g1 g2 g3 g4 H locs ls hR hS hL)
theorem v_aload (hX : xX γ cc nL y d) {i : Nat} {x : Nat} (hd : decode cc pc = .ok (.aload i, 2)) (hl : xlg pl i = some (.ref x)) (hq : pc + 2 = q) (k : xV γ q pl (.ref x :: st) σ D r) : xV γ pc pl (st) σ D r := by
  subst hq
  obtain ⟨p, l, e, R, s, m, args, below, meth, c, Q, ω, n0, z0, n1, z1⟩ := γ
  obtain ⟨hx, hb, hml, hown, hts, hKF, hA, hfr, hlo, hce, hsl, hnm⟩ := hX
  intro g1 g2 g3 g4 H locs ls hR hS hL
  exact lv_aload hx hb hd (hL.get hl) (k g1 g2 g3 g4 H locs ls hR hS hL)
theorem v_aloadN_n (hX : xX γ cc nL y d) {kk : Fin 4} {i : Nat}  (hd : decode cc pc = .ok (.aload_n kk, 1)) (hi : (kk : Nat) = i) (hl : xlg pl i = some (.null)) (hq : pc + 1 = q) (k : xV γ q pl (.null :: st) σ D r) : xV γ pc pl (st) σ D r := by
  subst hq
  obtain ⟨p, l, e, R, s, m, args, below, meth, c, Q, ω, n0, z0, n1, z1⟩ := γ
  obtain ⟨hx, hb, hml, hown, hts, hKF, hA, hfr, hlo, hce, hsl, hnm⟩ := hX
  intro g1 g2 g3 g4 H locs ls hR hS hL
  exact lv_aload_nN hx hb hd hi (hL.get hl) (k g1 g2 g3 g4 H locs ls hR hS hL)
theorem v_aloadN (hX : xX γ cc nL y d) {i : Nat}  (hd : decode cc pc = .ok (.aload i, 2)) (hl : xlg pl i = some (.null)) (hq : pc + 2 = q) (k : xV γ q pl (.null :: st) σ D r) : xV γ pc pl (st) σ D r := by
  subst hq
  obtain ⟨p, l, e, R, s, m, args, below, meth, c, Q, ω, n0, z0, n1, z1⟩ := γ
  obtain ⟨hx, hb, hml, hown, hts, hKF, hA, hfr, hlo, hce, hsl, hnm⟩ := hX
  intro g1 g2 g3 g4 H locs ls hR hS hL
  exact lv_aloadN hx hb hd (hL.get hl) (k g1 g2 g3 g4 H locs ls hR hS hL)
theorem v_istore_n (hX : xX γ cc nL y d) {kk : Fin 4} {i : Nat} {x : Int32} (hd : decode cc pc = .ok (.istore_n kk, 1)) (hi : (kk : Nat) = i) (hn1 : i < pl.length) (hn2 : i < nL) (hq : pc + 1 = q) (k : xV γ q (xs1 pl i (.int x)) (st) σ D r) : xV γ pc pl (.int x :: st) σ D r := by
  subst hq
  obtain ⟨p, l, e, R, s, m, args, below, meth, c, Q, ω, n0, z0, n1, z1⟩ := γ
  obtain ⟨hx, hb, hml, hown, hts, hKF, hA, hfr, hlo, hce, hsl, hnm⟩ := hX
  intro g1 g2 g3 g4 H locs ls hR hS hL
  exact lv_istore_n hx hb hd hi hL (by rw [hml]; exact hn2) rfl (fun ls' hl' => k g1 g2 g3 g4 H locs ls' hR hS (xLH.put1 hn1 hl'))
theorem v_istore (hX : xX γ cc nL y d) {i : Nat} {x : Int32} (hd : decode cc pc = .ok (.istore i, 2)) (hn1 : i < pl.length) (hn2 : i < nL) (hq : pc + 2 = q) (k : xV γ q (xs1 pl i (.int x)) (st) σ D r) : xV γ pc pl (.int x :: st) σ D r := by
  subst hq
  obtain ⟨p, l, e, R, s, m, args, below, meth, c, Q, ω, n0, z0, n1, z1⟩ := γ
  obtain ⟨hx, hb, hml, hown, hts, hKF, hA, hfr, hlo, hce, hsl, hnm⟩ := hX
  intro g1 g2 g3 g4 H locs ls hR hS hL
  exact lv_istore hx hb hd hL (by rw [hml]; exact hn2) rfl (fun ls' hl' => k g1 g2 g3 g4 H locs ls' hR hS (xLH.put1 hn1 hl'))
theorem v_lstore_n (hX : xX γ cc nL y d) {kk : Fin 4} {i : Nat} {x : Int64} (hd : decode cc pc = .ok (.lstore_n kk, 1)) (hi : (kk : Nat) = i) (hn1 : i + 1 < pl.length) (hn2 : i + 1 < nL) (hq : pc + 1 = q) (k : xV γ q (xs2 pl i (.long x)) (st) σ D r) : xV γ pc pl (.long x :: st) σ D r := by
  subst hq
  obtain ⟨p, l, e, R, s, m, args, below, meth, c, Q, ω, n0, z0, n1, z1⟩ := γ
  obtain ⟨hx, hb, hml, hown, hts, hKF, hA, hfr, hlo, hce, hsl, hnm⟩ := hX
  intro g1 g2 g3 g4 H locs ls hR hS hL
  exact lv_lstore_n hx hb hd hi hL (by rw [hml]; exact hn2) rfl (fun ls' hl' => k g1 g2 g3 g4 H locs ls' hR hS (xLH.put2 hn1 hl'))
theorem v_lstore (hX : xX γ cc nL y d) {i : Nat} {x : Int64} (hd : decode cc pc = .ok (.lstore i, 2)) (hn1 : i + 1 < pl.length) (hn2 : i + 1 < nL) (hq : pc + 2 = q) (k : xV γ q (xs2 pl i (.long x)) (st) σ D r) : xV γ pc pl (.long x :: st) σ D r := by
  subst hq
  obtain ⟨p, l, e, R, s, m, args, below, meth, c, Q, ω, n0, z0, n1, z1⟩ := γ
  obtain ⟨hx, hb, hml, hown, hts, hKF, hA, hfr, hlo, hce, hsl, hnm⟩ := hX
  intro g1 g2 g3 g4 H locs ls hR hS hL
  exact lv_lstore hx hb hd hL (by rw [hml]; exact hn2) rfl (fun ls' hl' => k g1 g2 g3 g4 H locs ls' hR hS (xLH.put2 hn1 hl'))
theorem v_astore_n (hX : xX γ cc nL y d) {kk : Fin 4} {i : Nat} {x : Nat} (hd : decode cc pc = .ok (.astore_n kk, 1)) (hi : (kk : Nat) = i) (hn1 : i < pl.length) (hn2 : i < nL) (hq : pc + 1 = q) (k : xV γ q (xs1 pl i (.ref x)) (st) σ D r) : xV γ pc pl (.ref x :: st) σ D r := by
  subst hq
  obtain ⟨p, l, e, R, s, m, args, below, meth, c, Q, ω, n0, z0, n1, z1⟩ := γ
  obtain ⟨hx, hb, hml, hown, hts, hKF, hA, hfr, hlo, hce, hsl, hnm⟩ := hX
  intro g1 g2 g3 g4 H locs ls hR hS hL
  exact lv_astore_n hx hb hd hi hL (by rw [hml]; exact hn2) rfl (fun ls' hl' => k g1 g2 g3 g4 H locs ls' hR hS (xLH.put1 hn1 hl'))
theorem v_astore (hX : xX γ cc nL y d) {i : Nat} {x : Nat} (hd : decode cc pc = .ok (.astore i, 2)) (hn1 : i < pl.length) (hn2 : i < nL) (hq : pc + 2 = q) (k : xV γ q (xs1 pl i (.ref x)) (st) σ D r) : xV γ pc pl (.ref x :: st) σ D r := by
  subst hq
  obtain ⟨p, l, e, R, s, m, args, below, meth, c, Q, ω, n0, z0, n1, z1⟩ := γ
  obtain ⟨hx, hb, hml, hown, hts, hKF, hA, hfr, hlo, hce, hsl, hnm⟩ := hX
  intro g1 g2 g3 g4 H locs ls hR hS hL
  exact lv_astore hx hb hd hL (by rw [hml]; exact hn2) rfl (fun ls' hl' => k g1 g2 g3 g4 H locs ls' hR hS (xLH.put1 hn1 hl'))
theorem v_astoreN_n (hX : xX γ cc nL y d) {kk : Fin 4} {i : Nat}  (hd : decode cc pc = .ok (.astore_n kk, 1)) (hi : (kk : Nat) = i) (hn1 : i < pl.length) (hn2 : i < nL) (hq : pc + 1 = q) (k : xV γ q (xs1 pl i (.null)) (st) σ D r) : xV γ pc pl (.null :: st) σ D r := by
  subst hq
  obtain ⟨p, l, e, R, s, m, args, below, meth, c, Q, ω, n0, z0, n1, z1⟩ := γ
  obtain ⟨hx, hb, hml, hown, hts, hKF, hA, hfr, hlo, hce, hsl, hnm⟩ := hX
  intro g1 g2 g3 g4 H locs ls hR hS hL
  exact lv_astore_nN hx hb hd hi hL (by rw [hml]; exact hn2) rfl (fun ls' hl' => k g1 g2 g3 g4 H locs ls' hR hS (xLH.put1 hn1 hl'))
theorem v_astoreN (hX : xX γ cc nL y d) {i : Nat}  (hd : decode cc pc = .ok (.astore i, 2)) (hn1 : i < pl.length) (hn2 : i < nL) (hq : pc + 2 = q) (k : xV γ q (xs1 pl i (.null)) (st) σ D r) : xV γ pc pl (.null :: st) σ D r := by
  subst hq
  obtain ⟨p, l, e, R, s, m, args, below, meth, c, Q, ω, n0, z0, n1, z1⟩ := γ
  obtain ⟨hx, hb, hml, hown, hts, hKF, hA, hfr, hlo, hce, hsl, hnm⟩ := hX
  intro g1 g2 g3 g4 H locs ls hR hS hL
  exact lv_astoreN hx hb hd hL (by rw [hml]; exact hn2) rfl (fun ls' hl' => k g1 g2 g3 g4 H locs ls' hR hS (xLH.put1 hn1 hl'))
theorem v_iinc (hX : xX γ cc nL y d) {i : Nat} {n a : Int} (hd : decode cc pc = .ok (.iinc i n, 3)) (hl : xlg pl i = some (vi a)) (hn1 : i < pl.length) (hn2 : i < nL) (hq : pc + 3 = q) (k : xV γ q (xs1 pl i (vi (a + n))) (st) σ D r) : xV γ pc pl (st) σ D r := by
  subst hq
  obtain ⟨p, l, e, R, s, m, args, below, meth, c, Q, ω, n0, z0, n1, z1⟩ := γ
  obtain ⟨hx, hb, hml, hown, hts, hKF, hA, hfr, hlo, hce, hsl, hnm⟩ := hX
  intro g1 g2 g3 g4 H locs ls hR hS hL
  have hm : (i, Value.int (Int32.ofInt a)) ∈ xll ω 0 pl := (xll_mem pl 0 _).mpr ⟨i, vi a, by simp, hl, rfl⟩
  obtain ⟨j, hj⟩ := List.getElem?_of_mem hm
  exact lv_iinc (v := Int32.ofInt (a + n)) hx hb hd hL hj (Int32.ofInt_add a n).symm (by rw [hml]; exact hn2) rfl (fun ls' hl' => k g1 g2 g3 g4 H locs ls' hR hS (xLH.put1 (v := vi (a + n)) hn1 hl'))
theorem v_iadd (hX : xX γ cc nL y d) {a b : Int} (hd : decode cc pc = .ok (.iadd, 1)) (hq : pc + 1 = q) (k : xV γ q pl (vi (a + b) :: st) σ D r) : xV γ pc pl (vi b :: vi a :: st) σ D r := by
  have k : xV γ q pl ((.int (Int32.ofInt a + Int32.ofInt b) : Value) :: st) σ D r := by rw [← Int32.ofInt_add]; exact k
  subst hq
  obtain ⟨p, l, e, R, s, m, args, below, meth, c, Q, ω, n0, z0, n1, z1⟩ := γ
  obtain ⟨hx, hb, hml, hown, hts, hKF, hA, hfr, hlo, hce, hsl, hnm⟩ := hX
  intro g1 g2 g3 g4 H locs ls hR hS hL
  exact lv_iadd hx hb hd (k g1 g2 g3 g4 H locs ls hR hS hL)
theorem v_isub (hX : xX γ cc nL y d) {a b : Int} (hd : decode cc pc = .ok (.isub, 1)) (hq : pc + 1 = q) (k : xV γ q pl (vi (a - b) :: st) σ D r) : xV γ pc pl (vi b :: vi a :: st) σ D r := by
  have k : xV γ q pl ((.int (Int32.ofInt a - Int32.ofInt b) : Value) :: st) σ D r := by rw [← Int32.ofInt_sub]; exact k
  subst hq
  obtain ⟨p, l, e, R, s, m, args, below, meth, c, Q, ω, n0, z0, n1, z1⟩ := γ
  obtain ⟨hx, hb, hml, hown, hts, hKF, hA, hfr, hlo, hce, hsl, hnm⟩ := hX
  intro g1 g2 g3 g4 H locs ls hR hS hL
  exact lv_isub hx hb hd (k g1 g2 g3 g4 H locs ls hR hS hL)
theorem v_imul (hX : xX γ cc nL y d) {a b : Int} (hd : decode cc pc = .ok (.imul, 1)) (hq : pc + 1 = q) (k : xV γ q pl (vi (a * b) :: st) σ D r) : xV γ pc pl (vi b :: vi a :: st) σ D r := by
  have k : xV γ q pl ((.int (Int32.ofInt a * Int32.ofInt b) : Value) :: st) σ D r := by rw [← Int32.ofInt_mul]; exact k
  subst hq
  obtain ⟨p, l, e, R, s, m, args, below, meth, c, Q, ω, n0, z0, n1, z1⟩ := γ
  obtain ⟨hx, hb, hml, hown, hts, hKF, hA, hfr, hlo, hce, hsl, hnm⟩ := hX
  intro g1 g2 g3 g4 H locs ls hR hS hL
  exact lv_imul hx hb hd (k g1 g2 g3 g4 H locs ls hR hS hL)
theorem v_ladd (hX : xX γ cc nL y d) {a b : Int} (hd : decode cc pc = .ok (.ladd, 1)) (hq : pc + 1 = q) (k : xV γ q pl (vl (a + b) :: st) σ D r) : xV γ pc pl (vl b :: vl a :: st) σ D r := by
  have k : xV γ q pl ((.long (Int64.ofInt a + Int64.ofInt b) : Value) :: st) σ D r := by rw [← Int64.ofInt_add]; exact k
  subst hq
  obtain ⟨p, l, e, R, s, m, args, below, meth, c, Q, ω, n0, z0, n1, z1⟩ := γ
  obtain ⟨hx, hb, hml, hown, hts, hKF, hA, hfr, hlo, hce, hsl, hnm⟩ := hX
  intro g1 g2 g3 g4 H locs ls hR hS hL
  exact lv_ladd hx hb hd (k g1 g2 g3 g4 H locs ls hR hS hL)
theorem v_lsub (hX : xX γ cc nL y d) {a b : Int} (hd : decode cc pc = .ok (.lsub, 1)) (hq : pc + 1 = q) (k : xV γ q pl (vl (a - b) :: st) σ D r) : xV γ pc pl (vl b :: vl a :: st) σ D r := by
  have k : xV γ q pl ((.long (Int64.ofInt a - Int64.ofInt b) : Value) :: st) σ D r := by rw [← Int64.ofInt_sub]; exact k
  subst hq
  obtain ⟨p, l, e, R, s, m, args, below, meth, c, Q, ω, n0, z0, n1, z1⟩ := γ
  obtain ⟨hx, hb, hml, hown, hts, hKF, hA, hfr, hlo, hce, hsl, hnm⟩ := hX
  intro g1 g2 g3 g4 H locs ls hR hS hL
  exact lv_lsub hx hb hd (k g1 g2 g3 g4 H locs ls hR hS hL)
theorem v_lmul (hX : xX γ cc nL y d) {a b : Int} (hd : decode cc pc = .ok (.lmul, 1)) (hq : pc + 1 = q) (k : xV γ q pl (vl (a * b) :: st) σ D r) : xV γ pc pl (vl b :: vl a :: st) σ D r := by
  have k : xV γ q pl ((.long (Int64.ofInt a * Int64.ofInt b) : Value) :: st) σ D r := by rw [← Int64.ofInt_mul]; exact k
  subst hq
  obtain ⟨p, l, e, R, s, m, args, below, meth, c, Q, ω, n0, z0, n1, z1⟩ := γ
  obtain ⟨hx, hb, hml, hown, hts, hKF, hA, hfr, hlo, hce, hsl, hnm⟩ := hX
  intro g1 g2 g3 g4 H locs ls hR hS hL
  exact lv_lmul hx hb hd (k g1 g2 g3 g4 H locs ls hR hS hL)
theorem v_idiv (hX : xX γ cc nL y d) {a b : Int} (ha : 0 ≤ a) (ha2 : xI a) (hb0 : 0 < b) (hb2 : xI b) (hd : decode cc pc = .ok (.idiv, 1)) (hq : pc + 1 = q) (k : xV γ q pl (vi (a / b) :: st) σ D r) : xV γ pc pl (vi b :: vi a :: st) σ D r := by
  have h1 : Int32.ofInt (a / b) = Int32.ofInt a / Int32.ofInt b := by
    rw [← Int.tdiv_eq_ediv_of_nonneg ha]
    exact Int32.ofInt_tdiv (xi_min ha2).1 (xi_min ha2).2 (xi_min hb2).1 (xi_min hb2).2
  have k : xV γ q pl ((.int (Int32.ofInt a / Int32.ofInt b) : Value) :: st) σ D r := by rw [← h1]; exact k
  have hne : ¬ Int32.ofInt b = 0 := by
    rw [show (0 : Int32) = Int32.ofInt 0 from rfl, xi_eq hb2 (by decide)]; omega
  subst hq
  obtain ⟨p, l, e, R, s, m, args, below, meth, c, Q, ω, n0, z0, n1, z1⟩ := γ
  obtain ⟨hx, hb, hml, hown, hts, hKF, hA, hfr, hlo, hce, hsl, hnm⟩ := hX
  intro g1 g2 g3 g4 H locs ls hR hS hL
  exact lv_idiv hx hb hd hne (k g1 g2 g3 g4 H locs ls hR hS hL)
theorem v_ldiv (hX : xX γ cc nL y d) {a b : Int} (ha : 0 ≤ a) (ha2 : xJ a) (hb0 : 0 < b) (hb2 : xJ b) (hd : decode cc pc = .ok (.ldiv, 1)) (hq : pc + 1 = q) (k : xV γ q pl (vl (a / b) :: st) σ D r) : xV γ pc pl (vl b :: vl a :: st) σ D r := by
  have h1 : Int64.ofInt (a / b) = Int64.ofInt a / Int64.ofInt b := by
    rw [← Int.tdiv_eq_ediv_of_nonneg ha]
    exact Int64.ofInt_tdiv (xl_min ha2).1 (xl_min ha2).2 (xl_min hb2).1 (xl_min hb2).2
  have k : xV γ q pl ((.long (Int64.ofInt a / Int64.ofInt b) : Value) :: st) σ D r := by rw [← h1]; exact k
  have hne : ¬ Int64.ofInt b = 0 := by
    rw [show (0 : Int64) = Int64.ofInt 0 from rfl, xl_eq hb2 (by decide)]; omega
  subst hq
  obtain ⟨p, l, e, R, s, m, args, below, meth, c, Q, ω, n0, z0, n1, z1⟩ := γ
  obtain ⟨hx, hb, hml, hown, hts, hKF, hA, hfr, hlo, hce, hsl, hnm⟩ := hX
  intro g1 g2 g3 g4 H locs ls hR hS hL
  exact lv_ldiv hx hb hd hne (k g1 g2 g3 g4 H locs ls hR hS hL)
theorem v_iand (hX : xX γ cc nL y d) {a b : Int} (e : Int) (he : Int32.ofInt a &&& Int32.ofInt b = Int32.ofInt e) (hd : decode cc pc = .ok (.iand, 1)) (hq : pc + 1 = q) (k : xV γ q pl (vi e :: st) σ D r) : xV γ pc pl (vi b :: vi a :: st) σ D r := by
  have k : xV γ q pl ((.int (Int32.ofInt a &&& Int32.ofInt b) : Value) :: st) σ D r := by rw [he]; exact k
  subst hq
  obtain ⟨p, l, e, R, s, m, args, below, meth, c, Q, ω, n0, z0, n1, z1⟩ := γ
  obtain ⟨hx, hb, hml, hown, hts, hKF, hA, hfr, hlo, hce, hsl, hnm⟩ := hX
  intro g1 g2 g3 g4 H locs ls hR hS hL
  exact lv_iand hx hb hd (k g1 g2 g3 g4 H locs ls hR hS hL)
theorem v_ior (hX : xX γ cc nL y d) {a b : Int} (e : Int) (he : Int32.ofInt a ||| Int32.ofInt b = Int32.ofInt e) (hd : decode cc pc = .ok (.ior, 1)) (hq : pc + 1 = q) (k : xV γ q pl (vi e :: st) σ D r) : xV γ pc pl (vi b :: vi a :: st) σ D r := by
  have k : xV γ q pl ((.int (Int32.ofInt a ||| Int32.ofInt b) : Value) :: st) σ D r := by rw [he]; exact k
  subst hq
  obtain ⟨p, l, e, R, s, m, args, below, meth, c, Q, ω, n0, z0, n1, z1⟩ := γ
  obtain ⟨hx, hb, hml, hown, hts, hKF, hA, hfr, hlo, hce, hsl, hnm⟩ := hX
  intro g1 g2 g3 g4 H locs ls hR hS hL
  exact lv_ior hx hb hd (k g1 g2 g3 g4 H locs ls hR hS hL)
theorem v_ishl (hX : xX γ cc nL y d) {a b : Int} (e : Int) (he : Int32.ofInt a <<< (Int32.ofInt b &&& 31) = Int32.ofInt e) (hd : decode cc pc = .ok (.ishl, 1)) (hq : pc + 1 = q) (k : xV γ q pl (vi e :: st) σ D r) : xV γ pc pl (vi b :: vi a :: st) σ D r := by
  have k : xV γ q pl ((.int (Int32.ofInt a <<< (Int32.ofInt b &&& 31)) : Value) :: st) σ D r := by rw [he]; exact k
  subst hq
  obtain ⟨p, l, e, R, s, m, args, below, meth, c, Q, ω, n0, z0, n1, z1⟩ := γ
  obtain ⟨hx, hb, hml, hown, hts, hKF, hA, hfr, hlo, hce, hsl, hnm⟩ := hX
  intro g1 g2 g3 g4 H locs ls hR hS hL
  exact lv_ishl hx hb hd (k g1 g2 g3 g4 H locs ls hR hS hL)
theorem v_ishr (hX : xX γ cc nL y d) {a b : Int} (e : Int) (he : Int32.ofInt a >>> (Int32.ofInt b &&& 31) = Int32.ofInt e) (hd : decode cc pc = .ok (.ishr, 1)) (hq : pc + 1 = q) (k : xV γ q pl (vi e :: st) σ D r) : xV γ pc pl (vi b :: vi a :: st) σ D r := by
  have k : xV γ q pl ((.int (Int32.ofInt a >>> (Int32.ofInt b &&& 31)) : Value) :: st) σ D r := by rw [he]; exact k
  subst hq
  obtain ⟨p, l, e, R, s, m, args, below, meth, c, Q, ω, n0, z0, n1, z1⟩ := γ
  obtain ⟨hx, hb, hml, hown, hts, hKF, hA, hfr, hlo, hce, hsl, hnm⟩ := hX
  intro g1 g2 g3 g4 H locs ls hR hS hL
  exact lv_ishr hx hb hd (k g1 g2 g3 g4 H locs ls hR hS hL)
theorem v_land (hX : xX γ cc nL y d) {a b : Int} (e : Int) (he : Int64.ofInt a &&& Int64.ofInt b = Int64.ofInt e) (hd : decode cc pc = .ok (.land, 1)) (hq : pc + 1 = q) (k : xV γ q pl (vl e :: st) σ D r) : xV γ pc pl (vl b :: vl a :: st) σ D r := by
  have k : xV γ q pl ((.long (Int64.ofInt a &&& Int64.ofInt b) : Value) :: st) σ D r := by rw [he]; exact k
  subst hq
  obtain ⟨p, l, e, R, s, m, args, below, meth, c, Q, ω, n0, z0, n1, z1⟩ := γ
  obtain ⟨hx, hb, hml, hown, hts, hKF, hA, hfr, hlo, hce, hsl, hnm⟩ := hX
  intro g1 g2 g3 g4 H locs ls hR hS hL
  exact lv_land hx hb hd (k g1 g2 g3 g4 H locs ls hR hS hL)
theorem v_lor (hX : xX γ cc nL y d) {a b : Int} (e : Int) (he : Int64.ofInt a ||| Int64.ofInt b = Int64.ofInt e) (hd : decode cc pc = .ok (.lor, 1)) (hq : pc + 1 = q) (k : xV γ q pl (vl e :: st) σ D r) : xV γ pc pl (vl b :: vl a :: st) σ D r := by
  have k : xV γ q pl ((.long (Int64.ofInt a ||| Int64.ofInt b) : Value) :: st) σ D r := by rw [he]; exact k
  subst hq
  obtain ⟨p, l, e, R, s, m, args, below, meth, c, Q, ω, n0, z0, n1, z1⟩ := γ
  obtain ⟨hx, hb, hml, hown, hts, hKF, hA, hfr, hlo, hce, hsl, hnm⟩ := hX
  intro g1 g2 g3 g4 H locs ls hR hS hL
  exact lv_lor hx hb hd (k g1 g2 g3 g4 H locs ls hR hS hL)
theorem v_lushr (hX : xX γ cc nL y d) {a b : Int} (e : Int) (he : ((Int64.ofInt a).toUInt64 >>> ((Int32.ofInt b).toInt64.toUInt64 &&& Int64.toUInt64 63)).toInt64 = Int64.ofInt e) (hd : decode cc pc = .ok (.lushr, 1)) (hq : pc + 1 = q) (k : xV γ q pl (vl e :: st) σ D r) : xV γ pc pl (vi b :: vl a :: st) σ D r := by
  subst hq
  obtain ⟨p, l, e, R, s, m, args, below, meth, c, Q, ω, n0, z0, n1, z1⟩ := γ
  obtain ⟨hx, hb, hml, hown, hts, hKF, hA, hfr, hlo, hce, hsl, hnm⟩ := hX
  intro g1 g2 g3 g4 H locs ls hR hS hL
  exact lv_lushr hx hb hd he (k g1 g2 g3 g4 H locs ls hR hS hL)
theorem v_lshl (hX : xX γ cc nL y d) {a b : Int} (e : Int) (he : Int64.ofInt a <<< ((Int32.ofInt b).toInt64 &&& 63) = Int64.ofInt e) (hd : decode cc pc = .ok (.lshl, 1)) (hq : pc + 1 = q) (k : xV γ q pl (vl e :: st) σ D r) : xV γ pc pl (vi b :: vl a :: st) σ D r := by
  subst hq
  obtain ⟨p, l, e, R, s, m, args, below, meth, c, Q, ω, n0, z0, n1, z1⟩ := γ
  obtain ⟨hx, hb, hml, hown, hts, hKF, hA, hfr, hlo, hce, hsl, hnm⟩ := hX
  intro g1 g2 g3 g4 H locs ls hR hS hL
  exact lv_lshl hx hb hd he (k g1 g2 g3 g4 H locs ls hR hS hL)
theorem v_lshr (hX : xX γ cc nL y d) {a b : Int} (e : Int) (he : Int64.ofInt a >>> ((Int32.ofInt b).toInt64 &&& 63) = Int64.ofInt e) (hd : decode cc pc = .ok (.lshr, 1)) (hq : pc + 1 = q) (k : xV γ q pl (vl e :: st) σ D r) : xV γ pc pl (vi b :: vl a :: st) σ D r := by
  subst hq
  obtain ⟨p, l, e, R, s, m, args, below, meth, c, Q, ω, n0, z0, n1, z1⟩ := γ
  obtain ⟨hx, hb, hml, hown, hts, hKF, hA, hfr, hlo, hce, hsl, hnm⟩ := hX
  intro g1 g2 g3 g4 H locs ls hR hS hL
  exact lv_lshr hx hb hd he (k g1 g2 g3 g4 H locs ls hR hS hL)
theorem v_i2l (hX : xX γ cc nL y d) {a : Int} (ha : xI a) (hd : decode cc pc = .ok (.i2l, 1)) (hq : pc + 1 = q) (k : xV γ q pl (vl a :: st) σ D r) : xV γ pc pl (vi a :: st) σ D r := by
  subst hq
  obtain ⟨p, l, e, R, s, m, args, below, meth, c, Q, ω, n0, z0, n1, z1⟩ := γ
  obtain ⟨hx, hb, hml, hown, hts, hKF, hA, hfr, hlo, hce, hsl, hnm⟩ := hX
  intro g1 g2 g3 g4 H locs ls hR hS hL
  exact lv_i2l hx hb hd (Int32.toInt64_ofInt (xi_min ha).1 (xi_min ha).2) (k g1 g2 g3 g4 H locs ls hR hS hL)
theorem v_l2i (hX : xX γ cc nL y d) {a : Int} (hd : decode cc pc = .ok (.l2i, 1)) (hq : pc + 1 = q) (k : xV γ q pl (vi a :: st) σ D r) : xV γ pc pl (vl a :: st) σ D r := by
  subst hq
  obtain ⟨p, l, e, R, s, m, args, below, meth, c, Q, ω, n0, z0, n1, z1⟩ := γ
  obtain ⟨hx, hb, hml, hown, hts, hKF, hA, hfr, hlo, hce, hsl, hnm⟩ := hX
  intro g1 g2 g3 g4 H locs ls hR hS hL
  exact lv_l2i hx hb hd Int64.toInt32_ofInt (k g1 g2 g3 g4 H locs ls hR hS hL)
theorem v_i2c (hX : xX γ cc nL y d) {a : Int} (e : Int) (he : ((Int32.ofInt a).toUInt32 % 65536).toInt32 = Int32.ofInt e) (hd : decode cc pc = .ok (.i2c, 1)) (hq : pc + 1 = q) (k : xV γ q pl (vi e :: st) σ D r) : xV γ pc pl (vi a :: st) σ D r := by
  subst hq
  obtain ⟨p, l, e, R, s, m, args, below, meth, c, Q, ω, n0, z0, n1, z1⟩ := γ
  obtain ⟨hx, hb, hml, hown, hts, hKF, hA, hfr, hlo, hce, hsl, hnm⟩ := hX
  intro g1 g2 g3 g4 H locs ls hR hS hL
  exact lv_i2c hx hb hd he (k g1 g2 g3 g4 H locs ls hR hS hL)
theorem v_dup (hX : xX γ cc nL y d) {v : Value} (hv : v.category = 1) (hd : decode cc pc = .ok (.dup, 1)) (hq : pc + 1 = q) (k : xV γ q pl (v :: v :: st) σ D r) : xV γ pc pl (v :: st) σ D r := by
  subst hq
  obtain ⟨p, l, e, R, s, m, args, below, meth, c, Q, ω, n0, z0, n1, z1⟩ := γ
  obtain ⟨hx, hb, hml, hown, hts, hKF, hA, hfr, hlo, hce, hsl, hnm⟩ := hX
  intro g1 g2 g3 g4 H locs ls hR hS hL
  exact lv_dup hx hb hd (by rw [xcat]; exact hv) (k g1 g2 g3 g4 H locs ls hR hS hL)
theorem v_dup2_11 (hX : xX γ cc nL y d) {v w : Value} (hv : v.category = 1) (hw : w.category = 1) (hd : decode cc pc = .ok (.dup2, 1)) (hq : pc + 1 = q) (k : xV γ q pl (v :: w :: v :: w :: st) σ D r) : xV γ pc pl (v :: w :: st) σ D r := by
  subst hq
  obtain ⟨p, l, e, R, s, m, args, below, meth, c, Q, ω, n0, z0, n1, z1⟩ := γ
  obtain ⟨hx, hb, hml, hown, hts, hKF, hA, hfr, hlo, hce, hsl, hnm⟩ := hX
  intro g1 g2 g3 g4 H locs ls hR hS hL
  exact lv_dup2_11 hx hb hd (by rw [xcat]; exact hv) (by rw [xcat]; exact hw) (k g1 g2 g3 g4 H locs ls hR hS hL)
theorem v_goto (hX : xX γ cc nL y d) {off : Int} {tgt : Nat} (hd : decode cc pc = .ok (.goto off, 3)) (ht : (pc : Int) + off = (tgt : Int)) (k : xV γ tgt pl (st) σ D r) : xV γ pc pl (st) σ D r := by
  obtain ⟨p, l, e, R, s, m, args, below, meth, c, Q, ω, n0, z0, n1, z1⟩ := γ
  obtain ⟨hx, hb, hml, hown, hts, hKF, hA, hfr, hlo, hce, hsl, hnm⟩ := hX
  intro g1 g2 g3 g4 H locs ls hR hS hL
  exact lv_goto hx hb hd ht (k g1 g2 g3 g4 H locs ls hR hS hL)
theorem v_icmp_eq (hX : xX γ cc nL y d) {a b : Int} {off : Int} {tgt : Nat} (ha : xI a) (hb2 : xI b) (hd : decode cc pc = .ok (.if_icmp .eq off, 3)) (ht : (pc : Int) + off = (tgt : Int)) (hq : pc + 3 = q) (kt : a = b → xV γ tgt pl (st) σ D r) (kf : a ≠ b → xV γ q pl (st) σ D r) : xV γ pc pl (vi b :: vi a :: st) σ D r := by
  have H1 : Int32.ofInt a = Int32.ofInt b → a = b := fun h => (xi_eq ha hb2).mp h
  have H2 : ¬ (Int32.ofInt a = Int32.ofInt b) → a ≠ b := fun h z => h ((xi_eq ha hb2).mpr z)
  subst hq
  obtain ⟨p, l, e, R, s, m, args, below, meth, c, Q, ω, n0, z0, n1, z1⟩ := γ
  obtain ⟨hx, hb, hml, hown, hts, hKF, hA, hfr, hlo, hce, hsl, hnm⟩ := hX
  intro g1 g2 g3 g4 H locs ls hR hS hL
  exact lv_icmp_eq hx hb hd ht (fun h => kt (H1 h) g1 g2 g3 g4 H locs ls hR hS hL) (fun h => kf (H2 h) g1 g2 g3 g4 H locs ls hR hS hL)
theorem v_if_eq (hX : xX γ cc nL y d) {a : Int} {off : Int} {tgt : Nat} (ha : xI a) (hd : decode cc pc = .ok (.ifCond .eq off, 3)) (ht : (pc : Int) + off = (tgt : Int)) (hq : pc + 3 = q) (kt : a = (0 : Int) → xV γ tgt pl (st) σ D r) (kf : a ≠ (0 : Int) → xV γ q pl (st) σ D r) : xV γ pc pl (vi a :: st) σ D r := by
  have H1 : Int32.ofInt a = Int32.ofInt 0 → a = (0 : Int) := fun h => (xi_eq ha (show xI 0 by decide)).mp h
  have H2 : ¬ (Int32.ofInt a = Int32.ofInt 0) → a ≠ (0 : Int) := fun h z => h ((xi_eq ha (show xI 0 by decide)).mpr z)
  subst hq
  obtain ⟨p, l, e, R, s, m, args, below, meth, c, Q, ω, n0, z0, n1, z1⟩ := γ
  obtain ⟨hx, hb, hml, hown, hts, hKF, hA, hfr, hlo, hce, hsl, hnm⟩ := hX
  intro g1 g2 g3 g4 H locs ls hR hS hL
  exact lv_if_eq hx hb hd ht (fun h => kt (H1 h) g1 g2 g3 g4 H locs ls hR hS hL) (fun h => kf (H2 h) g1 g2 g3 g4 H locs ls hR hS hL)
theorem v_lcmp_eq (hX : xX γ cc nL y d) {a b : Int} {off : Int} {tgt : Nat} (ha : xJ a) (hb2 : xJ b) (hd : decode cc pc = .ok (.lcmp, 1)) (hd2 : decode cc (pc + 1) = .ok (.ifCond .eq off, 3)) (ht : ((pc + 1 : Nat) : Int) + off = (tgt : Int)) (hq : pc + 1 + 3 = q) (kt : a = b → xV γ tgt pl (st) σ D r) (kf : a ≠ b → xV γ q pl (st) σ D r) : xV γ pc pl (vl b :: vl a :: st) σ D r := by
  have H1 : lg_cmp (Int64.ofInt a) (Int64.ofInt b) = 0 → a = b := fun h => (((lg_cmp_eq (Int64.ofInt a) (Int64.ofInt b))).trans (xl_eq ha hb2)).mp h
  have H2 : ¬ (lg_cmp (Int64.ofInt a) (Int64.ofInt b) = 0) → a ≠ b := fun h z => h ((((lg_cmp_eq (Int64.ofInt a) (Int64.ofInt b))).trans (xl_eq ha hb2)).mpr z)
  subst hq
  obtain ⟨p, l, e, R, s, m, args, below, meth, c, Q, ω, n0, z0, n1, z1⟩ := γ
  obtain ⟨hx, hb, hml, hown, hts, hKF, hA, hfr, hlo, hce, hsl, hnm⟩ := hX
  intro g1 g2 g3 g4 H locs ls hR hS hL
  refine W.lcmp hx hb hd ?_
  exact lv_if_eq hx hb hd2 ht (fun h => kt (H1 h) g1 g2 g3 g4 H locs ls hR hS hL) (fun h => kf (H2 h) g1 g2 g3 g4 H locs ls hR hS hL)
theorem v_icmp_ne (hX : xX γ cc nL y d) {a b : Int} {off : Int} {tgt : Nat} (ha : xI a) (hb2 : xI b) (hd : decode cc pc = .ok (.if_icmp .ne off, 3)) (ht : (pc : Int) + off = (tgt : Int)) (hq : pc + 3 = q) (kt : a ≠ b → xV γ tgt pl (st) σ D r) (kf : a = b → xV γ q pl (st) σ D r) : xV γ pc pl (vi b :: vi a :: st) σ D r := by
  have H1 : ¬ Int32.ofInt a = Int32.ofInt b → a ≠ b := fun h => fun z => h ((xi_eq ha hb2).mpr z)
  have H2 : Int32.ofInt a = Int32.ofInt b → a = b := fun h => (xi_eq ha hb2).mp h
  subst hq
  obtain ⟨p, l, e, R, s, m, args, below, meth, c, Q, ω, n0, z0, n1, z1⟩ := γ
  obtain ⟨hx, hb, hml, hown, hts, hKF, hA, hfr, hlo, hce, hsl, hnm⟩ := hX
  intro g1 g2 g3 g4 H locs ls hR hS hL
  exact lv_icmp_ne hx hb hd ht (fun h => kt (H1 h) g1 g2 g3 g4 H locs ls hR hS hL) (fun h => kf (H2 h) g1 g2 g3 g4 H locs ls hR hS hL)
theorem v_if_ne (hX : xX γ cc nL y d) {a : Int} {off : Int} {tgt : Nat} (ha : xI a) (hd : decode cc pc = .ok (.ifCond .ne off, 3)) (ht : (pc : Int) + off = (tgt : Int)) (hq : pc + 3 = q) (kt : a ≠ (0 : Int) → xV γ tgt pl (st) σ D r) (kf : a = (0 : Int) → xV γ q pl (st) σ D r) : xV γ pc pl (vi a :: st) σ D r := by
  have H1 : ¬ Int32.ofInt a = Int32.ofInt 0 → a ≠ (0 : Int) := fun h => fun z => h ((xi_eq ha (show xI 0 by decide)).mpr z)
  have H2 : Int32.ofInt a = Int32.ofInt 0 → a = (0 : Int) := fun h => (xi_eq ha (show xI 0 by decide)).mp h
  subst hq
  obtain ⟨p, l, e, R, s, m, args, below, meth, c, Q, ω, n0, z0, n1, z1⟩ := γ
  obtain ⟨hx, hb, hml, hown, hts, hKF, hA, hfr, hlo, hce, hsl, hnm⟩ := hX
  intro g1 g2 g3 g4 H locs ls hR hS hL
  exact lv_if_ne hx hb hd ht (fun h => kt (H1 h) g1 g2 g3 g4 H locs ls hR hS hL) (fun h => kf (H2 h) g1 g2 g3 g4 H locs ls hR hS hL)
theorem v_lcmp_ne (hX : xX γ cc nL y d) {a b : Int} {off : Int} {tgt : Nat} (ha : xJ a) (hb2 : xJ b) (hd : decode cc pc = .ok (.lcmp, 1)) (hd2 : decode cc (pc + 1) = .ok (.ifCond .ne off, 3)) (ht : ((pc + 1 : Nat) : Int) + off = (tgt : Int)) (hq : pc + 1 + 3 = q) (kt : a ≠ b → xV γ tgt pl (st) σ D r) (kf : a = b → xV γ q pl (st) σ D r) : xV γ pc pl (vl b :: vl a :: st) σ D r := by
  have H1 : ¬ lg_cmp (Int64.ofInt a) (Int64.ofInt b) = 0 → a ≠ b := fun h => fun z => h ((((lg_cmp_eq (Int64.ofInt a) (Int64.ofInt b))).trans (xl_eq ha hb2)).mpr z)
  have H2 : lg_cmp (Int64.ofInt a) (Int64.ofInt b) = 0 → a = b := fun h => (((lg_cmp_eq (Int64.ofInt a) (Int64.ofInt b))).trans (xl_eq ha hb2)).mp h
  subst hq
  obtain ⟨p, l, e, R, s, m, args, below, meth, c, Q, ω, n0, z0, n1, z1⟩ := γ
  obtain ⟨hx, hb, hml, hown, hts, hKF, hA, hfr, hlo, hce, hsl, hnm⟩ := hX
  intro g1 g2 g3 g4 H locs ls hR hS hL
  refine W.lcmp hx hb hd ?_
  exact lv_if_ne hx hb hd2 ht (fun h => kt (H1 h) g1 g2 g3 g4 H locs ls hR hS hL) (fun h => kf (H2 h) g1 g2 g3 g4 H locs ls hR hS hL)
theorem v_icmp_lt (hX : xX γ cc nL y d) {a b : Int} {off : Int} {tgt : Nat} (ha : xI a) (hb2 : xI b) (hd : decode cc pc = .ok (.if_icmp .lt off, 3)) (ht : (pc : Int) + off = (tgt : Int)) (hq : pc + 3 = q) (kt : a < b → xV γ tgt pl (st) σ D r) (kf : b ≤ a → xV γ q pl (st) σ D r) : xV γ pc pl (vi b :: vi a :: st) σ D r := by
  have H1 : Int32.ofInt a < Int32.ofInt b → a < b := fun h => (xi_lt ha hb2).mp h
  have H2 : ¬ (Int32.ofInt a < Int32.ofInt b) → b ≤ a := fun h => Int.not_lt.mp (fun z => h ((xi_lt ha hb2).mpr z))
  subst hq
  obtain ⟨p, l, e, R, s, m, args, below, meth, c, Q, ω, n0, z0, n1, z1⟩ := γ
  obtain ⟨hx, hb, hml, hown, hts, hKF, hA, hfr, hlo, hce, hsl, hnm⟩ := hX
  intro g1 g2 g3 g4 H locs ls hR hS hL
  exact lv_icmp_lt hx hb hd ht (fun h => kt (H1 h) g1 g2 g3 g4 H locs ls hR hS hL) (fun h => kf (H2 h) g1 g2 g3 g4 H locs ls hR hS hL)
theorem v_if_lt (hX : xX γ cc nL y d) {a : Int} {off : Int} {tgt : Nat} (ha : xI a) (hd : decode cc pc = .ok (.ifCond .lt off, 3)) (ht : (pc : Int) + off = (tgt : Int)) (hq : pc + 3 = q) (kt : a < (0 : Int) → xV γ tgt pl (st) σ D r) (kf : (0 : Int) ≤ a → xV γ q pl (st) σ D r) : xV γ pc pl (vi a :: st) σ D r := by
  have H1 : Int32.ofInt a < Int32.ofInt 0 → a < (0 : Int) := fun h => (xi_lt ha (show xI 0 by decide)).mp h
  have H2 : ¬ (Int32.ofInt a < Int32.ofInt 0) → (0 : Int) ≤ a := fun h => Int.not_lt.mp (fun z => h ((xi_lt ha (show xI 0 by decide)).mpr z))
  subst hq
  obtain ⟨p, l, e, R, s, m, args, below, meth, c, Q, ω, n0, z0, n1, z1⟩ := γ
  obtain ⟨hx, hb, hml, hown, hts, hKF, hA, hfr, hlo, hce, hsl, hnm⟩ := hX
  intro g1 g2 g3 g4 H locs ls hR hS hL
  exact lv_if_lt hx hb hd ht (fun h => kt (H1 h) g1 g2 g3 g4 H locs ls hR hS hL) (fun h => kf (H2 h) g1 g2 g3 g4 H locs ls hR hS hL)
theorem v_lcmp_lt (hX : xX γ cc nL y d) {a b : Int} {off : Int} {tgt : Nat} (ha : xJ a) (hb2 : xJ b) (hd : decode cc pc = .ok (.lcmp, 1)) (hd2 : decode cc (pc + 1) = .ok (.ifCond .lt off, 3)) (ht : ((pc + 1 : Nat) : Int) + off = (tgt : Int)) (hq : pc + 1 + 3 = q) (kt : a < b → xV γ tgt pl (st) σ D r) (kf : b ≤ a → xV γ q pl (st) σ D r) : xV γ pc pl (vl b :: vl a :: st) σ D r := by
  have H1 : lg_cmp (Int64.ofInt a) (Int64.ofInt b) < 0 → a < b := fun h => (((lg_cmp_lt (Int64.ofInt a) (Int64.ofInt b))).trans (xl_lt ha hb2)).mp h
  have H2 : ¬ (lg_cmp (Int64.ofInt a) (Int64.ofInt b) < 0) → b ≤ a := fun h => Int.not_lt.mp (fun z => h ((((lg_cmp_lt (Int64.ofInt a) (Int64.ofInt b))).trans (xl_lt ha hb2)).mpr z))
  subst hq
  obtain ⟨p, l, e, R, s, m, args, below, meth, c, Q, ω, n0, z0, n1, z1⟩ := γ
  obtain ⟨hx, hb, hml, hown, hts, hKF, hA, hfr, hlo, hce, hsl, hnm⟩ := hX
  intro g1 g2 g3 g4 H locs ls hR hS hL
  refine W.lcmp hx hb hd ?_
  exact lv_if_lt hx hb hd2 ht (fun h => kt (H1 h) g1 g2 g3 g4 H locs ls hR hS hL) (fun h => kf (H2 h) g1 g2 g3 g4 H locs ls hR hS hL)
theorem v_icmp_ge (hX : xX γ cc nL y d) {a b : Int} {off : Int} {tgt : Nat} (ha : xI a) (hb2 : xI b) (hd : decode cc pc = .ok (.if_icmp .ge off, 3)) (ht : (pc : Int) + off = (tgt : Int)) (hq : pc + 3 = q) (kt : b ≤ a → xV γ tgt pl (st) σ D r) (kf : a < b → xV γ q pl (st) σ D r) : xV γ pc pl (vi b :: vi a :: st) σ D r := by
  have H1 : Int32.ofInt b ≤ Int32.ofInt a → b ≤ a := fun h => (xi_le hb2 ha).mp h
  have H2 : ¬ (Int32.ofInt b ≤ Int32.ofInt a) → a < b := fun h => Int.not_le.mp (fun z => h ((xi_le hb2 ha).mpr z))
  subst hq
  obtain ⟨p, l, e, R, s, m, args, below, meth, c, Q, ω, n0, z0, n1, z1⟩ := γ
  obtain ⟨hx, hb, hml, hown, hts, hKF, hA, hfr, hlo, hce, hsl, hnm⟩ := hX
  intro g1 g2 g3 g4 H locs ls hR hS hL
  exact lv_icmp_ge hx hb hd ht (fun h => kt (H1 h) g1 g2 g3 g4 H locs ls hR hS hL) (fun h => kf (H2 h) g1 g2 g3 g4 H locs ls hR hS hL)
theorem v_if_ge (hX : xX γ cc nL y d) {a : Int} {off : Int} {tgt : Nat} (ha : xI a) (hd : decode cc pc = .ok (.ifCond .ge off, 3)) (ht : (pc : Int) + off = (tgt : Int)) (hq : pc + 3 = q) (kt : (0 : Int) ≤ a → xV γ tgt pl (st) σ D r) (kf : a < (0 : Int) → xV γ q pl (st) σ D r) : xV γ pc pl (vi a :: st) σ D r := by
  have H1 : Int32.ofInt 0 ≤ Int32.ofInt a → (0 : Int) ≤ a := fun h => (xi_le (show xI 0 by decide) ha).mp h
  have H2 : ¬ (Int32.ofInt 0 ≤ Int32.ofInt a) → a < (0 : Int) := fun h => Int.not_le.mp (fun z => h ((xi_le (show xI 0 by decide) ha).mpr z))
  subst hq
  obtain ⟨p, l, e, R, s, m, args, below, meth, c, Q, ω, n0, z0, n1, z1⟩ := γ
  obtain ⟨hx, hb, hml, hown, hts, hKF, hA, hfr, hlo, hce, hsl, hnm⟩ := hX
  intro g1 g2 g3 g4 H locs ls hR hS hL
  exact lv_if_ge hx hb hd ht (fun h => kt (H1 h) g1 g2 g3 g4 H locs ls hR hS hL) (fun h => kf (H2 h) g1 g2 g3 g4 H locs ls hR hS hL)
theorem v_lcmp_ge (hX : xX γ cc nL y d) {a b : Int} {off : Int} {tgt : Nat} (ha : xJ a) (hb2 : xJ b) (hd : decode cc pc = .ok (.lcmp, 1)) (hd2 : decode cc (pc + 1) = .ok (.ifCond .ge off, 3)) (ht : ((pc + 1 : Nat) : Int) + off = (tgt : Int)) (hq : pc + 1 + 3 = q) (kt : b ≤ a → xV γ tgt pl (st) σ D r) (kf : a < b → xV γ q pl (st) σ D r) : xV γ pc pl (vl b :: vl a :: st) σ D r := by
  have H1 : 0 ≤ lg_cmp (Int64.ofInt a) (Int64.ofInt b) → b ≤ a := fun h => (((lg_cmp_ge (Int64.ofInt a) (Int64.ofInt b))).trans (xl_le hb2 ha)).mp h
  have H2 : ¬ (0 ≤ lg_cmp (Int64.ofInt a) (Int64.ofInt b)) → a < b := fun h => Int.not_le.mp (fun z => h ((((lg_cmp_ge (Int64.ofInt a) (Int64.ofInt b))).trans (xl_le hb2 ha)).mpr z))
  subst hq
  obtain ⟨p, l, e, R, s, m, args, below, meth, c, Q, ω, n0, z0, n1, z1⟩ := γ
  obtain ⟨hx, hb, hml, hown, hts, hKF, hA, hfr, hlo, hce, hsl, hnm⟩ := hX
  intro g1 g2 g3 g4 H locs ls hR hS hL
  refine W.lcmp hx hb hd ?_
  exact lv_if_ge hx hb hd2 ht (fun h => kt (H1 h) g1 g2 g3 g4 H locs ls hR hS hL) (fun h => kf (H2 h) g1 g2 g3 g4 H locs ls hR hS hL)
theorem v_icmp_gt (hX : xX γ cc nL y d) {a b : Int} {off : Int} {tgt : Nat} (ha : xI a) (hb2 : xI b) (hd : decode cc pc = .ok (.if_icmp .gt off, 3)) (ht : (pc : Int) + off = (tgt : Int)) (hq : pc + 3 = q) (kt : b < a → xV γ tgt pl (st) σ D r) (kf : a ≤ b → xV γ q pl (st) σ D r) : xV γ pc pl (vi b :: vi a :: st) σ D r := by
  have H1 : Int32.ofInt b < Int32.ofInt a → b < a := fun h => (xi_lt hb2 ha).mp h
  have H2 : ¬ (Int32.ofInt b < Int32.ofInt a) → a ≤ b := fun h => Int.not_lt.mp (fun z => h ((xi_lt hb2 ha).mpr z))
  subst hq
  obtain ⟨p, l, e, R, s, m, args, below, meth, c, Q, ω, n0, z0, n1, z1⟩ := γ
  obtain ⟨hx, hb, hml, hown, hts, hKF, hA, hfr, hlo, hce, hsl, hnm⟩ := hX
  intro g1 g2 g3 g4 H locs ls hR hS hL
  exact lv_icmp_gt hx hb hd ht (fun h => kt (H1 h) g1 g2 g3 g4 H locs ls hR hS hL) (fun h => kf (H2 h) g1 g2 g3 g4 H locs ls hR hS hL)
theorem v_if_gt (hX : xX γ cc nL y d) {a : Int} {off : Int} {tgt : Nat} (ha : xI a) (hd : decode cc pc = .ok (.ifCond .gt off, 3)) (ht : (pc : Int) + off = (tgt : Int)) (hq : pc + 3 = q) (kt : (0 : Int) < a → xV γ tgt pl (st) σ D r) (kf : a ≤ (0 : Int) → xV γ q pl (st) σ D r) : xV γ pc pl (vi a :: st) σ D r := by
  have H1 : Int32.ofInt 0 < Int32.ofInt a → (0 : Int) < a := fun h => (xi_lt (show xI 0 by decide) ha).mp h
  have H2 : ¬ (Int32.ofInt 0 < Int32.ofInt a) → a ≤ (0 : Int) := fun h => Int.not_lt.mp (fun z => h ((xi_lt (show xI 0 by decide) ha).mpr z))
  subst hq
  obtain ⟨p, l, e, R, s, m, args, below, meth, c, Q, ω, n0, z0, n1, z1⟩ := γ
  obtain ⟨hx, hb, hml, hown, hts, hKF, hA, hfr, hlo, hce, hsl, hnm⟩ := hX
  intro g1 g2 g3 g4 H locs ls hR hS hL
  exact lv_if_gt hx hb hd ht (fun h => kt (H1 h) g1 g2 g3 g4 H locs ls hR hS hL) (fun h => kf (H2 h) g1 g2 g3 g4 H locs ls hR hS hL)
theorem v_lcmp_gt (hX : xX γ cc nL y d) {a b : Int} {off : Int} {tgt : Nat} (ha : xJ a) (hb2 : xJ b) (hd : decode cc pc = .ok (.lcmp, 1)) (hd2 : decode cc (pc + 1) = .ok (.ifCond .gt off, 3)) (ht : ((pc + 1 : Nat) : Int) + off = (tgt : Int)) (hq : pc + 1 + 3 = q) (kt : b < a → xV γ tgt pl (st) σ D r) (kf : a ≤ b → xV γ q pl (st) σ D r) : xV γ pc pl (vl b :: vl a :: st) σ D r := by
  have H1 : 0 < lg_cmp (Int64.ofInt a) (Int64.ofInt b) → b < a := fun h => (((lg_cmp_gt (Int64.ofInt a) (Int64.ofInt b))).trans (xl_lt hb2 ha)).mp h
  have H2 : ¬ (0 < lg_cmp (Int64.ofInt a) (Int64.ofInt b)) → a ≤ b := fun h => Int.not_lt.mp (fun z => h ((((lg_cmp_gt (Int64.ofInt a) (Int64.ofInt b))).trans (xl_lt hb2 ha)).mpr z))
  subst hq
  obtain ⟨p, l, e, R, s, m, args, below, meth, c, Q, ω, n0, z0, n1, z1⟩ := γ
  obtain ⟨hx, hb, hml, hown, hts, hKF, hA, hfr, hlo, hce, hsl, hnm⟩ := hX
  intro g1 g2 g3 g4 H locs ls hR hS hL
  refine W.lcmp hx hb hd ?_
  exact lv_if_gt hx hb hd2 ht (fun h => kt (H1 h) g1 g2 g3 g4 H locs ls hR hS hL) (fun h => kf (H2 h) g1 g2 g3 g4 H locs ls hR hS hL)
theorem v_icmp_le (hX : xX γ cc nL y d) {a b : Int} {off : Int} {tgt : Nat} (ha : xI a) (hb2 : xI b) (hd : decode cc pc = .ok (.if_icmp .le off, 3)) (ht : (pc : Int) + off = (tgt : Int)) (hq : pc + 3 = q) (kt : a ≤ b → xV γ tgt pl (st) σ D r) (kf : b < a → xV γ q pl (st) σ D r) : xV γ pc pl (vi b :: vi a :: st) σ D r := by
  have H1 : Int32.ofInt a ≤ Int32.ofInt b → a ≤ b := fun h => (xi_le ha hb2).mp h
  have H2 : ¬ (Int32.ofInt a ≤ Int32.ofInt b) → b < a := fun h => Int.not_le.mp (fun z => h ((xi_le ha hb2).mpr z))
  subst hq
  obtain ⟨p, l, e, R, s, m, args, below, meth, c, Q, ω, n0, z0, n1, z1⟩ := γ
  obtain ⟨hx, hb, hml, hown, hts, hKF, hA, hfr, hlo, hce, hsl, hnm⟩ := hX
  intro g1 g2 g3 g4 H locs ls hR hS hL
  exact lv_icmp_le hx hb hd ht (fun h => kt (H1 h) g1 g2 g3 g4 H locs ls hR hS hL) (fun h => kf (H2 h) g1 g2 g3 g4 H locs ls hR hS hL)
theorem v_if_le (hX : xX γ cc nL y d) {a : Int} {off : Int} {tgt : Nat} (ha : xI a) (hd : decode cc pc = .ok (.ifCond .le off, 3)) (ht : (pc : Int) + off = (tgt : Int)) (hq : pc + 3 = q) (kt : a ≤ (0 : Int) → xV γ tgt pl (st) σ D r) (kf : (0 : Int) < a → xV γ q pl (st) σ D r) : xV γ pc pl (vi a :: st) σ D r := by
  have H1 : Int32.ofInt a ≤ Int32.ofInt 0 → a ≤ (0 : Int) := fun h => (xi_le ha (show xI 0 by decide)).mp h
  have H2 : ¬ (Int32.ofInt a ≤ Int32.ofInt 0) → (0 : Int) < a := fun h => Int.not_le.mp (fun z => h ((xi_le ha (show xI 0 by decide)).mpr z))
  subst hq
  obtain ⟨p, l, e, R, s, m, args, below, meth, c, Q, ω, n0, z0, n1, z1⟩ := γ
  obtain ⟨hx, hb, hml, hown, hts, hKF, hA, hfr, hlo, hce, hsl, hnm⟩ := hX
  intro g1 g2 g3 g4 H locs ls hR hS hL
  exact lv_if_le hx hb hd ht (fun h => kt (H1 h) g1 g2 g3 g4 H locs ls hR hS hL) (fun h => kf (H2 h) g1 g2 g3 g4 H locs ls hR hS hL)
theorem v_lcmp_le (hX : xX γ cc nL y d) {a b : Int} {off : Int} {tgt : Nat} (ha : xJ a) (hb2 : xJ b) (hd : decode cc pc = .ok (.lcmp, 1)) (hd2 : decode cc (pc + 1) = .ok (.ifCond .le off, 3)) (ht : ((pc + 1 : Nat) : Int) + off = (tgt : Int)) (hq : pc + 1 + 3 = q) (kt : a ≤ b → xV γ tgt pl (st) σ D r) (kf : b < a → xV γ q pl (st) σ D r) : xV γ pc pl (vl b :: vl a :: st) σ D r := by
  have H1 : lg_cmp (Int64.ofInt a) (Int64.ofInt b) ≤ 0 → a ≤ b := fun h => (((lg_cmp_le (Int64.ofInt a) (Int64.ofInt b))).trans (xl_le ha hb2)).mp h
  have H2 : ¬ (lg_cmp (Int64.ofInt a) (Int64.ofInt b) ≤ 0) → b < a := fun h => Int.not_le.mp (fun z => h ((((lg_cmp_le (Int64.ofInt a) (Int64.ofInt b))).trans (xl_le ha hb2)).mpr z))
  subst hq
  obtain ⟨p, l, e, R, s, m, args, below, meth, c, Q, ω, n0, z0, n1, z1⟩ := γ
  obtain ⟨hx, hb, hml, hown, hts, hKF, hA, hfr, hlo, hce, hsl, hnm⟩ := hX
  intro g1 g2 g3 g4 H locs ls hR hS hL
  refine W.lcmp hx hb hd ?_
  exact lv_if_le hx hb hd2 ht (fun h => kt (H1 h) g1 g2 g3 g4 H locs ls hR hS hL) (fun h => kf (H2 h) g1 g2 g3 g4 H locs ls hR hS hL)
theorem v_ifnonnull (hX : xX γ cc nL y d) {x : Nat} {off : Int} {tgt : Nat} (hd : decode cc pc = .ok (.ifnonnull off, 3)) (ht : (pc : Int) + off = (tgt : Int)) (k : xV γ tgt pl (st) σ D r) : xV γ pc pl (.ref x :: st) σ D r := by
  obtain ⟨p, l, e, R, s, m, args, below, meth, c, Q, ω, n0, z0, n1, z1⟩ := γ
  obtain ⟨hx, hb, hml, hown, hts, hKF, hA, hfr, hlo, hce, hsl, hnm⟩ := hX
  intro g1 g2 g3 g4 H locs ls hR hS hL
  exact lv_ifnonnull hx hb hd ht (k g1 g2 g3 g4 H locs ls hR hS hL)
theorem v_ifnull (hX : xX γ cc nL y d) {x : Nat} {off : Int} (hd : decode cc pc = .ok (.ifnull off, 3)) (hq : pc + 3 = q) (k : xV γ q pl (st) σ D r) : xV γ pc pl (.ref x :: st) σ D r := by
  subst hq
  obtain ⟨p, l, e, R, s, m, args, below, meth, c, Q, ω, n0, z0, n1, z1⟩ := γ
  obtain ⟨hx, hb, hml, hown, hts, hKF, hA, hfr, hlo, hce, hsl, hnm⟩ := hX
  intro g1 g2 g3 g4 H locs ls hR hS hL
  exact lv_ifnull hx hb hd (k g1 g2 g3 g4 H locs ls hR hS hL)
theorem v_ifnullN (hX : xX γ cc nL y d) {off : Int} {tgt : Nat} (hd : decode cc pc = .ok (.ifnull off, 3)) (ht : (pc : Int) + off = (tgt : Int)) (k : xV γ tgt pl (st) σ D r) : xV γ pc pl (.null :: st) σ D r := by
  obtain ⟨p, l, e, R, s, m, args, below, meth, c, Q, ω, n0, z0, n1, z1⟩ := γ
  obtain ⟨hx, hb, hml, hown, hts, hKF, hA, hfr, hlo, hce, hsl, hnm⟩ := hX
  intro g1 g2 g3 g4 H locs ls hR hS hL
  exact lv_ifnullN hx hb hd ht (k g1 g2 g3 g4 H locs ls hR hS hL)
theorem v_ifnonnullN (hX : xX γ cc nL y d) {off : Int} (hd : decode cc pc = .ok (.ifnonnull off, 3)) (hq : pc + 3 = q) (k : xV γ q pl (st) σ D r) : xV γ pc pl (.null :: st) σ D r := by
  subst hq
  obtain ⟨p, l, e, R, s, m, args, below, meth, c, Q, ω, n0, z0, n1, z1⟩ := γ
  obtain ⟨hx, hb, hml, hown, hts, hKF, hA, hfr, hlo, hce, hsl, hnm⟩ := hX
  intro g1 g2 g3 g4 H locs ls hR hS hL
  exact lv_ifnonnullN hx hb hd (k g1 g2 g3 g4 H locs ls hR hS hL)
theorem v_acmp_ne (hX : xX γ cc nL y d) {x w : Nat} {off : Int} {tgt : Nat} (hxa : 4 ≤ x) (hwa : 4 ≤ w) (hd : decode cc pc = .ok (.if_acmp .ne off, 3)) (ht : (pc : Int) + off = (tgt : Int)) (hq : pc + 3 = q) (kt : x ≠ w → xV γ tgt pl (st) σ D r) (kf : x = w → xV γ q pl (st) σ D r) : xV γ pc pl (.ref w :: .ref x :: st) σ D r := by
  subst hq
  obtain ⟨p, l, e, R, s, m, args, below, meth, c, Q, ω, n0, z0, n1, z1⟩ := γ
  obtain ⟨hx, hb, hml, hown, hts, hKF, hA, hfr, hlo, hce, hsl, hnm⟩ := hX
  intro g1 g2 g3 g4 H locs ls hR hS hL
  have inj : xad ω x = xad ω w → x = w := fun h => by rw [xad_ge ω hxa, xad_ge ω hwa] at h; omega
  exact lv_acmp_ne (rx := some (xad ω x)) (ry := some (xad ω w)) hx hb hd ht (fun h => kt (fun z => h (by rw [z])) g1 g2 g3 g4 H locs ls hR hS hL) (fun h => kf (inj (Option.some.inj h)) g1 g2 g3 g4 H locs ls hR hS hL)
theorem v_acmp_neN (hX : xX γ cc nL y d) {x : Nat} {off : Int} {tgt : Nat} (hd : decode cc pc = .ok (.if_acmp .ne off, 3)) (ht : (pc : Int) + off = (tgt : Int)) (k : xV γ tgt pl (st) σ D r) : xV γ pc pl (.null :: .ref x :: st) σ D r := by
  obtain ⟨p, l, e, R, s, m, args, below, meth, c, Q, ω, n0, z0, n1, z1⟩ := γ
  obtain ⟨hx, hb, hml, hown, hts, hKF, hA, hfr, hlo, hce, hsl, hnm⟩ := hX
  intro g1 g2 g3 g4 H locs ls hR hS hL
  exact lv_acmp_ne (rx := some (xad ω x)) (ry := none) hx hb hd ht (fun _ => (k g1 g2 g3 g4 H locs ls hR hS hL)) (fun h => by cases h)
theorem v_tableIn (hX : xX γ cc nL y d) {dflt lo hi : Int} {offs : Array Int} {len : Nat} {x off : Int} {tgt : Nat} (hxr : xI x) (hd : decode cc pc = .ok (.tableswitch dflt lo hi offs, len)) (h1 : lo ≤ x) (h2 : x ≤ hi) (ho : offs[(x - lo).toNat]? = some off) (ht : (pc : Int) + off = (tgt : Int)) (k : xV γ tgt pl (st) σ D r) : xV γ pc pl (vi x :: st) σ D r := by
  obtain ⟨p, l, e, R, s, m, args, below, meth, c, Q, ω, n0, z0, n1, z1⟩ := γ
  obtain ⟨hx, hb, hml, hown, hts, hKF, hA, hfr, hlo, hce, hsl, hnm⟩ := hX
  intro g1 g2 g3 g4 H locs ls hR hS hL
  exact lv_tableIn hx hb hd (by rw [xti hxr]; omega) (by rw [xti hxr]; omega) (by rw [xti hxr]; exact ho) ht (k g1 g2 g3 g4 H locs ls hR hS hL)
theorem v_tableOut (hX : xX γ cc nL y d) {dflt lo hi : Int} {offs : Array Int} {len : Nat} {x : Int} {tgt : Nat} (hxr : xI x) (hd : decode cc pc = .ok (.tableswitch dflt lo hi offs, len)) (h : x < lo ∨ hi < x) (ht : (pc : Int) + dflt = (tgt : Int)) (k : xV γ tgt pl (st) σ D r) : xV γ pc pl (vi x :: st) σ D r := by
  obtain ⟨p, l, e, R, s, m, args, below, meth, c, Q, ω, n0, z0, n1, z1⟩ := γ
  obtain ⟨hx, hb, hml, hown, hts, hKF, hA, hfr, hlo, hce, hsl, hnm⟩ := hX
  intro g1 g2 g3 g4 H locs ls hR hS hL
  exact lv_tableOut hx hb hd (by rw [xti hxr]; exact h) ht (k g1 g2 g3 g4 H locs ls hR hS hL)
theorem v_ireturn (hX : xX γ cc nL y d) {rt : Option FieldType} {σ' : Nat × Nat} {P : Option Value → xD → xR → Prop} (hRX : xRX γ rt σ' P) {a : Int} {ty : FieldType} (hty : rt = some ty) (hn : narrow ty (vi a) = vi a) (hd : decode cc pc = .ok (.ireturn, 1)) (hσ : σ.1 = σ'.1) (hP : P (some (vi a)) D r) : xV γ pc pl ([vi a]) σ D r := by
  obtain ⟨p, l, e, R, s, m, args, below, meth, c, Q, ω, n0, z0, n1, z1⟩ := γ
  obtain ⟨hx, hb, hml, hown, hts, hKF, hA, hfr, hlo, hce, hsl, hnm⟩ := hX
  obtain ⟨hQ, hrt, hlk, e1, e2⟩ := hRX
  subst hQ
  intro g1 g2 g3 g4 H locs ls hR hS hL
  refine W.widen (k := n1 - n0) (n := z1 - z0) (Nat.sub_le_sub_right g3 n0) (Nat.sub_le_sub_right g4 z0) ?_
  exact W.zret (v := Int32.ofInt a) hx hb (hrt.trans hty) hn (fun t ht hW => ⟨⟨some (vi a), D, r, rfl, hP, by rw [ht, ← hσ]; exact hR⟩, hS.F ht⟩) hS.2.2 hd hlk
theorem v_lreturn (hX : xX γ cc nL y d) {rt : Option FieldType} {σ' : Nat × Nat} {P : Option Value → xD → xR → Prop} (hRX : xRX γ rt σ' P) {a : Int} (hty : rt = some .long) (hd : decode cc pc = .ok (.lreturn, 1)) (hσ : σ.1 = σ'.1) (hP : P (some (vl a)) D r) : xV γ pc pl ([vl a]) σ D r := by
  obtain ⟨p, l, e, R, s, m, args, below, meth, c, Q, ω, n0, z0, n1, z1⟩ := γ
  obtain ⟨hx, hb, hml, hown, hts, hKF, hA, hfr, hlo, hce, hsl, hnm⟩ := hX
  obtain ⟨hQ, hrt, hlk, e1, e2⟩ := hRX
  subst hQ
  intro g1 g2 g3 g4 H locs ls hR hS hL
  refine W.widen (k := n1 - n0) (n := z1 - z0) (Nat.sub_le_sub_right g3 n0) (Nat.sub_le_sub_right g4 z0) ?_
  exact W.lret (v := Int64.ofInt a) hx hb (hrt.trans hty) (fun t ht hW => ⟨⟨some (vl a), D, r, rfl, hP, by rw [ht, ← hσ]; exact hR⟩, hS.F ht⟩) hS.2.2 hd hlk
theorem v_vreturn (hX : xX γ cc nL y d) {rt : Option FieldType} {σ' : Nat × Nat} {P : Option Value → xD → xR → Prop} (hRX : xRX γ rt σ' P) (hty : rt = none) (hd : decode cc pc = .ok (.return_, 1)) (hσ : σ.1 = σ'.1) (hP : P (none) D r) : xV γ pc pl ([]) σ D r := by
  obtain ⟨p, l, e, R, s, m, args, below, meth, c, Q, ω, n0, z0, n1, z1⟩ := γ
  obtain ⟨hx, hb, hml, hown, hts, hKF, hA, hfr, hlo, hce, hsl, hnm⟩ := hX
  obtain ⟨hQ, hrt, hlk, e1, e2⟩ := hRX
  subst hQ
  intro g1 g2 g3 g4 H locs ls hR hS hL
  refine W.widen (k := n1 - n0) (n := z1 - z0) (Nat.sub_le_sub_right g3 n0) (Nat.sub_le_sub_right g4 z0) ?_
  exact W.vret hx hb (hrt.trans hty) (fun t ht hW => ⟨⟨none, D, r, rfl, hP, by rw [ht, ← hσ]; exact hR⟩, hS.F ht⟩) hS.2.2 hd hlk
theorem v_areturn (hX : xX γ cc nL y d) {rt : Option FieldType} {σ' : Nat × Nat} {P : Option Value → xD → xR → Prop} (hRX : xRX γ rt σ' P) {x : Nat} {nm : String} (hty : rt = some (.object nm)) (hd : decode cc pc = .ok (.areturn, 1)) (hσ : σ.1 = σ'.1) (hP : P (some (.ref x)) D r) : xV γ pc pl ([.ref x]) σ D r := by
  obtain ⟨p, l, e, R, s, m, args, below, meth, c, Q, ω, n0, z0, n1, z1⟩ := γ
  obtain ⟨hx, hb, hml, hown, hts, hKF, hA, hfr, hlo, hce, hsl, hnm⟩ := hX
  obtain ⟨hQ, hrt, hlk, e1, e2⟩ := hRX
  subst hQ
  intro g1 g2 g3 g4 H locs ls hR hS hL
  refine W.widen (k := n1 - n0) (n := z1 - z0) (Nat.sub_le_sub_right g3 n0) (Nat.sub_le_sub_right g4 z0) ?_
  exact W.aret (v := .ref (xad ω x)) hx hb (hrt.trans hty) (Or.inl ⟨nm, rfl⟩) (Or.inr ⟨_, rfl⟩) (fun t ht hW => ⟨⟨some (.ref x), D, r, rfl, hP, by rw [ht, ← hσ]; exact hR⟩, hS.F ht⟩) hS.2.2 hd hlk
theorem v_areturnN (hX : xX γ cc nL y d) {rt : Option FieldType} {σ' : Nat × Nat} {P : Option Value → xD → xR → Prop} (hRX : xRX γ rt σ' P) {nm : String} (hty : rt = some (.object nm)) (hd : decode cc pc = .ok (.areturn, 1)) (hσ : σ.1 = σ'.1) (hP : P (some .null) D r) : xV γ pc pl ([.null]) σ D r := by
  obtain ⟨p, l, e, R, s, m, args, below, meth, c, Q, ω, n0, z0, n1, z1⟩ := γ
  obtain ⟨hx, hb, hml, hown, hts, hKF, hA, hfr, hlo, hce, hsl, hnm⟩ := hX
  obtain ⟨hQ, hrt, hlk, e1, e2⟩ := hRX
  subst hQ
  intro g1 g2 g3 g4 H locs ls hR hS hL
  refine W.widen (k := n1 - n0) (n := z1 - z0) (Nat.sub_le_sub_right g3 n0) (Nat.sub_le_sub_right g4 z0) ?_
  exact W.aret (v := .null) hx hb (hrt.trans hty) (Or.inl ⟨nm, rfl⟩) (Or.inl rfl) (fun t ht hW => ⟨⟨some .null, D, r, rfl, hP, by rw [ht, ← hσ]; exact hR⟩, hS.F ht⟩) hS.2.2 hd hlk
end XV

