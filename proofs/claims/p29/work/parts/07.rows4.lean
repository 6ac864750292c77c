/-! ===== making cells, statics, copies, the JDK's small functions ===== -/
theorem xty_ok : ∀ ci, ci < 5 → ∀ j, j < xN ci → xty ci j ≠ .float ∧ xty ci j ≠ .double := by decide +kernel
theorem xfv_zero (ω : xW) {ci j : Nat} {D : xD} {r : xR} {a : Nat} (h1 : D a j = 0) (h2 : r a j = none) (h3 : xty ci j ≠ .float ∧ xty ci j ≠ .double) : defaultValue (xty ci j) = xfv ω ci D r a j := by
  unfold xfv
  rw [h1, h2]
  generalize xty ci j = t at h3 ⊢
  cases t <;> first | rfl | exact absurd rfl h3.1 | exact absurd rfl h3.2
theorem xws_push (ω : xW) (n : Nat) (D : xD) (r : xR) (h : 4 ≤ n) : xws ω (n + 1) D r = xws ω n D r ++ [(xad ω n, xent ω D r n)] := by
  unfold xws
  rw [show n + 1 - 4 = (n - 4) + 1 by omega, List.range_succ, List.map_append, List.map_singleton, show n - 4 + 4 = n by omega]
theorem xRep.push {ω : xW} {n : Nat} {D : xD} {r : xR} {H H1 : Heap} (hR : xRep ω n D r H) (z : H1.size = H.size + 1) (hn : n < 351) (oq : ∀ q : Nat, q < H.size → H1[q]? = H[q]?) (hat : va_at ω.1 vwCl (xad ω n, xent ω D r n) H1) : xRep ω (n + 1) D r H1 := by
  refine ⟨fun _ => by rw [z, hR.1 hn, xad_ge ω hR.2.1, xad_ge ω (Nat.le_succ_of_le hR.2.1)]; have := hR.2.1; omega, Nat.le_succ_of_le hR.2.1, ?_⟩
  rw [xws_push ω n D r hR.2.1]
  refine va_P.app (hR.2.2.kept fun k x hx => oq x.1 ((hR.2.2 k x hx).lt)) fun k x hx => ?_
  have hz : k < 1 := (List.getElem?_eq_some_iff.mp hx).1
  rw [show k = 0 by omega] at hx
  cases hx
  exact hat
section XN
variable {γ : xC} {cc : ByteArray} {nL d : Nat} {y : MethodName} {pc q : Nat} {pl : List (Option Value)} {st : List Value} {σf : Nat × Nat} {n z n' z' : Nat} {D : xD} {r : xR}
theorem v_new (hX : xX γ cc nL y d) (hG0 : xGB γ σf) {idx ci : Nat} (hci : ci < 5) (hs : xSH n = (ci, 0)) (hlk : Cond.classLink y.cls idx (xcn ci) ∈ xtb) (hin : Cond.instantiable (xcn ci) (xN ci) ∈ xtb) (hini : Cond.initialized (xcn ci) ∈ xtb) (hws : ∀ w ∈ u_ws (xcn ci) (vwCl.getD ci default).2.1 (xN ci), w ∈ xtb) (hty : ∀ k, k < xN ci → parseFieldDescriptor ((vwCl.getD ci default).2.1 k).2.2.1 = some (xty ci k))
    (hn : n < 351) (hD : ∀ j, D n j = 0) (hr : ∀ j, r n j = none) (e1 : n + 1 = n') (e2 : z + xN ci = z') (hf : n' ≤ σf.1 ∧ z' ≤ σf.2) (hd : decode cc pc = .ok (.new idx, 3)) (hq : pc + 3 = q) (k : xV γ q pl (.ref n :: st) (n', z') D r) : xV γ pc pl st (n, z) D r := by
  subst hq; subst e1; subst e2
  obtain ⟨p, l, e, R, s, m, args, below, meth, c, Q, ω, n0, z0, n1, z1⟩ := γ
  obtain ⟨hx, hb, hml, hown, hts, hKF, hA, hfr, hlo, hce, hsl, hnm⟩ := hX
  obtain ⟨rfl, rfl⟩ := hG0
  intro g1 g2 g3 g4 H locs ls hR hS hL
  dsimp only at g1 g2 g3 g4 hR hf
  obtain ⟨T, hcl⟩ := xcl_at ci hci
  have hT : (vwCl.getD ci default).2.1 = T := by rw [List.getD_eq_getElem?_getD, hcl]; rfl
  rw [hT] at hws hty
  have hKn := hKF.1.1 ci _ hcl
  have hsz := hR.1 hn
  show W p l e R s m args below meth c H locs (n - n0) (z - z0) Q (F0 m pc ls (st.map (xtr ω)))
  refine W.newcK hx hb hown (hts _ hlk) (hts _ hin) (hts _ hini) rfl hd (by omega) (by omega) hKn.2.1 hsz fun H1 kC hkC e1 z1' o1 => ?_
  have hk := k (by dsimp only; omega) (by dsimp only; omega) (by dsimp only; omega) (by dsimp only; omega) H1 locs ls (hR.push (by rw [z1', hsz]) hn (fun q hq => o1 q (by rw [← hsz]; exact hq)) (by
    rw [xent_obj ω hs hci]
    exact ⟨_, hcl, (u_born (xty ci) hts hws hKn hkC e1 hty).to fun j hj => by
      unfold vp_V
      rw [List.getD_eq_getElem?_getD, xfs_get ω hj]
      exact xfv_zero ω (hD j) (hr j) (xty_ok ci hci j hj)⟩)) ⟨Nat.le_trans hS.1 (by rw [z1', hsz]; omega), fun x h1 h2 => (o1 x (by rw [← hsz]; exact Nat.lt_of_lt_of_le h1 hS.1)).trans (hS.2.1 x h1 h2), hS.2.2⟩ hL
  dsimp only at hk
  rw [show n - n0 + 1 = n + 1 - n0 by omega, show z - z0 + xN ci = z + xN ci - z0 by omega]
  exact hk
theorem xarr_name {U : State} {cA cB : ClassId} {ty : FieldType} (h1 : va_RA U cB ty) (hp : ∀ C, ty ≠ .object C) (h2 : U.vm.findClass ("[" ++ ty.toString) = some cA) : cA = cB := by
  have h3 : U.vm.findClass ("[" ++ ty.toString) = some cB := by
    cases ty <;> first | exact h1 | exact absurd rfl (hp _)
  exact Option.some.inj (h2.symm.trans h3)
theorem v_newarr (hX : xX γ cc nL y d) (hG0 : xGB γ σf) {atype : ArrayType} {ty : FieldType} {cd len pi : Nat} {i : Int} (hcd : (cd, ty, pi) = (10, .int, 0) ∨ (cd, ty, pi) = (10, .int, 0) ∨ (cd, ty, pi) = (12, .char, 2) ∨ (cd, ty, pi) = (13, .boolean, 3)) (hat : newarray.typeOf atype = ty) (hs : xSH n = (cd, len)) (hi : i = (len : Int)) (hlen : len < 100000) (hac : Cond.arrayClass ty ∈ xtb)
    (hn : n < 351) (hD : ∀ j, D n j = 0) (e1 : n + 1 = n') (e2 : z + len = z') (hf : n' ≤ σf.1 ∧ z' ≤ σf.2) (hd : decode cc pc = .ok (.newarray atype, 2)) (hq : pc + 2 = q) (k : xV γ q pl (.ref n :: st) (n', z') D r) : xV γ pc pl (vi i :: st) (n, z) D r := by
  subst hq; subst e1; subst e2; subst hi; subst hat
  obtain ⟨p, l, e, R, s, m, args, below, meth, c, Q, ω, n0, z0, n1, z1⟩ := γ
  obtain ⟨hx, hb, hml, hown, hts, hKF, hA, hfr, hlo, hce, hsl, hnm⟩ := hX
  obtain ⟨rfl, rfl⟩ := hG0
  intro g1 g2 g3 g4 H locs ls hR hS hL
  dsimp only at g1 g2 g3 g4 hR hf
  have hsz := hR.1 hn
  have hto : (Int32.ofInt (len : Int)).toNatClampNeg = len := (xi_in (k := len) (n := len + 1) (by omega) (by omega)).2
  have hng : ¬ Int32.ofInt (len : Int) < 0 := fun h => (xi_in (k := len) (n := len + 1) (by omega) (by omega)).1 (Or.inl h)
  have hcb : componentBytes (newarray.typeOf atype) ≤ 8 := by cases atype <;> decide
  show W p l e R s m args below meth c H locs (n - n0) (z - z0) Q (F0 m pc ls ((vi (len : Int) :: st).map (xtr ω)))
  refine va_newaK hx hb (hts _ hac) rfl hd rfl hng hto (Nat.le_trans (Nat.mul_le_mul (Nat.le_of_lt hlen) hcb) (by decide)) (by omega) (by omega) hsz fun H1 cA f1 f2 f3 f4 f5 => ?_
  have hcA : cA = ω.2.1 cd := by
    rcases hcd with h | h | h | h <;> (injection h with h1 h2; injection h2 with h2 h3; subst h1; subst h3)
    · exact xarr_name (ty := newarray.typeOf atype) (by rw [h2]; exact (hKF.1.2 0 _ rfl).2) (by rw [h2]; intro C hC; cases hC) f5
    · exact xarr_name (ty := newarray.typeOf atype) (by rw [h2]; exact (hKF.1.2 0 _ rfl).2) (by rw [h2]; intro C hC; cases hC) f5
    · exact xarr_name (ty := newarray.typeOf atype) (by rw [h2]; exact (hKF.1.2 2 _ rfl).2) (by rw [h2]; intro C hC; cases hC) f5
    · exact xarr_name (ty := newarray.typeOf atype) (by rw [h2]; exact (hKF.1.2 3 _ rfl).2) (by rw [h2]; intro C hC; cases hC) f5
  have hk := k (by dsimp only; omega) (by dsimp only; omega) (by dsimp only; omega) (by dsimp only; omega) H1 locs ls (hR.push (by rw [f2, hsz]) hn (fun q hq => f3 q (by rw [← hsz]; exact hq)) (by
    have h6 : ¬ cd < 5 := by rcases hcd with h | h | h | h <;> (injection h with h1 h2; omega)
    rw [xent_arr ω hs h6]
    show H1[xad ω n]? = some _
    rw [f1, hcA]
    rcases hcd with h | h | h | h <;> (injection h with h1 h2; injection h2 with h2 h3; subst h1; rw [h2])
    · show _ = some (arrV (ω.2.1 10) len (fun j => .int (Int32.ofInt (D n j))))
      simp only [hD]; rfl
    · show _ = some (arrV (ω.2.1 10) len (fun j => .int (Int32.ofInt (D n j))))
      simp only [hD]; rfl
    · show _ = some (arrV (ω.2.1 12) len (fun j => .int (Int32.ofInt (D n j))))
      simp only [hD]; rfl
    · show _ = some (arrV (ω.2.1 13) len (fun j => .int (Int32.ofInt (D n j))))
      simp only [hD]; rfl)) ⟨Nat.le_trans hS.1 (by rw [f2, hsz]; omega), fun x h1 h2 => (f3 x (by rw [← hsz]; exact Nat.lt_of_lt_of_le h1 hS.1)).trans (hS.2.1 x h1 h2), hS.2.2⟩ hL
  dsimp only at hk
  rw [show n - n0 + 1 = n + 1 - n0 by omega, show z - z0 + len = z + len - z0 by omega]
  exact hk
theorem v_anew (hX : xX γ cc nL y d) (hG0 : xGB γ σf) {idx cd len pi : Nat} {C : String} {i : Int} (hcd : (cd, C, pi) = (14, RX3, 4) ∨ (cd, C, pi) = (15, RX2, 5)) (hs : xSH n = (cd, len)) (hi : i = (len : Int)) (hlen : len < 100000) (hlk : Cond.classLink y.cls idx C ∈ xtb)
    (hn : n < 351) (hr : ∀ j, r n j = none) (e1 : n + 1 = n') (e2 : z + len = z') (hf : n' ≤ σf.1 ∧ z' ≤ σf.2) (hd : decode cc pc = .ok (.anewarray idx, 3)) (hq : pc + 3 = q) (k : xV γ q pl (.ref n :: st) (n', z') D r) : xV γ pc pl (vi i :: st) (n, z) D r := by
  subst hq; subst e1; subst e2; subst hi
  obtain ⟨p, l, e, R, s, m, args, below, meth, c, Q, ω, n0, z0, n1, z1⟩ := γ
  obtain ⟨hx, hb, hml, hown, hts, hKF, hA, hfr, hlo, hce, hsl, hnm⟩ := hX
  obtain ⟨rfl, rfl⟩ := hG0
  intro g1 g2 g3 g4 H locs ls hR hS hL
  dsimp only at g1 g2 g3 g4 hR hf
  have hsz := hR.1 hn
  have hto : (Int32.ofInt (len : Int)).toNatClampNeg = len := (xi_in (k := len) (n := len + 1) (by omega) (by omega)).2
  have hng : ¬ Int32.ofInt (len : Int) < 0 := fun h => (xi_in (k := len) (n := len + 1) (by omega) (by omega)).1 (Or.inl h)
  have hao : va_AO C s := by
    rcases hcd with h | h <;> (injection h with h1 h2; injection h2 with h2 h3; subst h2)
    · exact hKF.2.1
    · exact hKF.2.2.1
  show W p l e R s m args below meth c H locs (n - n0) (z - z0) Q (F0 m pc ls ((vi (len : Int) :: st).map (xtr ω)))
  refine W.anew hx hb hown (hts _ hlk) (va_AO.use hao) rfl hd rfl hng (by rw [hto]; omega) (by omega) (by rw [hto]; omega) fun cA kA comp f1 f2 f3 f4 => ?_
  rw [hto]
  have hcA : cA = ω.2.1 cd := by
    rcases hcd with h | h <;> (injection h with h1 h2; injection h2 with h2 h3; subst h1; subst h2)
    · obtain ⟨_, _, _, _, _, h9⟩ := (hKF.1.2 4 _ rfl).2
      exact Option.some.inj (f1.symm.trans h9)
    · obtain ⟨_, _, _, _, _, h9⟩ := (hKF.1.2 5 _ rfl).2
      exact Option.some.inj (f1.symm.trans h9)
  generalize hH1 : H.push ({ cls := cA, slots := Array.replicate len .null, vm := .none } : Cell) = H1
  have y1 : H1.size = H.size + 1 := by rw [← hH1, Array.size_push]
  have y2 : H1[H.size]? = some (arrV cA len (fun _ => .null)) := by rw [← hH1, Array.getElem?_push_size, ← arrV_new]
  have o1 : ∀ q : Nat, q < H.size → H1[q]? = H[q]? := fun q hq => by rw [← hH1, Array.getElem?_push, if_neg (Nat.ne_of_lt hq)]
  have hk := k (by dsimp only; omega) (by dsimp only; omega) (by dsimp only; omega) (by dsimp only; omega) H1 locs ls (hR.push y1 hn o1 (by
    have h6 : ¬ cd < 5 := by rcases hcd with h | h <;> (injection h with h1 h2; omega)
    rw [xent_arr ω hs h6]
    show H1[xad ω n]? = some _
    rw [← hsz, y2, hcA]
    rcases hcd with h | h <;> (injection h with h1 h2; subst h1)
    · show _ = some (arrV (ω.2.1 14) len (fun j => va_rf ((r n j).map (xad ω))))
      simp only [hr]; rfl
    · show _ = some (arrV (ω.2.1 15) len (fun j => va_rf ((r n j).map (xad ω))))
      simp only [hr]; rfl)) ⟨Nat.le_trans hS.1 (by rw [y1]; omega), fun x h1 h2 => (o1 x (Nat.lt_of_lt_of_le h1 hS.1)).trans (hS.2.1 x h1 h2), hS.2.2⟩ hL
  dsimp only at hk
  rw [show n - n0 + 1 = n + 1 - n0 by omega, show z - z0 + len = z + len - z0 by omega, hsz]
  exact hk
end XN
section XM2
variable {γ : xC} {cc : ByteArray} {nL d : Nat} {y : MethodName} {pc q : Nat} {pl : List (Option Value)} {st : List Value} {σ : Nat × Nat} {D : xD} {r : xR}
theorem v_objInit (hX : xX γ cc nL y d) {idx a : Nat} (hlk : Cond.methodLink y.cls idx Lib.objectInit ∈ xtb) (hin : Cond.instanceMethod Lib.objectInit ∈ xtb) (hcd : Cond.code Lib.objectInit ⟨#[0xb1]⟩ 1 none ∈ xtb) (hd1 : 1 ≤ d) (hst : (st.map Value.category).sum ≤ 8) (hd : decode cc pc = .ok (.invokespecial idx, 3)) (hq : pc + 3 = q)
    (k : xV γ q pl st σ D r) : xV γ pc pl (.ref a :: st) σ D r := by
  subst hq
  obtain ⟨p, l, e, R, s, m, args, below, meth, c, Q, ω, n0, z0, n1, z1⟩ := γ
  obtain ⟨hx, hb, hml, hown, hts, hKF, hA, hfr, hlo, hce, hsl, hnm⟩ := hX
  intro g1 g2 g3 g4 H locs ls hR hS hL
  refine W.objInit hx hb hown (hts _ hlk) (hts _ hin) (hts _ hcd) rfl hL.1 rfl hd (by omega) ?_ ?_
  · show 2 * 0 + _ + 12 ≤ _
    rw [xcat_sum]; omega
  · exact k g1 g2 g3 g4 H locs ls hR hS hL
theorem v_getst (hX : xX γ cc nL y d) {idx kk : Nat} (h1 : 1 ≤ kk) (h4 : kk < 4) (hy : y.cls = "LotFences") (hlk : Cond.fieldLink y.cls idx "LotFences" (xnm kk) "[I" ∈ xtb) (hd : decode cc pc = .ok (.getstatic idx, 3)) (hq : pc + 3 = q)
    (k : xV γ q pl (.ref kk :: st) σ D r) : xV γ pc pl st σ D r := by
  subst hq
  obtain ⟨p, l, e, R, s, m, args, below, meth, c, Q, ω, n0, z0, n1, z1⟩ := γ
  obtain ⟨hx, hb, hml, hown, hts, hKF, hA, hfr, hlo, hce, hsl, hnm⟩ := hX
  intro g1 g2 g3 g4 H locs ls hR hS hL
  have hk := k g1 g2 g3 g4 H locs ls hR hS hL
  have he : xtr ω (.ref kk) = .ref (ω.2.2.1 kk) := by show Value.ref (xad ω kk) = _; unfold xad; rw [if_pos h4]
  rw [List.map_cons, he] at hk
  exact va_gets hx hb (hKF.2.2.2.2.2.2.2.2 kk h1 h4).1 hS hown (hts _ hlk) (fun _ h9 => h9) hd hk
theorem v_stald (hX : xX γ cc nL y d) {a kk : Nat} {i : Int} (h1 : 1 ≤ a) (h4 : a < 4) (hi : i = (kk : Int)) (hk9 : kk < 9) (hd : decode cc pc = .ok (.iaload, 1)) (hq : pc + 1 = q)
    (k : xV γ q pl (vi (xst a kk) :: st) σ D r) : xV γ pc pl (vi i :: .ref a :: st) σ D r := by
  subst hq; subst hi
  obtain ⟨p, l, e, R, s, m, args, below, meth, c, Q, ω, n0, z0, n1, z1⟩ := γ
  obtain ⟨hx, hb, hml, hown, hts, hKF, hA, hfr, hlo, hce, hsl, hnm⟩ := hX
  intro g1 g2 g3 g4 H locs ls hR hS hL
  obtain ⟨cell, c1, c2, c3, c4, c5, c6, c7⟩ := (hKF.2.2.2.2.2.2.2.2 a h1 h4).2
  obtain ⟨hin, hto⟩ := xi_in (k := kk) (n := 9) hk9 (by decide)
  have he : xad ω a = ω.2.2.1 a := by unfold xad; rw [if_pos h4]
  exact W.iald (a := xad ω a) (v := vi (xst a kk)) hx hb (by rw [he, hS.2.1 _ (Array.getElem?_eq_some_iff.mp c1).1 c6]; exact c1) c2 c3 (by rw [c4]; exact hin) (by rw [hto]; exact c5 kk hk9) rfl rfl hd (k g1 g2 g3 g4 H locs ls hR hS hL)
theorem xcpy (D : xD) (a b sp dp len : Nat) : (fun j => Int32.ofInt ((fun q => if q = b then (fun j => if dp ≤ j ∧ j < dp + len then D a (sp + (j - dp)) else D b j) else D q) b j)) = va_cpy (fun j => Int32.ofInt (D a j)) (fun j => Int32.ofInt (D b j)) sp dp len := by
  funext j
  simp only [if_pos]
  unfold va_cpy
  split <;> rfl
/-- a part of a row of ints is put into another one (or the same) -/
def xcp (D : xD) (a sp b dp len : Nat) : xD := fun q => if q = b then (fun j => if dp ≤ j ∧ j < dp + len then D a (sp + (j - dp)) else D b j) else D q
theorem v_copy (hX : xX γ cc nL y d) {idx a b za zb sp dp len : Nat} {i1 i2 i3 : Int} (hσ : 351 ≤ σ.1) (hlk : Cond.methodLink y.cls idx arraycopyName ∈ xtb) (hnat : Cond.native arraycopyName ∈ xtb) (hsta : Cond.static arraycopyName ∈ xtb) (hini : Cond.initialized "java/lang/System" ∈ xtb)
    (e1 : i1 = (sp : Int)) (e2 : i2 = (dp : Int)) (e3 : i3 = (len : Int)) (h1 : sp + len ≤ za) (h2 : dp + len ≤ zb) (hz : za ≤ 10000 ∧ zb ≤ 10000) (hs1 : xSH a = (10, za)) (hs2 : xSH b = (10, zb)) (ha : 4 ≤ a) (han : a < σ.1) (hb4 : 4 ≤ b) (hbn : b < σ.1) (hd1 : 1 ≤ d) (hst : (st.map Value.category).sum ≤ 8)
    (hd : decode cc pc = .ok (.invokestatic idx, 3)) (hq : pc + 3 = q) (k : xV γ q pl st σ (xcp D a sp b dp len) r) : xV γ pc pl (vi i3 :: vi i2 :: .ref b :: vi i1 :: .ref a :: st) σ D r := by
  subst hq; subst e1; subst e2; subst e3
  obtain ⟨p, l, e, R, s, m, args, below, meth, c, Q, ω, n0, z0, n1, z1⟩ := γ
  obtain ⟨hx, hb, hml, hown, hts, hKF, hA, hfr, hlo, hce, hsl, hnm⟩ := hX
  intro g1 g2 g3 g4 H locs ls hR hS hL
  have w1 := xws_at ω D r ha han
  have w2 := xws_at ω D r hb4 hbn
  rw [xent_arr ω hs1 (by decide)] at w1
  rw [xent_arr ω hs2 (by decide)] at w2
  obtain ⟨i1, t1⟩ := xi_in (k := sp) (n := 100000) (by omega) (by omega)
  obtain ⟨i2, t2⟩ := xi_in (k := dp) (n := 100000) (by omega) (by omega)
  obtain ⟨i3, t3⟩ := xi_in (k := len) (n := 100000) (by omega) (by omega)
  refine va_copyi hx hb (hL.1.symm) hown (hts _ hlk) (hts _ hnat) (hts _ hsta) (hts _ hini) hKF.1 hR.2.2 (xws_D ω σ.1 D r) hS (a - 4) (b - 4) 0 0 w1 w2 rfl rfl rfl (fun h => i1 (Or.inl h)) (fun h => i2 (Or.inl h)) (fun h => i3 (Or.inl h)) (by rw [t1, t3]; exact h1) (by rw [t2, t3]; exact h2) (fun i _ => rfl) (by omega) ?_ hd fun H1 locs1 hP hD hS1 => ?_
  · rw [xcat_sum]
    have h9 : nativeFrameWords "java/lang/System" "arraycopy" 5 + 11 ≤ 30 := by decide +kernel
    omega
  · refine k g1 g2 g3 g4 H1 locs1 ls ⟨fun h => by omega, hR.2.1, ?_⟩ hS1 hL
    rw [t1, t2, t3] at hP
    rw [← xws_set ω (D := D) (D' := xcp D a sp b dp len) (r := r) (r' := r) (k := b) hb4 hbn rfl (fun q hq => if_neg hq) (fun _ _ => rfl)]
    rw [xent_arr ω hs2 (by decide)]
    have h8 : xarr ω 10 (xcp D a sp b dp len) r b = .inl (va_cpy (fun j => Int32.ofInt (D a j)) (fun j => Int32.ofInt (D b j)) sp dp len) := by
      show Sum.inl _ = Sum.inl _
      congr 1
      exact xcpy D a b sp dp len
    rw [h8]
    exact hP
theorem v_mmin (hX : xX γ cc nL y d) {idx : Nat} {a b : Int} (ha : xI a) (hb2 : xI b) (hlk : Cond.methodLink y.cls idx Lib.Math.min.name ∈ xtb) (hsta : Cond.static Lib.Math.min.name ∈ xtb) (hini : Cond.initialized "java/lang/Math" ∈ xtb) (hcd : Cond.code Lib.Math.min.name Lib.Math.min.code 2 (some .int) ∈ xtb) (hd1 : 1 ≤ d) (hst : (st.map Value.category).sum ≤ 8) (hd : decode cc pc = .ok (.invokestatic idx, 3)) (hq : pc + 3 = q)
    (k : xV γ q pl (vi (if b < a then b else a) :: st) σ D r) : xV γ pc pl (vi b :: vi a :: st) σ D r := by
  have e0 : Int32.ofInt (if b < a then b else a) = if Int32.ofInt b < Int32.ofInt a then Int32.ofInt b else Int32.ofInt a := by
    simp only [xi_lt hb2 ha]; split <;> rfl
  have k : xV γ q pl ((.int (if Int32.ofInt b < Int32.ofInt a then Int32.ofInt b else Int32.ofInt a) : Value) :: st) σ D r := by rw [← e0]; exact k
  subst hq
  obtain ⟨p, l, e, R, s, m, args, below, meth, c, Q, ω, n0, z0, n1, z1⟩ := γ
  obtain ⟨hx, hb, hml, hown, hts, hKF, hA, hfr, hlo, hce, hsl, hnm⟩ := hX
  intro g1 g2 g3 g4 H locs ls hR hS hL
  exact va_mmin hx hb hL.1.symm hown (hts _ hlk) (hts _ hsta) (hts _ hini) (hts _ hcd) (by omega) (by rw [xcat_sum]; omega) (by omega) (by omega) hd (k g1 g2 g3 g4 H locs ls hR hS hL)
theorem v_mmax (hX : xX γ cc nL y d) {idx : Nat} {a b : Int} (ha : xI a) (hb2 : xI b) (hlk : Cond.methodLink y.cls idx Lib.Math.max.name ∈ xtb) (hsta : Cond.static Lib.Math.max.name ∈ xtb) (hini : Cond.initialized "java/lang/Math" ∈ xtb) (hcd : Cond.code Lib.Math.max.name Lib.Math.max.code 2 (some .int) ∈ xtb) (hd1 : 1 ≤ d) (hst : (st.map Value.category).sum ≤ 8) (hd : decode cc pc = .ok (.invokestatic idx, 3)) (hq : pc + 3 = q)
    (k : xV γ q pl (vi (if a < b then b else a) :: st) σ D r) : xV γ pc pl (vi b :: vi a :: st) σ D r := by
  have e0 : Int32.ofInt (if a < b then b else a) = if Int32.ofInt a < Int32.ofInt b then Int32.ofInt b else Int32.ofInt a := by
    simp only [xi_lt ha hb2]; split <;> rfl
  have k : xV γ q pl ((.int (if Int32.ofInt a < Int32.ofInt b then Int32.ofInt b else Int32.ofInt a) : Value) :: st) σ D r := by rw [← e0]; exact k
  subst hq
  obtain ⟨p, l, e, R, s, m, args, below, meth, c, Q, ω, n0, z0, n1, z1⟩ := γ
  obtain ⟨hx, hb, hml, hown, hts, hKF, hA, hfr, hlo, hce, hsl, hnm⟩ := hX
  intro g1 g2 g3 g4 H locs ls hR hS hL
  exact va_mmax hx hb hL.1.symm hown (hts _ hlk) (hts _ hsta) (hts _ hini) (hts _ hcd) (by omega) (by rw [xcat_sum]; omega) (by omega) (by omega) hd (k g1 g2 g3 g4 H locs ls hR hS hL)
theorem v_mminL (hX : xX γ cc nL y d) {idx : Nat} {a b : Int} (ha : xJ a) (hb2 : xJ b) (hlk : Cond.methodLink y.cls idx Lib.MathLoose.min_long.x ∈ xtb) (hsta : Cond.static Lib.MathLoose.min_long.x ∈ xtb) (hini : Cond.initialized "java/lang/Math" ∈ xtb) (hcd : Cond.code Lib.MathLoose.min_long.x Lib.MathLoose.min_long.code 4 (some .long) ∈ xtb) (hd1 : 1 ≤ d) (hst : (st.map Value.category).sum ≤ 8) (hd : decode cc pc = .ok (.invokestatic idx, 3)) (hq : pc + 3 = q)
    (k : xV γ q pl (vl (if b < a then b else a) :: st) σ D r) : xV γ pc pl (vl b :: vl a :: st) σ D r := by
  have e0 : Int64.ofInt (if b < a then b else a) = if Int64.ofInt b < Int64.ofInt a then Int64.ofInt b else Int64.ofInt a := by
    simp only [xl_lt hb2 ha]; split <;> rfl
  have k : xV γ q pl ((.long (if Int64.ofInt b < Int64.ofInt a then Int64.ofInt b else Int64.ofInt a) : Value) :: st) σ D r := by rw [← e0]; exact k
  subst hq
  obtain ⟨p, l, e, R, s, m, args, below, meth, c, Q, ω, n0, z0, n1, z1⟩ := γ
  obtain ⟨hx, hb, hml, hown, hts, hKF, hA, hfr, hlo, hce, hsl, hnm⟩ := hX
  intro g1 g2 g3 g4 H locs ls hR hS hL
  exact va_mmin_long hx hb hL.1.symm hown (hts _ hlk) (hts _ hsta) (hts _ hini) (hts _ hcd) (by omega) (by rw [xcat_sum]; omega) (by omega) (by omega) hd (k g1 g2 g3 g4 H locs ls hR hS hL)
theorem v_mabs (hX : xX γ cc nL y d) {idx : Nat} {a : Int} (ha : xI a) (hlk : Cond.methodLink y.cls idx Lib.Math.abs.name ∈ xtb) (hsta : Cond.static Lib.Math.abs.name ∈ xtb) (hini : Cond.initialized "java/lang/Math" ∈ xtb) (hcd : Cond.code Lib.Math.abs.name Lib.Math.abs.code 1 (some .int) ∈ xtb) (hd1 : 1 ≤ d) (hst : (st.map Value.category).sum ≤ 8) (hd : decode cc pc = .ok (.invokestatic idx, 3)) (hq : pc + 3 = q)
    (k : xV γ q pl (vi (if 0 ≤ a then a else 0 - a) :: st) σ D r) : xV γ pc pl (vi a :: st) σ D r := by
  have e0 : Int32.ofInt (if 0 ≤ a then a else 0 - a) = if 0 ≤ Int32.ofInt a then Int32.ofInt a else 0 - Int32.ofInt a := by
    rw [show (0 : Int32) = Int32.ofInt 0 from rfl, ← Int32.ofInt_sub]
    simp only [xi_le (show xI 0 by decide) ha]; split <;> rfl
  have k : xV γ q pl ((.int (if 0 ≤ Int32.ofInt a then Int32.ofInt a else 0 - Int32.ofInt a) : Value) :: st) σ D r := by rw [← e0]; exact k
  subst hq
  obtain ⟨p, l, e, R, s, m, args, below, meth, c, Q, ω, n0, z0, n1, z1⟩ := γ
  obtain ⟨hx, hb, hml, hown, hts, hKF, hA, hfr, hlo, hce, hsl, hnm⟩ := hX
  intro g1 g2 g3 g4 H locs ls hR hS hL
  exact va_mabs hx hb hL.1.symm hown (hts _ hlk) (hts _ hsta) (hts _ hini) (hts _ hcd) (by omega) (by rw [xcat_sum]; omega) (by omega) (by omega) hd (k g1 g2 g3 g4 H locs ls hR hS hL)
end XM2

