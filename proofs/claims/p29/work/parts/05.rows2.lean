/-! ===== the heap's rows ===== -/
def xcn : Nat → String
  | 0 => RX0 | 1 => RX1 | 2 => RX2 | 3 => RX3 | 4 => RX4 | _ => RX5
/-- a link of the pool of 'own' that names the field j of the class ci -/
def xFL (own : String) (idx ci j : Nat) (fin : Bool) : Prop := ∃ (T : u_T), ci < 5 ∧ vwCl[ci]? = some (xcn ci, T, xN ci) ∧ j < xN ci ∧ (∀ w ∈ u_ws (xcn ci) T (xN ci), w ∈ xtb) ∧ (∀ k, k < xN ci → parseFieldDescriptor (T k).2.2.1 = some (xty ci k))
  ∧ (∀ a, a < xN ci → ∀ b, b < xN ci → a ≠ b → (T a).2.1 ≠ (T b).2.1) ∧ Cond.fieldLink own idx (T j).1 (T j).2.1 (T j).2.2.1 ∈ xtb ∧ (T j).2.2.2 = fin ∧ (T j).1 = xcn ci
theorem xRep.put {ω : xW} {n : Nat} {D D' : xD} {r r' : xR} {H H1 : Heap} {k : Nat} (hR : xRep ω n D r H) (hk : 4 ≤ k) (hkn : k < n) (z : H1.size = H.size) (oq : ∀ q : Nat, q ≠ xad ω k → H1[q]? = H[q]?) (hat : va_at ω.1 vwCl (xad ω k, xent ω D' r' k) H1)
    (hD : ∀ q, q ≠ k → D' q = D q) (hr : ∀ q, q ≠ k → r' q = r q) : xRep ω n D' r' H1 := by
  refine ⟨fun hn => by rw [z]; exact hR.1 hn, hR.2.1, ?_⟩
  have h := hR.2.2.set (xws_D ω n D r) (xws_at ω D r hk hkn) hat oq
  rwa [xws_set ω hk hkn rfl hD hr] at h
theorem xRep.cell {ω : xW} {n : Nat} {D : xD} {r : xR} {H : Heap} (hR : xRep ω n D r H) {k c z : Nat} (hk : 4 ≤ k) (hkn : k < n) (hs : xSH k = (c, z)) (hc : ¬ c < 5) : H[xad ω k]? = some (vp_cell (ω.2.1 c) (z, xarr ω c D r k)) := by
  have h := hR.2.2 _ _ (xws_at ω D r hk hkn)
  rw [xent_arr ω hs hc] at h
  exact h
theorem xA_ad (ω : xW) {k : Nat} (h : 4 ≤ k) : xA ω (xad ω k) := by
  show ω.2.2.2 ≤ xad ω k
  rw [xad_ge ω h]; omega
section XH
variable {γ : xC} {cc : ByteArray} {nL d : Nat} {y : MethodName} {pc q : Nat} {pl : List (Option Value)} {st : List Value} {σ : Nat × Nat} {D : xD} {r : xR}
theorem v_getX (hX : xX γ cc nL y d) {idx ci j a z : Nat} {fin : Bool} (hf : xFL y.cls idx ci j fin) (hs : xSH a = (ci, z)) (ha : 4 ≤ a) (han : a < σ.1) {v : Value} (hv : ∀ ω, xfv ω ci D r a j = xtr ω v) (hd : decode cc pc = .ok (.getfield idx, 3)) (hq : pc + 3 = q)
    (k : xV γ q pl (v :: st) σ D r) : xV γ pc pl (.ref a :: st) σ D r := by
  subst hq
  obtain ⟨p, l, e, R, s, m, args, below, meth, c, Q, ω, n0, z0, n1, z1⟩ := γ
  obtain ⟨hx, hb, hml, hown, hts, hKF, hA, hfr, hlo, hce, hsl, hnm⟩ := hX
  obtain ⟨T, h6, hcl, hj, hws, hty, hnn, hlk, hfin, hcn⟩ := hf
  intro g1 g2 g3 g4 H locs ls hR hS hL
  have h0 := xws_at ω D r ha han
  rw [xent_obj ω hs h6] at h0
  have hk := k g1 g2 g3 g4 H locs ls hR hS hL
  rw [List.map_cons, ← hv ω] at hk
  exact va_get (D := ω.1) (ci := ci) (C := xcn ci) (T := T) (N := xN ci) hx hb hts hws hown hKF.1 hR.2.2 (a - 4) h0 hcl j hj (hts _ hlk) (fun _ h9 => by rw [← hcn] at *; exact h9) (xfs_get ω hj) hd hk
theorem v_getI (hX : xX γ cc nL y d) {idx ci j a z : Nat} {fin : Bool} (hf : xFL y.cls idx ci j fin) (hk : xkd (xty ci j) = 0) (hs : xSH a = (ci, z)) (ha : 4 ≤ a) (han : a < σ.1) (hd : decode cc pc = .ok (.getfield idx, 3)) (hq : pc + 3 = q)
    (k : xV γ q pl (vi (D a j) :: st) σ D r) : xV γ pc pl (.ref a :: st) σ D r := v_getX hX hf hs ha han (v := vi (D a j)) (fun ω => by unfold xfv; rw [hk]; rfl) hd hq k
theorem v_getL (hX : xX γ cc nL y d) {idx ci j a z : Nat} {fin : Bool} (hf : xFL y.cls idx ci j fin) (hk : xkd (xty ci j) = 1) (hs : xSH a = (ci, z)) (ha : 4 ≤ a) (han : a < σ.1) (hd : decode cc pc = .ok (.getfield idx, 3)) (hq : pc + 3 = q)
    (k : xV γ q pl (vl (D a j) :: st) σ D r) : xV γ pc pl (.ref a :: st) σ D r := v_getX hX hf hs ha han (v := vl (D a j)) (fun ω => by unfold xfv; rw [hk]; rfl) hd hq k
theorem v_getR (hX : xX γ cc nL y d) {idx ci j a z : Nat} {fin : Bool} (hf : xFL y.cls idx ci j fin) (hk : xkd (xty ci j) = 2) (hs : xSH a = (ci, z)) (ha : 4 ≤ a) (han : a < σ.1) {b : Nat} (hr : r a j = some b) (hd : decode cc pc = .ok (.getfield idx, 3)) (hq : pc + 3 = q)
    (k : xV γ q pl (.ref b :: st) σ D r) : xV γ pc pl (.ref a :: st) σ D r := v_getX hX hf hs ha han (v := .ref b) (fun ω => by unfold xfv; rw [hk]; show va_rf ((r a j).map (xad ω)) = _; rw [hr]; rfl) hd hq k
theorem v_putX (hX : xX γ cc nL y d) {idx ci j a z : Nat} (hf : xFL y.cls idx ci j false) (hs : xSH a = (ci, z)) (ha : 4 ≤ a) (han : a < σ.1) {v : Value} {D' : xD} {r' : xR} (hv : ∀ ω, xfv ω ci D' r' a j = xtr ω v) (hn : ∀ ω, narrow (xty ci j) (xtr ω v) = xtr ω v) (hfit : ∀ ω, fits (xty ci j) (xtr ω v) = true)
    (hD : ∀ q, q ≠ a → D' q = D q) (hr : ∀ q, q ≠ a → r' q = r q) (hD2 : ∀ i, i ≠ j → D' a i = D a i) (hr2 : ∀ i, i ≠ j → r' a i = r a i) (hd : decode cc pc = .ok (.putfield idx, 3)) (hq : pc + 3 = q)
    (k : xV γ q pl st σ D' r') : xV γ pc pl (v :: .ref a :: st) σ D r := by
  subst hq
  obtain ⟨p, l, e, R, s, m, args, below, meth, c, Q, ω, n0, z0, n1, z1⟩ := γ
  obtain ⟨hx, hb, hml, hown, hts, hKF, hA, hfr, hlo, hce, hsl, hnm⟩ := hX
  obtain ⟨T, h6, hcl, hj, hws, hty, hnn, hlk, hfin, hcn⟩ := hf
  intro g1 g2 g3 g4 H locs ls hR hS hL
  have h0 := xws_at ω D r ha han
  rw [xent_obj ω hs h6] at h0
  have hap := va_apart (own := y.cls) hts hws (xty ci) hty hnn hKF.1 hcl
  obtain ⟨rr, h1, cell, q1, q2, q3, q4⟩ := hR.2.2 _ _ h0
  obtain rfl : rr = (xcn ci, T, xN ci) := Option.some.inj (h1.symm.trans hcl)
  obtain ⟨hSl, hfc, kC, hkC, hkind⟩ := hKF.1.1 ci _ hcl
  obtain ⟨cf, kf, fi, f, hi, hsl2⟩ := hSl j hj
  have hlay := hts _ (hws _ (u_in_lay hj))
  unfold u_lay at hlay
  rw [if_neg (by rw [hfin]; decide)] at hlay
  refine W.putK hx hb (f := f) ⟨hown, hts _ hlk, ⟨_, _, _, hi⟩, (u_facts hfc hkC (u_lays hts hws hj) hi).1⟩ (by rw [q2]; exact u_store hfc hkC hkind hlay hi (hty j hj) (hn ω) (hfit ω)) q1 q3 (by rw [hsl2]; exact k2_hasslot (q4 j hj)) rfl rfl hd fun H' e1 e2 e3 => ?_
  rw [hsl2] at e1 ⊢
  refine k g1 g2 g3 g4 H' _ ls (hR.put ha han e2 e3 ?_ hD hr) (hS.put e2 e3 (xA_ad ω ha)) hL
  rw [xent_obj ω hs h6, ← xfs_set ω (D := D) (r := r) (xtr ω v) hj (hv ω).symm hD2 hr2]
  exact ⟨_, hcl, t_OB.to (V := updV (vp_V ((List.range (xN ci)).map (xfv ω ci D r a))) j (xtr ω v)) ⟨_, e1, q2, q3, t_set q4 hap hj (xtr ω v)⟩ (fun i _ => vp_updV_set (by simpa using hj) (xtr ω v) i)⟩
theorem v_putI (hX : xX γ cc nL y d) {idx ci j a z : Nat} {e : Int} (hf : xFL y.cls idx ci j false) (hk : xkd (xty ci j) = 0) (hn : narrow (xty ci j) (vi e) = vi e) (hfit : fits (xty ci j) (vi e) = true) (hs : xSH a = (ci, z)) (ha : 4 ≤ a) (han : a < σ.1) (hd : decode cc pc = .ok (.putfield idx, 3)) (hq : pc + 3 = q)
    (k : xV γ q pl st σ (xu D a j e) r) : xV γ pc pl (vi e :: .ref a :: st) σ D r :=
  v_putX hX hf hs ha han (v := vi e) (D' := xu D a j e) (r' := r) (fun ω => by unfold xfv; rw [hk]; show vi (xu D a j e a j) = _; rw [xu_at]; rfl) (fun _ => hn) (fun _ => hfit) (fun _ h => xu_row D a j e h) (fun _ _ => rfl) (fun _ h => xu_ne D a j e (Or.inr h)) (fun _ _ => rfl) hd hq k
theorem v_putL (hX : xX γ cc nL y d) {idx ci j a z : Nat} {e : Int} (hf : xFL y.cls idx ci j false) (hk : xty ci j = .long) (hs : xSH a = (ci, z)) (ha : 4 ≤ a) (han : a < σ.1) (hd : decode cc pc = .ok (.putfield idx, 3)) (hq : pc + 3 = q)
    (k : xV γ q pl st σ (xu D a j e) r) : xV γ pc pl (vl e :: .ref a :: st) σ D r :=
  v_putX hX hf hs ha han (v := vl e) (D' := xu D a j e) (r' := r) (fun ω => by unfold xfv; rw [hk]; show vl (xu D a j e a j) = _; rw [xu_at]; rfl) (fun _ => by rw [hk]; rfl) (fun _ => by rw [hk]; rfl) (fun _ h => xu_row D a j e h) (fun _ _ => rfl) (fun _ h => xu_ne D a j e (Or.inr h)) (fun _ _ => rfl) hd hq k
/-- a final field of the object that its constructor makes -/
theorem v_putF (hX : xX γ cc nL y d) {idx ci j a z b : Nat} (hf : xFL y.cls idx ci j true) (hk : xkd (xty ci j) = 2) (hn : ∀ b : Nat, narrow (xty ci j) (.ref b) = .ref b) (hfit : ∀ b : Nat, fits (xty ci j) (.ref b) = true) (hy : y.cls = xcn ci) (hy2 : y.name = "<init>") (hs : xSH a = (ci, z)) (ha : 4 ≤ a) (han : a < σ.1) (hd : decode cc pc = .ok (.putfield idx, 3)) (hq : pc + 3 = q)
    (k : xV γ q pl st σ D (xur r a j (some b))) : xV γ pc pl (.ref b :: .ref a :: st) σ D r := by
  subst hq
  obtain ⟨p, l, e, R, s, m, args, below, meth, c, Q, ω, n0, z0, n1, z1⟩ := γ
  obtain ⟨hx, hb, hml, hown, hts, hKF, hA, hfr, hlo, hce, hsl, hnm⟩ := hX
  obtain ⟨T, h6, hcl, hj, hws, hty, hnn, hlk, hfin, hcn⟩ := hf
  intro g1 g2 g3 g4 H locs ls hR hS hL
  have h0 := xws_at ω D r ha han
  rw [xent_obj ω hs h6] at h0
  have hap := va_apart (own := y.cls) hts hws (xty ci) hty hnn hKF.1 hcl
  obtain ⟨rr, h1, cell, q1, q2, q3, q4⟩ := hR.2.2 _ _ h0
  obtain rfl : rr = (xcn ci, T, xN ci) := Option.some.inj (h1.symm.trans hcl)
  obtain ⟨hSl, hfc, kC, hkC, hkind⟩ := hKF.1.1 ci _ hcl
  obtain ⟨cf, kf, fi, f, hi, hsl2⟩ := hSl j hj
  have hlay := hts _ (hws _ (u_in_lay hj))
  unfold u_lay at hlay
  rw [if_pos hfin] at hlay
  have hcf : m.cls = cf := by
    obtain ⟨_, _, c', _, _, _, -, -, hf', -, -, -, hown2, -⟩ := Cond.laysFinal_spec hlay
    have e1 : c' = cf := by have := hi.symm.trans hf'; simp at this; exact this.1.symm
    rw [hcn, ← hy] at hown2
    rw [← e1]; exact Option.some.inj (hown.symm.trans hown2)
  refine W.putFinK hx hb hown (hts _ hlk) hi (u_facts hfc hkC (u_lays hts hws hj) hi).1 hcf (hnm.trans hy2) (by rw [q2]; exact u_fits hfc hkC hkind (Or.inr hlay) hi (hty j hj) (hn (xad ω b)) (hfit (xad ω b))) q1 q3 (by rw [hsl2]; exact k2_hasslot (q4 j hj)) rfl rfl hd fun H' e1 e2 e3 => ?_
  rw [hsl2] at e1 ⊢
  refine k g1 g2 g3 g4 H' _ ls (hR.put ha han e2 e3 ?_ (fun _ _ => rfl) (fun _ h => xur_row r a j _ h)) (hS.put e2 e3 (xA_ad ω ha)) hL
  rw [xent_obj ω hs h6, ← xfs_set ω (D := D) (r := r) (.ref (xad ω b)) hj (by unfold xfv; rw [hk, xur_at]; rfl) (fun _ _ => rfl) (fun _ h => xur_ne r a j _ (Or.inr h))]
  exact ⟨_, hcl, t_OB.to (V := updV (vp_V ((List.range (xN ci)).map (xfv ω ci D r a))) j (.ref (xad ω b))) ⟨_, e1, q2, q3, t_set q4 hap hj (.ref (xad ω b))⟩ (fun i _ => vp_updV_set (by simpa using hj) (.ref (xad ω b)) i)⟩
theorem v_iaload (hX : xX γ cc nL y d) {a kk z : Nat} {i : Int} (hi : i = (kk : Int)) (hk : kk < z) (hz : z ≤ 100000) (hs : xSH a = (10, z)) (ha : 4 ≤ a) (han : a < σ.1) (hd : decode cc pc = .ok (.iaload, 1)) (hq : pc + 1 = q)
    (k : xV γ q pl (vi (D a kk) :: st) σ D r) : xV γ pc pl (vi i :: .ref a :: st) σ D r := by
  subst hq; subst hi
  obtain ⟨p, l, e, R, s, m, args, below, meth, c, Q, ω, n0, z0, n1, z1⟩ := γ
  obtain ⟨hx, hb, hml, hown, hts, hKF, hA, hfr, hlo, hce, hsl, hnm⟩ := hX
  intro g1 g2 g3 g4 H locs ls hR hS hL
  obtain ⟨hin, hto⟩ := xi_in hk hz
  have h0 := xws_at ω D r ha han
  rw [xent_arr ω hs (by decide)] at h0
  have hk2 := k g1 g2 g3 g4 H locs ls hR hS hL
  refine va_iald hx hb hKF.1 hR.2.2 (a - 4) 0 h0 rfl hin hd ?_
  rw [hto]
  exact hk2
theorem v_caload (hX : xX γ cc nL y d) {a kk z : Nat} {i : Int} (hi : i = (kk : Int)) (hk : kk < z) (hz : z ≤ 100000) (hs : xSH a = (12, z)) (ha : 4 ≤ a) (han : a < σ.1) (hd : decode cc pc = .ok (.caload, 1)) (hq : pc + 1 = q)
    (k : xV γ q pl (vi (D a kk) :: st) σ D r) : xV γ pc pl (vi i :: .ref a :: st) σ D r := by
  subst hq; subst hi
  obtain ⟨p, l, e, R, s, m, args, below, meth, c, Q, ω, n0, z0, n1, z1⟩ := γ
  obtain ⟨hx, hb, hml, hown, hts, hKF, hA, hfr, hlo, hce, hsl, hnm⟩ := hX
  intro g1 g2 g3 g4 H locs ls hR hS hL
  obtain ⟨hin, hto⟩ := xi_in hk hz
  have h0 := xws_at ω D r ha han
  rw [xent_arr ω hs (by decide)] at h0
  have hk2 := k g1 g2 g3 g4 H locs ls hR hS hL
  refine va_cald hx hb hKF.1 hR.2.2 (a - 4) 2 h0 rfl hin hd ?_
  rw [hto]
  exact hk2
theorem v_baload (hX : xX γ cc nL y d) {a kk z : Nat} {i : Int} (hi : i = (kk : Int)) (hk : kk < z) (hz : z ≤ 100000) (hs : xSH a = (13, z)) (ha : 4 ≤ a) (han : a < σ.1) (hd : decode cc pc = .ok (.baload, 1)) (hq : pc + 1 = q)
    (k : xV γ q pl (vi (D a kk) :: st) σ D r) : xV γ pc pl (vi i :: .ref a :: st) σ D r := by
  subst hq; subst hi
  obtain ⟨p, l, e, R, s, m, args, below, meth, c, Q, ω, n0, z0, n1, z1⟩ := γ
  obtain ⟨hx, hb, hml, hown, hts, hKF, hA, hfr, hlo, hce, hsl, hnm⟩ := hX
  intro g1 g2 g3 g4 H locs ls hR hS hL
  obtain ⟨hin, hto⟩ := xi_in hk hz
  have h0 := xws_at ω D r ha han
  rw [xent_arr ω hs (by decide)] at h0
  have hk2 := k g1 g2 g3 g4 H locs ls hR hS hL
  refine va_zald hx hb hKF.1 hR.2.2 (a - 4) 3 h0 rfl hin hd ?_
  rw [hto]
  exact hk2
theorem v_aaload (hX : xX γ cc nL y d) {a kk z b c0 : Nat} {i : Int} (hi : i = (kk : Int)) (hk : kk < z) (hz : z ≤ 100000) (hs : xSH a = (c0, z)) (hc0 : c0 = 14 ∨ c0 = 15) (ha : 4 ≤ a) (han : a < σ.1) (hr : r a kk = some b) (hd : decode cc pc = .ok (.aaload, 1)) (hq : pc + 1 = q)
    (k : xV γ q pl (.ref b :: st) σ D r) : xV γ pc pl (vi i :: .ref a :: st) σ D r := by
  subst hq; subst hi
  obtain ⟨p, l, e, R, s, m, args, below, meth, c, Q, ω, n0, z0, n1, z1⟩ := γ
  obtain ⟨hx, hb, hml, hown, hts, hKF, hA, hfr, hlo, hce, hsl, hnm⟩ := hX
  intro g1 g2 g3 g4 H locs ls hR hS hL
  obtain ⟨hin, hto⟩ := xi_in hk hz
  have h0 := xws_at ω D r ha han
  have hk2 := k g1 g2 g3 g4 H locs ls hR hS hL
  rcases hc0 with rfl | rfl
  · rw [xent_arr ω hs (by decide)] at h0
    refine va_aldq hx hb hKF.1 hR.2.2 (a - 4) 4 h0 rfl hin hd ?_
    rw [hto, hr]
    exact hk2
  · rw [xent_arr ω hs (by decide)] at h0
    refine va_aldq hx hb hKF.1 hR.2.2 (a - 4) 5 h0 rfl hin hd ?_
    rw [hto, hr]
    exact hk2
theorem v_iastore (hX : xX γ cc nL y d) {a kk z : Nat} {i v : Int} (hi : i = (kk : Int)) (hk : kk < z) (hz : z ≤ 100000) (hs : xSH a = (10, z)) (ha : 4 ≤ a) (han : a < σ.1) (hd : decode cc pc = .ok (.iastore, 1)) (hq : pc + 1 = q)
    (k : xV γ q pl st σ (xu D a kk v) r) : xV γ pc pl (vi v :: vi i :: .ref a :: st) σ D r := by
  subst hq; subst hi
  obtain ⟨p, l, e, R, s, m, args, below, meth, c, Q, ω, n0, z0, n1, z1⟩ := γ
  obtain ⟨hx, hb, hml, hown, hts, hKF, hA, hfr, hlo, hce, hsl, hnm⟩ := hX
  intro g1 g2 g3 g4 H locs ls hR hS hL
  obtain ⟨hin, hto⟩ := xi_in hk hz
  have h0 := hR.cell ha han hs (by decide)
  refine W.iast hx hb h0 ((hKF.1.2 0 _ rfl).1 z (fun j => .int (Int32.ofInt (D a j)))) (fun h => by cases h) (by show ¬ (_ ∨ (arrV _ _ _).slots.size ≤ _); rw [arrV_size]; exact hin) rfl rfl hd fun H1 e1 e2 e3 => ?_
  refine k g1 g2 g3 g4 H1 _ ls (hR.put ha han e2 e3 ?_ (fun _ h => xu_row D a kk v h) (fun _ _ => rfl)) (hS.put e2 e3 (xA_ad ω ha)) hL
  rw [xent_arr ω hs (by decide)]
  show H1[xad ω a]? = some (arrV (ω.2.1 10) z (fun j => .int (Int32.ofInt (xu D a kk v a j))))
  rw [e1, hto]
  show some ((arrV (ω.2.1 10) z (fun j => .int (Int32.ofInt (D a j)))).setSlot kk _) = _
  rw [arrV_store]
  congr 2
  funext j
  unfold updV xu
  by_cases hj : j = kk
  · simp [hj]
  · simp [hj]
theorem v_castore (hX : xX γ cc nL y d) {a kk z : Nat} {i v : Int} (hi : i = (kk : Int)) (hk : kk < z) (hz : z ≤ 100000) (hn : narrow .char (vi v) = vi v) (hs : xSH a = (12, z)) (ha : 4 ≤ a) (han : a < σ.1) (hd : decode cc pc = .ok (.castore, 1)) (hq : pc + 1 = q)
    (k : xV γ q pl st σ (xu D a kk v) r) : xV γ pc pl (vi v :: vi i :: .ref a :: st) σ D r := by
  subst hq; subst hi
  obtain ⟨p, l, e, R, s, m, args, below, meth, c, Q, ω, n0, z0, n1, z1⟩ := γ
  obtain ⟨hx, hb, hml, hown, hts, hKF, hA, hfr, hlo, hce, hsl, hnm⟩ := hX
  intro g1 g2 g3 g4 H locs ls hR hS hL
  obtain ⟨hin, hto⟩ := xi_in hk hz
  have h0 := hR.cell ha han hs (by decide)
  refine W.cast hx hb h0 ((hKF.1.2 2 _ rfl).1 z (fun j => .int (Int32.ofInt (D a j)))) (fun h => by cases h) (by show ¬ (_ ∨ (arrV _ _ _).slots.size ≤ _); rw [arrV_size]; exact hin) rfl rfl hd fun H1 e1 e2 e3 => ?_
  rw [hn] at e1
  refine k g1 g2 g3 g4 H1 _ ls (hR.put ha han e2 e3 ?_ (fun _ h => xu_row D a kk v h) (fun _ _ => rfl)) (hS.put e2 e3 (xA_ad ω ha)) hL
  rw [xent_arr ω hs (by decide)]
  show H1[xad ω a]? = some (arrV (ω.2.1 12) z (fun j => .int (Int32.ofInt (xu D a kk v a j))))
  rw [e1, hto]
  show some ((arrV (ω.2.1 12) z (fun j => .int (Int32.ofInt (D a j)))).setSlot kk _) = _
  rw [arrV_store]
  congr 2
  funext j
  unfold updV xu
  by_cases hj : j = kk
  · simp [hj]
  · simp [hj]
theorem v_bastore (hX : xX γ cc nL y d) {a kk z : Nat} {i v : Int} (hi : i = (kk : Int)) (hk : kk < z) (hz : z ≤ 100000) (hn : narrow .boolean (vi v) = vi v) (hs : xSH a = (13, z)) (ha : 4 ≤ a) (han : a < σ.1) (hd : decode cc pc = .ok (.bastore, 1)) (hq : pc + 1 = q)
    (k : xV γ q pl st σ (xu D a kk v) r) : xV γ pc pl (vi v :: vi i :: .ref a :: st) σ D r := by
  subst hq; subst hi
  obtain ⟨p, l, e, R, s, m, args, below, meth, c, Q, ω, n0, z0, n1, z1⟩ := γ
  obtain ⟨hx, hb, hml, hown, hts, hKF, hA, hfr, hlo, hce, hsl, hnm⟩ := hX
  intro g1 g2 g3 g4 H locs ls hR hS hL
  obtain ⟨hin, hto⟩ := xi_in hk hz
  have h0 := hR.cell ha han hs (by decide)
  refine W.zast hx hb h0 ((hKF.1.2 3 _ rfl).1 z (fun j => .int (Int32.ofInt (D a j)))) (fun h => by cases h) (by show ¬ (_ ∨ (arrV _ _ _).slots.size ≤ _); rw [arrV_size]; exact hin) rfl rfl hd fun H1 e1 e2 e3 => ?_
  rw [hn] at e1
  refine k g1 g2 g3 g4 H1 _ ls (hR.put ha han e2 e3 ?_ (fun _ h => xu_row D a kk v h) (fun _ _ => rfl)) (hS.put e2 e3 (xA_ad ω ha)) hL
  rw [xent_arr ω hs (by decide)]
  show H1[xad ω a]? = some (arrV (ω.2.1 13) z (fun j => .int (Int32.ofInt (xu D a kk v a j))))
  rw [e1, hto]
  show some ((arrV (ω.2.1 13) z (fun j => .int (Int32.ofInt (D a j)))).setSlot kk _) = _
  rw [arrV_store]
  congr 2
  funext j
  unfold updV xu
  by_cases hj : j = kk
  · simp [hj]
  · simp [hj]
end XH

