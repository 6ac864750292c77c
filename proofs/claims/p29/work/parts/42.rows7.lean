/-! ===== rows: references are put into arrays, chars into fields, calls that move references ===== -/
abbrev xRs (w : Value) (Q : xD → xR → Prop) : Option Value → xD → xR → Prop := fun v D' r' => v = some w ∧ Q D' r'
abbrev xRn (Q : xD → xR → Prop) : Option Value → xD → xR → Prop := fun v D' r' => v = none ∧ Q D' r'
theorem fit_c0 : ∀ k, k < 256 → fits .char (vi ((k : Nat) : Int)) = true := by decide +kernel
theorem fit_c {e : Int} (h0 : 0 ≤ e) (h : e < 256) : fits .char (vi e) = true := by
  obtain ⟨k, rfl⟩ := Int.eq_ofNat_of_zero_le h0
  exact fit_c0 k (by omega)
section R7
variable {γ : xC} {cc : ByteArray} {nL d : Nat} {y : MethodName} {pc q : Nat} {pl : List (Option Value)} {st : List Value} {σ : Nat × Nat} {D : xD} {r : xR}
theorem v_aastore (hX : xX γ cc nL y d) {a b kk len zb c0 ci t0 : Nat} {C : String} {i : Int} (hc0 : (c0, ci, C, t0) = (14, 3, RX3, 4) ∨ (c0, ci, C, t0) = (15, 2, RX2, 5)) (hi : i = (kk : Int)) (hk : kk < len) (hz : len ≤ 100000) (hs : xSH a = (c0, len)) (ha : 4 ≤ a) (han : a < σ.1) (hsb : xSH b = (ci, zb)) (hb4 : 4 ≤ b) (hbn : b < σ.1) (hd : decode cc pc = .ok (.aastore, 1)) (hq : pc + 1 = q)
    (k : xV γ q pl st σ D (xur r a kk (some b))) : xV γ pc pl (.ref b :: vi i :: .ref a :: st) σ D r := by
  subst hq; subst hi
  obtain ⟨p, l, e, R, s, m, args, below, meth, c, Q, ω, n0, z0, n1, z1⟩ := γ
  obtain ⟨hx, hb, hml, hown, hts, hKF, hA, hfr, hlo, hce, hsl, hnm⟩ := hX
  intro g1 g2 g3 g4 H locs ls hR hS hL
  obtain ⟨hin, hto⟩ := xi_in hk hz
  have h6 : ¬ c0 < 5 := by rcases hc0 with h | h <;> (injection h with h1 h2; omega)
  have h7 : ci < 5 := by rcases hc0 with h | h <;> (injection h with h1 h2; injection h2 with h2 h3; omega)
  have hcell := hR.cell ha han hs h6
  have hv := xws_at ω D r hb4 hbn
  rw [xent_obj ω hsb h7] at hv
  obtain ⟨r', hr', cellV, f1, f2, f3, -⟩ := hR.2.2 _ _ hv
  obtain ⟨T0, hcl⟩ := xcl_at ci h7
  have hcls := (hKF.1.1 ci _ hcl).2
  have hx0 : xcn ci = C := by rcases hc0 with h | h <;> (injection h with h1 h2; injection h2 with h2 h3; injection h3 with h3 h4; subst h2; subst h3; rfl)
  obtain ⟨kC, hkC, -⟩ := hcls.2
  have ht : ∃ kA : Class, s.vm.classes[ω.2.1 c0]? = some kA ∧ kA.kind = .array (ω.1.1 ci) (.object C) := by
    rcases hc0 with h | h <;> (injection h with h1 h2; injection h2 with h2 h3; injection h3 with h3 h4; subst h1; subst h2; subst h3)
    · obtain ⟨kA, comp, k1, k2, k3, -⟩ := (hKF.1.2 4 _ rfl).2
      have : comp = ω.1.1 3 := Option.some.inj (k3.symm.trans hcls.1)
      subst this
      exact ⟨kA, k1, k2⟩
    · obtain ⟨kA, comp, k1, k2, k3, -⟩ := (hKF.1.2 5 _ rfl).2
      have : comp = ω.1.1 2 := Option.some.inj (k3.symm.trans hcls.1)
      subst this
      exact ⟨kA, k1, k2⟩
  obtain ⟨kA, k1, k2⟩ := ht
  have hxa : xarr ω c0 D r a = .inr (.inr (.inr (.inr fun j => (r a j).map (xad ω)))) := by
    rcases hc0 with h | h <;> (injection h with h1 h2; subst h1; rfl)
  have hxa' : xarr ω c0 D (xur r a kk (some b)) a = .inr (.inr (.inr (.inr fun j => (xur r a kk (some b) a j).map (xad ω)))) := by
    rcases hc0 with h | h <;> (injection h with h1 h2; subst h1; rfl)
  rw [hxa] at hcell
  have hlt : (Int32.ofInt (kk : Int)).toNatClampNeg < len := by rw [hto]; exact hk
  refine W.aast hx hb hcell (fun q h => by cases h) (fun h => by cases h) k1 k2 rfl hkC ⟨fun h => hin (Or.inl h), by show _ < (arrV _ _ _).slots.size; rw [arrV_size]; exact hlt⟩ f1 (fun q h => by rw [f3] at h; cases h) (by rw [f2]; exact hkC) (by rw [f2]; exact va_assign hcls) rfl rfl hd fun H1 e1 e2 e3 => ?_
  refine k g1 g2 g3 g4 H1 _ ls (hR.put ha han e2 e3 ?_ (fun _ _ => rfl) (fun _ h => xur_row r a kk _ h)) (hS.put e2 e3 (xA_ad ω ha)) hL
  rw [xent_arr ω hs h6, hxa']
  show H1[xad ω a]? = some (vp_cell _ _)
  rw [e1]
  rw [vp_cell_q, vp_cell_q, arrV_store, hto]
  congr 2
  funext j
  unfold xur
  by_cases hj : j = kk
  · subst hj; simp [updV, va_rf]
  · simp [updV, hj]
theorem w_ast {n z : Nat} (hX : xX γ cc nL y d) {a b kk len c0 ci t0 : Nat} {C : String} {i : Int} (hc0 : (c0, ci, C, t0) = (14, 3, RX3, 4) ∨ (c0, ci, C, t0) = (15, 2, RX2, 5)) (hi : i = (kk : Int)) (hk : kk < len) (hA : xAr n a c0 len) (hO : xOb n b ci) (hd : decode cc pc = .ok (.aastore, 1)) (hq : pc + 1 = q)
    (k : xV γ q pl st (n, z) D (xur r a kk (some b))) : xV γ pc pl (.ref b :: vi i :: .ref a :: st) (n, z) D r := v_aastore hX hc0 hi hk hA.2.2.2 hA.1 hA.2.1 hA.2.2.1 hO.1 hO.2.1 hO.2.2 hd hq k
theorem w_putC {n z : Nat} (hX : xX γ cc nL y d) {idx ci j a : Nat} {e : Int} (hf : xFL y.cls idx ci j false) (hk : xty ci j = .char) (he : 0 ≤ e ∧ e < 256) (hO : xOb n a ci) (hd : decode cc pc = .ok (.putfield idx, 3)) (hq : pc + 3 = q) (k : xV γ q pl st (n, z) (xu D a j e) r) : xV γ pc pl (vi e :: .ref a :: st) (n, z) D r := v_putI hX hf (by rw [hk]; rfl) (by rw [hk]; exact nar_c he.1 he.2) (by rw [hk]; exact fit_c he.1 he.2) hO.1 hO.2.1 hO.2.2 hd hq k
theorem w_callVr {n z : Nat} {rest As : List Value} {μ : xM} {d' m idx a : Nat} (hX : xX γ cc nL y d) {w : Value} {Q : xD → xR → Prop} (hM : MX d' μ (.ref a :: As) (n, z) D r (n, z) (xRs w Q)) (hst : st = As.reverse ++ .ref a :: rest) (hμ : xMV μ m) (hn : As.length = m) (hdd : d' + 1 ≤ d) (hlk : Cond.methodLink y.cls idx μ.1 ∈ xtb) {ci : Nat} (hci : ci < 5) (hcn : xcn ci = μ.1.cls) (hO : xOb n a ci)
    (hrest : (rest.map Value.category).sum ≤ 8) (hd : decode cc pc = .ok (.invokevirtual idx, 3)) (hq : pc + 3 = q) (k : ∀ D' r', Q D' r' → xV γ q pl (w :: rest) (n, z) D' r') : xV γ pc pl st (n, z) D r :=
  v_callV hX hM hst hμ hn hdd hlk hci hcn hO.1 hO.2.1 hO.2.2 hrest hd hq (fun v D' r' h => by obtain ⟨rfl, hQ⟩ := h; exact k D' r' hQ)
theorem w_callVq {n z : Nat} {rest As : List Value} {μ : xM} {d' m idx a : Nat} (hX : xX γ cc nL y d) {Q : xD → xR → Prop} (hM : MX d' μ (.ref a :: As) (n, z) D r (n, z) (xRn Q)) (hst : st = As.reverse ++ .ref a :: rest) (hμ : xMV μ m) (hn : As.length = m) (hdd : d' + 1 ≤ d) (hlk : Cond.methodLink y.cls idx μ.1 ∈ xtb) {ci : Nat} (hci : ci < 5) (hcn : xcn ci = μ.1.cls) (hO : xOb n a ci)
    (hrest : (rest.map Value.category).sum ≤ 8) (hd : decode cc pc = .ok (.invokevirtual idx, 3)) (hq : pc + 3 = q) (k : ∀ D' r', Q D' r' → xV γ q pl rest (n, z) D' r') : xV γ pc pl st (n, z) D r :=
  v_callV hX hM hst hμ hn hdd hlk hci hcn hO.1 hO.2.1 hO.2.2 hrest hd hq (fun v D' r' h => by obtain ⟨rfl, hQ⟩ := h; exact k D' r' hQ)
end R7

